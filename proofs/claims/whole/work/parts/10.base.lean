/-! what the cells refer to, once all is made -/
def mm_Rs (a j : Nat) : Option Nat := match (mm_sh a).1 with
  | 0 => if j = 0 then some (a + 1) else some (a + 2)
  | 1 => some (a + 1)
  | 3 => some (a + 1)
  | 4 => some (a + 1)
  | 5 => some (a + 1)
  | 6 => some (a + 1)
  | 7 => some (if j < 3 then a + 1 + 2 * j else a + 4 + j)
  | 8 => [some 2, some 18, some 29, some 31, some 33, some 35, some 36, some 38, some 40].getD j none
  | 9 => some (a + (j - 1))
  | 10 => [some 2, some 18, some 1, some 41, some 299, some 302, some 303].getD j none
  | 11 => [some 339, none, none, none, some 340, some 341, some 342, none, some 343, some 344, some 345, some 346, some 347].getD j none
  | 101 => some (a + 1 + 2 * j)
  | 102 => some (a + 1 + 16 * j)
  | 103 => some (a + 1 + 17 * j)
  | _ => none
abbrev mm_R0 : (Nat → Nat → Option Nat) × Nat := (mm_Rs, 348)
theorem mm_tbin (t : Nat) : ∀ j, mm_in (mm_tb t j) := by
  intro j
  have h : ∀ z ∈ mm_tl t, mm_in z := by
    intro z hz
    unfold mm_tl at hz
    split at hz <;> simp at hz <;> constructor <;> omega
  unfold mm_tb
  rw [List.getD_eq_getElem?_getD]
  cases h1 : (mm_tl t)[j]? with
  | none => exact mm_in0
  | some z => exact h z (List.mem_of_getElem? h1)
theorem sh_lt {a kd : Nat} (h : (mm_sh a).1 = kd) (hk : kd < 900) : a < 348 := by
  by_cases q : a < 348
  · exact q
  · unfold mm_sh at h
    rw [List.getD_eq_getElem?_getD, List.getElem?_eq_none (by rw [mm_shlen]; omega)] at h
    simp at h
    omega
/-- a Classes object and its row -/
theorem sh_cl : ∀ a, a < 348 → (mm_sh a).1 = 1 → (mm_sh (a + 1)).1 = 100 ∧ a + 1 < 348 := by decide +kernel
theorem sh_sheet : ∀ a, a < 348 → (mm_sh a).1 = 6 → mm_sh (a + 1) = (100, 21) ∧ a + 1 < 348 := by decide +kernel
theorem sh_world : ∀ a, a < 348 → (mm_sh a).1 = 9 → a + 15 < 348 ∧ mm_sh (a + 1) = (100, 12) ∧ mm_sh (a + 2) = (100, 12) ∧ mm_sh (a + 3) = (101, 6) ∧ ∀ s, s < 6 → mm_sh (a + 4 + 2 * s) = (6, 1) ∧ mm_sh (a + 5 + 2 * s) = (100, 21) := by decide +kernel
theorem Rs_cl {a j : Nat} (h : (mm_sh a).1 = 1) : mm_Rs a j = some (a + 1) := by unfold mm_Rs; rw [h]; rfl
theorem Rs_sheet {a j : Nat} (h : (mm_sh a).1 = 6) : mm_Rs a j = some (a + 1) := by unfold mm_Rs; rw [h]; rfl
theorem Rs_world {a j : Nat} (h : (mm_sh a).1 = 9) : mm_Rs a j = some (a + (j - 1)) := by unfold mm_Rs; rw [h]; rfl
theorem Rs_sheets {a j : Nat} (h : (mm_sh a).1 = 101) : mm_Rs a j = some (a + 1 + 2 * j) := by unfold mm_Rs; rw [h]; rfl
/-! forests: each thing points to itself or to a smaller one -/
def rt (f : Nat → Nat) (i : Nat) : Nat := if h : f i < i then rt f (f i) else i
termination_by i
theorem rt_step {f : Nat → Nat} {i : Nat} (h : f i < i) : rt f i = rt f (f i) := by rw [rt, dif_pos h]
theorem rt_top {f : Nat → Nat} {i : Nat} (h : ¬ f i < i) : rt f i = i := by rw [rt, dif_neg h]
theorem rt_le (f : Nat → Nat) (i : Nat) : rt f i ≤ i := by
  induction i using Nat.strongRecOn with
  | ind i ih =>
    by_cases h : f i < i
    · rw [rt_step h]; exact Nat.le_trans (ih _ h) (Nat.le_of_lt h)
    · rw [rt_top h]; exact Nat.le_refl _
theorem rt_root (f : Nat → Nat) (i : Nat) : ¬ f (rt f i) < rt f i := by
  induction i using Nat.strongRecOn with
  | ind i ih =>
    by_cases h : f i < i
    · rw [rt_step h]; exact ih _ h
    · rw [rt_top h]; exact h
theorem rt_rt (f : Nat → Nat) (i : Nat) : rt f (rt f i) = rt f i := rt_top (rt_root f i)
theorem rt_up {f : Nat → Nat} {i : Nat} (h : f i ≤ i) : rt f (f i) = rt f i := by
  by_cases h1 : f i < i
  · rw [rt_step h1]
  · rw [show f i = i by omega]
/-- pointing a thing to another one of its class, below it, changes no root -/
theorem rt_half {f g : Nat → Nat} {a : Nat} (hg : ∀ x, x ≠ a → g x = f x) (h1 : f a < a) (h2 : g a < a) (h3 : rt f (g a) = rt f a) (x : Nat) : rt g x = rt f x := by
  induction x using Nat.strongRecOn with
  | ind x ih =>
    by_cases e : x = a
    · subst e
      rw [rt_step h2, ih _ h2, h3]
    · by_cases h : f x < x
      · rw [rt_step h, rt_step (f := g) (by rw [hg x e]; exact h), hg x e, ih _ h]
      · rw [rt_top h, rt_top (f := g) (by rw [hg x e]; exact h)]
theorem rt_self {f g : Nat → Nat} {a : Nat} (hg : ∀ x, x ≠ a → g x = f x) (h1 : ¬ f a < a) (h2 : ¬ g a < a) (x : Nat) : rt g x = rt f x := by
  induction x using Nat.strongRecOn with
  | ind x ih =>
    by_cases e : x = a
    · subst e
      rw [rt_top h1, rt_top h2]
    · by_cases h : f x < x
      · rw [rt_step h, rt_step (f := g) (by rw [hg x e]; exact h), hg x e, ih _ h]
      · rw [rt_top h, rt_top (f := g) (by rw [hg x e]; exact h)]
def mg (L : Nat → Nat) (p q : Nat) : Nat → Nat := fun k => if L k = max (L p) (L q) then min (L p) (L q) else L k
/-- pointing a root to another, smaller one: their classes become one -/
theorem rt_link {f g : Nat → Nat} {a b : Nat} (hg : ∀ x, x ≠ b → g x = f x) (hab : a < b) (hb : g b = a) (ha : ¬ f a < a) (hbr : ¬ f b < b) (x : Nat) : rt g x = if rt f x = b then a else rt f x := by
  induction x using Nat.strongRecOn with
  | ind x ih =>
    by_cases e : x = b
    · subst e
      rw [rt_top hbr, if_pos rfl, rt_step (f := g) (by rw [hb]; exact hab), hb, rt_top (f := g) (by rw [hg a (by omega)]; exact ha)]
    · by_cases h : f x < x
      · rw [rt_step h, rt_step (f := g) (by rw [hg x e]; exact h), hg x e, ih _ h]
      · rw [rt_top h, rt_top (f := g) (by rw [hg x e]; exact h), if_neg e]
def fi (I : Nat → Nat → Int) (u : Nat) : Nat → Nat := fun j => (I u j).toNat
def ufi (I : Nat → Nat → Int) (u n : Nat) : Prop := ∀ i, i < n → 0 ≤ I u i ∧ I u i ≤ i
/-! sums and counts -/
def sm (f : Nat → Int) : Nat → Int
  | 0 => 0
  | k + 1 => sm f k + f k
theorem sm_congr {f g : Nat → Int} {n : Nat} (h : ∀ k, k < n → f k = g k) : sm f n = sm g n := by
  induction n with
  | zero => rfl
  | succ n ih => unfold sm; rw [ih (fun k hk => h k (by omega)), h n (by omega)]
theorem sm_bound {f : Nat → Int} {n : Nat} {c : Int} (h : ∀ k, k < n → 0 ≤ f k ∧ f k ≤ c) : 0 ≤ sm f n ∧ sm f n ≤ c * n := by
  induction n with
  | zero => simp [sm]
  | succ n ih =>
    have h1 := ih (fun k hk => h k (by omega))
    have h2 := h n (by omega)
    have h3 : c * ((n + 1 : Nat) : Int) = c * n + c := by rw [Int.natCast_add, Int.mul_add]; simp
    unfold sm
    rw [h3]
    omega
def b01 (p : Prop) [Decidable p] : Int := if p then 1 else 0
/-- how many things below n are their own labels -/
def nr (L : Nat → Nat) (n : Nat) : Int := sm (fun k => if L k = k then 1 else 0) n
theorem nr_b (L : Nat → Nat) (n : Nat) : 0 ≤ nr L n ∧ nr L n ≤ n := by
  have := sm_bound (f := fun k => if L k = k then (1 : Int) else 0) (n := n) (c := 1) (fun k _ => by split <;> omega)
  unfold nr
  omega
