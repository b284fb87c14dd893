/-! A small machine over the large one: cells by number (0 .. 347, made in this order by the two constructors), ints as Int in range, references as cell numbers. -/
/-- the tables' words that stay good through calls -/
def lw_gd : List Cond := lw_tbl.filter goodWord
theorem mm_gd {w : Cond} (h : w ∈ lw_tbl) (hg : goodWord w = true) : w ∈ lw_gd := List.mem_filter.mpr ⟨h, hg⟩
abbrev mm_V : Type := Int ⊕ Option Nat
abbrev mm_S : Type := (Nat → Nat → Int) × (Nat → Nat → Option Nat) × Nat
abbrev mm_K : Type := List mm_V → List mm_V → mm_S → Prop
abbrev mm_T : Type := List mm_V → mm_S → (Option mm_V → mm_S → Prop) → Prop
abbrev mm_G : Type := Nat × va_G × (Nat → ClassId) × (Nat → Nat)
def mm_in (z : Int) : Prop := -2147483648 ≤ z ∧ z < 2147483648
def mm_iv (v : mm_V) : Prop := match v with
  | .inl z => mm_in z
  | .inr _ => True
/-- what stands at a cell: an object of class kd < 100 (its number in vwCl) with n fields; 100 an int array; 101 Sheet[], 102 World[], 103 Image[] -/
def mm_shW : List (Nat × Nat) := [(9, 5), (100, 12), (100, 12), (101, 6), (6, 1), (100, 21), (6, 1), (100, 21), (6, 1), (100, 21), (6, 1), (100, 21), (6, 1), (100, 21), (6, 1), (100, 21)]
def mm_shA : List (Nat × Nat) := [(7, 9), (1, 2), (100, 12), (1, 2), (100, 18), (1, 2), (100, 48), (100, 12), (100, 18), (100, 18), (100, 18), (4, 2), (100, 72), (1, 2), (100, 420), (1, 2), (100, 840), (100, 21), (6, 1), (100, 21), (6, 1), (100, 21), (100, 21)]
def mm_shM : List (Nat × Nat) := [(11, 13), (100, 2909), (100, 2), (100, 20), (100, 20), (100, 12), (100, 18), (100, 36), (100, 420), (100, 840)]
def mm_shL : List (Nat × Nat) := [(10, 7), (8, 12)] ++ (mm_shW ++ (mm_shA ++ ([(5, 3), (102, 16)] ++ ((List.replicate 16 mm_shW).flatten ++ ([(0, 3), (100, 20), (100, 20), (2, 1), (103, 2), (3, 3)] ++ (mm_shW ++ ([(3, 3)] ++ (mm_shW ++ mm_shM))))))))
def mm_sh (a : Nat) : Nat × Nat := mm_shL.getD a (999, 0)
def mm_ss : Nat → Nat
  | 0 => 0
  | k + 1 => mm_ss k + (mm_sh k).2
/-- which fields hold references -/
def mm_rf (ci j : Nat) : Bool := match ci with
  | 0 => decide (j < 2)
  | 1 => decide (j = 0)
  | 2 => false
  | 3 => decide (j = 0)
  | 4 => decide (j = 0)
  | 5 => decide (j = 0)
  | 6 => decide (j = 0)
  | 7 => decide (j < 7)
  | 8 => decide (j < 9)
  | 9 => decide (2 ≤ j)
  | 10 => true
  | _ => decide (j = 0) || (decide (4 ≤ j) && !decide (j = 7))
def mm_ad (G : mm_G) (a : Nat) : Nat := if a < 1000000 then G.1 + a else G.2.2.2 (a - 1000000)
def mm_v (G : mm_G) (v : mm_V) : Value := match v with
  | .inl z => .int (Int32.ofInt z)
  | .inr none => .null
  | .inr (some a) => .ref (mm_ad G a)
def mm_fv (G : mm_G) (ci j : Nat) (σ : mm_S) (a : Nat) : Value := if mm_rf ci j = true then mm_v G (.inr (σ.2.1 a j)) else .int (Int32.ofInt (σ.1 a j))
def mm_E (G : mm_G) (σ : mm_S) (a : Nat) : va_E :=
  if (mm_sh a).1 < 100 then .inr ((mm_sh a).1, (List.range (mm_sh a).2).map (fun j => mm_fv G (mm_sh a).1 j σ a))
  else if (mm_sh a).1 = 100 then .inl (G.2.2.1 100, (mm_sh a).2, .inl (fun j => Int32.ofInt (σ.1 a j)))
  else .inl (G.2.2.1 (mm_sh a).1, (mm_sh a).2, .inr (.inr (.inr (.inr (fun j => (σ.2.1 a j).map (mm_ad G))))))
def mm_A (G : mm_G) : Nat → Prop := fun q => G.1 ≤ q
def mm_tys (G : mm_G) : List (ClassId × FieldType) := [(G.2.2.1 100, .int), (G.2.2.1 101, .object RX7), (G.2.2.1 102, .object RX10), (G.2.2.1 103, .object RX3)]
/-- the static tables: WAYS, BACK, LOW, HIGH, EDGE -/
def mm_tn (t : Nat) : String := match t with
  | 0 => "WAYS"
  | 1 => "BACK"
  | 2 => "LOW"
  | 3 => "HIGH"
  | _ => "EDGE"
def mm_tl (t : Nat) : List Int := match t with
  | 0 => [0, 1, 2, 0, 2, 1, 1, 0, 2, 1, 2, 0, 2, 0, 1, 2, 1, 0]
  | 1 => [0, 1, 2, 4, 3, 5]
  | 2 => [0, 0, 0, 1, 1, 2]
  | 3 => [1, 2, 3, 2, 3, 3]
  | _ => [-1, 0, 1, 2, 0, -1, 3, 4, 1, 3, -1, 5, 2, 4, 5, -1]
def mm_tb (t j : Nat) : Int := (mm_tl t).getD j 0
def mm_Z (G : mm_G) (U : State) : Prop := ∀ t, t < 5 → va_Z RX6 (mm_tn t) "[I" (.ref (G.2.2.2 t)) (mm_A G) U U.heap ∧ va_T .int (G.2.2.2 t) (mm_tl t).length (fun j => .int (Int32.ofInt (mm_tb t j))) (mm_A G) U U.heap
def mm_P (G : mm_G) (σ : mm_S) (H : Heap) : Prop := (∀ a, a < σ.2.2 → va_at G.2.1 vwCl (G.1 + a, mm_E G σ a) H) ∧ (∀ a j, mm_in (σ.1 a j)) ∧ (σ.2.2 = 348 ∨ H.size = G.1 + σ.2.2) ∧ σ.2.2 ≤ 348
def mm_W (G : mm_G) (σ : mm_S) (U : State) : Prop := mm_P G σ U.heap ∧ va_K G.2.1 vwCl (mm_tys G) U ∧ mm_Z G U
def mm_L (G : mm_G) (lsM : Array Slot) (ls : List mm_V) : Prop := lsM.size = ls.length ∧ lv_wf lsM ∧ ∀ (i : Nat) (v : mm_V), ls[i]? = some v → v ≠ .inr none → lsM[i]? = some (.val (mm_v G v))
def mm_imp (K K' : mm_K) : Prop := ∀ ls st σ, K ls st σ → K' ls st σ
def mm_C (p : Program) (G : mm_G) (s : State) (m : MethodId) (args : Array Value) (meth : Method) (c : Code) (cc : ByteArray) (own : String) : Prop :=
  p.tables.exec = Jvm.exec ∧ c.code = cc ∧ s.vm.findClass own = some m.cls ∧ (∀ w ∈ lw_gd, w.before args s = true) ∧ va_K G.2.1 vwCl (mm_tys G) s ∧ mm_Z G s ∧ meth.locks = false ∧ G.1 ≤ s.heap.size
def mm_PP (G : mm_G) (k0 : Nat) (R : Room) (σ : mm_S) (H : Heap) : Prop := mm_P G σ H ∧ k0 ≤ σ.2.2 ∧ σ.2.2 ≤ k0 + R.cells ∧ mm_ss σ.2.2 ≤ mm_ss k0 + R.slots
def mm_O (p : Program) (l : Launch) (e : Env) (R : Room) (s : State) (m : MethodId) (args : Array Value) (below : List Frame) (meth : Method) (c : Code) (G : mm_G) (k0 : Nat) (Q : State → Prop) (pc : Nat) : mm_K := fun ls st σ =>
  (∀ v ∈ ls, mm_iv v) → (∀ v ∈ st, mm_iv v) → ∀ (lsM : Array Slot) (H : Heap) (locs : List Loc), mm_L G lsM ls → c.maxLocals = ls.length → mm_PP G k0 R σ H → va_S (mm_A G) s.heap H locs →
    W p l e R s m args below meth c H locs (σ.2.2 - k0) (mm_ss σ.2.2 - mm_ss k0) Q (F0 m pc lsM (st.map (mm_v G)))
/-! the instructions as transformers -/
def mm_set (I : Nat → Nat → Int) (a j : Nat) (z : Int) : Nat → Nat → Int := fun b i => if b = a ∧ i = j then z else I b i
def mm_setR (I : Nat → Nat → Option Nat) (a j : Nat) (z : Option Nat) : Nat → Nat → Option Nat := fun b i => if b = a ∧ i = j then z else I b i
def i_ld (i : Nat) (K : mm_K) : mm_K := fun ls st σ => match ls[i]? with
  | some (.inl z) => K ls (.inl z :: st) σ
  | _ => False
def i_la (i : Nat) (K : mm_K) : mm_K := fun ls st σ => match ls[i]? with
  | some (.inr (some a)) => K ls (.inr (some a) :: st) σ
  | _ => False
def i_st (i : Nat) (K : mm_K) : mm_K := fun ls st σ => match st with
  | .inl z :: r => i < ls.length ∧ K (ls.set i (.inl z)) r σ
  | _ => False
def i_sa (i : Nat) (K : mm_K) : mm_K := fun ls st σ => match st with
  | .inr (some a) :: r => i < ls.length ∧ K (ls.set i (.inr (some a))) r σ
  | _ => False
def i_c (z : Int) (K : mm_K) : mm_K := fun ls st σ => K ls (.inl z :: st) σ
def i_inc (i : Nat) (d : Int) (K : mm_K) : mm_K := fun ls st σ => match ls[i]? with
  | some (.inl z) => mm_in (z + d) ∧ K (ls.set i (.inl (z + d))) st σ
  | _ => False
def i_add (K : mm_K) : mm_K := fun ls st σ => match st with
  | .inl y :: .inl x :: r => mm_in (x + y) ∧ K ls (.inl (x + y) :: r) σ
  | _ => False
def i_sub (K : mm_K) : mm_K := fun ls st σ => match st with
  | .inl y :: .inl x :: r => mm_in (x - y) ∧ K ls (.inl (x - y) :: r) σ
  | _ => False
def i_mul (K : mm_K) : mm_K := fun ls st σ => match st with
  | .inl y :: .inl x :: r => mm_in (x * y) ∧ K ls (.inl (x * y) :: r) σ
  | _ => False
def i_div (K : mm_K) : mm_K := fun ls st σ => match st with
  | .inl y :: .inl x :: r => (0 ≤ x ∧ 0 < y) ∧ K ls (.inl (x / y) :: r) σ
  | _ => False
def i_rem (K : mm_K) : mm_K := fun ls st σ => match st with
  | .inl y :: .inl x :: r => (0 ≤ x ∧ 0 < y) ∧ K ls (.inl (x % y) :: r) σ
  | _ => False
def i_remT (K : mm_K) : mm_K := fun ls st σ => match st with
  | .inl y :: .inl x :: r => 0 < y ∧ K ls (.inl (x.tmod y) :: r) σ
  | _ => False
def i_xor (K : mm_K) : mm_K := fun ls st σ => match st with
  | .inl y :: .inl x :: r => (0 ≤ x ∧ 0 ≤ y) ∧ K ls (.inl ((x.toNat ^^^ y.toNat : Nat) : Int) :: r) σ
  | _ => False
def i_dup (K : mm_K) : mm_K := fun ls st σ => match st with
  | v :: r => K ls (v :: v :: r) σ
  | _ => False
def i_dup2 (K : mm_K) : mm_K := fun ls st σ => match st with
  | v :: w :: r => K ls (v :: w :: v :: w :: r) σ
  | _ => False
def i_if (P : Int → Prop) (T K : mm_K) : mm_K := fun ls st σ => match st with
  | .inl x :: r => (P x → T ls r σ) ∧ (¬ P x → K ls r σ)
  | _ => False
def i_if2 (P : Int → Int → Prop) (T K : mm_K) : mm_K := fun ls st σ => match st with
  | .inl y :: .inl x :: r => (P x y → T ls r σ) ∧ (¬ P x y → K ls r σ)
  | _ => False
def i_sw (Ok : Nat → mm_K) (d : Nat) : List (Int × Nat) → mm_K
  | [] => fun ls st σ => match st with
    | .inl _ :: r => Ok d ls r σ
    | _ => False
  | (z, t) :: cs => fun ls st σ => match st with
    | .inl x :: r => (x = z → Ok t ls r σ) ∧ (¬ x = z → i_sw Ok d cs ls (.inl x :: r) σ)
    | _ => False
def i_gi (ci j : Nat) (K : mm_K) : mm_K := fun ls st σ => match st with
  | .inr (some a) :: r => (a < σ.2.2 ∧ (mm_sh a).1 = ci) ∧ (mm_in (σ.1 a j) → K ls (.inl (σ.1 a j) :: r) σ)
  | _ => False
def i_gr (ci j : Nat) (K : mm_K) : mm_K := fun ls st σ => match st with
  | .inr (some a) :: r => (a < σ.2.2 ∧ (mm_sh a).1 = ci) ∧ ∃ b, σ.2.1 a j = some b ∧ K ls (.inr (some b) :: r) σ
  | _ => False
def i_pi (ci j : Nat) (K : mm_K) : mm_K := fun ls st σ => match st with
  | .inl z :: .inr (some a) :: r => (a < σ.2.2 ∧ (mm_sh a).1 = ci) ∧ K ls r (mm_set σ.1 a j z, σ.2)
  | _ => False
def i_pz (ci j : Nat) (K : mm_K) : mm_K := fun ls st σ => match st with
  | .inl z :: .inr (some a) :: r => (a < σ.2.2 ∧ (mm_sh a).1 = ci ∧ (z = 0 ∨ z = 1)) ∧ K ls r (mm_set σ.1 a j z, σ.2)
  | _ => False
def i_pr (ci j : Nat) (K : mm_K) : mm_K := fun ls st σ => match st with
  | .inr (some b) :: .inr (some a) :: r => (a < σ.2.2 ∧ (mm_sh a).1 = ci) ∧ K ls r (σ.1, mm_setR σ.2.1 a j (some b), σ.2.2)
  | _ => False
def i_ial (K : mm_K) : mm_K := fun ls st σ => match st with
  | .inl i :: .inr (some a) :: r => (a < σ.2.2 ∧ (mm_sh a).1 = 100 ∧ 0 ≤ i ∧ i < (mm_sh a).2) ∧ (mm_in (σ.1 a i.toNat) → K ls (.inl (σ.1 a i.toNat) :: r) σ)
  | _ => False
def i_ias (K : mm_K) : mm_K := fun ls st σ => match st with
  | .inl z :: .inl i :: .inr (some a) :: r => (a < σ.2.2 ∧ (mm_sh a).1 = 100 ∧ 0 ≤ i ∧ i < (mm_sh a).2) ∧ K ls r (mm_set σ.1 a i.toNat z, σ.2)
  | _ => False
def i_len (K : mm_K) : mm_K := fun ls st σ => match st with
  | .inr (some a) :: r => (a < σ.2.2 ∧ 100 ≤ (mm_sh a).1) ∧ K ls (.inl ((mm_sh a).2 : Int) :: r) σ
  | _ => False
def i_aal (kd : Nat) (K : mm_K) : mm_K := fun ls st σ => match st with
  | .inl i :: .inr (some a) :: r => (a < σ.2.2 ∧ (mm_sh a).1 = kd ∧ 0 ≤ i ∧ i < (mm_sh a).2) ∧ ∃ b, σ.2.1 a i.toNat = some b ∧ K ls (.inr (some b) :: r) σ
  | _ => False
def i_aas (kd ci : Nat) (K : mm_K) : mm_K := fun ls st σ => match st with
  | .inr (some b) :: .inl i :: .inr (some a) :: r => ((a < σ.2.2 ∧ (mm_sh a).1 = kd ∧ 0 ≤ i ∧ i < (mm_sh a).2) ∧ b < σ.2.2 ∧ (mm_sh b).1 = ci) ∧ K ls r (σ.1, mm_setR σ.2.1 a i.toNat (some b), σ.2.2)
  | _ => False
def i_gs (t : Nat) (K : mm_K) : mm_K := fun ls st σ => K ls (.inr (some (1000000 + t)) :: st) σ
def i_tal (t : Nat) (K : mm_K) : mm_K := fun ls st σ => match st with
  | .inl i :: .inr (some a) :: r => (a = 1000000 + t ∧ 0 ≤ i ∧ i < (mm_tl t).length) ∧ K ls (.inl (mm_tb t i.toNat) :: r) σ
  | _ => False
def mm_new (σ : mm_S) : mm_S := (fun b i => if b = σ.2.2 then 0 else σ.1 b i, fun b i => if b = σ.2.2 then none else σ.2.1 b i, σ.2.2 + 1)
def i_new (k0 mc ms ci : Nat) (K : mm_K) : mm_K := fun ls st σ => ((mm_sh σ.2.2).1 = ci ∧ σ.2.2 < 348 ∧ σ.2.2 + 1 ≤ k0 + mc ∧ mm_ss (σ.2.2 + 1) ≤ mm_ss k0 + ms) ∧ K ls (.inr (some σ.2.2) :: st) (mm_new σ)
def i_newa (k0 mc ms kd : Nat) (K : mm_K) : mm_K := fun ls st σ => match st with
  | .inl n :: r => (mm_sh σ.2.2 = (kd, n.toNat) ∧ 0 ≤ n ∧ σ.2.2 < 348 ∧ σ.2.2 + 1 ≤ k0 + mc ∧ mm_ss (σ.2.2 + 1) ≤ mm_ss k0 + ms) ∧ K ls (.inr (some σ.2.2) :: r) (mm_new σ)
  | _ => False
def i_oi (K : mm_K) : mm_K := fun ls st σ => match st with
  | .inr (some _) :: r => r.length ≤ 4 ∧ K ls r σ
  | _ => False
def i_cv (ci n : Nat) (T : mm_T) (K : mm_K) : mm_K := fun ls st σ => match st.drop n with
  | .inr (some a) :: r => (n ≤ st.length ∧ a < σ.2.2 ∧ (mm_sh a).1 = ci ∧ r.length ≤ 8) ∧ T (.inr (some a) :: (st.take n).reverse) σ (fun v τ => K ls (v.toList ++ r) τ)
  | _ => False
def i_cs (n : Nat) (T : mm_T) (K : mm_K) : mm_K := fun ls st σ => (n ≤ st.length ∧ (st.drop n).length ≤ 8) ∧ T (st.take n).reverse σ (fun v τ => K ls (v.toList ++ st.drop n) τ)
def i_ir (Post : Option mm_V → mm_S → Prop) (kf : Nat) : mm_K := fun ls st σ => match st with
  | [.inl z] => σ.2.2 = kf ∧ Post (some (.inl z)) σ
  | _ => False
def i_zr (Post : Option mm_V → mm_S → Prop) (kf : Nat) : mm_K := fun ls st σ => match st with
  | [.inl z] => σ.2.2 = kf ∧ (z = 0 ∨ z = 1) ∧ Post (some (.inl z)) σ
  | _ => False
def i_vr (Post : Option mm_V → mm_S → Prop) (kf : Nat) : mm_K := fun ls st σ => match st with
  | [] => σ.2.2 = kf ∧ Post none σ
  | _ => False
def i_min (K : mm_K) : mm_K := fun ls st σ => match st with
  | .inl y :: .inl x :: r => r.length ≤ 4 ∧ K ls (.inl (if y < x then y else x) :: r) σ
  | _ => False
def i_max (K : mm_K) : mm_K := fun ls st σ => match st with
  | .inl y :: .inl x :: r => r.length ≤ 4 ∧ K ls (.inl (if x < y then y else x) :: r) σ
  | _ => False
def mm_cpy (I : Nat → Nat → Int) (a b sp dp n : Nat) : Nat → Nat → Int := fun x j => if x = b ∧ dp ≤ j ∧ j < dp + n then I a (sp + (j - dp)) else I x j
def i_cpy (K : mm_K) : mm_K := fun ls st σ => match st with
  | .inl n :: .inl dp :: .inr (some b) :: .inl sp :: .inr (some a) :: r =>
    (a < σ.2.2 ∧ b < σ.2.2 ∧ (mm_sh a).1 = 100 ∧ (mm_sh b).1 = 100 ∧ 0 ≤ n ∧ 0 ≤ dp ∧ 0 ≤ sp ∧ sp + n ≤ (mm_sh a).2 ∧ dp + n ≤ (mm_sh b).2 ∧ σ.2.2 = 348 ∧ r = []) ∧ K ls r (mm_cpy σ.1 a b sp.toNat dp.toNat n.toNat, σ.2)
  | _ => False
/-- a constructor that makes mc cells of ms slots, called by one that may make mc0, ms0 from k0 on -/
def i_ci (k0 mc0 ms0 mc ms n : Nat) (T : mm_T) (K : mm_K) : mm_K := fun ls st σ => match st.drop n with
  | .inr (some a) :: r => (n ≤ st.length ∧ a < σ.2.2 ∧ r.length ≤ 8 ∧ σ.2.2 + mc ≤ k0 + mc0 ∧ mm_ss σ.2.2 + ms ≤ mm_ss k0 + ms0) ∧ T (.inr (some a) :: (st.take n).reverse) σ (fun v τ => K ls (v.toList ++ r) τ)
  | _ => False
def mm_cl (ci : Nat) (C : String) (T : u_T) (N : Nat) (ty : Nat → FieldType) : Prop := vwCl[ci]? = some (C, T, N) ∧ (∀ w ∈ u_ws C T N, w ∈ lw_gd) ∧ (∀ k, k < N → parseFieldDescriptor (T k).2.2.1 = some (ty k)) ∧ (∀ a, a < N → ∀ b, b < N → a ≠ b → (T a).2.1 ≠ (T b).2.1)
theorem cl_0 : mm_cl 0 RX0 TX0 3 tyX0 := ⟨rfl, fun w h => mm_gd (inX0 w h) ((by decide +kernel : ∀ w ∈ wsX00, goodWord w = true) w h), tyX0_ok, nmX0⟩
theorem cl_1 : mm_cl 1 RX1 TX1 2 tyX1 := ⟨rfl, fun w h => mm_gd (inX1 w h) ((by decide +kernel : ∀ w ∈ wsX10, goodWord w = true) w h), tyX1_ok, nmX1⟩
theorem cl_2 : mm_cl 2 RX2 TX2 1 tyX2 := ⟨rfl, fun w h => mm_gd (inX2 w h) ((by decide +kernel : ∀ w ∈ wsX20, goodWord w = true) w h), tyX2_ok, nmX2⟩
theorem cl_3 : mm_cl 3 RX3 TX3 3 tyX3 := ⟨rfl, fun w h => mm_gd (inX3 w h) ((by decide +kernel : ∀ w ∈ wsX30, goodWord w = true) w h), tyX3_ok, nmX3⟩
theorem cl_4 : mm_cl 4 RX4 TX4 2 tyX4 := ⟨rfl, fun w h => mm_gd (inX4 w h) ((by decide +kernel : ∀ w ∈ wsX40, goodWord w = true) w h), tyX4_ok, nmX4⟩
theorem cl_5 : mm_cl 5 RX5 TX5 3 tyX5 := ⟨rfl, fun w h => mm_gd (inX5 w h) ((by decide +kernel : ∀ w ∈ wsX50, goodWord w = true) w h), tyX5_ok, nmX5⟩
theorem cl_6 : mm_cl 6 RX7 TX7 1 tyX7 := ⟨rfl, fun w h => mm_gd (inX7 w h) ((by decide +kernel : ∀ w ∈ wsX70, goodWord w = true) w h), tyX7_ok, nmX7⟩
theorem cl_7 : mm_cl 7 RX8 TX8 9 tyX8 := ⟨rfl, fun w h => mm_gd (inX8 w h) ((by decide +kernel : ∀ w ∈ wsX80, goodWord w = true) w h), tyX8_ok, nmX8⟩
theorem cl_8 : mm_cl 8 RX9 TX9 12 tyX9 := ⟨rfl, fun w h => mm_gd (inX9 w h) ((by decide +kernel : ∀ w ∈ wsX90, goodWord w = true) w h), tyX9_ok, nmX9⟩
theorem cl_9 : mm_cl 9 RX10 TX10 5 tyX10 := ⟨rfl, fun w h => mm_gd (inX10 w h) ((by decide +kernel : ∀ w ∈ wsX100, goodWord w = true) w h), tyX10_ok, nmX10⟩
theorem cl_10 : mm_cl 10 RX11 TX11 7 tyX11 := ⟨rfl, fun w h => mm_gd (inX11 w h) ((by decide +kernel : ∀ w ∈ wsX110, goodWord w = true) w h), tyX11_ok, nmX11⟩
theorem cl_11 : mm_cl 11 RX12 TX12 13 tyX12 := ⟨rfl, fun w h => mm_gd (inX12 w h) ((by decide +kernel : ∀ w ∈ wsX120, goodWord w = true) w h), tyX12_ok, nmX12⟩
def mm_rin (r : Option mm_V) : Prop := match r with
  | some v => mm_iv v
  | none => True
def mm_Qc (G : mm_G) (σ : mm_S) (mc ms : Nat) (Post : Option mm_V → mm_S → Prop) : Array Value → State → Outcome → State → Prop := fun _ st o t =>
  (∃ (r : Option mm_V) (τ : mm_S), o = .returned (r.map (mm_v G)) ∧ mm_rin r ∧ Post r τ ∧ mm_W G τ t ∧ τ.2.2 = σ.2.2 + mc ∧ mm_ss τ.2.2 = mm_ss σ.2.2 + ms) ∧ va_F (mm_A G) st t
def mm_Pc (G : mm_G) (av : List mm_V) (σ : mm_S) : Array Value → State → Prop := fun v U => v = (av.map (mm_v G)).toArray ∧ mm_W G σ U ∧ G.1 ≤ U.heap.size
def mm_wds (y : MethodName) (bytes : ByteArray) (maxL : Nat) (ret : Option FieldType) : List Cond := .code y bytes maxL ret :: lw_gd
/-- the method y does what the transformer T says, from any heap that holds the state -/
def mm_Sp (y : MethodName) (bytes : ByteArray) (maxL : Nat) (ret : Option FieldType) (rm : Room) (T : mm_T) : Prop := ∀ (l : Launch) (G : mm_G) (av : List mm_V) (σ : mm_S) (Post : Option mm_V → mm_S → Prop), (∀ v ∈ av, mm_iv v) → T av σ Post →
  Met l y (mm_wds y bytes maxL ret) rm (mm_Pc G av σ) (mm_Qc G σ rm.cells rm.slots Post) rm.cells rm.slots (mm_A G)
