/-! labels: the least thing of each class; pure -/
def isLab (L : Nat → Nat) (S : Nat → Nat → Prop) : Prop := (∀ x, L x ≤ x) ∧ (∀ x y, S x y → L x = L y) ∧ ∀ M : Nat → Nat, (∀ x y, S x y → M x = M y) → ∀ x, M (L x) = M x
theorem isLab_id : isLab id (fun _ _ => False) := ⟨fun _ => Nat.le_refl _, fun _ _ h => h.elim, fun _ _ _ => rfl⟩
theorem isLab_iff {L : Nat → Nat} {S S' : Nat → Nat → Prop} (h : isLab L S) (hS : ∀ x y, S x y ↔ S' x y) : isLab L S' :=
  ⟨h.1, fun x y q => h.2.1 x y ((hS x y).mpr q), fun M hM => h.2.2 M (fun x y q => hM x y ((hS x y).mp q))⟩
theorem isLab_mg {L : Nat → Nat} {S : Nat → Nat → Prop} (h : isLab L S) (p q : Nat) : isLab (mg L p q) (fun x y => S x y ∨ (x = p ∧ y = q)) := by
  have hpq : mg L p q p = min (L p) (L q) ∧ mg L p q q = min (L p) (L q) := by
    unfold mg
    rcases Nat.le_total (L p) (L q) with z | z
    · rw [Nat.max_eq_right z, Nat.min_eq_left z]
      constructor
      · split <;> omega
      · rw [if_pos rfl]
    · rw [Nat.max_eq_left z, Nat.min_eq_right z]
      constructor
      · rw [if_pos rfl]
      · split <;> omega
  refine ⟨fun x => ?_, fun x y hs => ?_, fun M hM x => ?_⟩
  · unfold mg
    have := h.1 x
    split
    · have := Nat.le_max_left (L p) (L q)
      have := Nat.min_le_left (L p) (L q)
      omega
    · exact this
  · rcases hs with hs | ⟨rfl, rfl⟩
    · unfold mg; rw [h.2.1 x y hs]
    · rw [hpq.1, hpq.2]
  · have hM' : ∀ x y, S x y → M x = M y := fun x y hs => hM x y (Or.inl hs)
    have h1 := h.2.2 M hM'
    have h2 : M p = M q := hM p q (Or.inr ⟨rfl, rfl⟩)
    unfold mg
    split
    · rename_i e
      rw [← h1 x, e]
      have e1 := h1 p
      have e2 := h1 q
      rcases Nat.le_total (L p) (L q) with z | z
      · rw [Nat.max_eq_right z, Nat.min_eq_left z]; omega
      · rw [Nat.max_eq_left z, Nat.min_eq_right z]; omega
    · exact h1 x
theorem isLab_uniq {L1 L2 : Nat → Nat} {S1 S2 : Nat → Nat → Prop} (h1 : isLab L1 S1) (h2 : isLab L2 S2) (r1 : ∀ x y, S1 x y → L2 x = L2 y) (r2 : ∀ x y, S2 x y → L1 x = L1 y) (x : Nat) : L1 x = L2 x := by
  have a := h1.2.2 L2 r1 x
  have b := h2.2.2 L1 r2 x
  have c := h2.1 (L1 x)
  have d := h1.1 (L2 x)
  omega
theorem isLab_idem {L : Nat → Nat} {S : Nat → Nat → Prop} (h : isLab L S) (x : Nat) : L (L x) = L x := h.2.2 L h.2.1 x
theorem fo_lab {α : Type} (g : Nat → α → α) (c : α → Nat → Nat) (P : Nat → Nat → Nat → Prop) (h : ∀ k a S, isLab (c a) S → isLab (c (g k a)) (fun x y => S x y ∨ P k x y)) : ∀ (m : Nat) (a : α) (S : Nat → Nat → Prop), isLab (c a) S → isLab (c (fo g m a)) (fun x y => S x y ∨ ∃ k, k < m ∧ P k x y) := by
  intro m
  induction m with
  | zero => intro a S hS; exact isLab_iff hS (fun x y => ⟨Or.inl, fun q => q.elim id (fun ⟨k, hk, _⟩ => by omega)⟩)
  | succ m ih =>
    intro a S hS
    refine isLab_iff (h m _ _ (ih a S hS)) (fun x y => ⟨fun q => ?_, fun q => ?_⟩)
    · rcases q with (q | ⟨k, hk, q⟩) | q
      · exact Or.inl q
      · exact Or.inr ⟨k, by omega, q⟩
      · exact Or.inr ⟨m, by omega, q⟩
    · rcases q with q | ⟨k, hk, q⟩
      · exact Or.inl (Or.inl q)
      · by_cases e : k = m
        · subst e; exact Or.inr q
        · exact Or.inl (Or.inr ⟨k, by omega, q⟩)
/-- the pairs that one leading face joins: corners, edges, arrows -/
def pC (pa wy : Nat → Int) (f v : Nat) (x y : Nat) : Prop := 0 ≤ acr pa wy f v ∧ x = 4 * (f / 4) + v ∧ y = (acr pa wy f v).toNat
def pA (pa wy : Nat → Int) (f v u : Nat) (x y : Nat) : Prop := 0 ≤ acr pa wy f v ∧ u ≠ v ∧ 0 ≤ acr pa wy f u ∧ x = sUx f v u ∧ y = sUy pa wy f v u
def pE (pa wy : Nat → Int) (f v u : Nat) (x y : Nat) : Prop := 0 ≤ acr pa wy f v ∧ u ≠ v ∧ 0 ≤ acr pa wy f u ∧ x = eof (sUx f v u) ∧ y = eof (sUy pa wy f v u)
def SC (n : Nat) (pa wy : Nat → Int) (x y : Nat) : Prop := ∃ f, f < 4 * n ∧ (f : Int) < pa f ∧ ∃ v, v < 4 ∧ pC pa wy f v x y
def SA (n : Nat) (pa wy : Nat → Int) (x y : Nat) : Prop := ∃ f, f < 4 * n ∧ (f : Int) < pa f ∧ ∃ v, v < 4 ∧ ∃ u, u < 4 ∧ pA pa wy f v u x y
def SE (n : Nat) (pa wy : Nat → Int) (x y : Nat) : Prop := ∃ f, f < 4 * n ∧ (f : Int) < pa f ∧ ∃ v, v < 4 ∧ ∃ u, u < 4 ∧ pE pa wy f v u x y
theorem skel_C (n : Nat) (pa wy : Nat → Int) : isLab (skel n pa wy).1 (SC n pa wy) := by
  have hU : ∀ f v m (L : LT), (fo (sU pa wy f v) m L).1 = L.1 := by
    intro f v m L
    induction m with
    | zero => rfl
    | succ m ih =>
      show (sU pa wy f v m (fo (sU pa wy f v) m L)).1 = L.1
      unfold sU
      split
      · exact ih
      · exact ih
  have hV : ∀ f k (L : LT) S, isLab L.1 S → isLab (sV pa wy f k L).1 (fun x y => S x y ∨ pC pa wy f k x y) := by
    intro f k L S hS
    unfold sV
    split
    · rename_i q
      rw [hU]
      exact isLab_iff (isLab_mg hS _ _) (fun x y => ⟨fun z => z.elim Or.inl (fun z => Or.inr ⟨q, z.1, z.2⟩), fun z => z.elim Or.inl (fun z => Or.inr ⟨z.2.1, z.2.2⟩)⟩)
    · rename_i q
      exact isLab_iff hS (fun x y => ⟨Or.inl, fun z => z.elim id (fun z => absurd z.1 q)⟩)
  have hF : ∀ k (L : LT) S, isLab L.1 S → isLab (sF pa wy k L).1 (fun x y => S x y ∨ ((k : Int) < pa k ∧ ∃ v, v < 4 ∧ pC pa wy k v x y)) := by
    intro k L S hS
    unfold sF
    split
    · rename_i q
      exact isLab_iff (fo_lab (sV pa wy k) (fun L => L.1) (pC pa wy k) (hV k) 4 L S hS) (fun x y => ⟨fun z => z.elim Or.inl (fun z => Or.inr ⟨q, z⟩), fun z => z.elim Or.inl (fun z => Or.inr z.2)⟩)
    · rename_i q
      exact isLab_iff hS (fun x y => ⟨Or.inl, fun z => z.elim id (fun z => absurd z.1 q)⟩)
  exact isLab_iff (fo_lab (sF pa wy) (fun L => L.1) _ hF (4 * n) (id, id, id) _ isLab_id) (fun x y => ⟨fun z => z.elim False.elim id, Or.inr⟩)
theorem skel_E (n : Nat) (pa wy : Nat → Int) : isLab (skel n pa wy).2.1 (SE n pa wy) := by
  have hU : ∀ f v k (L : LT) S, 0 ≤ acr pa wy f v → isLab L.2.1 S → isLab (sU pa wy f v k L).2.1 (fun x y => S x y ∨ pE pa wy f v k x y) := by
    intro f v k L S hv hS
    unfold sU
    split
    · rename_i q
      exact isLab_iff (isLab_mg hS _ _) (fun x y => ⟨fun z => z.elim Or.inl (fun z => Or.inr ⟨hv, q.1, q.2, z.1, z.2⟩), fun z => z.elim Or.inl (fun z => Or.inr ⟨z.2.2.2.1, z.2.2.2.2⟩)⟩)
    · rename_i q
      exact isLab_iff hS (fun x y => ⟨Or.inl, fun z => z.elim id (fun z => absurd ⟨z.2.1, z.2.2.1⟩ q)⟩)
  have hV : ∀ f k (L : LT) S, isLab L.2.1 S → isLab (sV pa wy f k L).2.1 (fun x y => S x y ∨ ∃ u, u < 4 ∧ pE pa wy f k u x y) := by
    intro f k L S hS
    unfold sV
    split
    · rename_i q
      exact fo_lab (sU pa wy f k) (fun L => L.2.1) (pE pa wy f k) (fun j a S h => hU f k j a S q h) 4 _ S hS
    · rename_i q
      exact isLab_iff hS (fun x y => ⟨Or.inl, fun z => z.elim id (fun ⟨u, _, z⟩ => absurd z.1 q)⟩)
  have hF : ∀ k (L : LT) S, isLab L.2.1 S → isLab (sF pa wy k L).2.1 (fun x y => S x y ∨ ((k : Int) < pa k ∧ ∃ v, v < 4 ∧ ∃ u, u < 4 ∧ pE pa wy k v u x y)) := by
    intro k L S hS
    unfold sF
    split
    · rename_i q
      exact isLab_iff (fo_lab (sV pa wy k) (fun L => L.2.1) _ (hV k) 4 L S hS) (fun x y => ⟨fun z => z.elim Or.inl (fun z => Or.inr ⟨q, z⟩), fun z => z.elim Or.inl (fun z => Or.inr z.2)⟩)
    · rename_i q
      exact isLab_iff hS (fun x y => ⟨Or.inl, fun z => z.elim id (fun z => absurd z.1 q)⟩)
  exact isLab_iff (fo_lab (sF pa wy) (fun L => L.2.1) _ hF (4 * n) (id, id, id) _ isLab_id) (fun x y => ⟨fun z => z.elim False.elim id, Or.inr⟩)
theorem skel_A (n : Nat) (pa wy : Nat → Int) : isLab (skel n pa wy).2.2 (SA n pa wy) := by
  have hU : ∀ f v k (L : LT) S, 0 ≤ acr pa wy f v → isLab L.2.2 S → isLab (sU pa wy f v k L).2.2 (fun x y => S x y ∨ pA pa wy f v k x y) := by
    intro f v k L S hv hS
    unfold sU
    split
    · rename_i q
      exact isLab_iff (isLab_mg hS _ _) (fun x y => ⟨fun z => z.elim Or.inl (fun z => Or.inr ⟨hv, q.1, q.2, z.1, z.2⟩), fun z => z.elim Or.inl (fun z => Or.inr ⟨z.2.2.2.1, z.2.2.2.2⟩)⟩)
    · rename_i q
      exact isLab_iff hS (fun x y => ⟨Or.inl, fun z => z.elim id (fun z => absurd ⟨z.2.1, z.2.2.1⟩ q)⟩)
  have hV : ∀ f k (L : LT) S, isLab L.2.2 S → isLab (sV pa wy f k L).2.2 (fun x y => S x y ∨ ∃ u, u < 4 ∧ pA pa wy f k u x y) := by
    intro f k L S hS
    unfold sV
    split
    · rename_i q
      exact fo_lab (sU pa wy f k) (fun L => L.2.2) (pA pa wy f k) (fun j a S h => hU f k j a S q h) 4 _ S hS
    · rename_i q
      exact isLab_iff hS (fun x y => ⟨Or.inl, fun z => z.elim id (fun ⟨u, _, z⟩ => absurd z.1 q)⟩)
  have hF : ∀ k (L : LT) S, isLab L.2.2 S → isLab (sF pa wy k L).2.2 (fun x y => S x y ∨ ((k : Int) < pa k ∧ ∃ v, v < 4 ∧ ∃ u, u < 4 ∧ pA pa wy k v u x y)) := by
    intro k L S hS
    unfold sF
    split
    · rename_i q
      exact isLab_iff (fo_lab (sV pa wy k) (fun L => L.2.2) _ (hV k) 4 L S hS) (fun x y => ⟨fun z => z.elim Or.inl (fun z => Or.inr ⟨q, z⟩), fun z => z.elim Or.inl (fun z => Or.inr z.2)⟩)
    · rename_i q
      exact isLab_iff hS (fun x y => ⟨Or.inl, fun z => z.elim id (fun z => absurd z.1 q)⟩)
  exact isLab_iff (fo_lab (sF pa wy) (fun L => L.2.2) _ hF (4 * n) (id, id, id) _ isLab_id) (fun x y => ⟨fun z => z.elim False.elim id, Or.inr⟩)
