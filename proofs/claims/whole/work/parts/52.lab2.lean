/-! the labels of the room
-/
theorem room_lab (n : Nat) (pa wy : Nat → Int) (c : LT → Nat → Nat) (P : Nat → Nat → Nat → Nat → Nat → Prop) (hc : c (id, id, id) = id) (h : ∀ f v k L S, isLab (c L) S → isLab (c (gU pa wy f v k L)) (fun x y => S x y ∨ P f v k x y)) :
    isLab (c (room n pa wy)) (fun x y => ∃ f, f < 4 * n ∧ ¬ pa f = -1 ∧ ∃ v, v < 4 ∧ ∃ u, u < 4 ∧ P f v u x y) := by
  have hV : ∀ f k (L : LT) S, isLab (c L) S → isLab (c (gV pa wy f k L)) (fun x y => S x y ∨ ∃ u, u < 4 ∧ P f k u x y) := fun f k L S hS => fo_lab (gU pa wy f k) c (P f k) (fun j a S h' => h f k j a S h') 4 L S hS
  have hF : ∀ f (L : LT) S, isLab (c L) S → isLab (c (gF pa wy f L)) (fun x y => S x y ∨ ∃ v, v < 4 ∧ ∃ u, u < 4 ∧ P f v u x y) := fun f L S hS => fo_lab (gV pa wy f) c _ (hV f) 4 L S hS
  have hR : ∀ f (L : LT) S, isLab (c L) S → isLab (c (gR pa wy f L)) (fun x y => S x y ∨ (¬ pa f = -1 ∧ ∃ v, v < 4 ∧ ∃ u, u < 4 ∧ P f v u x y)) := by
    intro f L S hS
    unfold gR
    split
    · rename_i q
      exact isLab_iff hS (fun x y => ⟨Or.inl, fun z => z.elim id (fun z => absurd q z.1)⟩)
    · rename_i q
      exact isLab_iff (hF f L S hS) (fun x y => ⟨fun z => z.elim Or.inl (fun z => Or.inr ⟨q, z⟩), fun z => z.elim Or.inl (fun z => Or.inr z.2)⟩)
  exact isLab_iff (fo_lab (gR pa wy) c _ hR (4 * n) (id, id, id) _ (by rw [hc]; exact isLab_id)) (fun x y => ⟨fun z => z.elim False.elim id, Or.inr⟩)
def rC (pa wy : Nat → Int) (f v u x y : Nat) : Prop := v ≠ f % 4 ∧ u ≠ f % 4 ∧ x = 4 * (f / 4) + v ∧ y = acN (pa f).toNat (wy f).toNat f v
def rE (pa wy : Nat → Int) (f v u x y : Nat) : Prop := v ≠ f % 4 ∧ u ≠ f % 4 ∧ v < u ∧ x = ged (4 * (f / 4) + v) (4 * (f / 4) + u) ∧ y = ged (acN (pa f).toNat (wy f).toNat f v) (acN (pa f).toNat (wy f).toNat f u)
def rA (pa wy : Nat → Int) (f v u x y : Nat) : Prop := v ≠ f % 4 ∧ u ≠ f % 4 ∧ v < u ∧ ((x = 2 * ged (4 * (f / 4) + v) (4 * (f / 4) + u) ∧ y = 2 * ged (acN (pa f).toNat (wy f).toNat f v) (acN (pa f).toNat (wy f).toNat f u) + if acN (pa f).toNat (wy f).toNat f u ≤ acN (pa f).toNat (wy f).toNat f v then 1 else 0) ∨
  (x = 2 * ged (4 * (f / 4) + v) (4 * (f / 4) + u) + 1 ∧ y = 2 * ged (acN (pa f).toNat (wy f).toNat f v) (acN (pa f).toNat (wy f).toNat f u) + 1 - if acN (pa f).toNat (wy f).toNat f u ≤ acN (pa f).toNat (wy f).toNat f v then 1 else 0))
def RC (n : Nat) (pa wy : Nat → Int) (x y : Nat) : Prop := ∃ f, f < 4 * n ∧ ¬ pa f = -1 ∧ ∃ v, v < 4 ∧ ∃ u, u < 4 ∧ rC pa wy f v u x y
def RE (n : Nat) (pa wy : Nat → Int) (x y : Nat) : Prop := ∃ f, f < 4 * n ∧ ¬ pa f = -1 ∧ ∃ v, v < 4 ∧ ∃ u, u < 4 ∧ rE pa wy f v u x y
def RA (n : Nat) (pa wy : Nat → Int) (x y : Nat) : Prop := ∃ f, f < 4 * n ∧ ¬ pa f = -1 ∧ ∃ v, v < 4 ∧ ∃ u, u < 4 ∧ rA pa wy f v u x y
theorem room_C (n : Nat) (pa wy : Nat → Int) : isLab (room n pa wy).1 (RC n pa wy) := by
  refine room_lab n pa wy (fun L => L.1) (rC pa wy) rfl (fun f v u L S hS => ?_)
  show isLab (gU pa wy f v u L).1 _
  unfold gU
  by_cases q : v = f % 4 ∨ u = f % 4
  · rw [if_pos q]
    exact isLab_iff hS (fun x y => ⟨Or.inl, fun z => z.elim id (fun z => absurd q (by unfold rC at z; omega))⟩)
  · rw [if_neg q]
    have e : (if v < u then
    (mg L.1 (4 * (f / 4) + v) (acN (pa f).toNat (wy f).toNat f v), mg L.2.1 (ged (4 * (f / 4) + v) (4 * (f / 4) + u)) (ged (acN (pa f).toNat (wy f).toNat f v) (acN (pa f).toNat (wy f).toNat f u)),
      mg (mg L.2.2 (2 * ged (4 * (f / 4) + v) (4 * (f / 4) + u)) (2 * ged (acN (pa f).toNat (wy f).toNat f v) (acN (pa f).toNat (wy f).toNat f u) + if acN (pa f).toNat (wy f).toNat f u ≤ acN (pa f).toNat (wy f).toNat f v then 1 else 0))
        (2 * ged (4 * (f / 4) + v) (4 * (f / 4) + u) + 1) (2 * ged (acN (pa f).toNat (wy f).toNat f v) (acN (pa f).toNat (wy f).toNat f u) + 1 - if acN (pa f).toNat (wy f).toNat f u ≤ acN (pa f).toNat (wy f).toNat f v then 1 else 0))
  else (mg L.1 (4 * (f / 4) + v) (acN (pa f).toNat (wy f).toNat f v), L.2) : LT).1 = mg L.1 (4 * (f / 4) + v) (acN (pa f).toNat (wy f).toNat f v) := by split <;> rfl
    rw [e]
    exact isLab_iff (isLab_mg hS _ _) (fun x y => ⟨fun z => z.elim Or.inl (fun z => Or.inr ⟨by omega, by omega, z.1, z.2⟩), fun z => z.elim Or.inl (fun z => Or.inr ⟨z.2.2.1, z.2.2.2⟩)⟩)
theorem room_E (n : Nat) (pa wy : Nat → Int) : isLab (room n pa wy).2.1 (RE n pa wy) := by
  refine room_lab n pa wy (fun L => L.2.1) (rE pa wy) rfl (fun f v u L S hS => ?_)
  show isLab (gU pa wy f v u L).2.1 _
  unfold gU
  by_cases q : v = f % 4 ∨ u = f % 4
  · rw [if_pos q]
    exact isLab_iff hS (fun x y => ⟨Or.inl, fun z => z.elim id (fun z => absurd q (by unfold rE at z; omega))⟩)
  · rw [if_neg q]
    by_cases r : v < u
    · rw [if_pos r]
      exact isLab_iff (isLab_mg hS _ _) (fun x y => ⟨fun z => z.elim Or.inl (fun z => Or.inr ⟨by omega, by omega, r, z.1, z.2⟩), fun z => z.elim Or.inl (fun z => Or.inr ⟨z.2.2.2.1, z.2.2.2.2⟩)⟩)
    · rw [if_neg r]
      exact isLab_iff hS (fun x y => ⟨Or.inl, fun z => z.elim id (fun z => absurd z.2.2.1 r)⟩)
theorem room_A (n : Nat) (pa wy : Nat → Int) : isLab (room n pa wy).2.2 (RA n pa wy) := by
  refine room_lab n pa wy (fun L => L.2.2) (rA pa wy) rfl (fun f v u L S hS => ?_)
  show isLab (gU pa wy f v u L).2.2 _
  unfold gU
  by_cases q : v = f % 4 ∨ u = f % 4
  · rw [if_pos q]
    exact isLab_iff hS (fun x y => ⟨Or.inl, fun z => z.elim id (fun z => absurd q (by have := z.1; have := z.2.1; omega))⟩)
  · rw [if_neg q]
    by_cases r : v < u
    · rw [if_pos r]
      exact isLab_iff (isLab_mg (isLab_mg hS _ _) _ _) (fun x y => ⟨fun z => z.elim (fun z => z.elim Or.inl (fun z => Or.inr ⟨by omega, by omega, r, Or.inl z⟩)) (fun z => Or.inr ⟨by omega, by omega, r, Or.inr z⟩), fun z => z.elim (fun z => Or.inl (Or.inl z)) (fun z => z.2.2.2.elim (fun z => Or.inl (Or.inr z)) Or.inr)⟩)
    · rw [if_neg r]
      exact isLab_iff hS (fun x y => ⟨Or.inl, fun z => z.elim id (fun z => absurd z.2.2.1 r)⟩)
