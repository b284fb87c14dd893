/-! the maths reads only what is there
-/
theorem fo_cg {α : Type} {g g' : Nat → α → α} {m : Nat} (h : ∀ k, k < m → g k = g' k) (a : α) : fo g m a = fo g' m a := by
  induction m with
  | zero => rfl
  | succ m ih =>
    show g m (fo g m a) = g' m (fo g' m a)
    rw [ih (fun k hk => h k (by omega)), h m (by omega)]
def agW (pa wy pa' wy' : Nat → Int) : Prop := (∀ j, j < 12 → pa j = pa' j) ∧ ∀ j, j < 12 → 0 ≤ pa j → wy j = wy' j
theorem acr_cg {pa wy pa' wy' : Nat → Int} (h : agW pa wy pa' wy') {f : Nat} (hf : f < 12) : acr pa wy f = acr pa' wy' f := by
  funext v
  unfold acr
  rw [h.1 f hf]
  by_cases q : v = f % 4 ∨ pa' f < 0
  · rw [if_pos q, if_pos q]
  · rw [if_neg q, if_neg q, h.2 f hf (by rw [h.1 f hf]; omega)]
theorem sU_cg {pa wy pa' wy' : Nat → Int} {f : Nat} (h : acr pa wy f = acr pa' wy' f) : sU pa wy f = sU pa' wy' f := by
  funext v u L
  unfold sU sUy
  rw [h]
theorem sV_cg {pa wy pa' wy' : Nat → Int} {f : Nat} (h : acr pa wy f = acr pa' wy' f) : sV pa wy f = sV pa' wy' f := by
  funext v L
  unfold sV
  rw [h, sU_cg h]
theorem sF_cg {pa wy pa' wy' : Nat → Int} (h : agW pa wy pa' wy') {f : Nat} (hf : f < 12) : sF pa wy f = sF pa' wy' f := by
  funext L
  unfold sF
  rw [sV_cg (acr_cg h hf), h.1 f hf]
theorem skel_cg {pa wy pa' wy' : Nat → Int} (h : agW pa wy pa' wy') {n : Nat} (hn : n ≤ 3) : skel n pa wy = skel n pa' wy' := by
  unfold skel
  exact fo_cg (fun k hk => sF_cg h (by omega)) _
theorem agW_I {I : Nat → Nat → Int} {W : Nat → Int} (h : cW I 2 W) : agW (I 3) (I 4) (pw W) (ww W) := by
  obtain ⟨a1, a2, a3, a4, a5⟩ := h
  exact ⟨fun j hj => a3 j hj, fun j hj hp => a4 j hj (by rw [← a3 j hj]; exact hp)⟩
theorem us_cg {p q : Nat → Int} (h : ∀ i, i < 21 → p i = q i) {b : Nat} (hb : b < 3) : us p b = us q b := by
  unfold us
  exact sm_congr (fun t ht => by rw [h _ (by omega)])
theorem crs_3 (nb : Nat → Int) : crs nb 3 ↔ 1 < us nb 0 ∨ 1 < us nb 1 ∨ 1 < us nb 2 := by
  constructor
  · rintro ⟨b, hb, h⟩
    match b, hb with
    | 0, _ => exact Or.inl h
    | 1, _ => exact Or.inr (Or.inl h)
    | 2, _ => exact Or.inr (Or.inr h)
  · intro h
    rcases h with h | h | h
    · exact ⟨0, by omega, h⟩
    · exact ⟨1, by omega, h⟩
    · exact ⟨2, by omega, h⟩
