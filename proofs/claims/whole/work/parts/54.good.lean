/-! the other program: good corners
-/
theorem ac_cg {p q : Nat → Int} (h : ∀ i, i < 21 → p i = q i) {b f v : Nat} (hb : b < 3) (hf : f < 4) (hv : v < 4) (hne : v ≠ f) : ac p b f v = ac q b f v := by
  have hr := (tg_tab v hv f hf hne).2
  unfold ac
  rw [h _ (by omega), h _ (by omega)]
theorem lkM_ac {n : Nat} {C : Nat → Nat} {x b f v : Nat} (hb : b < 3) (hf : f < 4) (hv : v < 4) (hne : v ≠ f) : ac (lkM n C x) b f v = if b < n ∧ C (4 * b + v) = x then 1 else 0 := by
  have hr := (tg_tab v hv f hf hne).2
  unfold ac lkM
  rw [if_neg (by omega : ¬ ((7 * b + tg v f) % 7 < 4 ∧ _)), show (7 * b + v) % 7 = v by omega, show (7 * b + v) / 7 = b by omega, Int.add_zero]
  by_cases q : b < n ∧ C (4 * b + v) = x
  · rw [if_pos ⟨hv, q⟩, if_pos q]
  · rw [if_neg (fun w => q w.2), if_neg q]
theorem mtA_cg {n : Nat} {pa wy p q : Nat → Int} (hn : n ≤ 3) (hg : gok n pa wy) (h : ∀ i, i < 21 → p i = q i) {m v0 : Nat} (hm : mtA n pa wy p m v0) : mtA n pa wy q m v0 := by
  intro f v h1 h2 h3 h4 h5
  have := hm f v h1 h2 h3 h4 h5
  obtain ⟨q1, q2, q3, q4, q5, q6, q7, q8⟩ : f < 4 * n ∧ 0 ≤ pa f ∧ pa f < 4 * n ∧ pa f ≠ f ∧ pa (pa f).toNat = f ∧ 0 ≤ wy f ∧ wy f < 6 ∧ wy (pa f).toNat = mm_tb 1 (wy f).toNat := by
    rcases hg f (by omega) with e | e
    · exact absurd e h4
    · exact e
  have av := acN_b (o := (pa f).toNat) (k := (wy f).toNat) (f := f) (v := v) (by omega) (by omega) (by omega) h5
  unfold mc at this ⊢
  rw [← ac_cg h (by omega) (by omega) (by omega) (by omega), ← ac_cg h (by omega) (by omega) (by omega) (by omega)]
  exact this
theorem lkM_mt {n : Nat} {pa wy : Nat → Int} (hn : n ≤ 3) (hg : gok n pa wy) (x m v0 : Nat) : mtA n pa wy (lkM n (room n pa wy).1 x) m v0 := by
  intro f v h1 h2 h3 h4 h5
  obtain ⟨q1, q2, q3, q4, q5, q6, q7, q8⟩ : f < 4 * n ∧ 0 ≤ pa f ∧ pa f < 4 * n ∧ pa f ≠ f ∧ pa (pa f).toNat = f ∧ 0 ≤ wy f ∧ wy f < 6 ∧ wy (pa f).toNat = mm_tb 1 (wy f).toNat := by
    rcases hg f (by omega) with e | e
    · exact absurd e h4
    · exact e
  have av := acN_b (o := (pa f).toNat) (k := (wy f).toNat) (f := f) (v := v) (by omega) (by omega) (by omega) h5
  have e := (room_C n pa wy).2.1 (4 * (f / 4) + v) (acN (pa f).toNat (wy f).toNat f v) ⟨f, h2, h4, v, h3, v, h3, h5, h5, rfl, rfl⟩
  unfold mc
  rw [lkM_ac (by omega) (by omega) (by omega) (by omega), lkM_ac (by omega) (by omega) (by omega) (by omega), show 4 * ((pa f).toNat / 4) + acN (pa f).toNat (wy f).toNat f v % 4 = acN (pa f).toNat (wy f).toNat f v by omega, e]
  by_cases c : (room n pa wy).1 (acN (pa f).toNat (wy f).toNat f v) = x
  · rw [if_pos ⟨by omega, c⟩, if_pos ⟨by omega, c⟩]
  · rw [if_neg (fun w => c w.2), if_neg (fun w => c w.2)]
def scM (I' I : Nat → Nat → Int) : Prop := (∀ b, b < 339 ∨ (339 < b ∧ b < 343) → I' b = I b) ∧ ∀ j, j < 2888 → I' 339 j = I 339 j
theorem scM_rf (I : Nat → Nat → Int) : scM I I := ⟨fun _ _ => rfl, fun _ _ => rfl⟩
theorem scM_tr {A B C : Nat → Nat → Int} (h : scM B A) (g : scM C B) : scM C A := ⟨fun b hb => by rw [g.1 b hb, h.1 b hb], fun j hj => by rw [g.2 j hj, h.2 j hj]⟩
theorem scM_hi {A B : Nat → Nat → Int} (h : ∀ b, b < 343 → B b = A b) : scM B A := ⟨fun b hb => h b (by omega), fun j _ => by rw [h 339 (by omega)]⟩
theorem gM_sc {I I1 : Nat → Nat → Int} {n : Nat} (h : gM I n) (e : scM I1 I) : gM I1 n ∧ room n (MP I1) (MY I1) = room n (MP I) (MY I) ∧ (∀ j, j < 2886 → MP I1 j = MP I j) ∧ (∀ j, j < 2000 → MY I1 j = MY I j) := by
  have e1 : ∀ j, j < 2886 → MP I1 j = MP I j := fun j hj => by unfold MP; rw [e.2 _ (by omega)]
  have e2 : ∀ j, j < 2000 → MY I1 j = MY I j := fun j hj => by unfold MY; rw [e.2 _ (by omega)]
  sorry
