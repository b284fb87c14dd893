/-! each deed keeps the state sound
-/
theorem okW_beg {W : Nat → Int} {k : Int} (hk : 1 ≤ k ∧ k ≤ 3) : okW (wBeg W k) := by
  refine ⟨k.toNat, 0, ?_, ?_, by omega, by omega, by omega, fun f' hf => Or.inl ?_, fun s hs => by omega⟩
  · show k = _
    omega
  · rfl
  · unfold pw wBeg
    rw [if_neg (by omega), if_neg (by omega), if_pos (by omega)]
theorem okW_fre {W : Nat → Int} {x y : Nat} (h' : okW W) (hx : x < 12) (hp : pw W x = y) : okW (wFre W x y) := by
  obtain ⟨n', m, q1', q2', q3', q4', q5', hg, q7'⟩ := h'
  refine ⟨n', 0, by rw [wFre_0]; exact q1', by rw [wFre_1]; rfl, q3', q4', by omega, fun f' hf => ?_, fun s hs => by omega⟩
  rw [pw_fre W x y hf]
  by_cases c' : f' = x ∨ f' = y
  · rw [if_pos c']
    exact Or.inl rfl
  · rw [if_neg c']
    rcases hg f' hf with e' | ⟨e1', e2', e3', e4', e5', e6', e7', e8⟩
    · exact Or.inl e'
    · have hxx : pw W x = -1 ∨ (x < 4 * n' ∧ 0 ≤ pw W x ∧ pw W x < 4 * n' ∧ pw W x ≠ x ∧ pw W (pw W x).toNat = x ∧ 0 ≤ ww W x ∧ ww W x < 6 ∧ ww W (pw W x).toNat = mm_tb 1 (ww W x).toNat) := hg x hx
      obtain ⟨p', hpp⟩ := Int.eq_ofNat_of_zero_le e2'
      rw [hpp] at e3' e4' e5' e8 ⊢
      rw [Int.toNat_natCast] at e5' e8 ⊢
      have hne : ¬ (p' = x ∨ p' = y) := by
        intro w'
        rcases w' with w' | w'
        · rw [w'] at e5'
          omega
        · rcases hxx with z' | z'
          · omega
          · rw [hp, Int.toNat_natCast] at z'
            rw [w'] at e5'
            omega
      have hy : y < 12 := by
        rcases hxx with z' | z' <;> omega
      rw [pw_fre W x y (by omega), if_neg hne, ww_fre W hx hy (by omega) (by omega), ww_fre W hx hy (by omega) (by omega)]
      exact Or.inr ⟨e1', by omega, e3', e4', e5', e6', e7', e8⟩
theorem okW_new {W nb : Nat → Int} (h' : okW W) (hm' : W 1 < 6) (hb : ∀ i', i' < 21 → 0 ≤ nb i' ∧ nb i' ≤ 20 ∧ (7 * (W 0).toNat ≤ i' → nb i' = 0)) : okW (wNew W nb) := by
  obtain ⟨n', m, q1', q2', q3', q4', q5', hg, q7'⟩ := h'
  refine ⟨n', m + 1, by rw [wNew_0]; exact q1', by rw [wNew_1, q2']; rfl, q3', q4', by omega, gok_cg q4' ⟨fun j' hj => (pw_new W nb hj).symm, fun j' hj _ => (ww_new W nb hj).symm⟩ hg, fun s hs i' hi' => ?_⟩
  rw [nw_new W nb hi']
  by_cases c' : s = (W 1).toNat
  · rw [if_pos c']
    have := hb i' hi'
    rw [q1', Int.toNat_natCast] at this
    exact this
  · rw [if_neg c']
    exact q7' s (by omega) i' hi'
theorem okW_pie {W : Nat → Int} {s b k : Nat} {v' : Int} (h' : okW W) (hb : (b : Int) < W 0) (hk : k < 7) (hv : 0 ≤ v' ∧ v' ≤ 20) : okW (wPie W (21 * s + 7 * b + k) v') := by
  obtain ⟨n', m, q1', q2', q3', q4', q5', hg, q7'⟩ := h'
  have o : ∀ i', i' < 26 → wPie W (21 * s + 7 * b + k) v' i' = W i' := fun i' hi' => by unfold wPie; rw [if_neg (by omega)]
  refine ⟨n', m, by rw [o 0 (by omega)]; exact q1', by rw [o 1 (by omega)]; exact q2', q3', q4', q5', gok_cg q4' ⟨fun j' hj => (o (2 + j') (by omega)).symm, fun j' hj _ => (o (14 + j') (by omega)).symm⟩ hg, fun t' ht i' hi' => ?_⟩
  have := q7' t' ht i' hi'
  unfold nw at this ⊢
  unfold wPie
  by_cases c' : 26 + 21 * t' + i' = 26 + (21 * s + 7 * b + k)
  · rw [if_pos c']
    refine ⟨hv.1, hv.2, fun w' => ?_⟩
    omega
  · rw [if_neg c']
    exact this
theorem okW_tak {W : Nat → Int} {s : Nat} (h' : okW W) (hs : (s : Int) < W 1) : okW (wTak W s) := by
  obtain ⟨n', m, q1', q2', q3', q4', q5', hg, q7'⟩ := h'
  have o : ∀ i', i' < 26 → i' ≠ 1 → wTak W s i' = W i' := fun i' hi' hj => by unfold wTak; rw [if_neg hj, if_neg (by omega)]
  refine ⟨n', m - 1, by rw [o 0 (by omega) (by omega)]; exact q1', by unfold wTak; rw [if_pos rfl]; omega, q3', q4', by omega, gok_cg q4' ⟨fun j' hj => (o (2 + j') (by omega) (by omega)).symm, fun j' hj _ => (o (14 + j') (by omega) (by omega)).symm⟩ hg, fun t' ht i' hi' => ?_⟩
  unfold nw wTak
  rw [if_neg (by omega)]
  by_cases c' : 26 + 21 * s ≤ 26 + 21 * t' + i' ∧ ((26 + 21 * t' + i' : Nat) : Int) < 26 + 21 * (W 1 - 1)
  · rw [if_pos c']
    have := q7' (t' + 1) (by omega) i' hi'
    unfold nw at this
    rw [show 26 + 21 * (t' + 1) + i' = 26 + 21 * t' + i' + 21 by omega] at this
    exact this
  · rw [if_neg c']
    exact q7' t' (by omega) i' hi'
theorem ok_bod {S' : Nat → Nat → Int} (ok : okS S') (k : Int) : okS (bodF S' k).1 := by
  unfold bodF
  split
  · exact okS_up (okS_rec ok) (okW_beg (by assumption))
  · exact ok
theorem ok_glu {S' : Nat → Nat → Int} (ok : okS S') (b f' c' g k : Int) : okS (gluF S' b f' c' g k).1 := by
  unfold gluF
  split
  · exact ok
  · rename_i hA
    split
    · exact ok
    · rename_i hB'
      split
      · exact ok
      · rename_i hC
        obtain ⟨n', m, q1', q2', q3', q4', q5', hg, q7'⟩ := id ok.1
        have hA' := Classical.not_not.mp hA
        have hC' := Classical.not_not.mp hC
        unfold fcs at hA'
        exact okS_up (okS_rec ok) (okW_glu ok.1 (by omega) (by omega) hC' (by omega) (by omega))
theorem ok_fre {S' : Nat → Nat → Int} (ok : okS S') (b f' : Int) : okS (freF S' b f').1 := by
  unfold freF
  split
  · exact ok
  · rename_i hA
    split
    · exact ok
    · rename_i hB'
      obtain ⟨n', m, q1', q2', q3', q4', q5', hg, q7'⟩ := id ok.1
      have hA' := Classical.not_not.mp hA
      unfold fcs at hA'
      exact okS_up (okS_rec ok) (okW_fre ok.1 (by omega) (Int.toNat_of_nonneg (by omega)).symm)
theorem ok_put {S' : Nat → Nat → Int} (ok : okS S') : okS (putF S').1 := by
  unfold putF
  split
  · exact ok
  · exact okS_up (okS_rec ok) (okW_new ok.1 (by omega) (fun i' _ => ⟨by omega, by omega, fun _ => rfl⟩))
theorem ok_pie {S' : Nat → Nat → Int} (ok : okS S') (s b k v' : Int) : okS (pieF S' s b k v').1 := by
  unfold pieF
  split
  · exact ok
  · rename_i hA
    split
    · exact ok
    · rename_i hB'
      have hA' := Classical.not_not.mp hA
      have hB' := Classical.not_not.mp hB'
      have := okW_pie (s := s.toNat) (b := b.toNat) (k := k.toNat) ok.1 (by omega) (by omega) hB'.2
      rw [show 21 * s.toNat + 7 * b.toNat + k.toNat = (21 * s + 7 * b + k).toNat by omega] at this
      exact okS_up (okS_rec ok) this
theorem ok_tak {S' : Nat → Nat → Int} (ok : okS S') (s : Int) : okS (takF S' s).1 := by
  unfold takF
  split
  · exact ok
  · rename_i hA
    exact okS_up (okS_rec ok) (okW_tak ok.1 (by omega))
theorem ok_abo {S' : Nat → Nat → Int} (ok : okS S') (p' : Int) : okS (aboF S' p').1 := by
  unfold aboF
  split
  · exact ok
  · split
    · exact ok
    · refine okS_up (okS_rec ok) (okW_new ok.1 (by omega) (fun i' _ => ?_))
      unfold lk
      split
      · refine ⟨by omega, by omega, fun w' => ?_⟩
        rename_i h'
        have := h'.2.1
        omega
      · exact ⟨by omega, by omega, fun _ => rfl⟩
theorem ok_add {S' : Nat → Nat → Int} (ok : okS S') (s u : Int) : okS (addF S' s u).1 := by
  unfold addF
  split
  · exact ok
  · rename_i hA
    split
    · exact ok
    · split
      · exact ok
      · rename_i hB' hC
        obtain ⟨n', m, q1', q2', q3', q4', q5', hg, q7'⟩ := id ok.1
        refine okS_up (okS_rec ok) (okW_new ok.1 (by omega) (fun i' hi' => ?_))
        have hD : sumW (S' 0) s u i' ≤ 20 := by
          have := Classical.not_not.mp (fun w' => hC (Or.inr w'))
          exact this i' hi'
        have h1 := q7' s.toNat (by omega) i' hi'
        have h2 := q7' u.toNat (by omega) i' hi'
        rw [q1', Int.toNat_natCast]
        unfold sumW at hD ⊢
        refine ⟨by omega, hD, fun w' => ?_⟩
        rw [h1.2.2 w', h2.2.2 w']
        rfl
theorem ok_dri {S' : Nat → Nat → Int} (ok : okS S') (k : Int) : okS (driF S' k).1 := by
  unfold driF
  split
  · exact ok
  · exact okS_it _ ok
theorem okS_m0 {S' : Nat → Nat → Int} {v' : Int} (ok : okS S') (h1 : 0 ≤ v') (h2 : v' ≤ S' 19 0) : okS (upM S' 0 v') := by
  obtain ⟨okA, okB, okC, okD, okE, okF, okG⟩ := ok
  refine ⟨by rw [upM_o _ _ _ (by omega)]; exact okA, fun t' ht => ?_, by rw [upM_y]; omega, by rw [upM_n _ _ _ (by omega)]; exact okD, fun i' hi' => by rw [upM_n _ _ _ (by omega), upM_n _ _ _ (by omega), upM_o _ _ _ (by omega)]; exact okE i' hi', by rw [upM_n _ _ _ (by omega)]; exact okF, fun i' hi' => ?_⟩
  · rw [upM_y] at ht
    rw [upM_o _ _ _ (by omega)]
    exact okB t' (by omega)
  · rw [upM_n _ _ _ (by omega)] at hi'
    rw [upM_o _ _ _ (by omega)]
    exact okG i' hi'
theorem ok_und {S' : Nat → Nat → Int} (ok : okS S') (k : Int) : okS (undF S' k).1 := by
  unfold undF
  split
  · exact ok
  · split
    · exact ok
    · refine okS_m0 (okS_up ok (ok.2.1 _ (by omega))) (by omega) ?_
      rw [upW_o _ _ (by omega)]
      omega
theorem ok_wri {S' : Nat → Nat → Int} (ok : okS S') (s v' : Int) : okS (wriF S' s v').1 := by
  unfold wriF
  split
  · exact ok
  · rename_i hA
    split
    · exact ok
    · rename_i hB'
      have hm' := okW_m ok.1
      show okS (wriS S' s v')
      obtain ⟨okA, okB, okC, okD, okE, okF, okG⟩ := ok
      refine ⟨by rw [wriS_o S' s v' (by omega)]; exact okA, fun t' ht => ?_, by rw [wriS_n S' s v' (by omega)]; exact okC, by rw [wriS_n S' s v' (by omega)]; exact okD, fun i' hi' => by rw [wriS_n S' s v' (by omega), wriS_n S' s v' (by omega), wriS_o S' s v' (by omega)]; exact okE i' hi', by rw [wriS_6]; omega, fun i' hi' => ?_⟩
      · rw [wriS_n S' s v' (by omega)] at ht
        rw [wriS_o S' s v' (by omega)]
        exact okB t' ht
      · rw [wriS_6] at hi'
        rw [wriS_20]
        by_cases c' : i' = (S' 19 6).toNat
        · rw [if_pos c']
          omega
        · rw [if_neg c']
          exact okG i' (by omega)
theorem ok_tea {S' : Nat → Nat → Int} (ok : okS S') : okS (teaF S').1 := by
  obtain ⟨okA, okB, okC, okD, okE, okF, okG⟩ := ok
  show okS (upM S' 6 0)
  refine ⟨by rw [upM_o _ _ _ (by omega)]; exact okA, fun t' ht => ?_, by rw [upM_n _ _ _ (by omega)]; exact okC, by rw [upM_n _ _ _ (by omega)]; exact okD, fun i' hi' => by rw [upM_n _ _ _ (by omega), upM_n _ _ _ (by omega), upM_o _ _ _ (by omega)]; exact okE i' hi', by rw [upM_y]; omega, fun i' hi' => ?_⟩
  · rw [upM_n _ _ _ (by omega)] at ht
    rw [upM_o _ _ _ (by omega)]
    exact okB t' ht
  · rw [upM_y] at hi'
    omega
theorem ok_see {S' : Nat → Nat → Int} (ok : okS S') {v' : Int} (hv : mm_in v') : okS (seeF S' v').1 := by
  unfold seeF
  split
  · exact okS_m1 ok (by assumption) hv.2
  · exact ok
theorem ok_kep {S' : Nat → Nat → Int} (ok : okS S') (i' : Int) : okS (kepF S' i').1 := by
  unfold kepF
  split
  · exact ok
  · rename_i hA
    obtain ⟨okA, okB, okC, okD, okE, okF, okG⟩ := ok
    obtain ⟨t', rfl⟩ := Int.eq_ofNat_of_zero_le (show 0 ≤ i' by omega)
    rw [Int.toNat_natCast]
    have ht : t' < 2 := by omega
    show okS (kepS S' t')
    refine ⟨by rw [kepS_0 S' (by omega) (by omega)]; exact okA, fun t' ht' => ?_, ?_, ?_, fun j' hj => ?_, ?_, fun j' hj => ?_⟩
    · rw [kepS_19 S' ht, if_neg (by omega), if_neg (by omega), if_pos rfl] at ht'
      omega
    · rw [kepS_19 S' ht, if_neg (by omega), if_neg (by omega), if_pos rfl]
      omega
    · rw [kepS_19 S' ht, if_neg (by omega), if_neg (by omega), if_neg (by omega)]
      exact okD
    · by_cases c' : j' = t'
      · subst c'
        have e1' : kepS S' j' 19 (2 + j') = 1 := by rw [kepS_19 S' ht, if_pos rfl]
        have e2' : kepS S' j' 19 (4 + j') = S' 19 1 := by rw [kepS_19 S' ht, if_neg (by omega), if_pos rfl]
        rw [e1', e2', kepS_i]
        exact ⟨Or.inr rfl, fun _ => ⟨okD, okA⟩⟩
      · have e1' : kepS S' t' 19 (2 + j') = S' 19 (2 + j') := by rw [kepS_19 S' ht, if_neg (by omega), if_neg (by omega), if_neg (by omega)]
        have e2' : kepS S' t' 19 (4 + j') = S' 19 (4 + j') := by rw [kepS_19 S' ht, if_neg (by omega), if_neg (by omega), if_neg (by omega)]
        rw [e1', e2', kepS_0 S' (by omega) (by omega)]
        exact okE j' hj
    · rw [kepS_19 S' ht, if_neg (by omega), if_neg (by omega), if_neg (by omega)]
      exact okF
    · rw [kepS_19 S' ht, if_neg (by omega), if_neg (by omega), if_neg (by omega)] at hj
      rw [kepS_0 S' (by omega) (by omega)]
      exact okG j' hj
theorem ok_bac {S' : Nat → Nat → Int} (ok : okS S') (i' : Int) : okS (bacF S' i').1 := by
  unfold bacF
  split
  · exact ok
  · rename_i hA
    split
    · exact ok
    · rename_i hB'
      have h' := (ok.2.2.2.2.1 i'.toNat (by omega)).2 hB'
      refine okS_m0 (okS_m1 (okS_up ok h'.2) h'.1.1 h'.1.2) (by omega) ?_
      rw [upM_n _ _ _ (by omega), upW_o _ _ (by omega)]
      exact ok.2.2.1.1
