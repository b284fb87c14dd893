/-! the queries: both programs answer alike
-/
theorem qst {I J S : Nat → Nat → Int} (hc : cSt I S) (hm : mSt J S) (ok : okS S) : ∃ n' : Nat, gw I n' ∧ shs I ∧ bkk I ∧ gM J n' ∧ shM J ∧ bkM J ∧ agW (MP J) (MY J) (I 3) (I 4) ∧ J 339 0 = I 2 0 ∧ J 339 1 = I 2 1 ∧
    (∀ s' : Nat, (s' : Int) < I 2 1 → (∀ i', i' < 21 → MN J (26 + 21 * s') i' = I (7 + 2 * s') i') ∧ b20 (I (7 + 2 * s')) ∧ ∀ i', 7 * n' ≤ i' → i' < 21 → I (7 + 2 * s') i' = 0) ∧ J 338 7 = I 299 2 ∧ J 338 1 = I 41 2 ∧ ∀ i' : Nat, (i' : Int) < I 299 2 → J 341 i' = I 300 i' ∧ J 342 i' = I 301 i' := by
  obtain ⟨n', hn, g1, g2, g3'⟩ := cSt_gw hc ok
  obtain ⟨np, hnp, k1', k2', k3', k4'⟩ := mSt_gM hm ok
  have en : np = n' := by omega
  subst en
  obtain ⟨cA', ⟨nx, ct, b1, b2, b3, b4, b5, b6⟩, cC, cD, cE, cF⟩ := id hc
  obtain ⟨mA, mB, mC, mD', mE, mF, mG, mH, mI⟩ := id hm
  obtain ⟨x1', x2', x3, x4', x5'⟩ := id cA'
  obtain ⟨y1, y2, y3, y4, y5⟩ := mW_0 mA
  obtain ⟨nn, m', okA, okB, okC, okD, okE, okF, okG⟩ := id ok.1
  have e1' : nn = np := by omega
  subst e1'
  refine ⟨nn, g1, g2, g3', k1', k2', k3', agW_t k4' (agW_s (agW_I cA')), by rw [y1, x1'], by rw [y2, x2'], fun s' hs => ?_, by rw [mG, cE], by rw [mB, b5, b4], fun i' hi' => ?_⟩
  · have hs2 : (s' : Int) < S 0 1 := by rw [← x2']; exact hs
    have e5' : ∀ i', i' < 21 → I (7 + 2 * s') i' = nw (S 0) s' i' := fun i' hi' => by
      have := x5' s' hs2 i' hi'
      simp only [Nat.reduceAdd] at this
      exact this
    refine ⟨fun i' hi' => ?_, g2.2.2 s' hs, fun i' h1 h2 => ?_⟩
    · rw [e5' i' hi']
      exact y5 s' hs2 i' hi'
    · rw [e5' i' h2]
      exact (okG s' (by omega) i' h2).2.2 h1
  · rw [cE] at hi'
    rw [(cF i' hi').1, (cF i' hi').2]
    exact mH i' hi'
theorem eq_wall {n' : Nat} {pm wm pa wy : Nat → Int} {b f q' z y : Int} (hn : n' ≤ 3) (hg : gok n' pa wy) (ha : agW pm wm pa wy) (h1 : wallR pa wy n' b f q' z) (h2 : wallR pm wm n' b f q' y) : z = y := by
  unfold wallR at h1 h2
  by_cases c1' : ¬ ((0 ≤ b ∧ b < (n' : Int)) ∧ 0 ≤ f ∧ f < 4)
  · rw [if_pos c1'] at h1 h2
    rw [h1, h2]
  rw [if_neg c1'] at h1 h2
  by_cases c2' : q' < 0 ∨ 2 < q'
  · rw [if_pos c2'] at h1 h2
    rw [h1, h2]
  rw [if_neg c2'] at h1 h2
  rw [ha.1 _ (by omega)] at h2
  by_cases c3' : pa (4 * b + f).toNat < 0
  · rw [if_pos c3'] at h1 h2
    rw [h1, h2]
  rw [if_neg c3'] at h1 h2
  rw [ha.2 _ (by omega) (by rw [ha.1 _ (by omega)]; omega)] at h2
  by_cases c4' : q' = 0
  · rw [if_pos c4'] at h1 h2
    rw [h1, h2]
  rw [if_neg c4'] at h1 h2
  by_cases c5' : q' = 1
  · rw [if_pos c5'] at h1 h2
    rw [h1, h2]
  rw [if_neg c5'] at h1 h2
  rw [h1, h2]
theorem eq_corner {n' : Nat} {pm wm pa wy : Nat → Int} {b f q' z y : Int} (hn : n' ≤ 3) (hg : gok n' pa wy) (ha : agW pm wm pa wy) (h1 : cornerR n' pa wy b f q' z) (h2 : cornerM n' (room n' pm wm) pm wm b f q' y) : z = y := by
  rw [room_cg hn ha (gok_cg hn (agW_s ha) hg)] at h2
  unfold cornerR at h1
  unfold cornerM at h2
  by_cases c1' : ¬ ((0 ≤ b ∧ b < (n' : Int)) ∧ 0 ≤ f ∧ f < 4)
  · rw [if_pos c1'] at h1 h2
    rw [h1, h2]
  rw [if_neg c1'] at h1 h2
  by_cases c2' : q' < 0 ∨ 4 < q'
  · rw [if_pos c2'] at h1 h2
    rw [h1, h2]
  rw [if_neg c2'] at h1 h2
  by_cases c4' : q' = 0
  · rw [if_pos c4'] at h1 h2
    rw [h1, h2, room_skC hn hg, nr_eqL (room_skC hn hg)]
  rw [if_neg c4'] at h1 h2
  rw [h1, h2, acr_cg ha (by omega)]
theorem eq_edge {n' : Nat} {pm wm pa wy : Nat → Int} {b f q' z y : Int} (hn : n' ≤ 3) (hg : gok n' pa wy) (ha : agW pm wm pa wy) (h1 : edgeR n' (skel n' pa wy) b f q' z) (h2 : edgeM n' (room n' pm wm) b f q' y) : z = y := by
  rw [room_cg hn ha (gok_cg hn (agW_s ha) hg)] at h2
  unfold edgeR at h1
  unfold edgeM at h2
  by_cases c1' : ¬ ((0 ≤ b ∧ b < (n' : Int)) ∧ 0 ≤ f ∧ f < 6)
  · rw [if_pos c1'] at h1 h2
    rw [h1, h2]
  rw [if_neg c1'] at h1 h2
  by_cases c2' : q' < 0 ∨ 2 < q'
  · rw [if_pos c2'] at h1 h2
    rw [h1, h2]
  rw [if_neg c2'] at h1 h2
  by_cases c4' : q' = 0
  · rw [if_pos c4'] at h1 h2
    rw [h1, h2, room_skE hn hg, nr_eqL (room_skE hn hg)]
  rw [if_neg c4'] at h1 h2
  by_cases c5' : q' = 1
  · rw [if_pos c5'] at h1 h2
    rw [h1, h2]
    exact sm_congr (fun k' _ => by rw [room_skE hn hg, room_skE hn hg])
  rw [if_neg c5'] at h1 h2
  refine bz_u h1 (bz_iff ?_ h2)
  obtain ⟨e', he⟩ : ∃ e', (6 * b + f).toNat = e' := ⟨_, rfl⟩
  have he18 : e' < 6 * n' := by omega
  rw [he, bent_iff hn hg he18, ← bent_inv hn hg e', ← arrow_iff hn hg, room_skE hn hg]
  have := (room_E n' pa wy).1 e'
  omega
theorem eq_pieces {I J S : Nat → Nat → Int} (hc : cSt I S) (hm : mSt J S) (ok : okS S) {s' b k' z y : Int} (h1 : piecesR I s' b k' z) (h2 : piecesM J s' b k' y) : z = y := by
  obtain ⟨n', g1, g2, g3', k1', k2', k3', ag, e0', e1', e2', e3', e4', e5'⟩ := qst hc hm ok
  unfold piecesR at h1
  unfold piecesM at h2
  rw [e0', e1'] at h2
  by_cases c1' : ¬ ((0 ≤ s' ∧ s' < I 2 1) ∧ (0 ≤ b ∧ b < I 2 0))
  · rw [if_pos c1'] at h1 h2
    rw [h1, h2]
  rw [if_neg c1'] at h1 h2
  by_cases c2' : ¬ (0 ≤ k' ∧ k' < 7)
  · rw [if_pos c2'] at h1 h2
    rw [h1, h2]
  rw [if_neg c2'] at h1 h2
  have hn0 := g1.1
  have hn3 := g1.2.2.1
  rw [h1, h2, (e2' s'.toNat (by omega)).1 _ (by omega)]
theorem eq_weight {I J S : Nat → Nat → Int} (hc : cSt I S) (hm : mSt J S) (ok : okS S) {s' b k' z y : Int} (h1 : weightR I s' b k' z) (h2 : weightM J s' b k' y) : z = y := by
  obtain ⟨n', g1, g2, g3', k1', k2', k3', ag, e0', e1', e2', e3', e4', e5'⟩ := qst hc hm ok
  unfold weightR at h1
  unfold weightM at h2
  rw [e0', e1'] at h2
  by_cases c1' : ¬ ((0 ≤ s' ∧ s' < I 2 1) ∧ (0 ≤ b ∧ b < I 2 0) ∧ 0 ≤ k' ∧ k' < 6)
  · rw [if_pos c1'] at h1 h2
    rw [h1, h2]
  rw [if_neg c1'] at h1 h2
  have hn0 := g1.1
  have hn3 := g1.2.2.1
  rw [h1, h2, wt_cg (e2' s'.toNat (by omega)).1 (by omega) (by omega)]
theorem eq_arcs {I J S : Nat → Nat → Int} (hc : cSt I S) (hm : mSt J S) (ok : okS S) {s' b f v z y : Int} (h1 : arcsR I s' b f v z) (h2 : arcsM J s' b f v y) : z = y := by
  obtain ⟨n', g1, g2, g3', k1', k2', k3', ag, e0', e1', e2', e3', e4', e5'⟩ := qst hc hm ok
  unfold arcsR at h1
  unfold arcsM at h2
  rw [e0', e1'] at h2
  by_cases c1' : ¬ ((0 ≤ s' ∧ s' < I 2 1) ∧ ((0 ≤ b ∧ b < I 2 0) ∧ 0 ≤ f ∧ f < 4) ∧ (0 ≤ v ∧ v < 4) ∧ v ≠ f)
  · rw [if_pos c1'] at h1 h2
    rw [h1, h2]
  rw [if_neg c1'] at h1 h2
  have hn0 := g1.1
  have hn3 := g1.2.2.1
  rw [h1, h2, ac_cg (e2' s'.toNat (by omega)).1 (by omega) (by omega) (by omega) (by omega)]
theorem eq_surf {I J S : Nat → Nat → Int} (hc : cSt I S) (hm : mSt J S) (ok : okS S) {n' np : Nat} (hn : gw I n') (hnp : gM J np) {s' q' z y : Int} (h1 : surfR I n' s' q' z) (h2 : surfM J np s' q' y) : z = y := by
  obtain ⟨m', g1, g2, g3', k1', k2', k3', ag, e0', e1', e2', e3', e4', e5'⟩ := qst hc hm ok
  have em : m' = n' := by have := g1.1; have := hn.1; omega
  have emp : m' = np := by have := k1'.1; have := hnp.1; omega
  subst em
  subst emp
  have hn3 := hn.2.2.1
  have hg := hn.2.2.2
  have hgm := k1'.2.2.2
  unfold surfR at h1
  unfold surfM at h2
  rw [e1'] at h2
  by_cases c1' : ¬ (0 ≤ s' ∧ s' < I 2 1)
  · rw [if_pos c1'] at h1 h2
    rw [h1, h2]
  rw [if_neg c1'] at h1 h2
  obtain ⟨f1', f2', f3'⟩ := e2' s'.toNat (by omega)
  obtain ⟨nb, hnb⟩ : ∃ nb, I (7 + 2 * s'.toNat) = nb := ⟨_, rfl⟩
  obtain ⟨nm, hnm⟩ : ∃ nm, MN J (26 + 21 * s'.toNat) = nm := ⟨_, rfl⟩
  rw [hnb] at f1' f2' f3' h1
  rw [hnm] at f1' h2
  by_cases c2' : q' < 0 ∨ 8 < q'
  · rw [if_pos c2'] at h1 h2
    rw [h1, h2]
  rw [if_neg c2'] at h1 h2
  by_cases c3' : q' = 0
  · rw [if_pos c3'] at h1 h2
    refine bz_u h1 (bz_iff ⟨fun w' => (mtA_mt hn3 hg).mp (mtA_ag hn3 ag hgm (mtA_cg hn3 hgm f1' w')), fun w' => mtA_cg hn3 hgm (fun i' hi' => (f1' i' hi').symm) (mtA_ag hn3 (agW_s ag) hg ((mtA_mt hn3 hg).mpr w'))⟩ h2)
  rw [if_neg c3'] at h1 h2
  by_cases c4' : q' = 1
  · rw [if_pos c4'] at h1 h2
    refine bz_u h1 (bz_iff ?_ h2)
    rw [crs_cg f1' hn3, crs_n hn3 f3']
  rw [if_neg c4'] at h1 h2
  by_cases c5' : q' = 2
  · rw [if_pos c5'] at h1 h2
    rw [h1, h2, sm_7n hn3 f3']
    exact sm_congr (fun k' hk => (f1' k' (by omega)).symm)
  rw [if_neg c5'] at h1 h2
  exact of_eq hn3 hg ag f2' f3' f1' (by omega) h1 h2
theorem fwrong_u {P Q : Nat → Prop} {ct : Nat} {z y : Int} (h : ∀ i', i' < ct → (P i' ↔ Q i')) (h1 : fwrong P ct z) (h2 : fwrong Q ct y) : z = y := by
  rcases h1 with ⟨a', b⟩ | ⟨i', a', b, c', d⟩
  · rcases h2 with ⟨e', f⟩ | ⟨j', e', f, g', k'⟩
    · omega
    · exact absurd ((h j' e').mp (b j' e')) g'
  · rcases h2 with ⟨e', f⟩ | ⟨j', e', f, g', k'⟩
    · exact absurd ((h i' a').mpr (f i' a')) c'
    · by_cases q' : i' < j'
      · exact absurd ((h i' a').mpr (k' i' q')) c'
      · by_cases r' : j' < i'
        · exact absurd ((h j' e').mp (d j' r')) g'
        · omega
theorem eq_told {I J S : Nat → Nat → Int} (hc : cSt I S) (hm : mSt J S) (ok : okS S) {n' np : Nat} (hn : gw I n') (hnp : gM J np) {q' z y : Int} (h1 : toldR I n' q' z) (h2 : toldM J np q' y) : z = y := by
  obtain ⟨m', g1, g2, g3', k1', k2', k3', ag, e0', e1', e2', e3', e4', e5'⟩ := qst hc hm ok
  have em : m' = n' := by have := g1.1; have := hn.1; omega
  have emp : m' = np := by have := k1'.1; have := hnp.1; omega
  subst em
  subst emp
  have hn3 := hn.2.2.1
  have hg := hn.2.2.2
  have hgm := k1'.2.2.2
  have eR := room_cg hn3 ag hgm
  have efr : frn (MP J) (4 * m') = frn (I 3) (4 * m') := frn_cg (fun j' hj => ag.1 j' (by omega))
  have nC : nr (room m' (I 3) (I 4)).1 (4 * m') = nr (skel m' (I 3) (I 4)).1 (4 * m') := nr_eqL (room_skC hn3 hg) _
  have nE : nr (room m' (I 3) (I 4)).2.1 (6 * m') = nr (skel m' (I 3) (I 4)).2.1 (6 * m') := nr_eqL (room_skE hn3 hg) _
  have ngc : ∀ g', ngM m' (MP J) (MY J) g' → ngM m' (I 3) (I 4) g' := by
    rintro g' ⟨k', a', b⟩
    refine ⟨k', fun e' he => ?_, b⟩
    have := a' e' he
    rw [eR] at this
    exact ⟨fun w' => goodZ_cg hn3 ag hgm (this.1 w'), this.2⟩
  unfold toldR at h1
  unfold toldM at h2
  rw [eR, efr, nC, nE, e0', e1', e3', e4'] at h2
  by_cases c' : q' < 0 ∨ 11 < q'
  · rw [if_pos c'] at h1 h2
    rw [h1, h2]
  rw [if_neg c'] at h1 h2
  by_cases c' : q' = 0
  · rw [if_pos c'] at h1 h2
    rw [h1, h2]
  rw [if_neg c'] at h1 h2
  by_cases c' : q' = 1
  · rw [if_pos c'] at h1 h2
    rw [h1, h2]
  rw [if_neg c'] at h1 h2
  by_cases c' : q' = 2
  · rw [if_pos c'] at h1 h2
    rw [h1, h2]
  rw [if_neg c'] at h1 h2
  by_cases c' : q' = 3
  · rw [if_pos c'] at h1 h2
    rw [h1, h2]
  rw [if_neg c'] at h1 h2
  by_cases c' : q' = 4
  · rw [if_pos c'] at h1 h2
    exact nrev_nbnt hn3 hg h1 h2
  rw [if_neg c'] at h1 h2
  by_cases c' : q' = 5
  · rw [if_pos c'] at h1 h2
    exact ngd_ngM hn3 hg h1 (ngc _ h2)
  rw [if_neg c'] at h1 h2
  by_cases c' : q' = 6
  · rw [if_pos c'] at h1 h2
    obtain ⟨a', a1', a2⟩ := h1
    obtain ⟨g', b, b1, b2, b3⟩ := h2
    have eab := nrev_nbnt hn3 hg a1' b2
    rcases a2 with ⟨a3, a4⟩ | ⟨a3, d, d1', d2'⟩
    · rw [a4]
      exact bz_u (bz_0 (fun w' => a3 (by omega))) b3
    · have edg := ngd_ngM hn3 hg d1' (ngc _ b1)
      refine bz_u d2' (bz_iff ?_ b3)
      omega
  rw [if_neg c'] at h1 h2
  by_cases c' : q' = 7
  · rw [if_pos c'] at h1 h2
    rw [h1, h2]
  rw [if_neg c'] at h1 h2
  by_cases c' : q' = 8
  · rw [if_pos c'] at h1 h2
    rw [h1, h2]
  rw [if_neg c'] at h1 h2
  by_cases c' : q' = 9
  · rw [if_pos c'] at h1 h2
    rw [h1, h2]
  rw [if_neg c'] at h1 h2
  by_cases c' : q' = 10
  · rw [if_pos c'] at h1 h2
    refine fwrong_u (fun i' hi' => ?_) h1 h2
    obtain ⟨x1', x2'⟩ := e5' i' (by omega)
    unfold btrue btM
    rw [x1', x2', e1']
    have hpos := g3'.2.2 i' (by omega)
    constructor
    · rintro ⟨w1', w2', w3'⟩
      obtain ⟨f1', f2', f3'⟩ := e2' (I 300 i').toNat (by omega)
      refine ⟨w1', ⟨?_, ?_⟩, ?_⟩
      · rw [crs_cg f1' hn3, crs_n hn3 f3']
        exact w2'.1
      · exact mtA_cg hn3 hgm (fun i' hi' => (f1' i' hi').symm) (mtA_ag hn3 (agW_s ag) hg ((mtA_mt hn3 hg).mpr w2'.2))
      · rw [eR, eulM_cg hn3 ag.1 (fun _ _ => rfl) f1', eul_eulM hn3 hg f3']
        exact w3'
    · rintro ⟨w1', ⟨w2', w3'⟩, w4'⟩
      obtain ⟨f1', f2', f3'⟩ := e2' (I 300 i').toNat (by omega)
      refine ⟨w1', ⟨?_, ?_⟩, ?_⟩
      · rw [crs_cg f1' hn3, crs_n hn3 f3'] at w2'
        exact w2'
      · exact (mtA_mt hn3 hg).mp (mtA_ag hn3 ag hgm (mtA_cg hn3 hgm f1' w3'))
      · rw [eR, eulM_cg hn3 ag.1 (fun _ _ => rfl) f1', eul_eulM hn3 hg f3'] at w4'
        exact w4'
  rw [if_neg c'] at h1 h2
  rw [h1, h2]
