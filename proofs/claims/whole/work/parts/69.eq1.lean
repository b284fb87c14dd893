/-! what is asked of a' surface: both programs alike
-/
theorem mtA_mt {n' : Nat} {pa wy nb : Nat → Int} (hn : n' ≤ 3) (hg : gok n' pa wy) : mtA n' pa wy nb (4 * n') 0 ↔ mt n' pa wy nb := by
  constructor
  · intro h' f v h1 h2 h3 h4
    exact h' f v (Or.inl h1) h1 h2 (by omega) h4
  · intro h' f v _ h1 h2 h3 h4
    obtain ⟨o, k, q1', q2', q3', q4', q5', q6, q7', q8'⟩ := gok_at hg (show f < 12 by omega) h3
    by_cases hl : f < o
    · exact h' f v h1 h2 (by omega) h4
    · have bv' := acN_b (o := o) (k := k) (f := f) (v := v) (by omega) q4' h2 h4
      have iv' := acN_inv (o := o) q4' h2 h4
      have := h' o (acN o k f v % 4) q3' (by omega) (by omega) (by omega)
      unfold mc at this ⊢
      rw [q6, q7', Int.toNat_natCast, Int.toNat_natCast, iv', show (4 * (f / 4) + v) % 4 = v by omega] at this
      rw [q1', q2', Int.toNat_natCast, Int.toNat_natCast]
      exact this.symm
theorem agW_s {pa wy pa' wy' : Nat → Int} (h' : agW pa wy pa' wy') : agW pa' wy' pa wy := ⟨fun j hj => (h'.1 j hj).symm, fun j hj hp => (h'.2 j hj (by rw [h'.1 j hj]; exact hp)).symm⟩
theorem agW_t {pa wy pa' wy' pb wb : Nat → Int} (h' : agW pa wy pa' wy') (g' : agW pa' wy' pb wb) : agW pa wy pb wb := ⟨fun j hj => (h'.1 j hj).trans (g'.1 j hj), fun j hj hp => (h'.2 j hj hp).trans (g'.2 j hj (by rw [← h'.1 j hj]; exact hp))⟩
theorem mtA_ag {n' : Nat} {pa wy pa' wy' nb : Nat → Int} (hn : n' ≤ 3) (h' : agW pa wy pa' wy') (hg : gok n' pa wy) {m' v0' : Nat} (hm' : mtA n' pa wy nb m' v0') : mtA n' pa' wy' nb m' v0' := by
  intro f v h1 h2 h3 h4 h5
  have hf : ¬ pa f = -1 := by rw [h'.1 f (by omega)]; exact h4
  have := hm' f v h1 h2 h3 hf h5
  unfold mc at this ⊢
  rw [← h'.1 f (by omega), ← h'.2 f (by omega) (by rcases hg f (by omega) with e' | e' <;> omega)]
  exact this
theorem sm_7n {nb : Nat → Int} {n' : Nat} (hn : n' ≤ 3) (hz : ∀ i, 7 * n' ≤ i → i < 21 → nb i = 0) : sm nb 21 = sm nb (7 * n') := by
  have : ∀ m', 7 * n' ≤ m' → m' ≤ 21 → sm nb m' = sm nb (7 * n') := by
    intro m' hm'
    induction hm' with
    | refl => intro _; rfl
    | step hm' ih =>
      rename_i m'
      intro h'
      show sm nb m' + nb m' = _
      rw [ih (by omega), hz m' hm' (by omega), Int.add_zero]
  exact this 21 (by omega) (by omega)
theorem cp_7n {nb : Nat → Int} {n' : Nat} (hn : n' ≤ 3) (hz : ∀ i, 7 * n' ≤ i → i < 21 → nb i = 0) : cp nb 21 = cp nb (7 * n') := by
  have : ∀ m', 7 * n' ≤ m' → m' ≤ 21 → cp nb m' = cp nb (7 * n') := by
    intro m' hm'
    induction hm' with
    | refl => intro _; rfl
    | step hm' ih =>
      rename_i m'
      intro h'
      show (if cp nb m' ≤ 6000 then cp nb m' * (nb m' + 1) else cp nb m') = _
      rw [ih (by omega), hz m' hm' (by omega)]
      split
      · rw [Int.zero_add, Int.mul_one]
      · rfl
  exact this 21 (by omega) (by omega)
theorem eul_eulM {n' : Nat} {pa wy nb : Nat → Int} (hn : n' ≤ 3) (hg : gok n' pa wy) (hz : ∀ i, 7 * n' ≤ i → i < 21 → nb i = 0) : eulM n' pa (room n' pa wy).2.1 nb = eul n' pa (skel n' pa wy).2.1 nb := by
  unfold eulM eul
  rw [sm_7n hn hz, wsum_cg hn (fun e' _ => room_skE hn hg e') (fun _ _ => rfl)]
/-! complements -/
theorem cm_mod {w' x' : Nat} (h' : x' % w' = 0) (hx : 0 < x') (h2 : x' < 2 * w') : x' = w' := by
  by_cases q' : x' < w'
  · rw [Nat.mod_eq_of_lt q'] at h'
    omega
  · rw [Nat.mod_eq_sub_mod (by omega), Nat.mod_eq_of_lt (by omega)] at h'
    omega
theorem cm {w' i j Q : Nat} (hw : 0 < w') (h' : i + j + 1 = w' * Q) : i / w' + j / w' + 1 = Q ∧ i % w' + j % w' + 1 = w' := by
  have a' := Nat.div_add_mod i w'
  have b' := Nat.div_add_mod j w'
  have c' := Nat.mod_lt i hw
  have d' := Nat.mod_lt j hw
  have e' : w' * (i / w' + j / w') + (i % w' + j % w' + 1) = w' * Q := by
    rw [Nat.mul_add]
    omega
  have f : (i % w' + j % w' + 1) % w' = 0 := by
    have : (w' * (i / w' + j / w') + (i % w' + j % w' + 1)) % w' = 0 := by rw [e', Nat.mul_mod_right]
    rw [Nat.mul_add_mod] at this
    exact this
  have g' := cm_mod f (by omega) (by omega)
  refine ⟨?_, g'⟩
  refine Nat.eq_of_mul_eq_mul_left hw ?_
  rw [← e', g', Nat.mul_add, Nat.mul_one]
theorem wp_dvd (nb : Nat → Int) {k m' : Nat} (h' : k ≤ m') : ∃ R', wp nb m' = wp nb k * R' := by
  induction h' with
  | refl => exact ⟨1, (Nat.mul_one _).symm⟩
  | step _ ih =>
    rename_i m' _
    obtain ⟨R', hR⟩ := ih
    exact ⟨R' * ((nb m').toNat + 1), by show wp nb m' * _ = _; rw [hR, Nat.mul_assoc]⟩
theorem dg_cm {nb : Nat → Int} {i j k m' : Nat} (hk : k < m') (h' : i + j + 1 = wp nb m') : dg nb i k + dg nb j k = (nb k).toNat := by
  obtain ⟨R', hR⟩ := wp_dvd nb (show k + 1 ≤ m' from hk)
  have e' : wp nb (k + 1) = wp nb k * ((nb k).toNat + 1) := rfl
  rw [hR, e', Nat.mul_assoc] at h'
  have a' := (cm (wp_pos nb k) h').1
  have b' := (cm (show 0 < (nb k).toNat + 1 by omega) a').2
  unfold dg
  omega
theorem mt_sub {n' : Nat} {pa wy p q' r : Nat → Int} (hn : n' ≤ 3) (hg : gok n' pa wy) (h' : ∀ k, k < 21 → p k + q' k = r k) (hp : mt n' pa wy p) (hr : mt n' pa wy r) : mt n' pa wy q' := by
  intro f v h1 h2 h3 h4
  have a' := hp f v h1 h2 h3 h4
  have b' := hr f v h1 h2 h3 h4
  obtain ⟨o, k, q1', q2', q3', q4', q5', q6, q7'⟩ := gok_lead hg (show f < 12 by omega) h3
  have bv' := acN_b (o := o) (k := k) (f := f) (v := v) (by omega) q4' h2 h4
  have e1' := (tg_tab v h2 (f % 4) (by omega) h4).2
  have e2' := (tg_tab (acN o k f v % 4) (by omega) (o % 4) (by omega) (by omega)).2
  unfold mc ac at a' b' ⊢
  rw [q1', q2', Int.toNat_natCast, Int.toNat_natCast] at a' b' ⊢
  have c1' := h' (7 * (f / 4) + v) (by omega)
  have c2' := h' (7 * (f / 4) + tg v (f % 4)) (by omega)
  have c3' := h' (7 * (o / 4) + acN o k f v % 4) (by omega)
  have c4' := h' (7 * (o / 4) + tg (acN o k f v % 4) (o % 4)) (by omega)
  omega
theorem spl_iff {n' : Nat} {pa wy nb : Nat → Int} (hn : n' ≤ 3) (hg : gok n' pa wy) (hb' : b20 nb) (hm' : mt n' pa wy nb) (hz : ∀ i, 7 * n' ≤ i → i < 21 → nb i = 0) (hc' : cp nb 21 ≤ 6000) : (∃ i : Nat, 1 ≤ i ∧ (i : Int) + 1 < cp nb (7 * n') ∧ splN n' pa wy nb i) ↔ spl n' pa wy nb := by
  have hw := cp_wp hb' (Nat.le_refl 21) hc'
  rw [← cp_7n hn hz]
  constructor
  · rintro ⟨i, h1, h2, h3⟩
    have h4 := (mtA_mt hn hg).mp h3
    by_cases q' : 2 * (i : Int) < cp nb 21
    · exact ⟨i, h1, q', h4⟩
    · refine ⟨wp nb 21 - 1 - i, by omega, by omega, mt_sub hn hg (p := fun k => (dg nb i k : Int)) (r := nb) (fun k hk => ?_) h4 hm'⟩
      have := dg_cm (nb := nb) (i := i) (j := wp nb 21 - 1 - i) hk (by omega)
      have := (hb' k hk).1
      show (dg nb i k : Int) + (dg nb (wp nb 21 - 1 - i) k : Int) = nb k
      omega
  · rintro ⟨i, h1, h2, h3⟩
    exact ⟨i, h1, by omega, (mtA_mt hn hg).mpr h3⟩
/-- all that is asked of a' surface that is normal -/
theorem of_eq {n' : Nat} {pa wy pm wm nb nm : Nat → Int} {q' z y : Int} (hn : n' ≤ 3) (hg : gok n' pa wy) (ha : agW pm wm pa wy) (hb' : b20 nb) (hz : ∀ i, 7 * n' ≤ i → i < 21 → nb i = 0) (he : ∀ i, i < 21 → nm i = nb i) (hq : 3 ≤ q' ∧ q' ≤ 8)
    (h1 : (¬ crs nb 3 ∧ mt n' pa wy nb → ofN n' pa wy nb (skel n' pa wy).2.1 q' z) ∧ (¬ (¬ crs nb 3 ∧ mt n' pa wy nb) → z = -1))
    (h2 : if q' = 7 then nameZ n' pm wm nm y else if q' = 8 then splZ n' pm wm nm y else ofZ n' pm wm nm q' y) : z = y := by
  have hgm := gok_cg hn (agW_s ha) hg
  have ew : wellM n' pm wm nm ↔ (¬ crs nb 3 ∧ mt n' pa wy nb) := by
    unfold wellM
    rw [crs_cg he hn, crs_n hn hz]
    refine and_congr Iff.rfl ⟨fun w' => (mtA_mt hn hg).mp (mtA_ag hn ha hgm (mtA_cg hn hgm he w')), fun w' => mtA_cg hn hgm (fun i hi' => (he i hi').symm) (mtA_ag hn (agW_s ha) hg ((mtA_mt hn hg).mpr w'))⟩
  by_cases hw : ¬ crs nb 3 ∧ mt n' pa wy nb
  · have o := h1.1 hw
    have hm' := hw.2
    have eE : eulM n' pm (room n' pm wm).2.1 nm = eul n' pa (skel n' pa wy).2.1 nb := by
      rw [room_cg hn ha hgm, eulM_cg hn ha.1 (fun _ _ => rfl) he, eul_eulM hn hg hz]
    have eB : bdy n' pm nm = bdy n' pa nb := bdy_cg hn ha.1 he
    have eJ : joi n' pm wm nm = joi n' pa wy nb := joi_cg hn ha hgm he
    have p0' : ∀ c', pcnt nm n' (joi n' pm wm nm) 0 c' → c' = ncomp n' pa wy nb := fun c' hc' => by
      rw [eJ] at hc'
      exact pcnt_0 hn hg hb' hm' hz (pcnt_cg he hn hc')
    have p1' : ∀ c', pcnt nm n' (joi n' pm wm nm) 1 c' → c' = ntwo n' pa wy nb := fun c' hc' => by
      rw [eJ] at hc'
      exact pcnt_1 hn hg hb' hm' hz (pcnt_cg he hn hc')
    obtain ⟨o3', o4', o5', o6, o7, o8'⟩ := o
    by_cases q7' : q' = 7
    · rw [if_pos q7'] at h2
      obtain ⟨C, D, c1', c2', c3'⟩ := h2.1 (ew.mpr hw)
      rw [o7 q7', c3', p0' C c1', p1' D c2', eE, eB]
    · rw [if_neg q7'] at h2
      by_cases q8' : q' = 8
      · rw [if_pos q8'] at h2
        have s1' := h2.1 (ew.mpr hw)
        have s2' := o8' q8'
        have ecp : cp nm (7 * n') = cp nb 21 := by
          rw [cp_7n hn hz]
          have : ∀ m', m' ≤ 21 → cp nm m' = cp nb m' := by
            intro m'
            induction m' with
            | zero => intro _; rfl
            | succ m' ih =>
              intro h'
              show (if cp nm m' ≤ 6000 then cp nm m' * (nm m' + 1) else cp nm m') = (if cp nb m' ≤ 6000 then cp nb m' * (nb m' + 1) else cp nb m')
              rw [ih (by omega), he m' (by omega)]
          exact this _ (by omega)
        have ewp : ∀ m', m' ≤ 21 → wp nm m' = wp nb m' := by
          intro m'
          induction m' with
          | zero => intro _; rfl
          | succ m' ih =>
            intro h'
            show wp nm m' * ((nm m').toNat + 1) = wp nb m' * ((nb m').toNat + 1)
            rw [ih (by omega), he m' (by omega)]
        rw [ecp] at s1'
        rcases s2' with ⟨a1', a2⟩ | ⟨a1', a2⟩
        · rcases s1' with ⟨b1, b2⟩ | ⟨b1, b2⟩
          · omega
          · omega
        · rcases s1' with ⟨b1, b2⟩ | ⟨b1, b2⟩
          · omega
          · have hs := spl_iff hn hg hb' hm' hz a1'
            rw [← cp_7n hn hz] at hs
            refine bz_u a2 (bz_iff ?_ b2)
            rw [← hs]
            have key' : ∀ i, splN n' pm wm nm i ↔ splN n' pa wy nb i := by
              intro i
              have ed : ∀ k, k < 21 → ((dg nm i k : Nat) : Int) = (dg nb i k : Int) := by
                intro k hk
                unfold dg
                rw [ewp k (by omega), he k hk]
              unfold splN
              exact ⟨fun w' => mtA_ag hn ha hgm (mtA_cg hn hgm ed w'), fun w' => mtA_cg hn hgm (fun k hk => (ed k hk).symm) (mtA_ag hn (agW_s ha) hg w')⟩
            exact ⟨fun ⟨i, x1', x2', x3⟩ => ⟨i, x1', x2', (key' i).mp x3⟩, fun ⟨i, x1', x2', x3⟩ => ⟨i, x1', x2', (key' i).mpr x3⟩⟩
      · rw [if_neg q8'] at h2
        obtain ⟨s3', s4', s5, s6'⟩ := h2.1 (ew.mpr hw)
        by_cases q3' : q' = 3
        · rw [o3' q3', s3' q3', eE]
        by_cases q4' : q' = 4
        · rw [o4' q4', p0' y (s4' q4')]
        by_cases q5' : q' = 5
        · rw [o5' q5', s5 q5', eB]
        have q6 : q' = 6 := by omega
        rw [o6 q6, p1' y (s6' q6)]
  · rw [h1.2 hw]
    have hnw : ¬ wellM n' pm wm nm := fun w' => hw (ew.mp w')
    by_cases q7' : q' = 7
    · rw [if_pos q7'] at h2
      exact (h2.2 hnw).symm
    · rw [if_neg q7'] at h2
      by_cases q8' : q' = 8
      · rw [if_pos q8'] at h2
        exact (h2.2 hnw).symm
      · rw [if_neg q8'] at h2
        exact (h2.2 hnw).symm
/-- the bent lines counted -/
theorem nrev_nbnt {n' : Nat} {pa wy : Nat → Int} (hn : n' ≤ 3) (hg : gok n' pa wy) {z y : Int} (h1 : nrev (skel n' pa wy) n' z) (h2 : nbnt (room n' pa wy) n' y) : z = y := by
  obtain ⟨g', a1', rfl⟩ := h1
  obtain ⟨k, a2, rfl⟩ := h2
  refine sm_congr (fun e' he => bz_u (a1' e' he) (bz_iff ?_ (a2 e' he)))
  rw [room_skE hn hg e', bent_iff hn hg he, arrow_iff hn hg (by omega)]
/-- the good corners counted -/
theorem ngd_ngM {n' : Nat} {pa wy : Nat → Int} (hn : n' ≤ 3) (hg : gok n' pa wy) {z y : Int} (h1 : ngd n' pa wy z) (h2 : ngM n' pa wy y) : z = y := by
  obtain ⟨g', a1', rfl⟩ := h1
  obtain ⟨k, a2, rfl⟩ := h2
  have eC' : ∀ x', (room n' pa wy).1 x' = (skel n' pa wy).1 x' := room_skC hn hg
  rw [sm_roots]
  refine sm_congr (fun e' he => ?_)
  obtain ⟨b1, b2⟩ := a2 e' he
  by_cases r : (skel n' pa wy).1 e' = e'
  · rw [if_pos r]
    have hr : (room n' pa wy).1 e' = e' := by rw [eC']; exact r
    obtain ⟨c', c1', c2'⟩ := b1 hr
    have hlt : nr (skel n' pa wy).1 e' < nr (skel n' pa wy).1 (4 * n') := by
      have := nr_mono (skel n' pa wy).1 (show e' + 1 ≤ 4 * n' by omega)
      have e1' : nr (skel n' pa wy).1 (e' + 1) = nr (skel n' pa wy).1 e' + 1 := by
        unfold nr
        show sm _ e' + (if (skel n' pa wy).1 e' = e' then 1 else 0) = _
        rw [if_pos r]
      omega
    have hb0 := nr_b (skel n' pa wy).1 e'
    obtain ⟨nb, n1', n2⟩ := a1' (nr (skel n' pa wy).1 e').toNat (by omega)
    have en : ∀ i, i < 21 → lkM n' (room n' pa wy).1 e' i = nb i := by
      intro i hi'
      rw [lkM_lk hn hg hr, n1' i hi', Int.toNat_of_nonneg hb0.1]
    have hz : ∀ i, 7 * n' ≤ i → i < 21 → nb i = 0 := by
      intro i h3 h4
      rw [← en i h4]
      unfold lkM
      rw [if_neg (by omega)]
    have hb' : b20 nb := b20_cg en (lkM_b _ _ _)
    have hmA := mtA_cg hn hg en (lkM_mt hn hg e' (4 * n') 0)
    have hm' : mt n' pa wy nb := (mtA_mt hn hg).mp hmA
    rw [joi_cg hn ⟨fun _ _ => rfl, fun _ _ _ => rfl⟩ hg en] at c1'
    have ec := pcnt_0 hn hg hb' hm' hz (pcnt_cg en hn c1')
    refine bz_u n2 (bz_iff ?_ c2')
    unfold good
    rw [ec, eulM_cg hn (fun _ _ => rfl) (fun _ _ => rfl) en, bdy_cg hn (fun _ _ => rfl) en, eul_eulM hn hg hz]
  · rw [if_neg r]
    exact (b2 (by rw [eC']; exact r)).symm
