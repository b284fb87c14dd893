/-! both programs find the same corners, edges and bent edges
-/
def cvx (g' k f v : Nat) : Nat := let p' := (mm_tb 0 (3 * k + (if v < f then v else v - 1))).toNat; if p' < g' then p' else p' + 1
theorem cvx_tab : ∀ g', g' < 4 → ∀ k, k < 6 → ∀ f, f < 4 → ∀ v, v < 4 → v = f ∨ (cvx f (mm_tb 1 k).toNat g' (cvx g' k f v) = v ∧ cvx g' k f v < 4) := by decide +kernel
theorem acN_cv (o k f v : Nat) : acN o k f v = 4 * (o / 4) + cvx (o % 4) k (f % 4) v := by
  show o - o % 4 + cvx (o % 4) k (f % 4) v = _
  rw [show o - o % 4 = 4 * (o / 4) by omega]
theorem acN_inv {o k f v : Nat} (hk : k < 6) (hv : v < 4) (hne : v ≠ f % 4) : acN f (mm_tb 1 k).toNat o (acN o k f v % 4) = 4 * (f / 4) + v := by
  rcases cvx_tab (o % 4) (by omega) k hk (f % 4) (by omega) v hv with h' | h'
  · exact absurd h' hne
  · rw [acN_cv o k f v, show (4 * (o / 4) + cvx (o % 4) k (f % 4) v) % 4 = cvx (o % 4) k (f % 4) v by omega, acN_cv, h'.1]
/-- what is known of a face that is glued -/
theorem gok_at {n : Nat} {pa wy : Nat → Int} (hg : gok n pa wy) {f : Nat} (hf : f < 12) (h' : ¬ pa f = -1) : ∃ o k : Nat, pa f = o ∧ wy f = k ∧ o < 4 * n ∧ k < 6 ∧ f < 4 * n ∧ pa o = f ∧ wy o = ((mm_tb 1 k).toNat : Int) ∧ o ≠ f := by
  rcases hg f hf with e' | ⟨e1', e2', e3', e4', e5', e6', e7', e8⟩
  · exact absurd e' h'
  · refine ⟨(pa f).toNat, (wy f).toNat, by omega, by omega, by omega, by omega, e1', e5', ?_, by omega⟩
    rw [e8]
    have : ∀ k, k < 6 → 0 ≤ mm_tb 1 k := by decide +kernel
    have := this (wy f).toNat (by omega)
    omega
theorem ged_sym : ∀ x', x' < 4 → ∀ y', y' < 4 → mm_tb 4 (4 * x' + y') = mm_tb 4 (4 * y' + x') := by decide +kernel
theorem ged_c {a b : Nat} (h' : a / 4 = b / 4) : ged a b = ged b a := by
  unfold ged
  rw [h', ged_sym (a % 4) (by omega) (b % 4) (by omega)]
theorem eof_ged (a b : Nat) : eof (4 * a + b % 4) = ged a b := by
  unfold eof ged
  rw [show (4 * a + b % 4) / 16 = a / 4 by omega, show (4 * a + b % 4) % 16 = 4 * (a % 4) + b % 4 by omega]
theorem skel_lead {n : Nat} {pa wy : Nat → Int} {f o k v u : Nat} (hf : f < 4 * n) (hl : f < o) (ho : pa f = o) (hk : wy f = k) (hv : v < 4) (hu : u < 4) (h1 : v ≠ f % 4) (h2 : u ≠ f % 4) :
    (skel n pa wy).1 (4 * (f / 4) + v) = (skel n pa wy).1 (acN o k f v) ∧ (v ≠ u → (skel n pa wy).2.1 (ged (4 * (f / 4) + v) (4 * (f / 4) + u)) = (skel n pa wy).2.1 (ged (acN o k f v) (acN o k f u)) ∧ (skel n pa wy).2.2 (4 * (4 * (f / 4) + v) + u) = (skel n pa wy).2.2 (4 * acN o k f v + acN o k f u % 4)) := by
  have av := acr_N ho hk h1
  have au := acr_N ho hk h2
  refine ⟨(skel_C n pa wy).2.1 _ _ ⟨f, hf, by omega, v, hv, by rw [av]; omega, rfl, by rw [av, Int.toNat_natCast]⟩, fun hne => ⟨?_, ?_⟩⟩
  · refine (skel_E n pa wy).2.1 _ _ ⟨f, hf, by omega, v, hv, u, hu, by rw [av]; omega, fun w' => hne w'.symm, by rw [au]; omega, ?_, ?_⟩
    · unfold sUx
      have := eof_ged (4 * (f / 4) + v) (4 * (f / 4) + u)
      rw [show (4 * (f / 4) + u) % 4 = u by omega] at this
      exact this.symm
    · unfold sUy
      rw [av, au, Int.toNat_natCast, Int.toNat_natCast, eof_ged]
  · refine (skel_A n pa wy).2.1 _ _ ⟨f, hf, by omega, v, hv, u, hu, by rw [av]; omega, fun w' => hne w'.symm, by rw [au]; omega, rfl, ?_⟩
    unfold sUy
    rw [av, au, Int.toNat_natCast, Int.toNat_natCast]
theorem skel_all {n : Nat} {pa wy : Nat → Int} (hn : n ≤ 3) (hg : gok n pa wy) {f o k v u : Nat} (hf : f < 4 * n) (ho : pa f = o) (hk : wy f = k) (hv : v < 4) (hu : u < 4) (h1 : v ≠ f % 4) (h2 : u ≠ f % 4) :
    (skel n pa wy).1 (4 * (f / 4) + v) = (skel n pa wy).1 (acN o k f v) ∧ (v ≠ u → (skel n pa wy).2.1 (ged (4 * (f / 4) + v) (4 * (f / 4) + u)) = (skel n pa wy).2.1 (ged (acN o k f v) (acN o k f u)) ∧ (skel n pa wy).2.2 (4 * (4 * (f / 4) + v) + u) = (skel n pa wy).2.2 (4 * acN o k f v + acN o k f u % 4)) := by
  obtain ⟨oo, kk, q1', q2', q3', q4', q5', q6, q7', q8'⟩ := gok_at hg (show f < 12 by omega) (by omega)
  have e1' : oo = o := by omega
  have e2' : kk = k := by omega
  subst e1'
  subst e2'
  by_cases hl : f < oo
  · exact skel_lead hf hl ho hk hv hu h1 h2
  · have bv' := acN_b (o := oo) (k := kk) (f := f) (v := v) (by omega) q4' hv h1
    have bu := acN_b (o := oo) (k := kk) (f := f) (v := u) (by omega) q4' hu h2
    have iv' := acN_inv (o := oo) q4' hv h1
    have iu := acN_inv (o := oo) q4' hu h2
    have := skel_lead (n := n) (pa := pa) (wy := wy) (f := oo) (o := f) (k := (mm_tb 1 kk).toNat) (v := acN oo kk f v % 4) (u := acN oo kk f u % 4) q3' (by omega) q6 q7' (by omega) (by omega) (by omega) (by omega)
    rw [iv', iu, show 4 * (oo / 4) + acN oo kk f v % 4 = acN oo kk f v by omega, show 4 * (oo / 4) + acN oo kk f u % 4 = acN oo kk f u by omega, show (4 * (f / 4) + u) % 4 = u by omega] at this
    refine ⟨this.1.symm, fun hne => ?_⟩
    have hne2 : acN oo kk f v % 4 ≠ acN oo kk f u % 4 := by
      have := acN_ne (o := oo) q4' hv hu h1 h2 hne
      omega
    exact ⟨(this.2 hne2).1.symm, (this.2 hne2).2.symm⟩
theorem room_skC {n : Nat} {pa wy : Nat → Int} (hn : n ≤ 3) (hg : gok n pa wy) (x' : Nat) : (room n pa wy).1 x' = (skel n pa wy).1 x' := by
  refine isLab_uniq (room_C n pa wy) (skel_C n pa wy) (fun x' y' h' => ?_) (fun x' y' h' => ?_) x'
  · obtain ⟨f, hf, hp, v, hv, u, hu, h1, h2, rfl, rfl⟩ := h'
    obtain ⟨o, k, q1', q2', q3', q4', q5', q6, q7', q8'⟩ := gok_at hg (show f < 12 by omega) hp
    rw [q1', q2', Int.toNat_natCast, Int.toNat_natCast]
    exact (skel_all hn hg hf q1' q2' hv hu h1 h2).1
  · obtain ⟨f, hf, hl, v, hv, h1, rfl, rfl⟩ := h'
    have hne : v ≠ f % 4 := by
      intro w'
      unfold acr at h1
      rw [if_pos (Or.inl w')] at h1
      omega
    refine (room_C n pa wy).2.1 _ _ ⟨f, hf, by omega, v, hv, v, hv, hne, hne, rfl, ?_⟩
    unfold acr
    rw [if_neg (by omega), Int.toNat_natCast]
theorem room_skE {n : Nat} {pa wy : Nat → Int} (hn : n ≤ 3) (hg : gok n pa wy) (x' : Nat) : (room n pa wy).2.1 x' = (skel n pa wy).2.1 x' := by
  refine isLab_uniq (room_E n pa wy) (skel_E n pa wy) (fun x' y' h' => ?_) (fun x' y' h' => ?_) x'
  · obtain ⟨f, hf, hp, v, hv, u, hu, h1, h2, h3, rfl, rfl⟩ := h'
    obtain ⟨o, k, q1', q2', q3', q4', q5', q6, q7', q8'⟩ := gok_at hg (show f < 12 by omega) hp
    rw [q1', q2', Int.toNat_natCast, Int.toNat_natCast]
    exact ((skel_all hn hg hf q1' q2' hv hu h1 h2).2 (by omega)).1
  · obtain ⟨f, hf, hl, v, hv, u, hu, h1, h2, h3, rfl, rfl⟩ := h'
    obtain ⟨o, k, q1', q2', q3', q4', q5', q6, q7', q8'⟩ := gok_at hg (show f < 12 by omega) (by omega)
    have hv4 : v ≠ f % 4 := by
      intro w'
      unfold acr at h1
      rw [if_pos (Or.inl w')] at h1
      omega
    have hu4 : u ≠ f % 4 := by
      intro w'
      unfold acr at h3
      rw [if_pos (Or.inl w')] at h3
      omega
    have av := acr_N q1' q2' hv4
    have au := acr_N q1' q2' hu4
    have bv' := acN_b (o := o) (k := k) (f := f) (v := v) (by omega) q4' hv hv4
    have bu := acN_b (o := o) (k := k) (f := f) (v := u) (by omega) q4' hu hu4
    have ex' : eof (sUx f v u) = ged (4 * (f / 4) + v) (4 * (f / 4) + u) := by
      have := eof_ged (4 * (f / 4) + v) (4 * (f / 4) + u)
      rw [show (4 * (f / 4) + u) % 4 = u by omega] at this
      exact this
    have ey : eof (sUy pa wy f v u) = ged (acN o k f v) (acN o k f u) := by
      unfold sUy
      rw [av, au, Int.toNat_natCast, Int.toNat_natCast, eof_ged]
    rw [ex', ey]
    by_cases hlt : v < u
    · exact (room_E n pa wy).2.1 _ _ ⟨f, hf, by omega, v, hv, u, hu, hv4, hu4, hlt, rfl, by rw [q1', q2', Int.toNat_natCast, Int.toNat_natCast]⟩
    · rw [ged_c (show (4 * (f / 4) + v) / 4 = (4 * (f / 4) + u) / 4 by omega), ged_c (show acN o k f v / 4 = acN o k f u / 4 by omega)]
      exact (room_E n pa wy).2.1 _ _ ⟨f, hf, by omega, u, hu, v, hv, hu4, hv4, by omega, rfl, by rw [q1', q2', Int.toNat_natCast, Int.toNat_natCast]⟩
/-! arrows: numbered otherwise
-/
def phA (m' : Nat) : Nat := if m' % 2 = 0 then 16 * (m' / 2 / 6) + 4 * elo (m' / 2 % 6) + ehi (m' / 2 % 6) else 16 * (m' / 2 / 6) + 4 * ehi (m' / 2 % 6) + elo (m' / 2 % 6)
def psA (a : Nat) : Nat := 2 * eof a + if a % 16 / 4 < a % 4 then 0 else 1
theorem ps_ph : ∀ m', m' < 36 → psA (phA m') = m' := by decide +kernel
theorem ph_ps : ∀ a, a < 48 → a % 16 / 4 ≠ a % 4 → phA (psA a) = a := by decide +kernel
theorem psA_g {a b : Nat} (h' : a / 4 = b / 4) : psA (4 * a + b % 4) = 2 * ged a b + if a < b then 0 else 1 := by
  unfold psA
  rw [eof_ged, show (4 * a + b % 4) % 16 / 4 = a % 4 by omega, show (4 * a + b % 4) % 4 = b % 4 by omega]
  by_cases q' : a < b
  · rw [if_pos q', if_pos (by omega)]
  · rw [if_neg q', if_neg (by omega)]
theorem roomA_p {n : Nat} {pa wy : Nat → Int} (hn : n ≤ 3) (hg : gok n pa wy) {f o k v u : Nat} (hf : f < 4 * n) (ho : pa f = o) (hk : wy f = k) (ho12 : o < 12) (hk6 : k < 6) (hv : v < 4) (hu : u < 4) (h1 : v ≠ f % 4) (h2 : u ≠ f % 4) (hne : v ≠ u) :
    (room n pa wy).2.2 (psA (4 * (4 * (f / 4) + v) + u)) = (room n pa wy).2.2 (psA (4 * acN o k f v + acN o k f u % 4)) := by
  have bv' := acN_b (o := o) (k := k) (f := f) (v := v) ho12 hk6 hv h1
  have bu := acN_b (o := o) (k := k) (f := f) (v := u) ho12 hk6 hu h2
  have an := acN_ne (o := o) hk6 hv hu h1 h2 hne
  have e1' := psA_g (a := 4 * (f / 4) + v) (b := 4 * (f / 4) + u) (by omega)
  rw [show (4 * (f / 4) + u) % 4 = u by omega] at e1'
  rw [e1', psA_g (by omega)]
  by_cases hlt : v < u
  · rw [if_pos (by omega)]
    refine (room_A n pa wy).2.1 _ _ ⟨f, hf, by omega, v, hv, u, hu, h1, h2, hlt, Or.inl ⟨rfl, ?_⟩⟩
    rw [ho, hk, Int.toNat_natCast, Int.toNat_natCast]
    by_cases c' : acN o k f v < acN o k f u
    · rw [if_pos c', if_neg (by omega)]
    · rw [if_neg c', if_pos (by omega)]
  · rw [if_neg (by omega), ged_c (show (4 * (f / 4) + v) / 4 = (4 * (f / 4) + u) / 4 by omega), ged_c (show acN o k f v / 4 = acN o k f u / 4 by omega)]
    refine (room_A n pa wy).2.1 _ _ ⟨f, hf, by omega, u, hu, v, hv, h2, h1, by omega, Or.inr ⟨rfl, ?_⟩⟩
    rw [ho, hk, Int.toNat_natCast, Int.toNat_natCast]
    by_cases c' : acN o k f v < acN o k f u
    · rw [if_pos c', if_pos (by omega)]
      omega
    · rw [if_neg c', if_neg (by omega)]
      omega
theorem ph_psc {a b : Nat} (h' : a < 12) (h1 : a / 4 = b / 4) (h2 : a % 4 ≠ b % 4) : phA (psA (4 * a + b % 4)) = 4 * a + b % 4 := by
  have e1' : (4 * a + b % 4) % 16 / 4 = a % 4 := by omega
  have e2' : (4 * a + b % 4) % 4 = b % 4 := by omega
  exact ph_ps _ (by omega) (by rw [e1', e2']; exact h2)
theorem arrow_iff {n : Nat} {pa wy : Nat → Int} (hn : n ≤ 3) (hg : gok n pa wy) {e' : Nat} (he : e' < 18) : rv (skel n pa wy).2.2 e' ↔ (room n pa wy).2.2 (2 * e') = (room n pa wy).2.2 (2 * e' + 1) := by
  have f0' : phA (2 * e') = 16 * (e' / 6) + 4 * elo (e' % 6) + ehi (e' % 6) := by
    unfold phA
    rw [if_pos (by omega), show 2 * e' / 2 = e' by omega]
  have f1' : phA (2 * e' + 1) = 16 * (e' / 6) + 4 * ehi (e' % 6) + elo (e' % 6) := by
    unfold phA
    rw [if_neg (by omega), show (2 * e' + 1) / 2 = e' by omega]
  unfold rv
  rw [← f0', ← f1']
  constructor
  · intro h'
    have key' : ∀ a, (room n pa wy).2.2 (psA ((skel n pa wy).2.2 a)) = (room n pa wy).2.2 (psA a) := by
      refine (skel_A n pa wy).2.2 (fun a => (room n pa wy).2.2 (psA a)) (fun x' y' hxy => ?_)
      obtain ⟨f, hf, hl, v, hv, u, hu, h1, h2, h3, rfl, rfl⟩ := hxy
      obtain ⟨o, k, q1', q2', q3', q4', q5', q6, q7', q8'⟩ := gok_at hg (show f < 12 by omega) (by omega)
      have hv4 : v ≠ f % 4 := by
        intro w'
        unfold acr at h1
        rw [if_pos (Or.inl w')] at h1
        omega
      have hu4 : u ≠ f % 4 := by
        intro w'
        unfold acr at h3
        rw [if_pos (Or.inl w')] at h3
        omega
      have := roomA_p hn hg hf q1' q2' (by omega) q4' hv hu hv4 hu4 (fun w' => h2 w'.symm)
      show (room n pa wy).2.2 (psA (sUx f v u)) = (room n pa wy).2.2 (psA (sUy pa wy f v u))
      unfold sUx sUy
      rw [acr_N q1' q2' hv4, acr_N q1' q2' hu4, Int.toNat_natCast, Int.toNat_natCast]
      exact this
    have k0' := key' (phA (2 * e'))
    have k1' := key' (phA (2 * e' + 1))
    rw [h', ps_ph _ (by omega)] at k0'
    rw [ps_ph _ (by omega)] at k1'
    exact k0'.symm.trans k1'
  · intro h'
    have key' : ∀ m', (skel n pa wy).2.2 (phA ((room n pa wy).2.2 m')) = (skel n pa wy).2.2 (phA m') := by
      refine (room_A n pa wy).2.2 (fun m' => (skel n pa wy).2.2 (phA m')) (fun x' y' hxy => ?_)
      obtain ⟨f, hf, hp, v, hv, u, hu, h1, h2, h3, h4⟩ := hxy
      obtain ⟨o, k, q1', q2', q3', q4', q5', q6, q7', q8'⟩ := gok_at hg (show f < 12 by omega) hp
      rw [q1', q2', Int.toNat_natCast, Int.toNat_natCast] at h4
      have bv' := acN_b (o := o) (k := k) (f := f) (v := v) (by omega) q4' hv h1
      have bu := acN_b (o := o) (k := k) (f := f) (v := u) (by omega) q4' hu h2
      have an := acN_ne (o := o) q4' hv hu h1 h2 (by omega)
      have e1' := psA_g (a := 4 * (f / 4) + v) (b := 4 * (f / 4) + u) (by omega)
      have e2' := psA_g (a := 4 * (f / 4) + u) (b := 4 * (f / 4) + v) (by omega)
      have e3' := psA_g (a := acN o k f v) (b := acN o k f u) (by omega)
      have e4' := psA_g (a := acN o k f u) (b := acN o k f v) (by omega)
      rw [show (4 * (f / 4) + u) % 4 = u by omega, if_pos (by omega)] at e1'
      rw [show (4 * (f / 4) + v) % 4 = v by omega, if_neg (by omega), ged_c (show (4 * (f / 4) + u) / 4 = (4 * (f / 4) + v) / 4 by omega)] at e2'
      rw [ged_c (show acN o k f u / 4 = acN o k f v / 4 by omega)] at e4'
      have p1' := ph_psc (a := 4 * (f / 4) + v) (b := 4 * (f / 4) + u) (by omega) (by omega) (by omega)
      have p2' := ph_psc (a := 4 * (f / 4) + u) (b := 4 * (f / 4) + v) (by omega) (by omega) (by omega)
      have p3' := ph_psc (a := acN o k f v) (b := acN o k f u) (by omega) (by omega) (by omega)
      have p4' := ph_psc (a := acN o k f u) (b := acN o k f v) (by omega) (by omega) (by omega)
      rw [show (4 * (f / 4) + u) % 4 = u by omega] at p1'
      rw [show (4 * (f / 4) + v) % 4 = v by omega] at p2'
      show (skel n pa wy).2.2 (phA x') = (skel n pa wy).2.2 (phA y')
      rcases h4 with ⟨h5, h6⟩ | ⟨h5, h6⟩
      · have hx : x' = psA (4 * (4 * (f / 4) + v) + u) := by rw [e1', h5]; rfl
        have hy : y' = psA (4 * acN o k f v + acN o k f u % 4) := by
          rw [e3', h6]
          by_cases c' : acN o k f v < acN o k f u
          · rw [if_pos c', if_neg (by omega)]
          · rw [if_neg c', if_pos (by omega)]
        rw [hx, hy, p1', p3']
        exact ((skel_all hn hg hf q1' q2' hv hu h1 h2).2 (by omega)).2
      · have hx : x' = psA (4 * (4 * (f / 4) + u) + v) := by rw [e2', h5]
        have hy : y' = psA (4 * acN o k f u + acN o k f v % 4) := by
          rw [e4', h6]
          by_cases c' : acN o k f u < acN o k f v
          · rw [if_pos c', if_pos (by omega)]
            omega
          · rw [if_neg c', if_neg (by omega)]
            omega
        rw [hx, hy, p2', p4']
        exact ((skel_all hn hg hf q1' q2' hu hv h2 h1).2 (by omega)).2
    have k0' := key' (2 * e')
    have k1' := key' (2 * e' + 1)
    rw [h'] at k0'
    exact k0'.symm.trans k1'
/-- an edge is bent where its line is -/
theorem bent_inv {n : Nat} {pa wy : Nat → Int} (hn : n ≤ 3) (hg : gok n pa wy) (e' : Nat) : (room n pa wy).2.2 (2 * (room n pa wy).2.1 e') = (room n pa wy).2.2 (2 * (room n pa wy).2.1 e' + 1) ↔ (room n pa wy).2.2 (2 * e') = (room n pa wy).2.2 (2 * e' + 1) := by
  have key' : ∀ e', (if (room n pa wy).2.2 (2 * (room n pa wy).2.1 e') = (room n pa wy).2.2 (2 * (room n pa wy).2.1 e' + 1) then 1 else 0) = (if (room n pa wy).2.2 (2 * e') = (room n pa wy).2.2 (2 * e' + 1) then 1 else 0 : Nat) := by
    refine (room_E n pa wy).2.2 (fun e' => if (room n pa wy).2.2 (2 * e') = (room n pa wy).2.2 (2 * e' + 1) then 1 else 0) (fun x' y' hxy => ?_)
    obtain ⟨f, hf, hp, v, hv, u, hu, h1, h2, h3, h4, h5⟩ := hxy
    have a1' := (room_A n pa wy).2.1 (2 * x') (2 * y' + if acN (pa f).toNat (wy f).toNat f u ≤ acN (pa f).toNat (wy f).toNat f v then 1 else 0) ⟨f, hf, hp, v, hv, u, hu, h1, h2, h3, Or.inl ⟨by rw [h4], by rw [h5]⟩⟩
    have a2 := (room_A n pa wy).2.1 (2 * x' + 1) (2 * y' + 1 - if acN (pa f).toNat (wy f).toNat f u ≤ acN (pa f).toNat (wy f).toNat f v then 1 else 0) ⟨f, hf, hp, v, hv, u, hu, h1, h2, h3, Or.inr ⟨by rw [h4], by rw [h5]⟩⟩
    show (if (room n pa wy).2.2 (2 * x') = (room n pa wy).2.2 (2 * x' + 1) then 1 else 0 : Nat) = _
    rw [a1', a2]
    by_cases c' : acN (pa f).toNat (wy f).toNat f u ≤ acN (pa f).toNat (wy f).toNat f v
    · rw [if_pos c']
      by_cases d' : (room n pa wy).2.2 (2 * y') = (room n pa wy).2.2 (2 * y' + 1)
      · rw [if_pos d', if_pos (by rw [show 2 * y' + 1 - 1 = 2 * y' by omega]; exact d'.symm)]
      · rw [if_neg d', if_neg (by rw [show 2 * y' + 1 - 1 = 2 * y' by omega]; exact fun w' => d' w'.symm)]
    · rw [if_neg c', Nat.add_zero, Nat.sub_zero]
  have := key' e'
  by_cases c' : (room n pa wy).2.2 (2 * e') = (room n pa wy).2.2 (2 * e' + 1)
  · rw [if_pos c'] at this
    refine ⟨fun _ => c', fun _ => ?_⟩
    by_cases d' : (room n pa wy).2.2 (2 * (room n pa wy).2.1 e') = (room n pa wy).2.2 (2 * (room n pa wy).2.1 e' + 1)
    · exact d'
    · rw [if_neg d'] at this
      omega
  · rw [if_neg c'] at this
    refine ⟨fun w' => ?_, fun w' => absurd w' c'⟩
    rw [if_pos w'] at this
    omega
theorem bent_iff {n : Nat} {pa wy : Nat → Int} (hn : n ≤ 3) (hg : gok n pa wy) {e' : Nat} (he : e' < 6 * n) : bent (room n pa wy) n e' (6 * n) ↔ (room n pa wy).2.2 (2 * e') = (room n pa wy).2.2 (2 * e' + 1) := by
  constructor
  · rintro ⟨k, hk, h1, h2⟩
    rw [← bent_inv hn hg e', ← h1, bent_inv hn hg k]
    exact h2
  · intro h'
    exact ⟨e', he, rfl, h'⟩
