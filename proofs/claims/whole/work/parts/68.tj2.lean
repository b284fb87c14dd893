/-! the parts counted
-/
theorem xr {x : Nat} (h' : x < 1024) : (x ^^^ 1) / 2 = x / 2 ∧ (x ^^^ 1) % 2 = 1 - x % 2 ∧ x ^^^ 1 < 1024 := by
  rw [xor1 x h']
  split <;> omega
theorem xr_eq {x a' b' : Nat} (h' : x = 2 * a' + b') (hb' : b' < 2) (hx : x < 1024) : x ^^^ 1 = 2 * a' + (1 - b') := by
  rw [xor1 x hx]
  split <;> omega
theorem arc_ok {n : Nat} {pa wy nb : Nat → Int} (hn : n ≤ 3) (hg : gok n pa wy) (hm' : mt n pa wy nb) {f v i' : Nat} (h' : arc n pa wy nb f v i') :
    (f < 12 ∧ v < 4 ∧ v ≠ f % 4 ∧ (i' : Int) < ac nb (f / 4) (f % 4) v) ∧ ((pa f).toNat < 12 ∧ (acr pa wy f v).toNat % 4 < 4 ∧ (acr pa wy f v).toNat % 4 ≠ (pa f).toNat % 4 ∧ (i' : Int) < ac nb ((pa f).toNat / 4) ((pa f).toNat % 4) ((acr pa wy f v).toNat % 4)) := by
  obtain ⟨h1, h2, h3, h4, h5⟩ := h'
  obtain ⟨o, k, q1', q2', q3', q4', q5', q6, q7'⟩ := gok_lead hg (show f < 12 by omega) h2
  have hv4 : v ≠ f % 4 := by
    intro w'
    unfold acr at h4
    rw [if_pos (Or.inl w')] at h4
    omega
  have av := acr_N q1' q2' hv4
  have bv' := acN_b (o := o) (k := k) (f := f) (v := v) (by omega) q4' h3 hv4
  have hc' := hm' f v h1 h3 h2 hv4
  unfold mc at hc'
  rw [q1', q2', Int.toNat_natCast, Int.toNat_natCast] at hc'
  rw [av, q1', Int.toNat_natCast, Int.toNat_natCast]
  refine ⟨⟨by omega, h3, hv4, by omega⟩, by omega, by omega, by omega, by omega⟩
theorem psS_b {nb : Nat → Int} (h' : b20 nb) {x : Nat} (hx : thP nb (x / 2)) : phS nb (psS nb x) = x ∧ psS nb x < 2 * so nb 21 ∧ x < 840 ∧ psS nb x < 840 ∧ psS nb x / 2 = psP nb (x / 2) ∧ psS nb x % 2 = x % 2 := by
  have h1 := psP_1 h' hx
  have h2 := so_le h' (k := 0) (by omega)
  have h3 := hx.1
  have e1' : psS nb x / 2 = psP nb (x / 2) := by unfold psS; omega
  have e2' : psS nb x % 2 = x % 2 := by unfold psS; omega
  refine ⟨?_, by unfold psS; omega, by omega, by unfold psS; omega, e1', e2'⟩
  unfold phS
  rw [e1', e2', h1.1]
  omega
theorem psS_x {nb : Nat → Int} (h' : b20 nb) {x : Nat} (hx : thP nb (x / 2)) : thP nb ((x ^^^ 1) / 2) ∧ psS nb (x ^^^ 1) = psS nb x ^^^ 1 := by
  obtain ⟨h1, h2, h3, h4, h5, h6⟩ := psS_b h' hx
  have a' := xr (x := x) (by omega)
  have b' := xr (x := psS nb x) (by omega)
  refine ⟨by rw [a'.1]; exact hx, ?_⟩
  have : psS nb (x ^^^ 1) = 2 * psP nb (x / 2) + (1 - x % 2) := by
    unfold psS
    rw [a'.1, a'.2.1]
  rw [this]
  omega
theorem phS_b {nb : Nat → Int} (h' : b20 nb) {x : Nat} (hx : x < 2 * so nb 21) : thP nb (phS nb x / 2) ∧ psS nb (phS nb x) = x := by
  have h1 := phP_1 h' (show x / 2 < so nb 21 by omega)
  have e1' : phS nb x / 2 = phP nb (x / 2) := by unfold phS; omega
  have e2' : phS nb x % 2 = x % 2 := by unfold phS; omega
  refine ⟨by rw [e1']; exact h1.1, ?_⟩
  unfold psS
  rw [e1', e2', h1.2]
  omega
theorem phS_x {nb : Nat → Int} (h' : b20 nb) {x : Nat} (hx : thP nb (x / 2)) : phS nb (psS nb x ^^^ 1) = x ^^^ 1 := by
  have := psS_x h' hx
  rw [← this.2, (psS_b h' this.1).1]
theorem Q1_to {n : Nat} {pa wy nb : Nat → Int} (hn : n ≤ 3) (hg : gok n pa wy) (hb' : b20 nb) (hm' : mt n pa wy nb) : (∀ x y', Q1 (sdM nb) n pa wy nb x y' → thP nb x ∧ thP nb y' ∧ Q1 (sd nb) n pa wy nb (psP nb x) (psP nb y')) ∧ ∀ x y', Q1 (sd nb) n pa wy nb x y' → Q1 (sdM nb) n pa wy nb (phP nb x) (phP nb y') := by
  constructor
  · rintro x y' ⟨f, v, i', ha', rfl, rfl⟩
    obtain ⟨⟨a1', a2, a3, a4⟩, b1, b2, b3, b4⟩ := arc_ok hn hg hm' ha'
    obtain ⟨s1', s2'⟩ := sdM_sd hb' a1' a2 a3 a4
    obtain ⟨s3', s4'⟩ := sdM_sd hb' b1 b2 b3 b4
    refine ⟨s1', s3', f, v, i', ha', ?_, ?_⟩
    · rw [s2', (psS_b hb' s1').2.2.2.2.1]
    · rw [s4', (psS_b hb' s3').2.2.2.2.1]
  · rintro x y' ⟨f, v, i', ha', rfl, rfl⟩
    obtain ⟨⟨a1', a2, a3, a4⟩, b1, b2, b3, b4⟩ := arc_ok hn hg hm' ha'
    obtain ⟨s1', s2'⟩ := sdM_sd hb' a1' a2 a3 a4
    obtain ⟨s3', s4'⟩ := sdM_sd hb' b1 b2 b3 b4
    refine ⟨f, v, i', ha', ?_, ?_⟩
    · rw [s2', (psS_b hb' s1').2.2.2.2.1, (psP_1 hb' s1').1]
    · rw [s4', (psS_b hb' s3').2.2.2.2.1, (psP_1 hb' s3').1]
theorem Q2_to {n : Nat} {pa wy nb : Nat → Int} (hn : n ≤ 3) (hg : gok n pa wy) (hb' : b20 nb) (hm' : mt n pa wy nb) : (∀ x y', Q2 (sdM nb) n pa wy nb x y' → thP nb (x / 2) ∧ thP nb (y' / 2) ∧ Q2 (sd nb) n pa wy nb (psS nb x) (psS nb y')) ∧ ∀ x y', Q2 (sd nb) n pa wy nb x y' → Q2 (sdM nb) n pa wy nb (phS nb x) (phS nb y') := by
  constructor
  · rintro x y' ⟨f, v, i', ha', hxy⟩
    obtain ⟨⟨a1', a2, a3, a4⟩, b1, b2, b3, b4⟩ := arc_ok hn hg hm' ha'
    obtain ⟨s1', s2'⟩ := sdM_sd hb' a1' a2 a3 a4
    obtain ⟨s3', s4'⟩ := sdM_sd hb' b1 b2 b3 b4
    rcases hxy with ⟨rfl, rfl⟩ | ⟨rfl, rfl⟩
    · exact ⟨s1', s3', f, v, i', ha', Or.inl ⟨s2'.symm, s4'.symm⟩⟩
    · refine ⟨(psS_x hb' s1').1, (psS_x hb' s3').1, f, v, i', ha', Or.inr ⟨?_, ?_⟩⟩
      · rw [(psS_x hb' s1').2, s2']
      · rw [(psS_x hb' s3').2, s4']
  · rintro x y' ⟨f, v, i', ha', hxy⟩
    obtain ⟨⟨a1', a2, a3, a4⟩, b1, b2, b3, b4⟩ := arc_ok hn hg hm' ha'
    obtain ⟨s1', s2'⟩ := sdM_sd hb' a1' a2 a3 a4
    obtain ⟨s3', s4'⟩ := sdM_sd hb' b1 b2 b3 b4
    rcases hxy with ⟨rfl, rfl⟩ | ⟨rfl, rfl⟩
    · refine ⟨f, v, i', ha', Or.inl ⟨?_, ?_⟩⟩
      · rw [s2', (psS_b hb' s1').1]
      · rw [s4', (psS_b hb' s3').1]
    · refine ⟨f, v, i', ha', Or.inr ⟨?_, ?_⟩⟩
      · rw [s2', phS_x hb' s1']
      · rw [s4', phS_x hb' s3']
theorem tj_1 {n : Nat} {pa wy nb : Nat → Int} (hn : n ≤ 3) (hg : gok n pa wy) (hb' : b20 nb) (hm' : mt n pa wy nb) {p : Nat} (hp : thP nb p) : (joi n pa wy nb).1 p = p ↔ (tra n pa wy nb).1 (psP nb p) = psP nb p := by
  rw [joi_G, tra_G]
  exact (lab2 (trG_1 (sd nb) n pa wy nb) (trG_1 (sdM nb) n pa wy nb) (fun p hp => psP_1 hb' hp) (fun d' hd' => phP_1 hb' hd') (fun p q hp hq h' => psP_m hb' hp hq h') (Q1_to hn hg hb' hm').1 (Q1_to hn hg hb' hm').2).2 p hp
theorem psS_m {nb : Nat → Int} (h' : b20 nb) {p q : Nat} (hp : thP nb (p / 2)) (hq : thP nb (q / 2)) (hlt : p < q) : psS nb p < psS nb q := by
  unfold psS
  by_cases e' : p / 2 = q / 2
  · rw [e']
    omega
  · have := psP_m h' hp hq (by omega)
    omega
theorem tj_2 {n : Nat} {pa wy nb : Nat → Int} (hn : n ≤ 3) (hg : gok n pa wy) (hb' : b20 nb) (hm' : mt n pa wy nb) {p q : Nat} (hp : thP nb (p / 2)) (hq : thP nb (q / 2)) : (joi n pa wy nb).2 p = (joi n pa wy nb).2 q ↔ (tra n pa wy nb).2 (psS nb p) = (tra n pa wy nb).2 (psS nb q) := by
  rw [joi_G, tra_G]
  exact (lab2 (th := fun x => thP nb (x / 2)) (trG_2 (sd nb) n pa wy nb) (trG_2 (sdM nb) n pa wy nb) (fun p hp => ⟨(psS_b hb' hp).1, (psS_b hb' hp).2.1⟩) (fun d' hd' => phS_b hb' hd') (fun p q hp hq h' => psS_m hb' hp hq h') (Q2_to hn hg hb' hm').1 (Q2_to hn hg hb' hm').2).1 p q hp hq
/-! sums over the pieces
-/
theorem sum_th {nb : Nat → Int} (h' : b20 nb) (H : Nat → Int) : ∀ k, k ≤ 21 → sm (fun p => if ((p % 20 : Nat) : Int) < nb (p / 20) then H (psP nb p) else 0) (20 * k) = sm H (so nb k) := by
  intro k
  induction k with
  | zero => intro _; rfl
  | succ k ih =>
    intro hk
    have hs := (so_s h' (k := k) (by omega)).1
    have hb' := h' k (by omega)
    have inner' : ∀ j', j' ≤ 20 → sm (fun p => if ((p % 20 : Nat) : Int) < nb (p / 20) then H (psP nb p) else 0) (20 * k + j') = sm H (so nb k + min j' (nb k).toNat) := by
      intro j'
      induction j' with
      | zero =>
        intro _
        rw [Nat.add_zero, ih (by omega), Nat.zero_min, Nat.add_zero]
      | succ j' ihj =>
        intro hj
        show sm _ (20 * k + j') + (if (((20 * k + j') % 20 : Nat) : Int) < nb ((20 * k + j') / 20) then H (psP nb (20 * k + j')) else 0) = _
        rw [ihj (by omega), show (20 * k + j') % 20 = j' by omega, show (20 * k + j') / 20 = k by omega]
        by_cases q : (j' : Int) < nb k
        · rw [if_pos q, show so nb k + min (j' + 1) (nb k).toNat = (so nb k + min j' (nb k).toNat) + 1 by omega]
          show _ = sm H (so nb k + min j' (nb k).toNat) + H (so nb k + min j' (nb k).toNat)
          have : psP nb (20 * k + j') = so nb k + min j' (nb k).toNat := by
            unfold psP
            rw [show (20 * k + j') / 20 = k by omega]
            omega
          rw [this]
        · rw [if_neg q, Int.add_zero, show min (j' + 1) (nb k).toNat = min j' (nb k).toNat by omega]
    have := inner' 20 (by omega)
    rw [show 20 * (k + 1) = 20 * k + 20 by omega, this, hs, show min 20 (nb k).toNat = (nb k).toNat by omega]
theorem so_7n {nb : Nat → Int} {n : Nat} (hn : n ≤ 3) (hz : ∀ i', 7 * n ≤ i' → i' < 21 → nb i' = 0) : so nb (7 * n) = so nb 21 := by
  have : ∀ m', 7 * n ≤ m' → m' ≤ 21 → sm nb m' = sm nb (7 * n) := by
    intro m' hm'
    induction hm' with
    | refl => intro _; rfl
    | step hm' ih =>
      rename_i m'
      intro h'
      show sm nb m' + nb m' = _
      rw [ih (by omega), hz m' hm' (by omega), Int.add_zero]
  unfold so
  rw [this 21 (by omega) (by omega)]
theorem pcnt_0 {n : Nat} {pa wy nb : Nat → Int} (hn : n ≤ 3) (hg : gok n pa wy) (hb' : b20 nb) (hm' : mt n pa wy nb) (hz : ∀ i', 7 * n ≤ i' → i' < 21 → nb i' = 0) {z : Int} (h' : pcnt nb n (joi n pa wy nb) 0 z) : z = ncomp n pa wy nb := by
  obtain ⟨g', h1, rfl⟩ := h'
  have e' := sum_th hb' (fun d' => if (tra n pa wy nb).1 d' = d' then 1 else 0) (7 * n) (by omega)
  rw [so_7n hn hz] at e'
  unfold ncomp nr
  rw [← e', show 140 * n = 20 * (7 * n) by omega]
  refine sm_congr (fun p hp => ?_)
  have hg1 := h1 p (by omega)
  by_cases q : ((p % 20 : Nat) : Int) < nb (p / 20)
  · rw [if_pos q]
    have ht : thP nb p := ⟨by omega, q⟩
    by_cases r' : (tra n pa wy nb).1 (psP nb p) = psP nb p
    · rw [if_pos r']
      exact bz_u hg1 (bz_1 ⟨q, (tj_1 hn hg hb' hm' ht).mpr r', Or.inl rfl⟩)
    · rw [if_neg r']
      exact bz_u hg1 (bz_0 (fun w' => r' ((tj_1 hn hg hb' hm' ht).mp w'.2.1)))
  · rw [if_neg q]
    exact bz_u hg1 (bz_0 (fun w' => q w'.1))
/-- the two sides of a' piece are one for all pieces of a' part, or for none -/
theorem two_inv {s : Nat → Nat → Nat → Nat} {n : Nat} {pa wy nb : Nat → Int} (hs : ∀ f v i', arc n pa wy nb f v i' → s f v i' < 1024 ∧ s (pa f).toNat ((acr pa wy f v).toNat % 4) i' < 1024) (k : Nat) :
    min ((trG s n pa wy nb).2 (2 * (trG s n pa wy nb).1 k)) ((trG s n pa wy nb).2 (2 * (trG s n pa wy nb).1 k + 1)) = min ((trG s n pa wy nb).2 (2 * k)) ((trG s n pa wy nb).2 (2 * k + 1)) ∧
    max ((trG s n pa wy nb).2 (2 * (trG s n pa wy nb).1 k)) ((trG s n pa wy nb).2 (2 * (trG s n pa wy nb).1 k + 1)) = max ((trG s n pa wy nb).2 (2 * k)) ((trG s n pa wy nb).2 (2 * k + 1)) := by
  have key' : ∀ x y', Q1 s n pa wy nb x y' → ((trG s n pa wy nb).2 (2 * x) = (trG s n pa wy nb).2 (2 * y') ∧ (trG s n pa wy nb).2 (2 * x + 1) = (trG s n pa wy nb).2 (2 * y' + 1)) ∨ ((trG s n pa wy nb).2 (2 * x) = (trG s n pa wy nb).2 (2 * y' + 1) ∧ (trG s n pa wy nb).2 (2 * x + 1) = (trG s n pa wy nb).2 (2 * y')) := by
    rintro x y' ⟨f, v, i', ha', hx, hy⟩
    obtain ⟨b1, b2⟩ := hs f v i' ha'
    have e1' := (trG_2 s n pa wy nb).2.1 _ _ ⟨f, v, i', ha', Or.inl ⟨rfl, rfl⟩⟩
    have e2' := (trG_2 s n pa wy nb).2.1 _ _ ⟨f, v, i', ha', Or.inr ⟨rfl, rfl⟩⟩
    obtain ⟨A', hA⟩ : ∃ A', s f v i' = A' := ⟨_, rfl⟩
    obtain ⟨B', hB'⟩ : ∃ B', s (pa f).toNat ((acr pa wy f v).toNat % 4) i' = B' := ⟨_, rfl⟩
    rw [hA] at e1' e2' hx b1
    rw [hB'] at e1' e2' hy b2
    rw [xor1 A' b1, xor1 B' b2] at e2'
    by_cases pA' : A' % 2 = 0
    · rw [if_pos pA'] at e2'
      rw [show 2 * x = A' by omega]
      by_cases pB' : B' % 2 = 0
      · rw [if_pos pB'] at e2'
        rw [show 2 * y' = B' by omega]
        exact Or.inl ⟨e1', e2'⟩
      · rw [if_neg pB'] at e2'
        rw [show 2 * y' = B' - 1 by omega, show B' - 1 + 1 = B' by omega]
        exact Or.inr ⟨e1', e2'⟩
    · rw [if_neg pA'] at e2'
      rw [show 2 * x = A' - 1 by omega, show A' - 1 + 1 = A' by omega]
      by_cases pB' : B' % 2 = 0
      · rw [if_pos pB'] at e2'
        rw [show 2 * y' = B' by omega]
        exact Or.inr ⟨e2', e1'⟩
      · rw [if_neg pB'] at e2'
        rw [show 2 * y' = B' - 1 by omega, show B' - 1 + 1 = B' by omega]
        exact Or.inl ⟨e2', e1'⟩
  refine ⟨(trG_1 s n pa wy nb).2.2 (fun k => min ((trG s n pa wy nb).2 (2 * k)) ((trG s n pa wy nb).2 (2 * k + 1))) (fun x y' h' => ?_) k, (trG_1 s n pa wy nb).2.2 (fun k => max ((trG s n pa wy nb).2 (2 * k)) ((trG s n pa wy nb).2 (2 * k + 1))) (fun x y' h' => ?_) k⟩
  · show min _ _ = min _ _
    rcases key' x y' h' with ⟨a', b'⟩ | ⟨a', b'⟩
    · rw [a', b']
    · rw [a', b', Nat.min_comm]
  · show max _ _ = max _ _
    rcases key' x y' h' with ⟨a', b'⟩ | ⟨a', b'⟩
    · rw [a', b']
    · rw [a', b', Nat.max_comm]
theorem sm_pair (h' : Nat → Int) (T : Nat) : sm h' (2 * T) = sm (fun d' => h' (2 * d') + h' (2 * d' + 1)) T := by
  induction T with
  | zero => rfl
  | succ T ih =>
    show sm h' (2 * T) + h' (2 * T) + h' (2 * T + 1) = sm _ T + (h' (2 * T) + h' (2 * T + 1))
    rw [ih]
    omega
theorem sm_addf (f g' : Nat → Int) (n : Nat) : sm (fun d' => f d' + g' d') n = sm f n + sm g' n := by
  induction n with
  | zero => rfl
  | succ n ih =>
    show sm (fun d' => f d' + g' d') n + (f n + g' n) = sm f n + f n + (sm g' n + g' n)
    rw [ih]
    omega
theorem ntwo_eq {n : Nat} {pa wy nb : Nat → Int} (hn : n ≤ 3) (hg : gok n pa wy) (hb' : b20 nb) (hm' : mt n pa wy nb) : ntwo n pa wy nb = sm (fun d' => if (tra n pa wy nb).1 d' = d' ∧ (tra n pa wy nb).2 (2 * d') ≠ (tra n pa wy nb).2 (2 * d' + 1) then 1 else 0) (so nb 21) := by
  have hsb : ∀ f v i', arc n pa wy nb f v i' → sd nb f v i' < 1024 ∧ sd nb (pa f).toNat ((acr pa wy f v).toNat % 4) i' < 1024 := by
    intro f v i' ha'
    obtain ⟨⟨a1', a2, a3, a4⟩, b1, b2, b3, b4⟩ := arc_ok hn hg hm' ha'
    have c1' := sd_b hb' a1' a2 a4
    have c2' := sd_b hb' b1 b2 b4
    have c3' := so_le hb' (k := 0) (by omega)
    omega
  have inv' := two_inv (s := sd nb) (n := n) (pa := pa) (wy := wy) (nb := nb) hsb
  have l1 := trG_1 (sd nb) n pa wy nb
  have l2 := trG_2 (sd nb) n pa wy nb
  have k12 : ∀ x, (trG (sd nb) n pa wy nb).1 ((trG (sd nb) n pa wy nb).2 x / 2) = (trG (sd nb) n pa wy nb).1 (x / 2) := by
    refine l2.2.2 (fun x => (trG (sd nb) n pa wy nb).1 (x / 2)) (fun x y' h' => ?_)
    obtain ⟨f, v, i', ha', hxy⟩ := h'
    have e1' := l1.2.1 _ _ ⟨f, v, i', ha', rfl, rfl⟩
    obtain ⟨b1, b2⟩ := hsb f v i' ha'
    show (trG (sd nb) n pa wy nb).1 (x / 2) = (trG (sd nb) n pa wy nb).1 (y' / 2)
    rcases hxy with ⟨rfl, rfl⟩ | ⟨rfl, rfl⟩
    · exact e1'
    · rw [(xr b1).1, (xr b2).1]
      exact e1'
  unfold ntwo nr
  rw [sm_pair, tra_G]
  have : sm (fun d' => (if (trG (sd nb) n pa wy nb).2 (2 * d') = 2 * d' then (1 : Int) else 0) + (if (trG (sd nb) n pa wy nb).2 (2 * d' + 1) = 2 * d' + 1 then 1 else 0)) (so nb 21) = sm (fun d' => (if (trG (sd nb) n pa wy nb).1 d' = d' then (1 : Int) else 0) + (if (trG (sd nb) n pa wy nb).1 d' = d' ∧ (trG (sd nb) n pa wy nb).2 (2 * d') ≠ (trG (sd nb) n pa wy nb).2 (2 * d' + 1) then 1 else 0)) (so nb 21) := by
    refine sm_congr (fun d' _ => ?_)
    have i1' := inv' d'
    have a0' := l2.1 (2 * d')
    have a1' := l2.1 (2 * d' + 1)
    have b0 := k12 (2 * d')
    have b1 := k12 (2 * d' + 1)
    rw [show 2 * d' / 2 = d' by omega] at b0
    rw [show (2 * d' + 1) / 2 = d' by omega] at b1
    have c0' := l1.1 ((trG (sd nb) n pa wy nb).2 (2 * d') / 2)
    have c1' := l1.1 ((trG (sd nb) n pa wy nb).2 (2 * d' + 1) / 2)
    rw [b0] at c0'
    rw [b1] at c1'
    have d0' := l1.1 d'
    have e0' := l2.1 (2 * (trG (sd nb) n pa wy nb).1 d')
    have e1' := l2.1 (2 * (trG (sd nb) n pa wy nb).1 d' + 1)
    by_cases r' : (trG (sd nb) n pa wy nb).1 d' = d'
    · rw [if_pos r']
      rw [r'] at c0' c1'
      rw [if_pos (by omega)]
      by_cases t' : (trG (sd nb) n pa wy nb).2 (2 * d') = (trG (sd nb) n pa wy nb).2 (2 * d' + 1)
      · rw [if_neg (by omega), if_neg (fun w' => w'.2 t')]
      · rw [if_pos (by omega), if_pos ⟨r', t'⟩]
    · rw [if_neg r', if_neg (by omega), if_neg (by omega), if_neg (fun w' => r' w'.1)]
  rw [this, sm_addf]
  omega
theorem pcnt_1 {n : Nat} {pa wy nb : Nat → Int} (hn : n ≤ 3) (hg : gok n pa wy) (hb' : b20 nb) (hm' : mt n pa wy nb) (hz : ∀ i', 7 * n ≤ i' → i' < 21 → nb i' = 0) {z : Int} (h' : pcnt nb n (joi n pa wy nb) 1 z) : z = ntwo n pa wy nb := by
  obtain ⟨g', h1, rfl⟩ := h'
  have e' := sum_th hb' (fun d' => if (tra n pa wy nb).1 d' = d' ∧ (tra n pa wy nb).2 (2 * d') ≠ (tra n pa wy nb).2 (2 * d' + 1) then 1 else 0) (7 * n) (by omega)
  rw [so_7n hn hz] at e'
  rw [ntwo_eq hn hg hb' hm', ← e', show 140 * n = 20 * (7 * n) by omega]
  have hsb : ∀ f v i', arc n pa wy nb f v i' → sdM nb f v i' < 1024 ∧ sdM nb (pa f).toNat ((acr pa wy f v).toNat % 4) i' < 1024 := by
    intro f v i' ha'
    obtain ⟨⟨a1', a2, a3, a4⟩, b1, b2, b3, b4⟩ := arc_ok hn hg hm' ha'
    have c1' := (sdM_sd hb' a1' a2 a3 a4).1.1
    have c2' := (sdM_sd hb' b1 b2 b3 b4).1.1
    omega
  have inv' := two_inv (s := sdM nb) (n := n) (pa := pa) (wy := wy) (nb := nb) hsb
  refine sm_congr (fun p hp => ?_)
  have hg1 := h1 p (by omega)
  by_cases q : ((p % 20 : Nat) : Int) < nb (p / 20)
  · rw [if_pos q]
    have ht : thP nb p := ⟨by omega, q⟩
    have t1 := tj_1 hn hg hb' hm' ht
    have t2 := tj_2 hn hg hb' hm' (p := 2 * p) (q := 2 * p + 1) (by rw [show 2 * p / 2 = p by omega]; exact ht) (by rw [show (2 * p + 1) / 2 = p by omega]; exact ht)
    have f0' : psS nb (2 * p) = 2 * psP nb p := by unfold psS; rw [show 2 * p / 2 = p by omega]; omega
    have f1' : psS nb (2 * p + 1) = 2 * psP nb p + 1 := by unfold psS; rw [show (2 * p + 1) / 2 = p by omega]; omega
    rw [f0', f1'] at t2
    have ttw : (joi n pa wy nb).1 p = p → (two nb (joi n pa wy nb) p (140 * n) ↔ (joi n pa wy nb).2 (2 * p) ≠ (joi n pa wy nb).2 (2 * p + 1)) := by
      intro hr
      constructor
      · intro w'
        exact w' p (by omega) hr q
      · intro w' k hk hk2 _ hk4
        have i1' := inv' k
        rw [← joi_G, hk2] at i1'
        omega
    by_cases r' : (tra n pa wy nb).1 (psP nb p) = psP nb p ∧ (tra n pa wy nb).2 (2 * psP nb p) ≠ (tra n pa wy nb).2 (2 * psP nb p + 1)
    · rw [if_pos r']
      have hr := t1.mpr r'.1
      exact bz_u hg1 (bz_1 ⟨q, hr, Or.inr ((ttw hr).mpr (fun w' => r'.2 (t2.mp w')))⟩)
    · rw [if_neg r']
      refine bz_u hg1 (bz_0 (fun w' => r' ⟨t1.mp w'.2.1, fun w2' => ?_⟩))
      rcases w'.2.2 with w3' | w3'
      · omega
      · exact (ttw w'.2.1).mp w3' (t2.mpr w2')
  · rw [if_neg q]
    exact bz_u hg1 (bz_0 (fun w' => q w'.1))
