/-! the pieces joined: both programs find the same parts
-/
def gI (s : Nat → Nat → Nat → Nat) (pa wy : Nat → Int) (f' v' i' : Nat) (L' : L2) : L2 := (mg L'.1 (s f' v' i' / 2) (s (pa f').toNat ((acr pa wy f' v').toNat % 4) i' / 2), mg (mg L'.2 (s f' v' i') (s (pa f').toNat ((acr pa wy f' v').toNat % 4) i')) (s f' v' i' ^^^ 1) (s (pa f').toNat ((acr pa wy f' v').toNat % 4) i' ^^^ 1))
def gVV (s : Nat → Nat → Nat → Nat) (pa wy nb : Nat → Int) (f' v' : Nat) (L' : L2) : L2 := if 0 ≤ acr pa wy f' v' then fo (gI s pa wy f' v') (ac nb (f' / 4) (f' % 4) v').toNat L' else L'
def gFF (s : Nat → Nat → Nat → Nat) (pa wy nb : Nat → Int) (f' : Nat) (L' : L2) : L2 := if (f' : Int) < pa f' then fo (gVV s pa wy nb f') 4 L' else L'
def trG (s : Nat → Nat → Nat → Nat) (n : Nat) (pa wy nb : Nat → Int) : L2 := fo (gFF s pa wy nb) (4 * n) (id, id)
theorem tra_G (n : Nat) (pa wy nb : Nat → Int) : tra n pa wy nb = trG (sd nb) n pa wy nb := rfl
theorem joi_G (n : Nat) (pa wy nb : Nat → Int) : joi n pa wy nb = trG (sdM nb) n pa wy nb := rfl
theorem trG_lab (s : Nat → Nat → Nat → Nat) (n : Nat) (pa wy nb : Nat → Int) (c' : L2 → Nat → Nat) (P : Nat → Nat → Nat → Nat → Nat → Prop) (hc' : c' (id, id) = id) (h' : ∀ f' v' i' L' S', isLab (c' L') S' → isLab (c' (gI s pa wy f' v' i' L')) (fun x' y' => S' x' y' ∨ P f' v' i' x' y')) :
    isLab (c' (trG s n pa wy nb)) (fun x' y' => ∃ f', f' < 4 * n ∧ (f' : Int) < pa f' ∧ ∃ v', v' < 4 ∧ 0 ≤ acr pa wy f' v' ∧ ∃ i', i' < (ac nb (f' / 4) (f' % 4) v').toNat ∧ P f' v' i' x' y') := by
  have hV : ∀ f' v' (L' : L2) S', isLab (c' L') S' → isLab (c' (gVV s pa wy nb f' v' L')) (fun x' y' => S' x' y' ∨ (0 ≤ acr pa wy f' v' ∧ ∃ i', i' < (ac nb (f' / 4) (f' % 4) v').toNat ∧ P f' v' i' x' y')) := by
    intro f' v' L' S' hS'
    unfold gVV
    split
    · rename_i q'
      exact isLab_iff (fo_lab (gI s pa wy f' v') c' (P f' v') (fun j' a' S' hh => h' f' v' j' a' S' hh) _ L' S' hS') (fun x' y' => ⟨fun z' => z'.elim Or.inl (fun z' => Or.inr ⟨q', z'⟩), fun z' => z'.elim Or.inl (fun z' => Or.inr z'.2)⟩)
    · rename_i q'
      exact isLab_iff hS' (fun x' y' => ⟨Or.inl, fun z' => z'.elim id (fun z' => absurd z'.1 q')⟩)
  have hF : ∀ f' (L' : L2) S', isLab (c' L') S' → isLab (c' (gFF s pa wy nb f' L')) (fun x' y' => S' x' y' ∨ ((f' : Int) < pa f' ∧ ∃ v', v' < 4 ∧ 0 ≤ acr pa wy f' v' ∧ ∃ i', i' < (ac nb (f' / 4) (f' % 4) v').toNat ∧ P f' v' i' x' y')) := by
    intro f' L' S' hS'
    unfold gFF
    split
    · rename_i q'
      exact isLab_iff (fo_lab (gVV s pa wy nb f') c' _ (hV f') 4 L' S' hS') (fun x' y' => ⟨fun z' => z'.elim Or.inl (fun z' => Or.inr ⟨q', z'⟩), fun z' => z'.elim Or.inl (fun z' => Or.inr z'.2)⟩)
    · rename_i q'
      exact isLab_iff hS' (fun x' y' => ⟨Or.inl, fun z' => z'.elim id (fun z' => absurd z'.1 q')⟩)
  exact isLab_iff (fo_lab (gFF s pa wy nb) c' _ hF (4 * n) (id, id) _ (by rw [hc']; exact isLab_id)) (fun x' y' => ⟨fun z' => z'.elim False.elim id, Or.inr⟩)
/-- the arcs at which pieces are joined -/
def arc (n : Nat) (pa wy nb : Nat → Int) (f' v' i' : Nat) : Prop := f' < 4 * n ∧ (f' : Int) < pa f' ∧ v' < 4 ∧ 0 ≤ acr pa wy f' v' ∧ i' < (ac nb (f' / 4) (f' % 4) v').toNat
def Q1 (s : Nat → Nat → Nat → Nat) (n : Nat) (pa wy nb : Nat → Int) (x' y' : Nat) : Prop := ∃ f' v' i', arc n pa wy nb f' v' i' ∧ x' = s f' v' i' / 2 ∧ y' = s (pa f').toNat ((acr pa wy f' v').toNat % 4) i' / 2
def Q2 (s : Nat → Nat → Nat → Nat) (n : Nat) (pa wy nb : Nat → Int) (x' y' : Nat) : Prop := ∃ f' v' i', arc n pa wy nb f' v' i' ∧ ((x' = s f' v' i' ∧ y' = s (pa f').toNat ((acr pa wy f' v').toNat % 4) i') ∨ (x' = s f' v' i' ^^^ 1 ∧ y' = s (pa f').toNat ((acr pa wy f' v').toNat % 4) i' ^^^ 1))
theorem trG_1 (s : Nat → Nat → Nat → Nat) (n : Nat) (pa wy nb : Nat → Int) : isLab (trG s n pa wy nb).1 (Q1 s n pa wy nb) := by
  refine isLab_iff (trG_lab s n pa wy nb (fun L' => L'.1) (fun f' v' i' x' y' => x' = s f' v' i' / 2 ∧ y' = s (pa f').toNat ((acr pa wy f' v').toNat % 4) i' / 2) rfl (fun f' v' i' L' S' hS' => isLab_mg hS' _ _)) (fun x' y' => ⟨?_, ?_⟩)
  · rintro ⟨f', h1, h2, v', h3, h4, i', h5, h6⟩
    exact ⟨f', v', i', ⟨h1, h2, h3, h4, h5⟩, h6⟩
  · rintro ⟨f', v', i', ⟨h1, h2, h3, h4, h5⟩, h6⟩
    exact ⟨f', h1, h2, v', h3, h4, i', h5, h6⟩
theorem trG_2 (s : Nat → Nat → Nat → Nat) (n : Nat) (pa wy nb : Nat → Int) : isLab (trG s n pa wy nb).2 (Q2 s n pa wy nb) := by
  refine isLab_iff (trG_lab s n pa wy nb (fun L' => L'.2) (fun f' v' i' x' y' => (x' = s f' v' i' ∧ y' = s (pa f').toNat ((acr pa wy f' v').toNat % 4) i') ∨ (x' = s f' v' i' ^^^ 1 ∧ y' = s (pa f').toNat ((acr pa wy f' v').toNat % 4) i' ^^^ 1)) rfl (fun f' v' i' L' S' hS' => isLab_iff (isLab_mg (isLab_mg hS' _ _) _ _) (fun x' y' => ⟨fun z' => z'.elim (fun z' => z'.elim Or.inl (fun z' => Or.inr (Or.inl z'))) (fun z' => Or.inr (Or.inr z')), fun z' => z'.elim (fun z' => Or.inl (Or.inl z')) (fun z' => z'.elim (fun z' => Or.inl (Or.inr z')) Or.inr)⟩))) (fun x' y' => ⟨?_, ?_⟩)
  · rintro ⟨f', h1, h2, v', h3, h4, i', h5, h6⟩
    exact ⟨f', v', i', ⟨h1, h2, h3, h4, h5⟩, h6⟩
  · rintro ⟨f', v', i', ⟨h1, h2, h3, h4, h5⟩, h6⟩
    exact ⟨f', h1, h2, v', h3, h4, i', h5, h6⟩
/-! two labellings of the same things under other numbers
-/
theorem lab2 {L' M ps ph : Nat → Nat} {S' R : Nat → Nat → Prop} {th : Nat → Prop} {T : Nat} (hL : isLab L' S') (hM' : isLab M R) (h1 : ∀ p', th p' → ph (ps p') = p' ∧ ps p' < T) (h2 : ∀ d, d < T → th (ph d) ∧ ps (ph d) = d) (h3 : ∀ p' q', th p' → th q' → p' < q' → ps p' < ps q')
    (h4 : ∀ x' y', R x' y' → th x' ∧ th y' ∧ S' (ps x') (ps y')) (h5 : ∀ x' y', S' x' y' → R (ph x') (ph y')) :
    (∀ p' q', th p' → th q' → (M p' = M q' ↔ L' (ps p') = L' (ps q'))) ∧ ∀ p', th p' → (M p' = p' ↔ L' (ps p') = ps p') := by
  classical
  have kN' : ∀ x', (if th (M x') then L' (ps (M x')) else T + M x') = (if th x' then L' (ps x') else T + x') := by
    refine hM'.2.2 (fun x' => if th x' then L' (ps x') else T + x') (fun x' y' h' => ?_)
    obtain ⟨a', b', c'⟩ := h4 x' y' h'
    show (if th x' then L' (ps x') else T + x') = (if th y' then L' (ps y') else T + y')
    rw [if_pos a', if_pos b', hL.2.1 _ _ c']
  have kK : ∀ d, M (ph (L' d)) = M (ph d) := hL.2.2 (fun d => M (ph d)) (fun x' y' h' => hM'.2.1 _ _ (h5 x' y' h'))
  refine ⟨fun p' q' hp hq => ⟨fun h' => ?_, fun h' => ?_⟩, fun p' hp => ⟨fun h' => ?_, fun h' => ?_⟩⟩
  · have a' := kN' p'
    have b' := kN' q'
    rw [h', if_pos hp] at a'
    rw [if_pos hq] at b'
    rw [← a', ← b']
  · have a' := kK (ps p')
    have b' := kK (ps q')
    rw [(h1 p' hp).1] at a'
    rw [(h1 q' hq).1, ← h'] at b'
    exact a'.symm.trans b'
  · have a' := kK (ps p')
    rw [(h1 p' hp).1, h'] at a'
    have b' := hM'.1 (ph (L' (ps p')))
    rw [a'] at b'
    have c' := hL.1 (ps p')
    have e' := (h1 p' hp).2
    obtain ⟨d1', d2'⟩ := h2 (L' (ps p')) (by omega)
    by_cases q' : p' < ph (L' (ps p'))
    · have := h3 _ _ hp d1' q'
      rw [d2'] at this
      omega
    · have e2' : ph (L' (ps p')) = p' := by omega
      rw [e2'] at d2'
      exact d2'.symm
  · have a' := kN' p'
    rw [if_pos hp, h'] at a'
    have b' := hM'.1 p'
    have e' := (h1 p' hp).2
    by_cases q' : th (M p')
    · rw [if_pos q'] at a'
      have c' := hL.1 (ps (M p'))
      by_cases r' : M p' < p'
      · have := h3 _ _ q' hp r'
        omega
      · omega
    · rw [if_neg q'] at a'
      omega
/-! the numbers of the pieces: dense and by twenties
-/
def psP (nb : Nat → Int) (p' : Nat) : Nat := so nb (p' / 20) + p' % 20
def cnb (nb : Nat → Int) (d : Nat) : Nat → Nat
  | 0 => 0
  | k + 1 => cnb nb d k + if so nb (k + 1) ≤ d then 1 else 0
def phP (nb : Nat → Int) (d : Nat) : Nat := 20 * cnb nb d 21 + (d - so nb (cnb nb d 21))
def thP (nb : Nat → Int) (p' : Nat) : Prop := p' < 420 ∧ thr nb p'
theorem cnb_eq {nb : Nat → Int} (h' : b20 nb) {d k : Nat} (hk : k < 21) (h1 : so nb k ≤ d) (h2 : d < so nb (k + 1)) : ∀ m', m' ≤ 21 → cnb nb d m' = min m' k := by
  intro m'
  induction m' with
  | zero => intro _; show 0 = _; omega
  | succ m' ih =>
    intro hm'
    show cnb nb d m' + (if so nb (m' + 1) ≤ d then 1 else 0) = _
    rw [ih (by omega)]
    by_cases q' : m' < k
    · have := so_mono h' (show m' + 1 ≤ k from q') (by omega)
      rw [if_pos (by omega)]
      omega
    · have := so_mono h' (show k + 1 ≤ m' + 1 by omega) hm'
      rw [if_neg (by omega)]
      omega
theorem so_find {nb : Nat → Int} (h' : b20 nb) {d : Nat} : ∀ m', m' ≤ 21 → d < so nb m' → ∃ k, k < m' ∧ so nb k ≤ d ∧ d < so nb (k + 1) := by
  intro m'
  induction m' with
  | zero =>
    intro _ hd'
    have : so nb 0 = 0 := rfl
    omega
  | succ m' ih =>
    intro hm' hd'
    by_cases q' : d < so nb m'
    · obtain ⟨k, h1, h2⟩ := ih (by omega) q'
      exact ⟨k, by omega, h2⟩
    · exact ⟨m', by omega, by omega, hd'⟩
theorem psP_1 {nb : Nat → Int} (h' : b20 nb) {p' : Nat} (hp : thP nb p') : phP nb (psP nb p') = p' ∧ psP nb p' < so nb 21 := by
  obtain ⟨h1, h2⟩ := hp
  unfold thr at h2
  have hs := so_s h' (k := p' / 20) (by omega)
  have hl := so_le h' (k := p' / 20) (by omega)
  have hb' := h' (p' / 20) (by omega)
  have hc' := cnb_eq h' (d := psP nb p') (k := p' / 20) (by omega) (by unfold psP; omega) (by unfold psP; omega) 21 (by omega)
  rw [show min 21 (p' / 20) = p' / 20 by omega] at hc'
  unfold phP
  rw [hc']
  unfold psP
  omega
theorem phP_1 {nb : Nat → Int} (h' : b20 nb) {d : Nat} (hd' : d < so nb 21) : thP nb (phP nb d) ∧ psP nb (phP nb d) = d := by
  obtain ⟨k, h1, h2, h3⟩ := so_find h' 21 (Nat.le_refl _) hd'
  have hc' := cnb_eq h' h1 h2 h3 21 (by omega)
  rw [show min 21 k = k by omega] at hc'
  have hs := so_s h' (k := k) h1
  have hb' := h' k h1
  have e1' : phP nb d = 20 * k + (d - so nb k) := by unfold phP; rw [hc']
  have e2' : (20 * k + (d - so nb k)) / 20 = k := by omega
  have e3' : (20 * k + (d - so nb k)) % 20 = d - so nb k := by omega
  rw [e1']
  refine ⟨⟨by omega, ?_⟩, ?_⟩
  · unfold thr
    rw [e2', e3']
    omega
  · unfold psP
    rw [e2', e3']
    omega
theorem psP_m {nb : Nat → Int} (h' : b20 nb) {p' q' : Nat} (hp : thP nb p') (hq : thP nb q') (hlt : p' < q') : psP nb p' < psP nb q' := by
  obtain ⟨h1, h2⟩ := hp
  obtain ⟨h3, h4⟩ := hq
  unfold thr at h2 h4
  unfold psP
  by_cases e' : p' / 20 = q' / 20
  · rw [e']
    omega
  · have hs := so_s h' (k := p' / 20) (by omega)
    have hm' := so_mono h' (show p' / 20 + 1 ≤ q' / 20 by omega) (by omega)
    have hb' := h' (p' / 20) (by omega)
    omega
def psS (nb : Nat → Int) (x' : Nat) : Nat := 2 * psP nb (x' / 2) + x' % 2
def phS (nb : Nat → Int) (x' : Nat) : Nat := 2 * phP nb (x' / 2) + x' % 2
theorem sdM_sd {nb : Nat → Int} (h' : b20 nb) {f' v' i' : Nat} (hf : f' < 12) (hv : v' < 4) (hne : v' ≠ f' % 4) (hi : (i' : Int) < ac nb (f' / 4) (f' % 4) v') : thP nb (sdM nb f' v' i' / 2) ∧ sd nb f' v' i' = psS nb (sdM nb f' v' i') := by
  have hr := (tg_tab v' hv (f' % 4) (by omega) hne).2
  have h3 := h' (7 * (f' / 4) + v') (by omega)
  have h4 := h' (7 * (f' / 4) + tg v' (f' % 4)) (by omega)
  unfold ac at hi
  unfold sdM sd psS psP thP thr
  obtain ⟨q', hq⟩ : ∃ q', tg v' (f' % 4) = q' := ⟨_, rfl⟩
  rw [hq] at hr h4 hi ⊢
  by_cases c' : i' < (nb (7 * (f' / 4) + v')).toNat
  · rw [if_pos c', if_pos c']
    have e1' : 2 * (20 * (7 * (f' / 4) + v') + i') / 2 = 20 * (7 * (f' / 4) + v') + i' := by omega
    rw [e1', show (20 * (7 * (f' / 4) + v') + i') / 20 = 7 * (f' / 4) + v' by omega, show (20 * (7 * (f' / 4) + v') + i') % 20 = i' by omega]
    omega
  · rw [if_neg c', if_neg c']
    by_cases c2' : v' = 0 ∨ f' % 4 = 0
    · rw [if_pos c2', if_pos c2']
      obtain ⟨j', hj⟩ : ∃ j', i' - (nb (7 * (f' / 4) + v')).toNat = j' := ⟨_, rfl⟩
      rw [hj]
      have e1' : 2 * (20 * (7 * (f' / 4) + q') + j') / 2 = 20 * (7 * (f' / 4) + q') + j' := by omega
      rw [e1', show (20 * (7 * (f' / 4) + q') + j') / 20 = 7 * (f' / 4) + q' by omega, show (20 * (7 * (f' / 4) + q') + j') % 20 = j' by omega]
      omega
    · rw [if_neg c2', if_neg c2']
      obtain ⟨j', hj⟩ : ∃ j', (nb (7 * (f' / 4) + q')).toNat - 1 - (i' - (nb (7 * (f' / 4) + v')).toNat) = j' := ⟨_, rfl⟩
      have e0' : 20 * (7 * (f' / 4) + q') + (nb (7 * (f' / 4) + q')).toNat - 1 - (i' - (nb (7 * (f' / 4) + v')).toNat) = 20 * (7 * (f' / 4) + q') + j' := by omega
      rw [e0']
      have e1' : (2 * (20 * (7 * (f' / 4) + q') + j') + 1) / 2 = 20 * (7 * (f' / 4) + q') + j' := by omega
      rw [e1', show (20 * (7 * (f' / 4) + q') + j') / 20 = 7 * (f' / 4) + q' by omega, show (20 * (7 * (f' / 4) + q') + j') % 20 = j' by omega]
      omega
