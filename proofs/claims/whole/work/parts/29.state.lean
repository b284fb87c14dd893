/-! the state both sides stand for: S 0 the world's row, S (1 + t) the past (oldest first), S 17, S 18 the images, S 19 counts (known, seed, kept, kept seeds, booked), S 20, S 21 the book
-/
def pw (W : Nat → Int) (j : Nat) : Int := W (2 + j)
def ww (W : Nat → Int) (j : Nat) : Int := W (14 + j)
def nw (W : Nat → Int) (s i : Nat) : Int := W (26 + 21 * s + i)
def cW (I : Nat → Nat → Int) (w : Nat) (W : Nat → Int) : Prop := I w 0 = W 0 ∧ I w 1 = W 1 ∧ (∀ j, j < 12 → I (w + 1) j = pw W j) ∧ (∀ j, j < 12 → 0 ≤ pw W j → I (w + 2) j = ww W j) ∧ ∀ s : Nat, (s : Int) < W 1 → ∀ i, i < 21 → I (w + 5 + 2 * s) i = nw W s i
def okW (W : Nat → Int) : Prop := ∃ n m : Nat, W 0 = n ∧ W 1 = m ∧ 1 ≤ n ∧ n ≤ 3 ∧ m ≤ 6 ∧ gok n (pw W) (ww W) ∧ ∀ s, s < m → ∀ i, i < 21 → 0 ≤ nw W s i ∧ nw W s i ≤ 20 ∧ (7 * n ≤ i → nw W s i = 0)
def cSt (I S : Nat → Nat → Int) : Prop := cW I 2 (S 0) ∧ (∃ nx ct : Nat, nx < 16 ∧ ct ≤ 16 ∧ I 41 1 = nx ∧ I 41 2 = ct ∧ S 19 0 = ct ∧ ∀ t, t < ct → cW I (43 + 16 * ((nx + 16 - ct + t) % 16)) (S (1 + t))) ∧ I 302 0 = S 19 1 ∧
  (∀ i, i < 2 → I (304 + 17 * i) 2 = S 19 (2 + i) ∧ (S 19 (2 + i) ≠ 0 → I (304 + 17 * i) 1 = S 19 (4 + i) ∧ cW I (305 + 17 * i) (S (17 + i)))) ∧ I 299 2 = S 19 6 ∧ ∀ i : Nat, (i : Int) < S 19 6 → I 300 i = S 20 i ∧ I 301 i = S 21 i
def okS (S : Nat → Nat → Int) : Prop := okW (S 0) ∧ (∀ t : Nat, (t : Int) < S 19 0 → okW (S (1 + t))) ∧ (0 ≤ S 19 0 ∧ S 19 0 ≤ 16) ∧ (0 ≤ S 19 1 ∧ S 19 1 < 2147483648) ∧
  (∀ i, i < 2 → (S 19 (2 + i) = 0 ∨ S 19 (2 + i) = 1) ∧ (S 19 (2 + i) ≠ 0 → (0 ≤ S 19 (4 + i) ∧ S 19 (4 + i) < 2147483648) ∧ okW (S (17 + i)))) ∧ (0 ≤ S 19 6 ∧ S 19 6 ≤ 20) ∧ ∀ i : Nat, (i : Int) < S 19 6 → 0 ≤ S 20 i ∧ S 20 i < 6
def hiF (I' I : Nat → Nat → Int) : Prop := ∀ b, 338 ≤ b → I' b = I b
def loF (I' I : Nat → Nat → Int) : Prop := ∀ b, b < 338 → I' b = I b
theorem cW_fr {I I' : Nat → Nat → Int} {w : Nat} {W : Nat → Int} (h : cW I w W) (hm : W 1 ≤ 6) (f : ∀ b, w ≤ b → b < w + 16 → I' b = I b) : cW I' w W := by
  obtain ⟨a, b, c, d, e⟩ := h
  refine ⟨by rw [f w (by omega) (by omega)]; exact a, by rw [f w (by omega) (by omega)]; exact b, fun j hj => by rw [f (w + 1) (by omega) (by omega)]; exact c j hj, fun j hj h => by rw [f (w + 2) (by omega) (by omega)]; exact d j hj h, fun s hs i hi => ?_⟩
  rw [f _ (by omega) (by omega)]
  exact e s hs i hi
theorem okW_m {W : Nat → Int} (h : okW W) : W 1 ≤ 6 := by
  obtain ⟨n, m, a, b, c, d, e, _⟩ := h
  omega
theorem cSt_fr {I I' S : Nat → Nat → Int} (h : cSt I S) (ok : okS S) (f : ∀ b, (2 ≤ b ∧ b < 18) ∨ (41 ≤ b ∧ b < 338) → I' b = I b) : cSt I' S := by
  obtain ⟨a, ⟨nx, ct, b1, b2, b3, b4, b5, b6⟩, c, d, e, g⟩ := h
  obtain ⟨o1, o2, o3, o4, o5, o6, o7⟩ := ok
  refine ⟨cW_fr a (okW_m o1) (fun b h1 h2 => f b (by omega)), ⟨nx, ct, b1, b2, by rw [f 41 (by omega)]; exact b3, by rw [f 41 (by omega)]; exact b4, b5, fun t ht => cW_fr (b6 t ht) (okW_m (o2 t (by omega))) (fun b h1 h2 => f b (by omega))⟩, by rw [f 302 (by omega)]; exact c, fun i hi => ?_, by rw [f 299 (by omega)]; exact e, fun i hi => by rw [f 300 (by omega), f 301 (by omega)]; exact g i hi⟩
  rw [f _ (by omega)]
  exact ⟨(d i hi).1, fun hk => ⟨((d i hi).2 hk).1, cW_fr ((d i hi).2 hk).2 (okW_m ((o5 i hi).2 hk).2) (fun b h1 h2 => f b (by omega))⟩⟩
theorem cSt_gw {I S : Nat → Nat → Int} (h : cSt I S) (ok : okS S) : ∃ n : Nat, S 0 0 = n ∧ gw I n ∧ shs I ∧ bkk I := by
  obtain ⟨⟨a1, a2, a3, a4, a5⟩, ⟨nx, ct, b1, b2, b3, b4, b5, b6⟩, c, d, e, g⟩ := h
  obtain ⟨⟨n, m, hn, hm, n1, n3, m6, hg, hb⟩, o2, o3, o4, o5, o6, o7⟩ := ok
  refine ⟨n, hn, ⟨by rw [a1, hn], n1, n3, fun f hf => ?_⟩, ⟨by omega, by omega, fun s hs i hi => ?_⟩, ⟨by omega, by omega, fun i hi => ?_⟩⟩
  · rcases hg f hf with q | ⟨q1, q2, q3, q4, q5, q6, q7, q8⟩
    · exact Or.inl (by rw [show (3 : Nat) = 2 + 1 by omega, a3 f hf, q])
    · have e3 := a3 f hf
      have e4 := a4 f hf q2
      have e5 := a3 (pw (S 0) f).toNat (by omega)
      have e6 := a4 (pw (S 0) f).toNat (by omega) (by omega)
      simp only [Nat.reduceAdd] at e3 e4 e5 e6
      refine Or.inr ⟨q1, ?_⟩
      rw [e3, e4, e5, e6]
      exact ⟨q2, q3, q4, q5, q6, q7, q8⟩
  · have := a5 s (by omega) i hi
    simp only [Nat.reduceAdd] at this
    rw [this]
    have := hb s (by omega) i hi
    exact ⟨this.1, this.2.1⟩
  · rw [(g i (by omega)).1]
    exact (o7 i (by omega)).1
/-- a world recorded -/
def recS (S : Nat → Nat → Int) : Nat → Nat → Int := fun c i => if c = 19 ∧ i = 0 then (if S 19 0 < 16 then S 19 0 + 1 else 16) else if 1 ≤ c ∧ c ≤ 16 then (if S 19 0 < 16 then (if (c : Int) = 1 + S 19 0 then S 0 i else S c i) else if c = 16 then S 0 i else S (c + 1) i) else S c i
theorem recS_o (S : Nat → Nat → Int) {c : Nat} (h : c = 0 ∨ 17 ≤ c) (hc : c ≠ 19) : recS S c = S c := by
  funext i
  unfold recS
  rw [if_neg (by omega), if_neg (by omega)]
theorem recS_19 (S : Nat → Nat → Int) {i : Nat} (h : i ≠ 0) : recS S 19 i = S 19 i := by
  unfold recS
  rw [if_neg (by omega), if_neg (by omega)]
theorem recS_19z (S : Nat → Nat → Int) : recS S 19 0 = if S 19 0 < 16 then S 19 0 + 1 else 16 := by
  unfold recS
  rw [if_pos ⟨rfl, rfl⟩]
theorem recS_p (S : Nat → Nat → Int) {t : Nat} (h : t < 16) : recS S (1 + t) = if S 19 0 < 16 then (if (t : Int) = S 19 0 then S 0 else S (1 + t)) else if t = 15 then S 0 else S (1 + (t + 1)) := by
  funext i
  unfold recS
  rw [if_neg (by omega), if_pos (by omega)]
  by_cases q : S 19 0 < 16
  · rw [if_pos q, if_pos q]
    by_cases r : (t : Int) = S 19 0
    · rw [if_pos r, if_pos (by omega)]
    · rw [if_neg r, if_neg (by omega)]
  · rw [if_neg q, if_neg q]
    by_cases r : t = 15
    · rw [if_pos r, if_pos (by omega)]
    · rw [if_neg r, if_neg (by omega), show 1 + t + 1 = 1 + (t + 1) by omega]
theorem okS_rec {S : Nat → Nat → Int} (ok : okS S) : okS (recS S) := by
  obtain ⟨o1, o2, o3, o4, o5, o6, o7⟩ := ok
  have hz := recS_19z S
  refine ⟨by rw [recS_o S (by omega) (by omega)]; exact o1, fun t ht => ?_, by rw [hz]; split <;> omega, by rw [recS_19 S (by omega)]; exact o4, fun i hi => ?_, by rw [recS_19 S (by omega)]; exact o6, fun i hi => ?_⟩
  · have ht16 : t < 16 := by rw [hz] at ht; split at ht <;> omega
    rw [recS_p S ht16]
    by_cases q : S 19 0 < 16
    · rw [if_pos q]
      rw [hz, if_pos q] at ht
      split
      · exact o1
      · exact o2 t (by omega)
    · rw [if_neg q]
      split
      · exact o1
      · exact o2 (t + 1) (by omega)
  · rw [recS_19 S (by omega), recS_19 S (by omega), recS_o S (by omega) (by omega)]
    exact o5 i hi
  · rw [recS_19 S (by omega)] at hi
    rw [recS_o S (by omega) (by omega)]
    exact o7 i hi
theorem wcp_cW {I I' : Nat → Nat → Int} {w o n : Nat} {W : Nat → Int} (h : wcp I' I w o n) (hc : cW I o W) (hn : W 1 = n) : cW I' w W := by
  obtain ⟨a1, a2, a3, a4, a5⟩ := h
  obtain ⟨c1, c2, c3, c4, c5⟩ := hc
  refine ⟨by rw [a1, c1], by rw [a2, c2], fun j hj => by rw [a3 j hj, c3 j hj], fun j hj h => by rw [a4 j hj, c4 j hj h], fun s hs i hi => by rw [a5 s (by omega) i hi, c5 s hs i hi]⟩
theorem cSt_rec {I I' S : Nat → Nat → Int} {nx ct n : Nat} (h : cSt I S) (ok : okS S) (h1 : I 41 1 = nx) (h2 : I 41 2 = ct) (h3 : I 2 1 = n) (h4 : nx < 16) (h5 : ct ≤ 16)
    (f : ∀ b, b ≠ 41 → b < 43 + 16 * nx ∨ 43 + 16 * nx + 16 ≤ b → I' b = I b) (g1 : I' 41 1 = ((nx + 1) % 16 : Nat)) (g2 : I' 41 2 = (if ct < 16 then ct + 1 else 16 : Nat)) (g3 : wcp I' I (43 + 16 * nx) 2 n) : cSt I' (recS S) := by
  obtain ⟨a, ⟨nx', ct', b1, b2, b3, b4, b5, b6⟩, c, d, e, g⟩ := h
  obtain ⟨o1, o2, o3, o4, o5, o6, o7⟩ := ok
  have : nx' = nx := by omega
  subst this
  have : ct' = ct := by omega
  subst this
  have hz := recS_19z S
  rw [b5] at hz
  have hW : cW I' (43 + 16 * nx') (S 0) := wcp_cW g3 a (by rw [← h3]; exact a.2.1.symm)
  refine ⟨by rw [recS_o S (by omega) (by omega)]; exact cW_fr a (okW_m o1) (fun b h1 h2 => f b (by omega) (by omega)), ?_, by rw [recS_19 S (by omega), f 302 (by omega) (by omega)]; exact c, fun i hi => ?_, by rw [recS_19 S (by omega), f 299 (by omega) (by omega)]; exact e, fun i hi => ?_⟩
  · by_cases q : ct' < 16
    · rw [if_pos q] at g2
      rw [if_pos (by omega)] at hz
      refine ⟨(nx' + 1) % 16, ct' + 1, by omega, by omega, g1, g2, by rw [hz]; omega, fun t ht => ?_⟩
      rw [recS_p S (by omega), if_pos (by omega)]
      by_cases r : t = ct'
      · subst r
        rw [if_pos (by omega), show ((nx' + 1) % 16 + 16 - (t + 1) + t) % 16 = nx' by omega]
        exact hW
      · rw [if_neg (by omega), show ((nx' + 1) % 16 + 16 - (ct' + 1) + t) % 16 = (nx' + 16 - ct' + t) % 16 by omega]
        exact cW_fr (b6 t (by omega)) (okW_m (o2 t (by omega))) (fun b h1 h2 => f b (by omega) (by omega))
    · rw [if_neg q] at g2
      rw [if_neg (by omega)] at hz
      refine ⟨(nx' + 1) % 16, 16, by omega, by omega, g1, g2, by rw [hz]; omega, fun t ht => ?_⟩
      rw [recS_p S (by omega), if_neg (by omega)]
      by_cases r : t = 15
      · subst r
        rw [if_pos rfl, show ((nx' + 1) % 16 + 16 - 16 + 15) % 16 = nx' by omega]
        exact hW
      · rw [if_neg r, show ((nx' + 1) % 16 + 16 - 16 + t) % 16 = (nx' + 16 - ct' + (t + 1)) % 16 by omega]
        exact cW_fr (b6 (t + 1) (by omega)) (okW_m (o2 (t + 1) (by omega))) (fun b h1 h2 => f b (by omega) (by omega))
  · rw [recS_19 S (by omega), recS_19 S (by omega), recS_o S (by omega) (by omega), f _ (by omega) (by omega)]
    exact ⟨(d i hi).1, fun hk => ⟨((d i hi).2 hk).1, cW_fr ((d i hi).2 hk).2 (okW_m ((o5 i hi).2 hk).2) (fun b h1 h2 => f b (by omega) (by omega))⟩⟩
  · rw [recS_19 S (by omega)] at hi
    rw [recS_o S (by omega) (by omega), recS_o S (by omega) (by omega), f 300 (by omega) (by omega), f 301 (by omega) (by omega)]
    exact g i hi
/-- another world -/
def upW (S : Nat → Nat → Int) (W : Nat → Int) : Nat → Nat → Int := fun c => if c = 0 then W else S c
theorem upW_0 (S : Nat → Nat → Int) (W : Nat → Int) : upW S W 0 = W := by unfold upW; rw [if_pos rfl]
theorem upW_o (S : Nat → Nat → Int) (W : Nat → Int) {c : Nat} (h : c ≠ 0) : upW S W c = S c := by unfold upW; rw [if_neg h]
theorem cSt_up {I I' S : Nat → Nat → Int} {W : Nat → Int} (h : cSt I S) (ok : okS S) (f : ∀ b, 41 ≤ b ∧ b < 338 → I' b = I b) (hW : cW I' 2 W) : cSt I' (upW S W) := by
  obtain ⟨a, ⟨nx, ct, b1, b2, b3, b4, b5, b6⟩, c, d, e, g⟩ := h
  obtain ⟨o1, o2, o3, o4, o5, o6, o7⟩ := ok
  refine ⟨by rw [upW_0]; exact hW, ⟨nx, ct, b1, b2, by rw [f 41 (by omega)]; exact b3, by rw [f 41 (by omega)]; exact b4, b5, fun t ht => ?_⟩, by rw [f 302 (by omega)]; exact c, fun i hi => ?_, by rw [f 299 (by omega)]; exact e, fun i hi => by rw [f 300 (by omega), f 301 (by omega)]; exact g i hi⟩
  · rw [upW_o S W (by omega)]
    exact cW_fr (b6 t ht) (okW_m (o2 t (by omega))) (fun b h1 h2 => f b (by omega))
  · rw [f _ (by omega), upW_o S W (by omega), upW_o S W (by omega)]
    exact ⟨(d i hi).1, fun hk => ⟨((d i hi).2 hk).1, cW_fr ((d i hi).2 hk).2 (okW_m ((o5 i hi).2 hk).2) (fun b h1 h2 => f b (by omega))⟩⟩
theorem okS_up {S : Nat → Nat → Int} {W : Nat → Int} (ok : okS S) (hW : okW W) : okS (upW S W) := by
  obtain ⟨o1, o2, o3, o4, o5, o6, o7⟩ := ok
  refine ⟨by rw [upW_0]; exact hW, fun t ht => by rw [upW_o S W (by omega)]; exact o2 t ht, o3, o4, fun i hi => by rw [upW_o S W (by omega), upW_o S W (by omega)]; exact o5 i hi, o6, fun i hi => by rw [upW_o S W (by omega)]; exact o7 i hi⟩
def upM (S : Nat → Nat → Int) (j : Nat) (v : Int) : Nat → Nat → Int := fun c i => if c = 19 ∧ i = j then v else S c i
theorem upM_o (S : Nat → Nat → Int) (j : Nat) (v : Int) {c : Nat} (h : c ≠ 19) : upM S j v c = S c := by funext i; unfold upM; rw [if_neg (by omega)]
theorem upM_n (S : Nat → Nat → Int) (j : Nat) (v : Int) {i : Nat} (h : i ≠ j) : upM S j v 19 i = S 19 i := by unfold upM; rw [if_neg (by omega)]
theorem upM_y (S : Nat → Nat → Int) (j : Nat) (v : Int) : upM S j v 19 j = v := by unfold upM; rw [if_pos ⟨rfl, rfl⟩]
/-- the record, as a call -/
theorem recall {I S : Nat → Nat → Int} (h : cSt I S) (ok : okS S) {Post : Option mm_V → mm_S → Prop} (hP : ∀ I', hiF I' I → (∀ b, b < 41 → I' b = I b) → I' 302 = I 302 → I' 299 = I 299 → cSt I' (recS S) → Post none (I', mm_R0)) : T_X5_record [.inr (some 41), .inr (some 2)] (I, mm_R0) Post := by
  obtain ⟨a, ⟨nx, ct, b1, b2, b3, b4, b5, b6⟩, c, d, e, g⟩ := id h
  have hm := okW_m ok.1
  obtain ⟨n, m, q1, q2, _⟩ := ok.1
  refine ⟨rfl, rfl, rfl, nx, ct, m, b3, b4, by show I 2 1 = _; rw [a.2.1]; exact q2, b1, b2, by omega, fun I' f g1 g2 g3 => hP I' (fun b hb => f b (by omega) (by omega)) (fun b hb => f b (by omega) (by omega)) (f 302 (by omega) (by omega)) (f 299 (by omega) (by omega)) ?_⟩
  exact cSt_rec h ok b3 b4 (by rw [a.2.1]; exact q2) b1 b2 f g1 g2 g3
