/-! the other program: good corners
-/
theorem ac_cg {p q : Nat → Int} (h : ∀ i, i < 21 → p i = q i) {b f v : Nat} (hb : b < 3) (hf : f < 4) (hv : v < 4) (hne : v ≠ f) : ac p b f v = ac q b f v := by
  have hr := (tg_tab v hv f hf hne).2
  unfold ac
  rw [h _ (by omega), h _ (by omega)]
theorem lkM_ac {n : Nat} {C : Nat → Nat} {x b f v : Nat} (hb : b < 3) (hf : f < 4) (hv : v < 4) (hne : v ≠ f) : ac (lkM n C x) b f v = if b < n ∧ C (4 * b + v) = x then 1 else 0 := by
  have hr := (tg_tab v hv f hf hne).2
  unfold ac lkM
  rw [if_neg (by omega : ¬ ((7 * b + tg v f) % 7 < 4 ∧ _)), show (7 * b + v) % 7 = v by omega, show (7 * b + v) / 7 = b by omega, Int.add_zero]
  by_cases q : b < n ∧ C (4 * b + v) = x
  · rw [if_pos ⟨hv, q⟩, if_pos q]
  · rw [if_neg (fun w => q w.2), if_neg q]
theorem mtA_cg {n : Nat} {pa wy p q : Nat → Int} (hn : n ≤ 3) (hg : gok n pa wy) (h : ∀ i, i < 21 → p i = q i) {m v0 : Nat} (hm : mtA n pa wy p m v0) : mtA n pa wy q m v0 := by
  intro f v h1 h2 h3 h4 h5
  have := hm f v h1 h2 h3 h4 h5
  obtain ⟨q1, q2, q3, q4, q5, q6, q7, q8⟩ : f < 4 * n ∧ 0 ≤ pa f ∧ pa f < 4 * n ∧ pa f ≠ f ∧ pa (pa f).toNat = f ∧ 0 ≤ wy f ∧ wy f < 6 ∧ wy (pa f).toNat = mm_tb 1 (wy f).toNat := by
    rcases hg f (by omega) with e | e
    · exact absurd e h4
    · exact e
  have av := acN_b (o := (pa f).toNat) (k := (wy f).toNat) (f := f) (v := v) (by omega) (by omega) (by omega) h5
  unfold mc at this ⊢
  rw [← ac_cg h (by omega) (by omega) (by omega) (by omega), ← ac_cg h (by omega) (by omega) (by omega) (by omega)]
  exact this
theorem lkM_mt {n : Nat} {pa wy : Nat → Int} (hn : n ≤ 3) (hg : gok n pa wy) (x m v0 : Nat) : mtA n pa wy (lkM n (room n pa wy).1 x) m v0 := by
  intro f v h1 h2 h3 h4 h5
  obtain ⟨q1, q2, q3, q4, q5, q6, q7, q8⟩ : f < 4 * n ∧ 0 ≤ pa f ∧ pa f < 4 * n ∧ pa f ≠ f ∧ pa (pa f).toNat = f ∧ 0 ≤ wy f ∧ wy f < 6 ∧ wy (pa f).toNat = mm_tb 1 (wy f).toNat := by
    rcases hg f (by omega) with e | e
    · exact absurd e h4
    · exact e
  have av := acN_b (o := (pa f).toNat) (k := (wy f).toNat) (f := f) (v := v) (by omega) (by omega) (by omega) h5
  have e := (room_C n pa wy).2.1 (4 * (f / 4) + v) (acN (pa f).toNat (wy f).toNat f v) ⟨f, h2, h4, v, h3, v, h3, h5, h5, rfl, rfl⟩
  unfold mc
  rw [lkM_ac (by omega) (by omega) (by omega) (by omega), lkM_ac (by omega) (by omega) (by omega) (by omega), show 4 * ((pa f).toNat / 4) + acN (pa f).toNat (wy f).toNat f v % 4 = acN (pa f).toNat (wy f).toNat f v by omega, e]
  by_cases c : (room n pa wy).1 (acN (pa f).toNat (wy f).toNat f v) = x
  · rw [if_pos ⟨by omega, c⟩, if_pos ⟨by omega, c⟩]
  · rw [if_neg (fun w => c w.2), if_neg (fun w => c w.2)]
def scM (I' I : Nat → Nat → Int) : Prop := (∀ b, b < 339 ∨ (339 < b ∧ b < 343) → I' b = I b) ∧ (∀ j, j < 2888 → I' 339 j = I 339 j) ∧ (bd (MN I 2888) → bd (MN I' 2888))
theorem scM_rf (I : Nat → Nat → Int) : scM I I := ⟨fun _ _ => rfl, fun _ _ => rfl, id⟩
theorem scM_tr {A B C : Nat → Nat → Int} (h : scM B A) (g : scM C B) : scM C A := ⟨fun b hb => by rw [g.1 b hb, h.1 b hb], fun j hj => by rw [g.2.1 j hj, h.2.1 j hj], fun x => g.2.2 (h.2.2 x)⟩
theorem scM_hi {A B : Nat → Nat → Int} (h : ∀ b, b < 343 → B b = A b) : scM B A := ⟨fun b hb => h b (by omega), fun j _ => by rw [h 339 (by omega)], fun x => by unfold MN at x ⊢; rw [h 339 (by omega)]; exact x⟩
theorem gok_cg {n : Nat} {pa wy pa' wy' : Nat → Int} (hn : n ≤ 3) (h : agW pa wy pa' wy') (hg : gok n pa wy) : gok n pa' wy' := by
  intro f hf
  rw [← h.1 f hf]
  rcases hg f hf with e | ⟨e1, e2, e3, e4, e5, e6, e7, e8⟩
  · exact Or.inl e
  · refine Or.inr ⟨e1, e2, e3, e4, ?_⟩
    rw [← h.1 _ (by omega), ← h.2 f hf e2, ← h.2 (pa f).toNat (by omega) (by omega)]
    exact ⟨e5, e6, e7, e8⟩
theorem gU_cg {pa wy pa' wy' : Nat → Int} {f : Nat} (h1 : pa f = pa' f) (h2 : wy f = wy' f) : gU pa wy f = gU pa' wy' f := by
  funext v u L
  unfold gU
  rw [h1, h2]
theorem room_cg {n : Nat} {pa wy pa' wy' : Nat → Int} (hn : n ≤ 3) (h : agW pa wy pa' wy') (hg : gok n pa wy) : room n pa wy = room n pa' wy' := by
  unfold room
  refine fo_cg (fun f hf => ?_) _
  funext L
  unfold gR
  rw [← h.1 f (by omega)]
  by_cases q : pa f = -1
  · rw [if_pos q, if_pos q]
  · rw [if_neg q, if_neg q]
    have hp : 0 ≤ pa f := by rcases hg f (by omega) with e | e <;> omega
    unfold gF
    refine fo_cg (fun v _ => ?_) _
    funext M
    unfold gV
    rw [gU_cg (h.1 f (by omega)) (h.2 f (by omega) hp)]
theorem aw_cg {p q : Nat → Int} (h : ∀ i, i < 21 → p i = q i) {b f : Nat} (hb : b < 3) (hf : f < 4) : aw p b f = aw q b f := by
  unfold aw
  refine sm_congr (fun v hv => ?_)
  by_cases r : v = f
  · rw [if_pos r, if_pos r]
  · rw [if_neg r, if_neg r, ac_cg h hb hf hv r]
theorem wt_cg {p q : Nat → Int} (h : ∀ i, i < 21 → p i = q i) {b e : Nat} (hb : b < 3) (he : e < 6) : wt p b e = wt q b e := by
  obtain ⟨l1, l2, l3, l4, l5⟩ := elo_b e he
  have hr := (tg_tab (elo e) (by omega) (ehi e) (by omega) (by omega)).2
  rw [wt_eq he, wt_eq he, h _ (by omega), h _ (by omega), h _ (by omega), h _ (by omega), h _ (by omega), h _ (by omega)]
theorem bdy_cg {n : Nat} {pa pa' p q : Nat → Int} (hn : n ≤ 3) (hp : ∀ j, j < 12 → pa j = pa' j) (h : ∀ i, i < 21 → p i = q i) : bdy n pa p = bdy n pa' q := by
  unfold bdy
  refine sm_congr (fun f hf => ?_)
  rw [hp f (by omega), aw_cg h (by omega) (by omega)]
theorem arcsum_cg {n : Nat} {pa pa' p q : Nat → Int} (hn : n ≤ 3) (hp : ∀ j, j < 12 → pa j = pa' j) (h : ∀ i, i < 21 → p i = q i) : arcsum n pa p = arcsum n pa' q := by
  unfold arcsum
  refine sm_congr (fun f hf => ?_)
  rw [hp f (by omega), aw_cg h (by omega) (by omega)]
theorem wsum_cg {n : Nat} {Le Le' : Nat → Nat} {p q : Nat → Int} (hn : n ≤ 3) (hL : ∀ e, e < 18 → Le e = Le' e) (h : ∀ i, i < 21 → p i = q i) : wsum n Le p = wsum n Le' q := by
  unfold wsum
  refine sm_congr (fun e he => ?_)
  rw [hL e (by omega), wt_cg h (by omega) (by omega)]
theorem eulM_cg {n : Nat} {pa pa' p q : Nat → Int} {Le Le' : Nat → Nat} (hn : n ≤ 3) (hp : ∀ j, j < 12 → pa j = pa' j) (hL : ∀ e, e < 18 → Le e = Le' e) (h : ∀ i, i < 21 → p i = q i) : eulM n pa Le p = eulM n pa' Le' q := by
  unfold eulM
  rw [sm_congr (fun k hk => h k (by omega)), wsum_cg hn hL h, arcsum_cg hn hp h]
theorem sdM_cg {p q : Nat → Int} (h : ∀ i, i < 21 → p i = q i) {f v : Nat} (hf : f < 12) (hv : v < 4) (hne : v ≠ f % 4) : sdM p f v = sdM q f v := by
  have hr := (tg_tab v hv (f % 4) (by omega) hne).2
  funext i
  unfold sdM
  rw [h _ (by omega), h _ (by omega)]
theorem joi_cg {n : Nat} {pa wy pa' wy' p q : Nat → Int} (hn : n ≤ 3) (h : agW pa wy pa' wy') (hg : gok n pa wy) (hb : ∀ i, i < 21 → p i = q i) : joi n pa wy p = joi n pa' wy' q := by
  unfold joi
  refine fo_cg (fun f hf => ?_) _
  funext L
  unfold kF
  rw [← h.1 f (by omega)]
  by_cases c : (f : Int) < pa f
  · rw [if_pos c, if_pos c]
    refine fo_cg (fun v hv => ?_) _
    funext M
    unfold kV
    rw [← acr_cg h (show f < 12 by omega)]
    by_cases c2 : 0 ≤ acr pa wy f v
    · rw [if_pos c2, if_pos c2]
      have hne : v ≠ f % 4 := by
        intro w
        unfold acr at c2
        rw [if_pos (Or.inl w)] at c2
        omega
      obtain ⟨o, k, e1, e2, e3, e4, e5, _⟩ := gok_lead hg (show f < 12 by omega) c
      have av := acN_b (o := o) (k := k) (f := f) (v := v) (by omega) (by omega) (by omega) hne
      rw [ac_cg hb (by omega) (by omega) hv hne]
      refine fo_cg (fun i _ => ?_) _
      funext M2
      unfold kI
      rw [← h.1 f (by omega), ← acr_cg h (show f < 12 by omega), acr_N e1 e2 hne, e1, Int.toNat_natCast, Int.toNat_natCast, sdM_cg hb (by omega) hv hne, sdM_cg hb (by omega) (by omega) (by omega)]
    · rw [if_neg c2, if_neg c2]
  · rw [if_neg c, if_neg c]
theorem thr_cg {p q : Nat → Int} (h : ∀ i, i < 21 → p i = q i) {k : Nat} (hk : k < 420) : thr p k ↔ thr q k := by
  unfold thr
  rw [h _ (by omega)]
theorem two_cg {p q : Nat → Int} (h : ∀ i, i < 21 → p i = q i) {L : L2} {r m : Nat} (hm : m ≤ 420) : two p L r m ↔ two q L r m := by
  unfold two
  exact ⟨fun w k h1 h2 h3 => w k h1 h2 ((thr_cg h (by omega)).mpr h3), fun w k h1 h2 h3 => w k h1 h2 ((thr_cg h (by omega)).mp h3)⟩
theorem bz_iff {z : Int} {P Q : Prop} (h : P ↔ Q) (hz : bz z P) : bz z Q := by
  rcases hz with ⟨a, b⟩ | ⟨a, b⟩
  · exact Or.inl ⟨a, h.mp b⟩
  · exact Or.inr ⟨a, fun w => b (h.mpr w)⟩
theorem pcnt_cg {p q : Nat → Int} (h : ∀ i, i < 21 → p i = q i) {n : Nat} (hn : n ≤ 3) {L : L2} {fl z : Int} (hz : pcnt p n L fl z) : pcnt q n L fl z := by
  obtain ⟨g, h1, h2⟩ := hz
  refine ⟨g, fun k hk => bz_iff ?_ (h1 k hk), h2⟩
  rw [thr_cg h (by omega), two_cg h (by omega)]
theorem gM_sc {I I1 : Nat → Nat → Int} {n : Nat} (h : gM I n) (e : scM I1 I) : gM I1 n ∧ agW (MP I) (MY I) (MP I1) (MY I1) := by
  have a : agW (MP I) (MY I) (MP I1) (MY I1) := ⟨fun j hj => by unfold MP; rw [e.2.1 _ (by omega)], fun j hj _ => by unfold MY; rw [e.2.1 _ (by omega)]⟩
  exact ⟨⟨by rw [e.2.1 0 (by omega)]; exact h.1, h.2.1, h.2.2.1, gok_cg h.2.2.1 a h.2.2.2⟩, a⟩
