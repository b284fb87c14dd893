/-! Survey: good vertices, types, ofNormal -/
theorem lk_b (n : Nat) (V : Nat → Int) (p : Int) : b20 (lk n V p) := fun i _ => by
  unfold lk
  split <;> omega
theorem tg_ge {c d : Nat} (hc : c < 4) (hd : d < 4) (h : c ≠ d) : 4 ≤ tg c d := by
  have : ∀ c, c < 4 → ∀ d, d < 4 → c ≠ d → 4 ≤ tg c d := by decide +kernel
  exact this c hc d hd h
theorem lk_ac {n b f v : Nat} {V : Nat → Int} {p : Int} (hb : b < 3) (hf : f < 4) (hv : v < 4) (hne : v ≠ f) : ac (lk n V p) b f v = if b < n ∧ V (4 * b + v) = p then 1 else 0 := by
  have h1 := tg_ge hv hf hne
  have h2 := tg_b hv hf
  have e1 : lk n V p (7 * b + tg v f) = 0 := by
    unfold lk
    rw [if_neg (by omega)]
  have e2 : lk n V p (7 * b + v) = if b < n ∧ V (4 * b + v) = p then 1 else 0 := by
    unfold lk
    rw [show (7 * b + v) / 7 = b by omega, show (7 * b + v) % 7 = v by omega]
    by_cases z : b < n ∧ V (4 * b + v) = p
    · rw [if_pos z, if_pos ⟨hv, z⟩]
    · rw [if_neg z, if_neg (fun w => z w.2)]
  unfold ac
  rw [e1, e2, Int.add_zero]
theorem gok_lead {n : Nat} {pa wy : Nat → Int} (hg : gok n pa wy) {f : Nat} (hf : f < 12) (h : (f : Int) < pa f) : ∃ o k : Nat, pa f = o ∧ wy f = k ∧ o < 4 * n ∧ k < 6 ∧ f < 4 * n ∧ pa o = f ∧ wy o = mm_tb 1 k := by
  rcases hg f hf with q | ⟨q1, q2, q3, q4, q5, q6, q7, q8⟩
  · omega
  · obtain ⟨o, ho⟩ := Int.eq_ofNat_of_zero_le q2
    obtain ⟨k, hk⟩ := Int.eq_ofNat_of_zero_le q6
    rw [ho, hk, Int.toNat_natCast, Int.toNat_natCast] at q8
    rw [ho, Int.toNat_natCast] at q5
    exact ⟨o, k, ho, hk, by omega, by omega, q1, q5, q8⟩
theorem acr_N {pa wy : Nat → Int} {f v o k : Nat} (ho : pa f = o) (hk : wy f = k) (hv : v ≠ f % 4) : acr pa wy f v = (acN o k f v : Int) := by
  unfold acr
  rw [if_neg (by omega), ho, hk]
  rfl
theorem lk_mt {n : Nat} {pa wy : Nat → Int} (hn : n ≤ 3) (hg : gok n pa wy) {V : Nat → Int} {p : Int} (hV : ∀ c, c < 4 * n → V c = nr (skel n pa wy).1 ((skel n pa wy).1 c)) : mt n pa wy (lk n V p) := by
  intro f v h1 h2 h3 h4
  obtain ⟨o, k, ho, hk, b1, b2, b3, b4, b5⟩ := gok_lead hg (show f < 12 by omega) h3
  have hb := acN_b (o := o) (k := k) (f := f) (v := v) (by omega) b2 h2 h4
  unfold mc
  rw [ho, hk, Int.toNat_natCast, Int.toNat_natCast, lk_ac (by omega) (by omega) h2 h4, lk_ac (by omega) (by omega) (by omega) hb.2.2]
  rw [show 4 * (o / 4) + acN o k f v % 4 = acN o k f v by omega]
  have hC := (skel_C n pa wy).2.1 (4 * (f / 4) + v) (acN o k f v) ⟨f, h1, h3, v, h2, by rw [acr_N ho hk h4]; omega, rfl, by rw [acr_N ho hk h4]; rfl⟩
  rw [hV (4 * (f / 4) + v) (by omega), hV (acN o k f v) (by omega), hC]
  by_cases z : nr (skel n pa wy).1 ((skel n pa wy).1 (acN o k f v)) = p
  · rw [if_pos ⟨by omega, z⟩, if_pos ⟨by omega, z⟩]
  · rw [if_neg (fun w => z w.2), if_neg (fun w => z w.2)]
/-- how many components, and how many of them are two-sided, as the class counts them -/
def ncomp (n : Nat) (pa wy nb : Nat → Int) : Int := nr (tra n pa wy nb).1 (so nb 21)
def ntwo (n : Nat) (pa wy nb : Nat → Int) : Int := nr (tra n pa wy nb).2 (2 * so nb 21) - nr (tra n pa wy nb).1 (so nb 21)
def good (n : Nat) (pa wy : Nat → Int) (Le : Nat → Nat) (nb : Nat → Int) : Prop := ncomp n pa wy nb = 1 ∧ eul n pa Le nb = if 0 < bdy n pa nb then 1 else 2
theorem SK_frame {I I' : Nat → Nat → Int} {n : Nat} {L : LT} (h : SK I n L) (hf : ∀ b, 18 ≤ b → b ≤ 28 → I' b = I b) : SK I' n L := by
  obtain ⟨k1, k2, k3, k4, k5, k6, k7, k8, k9⟩ := h
  refine ⟨by rw [hf 18 (by decide) (by decide)]; exact k1, by rw [hf 18 (by decide) (by decide)]; exact k2, fun c hc => by rw [hf 25 (by decide) (by decide)]; exact k3 c hc, fun c hc => by rw [hf 26 (by decide) (by decide)]; exact k4 c hc, fun c hc => by rw [hf 27 (by decide) (by decide)]; exact k5 c hc, fun c hc => by rw [hf 28 (by decide) (by decide)]; exact k6 c hc, by rw [hf 23 (by decide) (by decide)]; exact k7, fun i hi => by rw [hf 24 (by decide) (by decide)]; exact k8 i hi, fun k hk => ?_⟩
  rw [fi_congr (hf 24 (by decide) (by decide))]
  exact k9 k hk
theorem gw_frame {I I' : Nat → Nat → Int} {n : Nat} (h : gw I n) (h2 : I' 2 0 = I 2 0) (h3 : I' 3 = I 3) (h4 : I' 4 = I 4) : gw I' n := ⟨by rw [h2]; exact h.1, h.2.1, h.2.2.1, by rw [h3, h4]; exact h.2.2.2⟩
theorem eul_bb {n : Nat} {pa : Nat → Int} {Le : Nat → Nat} {nb : Nat → Int} (hn : n ≤ 3) (h : bd nb) : -100000 ≤ eul n pa Le nb ∧ eul n pa Le nb ≤ 120000 := by
  have h1 := sm_bound (f := nb) (n := 21) (c := 1000) h
  have h2 := sm_bound (f := fun e => if Le e = e then wt nb (e / 6) (e % 6) else 0) (n := 6 * n) (c := 5000) (fun k hk => by
    split
    · exact wt_b h (by omega) (by omega)
    · omega)
  have h3 := sm_bound (f := fun f => if pa f < 0 ∨ (f : Int) < pa f then aw nb (f / 4) (f % 4) else 0) (n := 4 * n) (c := 8000) (fun k hk => by
    split
    · exact aw_b h (by omega) (by omega)
    · omega)
  unfold eul wsum arcsum
  omega
def T_X9_isGood : mm_T := fun av σ Post => match av with
  | [.inr (some s), .inl p] => σ.2 = mm_R0 ∧ s = 1 ∧ ∃ n : Nat, gw σ.1 n ∧ SK σ.1 n (skel n (σ.1 3) (σ.1 4)) ∧
    ∀ (I' : Nat → Nat → Int) (z : Int) (nb : Nat → Int), (∀ b, b ≠ 1 → b < 31 ∨ 40 < b → I' b = σ.1 b) → (∀ k, k < 21 → nb k = lk n (σ.1 25) p k) → bz z (good n (σ.1 3) (σ.1 4) (skel n (σ.1 3) (σ.1 4)).2.1 nb) → Post (some (.inl z)) (I', mm_R0)
  | _ => False
def rm_X9_isGood : Room := { frames := 4, cells := 0, slots := 0, locals := 101 }
def b_X9_isGood_0 (Ok : Nat → mm_K) (Post : Option mm_V → mm_S → Prop) (kf : Nat) : mm_K := i_la 0 (i_ld 1 (i_la 0 (i_gr 8 6 (i_cv 8 2 T_X9_fillLink (i_la 0 (i_la 0 (i_gr 8 6 (i_cv 8 1 T_X9_trace (i_la 0 (i_la 0 (i_gr 8 6 (i_cv 8 1 T_X9_boundary (i_if (fun x => x ≤ 0) (i_c 2 (Ok 33)) (i_c 1 (Ok 33)))))))))))))))
def b_X9_isGood_33 (Ok : Nat → mm_K) (Post : Option mm_V → mm_S → Prop) (kf : Nat) : mm_K := i_st 2 (i_la 0 (i_gi 8 10 (i_c 1 (i_if2 (fun x y => ¬ x = y) (Ok 58) (i_la 0 (i_la 0 (i_gr 8 6 (i_cv 8 1 T_X9_characteristic (i_ld 2 (i_if2 (fun x y => ¬ x = y) (Ok 58) (i_c 1 (Ok 59))))))))))))
def b_X9_isGood_58 (Ok : Nat → mm_K) (Post : Option mm_V → mm_S → Prop) (kf : Nat) : mm_K := i_c 0 (Ok 59)
def b_X9_isGood_59 (Ok : Nat → mm_K) (Post : Option mm_V → mm_S → Prop) (kf : Nat) : mm_K := i_zr Post kf
def clo_X9_isGood (Ok : Nat → mm_K) (Post : Option mm_V → mm_S → Prop) (kf : Nat) : Prop := mm_imp (b_X9_isGood_0 Ok Post kf) (Ok 0) ∧ mm_imp (b_X9_isGood_33 Ok Post kf) (Ok 33) ∧ mm_imp (b_X9_isGood_58 Ok Post kf) (Ok 58) ∧ mm_imp (b_X9_isGood_59 Ok Post kf) (Ok 59)
set_option maxRecDepth 100000 in
set_option maxHeartbeats 4000000 in
theorem bk_X9_isGood {p : Program} {l : Launch} {e : Env} {s : State} {m : MethodId} {args : Array Value} {below : List Frame} {meth : Method} {c : Code} {G : mm_G} {σ0 : mm_S} {Post : Option mm_V → mm_S → Prop} (hC : mm_C p G s m args meth c cX9_isGood yX9_isGood.cls) (hr : meth.sig.returnType = some .boolean) : clo_X9_isGood (mm_O p l e rm_X9_isGood s m args below meth c G σ0.2.2 (MQ below (mm_Qc G σ0 rm_X9_isGood.cells rm_X9_isGood.slots Post) args s rm_X9_isGood.cells rm_X9_isGood.slots (mm_A G))) Post σ0.2.2 := ⟨(by unfold b_X9_isGood_0; exact (mm_la_n hC dX9_isGood_0 rfl (mm_ld_n hC dX9_isGood_1 rfl (mm_la_n hC dX9_isGood_2 rfl (mm_gr hC cl_8 (by decide) rfl wd_227 dX9_isGood_3 (mm_cv hC sp_X9_fillLink ⟨rfl, rfl⟩ cl_8 wd_435 wd_436 wd_437 wd_438 wd_66 ⟨by decide, by decide, by decide +kernel⟩ ⟨by decide, by decide⟩ dX9_isGood_6 (mm_la_n hC dX9_isGood_9 rfl (mm_la_n hC dX9_isGood_10 rfl (mm_gr hC cl_8 (by decide) rfl wd_227 dX9_isGood_11 (mm_cv hC sp_X9_trace ⟨rfl, rfl⟩ cl_8 wd_444 wd_446 wd_4 wd_447 wd_66 ⟨by decide, by decide, by decide +kernel⟩ ⟨by decide, by decide⟩ dX9_isGood_14 (mm_la_n hC dX9_isGood_17 rfl (mm_la_n hC dX9_isGood_18 rfl (mm_gr hC cl_8 (by decide) rfl wd_227 dX9_isGood_19 (mm_cv hC sp_X9_boundary ⟨rfl, rfl⟩ cl_8 wd_473 wd_474 wd_475 wd_476 wd_66 ⟨by decide, by decide, by decide +kernel⟩ ⟨by decide, by decide⟩ dX9_isGood_22 (mm_if_le hC (t := 32) dX9_isGood_25 (by decide) (mm_ic hC dX9_isGood_32 ⟨by decide, by decide⟩ (fun _ _ _ h => h)) (mm_ic hC dX9_isGood_28 ⟨by decide, by decide⟩ (mm_goto hC (t := 33) dX9_isGood_29 (by decide) (fun _ _ _ h => h)))))))))))))))))), (by unfold b_X9_isGood_33; exact (mm_st_n hC dX9_isGood_33 rfl (mm_la_n hC dX9_isGood_34 rfl (mm_gi hC cl_8 (by decide) rfl wd_231 dX9_isGood_35 (mm_ic hC dX9_isGood_38 ⟨by decide, by decide⟩ (mm_ic_ne hC (t := 58) dX9_isGood_39 (by decide) (fun _ _ _ h => h) (mm_la_n hC dX9_isGood_42 rfl (mm_la_n hC dX9_isGood_43 rfl (mm_gr hC cl_8 (by decide) rfl wd_227 dX9_isGood_44 (mm_cv hC sp_X9_characteristic ⟨rfl, rfl⟩ cl_8 wd_482 wd_483 wd_484 wd_485 wd_66 ⟨by decide, by decide, by decide +kernel⟩ ⟨by decide, by decide⟩ dX9_isGood_47 (mm_ld_n hC dX9_isGood_50 rfl (mm_ic_ne hC (t := 58) dX9_isGood_51 (by decide) (fun _ _ _ h => h) (mm_ic hC dX9_isGood_54 ⟨by decide, by decide⟩ (mm_goto hC (t := 59) dX9_isGood_55 (by decide) (fun _ _ _ h => h))))))))))))))), (by unfold b_X9_isGood_58; exact (mm_ic hC dX9_isGood_58 ⟨by decide, by decide⟩ (fun _ _ _ h => h))), (by unfold b_X9_isGood_59; exact (mm_zr hC ⟨rfl, rfl⟩ hr dX9_isGood_59))⟩
set_option maxRecDepth 100000 in
set_option maxHeartbeats 8000000 in
theorem pv_X9_isGood : ∀ (av : List mm_V) (σ : mm_S) (Post : Option mm_V → mm_S → Prop), (∀ v ∈ av, mm_iv v) → (∀ a j, mm_in (σ.1 a j)) → σ.2.2 ≤ 348 → T_X9_isGood av σ Post → ∀ Ok : Nat → mm_K, clo_X9_isGood Ok Post σ.2.2 → Ok 0 (av ++ List.replicate (3 - av.length) (.inr none)) [] σ := by
  intro av σ Post hav hin hk hT Ok hcl
  obtain ⟨I, R0⟩ := σ
  unfold T_X9_isGood at hT
  split at hT
  · rename_i s p
    obtain ⟨h0, hT⟩ := hT
    have h0 : R0 = mm_R0 := h0
    subst h0
    dsimp only at hT hin
    obtain ⟨c0, c33, c58, c59⟩ := hcl
    obtain ⟨rfl, n, hg, hS, hP⟩ := hT
    obtain ⟨r0, r1, r2, r3, r4, r5, r6, r7, r8, r9⟩ := Rs_1
    have q36 := sh_35.2.2.2.2.2.1
    obtain ⟨L, hL⟩ : ∃ L, skel n (I 3) (I 4) = L := ⟨_, rfl⟩
    have hV : ∀ c, c < 4 * n → I 25 c = nr (skel n (I 3) (I 4)).1 ((skel n (I 3) (I 4)).1 c) := hS.2.2.1
    have hmt := lk_mt (V := I 25) (p := p) hg.2.2.1 hg.2.2.2 hV
    refine c0 _ _ _ ?_
    simp only [b_X9_isGood_0, i_ld, i_la, i_st, i_sa, i_c, i_inc, i_add, i_sub, i_mul, i_div, i_rem, i_remT, i_xor, i_dup, i_dup2, i_if, i_if2, i_sw, i_gi, i_gr, i_pi, i_pz, i_ial, i_ias, i_len, i_aal, i_gs, i_tal, i_cv, i_cs, i_ir, i_zr, i_vr, i_min, i_max, i_cpy, List.getElem?_cons_zero, List.getElem?_cons_succ, List.set_cons_zero, List.set_cons_succ, List.length_cons, List.length_nil, List.drop_succ_cons, List.drop_zero, List.take_succ_cons, List.take_zero, List.reverse_cons, List.reverse_nil, List.nil_append, List.cons_append, Option.toList_some, Option.toList_none, true_and, and_true, true_or, or_true, Nat.reduceAdd, Nat.reduceLT, Nat.reduceLeDiff, Option.some.injEq, exists_eq_left', Int.toNat_natCast, Nat.reduceSub, List.append_nil, List.replicate_succ, List.replicate_zero, mm_in, r6, r9, q36, T_X9_fillLink, T_X9_trace, T_X9_boundary]
    refine ⟨n, hg.1, hg.2.2.1, fun I1 f1 f2 => ?_⟩
    have g1 : gw I1 n := gw_frame hg (by rw [f1 2 (by decide)]) (f1 3 (by decide)) (f1 4 (by decide))
    have hb1 : b20 (I1 37) := fun i hi => by rw [f2 i hi]; exact lk_b n (I 25) p i hi
    have e3 : I1 3 = I 3 := f1 3 (by decide)
    have e4 : I1 4 = I 4 := f1 4 (by decide)
    refine ⟨n, g1, hb1, by rw [e3, e4]; exact (mt_congr hg.2.2.2 hg.2.2.1 f2).mpr hmt, fun I2 f3 c1 c2 => ?_⟩
    have x3 : I2 3 = I 3 := by rw [f3 3 (by decide) (by decide)]; exact e3
    have x4 : I2 4 = I 4 := by rw [f3 4 (by decide) (by decide)]; exact e4
    have x37 : I2 37 = I1 37 := f3 37 (by decide) (by decide)
    have g2 : gw I2 n := gw_frame hg (by rw [f3 2 (by decide) (by decide), f1 2 (by decide)]) x3 x4
    have S2 : SK I2 n L := by
      rw [← hL]
      refine SK_frame hS (fun b z1 z2 => ?_)
      rw [f3 b (by omega) (by omega), f1 b (by omega)]
    rw [e3, e4] at c1
    have hc1 : I2 1 10 = ncomp n (I 3) (I 4) (I1 37) := c1
    have hcb := nr_b (tra n (I 3) (I 4) (I1 37)).1 (so (I1 37) 21)
    refine ⟨n, g2, by rw [x37]; exact b20_bd hb1, ?_⟩
    rw [x37, x3]
    have hF : ∀ b, b ≠ 1 → b < 31 ∨ 40 < b → I2 b = I b := fun b z1 z2 => by rw [f3 b z1 (by omega), f1 b (by omega)]
    have fin : ∀ (z : Int) (u : mm_V), bz z (good n (I 3) (I 4) L.2.1 (I1 37)) → Ok 59 [.inr (some 1), .inl p, u] [.inl z] (I2, mm_R0) := by
      intro z u hz
      refine c59 _ _ _ ?_
      simp only [b_X9_isGood_59, i_ld, i_la, i_st, i_sa, i_c, i_inc, i_add, i_sub, i_mul, i_div, i_rem, i_remT, i_xor, i_dup, i_dup2, i_if, i_if2, i_sw, i_gi, i_gr, i_pi, i_pz, i_ial, i_ias, i_len, i_aal, i_gs, i_tal, i_cv, i_cs, i_ir, i_zr, i_vr, i_min, i_max, i_cpy, List.getElem?_cons_zero, List.getElem?_cons_succ, List.set_cons_zero, List.set_cons_succ, List.length_cons, List.length_nil, List.drop_succ_cons, List.drop_zero, List.take_succ_cons, List.take_zero, List.reverse_cons, List.reverse_nil, List.nil_append, List.cons_append, Option.toList_some, Option.toList_none, true_and, and_true, true_or, or_true, Nat.reduceAdd, Nat.reduceLT, Nat.reduceLeDiff, Option.some.injEq, exists_eq_left', Int.toNat_natCast, Nat.reduceSub, List.append_nil, List.replicate_succ, List.replicate_zero]
      refine ⟨by rcases hz with q | q <;> omega, hP I2 z (I1 37) hF f2 (by rw [hL]; exact hz)⟩
    have go : ∀ D : Int, (D = if 0 < bdy n (I 3) (I1 37) then 1 else 2) → Ok 33 [.inr (some 1), .inl p, .inr none] [.inl D] (I2, mm_R0) := by
      intro D hD
      have no : ¬ good n (I 3) (I 4) L.2.1 (I1 37) → Ok 58 [.inr (some 1), .inl p, .inl D] [] (I2, mm_R0) := by
        intro hh
        refine c58 _ _ _ ?_
        simp only [b_X9_isGood_58, i_ld, i_la, i_st, i_sa, i_c, i_inc, i_add, i_sub, i_mul, i_div, i_rem, i_remT, i_xor, i_dup, i_dup2, i_if, i_if2, i_sw, i_gi, i_gr, i_pi, i_pz, i_ial, i_ias, i_len, i_aal, i_gs, i_tal, i_cv, i_cs, i_ir, i_zr, i_vr, i_min, i_max, i_cpy, List.getElem?_cons_zero, List.getElem?_cons_succ, List.set_cons_zero, List.set_cons_succ, List.length_cons, List.length_nil, List.drop_succ_cons, List.drop_zero, List.take_succ_cons, List.take_zero, List.reverse_cons, List.reverse_nil, List.nil_append, List.cons_append, Option.toList_some, Option.toList_none, true_and, and_true, true_or, or_true, Nat.reduceAdd, Nat.reduceLT, Nat.reduceLeDiff, Option.some.injEq, exists_eq_left', Int.toNat_natCast, Nat.reduceSub, List.append_nil, List.replicate_succ, List.replicate_zero]
        exact fin 0 _ (bz_0 hh)
      refine c33 _ _ _ ?_
      simp only [b_X9_isGood_33, i_ld, i_la, i_st, i_sa, i_c, i_inc, i_add, i_sub, i_mul, i_div, i_rem, i_remT, i_xor, i_dup, i_dup2, i_if, i_if2, i_sw, i_gi, i_gr, i_pi, i_pz, i_ial, i_ias, i_len, i_aal, i_gs, i_tal, i_cv, i_cs, i_ir, i_zr, i_vr, i_min, i_max, i_cpy, List.getElem?_cons_zero, List.getElem?_cons_succ, List.set_cons_zero, List.set_cons_succ, List.length_cons, List.length_nil, List.drop_succ_cons, List.drop_zero, List.take_succ_cons, List.take_zero, List.reverse_cons, List.reverse_nil, List.nil_append, List.cons_append, Option.toList_some, Option.toList_none, true_and, and_true, true_or, or_true, Nat.reduceAdd, Nat.reduceLT, Nat.reduceLeDiff, Option.some.injEq, exists_eq_left', Int.toNat_natCast, Nat.reduceSub, List.append_nil, List.replicate_succ, List.replicate_zero, mm_in, r6, r9, q36, hc1, T_X9_characteristic]
      refine fun _ => ⟨fun z => no (fun w => z w.1), fun z => ⟨n, L, g2, S2, by rw [x37]; exact b20_bd hb1, ?_⟩⟩
      rw [x37, x3]
      refine ⟨fun y => no (fun w => y (by rw [w.2, hD])), fun y => fin 1 _ (bz_1 ⟨by omega, by rw [← hD]; omega⟩)⟩
    refine ⟨fun z => go 2 (by rw [if_neg (by omega)]), fun z => go 1 (by rw [if_pos (by omega)])⟩
  · exact hT.elim
theorem sp_X9_isGood : mm_Sp yX9_isGood cX9_isGood 3 (some .boolean) rm_X9_isGood T_X9_isGood := mm_meth (by decide) (by
  intro av σ Post h
  unfold T_X9_isGood at h
  split at h
  · simp
  · exact h.elim) (fun p l e s m args below meth c G av σ Post hC hr _ hav hin hk hT => pv_X9_isGood av σ Post hav hin hk hT _ (bk_X9_isGood hC hr))
/-- how many vertices are good -/
def ngood (n : Nat) (pa wy : Nat → Int) (V : Nat → Int) (N : Nat) (z : Int) : Prop := ∃ g : Nat → Int, (∀ p, p < N → ∃ nb : Nat → Int, (∀ k, k < 21 → nb k = lk n V p k) ∧ bz (g p) (good n pa wy (skel n pa wy).2.1 nb)) ∧ z = sm g N
def T_X9_goodVertices : mm_T := fun av σ Post => match av with
  | [.inr (some s)] => σ.2 = mm_R0 ∧ s = 1 ∧ ∃ n : Nat, gw σ.1 n ∧ SK σ.1 n (skel n (σ.1 3) (σ.1 4)) ∧
    ∀ (I' : Nat → Nat → Int) (z : Int), (∀ b, b ≠ 1 → b < 31 ∨ 40 < b → I' b = σ.1 b) → 0 ≤ z ∧ z ≤ 12 → ngood n (σ.1 3) (σ.1 4) (σ.1 25) (nr (skel n (σ.1 3) (σ.1 4)).1 (4 * n)).toNat z → Post (some (.inl z)) (I', mm_R0)
  | _ => False
def rm_X9_goodVertices : Room := { frames := 5, cells := 0, slots := 0, locals := 123 }
def b_X9_goodVertices_0 (Ok : Nat → mm_K) (Post : Option mm_V → mm_S → Prop) (kf : Nat) : mm_K := i_c 0 (i_st 1 (i_c 0 (i_st 2 (Ok 4))))
def b_X9_goodVertices_4 (Ok : Nat → mm_K) (Post : Option mm_V → mm_S → Prop) (kf : Nat) : mm_K := i_ld 2 (i_la 0 (i_gr 8 1 (i_gi 7 7 (i_if2 (fun x y => y ≤ x) (i_ld 1 (i_ir Post kf)) (i_ld 1 (i_la 0 (i_ld 2 (i_cv 8 1 T_X9_isGood (i_if (fun x => x = 0) (i_c 0 (Ok 29)) (i_c 1 (Ok 29)))))))))))
def b_X9_goodVertices_29 (Ok : Nat → mm_K) (Post : Option mm_V → mm_S → Prop) (kf : Nat) : mm_K := i_add (i_st 1 (i_inc 2 1 (Ok 4)))
def clo_X9_goodVertices (Ok : Nat → mm_K) (Post : Option mm_V → mm_S → Prop) (kf : Nat) : Prop := mm_imp (b_X9_goodVertices_0 Ok Post kf) (Ok 0) ∧ mm_imp (b_X9_goodVertices_4 Ok Post kf) (Ok 4) ∧ mm_imp (b_X9_goodVertices_29 Ok Post kf) (Ok 29)
set_option maxRecDepth 100000 in
set_option maxHeartbeats 4000000 in
theorem bk_X9_goodVertices {p : Program} {l : Launch} {e : Env} {s : State} {m : MethodId} {args : Array Value} {below : List Frame} {meth : Method} {c : Code} {G : mm_G} {σ0 : mm_S} {Post : Option mm_V → mm_S → Prop} (hC : mm_C p G s m args meth c cX9_goodVertices yX9_goodVertices.cls) (hr : meth.sig.returnType = some .int) : clo_X9_goodVertices (mm_O p l e rm_X9_goodVertices s m args below meth c G σ0.2.2 (MQ below (mm_Qc G σ0 rm_X9_goodVertices.cells rm_X9_goodVertices.slots Post) args s rm_X9_goodVertices.cells rm_X9_goodVertices.slots (mm_A G))) Post σ0.2.2 := ⟨(by unfold b_X9_goodVertices_0; exact (mm_ic hC dX9_goodVertices_0 ⟨by decide, by decide⟩ (mm_st_n hC dX9_goodVertices_1 rfl (mm_ic hC dX9_goodVertices_2 ⟨by decide, by decide⟩ (mm_st_n hC dX9_goodVertices_3 rfl (fun _ _ _ h => h)))))), (by unfold b_X9_goodVertices_4; exact (mm_ld_n hC dX9_goodVertices_4 rfl (mm_la_n hC dX9_goodVertices_5 rfl (mm_gr hC cl_8 (by decide) rfl wd_221 dX9_goodVertices_6 (mm_gi hC cl_7 (by decide) rfl wd_179 dX9_goodVertices_9 (mm_ic_ge hC (t := 37) dX9_goodVertices_12 (by decide) (mm_ld_n hC dX9_goodVertices_37 rfl (mm_ir hC ⟨rfl, rfl⟩ hr dX9_goodVertices_38)) (mm_ld_n hC dX9_goodVertices_15 rfl (mm_la_n hC dX9_goodVertices_16 rfl (mm_ld_n hC dX9_goodVertices_17 rfl (mm_cv hC sp_X9_isGood ⟨rfl, rfl⟩ cl_8 wd_431 wd_433 wd_3 wd_434 wd_66 ⟨by decide, by decide, by decide +kernel⟩ ⟨by decide, by decide⟩ dX9_goodVertices_18 (mm_if_eq hC (t := 28) dX9_goodVertices_21 (by decide) (mm_ic hC dX9_goodVertices_28 ⟨by decide, by decide⟩ (fun _ _ _ h => h)) (mm_ic hC dX9_goodVertices_24 ⟨by decide, by decide⟩ (mm_goto hC (t := 29) dX9_goodVertices_25 (by decide) (fun _ _ _ h => h)))))))))))))), (by unfold b_X9_goodVertices_29; exact (mm_add hC dX9_goodVertices_29 (mm_st_n hC dX9_goodVertices_30 rfl (mm_inc hC dX9_goodVertices_31 (mm_goto hC (t := 4) dX9_goodVertices_34 (by decide) (fun _ _ _ h => h))))))⟩
set_option maxRecDepth 100000 in
set_option maxHeartbeats 8000000 in
theorem pv_X9_goodVertices : ∀ (av : List mm_V) (σ : mm_S) (Post : Option mm_V → mm_S → Prop), (∀ v ∈ av, mm_iv v) → (∀ a j, mm_in (σ.1 a j)) → σ.2.2 ≤ 348 → T_X9_goodVertices av σ Post → ∀ Ok : Nat → mm_K, clo_X9_goodVertices Ok Post σ.2.2 → Ok 0 (av ++ List.replicate (3 - av.length) (.inr none)) [] σ := by
  intro av σ Post hav hin hk hT Ok hcl
  obtain ⟨I, R0⟩ := σ
  unfold T_X9_goodVertices at hT
  split at hT
  · rename_i s
    obtain ⟨h0, hT⟩ := hT
    have h0 : R0 = mm_R0 := h0
    subst h0
    dsimp only at hT hin
    obtain ⟨c0, c4, c29⟩ := hcl
    obtain ⟨rfl, n, hg, hS, hP⟩ := hT
    obtain ⟨r0, r1, r2, r3, r4, r5, r6, r7, r8, r9⟩ := Rs_1
    have s0 := sh_18.1
    have hnb := nr_b (skel n (I 3) (I 4)).1 (4 * n)
    have hn3 := hg.2.2.1
    obtain ⟨N, hN⟩ := Int.eq_ofNat_of_zero_le hnb.1
    rw [hN, Int.toNat_natCast] at hP
    have loop : ∀ (d l : Nat) (I' : Nat → Nat → Int) (g : Nat → Int), l + d = N → (∀ b, b ≠ 1 → b < 31 ∨ 40 < b → I' b = I b) → (∀ p, p < l → ∃ nb : Nat → Int, (∀ k, k < 21 → nb k = lk n (I 25) p k) ∧ bz (g p) (good n (I 3) (I 4) (skel n (I 3) (I 4)).2.1 nb)) → Ok 4 [.inr (some 1), .inl (sm g l), .inl (l : Int)] [] (I', mm_R0) := by
      intro d
      induction d with
      | zero =>
        intro l I' g hd q1 q2
        have e18 : I' 18 7 = (N : Int) := by rw [q1 18 (by decide) (by decide), hS.1, hN]
        have hb := sm_bound (f := g) (n := l) (c := 1) (fun k hk => by obtain ⟨nb, _, q⟩ := q2 k hk; rcases q with q | q <;> omega)
        refine c4 _ _ _ ?_
        simp only [b_X9_goodVertices_4, i_ld, i_la, i_st, i_sa, i_c, i_inc, i_add, i_sub, i_mul, i_div, i_rem, i_remT, i_xor, i_dup, i_dup2, i_if, i_if2, i_sw, i_gi, i_gr, i_pi, i_pz, i_ial, i_ias, i_len, i_aal, i_gs, i_tal, i_cv, i_cs, i_ir, i_zr, i_vr, i_min, i_max, i_cpy, List.getElem?_cons_zero, List.getElem?_cons_succ, List.set_cons_zero, List.set_cons_succ, List.length_cons, List.length_nil, List.drop_succ_cons, List.drop_zero, List.take_succ_cons, List.take_zero, List.reverse_cons, List.reverse_nil, List.nil_append, List.cons_append, Option.toList_some, Option.toList_none, true_and, and_true, true_or, or_true, Nat.reduceAdd, Nat.reduceLT, Nat.reduceLeDiff, Option.some.injEq, exists_eq_left', Int.toNat_natCast, Nat.reduceSub, List.append_nil, List.replicate_succ, List.replicate_zero, mm_in, r1, r9, s0, e18]
        refine fun _ => ⟨fun _ => hP I' _ q1 (by omega) ⟨g, fun p hp => q2 p (by omega), by rw [show l = N by omega]⟩, fun z => by omega⟩
      | succ d ih =>
        intro l I' g hd q1 q2
        have e18 : I' 18 7 = (N : Int) := by rw [q1 18 (by decide) (by decide), hS.1, hN]
        have e3 : I' 3 = I 3 := q1 3 (by decide) (by decide)
        have e4 : I' 4 = I 4 := q1 4 (by decide) (by decide)
        have hb := sm_bound (f := g) (n := l) (c := 1) (fun k hk => by obtain ⟨nb, _, q⟩ := q2 k hk; rcases q with q | q <;> omega)
        refine c4 _ _ _ ?_
        simp only [b_X9_goodVertices_4, i_ld, i_la, i_st, i_sa, i_c, i_inc, i_add, i_sub, i_mul, i_div, i_rem, i_remT, i_xor, i_dup, i_dup2, i_if, i_if2, i_sw, i_gi, i_gr, i_pi, i_pz, i_ial, i_ias, i_len, i_aal, i_gs, i_tal, i_cv, i_cs, i_ir, i_zr, i_vr, i_min, i_max, i_cpy, List.getElem?_cons_zero, List.getElem?_cons_succ, List.set_cons_zero, List.set_cons_succ, List.length_cons, List.length_nil, List.drop_succ_cons, List.drop_zero, List.take_succ_cons, List.take_zero, List.reverse_cons, List.reverse_nil, List.nil_append, List.cons_append, Option.toList_some, Option.toList_none, true_and, and_true, true_or, or_true, Nat.reduceAdd, Nat.reduceLT, Nat.reduceLeDiff, Option.some.injEq, exists_eq_left', Int.toNat_natCast, Nat.reduceSub, List.append_nil, List.replicate_succ, List.replicate_zero, mm_in, r1, r9, s0, e18, T_X9_isGood]
        refine fun _ => ⟨fun z => by omega, fun _ => ⟨n, gw_frame hg (by rw [q1 2 (by decide) (by decide)]) e3 e4, by rw [e3, e4]; exact SK_frame hS (fun b z1 z2 => q1 b (by omega) (by omega)), fun I2 z nb f1 f2 hz => ?_⟩⟩
        rw [e3, e4] at hz
        rw [q1 25 (by decide) (by decide)] at f2
        have go : ∀ y : Int, bz y (good n (I 3) (I 4) (skel n (I 3) (I 4)).2.1 nb) → Ok 29 [.inr (some 1), .inl (sm g l), .inl (l : Int)] [.inl y, .inl (sm g l)] (I2, mm_R0) := by
          intro y hy
          have hy2 : y = 0 ∨ y = 1 := by rcases hy with q | q <;> omega
          refine c29 _ _ _ ?_
          simp only [b_X9_goodVertices_29, i_ld, i_la, i_st, i_sa, i_c, i_inc, i_add, i_sub, i_mul, i_div, i_rem, i_remT, i_xor, i_dup, i_dup2, i_if, i_if2, i_sw, i_gi, i_gr, i_pi, i_pz, i_ial, i_ias, i_len, i_aal, i_gs, i_tal, i_cv, i_cs, i_ir, i_zr, i_vr, i_min, i_max, i_cpy, List.getElem?_cons_zero, List.getElem?_cons_succ, List.set_cons_zero, List.set_cons_succ, List.length_cons, List.length_nil, List.drop_succ_cons, List.drop_zero, List.take_succ_cons, List.take_zero, List.reverse_cons, List.reverse_nil, List.nil_append, List.cons_append, Option.toList_some, Option.toList_none, true_and, and_true, true_or, or_true, Nat.reduceAdd, Nat.reduceLT, Nat.reduceLeDiff, Option.some.injEq, exists_eq_left', Int.toNat_natCast, Nat.reduceSub, List.append_nil, List.replicate_succ, List.replicate_zero, mm_in,]
          refine ⟨⟨by omega, by omega⟩, ⟨by omega, by omega⟩, ?_⟩
          have hsum : sm (fun j => if j = l then y else g j) (l + 1) = sm g l + y := by
            show sm (fun j => if j = l then y else g j) l + (if l = l then y else g l) = _
            rw [if_pos rfl]
            congr 1
            exact sm_congr (fun k hk => if_neg (by omega))
          rw [← hsum]
          refine ih (l + 1) I2 _ (by omega) (fun b z1 z2 => by rw [f1 b z1 z2]; exact q1 b z1 z2) (fun j hj => ?_)
          by_cases e2 : j = l
          · subst e2
            rw [if_pos rfl]
            exact ⟨nb, f2, hy⟩
          · rw [if_neg e2]; exact q2 j (by omega)
        refine ⟨fun q => go 0 (bz_0 (fun w => ?_)), fun q => go 1 (bz_1 ?_)⟩
        · rcases hz with ⟨z1, z2⟩ | ⟨z1, z2⟩
          · omega
          · exact z2 w
        · rcases hz with ⟨z1, z2⟩ | ⟨z1, z2⟩
          · exact z2
          · omega
    refine c0 _ _ _ ?_
    simp only [b_X9_goodVertices_0, i_ld, i_la, i_st, i_sa, i_c, i_inc, i_add, i_sub, i_mul, i_div, i_rem, i_remT, i_xor, i_dup, i_dup2, i_if, i_if2, i_sw, i_gi, i_gr, i_pi, i_pz, i_ial, i_ias, i_len, i_aal, i_gs, i_tal, i_cv, i_cs, i_ir, i_zr, i_vr, i_min, i_max, i_cpy, List.getElem?_cons_zero, List.getElem?_cons_succ, List.set_cons_zero, List.set_cons_succ, List.length_cons, List.length_nil, List.drop_succ_cons, List.drop_zero, List.take_succ_cons, List.take_zero, List.reverse_cons, List.reverse_nil, List.nil_append, List.cons_append, Option.toList_some, Option.toList_none, true_and, and_true, true_or, or_true, Nat.reduceAdd, Nat.reduceLT, Nat.reduceLeDiff, Option.some.injEq, exists_eq_left', Int.toNat_natCast, Nat.reduceSub, List.append_nil, List.replicate_succ, List.replicate_zero]
    exact loop N 0 I (fun _ => 0) (by omega) (fun _ _ _ => rfl) (fun p hp => by omega)
  · exact hT.elim
theorem sp_X9_goodVertices : mm_Sp yX9_goodVertices cX9_goodVertices 3 (some .int) rm_X9_goodVertices T_X9_goodVertices := mm_meth (by decide) (by
  intro av σ Post h
  unfold T_X9_goodVertices at h
  split at h
  · simp
  · exact h.elim) (fun p l e s m args below meth c G av σ Post hC hr _ hav hin hk hT => pv_X9_goodVertices av σ Post hav hin hk hT _ (bk_X9_goodVertices hC hr))
def typ (C B E D : Int) : Int := if ¬ C = 1 then 0 else if 0 < B then 1 else if E = 2 then 2 else if E = 1 then 3 else if E = 0 then (if D = 1 then 4 else 5) else 6
def T_X9_type : mm_T := fun av σ Post => match av with
  | [.inr (some s), .inr (some a)] => σ.2 = mm_R0 ∧ s = 1 ∧ (mm_sh a).1 = 6 ∧ a < 28 ∧ ∃ (n : Nat) (L : LT), gw σ.1 n ∧ SK σ.1 n L ∧ b20 (σ.1 (a + 1)) ∧ mt n (σ.1 3) (σ.1 4) (σ.1 (a + 1)) ∧
    ∀ I' : Nat → Nat → Int, (∀ b, b ≠ 1 → b < 31 ∨ 40 < b → I' b = σ.1 b) → Post (some (.inl (typ (ncomp n (σ.1 3) (σ.1 4) (σ.1 (a + 1))) (bdy n (σ.1 3) (σ.1 (a + 1))) (eul n (σ.1 3) L.2.1 (σ.1 (a + 1))) (ntwo n (σ.1 3) (σ.1 4) (σ.1 (a + 1)))))) (I', mm_R0)
  | _ => False
def rm_X9_type : Room := { frames := 4, cells := 0, slots := 0, locals := 101 }
def b_X9_type_0 (Ok : Nat → mm_K) (Post : Option mm_V → mm_S → Prop) (kf : Nat) : mm_K := i_la 0 (i_la 1 (i_cv 8 1 T_X9_trace (i_la 0 (i_gi 8 10 (i_c 1 (i_if2 (fun x y => x = y) (i_la 0 (i_la 1 (i_cv 8 1 T_X9_boundary (i_if (fun x => x ≤ 0) (i_la 0 (i_la 1 (i_cv 8 1 T_X9_characteristic (i_sw Ok 74 [(0, 60), (1, 58), (2, 56)])))) (i_c 1 (i_ir Post kf)))))) (i_c 0 (i_ir Post kf))))))))
def b_X9_type_56 (Ok : Nat → mm_K) (Post : Option mm_V → mm_S → Prop) (kf : Nat) : mm_K := i_c 2 (i_ir Post kf)
def b_X9_type_58 (Ok : Nat → mm_K) (Post : Option mm_V → mm_S → Prop) (kf : Nat) : mm_K := i_c 3 (i_ir Post kf)
def b_X9_type_60 (Ok : Nat → mm_K) (Post : Option mm_V → mm_S → Prop) (kf : Nat) : mm_K := i_la 0 (i_gi 8 11 (i_c 1 (i_if2 (fun x y => ¬ x = y) (i_c 5 (Ok 73)) (i_c 4 (Ok 73)))))
def b_X9_type_73 (Ok : Nat → mm_K) (Post : Option mm_V → mm_S → Prop) (kf : Nat) : mm_K := i_ir Post kf
def b_X9_type_74 (Ok : Nat → mm_K) (Post : Option mm_V → mm_S → Prop) (kf : Nat) : mm_K := i_c 6 (i_ir Post kf)
def clo_X9_type (Ok : Nat → mm_K) (Post : Option mm_V → mm_S → Prop) (kf : Nat) : Prop := mm_imp (b_X9_type_0 Ok Post kf) (Ok 0) ∧ mm_imp (b_X9_type_56 Ok Post kf) (Ok 56) ∧ mm_imp (b_X9_type_58 Ok Post kf) (Ok 58) ∧ mm_imp (b_X9_type_60 Ok Post kf) (Ok 60) ∧ mm_imp (b_X9_type_73 Ok Post kf) (Ok 73) ∧ mm_imp (b_X9_type_74 Ok Post kf) (Ok 74)
set_option maxRecDepth 100000 in
set_option maxHeartbeats 4000000 in
theorem bk_X9_type {p : Program} {l : Launch} {e : Env} {s : State} {m : MethodId} {args : Array Value} {below : List Frame} {meth : Method} {c : Code} {G : mm_G} {σ0 : mm_S} {Post : Option mm_V → mm_S → Prop} (hC : mm_C p G s m args meth c cX9_type yX9_type.cls) (hr : meth.sig.returnType = some .int) : clo_X9_type (mm_O p l e rm_X9_type s m args below meth c G σ0.2.2 (MQ below (mm_Qc G σ0 rm_X9_type.cells rm_X9_type.slots Post) args s rm_X9_type.cells rm_X9_type.slots (mm_A G))) Post σ0.2.2 := ⟨(by unfold b_X9_type_0; exact (mm_la_n hC dX9_type_0 rfl (mm_la_n hC dX9_type_1 rfl (mm_cv hC sp_X9_trace ⟨rfl, rfl⟩ cl_8 wd_444 wd_446 wd_4 wd_447 wd_66 ⟨by decide, by decide, by decide +kernel⟩ ⟨by decide, by decide⟩ dX9_type_2 (mm_la_n hC dX9_type_5 rfl (mm_gi hC cl_8 (by decide) rfl wd_231 dX9_type_6 (mm_ic hC dX9_type_9 ⟨by decide, by decide⟩ (mm_ic_eq hC (t := 15) dX9_type_10 (by decide) (mm_la_n hC dX9_type_15 rfl (mm_la_n hC dX9_type_16 rfl (mm_cv hC sp_X9_boundary ⟨rfl, rfl⟩ cl_8 wd_473 wd_474 wd_475 wd_476 wd_66 ⟨by decide, by decide, by decide +kernel⟩ ⟨by decide, by decide⟩ dX9_type_17 (mm_if_le hC (t := 25) dX9_type_20 (by decide) (mm_la_n hC dX9_type_25 rfl (mm_la_n hC dX9_type_26 rfl (mm_cv hC sp_X9_characteristic ⟨rfl, rfl⟩ cl_8 wd_482 wd_483 wd_484 wd_485 wd_66 ⟨by decide, by decide, by decide +kernel⟩ ⟨by decide, by decide⟩ dX9_type_27 (mm_tsw hC dX9_type_30 rfl (by decide) (by decide) (by decide))))) (mm_ic hC dX9_type_23 ⟨by decide, by decide⟩ (mm_ir hC ⟨rfl, rfl⟩ hr dX9_type_24)))))) (mm_ic hC dX9_type_13 ⟨by decide, by decide⟩ (mm_ir hC ⟨rfl, rfl⟩ hr dX9_type_14)))))))))), (by unfold b_X9_type_56; exact (mm_ic hC dX9_type_56 ⟨by decide, by decide⟩ (mm_ir hC ⟨rfl, rfl⟩ hr dX9_type_57))), (by unfold b_X9_type_58; exact (mm_ic hC dX9_type_58 ⟨by decide, by decide⟩ (mm_ir hC ⟨rfl, rfl⟩ hr dX9_type_59))), (by unfold b_X9_type_60; exact (mm_la_n hC dX9_type_60 rfl (mm_gi hC cl_8 (by decide) rfl wd_232 dX9_type_61 (mm_ic hC dX9_type_64 ⟨by decide, by decide⟩ (mm_ic_ne hC (t := 72) dX9_type_65 (by decide) (mm_ic hC dX9_type_72 ⟨by decide, by decide⟩ (fun _ _ _ h => h)) (mm_ic hC dX9_type_68 ⟨by decide, by decide⟩ (mm_goto hC (t := 73) dX9_type_69 (by decide) (fun _ _ _ h => h)))))))), (by unfold b_X9_type_73; exact (mm_ir hC ⟨rfl, rfl⟩ hr dX9_type_73)), (by unfold b_X9_type_74; exact (mm_bp hC dX9_type_74 ⟨⟨by decide, by decide⟩, by decide⟩ (mm_ir hC ⟨rfl, rfl⟩ hr dX9_type_76)))⟩
set_option maxRecDepth 100000 in
set_option maxHeartbeats 8000000 in
theorem pv_X9_type : ∀ (av : List mm_V) (σ : mm_S) (Post : Option mm_V → mm_S → Prop), (∀ v ∈ av, mm_iv v) → (∀ a j, mm_in (σ.1 a j)) → σ.2.2 ≤ 348 → T_X9_type av σ Post → ∀ Ok : Nat → mm_K, clo_X9_type Ok Post σ.2.2 → Ok 0 (av ++ List.replicate (2 - av.length) (.inr none)) [] σ := by
  intro av σ Post hav hin hk hT Ok hcl
  obtain ⟨I, R0⟩ := σ
  unfold T_X9_type at hT
  split at hT
  · rename_i s a
    obtain ⟨h0, hT⟩ := hT
    have h0 : R0 = mm_R0 := h0
    subst h0
    dsimp only at hT hin
    obtain ⟨c0, c56, c58, c60, c73, c74⟩ := hcl
    obtain ⟨rfl, h1, ha28, n, L, hg, hS, hb, hm, hP⟩ := hT
    have ha := sh_lt h1 (by decide)
    have hne1 : a + 1 ≠ 1 := fun e => by
      have : a = 0 := by omega
      rw [this] at h1; exact absurd h1 (by decide +kernel)
    have r9 := Rs_1.2.2.2.2.2.2.2.2.2
    refine c0 _ _ _ ?_
    simp only [b_X9_type_0, i_ld, i_la, i_st, i_sa, i_c, i_inc, i_add, i_sub, i_mul, i_div, i_rem, i_remT, i_xor, i_dup, i_dup2, i_if, i_if2, i_sw, i_gi, i_gr, i_pi, i_pz, i_ial, i_ias, i_len, i_aal, i_gs, i_tal, i_cv, i_cs, i_ir, i_zr, i_vr, i_min, i_max, i_cpy, List.getElem?_cons_zero, List.getElem?_cons_succ, List.set_cons_zero, List.set_cons_succ, List.length_cons, List.length_nil, List.drop_succ_cons, List.drop_zero, List.take_succ_cons, List.take_zero, List.reverse_cons, List.reverse_nil, List.nil_append, List.cons_append, Option.toList_some, Option.toList_none, true_and, and_true, true_or, or_true, Nat.reduceAdd, Nat.reduceLT, Nat.reduceLeDiff, Option.some.injEq, exists_eq_left', Int.toNat_natCast, Nat.reduceSub, List.append_nil, List.replicate_succ, List.replicate_zero, mm_in, T_X9_trace, h1, r9, T_X9_boundary, T_X9_characteristic]
    refine ⟨n, hg, hb, hm, fun I' f1 c1 c2 => ?_⟩
    have hF : ∀ b, b ≠ 1 → b < 31 ∨ 40 < b → I' b = I b := fun b z1 z2 => f1 b z1 (by omega)
    have hP := hP I' hF
    have x3 : I' 3 = I 3 := f1 3 (by decide) (by decide)
    have x4 : I' 4 = I 4 := f1 4 (by decide) (by decide)
    have xa : I' (a + 1) = I (a + 1) := f1 (a + 1) hne1 (by omega)
    have g2 : gw I' n := gw_frame hg (by rw [f1 2 (by decide) (by decide)]) x3 x4
    have S2 : SK I' n L := SK_frame hS (fun b z1 z2 => f1 b (by omega) (by omega))
    have hc1 : I' 1 10 = ncomp n (I 3) (I 4) (I (a + 1)) := c1
    have hc2 : I' 1 11 = ntwo n (I 3) (I 4) (I (a + 1)) := c2
    rw [hc1]
    refine fun _ => ⟨fun z => ?_, fun z => ?_⟩
    · refine ⟨n, g2, by rw [xa]; exact b20_bd hb, ?_⟩
      rw [x3, xa]
      refine ⟨fun y => ?_, fun y => ?_⟩
      · refine ⟨n, L, g2, S2, b20_bd hb, ?_⟩
        have last : ∀ u : Int, (u = 4 ∧ I' 1 11 = 1 ∨ u = 5 ∧ ¬ I' 1 11 = 1) → eul n (I 3) L.2.1 (I (a + 1)) = 0 → Ok 73 [.inr (some 1), .inr (some a)] [.inl u] (I', mm_R0) := by
          intro u hu he
          refine c73 _ _ _ ?_
          simp only [b_X9_type_73, i_ld, i_la, i_st, i_sa, i_c, i_inc, i_add, i_sub, i_mul, i_div, i_rem, i_remT, i_xor, i_dup, i_dup2, i_if, i_if2, i_sw, i_gi, i_gr, i_pi, i_pz, i_ial, i_ias, i_len, i_aal, i_gs, i_tal, i_cv, i_cs, i_ir, i_zr, i_vr, i_min, i_max, i_cpy, List.getElem?_cons_zero, List.getElem?_cons_succ, List.set_cons_zero, List.set_cons_succ, List.length_cons, List.length_nil, List.drop_succ_cons, List.drop_zero, List.take_succ_cons, List.take_zero, List.reverse_cons, List.reverse_nil, List.nil_append, List.cons_append, Option.toList_some, Option.toList_none, true_and, and_true, true_or, or_true, Nat.reduceAdd, Nat.reduceLT, Nat.reduceLeDiff, Option.some.injEq, exists_eq_left', Int.toNat_natCast, Nat.reduceSub, List.append_nil, List.replicate_succ, List.replicate_zero]
          have : typ (ncomp n (I 3) (I 4) (I (a + 1))) (bdy n (I 3) (I (a + 1))) (eul n (I 3) L.2.1 (I (a + 1))) (ntwo n (I 3) (I 4) (I (a + 1))) = u := by
            unfold typ
            rw [if_neg (by omega), if_neg (by omega), if_neg (by omega), if_neg (by omega), if_pos he, ← hc2]
            rcases hu with ⟨u1, u2⟩ | ⟨u1, u2⟩
            · rw [if_pos u2, u1]
            · rw [if_neg u2, u1]
          rw [this] at hP
          exact hP
        refine ⟨fun e0 => ?_, fun e0 => ⟨fun e1 => ?_, fun e1 => ⟨fun e2 => ?_, fun e2 => ?_⟩⟩⟩
        · refine c60 _ _ _ ?_
          simp only [b_X9_type_60, i_ld, i_la, i_st, i_sa, i_c, i_inc, i_add, i_sub, i_mul, i_div, i_rem, i_remT, i_xor, i_dup, i_dup2, i_if, i_if2, i_sw, i_gi, i_gr, i_pi, i_pz, i_ial, i_ias, i_len, i_aal, i_gs, i_tal, i_cv, i_cs, i_ir, i_zr, i_vr, i_min, i_max, i_cpy, List.getElem?_cons_zero, List.getElem?_cons_succ, List.set_cons_zero, List.set_cons_succ, List.length_cons, List.length_nil, List.drop_succ_cons, List.drop_zero, List.take_succ_cons, List.take_zero, List.reverse_cons, List.reverse_nil, List.nil_append, List.cons_append, Option.toList_some, Option.toList_none, true_and, and_true, true_or, or_true, Nat.reduceAdd, Nat.reduceLT, Nat.reduceLeDiff, Option.some.injEq, exists_eq_left', Int.toNat_natCast, Nat.reduceSub, List.append_nil, List.replicate_succ, List.replicate_zero, mm_in, r9]
          refine fun _ => ⟨fun w => last 5 (Or.inr ⟨rfl, w⟩) e0, fun w => last 4 (Or.inl ⟨rfl, by omega⟩) e0⟩
        · refine c58 _ _ _ ?_
          simp only [b_X9_type_58, i_ld, i_la, i_st, i_sa, i_c, i_inc, i_add, i_sub, i_mul, i_div, i_rem, i_remT, i_xor, i_dup, i_dup2, i_if, i_if2, i_sw, i_gi, i_gr, i_pi, i_pz, i_ial, i_ias, i_len, i_aal, i_gs, i_tal, i_cv, i_cs, i_ir, i_zr, i_vr, i_min, i_max, i_cpy, List.getElem?_cons_zero, List.getElem?_cons_succ, List.set_cons_zero, List.set_cons_succ, List.length_cons, List.length_nil, List.drop_succ_cons, List.drop_zero, List.take_succ_cons, List.take_zero, List.reverse_cons, List.reverse_nil, List.nil_append, List.cons_append, Option.toList_some, Option.toList_none, true_and, and_true, true_or, or_true, Nat.reduceAdd, Nat.reduceLT, Nat.reduceLeDiff, Option.some.injEq, exists_eq_left', Int.toNat_natCast, Nat.reduceSub, List.append_nil, List.replicate_succ, List.replicate_zero]
          unfold typ at hP
          rw [if_neg (by omega), if_neg (by omega), if_neg (by omega), if_pos e1] at hP
          exact hP
        · refine c56 _ _ _ ?_
          simp only [b_X9_type_56, i_ld, i_la, i_st, i_sa, i_c, i_inc, i_add, i_sub, i_mul, i_div, i_rem, i_remT, i_xor, i_dup, i_dup2, i_if, i_if2, i_sw, i_gi, i_gr, i_pi, i_pz, i_ial, i_ias, i_len, i_aal, i_gs, i_tal, i_cv, i_cs, i_ir, i_zr, i_vr, i_min, i_max, i_cpy, List.getElem?_cons_zero, List.getElem?_cons_succ, List.set_cons_zero, List.set_cons_succ, List.length_cons, List.length_nil, List.drop_succ_cons, List.drop_zero, List.take_succ_cons, List.take_zero, List.reverse_cons, List.reverse_nil, List.nil_append, List.cons_append, Option.toList_some, Option.toList_none, true_and, and_true, true_or, or_true, Nat.reduceAdd, Nat.reduceLT, Nat.reduceLeDiff, Option.some.injEq, exists_eq_left', Int.toNat_natCast, Nat.reduceSub, List.append_nil, List.replicate_succ, List.replicate_zero]
          unfold typ at hP
          rw [if_neg (by omega), if_neg (by omega), if_pos e2] at hP
          exact hP
        · refine c74 _ _ _ ?_
          simp only [b_X9_type_74, i_ld, i_la, i_st, i_sa, i_c, i_inc, i_add, i_sub, i_mul, i_div, i_rem, i_remT, i_xor, i_dup, i_dup2, i_if, i_if2, i_sw, i_gi, i_gr, i_pi, i_pz, i_ial, i_ias, i_len, i_aal, i_gs, i_tal, i_cv, i_cs, i_ir, i_zr, i_vr, i_min, i_max, i_cpy, List.getElem?_cons_zero, List.getElem?_cons_succ, List.set_cons_zero, List.set_cons_succ, List.length_cons, List.length_nil, List.drop_succ_cons, List.drop_zero, List.take_succ_cons, List.take_zero, List.reverse_cons, List.reverse_nil, List.nil_append, List.cons_append, Option.toList_some, Option.toList_none, true_and, and_true, true_or, or_true, Nat.reduceAdd, Nat.reduceLT, Nat.reduceLeDiff, Option.some.injEq, exists_eq_left', Int.toNat_natCast, Nat.reduceSub, List.append_nil, List.replicate_succ, List.replicate_zero]
          unfold typ at hP
          rw [if_neg (by omega), if_neg (by omega), if_neg e2, if_neg e1, if_neg e0] at hP
          exact hP
      · unfold typ at hP
        rw [if_neg (by omega), if_pos (by omega)] at hP
        exact hP
    · unfold typ at hP
      rw [if_pos z] at hP
      exact hP
  · exact hT.elim
theorem sp_X9_type : mm_Sp yX9_type cX9_type 2 (some .int) rm_X9_type T_X9_type := mm_meth (by decide) (by
  intro av σ Post h
  unfold T_X9_type at h
  split at h
  · simp
  · exact h.elim) (fun p l e s m args below meth c G av σ Post hC hr _ hav hin hk hT => pv_X9_type av σ Post hav hin hk hT _ (bk_X9_type hC hr))
/-- the properties 3 to 8 of a normal surface -/
def ofN (n : Nat) (pa wy nb : Nat → Int) (Le : Nat → Nat) (q z : Int) : Prop :=
  (q = 3 → z = eul n pa Le nb + 1000) ∧ (q = 4 → z = ncomp n pa wy nb) ∧ (q = 5 → z = bdy n pa nb) ∧ (q = 6 → z = ntwo n pa wy nb) ∧ (q = 7 → z = typ (ncomp n pa wy nb) (bdy n pa nb) (eul n pa Le nb) (ntwo n pa wy nb)) ∧
  (q = 8 → (6000 < cp nb 21 ∧ z = -1 ∨ cp nb 21 ≤ 6000 ∧ bz z (spl n pa wy nb)))
def T_X9_ofNormal : mm_T := fun av σ Post => match av with
  | [.inr (some s), .inr (some a), .inl q] => σ.2 = mm_R0 ∧ s = 1 ∧ (mm_sh a).1 = 6 ∧ a < 28 ∧ 3 ≤ q ∧ q ≤ 8 ∧ ∃ (n : Nat) (L : LT), gw σ.1 n ∧ SK σ.1 n L ∧ b20 (σ.1 (a + 1)) ∧ mt n (σ.1 3) (σ.1 4) (σ.1 (a + 1)) ∧
    ∀ (I' : Nat → Nat → Int) (z : Int), (∀ b, b ≠ 1 → b < 29 ∨ 40 < b → I' b = σ.1 b) → ofN n (σ.1 3) (σ.1 4) (σ.1 (a + 1)) L.2.1 q z → Post (some (.inl z)) (I', mm_R0)
  | _ => False
def rm_X9_ofNormal : Room := { frames := 5, cells := 0, slots := 0, locals := 122 }
def b_X9_ofNormal_0 (Ok : Nat → mm_K) (Post : Option mm_V → mm_S → Prop) (kf : Nat) : mm_K := i_ld 2 (i_sw Ok 68 [(3, 40), (4, 68), (5, 50), (6, 68), (7, 56), (8, 62)])
def b_X9_ofNormal_40 (Ok : Nat → mm_K) (Post : Option mm_V → mm_S → Prop) (kf : Nat) : mm_K := i_la 0 (i_la 1 (i_cv 8 1 T_X9_characteristic (i_c 1000 (i_add (i_ir Post kf)))))
def b_X9_ofNormal_50 (Ok : Nat → mm_K) (Post : Option mm_V → mm_S → Prop) (kf : Nat) : mm_K := i_la 0 (i_la 1 (i_cv 8 1 T_X9_boundary (i_ir Post kf)))
def b_X9_ofNormal_56 (Ok : Nat → mm_K) (Post : Option mm_V → mm_S → Prop) (kf : Nat) : mm_K := i_la 0 (i_la 1 (i_cv 8 1 T_X9_type (i_ir Post kf)))
def b_X9_ofNormal_62 (Ok : Nat → mm_K) (Post : Option mm_V → mm_S → Prop) (kf : Nat) : mm_K := i_la 0 (i_la 1 (i_cv 8 1 T_X9_splits (i_ir Post kf)))
def b_X9_ofNormal_68 (Ok : Nat → mm_K) (Post : Option mm_V → mm_S → Prop) (kf : Nat) : mm_K := i_la 0 (i_la 1 (i_cv 8 1 T_X9_trace (i_ld 2 (i_c 4 (i_if2 (fun x y => ¬ x = y) (i_la 0 (i_gi 8 11 (Ok 89))) (i_la 0 (i_gi 8 10 (Ok 89))))))))
def b_X9_ofNormal_89 (Ok : Nat → mm_K) (Post : Option mm_V → mm_S → Prop) (kf : Nat) : mm_K := i_ir Post kf
def clo_X9_ofNormal (Ok : Nat → mm_K) (Post : Option mm_V → mm_S → Prop) (kf : Nat) : Prop := mm_imp (b_X9_ofNormal_0 Ok Post kf) (Ok 0) ∧ mm_imp (b_X9_ofNormal_40 Ok Post kf) (Ok 40) ∧ mm_imp (b_X9_ofNormal_50 Ok Post kf) (Ok 50) ∧ mm_imp (b_X9_ofNormal_56 Ok Post kf) (Ok 56) ∧ mm_imp (b_X9_ofNormal_62 Ok Post kf) (Ok 62) ∧ mm_imp (b_X9_ofNormal_68 Ok Post kf) (Ok 68) ∧ mm_imp (b_X9_ofNormal_89 Ok Post kf) (Ok 89)
set_option maxRecDepth 100000 in
set_option maxHeartbeats 4000000 in
theorem bk_X9_ofNormal {p : Program} {l : Launch} {e : Env} {s : State} {m : MethodId} {args : Array Value} {below : List Frame} {meth : Method} {c : Code} {G : mm_G} {σ0 : mm_S} {Post : Option mm_V → mm_S → Prop} (hC : mm_C p G s m args meth c cX9_ofNormal yX9_ofNormal.cls) (hr : meth.sig.returnType = some .int) : clo_X9_ofNormal (mm_O p l e rm_X9_ofNormal s m args below meth c G σ0.2.2 (MQ below (mm_Qc G σ0 rm_X9_ofNormal.cells rm_X9_ofNormal.slots Post) args s rm_X9_ofNormal.cells rm_X9_ofNormal.slots (mm_A G))) Post σ0.2.2 := ⟨(by unfold b_X9_ofNormal_0; exact (mm_ld_n hC dX9_ofNormal_0 rfl (mm_tsw hC dX9_ofNormal_1 rfl (by decide) (by decide) (by decide)))), (by unfold b_X9_ofNormal_40; exact (mm_la_n hC dX9_ofNormal_40 rfl (mm_la_n hC dX9_ofNormal_41 rfl (mm_cv hC sp_X9_characteristic ⟨rfl, rfl⟩ cl_8 wd_482 wd_483 wd_484 wd_485 wd_66 ⟨by decide, by decide, by decide +kernel⟩ ⟨by decide, by decide⟩ dX9_ofNormal_42 (mm_sp hC dX9_ofNormal_45 ⟨⟨by decide, by decide⟩, by decide⟩ (mm_add hC dX9_ofNormal_48 (mm_ir hC ⟨rfl, rfl⟩ hr dX9_ofNormal_49))))))), (by unfold b_X9_ofNormal_50; exact (mm_la_n hC dX9_ofNormal_50 rfl (mm_la_n hC dX9_ofNormal_51 rfl (mm_cv hC sp_X9_boundary ⟨rfl, rfl⟩ cl_8 wd_473 wd_474 wd_475 wd_476 wd_66 ⟨by decide, by decide, by decide +kernel⟩ ⟨by decide, by decide⟩ dX9_ofNormal_52 (mm_ir hC ⟨rfl, rfl⟩ hr dX9_ofNormal_55))))), (by unfold b_X9_ofNormal_56; exact (mm_la_n hC dX9_ofNormal_56 rfl (mm_la_n hC dX9_ofNormal_57 rfl (mm_cv hC sp_X9_type ⟨rfl, rfl⟩ cl_8 wd_588 wd_590 wd_13 wd_591 wd_66 ⟨by decide, by decide, by decide +kernel⟩ ⟨by decide, by decide⟩ dX9_ofNormal_58 (mm_ir hC ⟨rfl, rfl⟩ hr dX9_ofNormal_61))))), (by unfold b_X9_ofNormal_62; exact (mm_la_n hC dX9_ofNormal_62 rfl (mm_la_n hC dX9_ofNormal_63 rfl (mm_cv hC sp_X9_splits ⟨rfl, rfl⟩ cl_8 wd_592 wd_594 wd_14 wd_595 wd_66 ⟨by decide, by decide, by decide +kernel⟩ ⟨by decide, by decide⟩ dX9_ofNormal_64 (mm_ir hC ⟨rfl, rfl⟩ hr dX9_ofNormal_67))))), (by unfold b_X9_ofNormal_68; exact (mm_la_n hC dX9_ofNormal_68 rfl (mm_la_n hC dX9_ofNormal_69 rfl (mm_cv hC sp_X9_trace ⟨rfl, rfl⟩ cl_8 wd_444 wd_446 wd_4 wd_447 wd_66 ⟨by decide, by decide, by decide +kernel⟩ ⟨by decide, by decide⟩ dX9_ofNormal_70 (mm_ld_n hC dX9_ofNormal_73 rfl (mm_ic hC dX9_ofNormal_74 ⟨by decide, by decide⟩ (mm_ic_ne hC (t := 85) dX9_ofNormal_75 (by decide) (mm_la_n hC dX9_ofNormal_85 rfl (mm_gi hC cl_8 (by decide) rfl wd_232 dX9_ofNormal_86 (fun _ _ _ h => h))) (mm_la_n hC dX9_ofNormal_78 rfl (mm_gi hC cl_8 (by decide) rfl wd_231 dX9_ofNormal_79 (mm_goto hC (t := 89) dX9_ofNormal_82 (by decide) (fun _ _ _ h => h))))))))))), (by unfold b_X9_ofNormal_89; exact (mm_ir hC ⟨rfl, rfl⟩ hr dX9_ofNormal_89))⟩
set_option maxRecDepth 100000 in
set_option maxHeartbeats 8000000 in
theorem pv_X9_ofNormal : ∀ (av : List mm_V) (σ : mm_S) (Post : Option mm_V → mm_S → Prop), (∀ v ∈ av, mm_iv v) → (∀ a j, mm_in (σ.1 a j)) → σ.2.2 ≤ 348 → T_X9_ofNormal av σ Post → ∀ Ok : Nat → mm_K, clo_X9_ofNormal Ok Post σ.2.2 → Ok 0 (av ++ List.replicate (3 - av.length) (.inr none)) [] σ := by
  intro av σ Post hav hin hk hT Ok hcl
  obtain ⟨I, R0⟩ := σ
  unfold T_X9_ofNormal at hT
  split at hT
  · rename_i s a q
    obtain ⟨h0, hT⟩ := hT
    have h0 : R0 = mm_R0 := h0
    subst h0
    dsimp only at hT hin
    obtain ⟨c0, c40, c50, c56, c62, c68, c89⟩ := hcl
    obtain ⟨rfl, h1, ha28, hq1, hq2, n, L, hg, hS, hb, hm, hP⟩ := hT
    have ha := sh_lt h1 (by decide)
    have r9 := Rs_1.2.2.2.2.2.2.2.2.2
    have eb := eul_bb (n := n) (pa := I 3) (Le := L.2.1) hg.2.2.1 (b20_bd hb)
    have tr : q = 4 ∨ q = 6 → Ok 68 [.inr (some 1), .inr (some a), .inl q] [] (I, mm_R0) := by
      intro hq
      refine c68 _ _ _ ?_
      simp only [b_X9_ofNormal_68, i_ld, i_la, i_st, i_sa, i_c, i_inc, i_add, i_sub, i_mul, i_div, i_rem, i_remT, i_xor, i_dup, i_dup2, i_if, i_if2, i_sw, i_gi, i_gr, i_pi, i_pz, i_ial, i_ias, i_len, i_aal, i_gs, i_tal, i_cv, i_cs, i_ir, i_zr, i_vr, i_min, i_max, i_cpy, List.getElem?_cons_zero, List.getElem?_cons_succ, List.set_cons_zero, List.set_cons_succ, List.length_cons, List.length_nil, List.drop_succ_cons, List.drop_zero, List.take_succ_cons, List.take_zero, List.reverse_cons, List.reverse_nil, List.nil_append, List.cons_append, Option.toList_some, Option.toList_none, true_and, and_true, true_or, or_true, Nat.reduceAdd, Nat.reduceLT, Nat.reduceLeDiff, Option.some.injEq, exists_eq_left', Int.toNat_natCast, Nat.reduceSub, List.append_nil, List.replicate_succ, List.replicate_zero, mm_in, T_X9_trace, h1, r9]
      refine ⟨n, hg, hb, hm, fun I' f1 c1 c2 => ?_⟩
      have hc1 : I' 1 10 = ncomp n (I 3) (I 4) (I (a + 1)) := c1
      have hc2 : I' 1 11 = ntwo n (I 3) (I 4) (I (a + 1)) := c2
      refine ⟨fun z => fun _ => ?_, fun z => fun _ => ?_⟩
      · refine c89 _ _ _ ?_
        simp only [b_X9_ofNormal_89, i_ld, i_la, i_st, i_sa, i_c, i_inc, i_add, i_sub, i_mul, i_div, i_rem, i_remT, i_xor, i_dup, i_dup2, i_if, i_if2, i_sw, i_gi, i_gr, i_pi, i_pz, i_ial, i_ias, i_len, i_aal, i_gs, i_tal, i_cv, i_cs, i_ir, i_zr, i_vr, i_min, i_max, i_cpy, List.getElem?_cons_zero, List.getElem?_cons_succ, List.set_cons_zero, List.set_cons_succ, List.length_cons, List.length_nil, List.drop_succ_cons, List.drop_zero, List.take_succ_cons, List.take_zero, List.reverse_cons, List.reverse_nil, List.nil_append, List.cons_append, Option.toList_some, Option.toList_none, true_and, and_true, true_or, or_true, Nat.reduceAdd, Nat.reduceLT, Nat.reduceLeDiff, Option.some.injEq, exists_eq_left', Int.toNat_natCast, Nat.reduceSub, List.append_nil, List.replicate_succ, List.replicate_zero]
        rw [hc2]
        exact hP I' _ (fun b z1 z2 => f1 b z1 (by omega)) ⟨fun e => by omega, fun e => by omega, fun e => by omega, fun _ => rfl, fun e => by omega, fun e => by omega⟩
      · refine c89 _ _ _ ?_
        simp only [b_X9_ofNormal_89, i_ld, i_la, i_st, i_sa, i_c, i_inc, i_add, i_sub, i_mul, i_div, i_rem, i_remT, i_xor, i_dup, i_dup2, i_if, i_if2, i_sw, i_gi, i_gr, i_pi, i_pz, i_ial, i_ias, i_len, i_aal, i_gs, i_tal, i_cv, i_cs, i_ir, i_zr, i_vr, i_min, i_max, i_cpy, List.getElem?_cons_zero, List.getElem?_cons_succ, List.set_cons_zero, List.set_cons_succ, List.length_cons, List.length_nil, List.drop_succ_cons, List.drop_zero, List.take_succ_cons, List.take_zero, List.reverse_cons, List.reverse_nil, List.nil_append, List.cons_append, Option.toList_some, Option.toList_none, true_and, and_true, true_or, or_true, Nat.reduceAdd, Nat.reduceLT, Nat.reduceLeDiff, Option.some.injEq, exists_eq_left', Int.toNat_natCast, Nat.reduceSub, List.append_nil, List.replicate_succ, List.replicate_zero]
        rw [hc1]
        exact hP I' _ (fun b z1 z2 => f1 b z1 (by omega)) ⟨fun e => by omega, fun _ => rfl, fun e => by omega, fun e => by omega, fun e => by omega, fun e => by omega⟩
    refine c0 _ _ _ ?_
    simp only [b_X9_ofNormal_0, i_ld, i_la, i_st, i_sa, i_c, i_inc, i_add, i_sub, i_mul, i_div, i_rem, i_remT, i_xor, i_dup, i_dup2, i_if, i_if2, i_sw, i_gi, i_gr, i_pi, i_pz, i_ial, i_ias, i_len, i_aal, i_gs, i_tal, i_cv, i_cs, i_ir, i_zr, i_vr, i_min, i_max, i_cpy, List.getElem?_cons_zero, List.getElem?_cons_succ, List.set_cons_zero, List.set_cons_succ, List.length_cons, List.length_nil, List.drop_succ_cons, List.drop_zero, List.take_succ_cons, List.take_zero, List.reverse_cons, List.reverse_nil, List.nil_append, List.cons_append, Option.toList_some, Option.toList_none, true_and, and_true, true_or, or_true, Nat.reduceAdd, Nat.reduceLT, Nat.reduceLeDiff, Option.some.injEq, exists_eq_left', Int.toNat_natCast, Nat.reduceSub, List.append_nil, List.replicate_succ, List.replicate_zero]
    refine ⟨fun e => ?_, fun e3 => ⟨fun e => tr (Or.inl e), fun e4 => ⟨fun e => ?_, fun e5 => ⟨fun e => tr (Or.inr e), fun e6 => ⟨fun e => ?_, fun e7 => ⟨fun e => ?_, fun e8 => by omega⟩⟩⟩⟩⟩⟩
    · refine c40 _ _ _ ?_
      simp only [b_X9_ofNormal_40, i_ld, i_la, i_st, i_sa, i_c, i_inc, i_add, i_sub, i_mul, i_div, i_rem, i_remT, i_xor, i_dup, i_dup2, i_if, i_if2, i_sw, i_gi, i_gr, i_pi, i_pz, i_ial, i_ias, i_len, i_aal, i_gs, i_tal, i_cv, i_cs, i_ir, i_zr, i_vr, i_min, i_max, i_cpy, List.getElem?_cons_zero, List.getElem?_cons_succ, List.set_cons_zero, List.set_cons_succ, List.length_cons, List.length_nil, List.drop_succ_cons, List.drop_zero, List.take_succ_cons, List.take_zero, List.reverse_cons, List.reverse_nil, List.nil_append, List.cons_append, Option.toList_some, Option.toList_none, true_and, and_true, true_or, or_true, Nat.reduceAdd, Nat.reduceLT, Nat.reduceLeDiff, Option.some.injEq, exists_eq_left', Int.toNat_natCast, Nat.reduceSub, List.append_nil, List.replicate_succ, List.replicate_zero, mm_in, T_X9_characteristic, h1, r9]
      refine ⟨n, L, hg, hS, b20_bd hb, ⟨by omega, by omega⟩, ?_⟩
      exact hP I _ (fun _ _ _ => rfl) ⟨fun _ => rfl, fun e => by omega, fun e => by omega, fun e => by omega, fun e => by omega, fun e => by omega⟩
    · refine c50 _ _ _ ?_
      simp only [b_X9_ofNormal_50, i_ld, i_la, i_st, i_sa, i_c, i_inc, i_add, i_sub, i_mul, i_div, i_rem, i_remT, i_xor, i_dup, i_dup2, i_if, i_if2, i_sw, i_gi, i_gr, i_pi, i_pz, i_ial, i_ias, i_len, i_aal, i_gs, i_tal, i_cv, i_cs, i_ir, i_zr, i_vr, i_min, i_max, i_cpy, List.getElem?_cons_zero, List.getElem?_cons_succ, List.set_cons_zero, List.set_cons_succ, List.length_cons, List.length_nil, List.drop_succ_cons, List.drop_zero, List.take_succ_cons, List.take_zero, List.reverse_cons, List.reverse_nil, List.nil_append, List.cons_append, Option.toList_some, Option.toList_none, true_and, and_true, true_or, or_true, Nat.reduceAdd, Nat.reduceLT, Nat.reduceLeDiff, Option.some.injEq, exists_eq_left', Int.toNat_natCast, Nat.reduceSub, List.append_nil, List.replicate_succ, List.replicate_zero, mm_in, T_X9_boundary, h1, r9]
      refine ⟨n, hg, b20_bd hb, ?_⟩
      exact hP I _ (fun _ _ _ => rfl) ⟨fun e => by omega, fun e => by omega, fun _ => rfl, fun e => by omega, fun e => by omega, fun e => by omega⟩
    · refine c56 _ _ _ ?_
      simp only [b_X9_ofNormal_56, i_ld, i_la, i_st, i_sa, i_c, i_inc, i_add, i_sub, i_mul, i_div, i_rem, i_remT, i_xor, i_dup, i_dup2, i_if, i_if2, i_sw, i_gi, i_gr, i_pi, i_pz, i_ial, i_ias, i_len, i_aal, i_gs, i_tal, i_cv, i_cs, i_ir, i_zr, i_vr, i_min, i_max, i_cpy, List.getElem?_cons_zero, List.getElem?_cons_succ, List.set_cons_zero, List.set_cons_succ, List.length_cons, List.length_nil, List.drop_succ_cons, List.drop_zero, List.take_succ_cons, List.take_zero, List.reverse_cons, List.reverse_nil, List.nil_append, List.cons_append, Option.toList_some, Option.toList_none, true_and, and_true, true_or, or_true, Nat.reduceAdd, Nat.reduceLT, Nat.reduceLeDiff, Option.some.injEq, exists_eq_left', Int.toNat_natCast, Nat.reduceSub, List.append_nil, List.replicate_succ, List.replicate_zero, mm_in, T_X9_type, h1, r9]
      refine ⟨ha28, n, L, hg, hS, hb, hm, fun I' f1 => ?_⟩
      exact hP I' _ (fun b z1 z2 => f1 b z1 (by omega)) ⟨fun e => by omega, fun e => by omega, fun e => by omega, fun e => by omega, fun _ => rfl, fun e => by omega⟩
    · refine c62 _ _ _ ?_
      simp only [b_X9_ofNormal_62, i_ld, i_la, i_st, i_sa, i_c, i_inc, i_add, i_sub, i_mul, i_div, i_rem, i_remT, i_xor, i_dup, i_dup2, i_if, i_if2, i_sw, i_gi, i_gr, i_pi, i_pz, i_ial, i_ias, i_len, i_aal, i_gs, i_tal, i_cv, i_cs, i_ir, i_zr, i_vr, i_min, i_max, i_cpy, List.getElem?_cons_zero, List.getElem?_cons_succ, List.set_cons_zero, List.set_cons_succ, List.length_cons, List.length_nil, List.drop_succ_cons, List.drop_zero, List.take_succ_cons, List.take_zero, List.reverse_cons, List.reverse_nil, List.nil_append, List.cons_append, Option.toList_some, Option.toList_none, true_and, and_true, true_or, or_true, Nat.reduceAdd, Nat.reduceLT, Nat.reduceLeDiff, Option.some.injEq, exists_eq_left', Int.toNat_natCast, Nat.reduceSub, List.append_nil, List.replicate_succ, List.replicate_zero, mm_in, T_X9_splits, h1, r9]
      refine ⟨ha28, n, hg, hb, fun I' z f1 hz => ?_⟩
      exact hP I' _ f1 ⟨fun e => by omega, fun e => by omega, fun e => by omega, fun e => by omega, fun e => by omega, fun _ => hz⟩
  · exact hT.elim
theorem sp_X9_ofNormal : mm_Sp yX9_ofNormal cX9_ofNormal 3 (some .int) rm_X9_ofNormal T_X9_ofNormal := mm_meth (by decide) (by
  intro av σ Post h
  unfold T_X9_ofNormal at h
  split at h
  · simp
  · exact h.elim) (fun p l e s m args below meth c G av σ Post hC hr _ hav hin hk hT => pv_X9_ofNormal av σ Post hav hin hk hT _ (bk_X9_ofNormal hC hr))
