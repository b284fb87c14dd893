/-! the other program: good corners counted, points, lines
-/
def goodZ (n : Nat) (pa wy : Nat → Int) (x : Nat) (z : Int) : Prop := ∃ c : Int, pcnt (lkM n (room n pa wy).1 x) n (joi n pa wy (lkM n (room n pa wy).1 x)) 0 c ∧ bz z (c = 1 ∧ eulM n pa (room n pa wy).2.1 (lkM n (room n pa wy).1 x) = if 0 < bdy n pa (lkM n (room n pa wy).1 x) then 1 else 2)
theorem lkM_b (n : Nat) (C : Nat → Nat) (x : Nat) : b20 (lkM n C x) := by
  intro i _
  unfold lkM
  split <;> omega
theorem b20_cg {p q : Nat → Int} (h : ∀ i, i < 21 → p i = q i) (hp : b20 p) : b20 q := fun i hi => by rw [← h i hi]; exact hp i hi
theorem goodZ_cg {n : Nat} {pa wy pa' wy' : Nat → Int} (hn : n ≤ 3) (h : agW pa wy pa' wy') (hg : gok n pa wy) {x : Nat} {z : Int} (hz : goodZ n pa wy x z) : goodZ n pa' wy' x z := by
  obtain ⟨c, h1, h2⟩ := hz
  unfold goodZ
  rw [← room_cg hn h hg, ← joi_cg hn h hg (fun _ _ => rfl), ← eulM_cg hn h.1 (fun _ _ => rfl) (fun _ _ => rfl), ← bdy_cg hn h.1 (fun _ _ => rfl)]
  exact ⟨c, h1, h2⟩
def T_X12_isGood : mm_T := fun av σ Post => match av with
  | [.inr (some a), .inl y] => σ.2 = mm_R0 ∧ a = 338 ∧ ∃ x n : Nat, y = x ∧ gM σ.1 n ∧
    ∀ (I' : Nat → Nat → Int) (z : Int), scM I' σ.1 → agM I' (room n (MP σ.1) (MY σ.1)) → goodZ n (MP σ.1) (MY σ.1) x z → Post (some (.inl z)) (I', mm_R0)
  | _ => False
def rm_X12_isGood : Room := { frames := 5, cells := 0, slots := 0, locals := 128 }
def b_X12_isGood_0 (Ok : Nat → mm_K) (Post : Option mm_V → mm_S → Prop) (kf : Nat) : mm_K := i_la 0 (i_cv 11 0 T_X12_layRoom (i_la 0 (i_ld 1 (i_c 2888 (i_cv 11 2 T_X12_layAbout (i_la 0 (i_c 2888 (i_c 0 (i_cv 11 2 T_X12_parts (i_c 1 (i_if2 (fun x y => ¬ x = y) (Ok 53) (i_la 0 (i_c 2888 (i_cv 11 1 T_X12_euler (i_la 0 (i_c 2888 (i_cv 11 1 T_X12_border (i_if (fun x => x ≤ 0) (i_c 2 (Ok 46)) (i_c 1 (Ok 46))))))))))))))))))))
def b_X12_isGood_46 (Ok : Nat → mm_K) (Post : Option mm_V → mm_S → Prop) (kf : Nat) : mm_K := i_if2 (fun x y => ¬ x = y) (Ok 53) (i_c 1 (Ok 54))
def b_X12_isGood_53 (Ok : Nat → mm_K) (Post : Option mm_V → mm_S → Prop) (kf : Nat) : mm_K := i_c 0 (Ok 54)
def b_X12_isGood_54 (Ok : Nat → mm_K) (Post : Option mm_V → mm_S → Prop) (kf : Nat) : mm_K := i_zr Post kf
def clo_X12_isGood (Ok : Nat → mm_K) (Post : Option mm_V → mm_S → Prop) (kf : Nat) : Prop := mm_imp (b_X12_isGood_0 Ok Post kf) (Ok 0) ∧ mm_imp (b_X12_isGood_46 Ok Post kf) (Ok 46) ∧ mm_imp (b_X12_isGood_53 Ok Post kf) (Ok 53) ∧ mm_imp (b_X12_isGood_54 Ok Post kf) (Ok 54)
set_option maxRecDepth 100000 in
set_option maxHeartbeats 4000000 in
theorem bk_X12_isGood {p : Program} {l : Launch} {e : Env} {s : State} {m : MethodId} {args : Array Value} {below : List Frame} {meth : Method} {c : Code} {G : mm_G} {σ0 : mm_S} {Post : Option mm_V → mm_S → Prop} (hC : mm_C p G s m args meth c cX12_isGood yX12_isGood.cls) (hr : meth.sig.returnType = some .boolean) : clo_X12_isGood (mm_O p l e rm_X12_isGood s m args below meth c G σ0.2.2 (MQ below (mm_Qc G σ0 rm_X12_isGood.cells rm_X12_isGood.slots Post) args s rm_X12_isGood.cells rm_X12_isGood.slots (mm_A G))) Post σ0.2.2 := ⟨(by unfold b_X12_isGood_0; exact (mm_la_n hC dX12_isGood_0 rfl (mm_cv hC sp_X12_layRoom ⟨rfl, rfl⟩ cl_11 wd_849 wd_851 wd_24 wd_852 wd_77 ⟨by decide, by decide, by decide +kernel⟩ ⟨by decide, by decide⟩ dX12_isGood_1 (mm_la_n hC dX12_isGood_4 rfl (mm_ld_n hC dX12_isGood_5 rfl (mm_sp hC dX12_isGood_6 ⟨⟨by decide, by decide⟩, by decide⟩ (mm_cv hC sp_X12_layAbout ⟨rfl, rfl⟩ cl_11 wd_897 wd_899 wd_33 wd_900 wd_77 ⟨by decide, by decide, by decide +kernel⟩ ⟨by decide, by decide⟩ dX12_isGood_9 (mm_la_n hC dX12_isGood_12 rfl (mm_sp hC dX12_isGood_13 ⟨⟨by decide, by decide⟩, by decide⟩ (mm_ic hC dX12_isGood_16 ⟨by decide, by decide⟩ (mm_cv hC sp_X12_parts ⟨rfl, rfl⟩ cl_11 wd_901 wd_903 wd_34 wd_904 wd_77 ⟨by decide, by decide, by decide +kernel⟩ ⟨by decide, by decide⟩ dX12_isGood_17 (mm_ic hC dX12_isGood_20 ⟨by decide, by decide⟩ (mm_ic_ne hC (t := 53) dX12_isGood_21 (by decide) (fun _ _ _ h => h) (mm_la_n hC dX12_isGood_24 rfl (mm_sp hC dX12_isGood_25 ⟨⟨by decide, by decide⟩, by decide⟩ (mm_cv hC sp_X12_euler ⟨rfl, rfl⟩ cl_11 wd_938 wd_940 wd_41 wd_941 wd_77 ⟨by decide, by decide, by decide +kernel⟩ ⟨by decide, by decide⟩ dX12_isGood_28 (mm_la_n hC dX12_isGood_31 rfl (mm_sp hC dX12_isGood_32 ⟨⟨by decide, by decide⟩, by decide⟩ (mm_cv hC sp_X12_border ⟨rfl, rfl⟩ cl_11 wd_960 wd_962 wd_45 wd_963 wd_77 ⟨by decide, by decide, by decide +kernel⟩ ⟨by decide, by decide⟩ dX12_isGood_35 (mm_if_le hC (t := 45) dX12_isGood_38 (by decide) (mm_ic hC dX12_isGood_45 ⟨by decide, by decide⟩ (fun _ _ _ h => h)) (mm_ic hC dX12_isGood_41 ⟨by decide, by decide⟩ (mm_goto hC (t := 46) dX12_isGood_42 (by decide) (fun _ _ _ h => h))))))))))))))))))))))), (by unfold b_X12_isGood_46; exact (mm_ic_ne hC (t := 53) dX12_isGood_46 (by decide) (fun _ _ _ h => h) (mm_ic hC dX12_isGood_49 ⟨by decide, by decide⟩ (mm_goto hC (t := 54) dX12_isGood_50 (by decide) (fun _ _ _ h => h))))), (by unfold b_X12_isGood_53; exact (mm_ic hC dX12_isGood_53 ⟨by decide, by decide⟩ (fun _ _ _ h => h))), (by unfold b_X12_isGood_54; exact (mm_zr hC ⟨rfl, rfl⟩ hr dX12_isGood_54))⟩
set_option maxRecDepth 100000 in
set_option maxHeartbeats 8000000 in
theorem pv_X12_isGood : ∀ (av : List mm_V) (σ : mm_S) (Post : Option mm_V → mm_S → Prop), (∀ v ∈ av, mm_iv v) → (∀ a j, mm_in (σ.1 a j)) → σ.2.2 ≤ 348 → T_X12_isGood av σ Post → ∀ Ok : Nat → mm_K, clo_X12_isGood Ok Post σ.2.2 → Ok 0 (av ++ List.replicate (2 - av.length) (.inr none)) [] σ := by
  intro av σ Post hav hin hk hT Ok hcl
  obtain ⟨I, R0⟩ := σ
  unfold T_X12_isGood at hT
  split at hT
  · rename_i a y
    obtain ⟨h0, hT⟩ := hT
    have h0 : R0 = mm_R0 := h0
    subst h0
    dsimp only at hT hin
    obtain ⟨c0, c46, c53, c54⟩ := hcl
    obtain ⟨rfl, x, n, rfl, hgm, hP⟩ := hT
    have w0 := m0
    have hn3 := hgm.2.2.1
    have hg := hgm.2.2.2
    obtain ⟨L, hL⟩ : ∃ L, room n (MP I) (MY I) = L := ⟨_, rfl⟩
    obtain ⟨nb, hnb⟩ : ∃ nb, lkM n L.1 x = nb := ⟨_, rfl⟩
    unfold goodZ at hP
    rw [hL, hnb] at hP
    have b54 : ∀ (I1 : Nat → Nat → Int) (z : Int), scM I1 I → agM I1 L → (∃ c : Int, pcnt nb n (joi n (MP I) (MY I) nb) 0 c ∧ bz z (c = 1 ∧ eulM n (MP I) L.2.1 nb = if 0 < bdy n (MP I) nb then 1 else 2)) → Ok 54 [.inr (some 338), .inl (x : Int)] [.inl z] (I1, mm_R0) := by
      intro I1 z h1 h2 h3
      have h4 : z = 0 ∨ z = 1 := by
        obtain ⟨c, _, h⟩ := h3
        have := bz_01 h
        omega
      refine c54 _ _ _ ?_
      simp only [b_X12_isGood_54, i_xorg, i_shl, i_shr, i_ior, i_and1, i_lcg1, i_lcg2, i_ld, i_la, i_st, i_sa, i_c, i_inc, i_add, i_sub, i_mul, i_div, i_rem, i_remT, i_xor, i_dup, i_dup2, i_if, i_if2, i_sw, i_gi, i_gr, i_pi, i_pz, i_ial, i_ias, i_len, i_aal, i_gs, i_tal, i_cv, i_cs, i_ir, i_zr, i_vr, i_min, i_max, i_cpy, List.getElem?_cons_zero, List.getElem?_cons_succ, List.set_cons_zero, List.set_cons_succ, List.length_cons, List.length_nil, List.drop_succ_cons, List.drop_zero, List.take_succ_cons, List.take_zero, List.reverse_cons, List.reverse_nil, List.nil_append, List.cons_append, Option.toList_some, Option.toList_none, true_and, and_true, true_or, or_true, Nat.reduceAdd, Nat.reduceLT, Nat.reduceLeDiff, Option.some.injEq, exists_eq_left', Int.toNat_natCast, Nat.reduceSub, List.append_nil, List.replicate_succ, List.replicate_zero]
      exact ⟨h4, hP I1 z h1 h2 h3⟩
    have b53 : ∀ (I1 : Nat → Nat → Int), scM I1 I → agM I1 L → (∃ c : Int, pcnt nb n (joi n (MP I) (MY I) nb) 0 c ∧ ¬ (c = 1 ∧ eulM n (MP I) L.2.1 nb = if 0 < bdy n (MP I) nb then 1 else 2)) → Ok 53 [.inr (some 338), .inl (x : Int)] [] (I1, mm_R0) := by
      intro I1 h1 h2 h3
      obtain ⟨c, h4, h5⟩ := h3
      refine c53 _ _ _ ?_
      simp only [b_X12_isGood_53, i_xorg, i_shl, i_shr, i_ior, i_and1, i_lcg1, i_lcg2, i_ld, i_la, i_st, i_sa, i_c, i_inc, i_add, i_sub, i_mul, i_div, i_rem, i_remT, i_xor, i_dup, i_dup2, i_if, i_if2, i_sw, i_gi, i_gr, i_pi, i_pz, i_ial, i_ias, i_len, i_aal, i_gs, i_tal, i_cv, i_cs, i_ir, i_zr, i_vr, i_min, i_max, i_cpy, List.getElem?_cons_zero, List.getElem?_cons_succ, List.set_cons_zero, List.set_cons_succ, List.length_cons, List.length_nil, List.drop_succ_cons, List.drop_zero, List.take_succ_cons, List.take_zero, List.reverse_cons, List.reverse_nil, List.nil_append, List.cons_append, Option.toList_some, Option.toList_none, true_and, and_true, true_or, or_true, Nat.reduceAdd, Nat.reduceLT, Nat.reduceLeDiff, Option.some.injEq, exists_eq_left', Int.toNat_natCast, Nat.reduceSub, List.append_nil, List.replicate_succ, List.replicate_zero]
      exact b54 I1 0 h1 h2 ⟨c, h4, bz_0 h5⟩
    refine c0 _ _ _ ?_
    simp only [b_X12_isGood_0, i_xorg, i_shl, i_shr, i_ior, i_and1, i_lcg1, i_lcg2, i_ld, i_la, i_st, i_sa, i_c, i_inc, i_add, i_sub, i_mul, i_div, i_rem, i_remT, i_xor, i_dup, i_dup2, i_if, i_if2, i_sw, i_gi, i_gr, i_pi, i_pz, i_ial, i_ias, i_len, i_aal, i_gs, i_tal, i_cv, i_cs, i_ir, i_zr, i_vr, i_min, i_max, i_cpy, List.getElem?_cons_zero, List.getElem?_cons_succ, List.set_cons_zero, List.set_cons_succ, List.length_cons, List.length_nil, List.drop_succ_cons, List.drop_zero, List.take_succ_cons, List.take_zero, List.reverse_cons, List.reverse_nil, List.nil_append, List.cons_append, Option.toList_some, Option.toList_none, true_and, and_true, true_or, or_true, Nat.reduceAdd, Nat.reduceLT, Nat.reduceLeDiff, Option.some.injEq, exists_eq_left', Int.toNat_natCast, Nat.reduceSub, List.append_nil, List.replicate_succ, List.replicate_zero, mm_in, w0, T_X12_layRoom, T_X12_layAbout]
    refine ⟨n, hgm, fun I1 f1 ag1 => ?_⟩
    rw [hL] at ag1
    refine ⟨x, 2888, n, L.1, rfl, rfl, by omega, by omega, by rw [f1 339 (by omega)]; exact hgm.1, hn3, fun k hk => (ag1.1 k hk).1, fun I2 f2 f3 f4 => ?_⟩
    rw [hnb] at f4
    have s1 : scM I1 I := scM_hi (fun b hb => f1 b (by omega))
    have s2 : scM I2 I := scM_tr s1 ⟨fun b hb => f2 b (by omega), fun j hj => f3 j (by omega), fun _ => b20_bd (b20_cg (fun i hi => (f4 i hi).symm) (by rw [← hnb]; exact lkM_b _ _ _))⟩
    obtain ⟨gm2, a2⟩ := gM_sc hgm s2
    have e2 : ∀ i, i < 21 → nb i = MN I2 2888 i := fun i hi => (f4 i hi).symm
    have ag2 : agM I2 L := by
      unfold agM
      rw [f2 343 (by omega), f2 344 (by omega), f2 345 (by omega)]
      exact ag1
    have hb2 : b20 (MN I2 2888) := b20_cg e2 (by rw [← hnb]; exact lkM_b _ _ _)
    simp only [mm_in, w0, T_X12_parts, i_xorg, i_shl, i_shr, i_ior, i_and1, i_lcg1, i_lcg2, i_ld, i_la, i_st, i_sa, i_c, i_inc, i_add, i_sub, i_mul, i_div, i_rem, i_remT, i_xor, i_dup, i_dup2, i_if, i_if2, i_sw, i_gi, i_gr, i_pi, i_pz, i_ial, i_ias, i_len, i_aal, i_gs, i_tal, i_cv, i_cs, i_ir, i_zr, i_vr, i_min, i_max, i_cpy, List.getElem?_cons_zero, List.getElem?_cons_succ, List.set_cons_zero, List.set_cons_succ, List.length_cons, List.length_nil, List.drop_succ_cons, List.drop_zero, List.take_succ_cons, List.take_zero, List.reverse_cons, List.reverse_nil, List.nil_append, List.cons_append, Option.toList_some, Option.toList_none, true_and, and_true, true_or, or_true, Nat.reduceAdd, Nat.reduceLT, Nat.reduceLeDiff, Option.some.injEq, exists_eq_left', Int.toNat_natCast, Nat.reduceSub, List.append_nil, List.replicate_succ, List.replicate_zero]
    refine ⟨2888, n, rfl, by omega, gm2, hb2, ?_, fun I3 c f5 hc hc2 => ?_⟩
    · have := lkM_mt hn3 gm2.2.2.2 x (4 * n) 0
      rw [← room_cg hn3 a2 hg, hL, hnb] at this
      exact mtA_cg hn3 gm2.2.2.2 e2 this
    have s3 : scM I3 I := scM_tr s2 (scM_hi (fun b hb => f5 b (by omega)))
    obtain ⟨gm3, a3⟩ := gM_sc hgm s3
    rw [← joi_cg hn3 a2 hg e2] at hc
    have hc' := pcnt_cg (fun i hi => (e2 i hi).symm) hn3 hc
    have ag3 : agM I3 L := by
      unfold agM
      rw [f5 343 (by omega), f5 344 (by omega), f5 345 (by omega)]
      exact ag2
    have e3 : ∀ i, i < 21 → nb i = MN I3 2888 i := fun i hi => by
      rw [e2 i hi]
      unfold MN
      rw [f5 339 (by omega)]
    have hb3 : b20 (MN I3 2888) := b20_cg e3 (by rw [← hnb]; exact lkM_b _ _ _)
    refine ⟨fun q => b53 I3 s3 ag3 ⟨c, hc', fun w => q w.1⟩, fun q => ?_⟩
    simp only [mm_in, w0, T_X12_euler, T_X12_border, i_xorg, i_shl, i_shr, i_ior, i_and1, i_lcg1, i_lcg2, i_ld, i_la, i_st, i_sa, i_c, i_inc, i_add, i_sub, i_mul, i_div, i_rem, i_remT, i_xor, i_dup, i_dup2, i_if, i_if2, i_sw, i_gi, i_gr, i_pi, i_pz, i_ial, i_ias, i_len, i_aal, i_gs, i_tal, i_cv, i_cs, i_ir, i_zr, i_vr, i_min, i_max, i_cpy, List.getElem?_cons_zero, List.getElem?_cons_succ, List.set_cons_zero, List.set_cons_succ, List.length_cons, List.length_nil, List.drop_succ_cons, List.drop_zero, List.take_succ_cons, List.take_zero, List.reverse_cons, List.reverse_nil, List.nil_append, List.cons_append, Option.toList_some, Option.toList_none, true_and, and_true, true_or, or_true, Nat.reduceAdd, Nat.reduceLT, Nat.reduceLeDiff, Option.some.injEq, exists_eq_left', Int.toNat_natCast, Nat.reduceSub, List.append_nil, List.replicate_succ, List.replicate_zero]
    refine ⟨2888, n, rfl, by omega, gm3, b20_bd hb3, fun I4 f6 ag4 => ?_⟩
    rw [← room_cg hn3 a3 hg, hL] at ag4 ⊢
    have s4 : scM I4 I := scM_tr s3 (scM_hi (fun b hb => f6 b (by omega)))
    obtain ⟨gm4, a4⟩ := gM_sc hgm s4
    have e4 : ∀ i, i < 21 → nb i = MN I4 2888 i := fun i hi => by
      rw [e3 i hi]
      unfold MN
      rw [f6 339 (by omega)]
    rw [← eulM_cg hn3 a3.1 (fun _ _ => rfl) e3]
    refine ⟨2888, n, rfl, by omega, gm4.1, hn3, b20_bd (b20_cg e4 (by rw [← hnb]; exact lkM_b _ _ _)), fun j hj => by rcases gm4.2.2.2 j hj with e | e <;> omega, ?_⟩
    rw [← bdy_cg hn3 a4.1 e4]
    have fin : ∀ d : Int, d = (if 0 < bdy n (MP I) nb then 1 else 2) → Ok 46 [.inr (some 338), .inl (x : Int)] [.inl d, .inl (eulM n (MP I) L.2.1 nb)] (I4, mm_R0) := by
      intro d hd
      refine c46 _ _ _ ?_
      simp only [b_X12_isGood_46, i_xorg, i_shl, i_shr, i_ior, i_and1, i_lcg1, i_lcg2, i_ld, i_la, i_st, i_sa, i_c, i_inc, i_add, i_sub, i_mul, i_div, i_rem, i_remT, i_xor, i_dup, i_dup2, i_if, i_if2, i_sw, i_gi, i_gr, i_pi, i_pz, i_ial, i_ias, i_len, i_aal, i_gs, i_tal, i_cv, i_cs, i_ir, i_zr, i_vr, i_min, i_max, i_cpy, List.getElem?_cons_zero, List.getElem?_cons_succ, List.set_cons_zero, List.set_cons_succ, List.length_cons, List.length_nil, List.drop_succ_cons, List.drop_zero, List.take_succ_cons, List.take_zero, List.reverse_cons, List.reverse_nil, List.nil_append, List.cons_append, Option.toList_some, Option.toList_none, true_and, and_true, true_or, or_true, Nat.reduceAdd, Nat.reduceLT, Nat.reduceLeDiff, Option.some.injEq, exists_eq_left', Int.toNat_natCast, Nat.reduceSub, List.append_nil, List.replicate_succ, List.replicate_zero, mm_in,]
      rw [hd]
      refine ⟨fun r => b53 I4 s4 ag4 ⟨c, hc', fun w => r w.2⟩, fun r => b54 I4 1 s4 ag4 ⟨c, hc', bz_1 ⟨by omega, by omega⟩⟩⟩
    exact ⟨fun r => fin 2 (by rw [if_neg (by omega)]), fun r => fin 1 (by rw [if_pos (by omega)])⟩
  · exact hT.elim
theorem sp_X12_isGood : mm_Sp yX12_isGood cX12_isGood 2 (some .boolean) rm_X12_isGood T_X12_isGood := mm_meth (by decide) (by
  intro av σ Post h
  unfold T_X12_isGood at h
  split at h
  · simp
  · exact h.elim) (fun p l e s m args below meth c G av σ Post hC hr _ hav hin hk hT => pv_X12_isGood av σ Post hav hin hk hT _ (bk_X12_isGood hC hr))
def ngM (n : Nat) (pa wy : Nat → Int) (z : Int) : Prop := ∃ g : Nat → Int, (∀ k, k < 4 * n → ((room n pa wy).1 k = k → goodZ n pa wy k (g k)) ∧ ((room n pa wy).1 k ≠ k → g k = 0)) ∧ z = sm g (4 * n)
def T_X12_goodMany : mm_T := fun av σ Post => match av with
  | [.inr (some a)] => σ.2 = mm_R0 ∧ a = 338 ∧ ∃ n : Nat, gM σ.1 n ∧ ∀ (I' : Nat → Nat → Int) (z : Int), scM I' σ.1 → ngM n (MP σ.1) (MY σ.1) z → Post (some (.inl z)) (I', mm_R0)
  | _ => False
def rm_X12_goodMany : Room := { frames := 6, cells := 0, slots := 0, locals := 149 }
def b_X12_goodMany_0 (Ok : Nat → mm_K) (Post : Option mm_V → mm_S → Prop) (kf : Nat) : mm_K := i_c 0 (i_st 1 (i_la 0 (i_cv 11 0 T_X12_layRoom (i_c 0 (i_st 2 (Ok 8))))))
def b_X12_goodMany_8 (Ok : Nat → mm_K) (Post : Option mm_V → mm_S → Prop) (kf : Nat) : mm_K := i_ld 2 (i_la 0 (i_cv 11 0 T_X12_walls (i_if2 (fun x y => y ≤ x) (i_ld 1 (i_ir Post kf)) (i_ld 1 (i_la 0 (i_gr 11 8 (i_ld 2 (i_ial (i_ld 2 (i_if2 (fun x y => ¬ x = y) (Ok 39) (i_la 0 (i_ld 2 (i_cv 11 1 T_X12_isGood (i_if (fun x => x = 0) (Ok 39) (i_c 1 (Ok 40))))))))))))))))
def b_X12_goodMany_39 (Ok : Nat → mm_K) (Post : Option mm_V → mm_S → Prop) (kf : Nat) : mm_K := i_c 0 (Ok 40)
def b_X12_goodMany_40 (Ok : Nat → mm_K) (Post : Option mm_V → mm_S → Prop) (kf : Nat) : mm_K := i_add (i_st 1 (i_inc 2 1 (Ok 8)))
def clo_X12_goodMany (Ok : Nat → mm_K) (Post : Option mm_V → mm_S → Prop) (kf : Nat) : Prop := mm_imp (b_X12_goodMany_0 Ok Post kf) (Ok 0) ∧ mm_imp (b_X12_goodMany_8 Ok Post kf) (Ok 8) ∧ mm_imp (b_X12_goodMany_39 Ok Post kf) (Ok 39) ∧ mm_imp (b_X12_goodMany_40 Ok Post kf) (Ok 40)
set_option maxRecDepth 100000 in
set_option maxHeartbeats 4000000 in
theorem bk_X12_goodMany {p : Program} {l : Launch} {e : Env} {s : State} {m : MethodId} {args : Array Value} {below : List Frame} {meth : Method} {c : Code} {G : mm_G} {σ0 : mm_S} {Post : Option mm_V → mm_S → Prop} (hC : mm_C p G s m args meth c cX12_goodMany yX12_goodMany.cls) (hr : meth.sig.returnType = some .int) : clo_X12_goodMany (mm_O p l e rm_X12_goodMany s m args below meth c G σ0.2.2 (MQ below (mm_Qc G σ0 rm_X12_goodMany.cells rm_X12_goodMany.slots Post) args s rm_X12_goodMany.cells rm_X12_goodMany.slots (mm_A G))) Post σ0.2.2 := ⟨(by unfold b_X12_goodMany_0; exact (mm_ic hC dX12_goodMany_0 ⟨by decide, by decide⟩ (mm_st_n hC dX12_goodMany_1 rfl (mm_la_n hC dX12_goodMany_2 rfl (mm_cv hC sp_X12_layRoom ⟨rfl, rfl⟩ cl_11 wd_849 wd_851 wd_24 wd_852 wd_77 ⟨by decide, by decide, by decide +kernel⟩ ⟨by decide, by decide⟩ dX12_goodMany_3 (mm_ic hC dX12_goodMany_6 ⟨by decide, by decide⟩ (mm_st_n hC dX12_goodMany_7 rfl (fun _ _ _ h => h)))))))), (by unfold b_X12_goodMany_8; exact (mm_ld_n hC dX12_goodMany_8 rfl (mm_la_n hC dX12_goodMany_9 rfl (mm_cv hC sp_X12_walls ⟨rfl, rfl⟩ cl_11 wd_837 wd_839 wd_21 wd_840 wd_77 ⟨by decide, by decide, by decide +kernel⟩ ⟨by decide, by decide⟩ dX12_goodMany_10 (mm_ic_ge hC (t := 48) dX12_goodMany_13 (by decide) (mm_ld_n hC dX12_goodMany_48 rfl (mm_ir hC ⟨rfl, rfl⟩ hr dX12_goodMany_49)) (mm_ld_n hC dX12_goodMany_16 rfl (mm_la_n hC dX12_goodMany_17 rfl (mm_gr hC cl_11 (by decide) rfl wd_797 dX12_goodMany_18 (mm_ld_n hC dX12_goodMany_21 rfl (mm_ial hC dX12_goodMany_22 (mm_ld_n hC dX12_goodMany_23 rfl (mm_ic_ne hC (t := 39) dX12_goodMany_24 (by decide) (fun _ _ _ h => h) (mm_la_n hC dX12_goodMany_27 rfl (mm_ld_n hC dX12_goodMany_28 rfl (mm_cv hC sp_X12_isGood ⟨rfl, rfl⟩ cl_11 wd_893 wd_895 wd_32 wd_896 wd_77 ⟨by decide, by decide, by decide +kernel⟩ ⟨by decide, by decide⟩ dX12_goodMany_29 (mm_if_eq hC (t := 39) dX12_goodMany_32 (by decide) (fun _ _ _ h => h) (mm_ic hC dX12_goodMany_35 ⟨by decide, by decide⟩ (mm_goto hC (t := 40) dX12_goodMany_36 (by decide) (fun _ _ _ h => h))))))))))))))))))), (by unfold b_X12_goodMany_39; exact (mm_ic hC dX12_goodMany_39 ⟨by decide, by decide⟩ (fun _ _ _ h => h))), (by unfold b_X12_goodMany_40; exact (mm_add hC dX12_goodMany_40 (mm_st_n hC dX12_goodMany_41 rfl (mm_inc hC dX12_goodMany_42 (mm_goto hC (t := 8) dX12_goodMany_45 (by decide) (fun _ _ _ h => h))))))⟩
set_option maxRecDepth 100000 in
set_option maxHeartbeats 8000000 in
theorem pv_X12_goodMany : ∀ (av : List mm_V) (σ : mm_S) (Post : Option mm_V → mm_S → Prop), (∀ v ∈ av, mm_iv v) → (∀ a j, mm_in (σ.1 a j)) → σ.2.2 ≤ 348 → T_X12_goodMany av σ Post → ∀ Ok : Nat → mm_K, clo_X12_goodMany Ok Post σ.2.2 → Ok 0 (av ++ List.replicate (3 - av.length) (.inr none)) [] σ := by
  intro av σ Post hav hin hk hT Ok hcl
  obtain ⟨I, R0⟩ := σ
  unfold T_X12_goodMany at hT
  split at hT
  · rename_i a
    obtain ⟨h0, hT⟩ := hT
    have h0 : R0 = mm_R0 := h0
    subst h0
    dsimp only at hT hin
    obtain ⟨c0, c8, c39, c40⟩ := hcl
    obtain ⟨rfl, n, hgm, hP⟩ := hT
    have w0 := m0
    have r4 := Rs_338.2.2.2.2.1
    have s5 := sh_338.2.2.2.2.2.1
    have hn3 := hgm.2.2.1
    have hg := hgm.2.2.2
    have loop : ∀ (d k : Nat) (g : Nat → Int) (I1 : Nat → Nat → Int), k + d = 4 * n → (∀ j, j < k → 0 ≤ g j ∧ g j ≤ 1) → (∀ j, j < k → ((room n (MP I) (MY I)).1 j = j → goodZ n (MP I) (MY I) j (g j)) ∧ ((room n (MP I) (MY I)).1 j ≠ j → g j = 0)) → scM I1 I → agM I1 (room n (MP I) (MY I)) → Ok 8 [.inr (some 338), .inl (sm g k), .inl (k : Int)] [] (I1, mm_R0) := by
      intro d
      induction d with
      | zero =>
        intro k g I1 hd hb hgs s1 ag1
        obtain ⟨gm1, a1⟩ := gM_sc hgm s1
        refine c8 _ _ _ ?_
        simp only [b_X12_goodMany_8, i_xorg, i_shl, i_shr, i_ior, i_and1, i_lcg1, i_lcg2, i_ld, i_la, i_st, i_sa, i_c, i_inc, i_add, i_sub, i_mul, i_div, i_rem, i_remT, i_xor, i_dup, i_dup2, i_if, i_if2, i_sw, i_gi, i_gr, i_pi, i_pz, i_ial, i_ias, i_len, i_aal, i_gs, i_tal, i_cv, i_cs, i_ir, i_zr, i_vr, i_min, i_max, i_cpy, List.getElem?_cons_zero, List.getElem?_cons_succ, List.set_cons_zero, List.set_cons_succ, List.length_cons, List.length_nil, List.drop_succ_cons, List.drop_zero, List.take_succ_cons, List.take_zero, List.reverse_cons, List.reverse_nil, List.nil_append, List.cons_append, Option.toList_some, Option.toList_none, true_and, and_true, true_or, or_true, Nat.reduceAdd, Nat.reduceLT, Nat.reduceLeDiff, Option.some.injEq, exists_eq_left', Int.toNat_natCast, Nat.reduceSub, List.append_nil, List.replicate_succ, List.replicate_zero, mm_in, w0, T_X12_walls]
        rw [gm1.1]
        rw [show k = 4 * n by omega] at hgs ⊢
        refine ⟨by omega, by omega, fun _ => hP I1 _ s1 ⟨g, hgs, rfl⟩, fun q => by omega⟩
      | succ d ih =>
        intro k g I1 hd hb hgs s1 ag1
        obtain ⟨gm1, a1⟩ := gM_sc hgm s1
        have sb := sm_bd (f := g) (c := 1) k hb
        have ek := ag1.1 k (by omega)
        have f40 : ∀ (I2 : Nat → Nat → Int) (v : Int), scM I2 I → agM I2 (room n (MP I) (MY I)) → 0 ≤ v → v ≤ 1 → ((room n (MP I) (MY I)).1 k = k → goodZ n (MP I) (MY I) k v) → ((room n (MP I) (MY I)).1 k ≠ k → v = 0) → Ok 40 [.inr (some 338), .inl (sm g k), .inl (k : Int)] [.inl v, .inl (sm g k)] (I2, mm_R0) := by
          intro I2 v s2 ag2 v0 v1 h1 h2
          have := ih (k + 1) (fun j => if j = k then v else g j) I2 (by omega) (fun j hj => ?_) (fun j hj => ?_) s2 ag2
          · have hs : sm (fun j => if j = k then v else g j) (k + 1) = sm g k + v := by
              show sm _ k + (if k = k then v else g k) = _
              rw [if_pos rfl, sm_congr (g := g) (fun j hj => by rw [if_neg (by omega)])]
            rw [hs, Int.natCast_add] at this
            refine c40 _ _ _ ?_
            simp only [b_X12_goodMany_40, i_xorg, i_shl, i_shr, i_ior, i_and1, i_lcg1, i_lcg2, i_ld, i_la, i_st, i_sa, i_c, i_inc, i_add, i_sub, i_mul, i_div, i_rem, i_remT, i_xor, i_dup, i_dup2, i_if, i_if2, i_sw, i_gi, i_gr, i_pi, i_pz, i_ial, i_ias, i_len, i_aal, i_gs, i_tal, i_cv, i_cs, i_ir, i_zr, i_vr, i_min, i_max, i_cpy, List.getElem?_cons_zero, List.getElem?_cons_succ, List.set_cons_zero, List.set_cons_succ, List.length_cons, List.length_nil, List.drop_succ_cons, List.drop_zero, List.take_succ_cons, List.take_zero, List.reverse_cons, List.reverse_nil, List.nil_append, List.cons_append, Option.toList_some, Option.toList_none, true_and, and_true, true_or, or_true, Nat.reduceAdd, Nat.reduceLT, Nat.reduceLeDiff, Option.some.injEq, exists_eq_left', Int.toNat_natCast, Nat.reduceSub, List.append_nil, List.replicate_succ, List.replicate_zero, mm_in,]
            repeat' first | refine And.intro ?_ ?_ | refine fun (_ : _ ≤ _ ∧ _ < _) => ?_
            all_goals try omega
          · by_cases q : j = k
            · rw [if_pos q]; omega
            · rw [if_neg q]; exact hb j (by omega)
          · by_cases q : j = k
            · subst q
              rw [if_pos rfl]
              exact ⟨h1, h2⟩
            · rw [if_neg q]
              exact hgs j (by omega)
        have f39 : ∀ (I2 : Nat → Nat → Int), scM I2 I → agM I2 (room n (MP I) (MY I)) → ((room n (MP I) (MY I)).1 k = k → goodZ n (MP I) (MY I) k 0) → Ok 39 [.inr (some 338), .inl (sm g k), .inl (k : Int)] [.inl (sm g k)] (I2, mm_R0) := by
          intro I2 s2 ag2 h1
          refine c39 _ _ _ ?_
          simp only [b_X12_goodMany_39, i_xorg, i_shl, i_shr, i_ior, i_and1, i_lcg1, i_lcg2, i_ld, i_la, i_st, i_sa, i_c, i_inc, i_add, i_sub, i_mul, i_div, i_rem, i_remT, i_xor, i_dup, i_dup2, i_if, i_if2, i_sw, i_gi, i_gr, i_pi, i_pz, i_ial, i_ias, i_len, i_aal, i_gs, i_tal, i_cv, i_cs, i_ir, i_zr, i_vr, i_min, i_max, i_cpy, List.getElem?_cons_zero, List.getElem?_cons_succ, List.set_cons_zero, List.set_cons_succ, List.length_cons, List.length_nil, List.drop_succ_cons, List.drop_zero, List.take_succ_cons, List.take_zero, List.reverse_cons, List.reverse_nil, List.nil_append, List.cons_append, Option.toList_some, Option.toList_none, true_and, and_true, true_or, or_true, Nat.reduceAdd, Nat.reduceLT, Nat.reduceLeDiff, Option.some.injEq, exists_eq_left', Int.toNat_natCast, Nat.reduceSub, List.append_nil, List.replicate_succ, List.replicate_zero]
          exact f40 I2 0 s2 ag2 (by omega) (by omega) h1 (fun _ => rfl)
        refine c8 _ _ _ ?_
        simp only [b_X12_goodMany_8, i_xorg, i_shl, i_shr, i_ior, i_and1, i_lcg1, i_lcg2, i_ld, i_la, i_st, i_sa, i_c, i_inc, i_add, i_sub, i_mul, i_div, i_rem, i_remT, i_xor, i_dup, i_dup2, i_if, i_if2, i_sw, i_gi, i_gr, i_pi, i_pz, i_ial, i_ias, i_len, i_aal, i_gs, i_tal, i_cv, i_cs, i_ir, i_zr, i_vr, i_min, i_max, i_cpy, List.getElem?_cons_zero, List.getElem?_cons_succ, List.set_cons_zero, List.set_cons_succ, List.length_cons, List.length_nil, List.drop_succ_cons, List.drop_zero, List.take_succ_cons, List.take_zero, List.reverse_cons, List.reverse_nil, List.nil_append, List.cons_append, Option.toList_some, Option.toList_none, true_and, and_true, true_or, or_true, Nat.reduceAdd, Nat.reduceLT, Nat.reduceLeDiff, Option.some.injEq, exists_eq_left', Int.toNat_natCast, Nat.reduceSub, List.append_nil, List.replicate_succ, List.replicate_zero, mm_in, w0, r4, s5, ek.1, T_X12_walls, T_X12_isGood]
        rw [gm1.1]
        repeat' first | refine And.intro ?_ ?_ | refine fun (_ : _ ≤ _ ∧ _ < _) => ?_
        all_goals try omega
        intro q
        repeat' first | refine And.intro ?_ ?_ | refine fun (_ : _ ≤ _ ∧ _ < _) => ?_
        all_goals try omega
        · intro q2
          exact f39 I1 s1 ag1 (fun w => absurd w (by omega))
        · intro q2
          refine ⟨k, n, rfl, ⟨gm1.1.trans (by rfl), gm1.2⟩, fun I2 z s2 ag2 hz => ?_⟩
          rw [← room_cg hn3 a1 hg] at ag2
          have hz2 := goodZ_cg hn3 (⟨fun j hj => (a1.1 j hj).symm, fun j hj hp => (a1.2 j hj (by rw [a1.1 j hj]; exact hp)).symm⟩ : agW (MP I1) (MY I1) (MP I) (MY I)) gm1.2.2.2 hz
          have hz3 : 0 ≤ z ∧ z ≤ 1 := by
            obtain ⟨c, _, h⟩ := hz
            exact bz_01 h
          refine ⟨fun r => f39 I2 (scM_tr s1 s2) ag2 (fun _ => by rw [← r]; exact hz2), fun r => f40 I2 1 (scM_tr s1 s2) ag2 (by omega) (by omega) (fun _ => ?_) (fun w => absurd (show (room n (MP I) (MY I)).1 k = k by omega) w)⟩
          rw [show (1 : Int) = z by omega]
          exact hz2
    refine c0 _ _ _ ?_
    simp only [b_X12_goodMany_0, i_xorg, i_shl, i_shr, i_ior, i_and1, i_lcg1, i_lcg2, i_ld, i_la, i_st, i_sa, i_c, i_inc, i_add, i_sub, i_mul, i_div, i_rem, i_remT, i_xor, i_dup, i_dup2, i_if, i_if2, i_sw, i_gi, i_gr, i_pi, i_pz, i_ial, i_ias, i_len, i_aal, i_gs, i_tal, i_cv, i_cs, i_ir, i_zr, i_vr, i_min, i_max, i_cpy, List.getElem?_cons_zero, List.getElem?_cons_succ, List.set_cons_zero, List.set_cons_succ, List.length_cons, List.length_nil, List.drop_succ_cons, List.drop_zero, List.take_succ_cons, List.take_zero, List.reverse_cons, List.reverse_nil, List.nil_append, List.cons_append, Option.toList_some, Option.toList_none, true_and, and_true, true_or, or_true, Nat.reduceAdd, Nat.reduceLT, Nat.reduceLeDiff, Option.some.injEq, exists_eq_left', Int.toNat_natCast, Nat.reduceSub, List.append_nil, List.replicate_succ, List.replicate_zero, mm_in, w0, T_X12_layRoom]
    refine ⟨n, hgm, fun I1 f1 ag1 => ?_⟩
    exact loop (4 * n) 0 (fun _ => 0) I1 (by omega) (fun j hj => by omega) (fun j hj => by omega) (scM_hi (fun b hb => f1 b (by omega))) ag1
  · exact hT.elim
theorem sp_X12_goodMany : mm_Sp yX12_goodMany cX12_goodMany 3 (some .int) rm_X12_goodMany T_X12_goodMany := mm_meth (by decide) (by
  intro av σ Post h
  unfold T_X12_goodMany at h
  split at h
  · simp
  · exact h.elim) (fun p l e s m args below meth c G av σ Post hC hr _ hav hin hk hT => pv_X12_goodMany av σ Post hav hin hk hT _ (bk_X12_goodMany hC hr))
def T_X12_points : mm_T := fun av σ Post => match av with
  | [.inr (some a)] => σ.2 = mm_R0 ∧ a = 338 ∧ ∃ n : Nat, gM σ.1 n ∧ ∀ (I' : Nat → Nat → Int), scM I' σ.1 → Post (some (.inl (nr (room n (MP σ.1) (MY σ.1)).1 (4 * n)))) (I', mm_R0)
  | _ => False
def rm_X12_points : Room := { frames := 4, cells := 0, slots := 0, locals := 99 }
def b_X12_points_0 (Ok : Nat → mm_K) (Post : Option mm_V → mm_S → Prop) (kf : Nat) : mm_K := i_la 0 (i_cv 11 0 T_X12_layRoom (i_la 0 (i_gr 11 8 (i_la 0 (i_cv 11 0 T_X12_walls (i_cs 2 T_X12_firsts (i_ir Post kf)))))))
def clo_X12_points (Ok : Nat → mm_K) (Post : Option mm_V → mm_S → Prop) (kf : Nat) : Prop := mm_imp (b_X12_points_0 Ok Post kf) (Ok 0)
set_option maxRecDepth 100000 in
set_option maxHeartbeats 4000000 in
theorem bk_X12_points {p : Program} {l : Launch} {e : Env} {s : State} {m : MethodId} {args : Array Value} {below : List Frame} {meth : Method} {c : Code} {G : mm_G} {σ0 : mm_S} {Post : Option mm_V → mm_S → Prop} (hC : mm_C p G s m args meth c cX12_points yX12_points.cls) (hr : meth.sig.returnType = some .int) : clo_X12_points (mm_O p l e rm_X12_points s m args below meth c G σ0.2.2 (MQ below (mm_Qc G σ0 rm_X12_points.cells rm_X12_points.slots Post) args s rm_X12_points.cells rm_X12_points.slots (mm_A G))) Post σ0.2.2 := (by unfold clo_X12_points b_X12_points_0; exact (mm_la_n hC dX12_points_0 rfl (mm_cv hC sp_X12_layRoom ⟨rfl, rfl⟩ cl_11 wd_849 wd_851 wd_24 wd_852 wd_77 ⟨by decide, by decide, by decide +kernel⟩ ⟨by decide, by decide⟩ dX12_points_1 (mm_la_n hC dX12_points_4 rfl (mm_gr hC cl_11 (by decide) rfl wd_797 dX12_points_5 (mm_la_n hC dX12_points_8 rfl (mm_cv hC sp_X12_walls ⟨rfl, rfl⟩ cl_11 wd_837 wd_839 wd_21 wd_840 wd_77 ⟨by decide, by decide, by decide +kernel⟩ ⟨by decide, by decide⟩ dX12_points_9 (mm_cs hC sp_X12_firsts ⟨rfl, rfl⟩ wd_870 wd_871 wd_872 wd_77 ⟨by decide, by decide, by decide +kernel⟩ ⟨by decide, by decide⟩ dX12_points_12 (mm_ir hC ⟨rfl, rfl⟩ hr dX12_points_15)))))))))
set_option maxRecDepth 100000 in
set_option maxHeartbeats 8000000 in
theorem pv_X12_points : ∀ (av : List mm_V) (σ : mm_S) (Post : Option mm_V → mm_S → Prop), (∀ v ∈ av, mm_iv v) → (∀ a j, mm_in (σ.1 a j)) → σ.2.2 ≤ 348 → T_X12_points av σ Post → ∀ Ok : Nat → mm_K, clo_X12_points Ok Post σ.2.2 → Ok 0 (av ++ List.replicate (1 - av.length) (.inr none)) [] σ := by
  intro av σ Post hav hin hk hT Ok hcl
  obtain ⟨I, R0⟩ := σ
  unfold T_X12_points at hT
  split at hT
  · rename_i a
    obtain ⟨h0, hT⟩ := hT
    have h0 : R0 = mm_R0 := h0
    subst h0
    dsimp only at hT hin
    have c0 := hcl
    unfold clo_X12_points at c0
    obtain ⟨rfl, n, hgm, hP⟩ := hT
    have w0 := m0
    have r4 := Rs_338.2.2.2.2.1
    have s5 := sh_338.2.2.2.2.2.1
    have hn := hgm.1
    have hn3 := hgm.2.2.1
    refine c0 _ _ _ ?_
    simp only [b_X12_points_0, i_xorg, i_shl, i_shr, i_ior, i_and1, i_lcg1, i_lcg2, i_ld, i_la, i_st, i_sa, i_c, i_inc, i_add, i_sub, i_mul, i_div, i_rem, i_remT, i_xor, i_dup, i_dup2, i_if, i_if2, i_sw, i_gi, i_gr, i_pi, i_pz, i_ial, i_ias, i_len, i_aal, i_gs, i_tal, i_cv, i_cs, i_ir, i_zr, i_vr, i_min, i_max, i_cpy, List.getElem?_cons_zero, List.getElem?_cons_succ, List.set_cons_zero, List.set_cons_succ, List.length_cons, List.length_nil, List.drop_succ_cons, List.drop_zero, List.take_succ_cons, List.take_zero, List.reverse_cons, List.reverse_nil, List.nil_append, List.cons_append, Option.toList_some, Option.toList_none, true_and, and_true, true_or, or_true, Nat.reduceAdd, Nat.reduceLT, Nat.reduceLeDiff, Option.some.injEq, exists_eq_left', Int.toNat_natCast, Nat.reduceSub, List.append_nil, List.replicate_succ, List.replicate_zero, mm_in, w0, r4, T_X12_layRoom, T_X12_walls, T_X12_firsts, s5]
    refine ⟨n, hgm, fun I1 f1 ag1 => ?_⟩
    rw [f1 339 (by omega), hn]
    refine ⟨by omega, by omega, 4 * n, (room n (MP I) (MY I)).1, by omega, by omega, by omega, fun k hk => (ag1.1 k (by omega)).1, hP I1 (scM_hi (fun b hb => f1 b (by omega)))⟩
  · exact hT.elim
theorem sp_X12_points : mm_Sp yX12_points cX12_points 1 (some .int) rm_X12_points T_X12_points := mm_meth (by decide) (by
  intro av σ Post h
  unfold T_X12_points at h
  split at h
  · simp
  · exact h.elim) (fun p l e s m args below meth c G av σ Post hC hr _ hav hin hk hT => pv_X12_points av σ Post hav hin hk hT _ (bk_X12_points hC hr))
def T_X12_lines : mm_T := fun av σ Post => match av with
  | [.inr (some a)] => σ.2 = mm_R0 ∧ a = 338 ∧ ∃ n : Nat, gM σ.1 n ∧ ∀ (I' : Nat → Nat → Int), scM I' σ.1 → Post (some (.inl (nr (room n (MP σ.1) (MY σ.1)).2.1 (6 * n)))) (I', mm_R0)
  | _ => False
def rm_X12_lines : Room := { frames := 4, cells := 0, slots := 0, locals := 99 }
def b_X12_lines_0 (Ok : Nat → mm_K) (Post : Option mm_V → mm_S → Prop) (kf : Nat) : mm_K := i_la 0 (i_cv 11 0 T_X12_layRoom (i_la 0 (i_gr 11 9 (i_c 6 (i_la 0 (i_gr 11 0 (i_c 0 (i_ial (i_mul (i_cs 2 T_X12_firsts (i_ir Post kf)))))))))))
def clo_X12_lines (Ok : Nat → mm_K) (Post : Option mm_V → mm_S → Prop) (kf : Nat) : Prop := mm_imp (b_X12_lines_0 Ok Post kf) (Ok 0)
set_option maxRecDepth 100000 in
set_option maxHeartbeats 4000000 in
theorem bk_X12_lines {p : Program} {l : Launch} {e : Env} {s : State} {m : MethodId} {args : Array Value} {below : List Frame} {meth : Method} {c : Code} {G : mm_G} {σ0 : mm_S} {Post : Option mm_V → mm_S → Prop} (hC : mm_C p G s m args meth c cX12_lines yX12_lines.cls) (hr : meth.sig.returnType = some .int) : clo_X12_lines (mm_O p l e rm_X12_lines s m args below meth c G σ0.2.2 (MQ below (mm_Qc G σ0 rm_X12_lines.cells rm_X12_lines.slots Post) args s rm_X12_lines.cells rm_X12_lines.slots (mm_A G))) Post σ0.2.2 := (by unfold clo_X12_lines b_X12_lines_0; exact (mm_la_n hC dX12_lines_0 rfl (mm_cv hC sp_X12_layRoom ⟨rfl, rfl⟩ cl_11 wd_849 wd_851 wd_24 wd_852 wd_77 ⟨by decide, by decide, by decide +kernel⟩ ⟨by decide, by decide⟩ dX12_lines_1 (mm_la_n hC dX12_lines_4 rfl (mm_gr hC cl_11 (by decide) rfl wd_798 dX12_lines_5 (mm_bp hC dX12_lines_8 ⟨⟨by decide, by decide⟩, by decide⟩ (mm_la_n hC dX12_lines_10 rfl (mm_gr hC cl_11 (by decide) rfl wd_789 dX12_lines_11 (mm_ic hC dX12_lines_14 ⟨by decide, by decide⟩ (mm_ial hC dX12_lines_15 (mm_mul hC dX12_lines_16 (mm_cs hC sp_X12_firsts ⟨rfl, rfl⟩ wd_870 wd_871 wd_872 wd_77 ⟨by decide, by decide, by decide +kernel⟩ ⟨by decide, by decide⟩ dX12_lines_17 (mm_ir hC ⟨rfl, rfl⟩ hr dX12_lines_20)))))))))))))
set_option maxRecDepth 100000 in
set_option maxHeartbeats 8000000 in
theorem pv_X12_lines : ∀ (av : List mm_V) (σ : mm_S) (Post : Option mm_V → mm_S → Prop), (∀ v ∈ av, mm_iv v) → (∀ a j, mm_in (σ.1 a j)) → σ.2.2 ≤ 348 → T_X12_lines av σ Post → ∀ Ok : Nat → mm_K, clo_X12_lines Ok Post σ.2.2 → Ok 0 (av ++ List.replicate (1 - av.length) (.inr none)) [] σ := by
  intro av σ Post hav hin hk hT Ok hcl
  obtain ⟨I, R0⟩ := σ
  unfold T_X12_lines at hT
  split at hT
  · rename_i a
    obtain ⟨h0, hT⟩ := hT
    have h0 : R0 = mm_R0 := h0
    subst h0
    dsimp only at hT hin
    have c0 := hcl
    unfold clo_X12_lines at c0
    obtain ⟨rfl, n, hgm, hP⟩ := hT
    have w0 := m0
    have w1 := m1
    have w2 := m2
    have r5 := Rs_338.2.2.2.2.2.1
    have s6 := sh_338.2.2.2.2.2.2.1
    have hn := hgm.1
    have hn3 := hgm.2.2.1
    refine c0 _ _ _ ?_
    simp only [b_X12_lines_0, i_xorg, i_shl, i_shr, i_ior, i_and1, i_lcg1, i_lcg2, i_ld, i_la, i_st, i_sa, i_c, i_inc, i_add, i_sub, i_mul, i_div, i_rem, i_remT, i_xor, i_dup, i_dup2, i_if, i_if2, i_sw, i_gi, i_gr, i_pi, i_pz, i_ial, i_ias, i_len, i_aal, i_gs, i_tal, i_cv, i_cs, i_ir, i_zr, i_vr, i_min, i_max, i_cpy, List.getElem?_cons_zero, List.getElem?_cons_succ, List.set_cons_zero, List.set_cons_succ, List.length_cons, List.length_nil, List.drop_succ_cons, List.drop_zero, List.take_succ_cons, List.take_zero, List.reverse_cons, List.reverse_nil, List.nil_append, List.cons_append, Option.toList_some, Option.toList_none, true_and, and_true, true_or, or_true, Nat.reduceAdd, Nat.reduceLT, Nat.reduceLeDiff, Option.some.injEq, exists_eq_left', Int.toNat_natCast, Nat.reduceSub, List.append_nil, List.replicate_succ, List.replicate_zero, mm_in, w0, w1, w2, t0, r5, T_X12_layRoom, T_X12_firsts, s6]
    refine ⟨n, hgm, fun I1 f1 ag1 => ?_⟩
    rw [f1 339 (by omega), hn]
    repeat' first | refine And.intro ?_ ?_ | refine fun (_ : _ ≤ _ ∧ _ < _) => ?_
    all_goals try omega
    refine ⟨6 * n, (room n (MP I) (MY I)).2.1, by omega, by omega, by omega, fun k hk => (ag1.2.1 k (by omega)).1, hP I1 (scM_hi (fun b hb => f1 b (by omega)))⟩
  · exact hT.elim
theorem sp_X12_lines : mm_Sp yX12_lines cX12_lines 1 (some .int) rm_X12_lines T_X12_lines := mm_meth (by decide) (by
  intro av σ Post h
  unfold T_X12_lines at h
  split at h
  · simp
  · exact h.elim) (fun p l e s m args below meth c G av σ Post hC hr _ hav hin hk hT => pv_X12_lines av σ Post hav hin hk hT _ (bk_X12_lines hC hr))
def T_X12_bents : mm_T := fun av σ Post => match av with
  | [.inr (some a)] => σ.2 = mm_R0 ∧ a = 338 ∧ ∃ n : Nat, gM σ.1 n ∧ ∀ (I' : Nat → Nat → Int) (z : Int), scM I' σ.1 → nbnt (room n (MP σ.1) (MY σ.1)) n z → Post (some (.inl z)) (I', mm_R0)
  | _ => False
def rm_X12_bents : Room := { frames := 4, cells := 0, slots := 0, locals := 99 }
def b_X12_bents_0 (Ok : Nat → mm_K) (Post : Option mm_V → mm_S → Prop) (kf : Nat) : mm_K := i_la 0 (i_cv 11 0 T_X12_layRoom (i_la 0 (i_cv 11 0 T_X12_bentMany (i_ir Post kf))))
def clo_X12_bents (Ok : Nat → mm_K) (Post : Option mm_V → mm_S → Prop) (kf : Nat) : Prop := mm_imp (b_X12_bents_0 Ok Post kf) (Ok 0)
set_option maxRecDepth 100000 in
set_option maxHeartbeats 4000000 in
theorem bk_X12_bents {p : Program} {l : Launch} {e : Env} {s : State} {m : MethodId} {args : Array Value} {below : List Frame} {meth : Method} {c : Code} {G : mm_G} {σ0 : mm_S} {Post : Option mm_V → mm_S → Prop} (hC : mm_C p G s m args meth c cX12_bents yX12_bents.cls) (hr : meth.sig.returnType = some .int) : clo_X12_bents (mm_O p l e rm_X12_bents s m args below meth c G σ0.2.2 (MQ below (mm_Qc G σ0 rm_X12_bents.cells rm_X12_bents.slots Post) args s rm_X12_bents.cells rm_X12_bents.slots (mm_A G))) Post σ0.2.2 := (by unfold clo_X12_bents b_X12_bents_0; exact (mm_la_n hC dX12_bents_0 rfl (mm_cv hC sp_X12_layRoom ⟨rfl, rfl⟩ cl_11 wd_849 wd_851 wd_24 wd_852 wd_77 ⟨by decide, by decide, by decide +kernel⟩ ⟨by decide, by decide⟩ dX12_bents_1 (mm_la_n hC dX12_bents_4 rfl (mm_cv hC sp_X12_bentMany ⟨rfl, rfl⟩ cl_11 wd_881 wd_883 wd_29 wd_884 wd_77 ⟨by decide, by decide, by decide +kernel⟩ ⟨by decide, by decide⟩ dX12_bents_5 (mm_ir hC ⟨rfl, rfl⟩ hr dX12_bents_8))))))
set_option maxRecDepth 100000 in
set_option maxHeartbeats 8000000 in
theorem pv_X12_bents : ∀ (av : List mm_V) (σ : mm_S) (Post : Option mm_V → mm_S → Prop), (∀ v ∈ av, mm_iv v) → (∀ a j, mm_in (σ.1 a j)) → σ.2.2 ≤ 348 → T_X12_bents av σ Post → ∀ Ok : Nat → mm_K, clo_X12_bents Ok Post σ.2.2 → Ok 0 (av ++ List.replicate (1 - av.length) (.inr none)) [] σ := by
  intro av σ Post hav hin hk hT Ok hcl
  obtain ⟨I, R0⟩ := σ
  unfold T_X12_bents at hT
  split at hT
  · rename_i a
    obtain ⟨h0, hT⟩ := hT
    have h0 : R0 = mm_R0 := h0
    subst h0
    dsimp only at hT hin
    have c0 := hcl
    unfold clo_X12_bents at c0
    obtain ⟨rfl, n, hgm, hP⟩ := hT
    have w0 := m0
    refine c0 _ _ _ ?_
    simp only [b_X12_bents_0, i_xorg, i_shl, i_shr, i_ior, i_and1, i_lcg1, i_lcg2, i_ld, i_la, i_st, i_sa, i_c, i_inc, i_add, i_sub, i_mul, i_div, i_rem, i_remT, i_xor, i_dup, i_dup2, i_if, i_if2, i_sw, i_gi, i_gr, i_pi, i_pz, i_ial, i_ias, i_len, i_aal, i_gs, i_tal, i_cv, i_cs, i_ir, i_zr, i_vr, i_min, i_max, i_cpy, List.getElem?_cons_zero, List.getElem?_cons_succ, List.set_cons_zero, List.set_cons_succ, List.length_cons, List.length_nil, List.drop_succ_cons, List.drop_zero, List.take_succ_cons, List.take_zero, List.reverse_cons, List.reverse_nil, List.nil_append, List.cons_append, Option.toList_some, Option.toList_none, true_and, and_true, true_or, or_true, Nat.reduceAdd, Nat.reduceLT, Nat.reduceLeDiff, Option.some.injEq, exists_eq_left', Int.toNat_natCast, Nat.reduceSub, List.append_nil, List.replicate_succ, List.replicate_zero, mm_in, w0, T_X12_layRoom, T_X12_bentMany]
    refine ⟨n, hgm, fun I1 f1 ag1 => ⟨n, _, by rw [f1 339 (by omega)]; exact hgm.1, hgm.2.2.1, ag1, fun z hz => hP I1 z (scM_hi (fun b hb => f1 b (by omega))) hz⟩⟩
  · exact hT.elim
theorem sp_X12_bents : mm_Sp yX12_bents cX12_bents 1 (some .int) rm_X12_bents T_X12_bents := mm_meth (by decide) (by
  intro av σ Post h
  unfold T_X12_bents at h
  split at h
  · simp
  · exact h.elim) (fun p l e s m args below meth c G av σ Post hC hr _ hav hin hk hT => pv_X12_bents av σ Post hav hin hk hT _ (bk_X12_bents hC hr))
def T_X12_characteristic : mm_T := fun av σ Post => match av with
  | [.inr (some a)] => σ.2 = mm_R0 ∧ a = 338 ∧ ∃ n : Nat, gM σ.1 n ∧ ∀ (I' : Nat → Nat → Int), scM I' σ.1 → Post (some (.inl (nr (room n (MP σ.1) (MY σ.1)).1 (4 * n) - nr (room n (MP σ.1) (MY σ.1)).2.1 (6 * n) + (4 * n + frn (MP σ.1) (4 * n)) / 2 - n))) (I', mm_R0)
  | _ => False
def rm_X12_characteristic : Room := { frames := 5, cells := 0, slots := 0, locals := 119 }
def b_X12_characteristic_0 (Ok : Nat → mm_K) (Post : Option mm_V → mm_S → Prop) (kf : Nat) : mm_K := i_la 0 (i_cv 11 0 T_X12_walls (i_la 0 (i_cv 11 0 T_X12_freeMany (i_add (i_c 2 (i_div (i_st 1 (i_la 0 (i_cv 11 0 T_X12_points (i_la 0 (i_cv 11 0 T_X12_lines (i_sub (i_ld 1 (i_add (i_la 0 (i_gr 11 0 (i_c 0 (i_ial (i_sub (i_ir Post kf))))))))))))))))))))
def clo_X12_characteristic (Ok : Nat → mm_K) (Post : Option mm_V → mm_S → Prop) (kf : Nat) : Prop := mm_imp (b_X12_characteristic_0 Ok Post kf) (Ok 0)
set_option maxRecDepth 100000 in
set_option maxHeartbeats 4000000 in
theorem bk_X12_characteristic {p : Program} {l : Launch} {e : Env} {s : State} {m : MethodId} {args : Array Value} {below : List Frame} {meth : Method} {c : Code} {G : mm_G} {σ0 : mm_S} {Post : Option mm_V → mm_S → Prop} (hC : mm_C p G s m args meth c cX12_characteristic yX12_characteristic.cls) (hr : meth.sig.returnType = some .int) : clo_X12_characteristic (mm_O p l e rm_X12_characteristic s m args below meth c G σ0.2.2 (MQ below (mm_Qc G σ0 rm_X12_characteristic.cells rm_X12_characteristic.slots Post) args s rm_X12_characteristic.cells rm_X12_characteristic.slots (mm_A G))) Post σ0.2.2 := (by unfold clo_X12_characteristic b_X12_characteristic_0; exact (mm_la_n hC dX12_characteristic_0 rfl (mm_cv hC sp_X12_walls ⟨rfl, rfl⟩ cl_11 wd_837 wd_839 wd_21 wd_840 wd_77 ⟨by decide, by decide, by decide +kernel⟩ ⟨by decide, by decide⟩ dX12_characteristic_1 (mm_la_n hC dX12_characteristic_4 rfl (mm_cv hC sp_X12_freeMany ⟨rfl, rfl⟩ cl_11 wd_833 wd_835 wd_20 wd_836 wd_77 ⟨by decide, by decide, by decide +kernel⟩ ⟨by decide, by decide⟩ dX12_characteristic_5 (mm_add hC dX12_characteristic_8 (mm_ic hC dX12_characteristic_9 ⟨by decide, by decide⟩ (mm_div hC dX12_characteristic_10 (mm_st_n hC dX12_characteristic_11 rfl (mm_la_n hC dX12_characteristic_12 rfl (mm_cv hC sp_X12_points ⟨rfl, rfl⟩ cl_11 wd_845 wd_847 wd_23 wd_848 wd_77 ⟨by decide, by decide, by decide +kernel⟩ ⟨by decide, by decide⟩ dX12_characteristic_13 (mm_la_n hC dX12_characteristic_16 rfl (mm_cv hC sp_X12_lines ⟨rfl, rfl⟩ cl_11 wd_873 wd_875 wd_27 wd_876 wd_77 ⟨by decide, by decide, by decide +kernel⟩ ⟨by decide, by decide⟩ dX12_characteristic_17 (mm_sub hC dX12_characteristic_20 (mm_ld_n hC dX12_characteristic_21 rfl (mm_add hC dX12_characteristic_22 (mm_la_n hC dX12_characteristic_23 rfl (mm_gr hC cl_11 (by decide) rfl wd_789 dX12_characteristic_24 (mm_ic hC dX12_characteristic_27 ⟨by decide, by decide⟩ (mm_ial hC dX12_characteristic_28 (mm_sub hC dX12_characteristic_29 (mm_ir hC ⟨rfl, rfl⟩ hr dX12_characteristic_30))))))))))))))))))))))
set_option maxRecDepth 100000 in
set_option maxHeartbeats 8000000 in
theorem pv_X12_characteristic : ∀ (av : List mm_V) (σ : mm_S) (Post : Option mm_V → mm_S → Prop), (∀ v ∈ av, mm_iv v) → (∀ a j, mm_in (σ.1 a j)) → σ.2.2 ≤ 348 → T_X12_characteristic av σ Post → ∀ Ok : Nat → mm_K, clo_X12_characteristic Ok Post σ.2.2 → Ok 0 (av ++ List.replicate (2 - av.length) (.inr none)) [] σ := by
  intro av σ Post hav hin hk hT Ok hcl
  obtain ⟨I, R0⟩ := σ
  unfold T_X12_characteristic at hT
  split at hT
  · rename_i a
    obtain ⟨h0, hT⟩ := hT
    have h0 : R0 = mm_R0 := h0
    subst h0
    dsimp only at hT hin
    have c0 := hcl
    unfold clo_X12_characteristic at c0
    obtain ⟨rfl, n, hgm, hP⟩ := hT
    have w0 := m0
    have w1 := m1
    have w2 := m2
    have hn := hgm.1
    have hn3 := hgm.2.2.1
    have hg := hgm.2.2.2
    have b1 := nr_b (room n (MP I) (MY I)).1 (4 * n)
    have b2 := nr_b (room n (MP I) (MY I)).2.1 (6 * n)
    have b3 := frn_b (MP I) (4 * n)
    refine c0 _ _ _ ?_
    simp only [b_X12_characteristic_0, i_xorg, i_shl, i_shr, i_ior, i_and1, i_lcg1, i_lcg2, i_ld, i_la, i_st, i_sa, i_c, i_inc, i_add, i_sub, i_mul, i_div, i_rem, i_remT, i_xor, i_dup, i_dup2, i_if, i_if2, i_sw, i_gi, i_gr, i_pi, i_pz, i_ial, i_ias, i_len, i_aal, i_gs, i_tal, i_cv, i_cs, i_ir, i_zr, i_vr, i_min, i_max, i_cpy, List.getElem?_cons_zero, List.getElem?_cons_succ, List.set_cons_zero, List.set_cons_succ, List.length_cons, List.length_nil, List.drop_succ_cons, List.drop_zero, List.take_succ_cons, List.take_zero, List.reverse_cons, List.reverse_nil, List.nil_append, List.cons_append, Option.toList_some, Option.toList_none, true_and, and_true, true_or, or_true, Nat.reduceAdd, Nat.reduceLT, Nat.reduceLeDiff, Option.some.injEq, exists_eq_left', Int.toNat_natCast, Nat.reduceSub, List.append_nil, List.replicate_succ, List.replicate_zero, mm_in, w0, w1, w2, t0, T_X12_walls, T_X12_freeMany, T_X12_points, T_X12_lines, hn]
    refine ⟨by omega, by omega, n, rfl, hn3, fun j hj => by rcases hg j hj with e | e <;> omega, ?_⟩
    repeat' first | refine And.intro ?_ ?_ | refine fun (_ : _ ≤ _ ∧ _ < _) => ?_
    all_goals try omega
    refine ⟨n, hgm, fun I1 s1 => ?_⟩
    obtain ⟨gm1, a1⟩ := gM_sc hgm s1
    refine ⟨n, gm1, fun I2 s2 => ?_⟩
    rw [← room_cg hn3 a1 hg]
    rw [s2.2.1 0 (by omega), s1.2.1 0 (by omega), hn]
    repeat' first | refine And.intro ?_ ?_ | refine fun (_ : _ ≤ _ ∧ _ < _) => ?_
    all_goals try omega
    exact hP I2 (scM_tr s1 s2)
  · exact hT.elim
theorem sp_X12_characteristic : mm_Sp yX12_characteristic cX12_characteristic 2 (some .int) rm_X12_characteristic T_X12_characteristic := mm_meth (by decide) (by
  intro av σ Post h
  unfold T_X12_characteristic at h
  split at h
  · simp
  · exact h.elim) (fun p l e s m args below meth c G av σ Post hC hr _ hav hin hk hT => pv_X12_characteristic av σ Post hav hin hk hT _ (bk_X12_characteristic hC hr))
