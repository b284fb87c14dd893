/-! the other program: what a surface is, whether it splits
-/
def wellM (n : Nat) (pa wy nb : Nat → Int) : Prop := ¬ crs nb n ∧ mtA n pa wy nb (4 * n) 0
theorem pcnt_ex (nb : Nat → Int) (n : Nat) (L : L2) (fl : Int) : ∃ z, pcnt nb n L fl z := by
  classical
  refine ⟨_, fun p => if thr nb p ∧ L.1 p = p ∧ (fl = 0 ∨ two nb L p (140 * n)) then 1 else 0, fun p _ => ?_, rfl⟩
  by_cases q : thr nb p ∧ L.1 p = p ∧ (fl = 0 ∨ two nb L p (140 * n))
  · simp only [if_pos q]
    exact bz_1 q
  · simp only [if_neg q]
    exact bz_0 q
theorem bz_u {z y : Int} {P : Prop} (h : bz z P) (g : bz y P) : z = y := by
  rcases h with ⟨a, b⟩ | ⟨a, b⟩ <;> rcases g with ⟨c, d⟩ | ⟨c, d⟩
  · omega
  · exact absurd b d
  · exact absurd d b
  · omega
theorem pcnt_u {nb : Nat → Int} {n : Nat} {L : L2} {fl z y : Int} (h : pcnt nb n L fl z) (g : pcnt nb n L fl y) : z = y := by
  obtain ⟨a, h1, rfl⟩ := h
  obtain ⟨b, h2, rfl⟩ := g
  exact sm_congr (fun k hk => bz_u (h1 k hk) (h2 k hk))
def nameZ (n : Nat) (pa wy nb : Nat → Int) (z : Int) : Prop := (wellM n pa wy nb → ∃ C D : Int, pcnt nb n (joi n pa wy nb) 0 C ∧ pcnt nb n (joi n pa wy nb) 1 D ∧ z = typ C (bdy n pa nb) (eulM n pa (room n pa wy).2.1 nb) D) ∧ (¬ wellM n pa wy nb → z = -1)
def T_X12_name : mm_T := fun av σ Post => match av with
  | [.inr (some a), .inl s] => σ.2 = mm_R0 ∧ a = 338 ∧ ∃ o n : Nat, s = o ∧ o ≤ 2888 ∧ gM σ.1 n ∧ b20 (MN σ.1 o) ∧ ∀ (I' : Nat → Nat → Int) (z : Int), (∀ b, b < 343 → I' b = σ.1 b) → nameZ n (MP σ.1) (MY σ.1) (MN σ.1 o) z → Post (some (.inl z)) (I', mm_R0)
  | _ => False
def rm_X12_name : Room := { frames := 5, cells := 0, slots := 0, locals := 128 }
def b_X12_name_0 (Ok : Nat → mm_K) (Post : Option mm_V → mm_S → Prop) (kf : Nat) : mm_K := i_la 0 (i_ld 1 (i_cv 11 1 T_X12_isWell (i_if (fun x => ¬ x = 0) (i_la 0 (i_ld 1 (i_c 0 (i_cv 11 2 T_X12_parts (i_c 1 (i_if2 (fun x y => x = y) (i_la 0 (i_ld 1 (i_cv 11 1 T_X12_border (i_if (fun x => x ≤ 0) (i_la 0 (i_ld 1 (i_cv 11 1 T_X12_euler (i_sw Ok 84 [(0, 68), (1, 66), (2, 64)])))) (i_c 1 (i_ir Post kf)))))) (i_c 0 (i_ir Post kf)))))))) (i_c (-1) (i_ir Post kf)))))
def b_X12_name_64 (Ok : Nat → mm_K) (Post : Option mm_V → mm_S → Prop) (kf : Nat) : mm_K := i_c 2 (i_ir Post kf)
def b_X12_name_66 (Ok : Nat → mm_K) (Post : Option mm_V → mm_S → Prop) (kf : Nat) : mm_K := i_c 3 (i_ir Post kf)
def b_X12_name_68 (Ok : Nat → mm_K) (Post : Option mm_V → mm_S → Prop) (kf : Nat) : mm_K := i_la 0 (i_ld 1 (i_c 1 (i_cv 11 2 T_X12_parts (i_c 1 (i_if2 (fun x y => ¬ x = y) (i_c 5 (Ok 83)) (i_c 4 (Ok 83)))))))
def b_X12_name_83 (Ok : Nat → mm_K) (Post : Option mm_V → mm_S → Prop) (kf : Nat) : mm_K := i_ir Post kf
def b_X12_name_84 (Ok : Nat → mm_K) (Post : Option mm_V → mm_S → Prop) (kf : Nat) : mm_K := i_c 6 (i_ir Post kf)
def clo_X12_name (Ok : Nat → mm_K) (Post : Option mm_V → mm_S → Prop) (kf : Nat) : Prop := mm_imp (b_X12_name_0 Ok Post kf) (Ok 0) ∧ mm_imp (b_X12_name_64 Ok Post kf) (Ok 64) ∧ mm_imp (b_X12_name_66 Ok Post kf) (Ok 66) ∧ mm_imp (b_X12_name_68 Ok Post kf) (Ok 68) ∧ mm_imp (b_X12_name_83 Ok Post kf) (Ok 83) ∧ mm_imp (b_X12_name_84 Ok Post kf) (Ok 84)
set_option maxRecDepth 100000 in
set_option maxHeartbeats 4000000 in
theorem bk_X12_name {p : Program} {l : Launch} {e : Env} {s : State} {m : MethodId} {args : Array Value} {below : List Frame} {meth : Method} {c : Code} {G : mm_G} {σ0 : mm_S} {Post : Option mm_V → mm_S → Prop} (hC : mm_C p G s m args meth c cX12_name yX12_name.cls) (hr : meth.sig.returnType = some .int) : clo_X12_name (mm_O p l e rm_X12_name s m args below meth c G σ0.2.2 (MQ below (mm_Qc G σ0 rm_X12_name.cells rm_X12_name.slots Post) args s rm_X12_name.cells rm_X12_name.slots (mm_A G))) Post σ0.2.2 := ⟨(by unfold b_X12_name_0; exact (mm_la_n hC dX12_name_0 rfl (mm_ld_n hC dX12_name_1 rfl (mm_cv hC sp_X12_isWell ⟨rfl, rfl⟩ cl_11 wd_982 wd_984 wd_49 wd_985 wd_77 ⟨by decide, by decide, by decide +kernel⟩ ⟨by decide, by decide⟩ dX12_name_2 (mm_if_ne hC (t := 10) dX12_name_5 (by decide) (mm_la_n hC dX12_name_10 rfl (mm_ld_n hC dX12_name_11 rfl (mm_ic hC dX12_name_12 ⟨by decide, by decide⟩ (mm_cv hC sp_X12_parts ⟨rfl, rfl⟩ cl_11 wd_901 wd_903 wd_34 wd_904 wd_77 ⟨by decide, by decide, by decide +kernel⟩ ⟨by decide, by decide⟩ dX12_name_13 (mm_ic hC dX12_name_16 ⟨by decide, by decide⟩ (mm_ic_eq hC (t := 22) dX12_name_17 (by decide) (mm_la_n hC dX12_name_22 rfl (mm_ld_n hC dX12_name_23 rfl (mm_cv hC sp_X12_border ⟨rfl, rfl⟩ cl_11 wd_960 wd_962 wd_45 wd_963 wd_77 ⟨by decide, by decide, by decide +kernel⟩ ⟨by decide, by decide⟩ dX12_name_24 (mm_if_le hC (t := 32) dX12_name_27 (by decide) (mm_la_n hC dX12_name_32 rfl (mm_ld_n hC dX12_name_33 rfl (mm_cv hC sp_X12_euler ⟨rfl, rfl⟩ cl_11 wd_938 wd_940 wd_41 wd_941 wd_77 ⟨by decide, by decide, by decide +kernel⟩ ⟨by decide, by decide⟩ dX12_name_34 (mm_tsw hC dX12_name_37 rfl (by decide) (by decide) (by decide))))) (mm_ic hC dX12_name_30 ⟨by decide, by decide⟩ (mm_ir hC ⟨rfl, rfl⟩ hr dX12_name_31)))))) (mm_ic hC dX12_name_20 ⟨by decide, by decide⟩ (mm_ir hC ⟨rfl, rfl⟩ hr dX12_name_21)))))))) (mm_ic hC dX12_name_8 ⟨by decide, by decide⟩ (mm_ir hC ⟨rfl, rfl⟩ hr dX12_name_9))))))), (by unfold b_X12_name_64; exact (mm_ic hC dX12_name_64 ⟨by decide, by decide⟩ (mm_ir hC ⟨rfl, rfl⟩ hr dX12_name_65))), (by unfold b_X12_name_66; exact (mm_ic hC dX12_name_66 ⟨by decide, by decide⟩ (mm_ir hC ⟨rfl, rfl⟩ hr dX12_name_67))), (by unfold b_X12_name_68; exact (mm_la_n hC dX12_name_68 rfl (mm_ld_n hC dX12_name_69 rfl (mm_ic hC dX12_name_70 ⟨by decide, by decide⟩ (mm_cv hC sp_X12_parts ⟨rfl, rfl⟩ cl_11 wd_901 wd_903 wd_34 wd_904 wd_77 ⟨by decide, by decide, by decide +kernel⟩ ⟨by decide, by decide⟩ dX12_name_71 (mm_ic hC dX12_name_74 ⟨by decide, by decide⟩ (mm_ic_ne hC (t := 82) dX12_name_75 (by decide) (mm_ic hC dX12_name_82 ⟨by decide, by decide⟩ (fun _ _ _ h => h)) (mm_ic hC dX12_name_78 ⟨by decide, by decide⟩ (mm_goto hC (t := 83) dX12_name_79 (by decide) (fun _ _ _ h => h)))))))))), (by unfold b_X12_name_83; exact (mm_ir hC ⟨rfl, rfl⟩ hr dX12_name_83)), (by unfold b_X12_name_84; exact (mm_bp hC dX12_name_84 ⟨⟨by decide, by decide⟩, by decide⟩ (mm_ir hC ⟨rfl, rfl⟩ hr dX12_name_86)))⟩
set_option maxRecDepth 100000 in
set_option maxHeartbeats 8000000 in
theorem pv_X12_name : ∀ (av : List mm_V) (σ : mm_S) (Post : Option mm_V → mm_S → Prop), (∀ v ∈ av, mm_iv v) → (∀ a j, mm_in (σ.1 a j)) → σ.2.2 ≤ 348 → T_X12_name av σ Post → ∀ Ok : Nat → mm_K, clo_X12_name Ok Post σ.2.2 → Ok 0 (av ++ List.replicate (2 - av.length) (.inr none)) [] σ := by
  intro av σ Post hav hin hk hT Ok hcl
  obtain ⟨I, R0⟩ := σ
  unfold T_X12_name at hT
  split at hT
  · rename_i a s
    obtain ⟨h0, hT⟩ := hT
    have h0 : R0 = mm_R0 := h0
    subst h0
    dsimp only at hT hin
    obtain ⟨c0, c64, c66, c68, c83, c84⟩ := hcl
    obtain ⟨rfl, o, n, rfl, ho, hgm, hb, hP⟩ := hT
    have w0 := m0
    have hn3 := hgm.2.2.1
    refine c0 _ _ _ ?_
    simp only [b_X12_name_0, i_xorg, i_shl, i_shr, i_ior, i_and1, i_lcg1, i_lcg2, i_ld, i_la, i_st, i_sa, i_c, i_inc, i_add, i_sub, i_mul, i_div, i_rem, i_remT, i_xor, i_dup, i_dup2, i_if, i_if2, i_sw, i_gi, i_gr, i_pi, i_pz, i_ial, i_ias, i_len, i_aal, i_gs, i_tal, i_cv, i_cs, i_ir, i_zr, i_vr, i_min, i_max, i_cpy, List.getElem?_cons_zero, List.getElem?_cons_succ, List.set_cons_zero, List.set_cons_succ, List.length_cons, List.length_nil, List.drop_succ_cons, List.drop_zero, List.take_succ_cons, List.take_zero, List.reverse_cons, List.reverse_nil, List.nil_append, List.cons_append, Option.toList_some, Option.toList_none, true_and, and_true, true_or, or_true, Nat.reduceAdd, Nat.reduceLT, Nat.reduceLeDiff, Option.some.injEq, exists_eq_left', Int.toNat_natCast, Nat.reduceSub, List.append_nil, List.replicate_succ, List.replicate_zero, mm_in, w0, T_X12_isWell, T_X12_parts]
    refine ⟨o, n, rfl, ho, hgm, b20_bd hb, fun z hz => ⟨fun q => ?_, fun q => hP I _ (fun _ _ => rfl) ⟨fun w => absurd w (bz_f hz (by omega)), fun _ => rfl⟩⟩⟩
    have hw : wellM n (MP I) (MY I) (MN I o) := bz_t hz q
    refine ⟨o, n, rfl, ho, hgm, hb, hw.2, fun I1 C f1 hC hC2 => ?_⟩
    obtain ⟨gm1, eP, eY, eN⟩ := gM_fr hgm (f1 339 (by omega))
    obtain ⟨D, hD⟩ := pcnt_ex (MN I o) n (joi n (MP I) (MY I) (MN I o)) 1
    have fin : ∀ (I2 : Nat → Nat → Int) (z : Int), (∀ b, b < 343 → I2 b = I b) → z = typ C (bdy n (MP I) (MN I o)) (eulM n (MP I) (room n (MP I) (MY I)).2.1 (MN I o)) D → Post (some (.inl z)) (I2, mm_R0) := fun I2 z h1 h2 => hP I2 z h1 ⟨fun _ => ⟨C, D, hC, hD, h2⟩, fun w => absurd hw w⟩
    unfold typ at fin
    refine ⟨fun q1 => ?_, fun q1 => fin I1 0 (fun b hb => f1 b (by omega)) (by rw [if_pos q1])⟩
    rw [if_neg (fun w => w q1)] at fin
    simp only [mm_in, w0, T_X12_border, i_xorg, i_shl, i_shr, i_ior, i_and1, i_lcg1, i_lcg2, i_ld, i_la, i_st, i_sa, i_c, i_inc, i_add, i_sub, i_mul, i_div, i_rem, i_remT, i_xor, i_dup, i_dup2, i_if, i_if2, i_sw, i_gi, i_gr, i_pi, i_pz, i_ial, i_ias, i_len, i_aal, i_gs, i_tal, i_cv, i_cs, i_ir, i_zr, i_vr, i_min, i_max, i_cpy, List.getElem?_cons_zero, List.getElem?_cons_succ, List.set_cons_zero, List.set_cons_succ, List.length_cons, List.length_nil, List.drop_succ_cons, List.drop_zero, List.take_succ_cons, List.take_zero, List.reverse_cons, List.reverse_nil, List.nil_append, List.cons_append, Option.toList_some, Option.toList_none, true_and, and_true, true_or, or_true, Nat.reduceAdd, Nat.reduceLT, Nat.reduceLeDiff, Option.some.injEq, exists_eq_left', Int.toNat_natCast, Nat.reduceSub, List.append_nil, List.replicate_succ, List.replicate_zero]
    refine ⟨o, n, rfl, ho, gm1.1, hn3, by rw [eN]; exact b20_bd hb, fun j hj => by rcases gm1.2.2.2 j hj with e | e <;> omega, ?_⟩
    rw [eP, eN]
    refine ⟨fun q2 => ?_, fun q2 => fin I1 1 (fun b hb => f1 b (by omega)) (by rw [if_pos (by omega)])⟩
    rw [if_neg (by omega)] at fin
    simp only [mm_in, w0, T_X12_euler, i_xorg, i_shl, i_shr, i_ior, i_and1, i_lcg1, i_lcg2, i_ld, i_la, i_st, i_sa, i_c, i_inc, i_add, i_sub, i_mul, i_div, i_rem, i_remT, i_xor, i_dup, i_dup2, i_if, i_if2, i_sw, i_gi, i_gr, i_pi, i_pz, i_ial, i_ias, i_len, i_aal, i_gs, i_tal, i_cv, i_cs, i_ir, i_zr, i_vr, i_min, i_max, i_cpy, List.getElem?_cons_zero, List.getElem?_cons_succ, List.set_cons_zero, List.set_cons_succ, List.length_cons, List.length_nil, List.drop_succ_cons, List.drop_zero, List.take_succ_cons, List.take_zero, List.reverse_cons, List.reverse_nil, List.nil_append, List.cons_append, Option.toList_some, Option.toList_none, true_and, and_true, true_or, or_true, Nat.reduceAdd, Nat.reduceLT, Nat.reduceLeDiff, Option.some.injEq, exists_eq_left', Int.toNat_natCast, Nat.reduceSub, List.append_nil, List.replicate_succ, List.replicate_zero]
    refine ⟨o, n, rfl, ho, gm1, by rw [eN]; exact b20_bd hb, fun I2 f2 ag2 => ?_⟩
    rw [eP, eY, eN]
    have f3 : ∀ b, b < 343 → I2 b = I b := fun b hb => by rw [f2 b (by omega), f1 b (by omega)]
    obtain ⟨gm2, eP2, eY2, eN2⟩ := gM_fr hgm (f3 339 (by omega))
    refine ⟨fun q3 => ?_, fun q3 => ⟨fun q4 => ?_, fun q4 => ⟨fun q5 => ?_, fun q5 => ?_⟩⟩⟩
    · rw [if_neg (by omega), if_neg (by omega), if_pos q3] at fin
      have f83 : ∀ (I3 : Nat → Nat → Int) (z : Int), (∀ b, b < 343 → I3 b = I b) → z = (if D = 1 then 4 else 5) → Ok 83 [.inr (some 338), .inl (o : Int)] [.inl z] (I3, mm_R0) := by
        intro I3 z h1 h2
        refine c83 _ _ _ ?_
        simp only [b_X12_name_83, i_xorg, i_shl, i_shr, i_ior, i_and1, i_lcg1, i_lcg2, i_ld, i_la, i_st, i_sa, i_c, i_inc, i_add, i_sub, i_mul, i_div, i_rem, i_remT, i_xor, i_dup, i_dup2, i_if, i_if2, i_sw, i_gi, i_gr, i_pi, i_pz, i_ial, i_ias, i_len, i_aal, i_gs, i_tal, i_cv, i_cs, i_ir, i_zr, i_vr, i_min, i_max, i_cpy, List.getElem?_cons_zero, List.getElem?_cons_succ, List.set_cons_zero, List.set_cons_succ, List.length_cons, List.length_nil, List.drop_succ_cons, List.drop_zero, List.take_succ_cons, List.take_zero, List.reverse_cons, List.reverse_nil, List.nil_append, List.cons_append, Option.toList_some, Option.toList_none, true_and, and_true, true_or, or_true, Nat.reduceAdd, Nat.reduceLT, Nat.reduceLeDiff, Option.some.injEq, exists_eq_left', Int.toNat_natCast, Nat.reduceSub, List.append_nil, List.replicate_succ, List.replicate_zero]
        exact fin I3 z h1 h2
      refine c68 _ _ _ ?_
      simp only [b_X12_name_68, i_xorg, i_shl, i_shr, i_ior, i_and1, i_lcg1, i_lcg2, i_ld, i_la, i_st, i_sa, i_c, i_inc, i_add, i_sub, i_mul, i_div, i_rem, i_remT, i_xor, i_dup, i_dup2, i_if, i_if2, i_sw, i_gi, i_gr, i_pi, i_pz, i_ial, i_ias, i_len, i_aal, i_gs, i_tal, i_cv, i_cs, i_ir, i_zr, i_vr, i_min, i_max, i_cpy, List.getElem?_cons_zero, List.getElem?_cons_succ, List.set_cons_zero, List.set_cons_succ, List.length_cons, List.length_nil, List.drop_succ_cons, List.drop_zero, List.take_succ_cons, List.take_zero, List.reverse_cons, List.reverse_nil, List.nil_append, List.cons_append, Option.toList_some, Option.toList_none, true_and, and_true, true_or, or_true, Nat.reduceAdd, Nat.reduceLT, Nat.reduceLeDiff, Option.some.injEq, exists_eq_left', Int.toNat_natCast, Nat.reduceSub, List.append_nil, List.replicate_succ, List.replicate_zero, mm_in, w0, T_X12_parts]
      refine ⟨o, n, rfl, ho, gm2, by rw [eN2]; exact hb, by rw [eP2, eY2, eN2]; exact hw.2, fun I3 E f4 hE _ => ?_⟩
      rw [eP2, eY2, eN2] at hE
      have e : E = D := pcnt_u hE hD
      have f5 : ∀ b, b < 343 → I3 b = I b := fun b hb => by rw [f4 b (by omega), f3 b hb]
      exact ⟨fun r => f83 I3 5 f5 (by rw [if_neg (by omega)]), fun r => f83 I3 4 f5 (by rw [if_pos (by omega)])⟩
    · rw [if_neg (by omega), if_pos q4] at fin
      refine c66 _ _ _ ?_
      simp only [b_X12_name_66, i_xorg, i_shl, i_shr, i_ior, i_and1, i_lcg1, i_lcg2, i_ld, i_la, i_st, i_sa, i_c, i_inc, i_add, i_sub, i_mul, i_div, i_rem, i_remT, i_xor, i_dup, i_dup2, i_if, i_if2, i_sw, i_gi, i_gr, i_pi, i_pz, i_ial, i_ias, i_len, i_aal, i_gs, i_tal, i_cv, i_cs, i_ir, i_zr, i_vr, i_min, i_max, i_cpy, List.getElem?_cons_zero, List.getElem?_cons_succ, List.set_cons_zero, List.set_cons_succ, List.length_cons, List.length_nil, List.drop_succ_cons, List.drop_zero, List.take_succ_cons, List.take_zero, List.reverse_cons, List.reverse_nil, List.nil_append, List.cons_append, Option.toList_some, Option.toList_none, true_and, and_true, true_or, or_true, Nat.reduceAdd, Nat.reduceLT, Nat.reduceLeDiff, Option.some.injEq, exists_eq_left', Int.toNat_natCast, Nat.reduceSub, List.append_nil, List.replicate_succ, List.replicate_zero]
      exact fin I2 3 f3 rfl
    · rw [if_pos q5] at fin
      refine c64 _ _ _ ?_
      simp only [b_X12_name_64, i_xorg, i_shl, i_shr, i_ior, i_and1, i_lcg1, i_lcg2, i_ld, i_la, i_st, i_sa, i_c, i_inc, i_add, i_sub, i_mul, i_div, i_rem, i_remT, i_xor, i_dup, i_dup2, i_if, i_if2, i_sw, i_gi, i_gr, i_pi, i_pz, i_ial, i_ias, i_len, i_aal, i_gs, i_tal, i_cv, i_cs, i_ir, i_zr, i_vr, i_min, i_max, i_cpy, List.getElem?_cons_zero, List.getElem?_cons_succ, List.set_cons_zero, List.set_cons_succ, List.length_cons, List.length_nil, List.drop_succ_cons, List.drop_zero, List.take_succ_cons, List.take_zero, List.reverse_cons, List.reverse_nil, List.nil_append, List.cons_append, Option.toList_some, Option.toList_none, true_and, and_true, true_or, or_true, Nat.reduceAdd, Nat.reduceLT, Nat.reduceLeDiff, Option.some.injEq, exists_eq_left', Int.toNat_natCast, Nat.reduceSub, List.append_nil, List.replicate_succ, List.replicate_zero]
      exact fin I2 2 f3 rfl
    · rw [if_neg q5, if_neg q4, if_neg q3] at fin
      refine c84 _ _ _ ?_
      simp only [b_X12_name_84, i_xorg, i_shl, i_shr, i_ior, i_and1, i_lcg1, i_lcg2, i_ld, i_la, i_st, i_sa, i_c, i_inc, i_add, i_sub, i_mul, i_div, i_rem, i_remT, i_xor, i_dup, i_dup2, i_if, i_if2, i_sw, i_gi, i_gr, i_pi, i_pz, i_ial, i_ias, i_len, i_aal, i_gs, i_tal, i_cv, i_cs, i_ir, i_zr, i_vr, i_min, i_max, i_cpy, List.getElem?_cons_zero, List.getElem?_cons_succ, List.set_cons_zero, List.set_cons_succ, List.length_cons, List.length_nil, List.drop_succ_cons, List.drop_zero, List.take_succ_cons, List.take_zero, List.reverse_cons, List.reverse_nil, List.nil_append, List.cons_append, Option.toList_some, Option.toList_none, true_and, and_true, true_or, or_true, Nat.reduceAdd, Nat.reduceLT, Nat.reduceLeDiff, Option.some.injEq, exists_eq_left', Int.toNat_natCast, Nat.reduceSub, List.append_nil, List.replicate_succ, List.replicate_zero]
      exact fin I2 6 f3 rfl
  · exact hT.elim
theorem sp_X12_name : mm_Sp yX12_name cX12_name 2 (some .int) rm_X12_name T_X12_name := mm_meth (by decide) (by
  intro av σ Post h
  unfold T_X12_name at h
  split at h
  · simp
  · exact h.elim) (fun p l e s m args below meth c G av σ Post hC hr _ hav hin hk hT => pv_X12_name av σ Post hav hin hk hT _ (bk_X12_name hC hr))
def ofZ (n : Nat) (pa wy nb : Nat → Int) (q z : Int) : Prop := (wellM n pa wy nb → (q = 3 → z = eulM n pa (room n pa wy).2.1 nb + 1000) ∧ (q = 4 → pcnt nb n (joi n pa wy nb) 0 z) ∧ (q = 5 → z = bdy n pa nb) ∧ (q = 6 → pcnt nb n (joi n pa wy nb) 1 z)) ∧ (¬ wellM n pa wy nb → z = -1)
theorem eulM_bb {n : Nat} {pa : Nat → Int} {Le : Nat → Nat} {nb : Nat → Int} (hn : n ≤ 3) (h : bd nb) : -200000 ≤ eulM n pa Le nb ∧ eulM n pa Le nb ≤ 200000 := by
  have h1 := sm_bd (f := nb) (c := 1000) (7 * n) (fun k hk => h k (by omega))
  have h2 := sm_bd (f := nb) (c := 1000) 21 (fun k hk => h k (by omega))
  have h3 := eul_bb (n := n) (pa := pa) (Le := Le) hn h
  unfold eul at h3
  unfold eulM
  omega
def T_X12_ofWell : mm_T := fun av σ Post => match av with
  | [.inr (some a), .inl s, .inl q] => σ.2 = mm_R0 ∧ a = 338 ∧ ∃ o n : Nat, s = o ∧ o ≤ 2888 ∧ 3 ≤ q ∧ q ≤ 6 ∧ gM σ.1 n ∧ b20 (MN σ.1 o) ∧ ∀ (I' : Nat → Nat → Int) (z : Int), (∀ b, b < 343 → I' b = σ.1 b) → ofZ n (MP σ.1) (MY σ.1) (MN σ.1 o) q z → Post (some (.inl z)) (I', mm_R0)
  | _ => False
def rm_X12_ofWell : Room := { frames := 5, cells := 0, slots := 0, locals := 128 }
def b_X12_ofWell_0 (Ok : Nat → mm_K) (Post : Option mm_V → mm_S → Prop) (kf : Nat) : mm_K := i_la 0 (i_ld 1 (i_cv 11 1 T_X12_isWell (i_if (fun x => ¬ x = 0) (i_ld 2 (i_sw Ok 59 [(3, 36), (4, 46), (5, 53)])) (i_c (-1) (i_ir Post kf)))))
def b_X12_ofWell_36 (Ok : Nat → mm_K) (Post : Option mm_V → mm_S → Prop) (kf : Nat) : mm_K := i_la 0 (i_ld 1 (i_cv 11 1 T_X12_euler (i_c 1000 (i_add (i_ir Post kf)))))
def b_X12_ofWell_46 (Ok : Nat → mm_K) (Post : Option mm_V → mm_S → Prop) (kf : Nat) : mm_K := i_la 0 (i_ld 1 (i_c 0 (i_cv 11 2 T_X12_parts (i_ir Post kf))))
def b_X12_ofWell_53 (Ok : Nat → mm_K) (Post : Option mm_V → mm_S → Prop) (kf : Nat) : mm_K := i_la 0 (i_ld 1 (i_cv 11 1 T_X12_border (i_ir Post kf)))
def b_X12_ofWell_59 (Ok : Nat → mm_K) (Post : Option mm_V → mm_S → Prop) (kf : Nat) : mm_K := i_la 0 (i_ld 1 (i_c 1 (i_cv 11 2 T_X12_parts (i_ir Post kf))))
def clo_X12_ofWell (Ok : Nat → mm_K) (Post : Option mm_V → mm_S → Prop) (kf : Nat) : Prop := mm_imp (b_X12_ofWell_0 Ok Post kf) (Ok 0) ∧ mm_imp (b_X12_ofWell_36 Ok Post kf) (Ok 36) ∧ mm_imp (b_X12_ofWell_46 Ok Post kf) (Ok 46) ∧ mm_imp (b_X12_ofWell_53 Ok Post kf) (Ok 53) ∧ mm_imp (b_X12_ofWell_59 Ok Post kf) (Ok 59)
set_option maxRecDepth 100000 in
set_option maxHeartbeats 4000000 in
theorem bk_X12_ofWell {p : Program} {l : Launch} {e : Env} {s : State} {m : MethodId} {args : Array Value} {below : List Frame} {meth : Method} {c : Code} {G : mm_G} {σ0 : mm_S} {Post : Option mm_V → mm_S → Prop} (hC : mm_C p G s m args meth c cX12_ofWell yX12_ofWell.cls) (hr : meth.sig.returnType = some .int) : clo_X12_ofWell (mm_O p l e rm_X12_ofWell s m args below meth c G σ0.2.2 (MQ below (mm_Qc G σ0 rm_X12_ofWell.cells rm_X12_ofWell.slots Post) args s rm_X12_ofWell.cells rm_X12_ofWell.slots (mm_A G))) Post σ0.2.2 := ⟨(by unfold b_X12_ofWell_0; exact (mm_la_n hC dX12_ofWell_0 rfl (mm_ld_n hC dX12_ofWell_1 rfl (mm_cv hC sp_X12_isWell ⟨rfl, rfl⟩ cl_11 wd_982 wd_984 wd_49 wd_985 wd_77 ⟨by decide, by decide, by decide +kernel⟩ ⟨by decide, by decide⟩ dX12_ofWell_2 (mm_if_ne hC (t := 10) dX12_ofWell_5 (by decide) (mm_ld_n hC dX12_ofWell_10 rfl (mm_tsw hC dX12_ofWell_11 rfl (by decide) (by decide) (by decide))) (mm_ic hC dX12_ofWell_8 ⟨by decide, by decide⟩ (mm_ir hC ⟨rfl, rfl⟩ hr dX12_ofWell_9))))))), (by unfold b_X12_ofWell_36; exact (mm_la_n hC dX12_ofWell_36 rfl (mm_ld_n hC dX12_ofWell_37 rfl (mm_cv hC sp_X12_euler ⟨rfl, rfl⟩ cl_11 wd_938 wd_940 wd_41 wd_941 wd_77 ⟨by decide, by decide, by decide +kernel⟩ ⟨by decide, by decide⟩ dX12_ofWell_38 (mm_sp hC dX12_ofWell_41 ⟨⟨by decide, by decide⟩, by decide⟩ (mm_add hC dX12_ofWell_44 (mm_ir hC ⟨rfl, rfl⟩ hr dX12_ofWell_45))))))), (by unfold b_X12_ofWell_46; exact (mm_la_n hC dX12_ofWell_46 rfl (mm_ld_n hC dX12_ofWell_47 rfl (mm_ic hC dX12_ofWell_48 ⟨by decide, by decide⟩ (mm_cv hC sp_X12_parts ⟨rfl, rfl⟩ cl_11 wd_901 wd_903 wd_34 wd_904 wd_77 ⟨by decide, by decide, by decide +kernel⟩ ⟨by decide, by decide⟩ dX12_ofWell_49 (mm_ir hC ⟨rfl, rfl⟩ hr dX12_ofWell_52)))))), (by unfold b_X12_ofWell_53; exact (mm_la_n hC dX12_ofWell_53 rfl (mm_ld_n hC dX12_ofWell_54 rfl (mm_cv hC sp_X12_border ⟨rfl, rfl⟩ cl_11 wd_960 wd_962 wd_45 wd_963 wd_77 ⟨by decide, by decide, by decide +kernel⟩ ⟨by decide, by decide⟩ dX12_ofWell_55 (mm_ir hC ⟨rfl, rfl⟩ hr dX12_ofWell_58))))), (by unfold b_X12_ofWell_59; exact (mm_la_n hC dX12_ofWell_59 rfl (mm_ld_n hC dX12_ofWell_60 rfl (mm_ic hC dX12_ofWell_61 ⟨by decide, by decide⟩ (mm_cv hC sp_X12_parts ⟨rfl, rfl⟩ cl_11 wd_901 wd_903 wd_34 wd_904 wd_77 ⟨by decide, by decide, by decide +kernel⟩ ⟨by decide, by decide⟩ dX12_ofWell_62 (mm_ir hC ⟨rfl, rfl⟩ hr dX12_ofWell_65))))))⟩
set_option maxRecDepth 100000 in
set_option maxHeartbeats 8000000 in
theorem pv_X12_ofWell : ∀ (av : List mm_V) (σ : mm_S) (Post : Option mm_V → mm_S → Prop), (∀ v ∈ av, mm_iv v) → (∀ a j, mm_in (σ.1 a j)) → σ.2.2 ≤ 348 → T_X12_ofWell av σ Post → ∀ Ok : Nat → mm_K, clo_X12_ofWell Ok Post σ.2.2 → Ok 0 (av ++ List.replicate (3 - av.length) (.inr none)) [] σ := by
  intro av σ Post hav hin hk hT Ok hcl
  obtain ⟨I, R0⟩ := σ
  unfold T_X12_ofWell at hT
  split at hT
  · rename_i a s q
    obtain ⟨h0, hT⟩ := hT
    have h0 : R0 = mm_R0 := h0
    subst h0
    dsimp only at hT hin
    obtain ⟨c0, c36, c46, c53, c59⟩ := hcl
    obtain ⟨rfl, o, n, rfl, ho, hq3, hq6, hgm, hb, hP⟩ := hT
    have w0 := m0
    have hn3 := hgm.2.2.1
    have eb := eulM_bb (n := n) (pa := MP I) (Le := (room n (MP I) (MY I)).2.1) hn3 (b20_bd hb)
    refine c0 _ _ _ ?_
    simp only [b_X12_ofWell_0, i_xorg, i_shl, i_shr, i_ior, i_and1, i_lcg1, i_lcg2, i_ld, i_la, i_st, i_sa, i_c, i_inc, i_add, i_sub, i_mul, i_div, i_rem, i_remT, i_xor, i_dup, i_dup2, i_if, i_if2, i_sw, i_gi, i_gr, i_pi, i_pz, i_ial, i_ias, i_len, i_aal, i_gs, i_tal, i_cv, i_cs, i_ir, i_zr, i_vr, i_min, i_max, i_cpy, List.getElem?_cons_zero, List.getElem?_cons_succ, List.set_cons_zero, List.set_cons_succ, List.length_cons, List.length_nil, List.drop_succ_cons, List.drop_zero, List.take_succ_cons, List.take_zero, List.reverse_cons, List.reverse_nil, List.nil_append, List.cons_append, Option.toList_some, Option.toList_none, true_and, and_true, true_or, or_true, Nat.reduceAdd, Nat.reduceLT, Nat.reduceLeDiff, Option.some.injEq, exists_eq_left', Int.toNat_natCast, Nat.reduceSub, List.append_nil, List.replicate_succ, List.replicate_zero, mm_in, w0, T_X12_isWell]
    refine ⟨o, n, rfl, ho, hgm, b20_bd hb, fun z hz => ⟨fun y => ?_, fun y => hP I _ (fun _ _ => rfl) ⟨fun w => absurd w (bz_f hz (by omega)), fun _ => rfl⟩⟩⟩
    have hw : wellM n (MP I) (MY I) (MN I o) := bz_t hz y
    refine ⟨fun q1 => ?_, fun q1 => ⟨fun q2 => ?_, fun q2 => ⟨fun q3 => ?_, fun q3 => ?_⟩⟩⟩
    · refine c36 _ _ _ ?_
      simp only [b_X12_ofWell_36, i_xorg, i_shl, i_shr, i_ior, i_and1, i_lcg1, i_lcg2, i_ld, i_la, i_st, i_sa, i_c, i_inc, i_add, i_sub, i_mul, i_div, i_rem, i_remT, i_xor, i_dup, i_dup2, i_if, i_if2, i_sw, i_gi, i_gr, i_pi, i_pz, i_ial, i_ias, i_len, i_aal, i_gs, i_tal, i_cv, i_cs, i_ir, i_zr, i_vr, i_min, i_max, i_cpy, List.getElem?_cons_zero, List.getElem?_cons_succ, List.set_cons_zero, List.set_cons_succ, List.length_cons, List.length_nil, List.drop_succ_cons, List.drop_zero, List.take_succ_cons, List.take_zero, List.reverse_cons, List.reverse_nil, List.nil_append, List.cons_append, Option.toList_some, Option.toList_none, true_and, and_true, true_or, or_true, Nat.reduceAdd, Nat.reduceLT, Nat.reduceLeDiff, Option.some.injEq, exists_eq_left', Int.toNat_natCast, Nat.reduceSub, List.append_nil, List.replicate_succ, List.replicate_zero, mm_in, w0, T_X12_euler]
      refine ⟨o, n, rfl, ho, hgm, b20_bd hb, fun I2 f2 ag2 => ⟨⟨by omega, by omega⟩, hP I2 _ (fun b hb => f2 b (by omega)) ⟨fun _ => ⟨fun _ => rfl, fun w => by omega, fun w => by omega, fun w => by omega⟩, fun w => absurd hw w⟩⟩⟩
    · refine c46 _ _ _ ?_
      simp only [b_X12_ofWell_46, i_xorg, i_shl, i_shr, i_ior, i_and1, i_lcg1, i_lcg2, i_ld, i_la, i_st, i_sa, i_c, i_inc, i_add, i_sub, i_mul, i_div, i_rem, i_remT, i_xor, i_dup, i_dup2, i_if, i_if2, i_sw, i_gi, i_gr, i_pi, i_pz, i_ial, i_ias, i_len, i_aal, i_gs, i_tal, i_cv, i_cs, i_ir, i_zr, i_vr, i_min, i_max, i_cpy, List.getElem?_cons_zero, List.getElem?_cons_succ, List.set_cons_zero, List.set_cons_succ, List.length_cons, List.length_nil, List.drop_succ_cons, List.drop_zero, List.take_succ_cons, List.take_zero, List.reverse_cons, List.reverse_nil, List.nil_append, List.cons_append, Option.toList_some, Option.toList_none, true_and, and_true, true_or, or_true, Nat.reduceAdd, Nat.reduceLT, Nat.reduceLeDiff, Option.some.injEq, exists_eq_left', Int.toNat_natCast, Nat.reduceSub, List.append_nil, List.replicate_succ, List.replicate_zero, mm_in, w0, T_X12_parts]
      refine ⟨o, n, rfl, ho, hgm, hb, hw.2, fun I1 C f1 hC hC2 => hP I1 _ (fun b hb => f1 b (by omega)) ⟨fun _ => ⟨fun w => by omega, fun _ => hC, fun w => by omega, fun w => by omega⟩, fun w => absurd hw w⟩⟩
    · refine c53 _ _ _ ?_
      simp only [b_X12_ofWell_53, i_xorg, i_shl, i_shr, i_ior, i_and1, i_lcg1, i_lcg2, i_ld, i_la, i_st, i_sa, i_c, i_inc, i_add, i_sub, i_mul, i_div, i_rem, i_remT, i_xor, i_dup, i_dup2, i_if, i_if2, i_sw, i_gi, i_gr, i_pi, i_pz, i_ial, i_ias, i_len, i_aal, i_gs, i_tal, i_cv, i_cs, i_ir, i_zr, i_vr, i_min, i_max, i_cpy, List.getElem?_cons_zero, List.getElem?_cons_succ, List.set_cons_zero, List.set_cons_succ, List.length_cons, List.length_nil, List.drop_succ_cons, List.drop_zero, List.take_succ_cons, List.take_zero, List.reverse_cons, List.reverse_nil, List.nil_append, List.cons_append, Option.toList_some, Option.toList_none, true_and, and_true, true_or, or_true, Nat.reduceAdd, Nat.reduceLT, Nat.reduceLeDiff, Option.some.injEq, exists_eq_left', Int.toNat_natCast, Nat.reduceSub, List.append_nil, List.replicate_succ, List.replicate_zero, mm_in, w0, T_X12_border]
      refine ⟨o, n, rfl, ho, hgm.1, hn3, b20_bd hb, fun j hj => by rcases hgm.2.2.2 j hj with e | e <;> omega, hP I _ (fun _ _ => rfl) ⟨fun _ => ⟨fun w => by omega, fun w => by omega, fun _ => rfl, fun w => by omega⟩, fun w => absurd hw w⟩⟩
    · refine c59 _ _ _ ?_
      simp only [b_X12_ofWell_59, i_xorg, i_shl, i_shr, i_ior, i_and1, i_lcg1, i_lcg2, i_ld, i_la, i_st, i_sa, i_c, i_inc, i_add, i_sub, i_mul, i_div, i_rem, i_remT, i_xor, i_dup, i_dup2, i_if, i_if2, i_sw, i_gi, i_gr, i_pi, i_pz, i_ial, i_ias, i_len, i_aal, i_gs, i_tal, i_cv, i_cs, i_ir, i_zr, i_vr, i_min, i_max, i_cpy, List.getElem?_cons_zero, List.getElem?_cons_succ, List.set_cons_zero, List.set_cons_succ, List.length_cons, List.length_nil, List.drop_succ_cons, List.drop_zero, List.take_succ_cons, List.take_zero, List.reverse_cons, List.reverse_nil, List.nil_append, List.cons_append, Option.toList_some, Option.toList_none, true_and, and_true, true_or, or_true, Nat.reduceAdd, Nat.reduceLT, Nat.reduceLeDiff, Option.some.injEq, exists_eq_left', Int.toNat_natCast, Nat.reduceSub, List.append_nil, List.replicate_succ, List.replicate_zero, mm_in, w0, T_X12_parts]
      refine ⟨o, n, rfl, ho, hgm, hb, hw.2, fun I1 C f1 hC hC2 => hP I1 _ (fun b hb => f1 b (by omega)) ⟨fun _ => ⟨fun w => by omega, fun w => by omega, fun w => by omega, fun _ => hC⟩, fun w => absurd hw w⟩⟩
  · exact hT.elim
theorem sp_X12_ofWell : mm_Sp yX12_ofWell cX12_ofWell 3 (some .int) rm_X12_ofWell T_X12_ofWell := mm_meth (by decide) (by
  intro av σ Post h
  unfold T_X12_ofWell at h
  split at h
  · simp
  · exact h.elim) (fun p l e s m args below meth c G av σ Post hC hr _ hav hin hk hT => pv_X12_ofWell av σ Post hav hin hk hT _ (bk_X12_ofWell hC hr))
/-- meeting reads only the pieces of the bodies that are there -/
theorem mtA_7n {n : Nat} {pa wy p q : Nat → Int} (hn : n ≤ 3) (hg : gok n pa wy) (h : ∀ i, i < 7 * n → p i = q i) {m v0 : Nat} (hm : mtA n pa wy p m v0) : mtA n pa wy q m v0 := by
  intro f v h1 h2 h3 h4 h5
  have := hm f v h1 h2 h3 h4 h5
  obtain ⟨q1, q2, q3, q4, q5, q6, q7, q8⟩ : f < 4 * n ∧ 0 ≤ pa f ∧ pa f < 4 * n ∧ pa f ≠ f ∧ pa (pa f).toNat = f ∧ 0 ≤ wy f ∧ wy f < 6 ∧ wy (pa f).toNat = mm_tb 1 (wy f).toNat := by
    rcases hg f (by omega) with e | e
    · exact absurd e h4
    · exact e
  have av := acN_b (o := (pa f).toNat) (k := (wy f).toNat) (f := f) (v := v) (by omega) (by omega) (by omega) h5
  have e1 := (tg_tab v h3 (f % 4) (by omega) h5).2
  have e2 := (tg_tab (acN (pa f).toNat (wy f).toNat f v % 4) (by omega) ((pa f).toNat % 4) (by omega) (by omega)).2
  unfold mc ac at this ⊢
  rw [← h _ (by omega), ← h _ (by omega), ← h _ (by omega), ← h _ (by omega)]
  exact this
def splN (n : Nat) (pa wy nb : Nat → Int) (i : Nat) : Prop := mtA n pa wy (fun k => (dg nb i k : Int)) (4 * n) 0
def splZ (n : Nat) (pa wy nb : Nat → Int) (z : Int) : Prop := (wellM n pa wy nb → (6000 < cp nb (7 * n) ∧ z = -1 ∨ cp nb (7 * n) ≤ 6000 ∧ bz z (∃ i : Nat, 1 ≤ i ∧ (i : Int) + 1 < cp nb (7 * n) ∧ splN n pa wy nb i))) ∧ (¬ wellM n pa wy nb → z = -1)
def T_X12_split : mm_T := fun av σ Post => match av with
  | [.inr (some a), .inl s] => σ.2 = mm_R0 ∧ a = 338 ∧ ∃ o n : Nat, s = o ∧ 26 ≤ o ∧ o + 21 ≤ 2888 ∧ gM σ.1 n ∧ b20 (MN σ.1 o) ∧ bd (MN σ.1 2888) ∧ ∀ (I' : Nat → Nat → Int) (z : Int), scM I' σ.1 → splZ n (MP σ.1) (MY σ.1) (MN σ.1 o) z → Post (some (.inl z)) (I', mm_R0)
  | _ => False
def rm_X12_split : Room := { frames := 4, cells := 0, slots := 0, locals := 93 }
def b_X12_split_0 (Ok : Nat → mm_K) (Post : Option mm_V → mm_S → Prop) (kf : Nat) : mm_K := i_la 0 (i_ld 1 (i_cv 11 1 T_X12_isWell (i_if (fun x => ¬ x = 0) (i_c 1 (i_st 2 (i_c 0 (i_st 3 (Ok 14))))) (i_c (-1) (i_ir Post kf)))))
def b_X12_split_14 (Ok : Nat → mm_K) (Post : Option mm_V → mm_S → Prop) (kf : Nat) : mm_K := i_ld 3 (i_c 7 (i_la 0 (i_gr 11 0 (i_c 0 (i_ial (i_mul (i_if2 (fun x y => y ≤ x) (i_ld 2 (i_c 6000 (i_if2 (fun x y => x ≤ y) (i_c 1 (i_st 3 (Ok 68))) (i_c (-1) (i_ir Post kf))))) (i_ld 2 (i_c 6000 (i_if2 (fun x y => x ≤ y) (i_ld 2 (i_la 0 (i_gr 11 0 (i_ld 1 (i_ld 3 (i_add (i_ial (i_c 1 (i_add (i_mul (Ok 50))))))))))) (i_ld 2 (Ok 50))))))))))))
def b_X12_split_50 (Ok : Nat → mm_K) (Post : Option mm_V → mm_S → Prop) (kf : Nat) : mm_K := i_st 2 (i_inc 3 1 (Ok 14))
def b_X12_split_68 (Ok : Nat → mm_K) (Post : Option mm_V → mm_S → Prop) (kf : Nat) : mm_K := i_ld 3 (i_ld 2 (i_c 1 (i_sub (i_if2 (fun x y => y ≤ x) (i_c 0 (i_ir Post kf)) (i_ld 3 (i_st 4 (i_c 0 (i_st 5 (Ok 81)))))))))
def b_X12_split_81 (Ok : Nat → mm_K) (Post : Option mm_V → mm_S → Prop) (kf : Nat) : mm_K := i_ld 5 (i_c 7 (i_la 0 (i_gr 11 0 (i_c 0 (i_ial (i_mul (i_if2 (fun x y => y ≤ x) (i_la 0 (i_c 2888 (i_cv 11 1 T_X12_meets (i_if (fun x => x = 0) (i_inc 3 1 (Ok 68)) (i_c 1 (i_ir Post kf)))))) (i_la 0 (i_gr 11 0 (i_c 2888 (i_ld 5 (i_add (i_ld 4 (i_la 0 (i_gr 11 0 (i_ld 1 (i_ld 5 (i_add (i_ial (i_c 1 (i_add (i_rem (i_ias (i_ld 4 (i_la 0 (i_gr 11 0 (i_ld 1 (i_ld 5 (i_add (i_ial (i_c 1 (i_add (i_div (i_st 4 (i_inc 5 1 (Ok 81))))))))))))))))))))))))))))))))))))
def clo_X12_split (Ok : Nat → mm_K) (Post : Option mm_V → mm_S → Prop) (kf : Nat) : Prop := mm_imp (b_X12_split_0 Ok Post kf) (Ok 0) ∧ mm_imp (b_X12_split_14 Ok Post kf) (Ok 14) ∧ mm_imp (b_X12_split_50 Ok Post kf) (Ok 50) ∧ mm_imp (b_X12_split_68 Ok Post kf) (Ok 68) ∧ mm_imp (b_X12_split_81 Ok Post kf) (Ok 81)
set_option maxRecDepth 100000 in
set_option maxHeartbeats 4000000 in
theorem bk_X12_split {p : Program} {l : Launch} {e : Env} {s : State} {m : MethodId} {args : Array Value} {below : List Frame} {meth : Method} {c : Code} {G : mm_G} {σ0 : mm_S} {Post : Option mm_V → mm_S → Prop} (hC : mm_C p G s m args meth c cX12_split yX12_split.cls) (hr : meth.sig.returnType = some .int) : clo_X12_split (mm_O p l e rm_X12_split s m args below meth c G σ0.2.2 (MQ below (mm_Qc G σ0 rm_X12_split.cells rm_X12_split.slots Post) args s rm_X12_split.cells rm_X12_split.slots (mm_A G))) Post σ0.2.2 := ⟨(by unfold b_X12_split_0; exact (mm_la_n hC dX12_split_0 rfl (mm_ld_n hC dX12_split_1 rfl (mm_cv hC sp_X12_isWell ⟨rfl, rfl⟩ cl_11 wd_982 wd_984 wd_49 wd_985 wd_77 ⟨by decide, by decide, by decide +kernel⟩ ⟨by decide, by decide⟩ dX12_split_2 (mm_if_ne hC (t := 10) dX12_split_5 (by decide) (mm_ic hC dX12_split_10 ⟨by decide, by decide⟩ (mm_st_n hC dX12_split_11 rfl (mm_ic hC dX12_split_12 ⟨by decide, by decide⟩ (mm_st_n hC dX12_split_13 rfl (fun _ _ _ h => h))))) (mm_ic hC dX12_split_8 ⟨by decide, by decide⟩ (mm_ir hC ⟨rfl, rfl⟩ hr dX12_split_9))))))), (by unfold b_X12_split_14; exact (mm_ld_n hC dX12_split_14 rfl (mm_bp hC dX12_split_15 ⟨⟨by decide, by decide⟩, by decide⟩ (mm_la_n hC dX12_split_17 rfl (mm_gr hC cl_11 (by decide) rfl wd_789 dX12_split_18 (mm_ic hC dX12_split_21 ⟨by decide, by decide⟩ (mm_ial hC dX12_split_22 (mm_mul hC dX12_split_23 (mm_ic_ge hC (t := 57) dX12_split_24 (by decide) (mm_ld_n hC dX12_split_57 rfl (mm_sp hC dX12_split_58 ⟨⟨by decide, by decide⟩, by decide⟩ (mm_ic_le hC (t := 66) dX12_split_61 (by decide) (mm_ic hC dX12_split_66 ⟨by decide, by decide⟩ (mm_st_n hC dX12_split_67 rfl (fun _ _ _ h => h))) (mm_ic hC dX12_split_64 ⟨by decide, by decide⟩ (mm_ir hC ⟨rfl, rfl⟩ hr dX12_split_65))))) (mm_ld_n hC dX12_split_27 rfl (mm_sp hC dX12_split_28 ⟨⟨by decide, by decide⟩, by decide⟩ (mm_ic_le hC (t := 38) dX12_split_31 (by decide) (mm_ld_n hC dX12_split_38 rfl (mm_la_n hC dX12_split_39 rfl (mm_gr hC cl_11 (by decide) rfl wd_789 dX12_split_40 (mm_ld_n hC dX12_split_43 rfl (mm_ld_n hC dX12_split_44 rfl (mm_add hC dX12_split_45 (mm_ial hC dX12_split_46 (mm_ic hC dX12_split_47 ⟨by decide, by decide⟩ (mm_add hC dX12_split_48 (mm_mul hC dX12_split_49 (fun _ _ _ h => h))))))))))) (mm_ld_n hC dX12_split_34 rfl (mm_goto hC (t := 50) dX12_split_35 (by decide) (fun _ _ _ h => h))))))))))))))), (by unfold b_X12_split_50; exact (mm_st_n hC dX12_split_50 rfl (mm_inc hC dX12_split_51 (mm_goto hC (t := 14) dX12_split_54 (by decide) (fun _ _ _ h => h))))), (by unfold b_X12_split_68; exact (mm_ld_n hC dX12_split_68 rfl (mm_ld_n hC dX12_split_69 rfl (mm_ic hC dX12_split_70 ⟨by decide, by decide⟩ (mm_sub hC dX12_split_71 (mm_ic_ge hC (t := 160) dX12_split_72 (by decide) (mm_ic hC dX12_split_160 ⟨by decide, by decide⟩ (mm_ir hC ⟨rfl, rfl⟩ hr dX12_split_161)) (mm_ld_n hC dX12_split_75 rfl (mm_st hC dX12_split_76 (mm_ic hC dX12_split_78 ⟨by decide, by decide⟩ (mm_st hC dX12_split_79 (fun _ _ _ h => h))))))))))), (by unfold b_X12_split_81; exact (mm_ld hC dX12_split_81 (mm_bp hC dX12_split_83 ⟨⟨by decide, by decide⟩, by decide⟩ (mm_la_n hC dX12_split_85 rfl (mm_gr hC cl_11 (by decide) rfl wd_789 dX12_split_86 (mm_ic hC dX12_split_89 ⟨by decide, by decide⟩ (mm_ial hC dX12_split_90 (mm_mul hC dX12_split_91 (mm_ic_ge hC (t := 142) dX12_split_92 (by decide) (mm_la_n hC dX12_split_142 rfl (mm_sp hC dX12_split_143 ⟨⟨by decide, by decide⟩, by decide⟩ (mm_cv hC sp_X12_meets ⟨rfl, rfl⟩ cl_11 wd_986 wd_988 wd_50 wd_989 wd_77 ⟨by decide, by decide, by decide +kernel⟩ ⟨by decide, by decide⟩ dX12_split_146 (mm_if_eq hC (t := 154) dX12_split_149 (by decide) (mm_inc hC dX12_split_154 (mm_goto hC (t := 68) dX12_split_157 (by decide) (fun _ _ _ h => h))) (mm_ic hC dX12_split_152 ⟨by decide, by decide⟩ (mm_ir hC ⟨rfl, rfl⟩ hr dX12_split_153)))))) (mm_la_n hC dX12_split_95 rfl (mm_gr hC cl_11 (by decide) rfl wd_789 dX12_split_96 (mm_sp hC dX12_split_99 ⟨⟨by decide, by decide⟩, by decide⟩ (mm_ld hC dX12_split_102 (mm_add hC dX12_split_104 (mm_ld hC dX12_split_105 (mm_la_n hC dX12_split_107 rfl (mm_gr hC cl_11 (by decide) rfl wd_789 dX12_split_108 (mm_ld_n hC dX12_split_111 rfl (mm_ld hC dX12_split_112 (mm_add hC dX12_split_114 (mm_ial hC dX12_split_115 (mm_ic hC dX12_split_116 ⟨by decide, by decide⟩ (mm_add hC dX12_split_117 (mm_rem hC dX12_split_118 (mm_ias hC dX12_split_119 (mm_ld hC dX12_split_120 (mm_la_n hC dX12_split_122 rfl (mm_gr hC cl_11 (by decide) rfl wd_789 dX12_split_123 (mm_ld_n hC dX12_split_126 rfl (mm_ld hC dX12_split_127 (mm_add hC dX12_split_129 (mm_ial hC dX12_split_130 (mm_ic hC dX12_split_131 ⟨by decide, by decide⟩ (mm_add hC dX12_split_132 (mm_div hC dX12_split_133 (mm_st hC dX12_split_134 (mm_inc hC dX12_split_136 (mm_goto hC (t := 81) dX12_split_139 (by decide) (fun _ _ _ h => h)))))))))))))))))))))))))))))))))))))))⟩
set_option maxRecDepth 100000 in
set_option maxHeartbeats 8000000 in
theorem pv_X12_split : ∀ (av : List mm_V) (σ : mm_S) (Post : Option mm_V → mm_S → Prop), (∀ v ∈ av, mm_iv v) → (∀ a j, mm_in (σ.1 a j)) → σ.2.2 ≤ 348 → T_X12_split av σ Post → ∀ Ok : Nat → mm_K, clo_X12_split Ok Post σ.2.2 → Ok 0 (av ++ List.replicate (6 - av.length) (.inr none)) [] σ := by
  intro av σ Post hav hin hk hT Ok hcl
  obtain ⟨I, R0⟩ := σ
  unfold T_X12_split at hT
  split at hT
  · rename_i a s
    obtain ⟨h0, hT⟩ := hT
    have h0 : R0 = mm_R0 := h0
    subst h0
    dsimp only at hT hin
    obtain ⟨c0, c14, c50, c68, c81⟩ := hcl
    obtain ⟨rfl, o, n, rfl, ho, ho2, hgm, hb, hbt, hP⟩ := hT
    have w0 := m0
    have w1 := m1
    have w2 := m2
    have hn := hgm.1
    have hn3 := hgm.2.2.1
    have hg := hgm.2.2.2
    obtain ⟨nb, hnb⟩ : ∃ nb, MN I o = nb := ⟨_, rfl⟩
    have enb : ∀ i, I 339 (o + i) = nb i := fun i => by rw [← hnb]; rfl
    rw [hnb] at hb hP
    refine c0 _ _ _ ?_
    simp only [b_X12_split_0, i_xorg, i_shl, i_shr, i_ior, i_and1, i_lcg1, i_lcg2, i_ld, i_la, i_st, i_sa, i_c, i_inc, i_add, i_sub, i_mul, i_div, i_rem, i_remT, i_xor, i_dup, i_dup2, i_if, i_if2, i_sw, i_gi, i_gr, i_pi, i_pz, i_ial, i_ias, i_len, i_aal, i_gs, i_tal, i_cv, i_cs, i_ir, i_zr, i_vr, i_min, i_max, i_cpy, List.getElem?_cons_zero, List.getElem?_cons_succ, List.set_cons_zero, List.set_cons_succ, List.length_cons, List.length_nil, List.drop_succ_cons, List.drop_zero, List.take_succ_cons, List.take_zero, List.reverse_cons, List.reverse_nil, List.nil_append, List.cons_append, Option.toList_some, Option.toList_none, true_and, and_true, true_or, or_true, Nat.reduceAdd, Nat.reduceLT, Nat.reduceLeDiff, Option.some.injEq, exists_eq_left', Int.toNat_natCast, Nat.reduceSub, List.append_nil, List.replicate_succ, List.replicate_zero, mm_in, w0, T_X12_isWell]
    refine ⟨o, n, rfl, by omega, hgm, by rw [hnb]; exact b20_bd hb, fun z hz => ⟨fun y => ?_, fun y => hP I _ (scM_rf I) ⟨fun w => absurd w (by rw [← hnb]; exact bz_f hz (by omega)), fun _ => rfl⟩⟩⟩
    have hw : wellM n (MP I) (MY I) nb := by rw [← hnb]; exact bz_t hz y
    obtain ⟨P, hP6⟩ : ∃ P, cp nb (7 * n) = P := ⟨_, rfl⟩
    have hPb := cp_b hb (show 7 * n ≤ 21 by omega)
    rw [hP6] at hPb
    have fin : ∀ (I1 : Nat → Nat → Int) (z : Int), scM I1 I → (6000 < P ∧ z = -1 ∨ P ≤ 6000 ∧ bz z (∃ i : Nat, 1 ≤ i ∧ (i : Int) + 1 < P ∧ splN n (MP I) (MY I) nb i)) → Post (some (.inl z)) (I1, mm_R0) := fun I1 z h1 h2 => hP I1 z h1 ⟨fun _ => by rw [hP6]; exact h2, fun w => absurd hw w⟩
    have find : P ≤ 6000 → ∀ (d i : Nat) (I1 : Nat → Nat → Int), (i : Int) + d + 1 = P ∨ (P = 1 ∧ d = 0 ∧ i = 1) → 1 ≤ i → scM I1 I → (∀ j, 1 ≤ j → j < i → ¬ splN n (MP I) (MY I) nb j) → ∀ u4 u5 : mm_V, Ok 68 [.inr (some 338), .inl (o : Int), .inl P, .inl (i : Int), u4, u5] [] (I1, mm_R0) := by
      intro hP60 d
      induction d with
      | zero =>
        intro i I1 hd hi1 s1 hno u4 u5
        refine c68 _ _ _ ?_
        simp only [b_X12_split_68, i_xorg, i_shl, i_shr, i_ior, i_and1, i_lcg1, i_lcg2, i_ld, i_la, i_st, i_sa, i_c, i_inc, i_add, i_sub, i_mul, i_div, i_rem, i_remT, i_xor, i_dup, i_dup2, i_if, i_if2, i_sw, i_gi, i_gr, i_pi, i_pz, i_ial, i_ias, i_len, i_aal, i_gs, i_tal, i_cv, i_cs, i_ir, i_zr, i_vr, i_min, i_max, i_cpy, List.getElem?_cons_zero, List.getElem?_cons_succ, List.set_cons_zero, List.set_cons_succ, List.length_cons, List.length_nil, List.drop_succ_cons, List.drop_zero, List.take_succ_cons, List.take_zero, List.reverse_cons, List.reverse_nil, List.nil_append, List.cons_append, Option.toList_some, Option.toList_none, true_and, and_true, true_or, or_true, Nat.reduceAdd, Nat.reduceLT, Nat.reduceLeDiff, Option.some.injEq, exists_eq_left', Int.toNat_natCast, Nat.reduceSub, List.append_nil, List.replicate_succ, List.replicate_zero, mm_in,]
        refine ⟨⟨by omega, by omega⟩, fun _ => fin I1 0 s1 (Or.inr ⟨hP60, bz_0 ?_⟩), fun q => by omega⟩
        rintro ⟨j, j1, j2, j3⟩
        exact hno j j1 (by omega) j3
      | succ d ih =>
        intro i I1 hd hi1 s1 hno u4 u5
        have dig : ∀ (e k x : Nat) (I2 : Nat → Nat → Int), k + e = 7 * n → x = i / wp nb k → scM I2 I → (∀ j, j < k → I2 339 (2888 + j) = (dg nb i j : Int)) → Ok 81 [.inr (some 338), .inl (o : Int), .inl P, .inl (i : Int), .inl (x : Int), .inl (k : Int)] [] (I2, mm_R0) := by
          intro e
          induction e with
          | zero =>
            intro k x I2 he hx s2 hdg
            obtain ⟨gm2, a2⟩ := gM_sc hgm s2
            refine c81 _ _ _ ?_
            simp only [b_X12_split_81, i_xorg, i_shl, i_shr, i_ior, i_and1, i_lcg1, i_lcg2, i_ld, i_la, i_st, i_sa, i_c, i_inc, i_add, i_sub, i_mul, i_div, i_rem, i_remT, i_xor, i_dup, i_dup2, i_if, i_if2, i_sw, i_gi, i_gr, i_pi, i_pz, i_ial, i_ias, i_len, i_aal, i_gs, i_tal, i_cv, i_cs, i_ir, i_zr, i_vr, i_min, i_max, i_cpy, List.getElem?_cons_zero, List.getElem?_cons_succ, List.set_cons_zero, List.set_cons_succ, List.length_cons, List.length_nil, List.drop_succ_cons, List.drop_zero, List.take_succ_cons, List.take_zero, List.reverse_cons, List.reverse_nil, List.nil_append, List.cons_append, Option.toList_some, Option.toList_none, true_and, and_true, true_or, or_true, Nat.reduceAdd, Nat.reduceLT, Nat.reduceLeDiff, Option.some.injEq, exists_eq_left', Int.toNat_natCast, Nat.reduceSub, List.append_nil, List.replicate_succ, List.replicate_zero, mm_in, w0, w1, w2, t0, T_X12_meets]
            rw [gm2.1]
            repeat' first | refine And.intro ?_ ?_ | refine fun (_ : _ ≤ _ ∧ _ < _) => ?_
            all_goals try omega
            intro q
            have hk : k = 7 * n := by omega
            refine ⟨2888, n, rfl, by omega, ⟨gm2.1, gm2.2⟩, s2.2.2 hbt, fun z hz => ⟨fun r => ?_, fun r => fin I2 1 s2 (Or.inr ⟨hP60, bz_1 ⟨i, hi1, by omega, ?_⟩⟩)⟩⟩
            · have := ih (i + 1) I2 (by omega) (by omega) s2 (fun j j1 j2 w => ?_) (.inl (x : Int)) (.inl (k : Int))
              · rw [Int.natCast_add] at this
                exact ⟨⟨by omega, by omega⟩, this⟩
              · by_cases c : j = i
                · subst c
                  refine bz_f hz r ?_
                  have h1 : mtA n (MP I2) (MY I2) (fun k => (dg nb j k : Int)) (4 * n) 0 := by
                    intro f v y1 y2 y3 y4 y5
                    have hf : ¬ MP I f = -1 := by rw [a2.1 f (by omega)]; exact y4
                    have := w f v y1 y2 y3 hf y5
                    unfold mc at this ⊢
                    rw [← a2.1 f (by omega), ← a2.2 f (by omega) (by rcases hg f (by omega) with e | e <;> omega)]
                    exact this
                  exact mtA_7n hn3 gm2.2.2.2 (fun i hi => (hdg i (by omega)).symm) h1
                · exact hno j j1 (by omega) w
            · have h2 : mtA n (MP I2) (MY I2) (fun k => (dg nb i k : Int)) (4 * n) 0 := mtA_7n hn3 gm2.2.2.2 (fun i hi => hdg i (by omega)) (bz_t hz r)
              intro f v y1 y2 y3 y4 y5
              have hf : ¬ MP I2 f = -1 := by rw [← a2.1 f (by omega)]; exact y4
              have := h2 f v y1 y2 y3 hf y5
              unfold mc at this ⊢
              rw [a2.1 f (by omega), a2.2 f (by omega) (by rcases hg f (by omega) with e | e <;> omega)]
              exact this
          | succ e ihe =>
            intro k x I2 he hx s2 hdg
            obtain ⟨gm2, a2⟩ := gM_sc hgm s2
            have bk := hb k (by omega)
            obtain ⟨t, ht⟩ := Int.eq_ofNat_of_zero_le bk.1
            have e1 : I2 339 (o + k) = (t : Int) := by rw [s2.2.1 _ (by omega), enb, ht]
            have e2 : ((2888 : Int) + (k : Int)).toNat = 2888 + k := by omega
            have e3 : ((o : Int) + (k : Int)).toNat = o + k := by omega
            have ed : (x : Int) % ((t : Int) + 1) = (dg nb i k : Int) := by
              have : dg nb i k = x % (t + 1) := by unfold dg; rw [ht, Int.toNat_natCast, hx]
              rw [this]
              rfl
            have el : (x : Int) / ((t : Int) + 1) = ((x / (t + 1) : Nat) : Int) := rfl
            have hx2 : x / (t + 1) = i / wp nb (k + 1) := by
              show _ = i / (wp nb k * ((nb k).toNat + 1))
              rw [← Nat.div_div_eq_div_mul, ht, Int.toNat_natCast, hx]
            have dl := dg_le nb i k
            rw [ht, Int.toNat_natCast] at dl
            rw [ht] at bk
            have := ihe (k + 1) (x / (t + 1)) (mm_set I2 339 (2888 + k) (dg nb i k : Int)) (by omega) hx2 (scM_tr s2 ⟨fun b hb => by rw [mset_ne (by omega)], fun j hj => by rw [mset_n2 (by omega)], fun h y hy => ?_⟩) (fun j hj => ?_)
            · rw [Int.natCast_add] at this
              have e4 : mm_set I2 339 (2888 + k) (dg nb i k : Int) 339 (o + k) = (t : Int) := by rw [mset_n2 (by omega)]; exact e1
              refine c81 _ _ _ ?_
              simp only [b_X12_split_81, i_xorg, i_shl, i_shr, i_ior, i_and1, i_lcg1, i_lcg2, i_ld, i_la, i_st, i_sa, i_c, i_inc, i_add, i_sub, i_mul, i_div, i_rem, i_remT, i_xor, i_dup, i_dup2, i_if, i_if2, i_sw, i_gi, i_gr, i_pi, i_pz, i_ial, i_ias, i_len, i_aal, i_gs, i_tal, i_cv, i_cs, i_ir, i_zr, i_vr, i_min, i_max, i_cpy, List.getElem?_cons_zero, List.getElem?_cons_succ, List.set_cons_zero, List.set_cons_succ, List.length_cons, List.length_nil, List.drop_succ_cons, List.drop_zero, List.take_succ_cons, List.take_zero, List.reverse_cons, List.reverse_nil, List.nil_append, List.cons_append, Option.toList_some, Option.toList_none, true_and, and_true, true_or, or_true, Nat.reduceAdd, Nat.reduceLT, Nat.reduceLeDiff, Option.some.injEq, exists_eq_left', Int.toNat_natCast, Nat.reduceSub, List.append_nil, List.replicate_succ, List.replicate_zero, mm_in, w0, w1, w2, t0, e1, e2, e3, ed, el, e4]
              rw [gm2.1]
              repeat' first | refine And.intro ?_ ?_ | refine fun (_ : _ ≤ _ ∧ _ < _) => ?_
              all_goals try omega
              intro q
              repeat' first | refine And.intro ?_ ?_ | refine fun (_ : _ ≤ _ ∧ _ < _) => ?_
              all_goals try omega
            · unfold MN
              by_cases c : y = k
              · rw [c, mset_eq]; omega
              · rw [mset_n2 (by omega)]; exact h y hy
            · by_cases c : j = k
              · rw [c, mset_eq]
              · rw [mset_n2 (by omega)]; exact hdg j (by omega)
        have := dig (7 * n) 0 i I1 (by omega) (Nat.div_one i).symm s1 (fun j hj => by omega)
        refine c68 _ _ _ ?_
        simp only [b_X12_split_68, i_xorg, i_shl, i_shr, i_ior, i_and1, i_lcg1, i_lcg2, i_ld, i_la, i_st, i_sa, i_c, i_inc, i_add, i_sub, i_mul, i_div, i_rem, i_remT, i_xor, i_dup, i_dup2, i_if, i_if2, i_sw, i_gi, i_gr, i_pi, i_pz, i_ial, i_ias, i_len, i_aal, i_gs, i_tal, i_cv, i_cs, i_ir, i_zr, i_vr, i_min, i_max, i_cpy, List.getElem?_cons_zero, List.getElem?_cons_succ, List.set_cons_zero, List.set_cons_succ, List.length_cons, List.length_nil, List.drop_succ_cons, List.drop_zero, List.take_succ_cons, List.take_zero, List.reverse_cons, List.reverse_nil, List.nil_append, List.cons_append, Option.toList_some, Option.toList_none, true_and, and_true, true_or, or_true, Nat.reduceAdd, Nat.reduceLT, Nat.reduceLeDiff, Option.some.injEq, exists_eq_left', Int.toNat_natCast, Nat.reduceSub, List.append_nil, List.replicate_succ, List.replicate_zero, mm_in,]
        refine ⟨⟨by omega, by omega⟩, fun q => by omega, fun q => this⟩
    have loop : ∀ (d k : Nat), k + d = 7 * n → ∀ u4 u5 : mm_V, Ok 14 [.inr (some 338), .inl (o : Int), .inl (cp nb k), .inl (k : Int), u4, u5] [] (I, mm_R0) := by
      intro d
      induction d with
      | zero =>
        intro k hd u4 u5
        rw [show k = 7 * n by omega, hP6]
        refine c14 _ _ _ ?_
        simp only [b_X12_split_14, i_xorg, i_shl, i_shr, i_ior, i_and1, i_lcg1, i_lcg2, i_ld, i_la, i_st, i_sa, i_c, i_inc, i_add, i_sub, i_mul, i_div, i_rem, i_remT, i_xor, i_dup, i_dup2, i_if, i_if2, i_sw, i_gi, i_gr, i_pi, i_pz, i_ial, i_ias, i_len, i_aal, i_gs, i_tal, i_cv, i_cs, i_ir, i_zr, i_vr, i_min, i_max, i_cpy, List.getElem?_cons_zero, List.getElem?_cons_succ, List.set_cons_zero, List.set_cons_succ, List.length_cons, List.length_nil, List.drop_succ_cons, List.drop_zero, List.take_succ_cons, List.take_zero, List.reverse_cons, List.reverse_nil, List.nil_append, List.cons_append, Option.toList_some, Option.toList_none, true_and, and_true, true_or, or_true, Nat.reduceAdd, Nat.reduceLT, Nat.reduceLeDiff, Option.some.injEq, exists_eq_left', Int.toNat_natCast, Nat.reduceSub, List.append_nil, List.replicate_succ, List.replicate_zero, mm_in, w0, w1, w2, t0, hn]
        repeat' first | refine And.intro ?_ ?_ | refine fun (_ : _ ≤ _ ∧ _ < _) => ?_
        all_goals try omega
        intro q
        refine ⟨fun r => ?_, fun r => fin I (-1) (scM_rf I) (Or.inl ⟨by omega, rfl⟩)⟩
        by_cases c : P = 1
        · exact find r 0 1 I (Or.inr ⟨c, rfl, rfl⟩) (by omega) (scM_rf I) (fun j h1 h2 => by omega) u4 u5
        · exact find r (P - 2).toNat 1 I (Or.inl (by omega)) (by omega) (scM_rf I) (fun j h1 h2 => by omega) u4 u5
      | succ d ih =>
        intro k hd u4 u5
        have bk := hb k (by omega)
        have c1 := cp_b hb (show k ≤ 21 by omega)
        have c2 := cp_b hb (show k + 1 ≤ 21 by omega)
        have e3 : ((o : Int) + (k : Int)).toNat = o + k := by omega
        have f50 : ∀ z : Int, z = cp nb (k + 1) → Ok 50 [.inr (some 338), .inl (o : Int), .inl (cp nb k), .inl (k : Int), u4, u5] [.inl z] (I, mm_R0) := by
          intro z hz
          have := ih (k + 1) (by omega) u4 u5
          rw [← hz, Int.natCast_add] at this
          refine c50 _ _ _ ?_
          simp only [b_X12_split_50, i_xorg, i_shl, i_shr, i_ior, i_and1, i_lcg1, i_lcg2, i_ld, i_la, i_st, i_sa, i_c, i_inc, i_add, i_sub, i_mul, i_div, i_rem, i_remT, i_xor, i_dup, i_dup2, i_if, i_if2, i_sw, i_gi, i_gr, i_pi, i_pz, i_ial, i_ias, i_len, i_aal, i_gs, i_tal, i_cv, i_cs, i_ir, i_zr, i_vr, i_min, i_max, i_cpy, List.getElem?_cons_zero, List.getElem?_cons_succ, List.set_cons_zero, List.set_cons_succ, List.length_cons, List.length_nil, List.drop_succ_cons, List.drop_zero, List.take_succ_cons, List.take_zero, List.reverse_cons, List.reverse_nil, List.nil_append, List.cons_append, Option.toList_some, Option.toList_none, true_and, and_true, true_or, or_true, Nat.reduceAdd, Nat.reduceLT, Nat.reduceLeDiff, Option.some.injEq, exists_eq_left', Int.toNat_natCast, Nat.reduceSub, List.append_nil, List.replicate_succ, List.replicate_zero, mm_in,]
          repeat' first | refine And.intro ?_ ?_ | refine fun (_ : _ ≤ _ ∧ _ < _) => ?_
          all_goals try omega
        have ec : cp nb (k + 1) = if cp nb k ≤ 6000 then cp nb k * (nb k + 1) else cp nb k := rfl
        refine c14 _ _ _ ?_
        simp only [b_X12_split_14, i_xorg, i_shl, i_shr, i_ior, i_and1, i_lcg1, i_lcg2, i_ld, i_la, i_st, i_sa, i_c, i_inc, i_add, i_sub, i_mul, i_div, i_rem, i_remT, i_xor, i_dup, i_dup2, i_if, i_if2, i_sw, i_gi, i_gr, i_pi, i_pz, i_ial, i_ias, i_len, i_aal, i_gs, i_tal, i_cv, i_cs, i_ir, i_zr, i_vr, i_min, i_max, i_cpy, List.getElem?_cons_zero, List.getElem?_cons_succ, List.set_cons_zero, List.set_cons_succ, List.length_cons, List.length_nil, List.drop_succ_cons, List.drop_zero, List.take_succ_cons, List.take_zero, List.reverse_cons, List.reverse_nil, List.nil_append, List.cons_append, Option.toList_some, Option.toList_none, true_and, and_true, true_or, or_true, Nat.reduceAdd, Nat.reduceLT, Nat.reduceLeDiff, Option.some.injEq, exists_eq_left', Int.toNat_natCast, Nat.reduceSub, List.append_nil, List.replicate_succ, List.replicate_zero, mm_in, w0, w1, w2, t0, hn, e3, enb]
        repeat' first | refine And.intro ?_ ?_ | refine fun (_ : _ ≤ _ ∧ _ < _) => ?_
        all_goals try omega
        intro q
        refine ⟨fun r => ?_, fun r => f50 _ (by rw [ec, if_neg r])⟩
        rw [if_pos r] at ec
        rw [ec] at c2 f50
        repeat' first | refine And.intro ?_ ?_ | refine fun (_ : _ ≤ _ ∧ _ < _) => ?_
        all_goals try omega
        exact f50 _ rfl
    exact loop (7 * n) 0 (by omega) _ _
  · exact hT.elim
theorem sp_X12_split : mm_Sp yX12_split cX12_split 6 (some .int) rm_X12_split T_X12_split := mm_meth (by decide) (by
  intro av σ Post h
  unfold T_X12_split at h
  split at h
  · simp
  · exact h.elim) (fun p l e s m args below meth c G av σ Post hC hr _ hav hin hk hT => pv_X12_split av σ Post hav hin hk hT _ (bk_X12_split hC hr))
