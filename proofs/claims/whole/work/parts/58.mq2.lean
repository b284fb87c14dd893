/-! the other program: surface, wrongEntry, told
-/
def surfM (I : Nat → Nat → Int) (n' : Nat) (s q' z' : Int) : Prop :=
  if ¬ (0 ≤ s ∧ s < I 339 1) then z' = -1000000001 else if q' < 0 ∨ 8 < q' then z' = -1000000002
  else if q' = 0 then bz z' (mtA n' (MP I) (MY I) (MN I (26 + 21 * s.toNat)) (4 * n') 0) else if q' = 1 then bz z' (crs (MN I (26 + 21 * s.toNat)) n') else if q' = 2 then z' = sm (MN I (26 + 21 * s.toNat)) (7 * n')
  else if q' = 7 then nameZ n' (MP I) (MY I) (MN I (26 + 21 * s.toNat)) z' else if q' = 8 then splZ n' (MP I) (MY I) (MN I (26 + 21 * s.toNat)) z' else ofZ n' (MP I) (MY I) (MN I (26 + 21 * s.toNat)) q' z'
def T_X12_surface : mm_T := fun av σ Post => match av with
  | [.inr (some a'), .inl s, .inl q'] => σ.2 = mm_R0 ∧ a' = 338 ∧ ∃ n' : Nat, gM σ.1 n' ∧ shM σ.1 ∧ bd (MN σ.1 2888) ∧ ∀ (I' : Nat → Nat → Int) (z' : Int), scM I' σ.1 → surfM σ.1 n' s q' z' → Post (some (.inl z')) (I', mm_R0)
  | _ => False
def rm_X12_surface : Room := { frames := 6, cells := 0, slots := 0, locals := 150 }
def b_X12_surface_0 (Ok : Nat → mm_K) (Post : Option mm_V → mm_S → Prop) (kf : Nat) : mm_K := i_la 0 (i_ld 1 (i_cv 11 1 T_X12_isSurface (i_if (fun x => ¬ x = 0) (i_ld 1 (i_cs 1 T_X12_surfaceAt (i_st 3 (i_ld 2 (i_sw Ok 121 [(0, 68), (1, 82), (2, 96), (3, 102), (4, 102), (5, 102), (6, 102), (7, 109), (8, 115)]))))) (i_c (-1000000001) (i_ir Post kf)))))
def b_X12_surface_68 (Ok : Nat → mm_K) (Post : Option mm_V → mm_S → Prop) (kf : Nat) : mm_K := i_la 0 (i_ld 3 (i_cv 11 1 T_X12_meets (i_if (fun x => x = 0) (i_c 0 (Ok 81)) (i_c 1 (Ok 81)))))
def b_X12_surface_81 (Ok : Nat → mm_K) (Post : Option mm_V → mm_S → Prop) (kf : Nat) : mm_K := i_ir Post kf
def b_X12_surface_82 (Ok : Nat → mm_K) (Post : Option mm_V → mm_S → Prop) (kf : Nat) : mm_K := i_la 0 (i_ld 3 (i_cv 11 1 T_X12_crosses (i_if (fun x => x = 0) (i_c 0 (Ok 95)) (i_c 1 (Ok 95)))))
def b_X12_surface_95 (Ok : Nat → mm_K) (Post : Option mm_V → mm_S → Prop) (kf : Nat) : mm_K := i_ir Post kf
def b_X12_surface_96 (Ok : Nat → mm_K) (Post : Option mm_V → mm_S → Prop) (kf : Nat) : mm_K := i_la 0 (i_ld 3 (i_cv 11 1 T_X12_allPieces (i_ir Post kf)))
def b_X12_surface_102 (Ok : Nat → mm_K) (Post : Option mm_V → mm_S → Prop) (kf : Nat) : mm_K := i_la 0 (i_ld 3 (i_ld 2 (i_cv 11 2 T_X12_ofWell (i_ir Post kf))))
def b_X12_surface_109 (Ok : Nat → mm_K) (Post : Option mm_V → mm_S → Prop) (kf : Nat) : mm_K := i_la 0 (i_ld 3 (i_cv 11 1 T_X12_name (i_ir Post kf)))
def b_X12_surface_115 (Ok : Nat → mm_K) (Post : Option mm_V → mm_S → Prop) (kf : Nat) : mm_K := i_la 0 (i_ld 3 (i_cv 11 1 T_X12_split (i_ir Post kf)))
def b_X12_surface_121 (Ok : Nat → mm_K) (Post : Option mm_V → mm_S → Prop) (kf : Nat) : mm_K := i_c (-1000000002) (i_ir Post kf)
def clo_X12_surface (Ok : Nat → mm_K) (Post : Option mm_V → mm_S → Prop) (kf : Nat) : Prop := mm_imp (b_X12_surface_0 Ok Post kf) (Ok 0) ∧ mm_imp (b_X12_surface_68 Ok Post kf) (Ok 68) ∧ mm_imp (b_X12_surface_81 Ok Post kf) (Ok 81) ∧ mm_imp (b_X12_surface_82 Ok Post kf) (Ok 82) ∧ mm_imp (b_X12_surface_95 Ok Post kf) (Ok 95) ∧ mm_imp (b_X12_surface_96 Ok Post kf) (Ok 96) ∧ mm_imp (b_X12_surface_102 Ok Post kf) (Ok 102) ∧ mm_imp (b_X12_surface_109 Ok Post kf) (Ok 109) ∧ mm_imp (b_X12_surface_115 Ok Post kf) (Ok 115) ∧ mm_imp (b_X12_surface_121 Ok Post kf) (Ok 121)
set_option maxRecDepth 100000 in
set_option maxHeartbeats 4000000 in
theorem bk_X12_surface {p : Program} {l : Launch} {e : Env} {s : State} {m : MethodId} {args : Array Value} {below : List Frame} {meth : Method} {c : Code} {G : mm_G} {σ0 : mm_S} {Post : Option mm_V → mm_S → Prop} (hC : mm_C p G s m args meth c cX12_surface yX12_surface.cls) (hr : meth.sig.returnType = some .int) : clo_X12_surface (mm_O p l e rm_X12_surface s m args below meth c G σ0.2.2 (MQ below (mm_Qc G σ0 rm_X12_surface.cells rm_X12_surface.slots Post) args s rm_X12_surface.cells rm_X12_surface.slots (mm_A G))) Post σ0.2.2 := ⟨(by unfold b_X12_surface_0; exact (mm_la_n hC dX12_surface_0 rfl (mm_ld_n hC dX12_surface_1 rfl (mm_cv hC sp_X12_isSurface ⟨rfl, rfl⟩ cl_11 wd_975 wd_977 wd_48 wd_978 wd_77 ⟨by decide, by decide, by decide +kernel⟩ ⟨by decide, by decide⟩ dX12_surface_2 (mm_if_ne hC (t := 11) dX12_surface_5 (by decide) (mm_ld_n hC dX12_surface_11 rfl (mm_cs hC sp_X12_surfaceAt ⟨rfl, rfl⟩ wd_972 wd_973 wd_974 wd_77 ⟨by decide, by decide, by decide +kernel⟩ ⟨by decide, by decide⟩ dX12_surface_12 (mm_st_n hC dX12_surface_15 rfl (mm_ld_n hC dX12_surface_16 rfl (mm_tsw hC dX12_surface_17 rfl (by decide) (by decide) (by decide)))))) (mm_ldc hC dX12_surface_8 ⟨by decide, by decide⟩ wd_1006 (mm_ir hC ⟨rfl, rfl⟩ hr dX12_surface_10))))))), (by unfold b_X12_surface_68; exact (mm_la_n hC dX12_surface_68 rfl (mm_ld_n hC dX12_surface_69 rfl (mm_cv hC sp_X12_meets ⟨rfl, rfl⟩ cl_11 wd_986 wd_988 wd_50 wd_989 wd_77 ⟨by decide, by decide, by decide +kernel⟩ ⟨by decide, by decide⟩ dX12_surface_70 (mm_if_eq hC (t := 80) dX12_surface_73 (by decide) (mm_ic hC dX12_surface_80 ⟨by decide, by decide⟩ (fun _ _ _ h => h)) (mm_ic hC dX12_surface_76 ⟨by decide, by decide⟩ (mm_goto hC (t := 81) dX12_surface_77 (by decide) (fun _ _ _ h => h)))))))), (by unfold b_X12_surface_81; exact (mm_ir hC ⟨rfl, rfl⟩ hr dX12_surface_81)), (by unfold b_X12_surface_82; exact (mm_la_n hC dX12_surface_82 rfl (mm_ld_n hC dX12_surface_83 rfl (mm_cv hC sp_X12_crosses ⟨rfl, rfl⟩ cl_11 wd_990 wd_992 wd_51 wd_993 wd_77 ⟨by decide, by decide, by decide +kernel⟩ ⟨by decide, by decide⟩ dX12_surface_84 (mm_if_eq hC (t := 94) dX12_surface_87 (by decide) (mm_ic hC dX12_surface_94 ⟨by decide, by decide⟩ (fun _ _ _ h => h)) (mm_ic hC dX12_surface_90 ⟨by decide, by decide⟩ (mm_goto hC (t := 95) dX12_surface_91 (by decide) (fun _ _ _ h => h)))))))), (by unfold b_X12_surface_95; exact (mm_ir hC ⟨rfl, rfl⟩ hr dX12_surface_95)), (by unfold b_X12_surface_96; exact (mm_la_n hC dX12_surface_96 rfl (mm_ld_n hC dX12_surface_97 rfl (mm_cv hC sp_X12_allPieces ⟨rfl, rfl⟩ cl_11 wd_942 wd_944 wd_42 wd_945 wd_77 ⟨by decide, by decide, by decide +kernel⟩ ⟨by decide, by decide⟩ dX12_surface_98 (mm_ir hC ⟨rfl, rfl⟩ hr dX12_surface_101))))), (by unfold b_X12_surface_102; exact (mm_la_n hC dX12_surface_102 rfl (mm_ld_n hC dX12_surface_103 rfl (mm_ld_n hC dX12_surface_104 rfl (mm_cv hC sp_X12_ofWell ⟨rfl, rfl⟩ cl_11 wd_1027 wd_1029 wd_54 wd_1030 wd_77 ⟨by decide, by decide, by decide +kernel⟩ ⟨by decide, by decide⟩ dX12_surface_105 (mm_ir hC ⟨rfl, rfl⟩ hr dX12_surface_108)))))), (by unfold b_X12_surface_109; exact (mm_la_n hC dX12_surface_109 rfl (mm_ld_n hC dX12_surface_110 rfl (mm_cv hC sp_X12_name ⟨rfl, rfl⟩ cl_11 wd_1031 wd_1033 wd_55 wd_1034 wd_77 ⟨by decide, by decide, by decide +kernel⟩ ⟨by decide, by decide⟩ dX12_surface_111 (mm_ir hC ⟨rfl, rfl⟩ hr dX12_surface_114))))), (by unfold b_X12_surface_115; exact (mm_la_n hC dX12_surface_115 rfl (mm_ld_n hC dX12_surface_116 rfl (mm_cv hC sp_X12_split ⟨rfl, rfl⟩ cl_11 wd_1035 wd_1037 wd_56 wd_1038 wd_77 ⟨by decide, by decide, by decide +kernel⟩ ⟨by decide, by decide⟩ dX12_surface_117 (mm_ir hC ⟨rfl, rfl⟩ hr dX12_surface_120))))), (by unfold b_X12_surface_121; exact (mm_ldc hC dX12_surface_121 ⟨by decide, by decide⟩ wd_994 (mm_ir hC ⟨rfl, rfl⟩ hr dX12_surface_123)))⟩
set_option maxRecDepth 100000 in
set_option maxHeartbeats 8000000 in
theorem pv_X12_surface : ∀ (av : List mm_V) (σ : mm_S) (Post : Option mm_V → mm_S → Prop), (∀ v ∈ av, mm_iv v) → (∀ a j, mm_in (σ.1 a j)) → σ.2.2 ≤ 348 → T_X12_surface av σ Post → ∀ Ok : Nat → mm_K, clo_X12_surface Ok Post σ.2.2 → Ok 0 (av ++ List.replicate (4 - av.length) (.inr none)) [] σ := by
  intro av σ Post hav hin hk hT Ok hcl
  obtain ⟨I, R0⟩ := σ
  unfold T_X12_surface at hT
  split at hT
  · rename_i a' s q'
    obtain ⟨h0, hT⟩ := hT
    have h0 : R0 = mm_R0 := h0
    subst h0
    dsimp only at hT hin
    obtain ⟨c0, c68, c81, c82, c95, c96, c102, c109, c115, c121⟩ := hcl
    obtain ⟨rfl, n', hgm, ⟨v1', v2, v3⟩, hbt, hP⟩ := hT
    have w0' := m0
    obtain ⟨hn, hn1, hn3, hg⟩ := id hgm
    unfold surfM at hP
    refine c0 _ _ _ ?_
    simp only [b_X12_surface_0, i_xorg, i_shl, i_shr, i_ior, i_and1, i_lcg1, i_lcg2, i_ld, i_la, i_st, i_sa, i_c, i_inc, i_add, i_sub, i_mul, i_div, i_rem, i_remT, i_xor, i_dup, i_dup2, i_if, i_if2, i_sw, i_gi, i_gr, i_pi, i_pz, i_ial, i_ias, i_len, i_aal, i_gs, i_tal, i_cv, i_cs, i_ir, i_zr, i_vr, i_min, i_max, i_cpy, List.getElem?_cons_zero, List.getElem?_cons_succ, List.set_cons_zero, List.set_cons_succ, List.length_cons, List.length_nil, List.drop_succ_cons, List.drop_zero, List.take_succ_cons, List.take_zero, List.reverse_cons, List.reverse_nil, List.nil_append, List.cons_append, Option.toList_some, Option.toList_none, true_and, and_true, true_or, or_true, Nat.reduceAdd, Nat.reduceLT, Nat.reduceLeDiff, Option.some.injEq, exists_eq_left', Int.toNat_natCast, Nat.reduceSub, List.append_nil, List.replicate_succ, List.replicate_zero, mm_in, w0', T_X12_isSurface, T_X12_surfaceAt]
    refine ⟨by omega, fun zA hA => ⟨fun yA => ?_, fun yA => hP I _ (scM_rf I) (by rw [if_pos (bz_f hA (by omega))])⟩⟩
    have hs := bz_t hA yA
    obtain ⟨t', rfl⟩ := Int.eq_ofNat_of_zero_le hs.1
    obtain ⟨o, ho⟩ : ∃ o, 26 + 21 * t' = o := ⟨_, rfl⟩
    have eo : 26 + 21 * (t' : Int) = (o : Int) := by omega
    have hb' := v3 t' (by omega)
    rw [ho] at hb'
    rw [Int.toNat_natCast, ho] at hP
    rw [eo]
    obtain ⟨nb, hnb⟩ : ∃ nb, MN I o = nb := ⟨_, rfl⟩
    have fin' : ∀ (I' : Nat → Nat → Int) (z' : Int), scM I' I → (if q' < 0 ∨ 8 < q' then z' = -1000000002
      else if q' = 0 then bz z' (mtA n' (MP I) (MY I) (MN I o) (4 * n') 0) else if q' = 1 then bz z' (crs (MN I o) n') else if q' = 2 then z' = sm (MN I o) (7 * n')
      else if q' = 7 then nameZ n' (MP I) (MY I) (MN I o) z' else if q' = 8 then splZ n' (MP I) (MY I) (MN I o) z' else ofZ n' (MP I) (MY I) (MN I o) q' z') → Post (some (.inl z')) (I', mm_R0) := fun I' z' hA1 hA2 => hP I' z' hA1 (by rw [if_neg (fun w' => w' hs)]; exact hA2)
    clear hP
    have p102 : 3 ≤ q' → q' ≤ 6 → Ok 102 [.inr (some 338), .inl (t' : Int), .inl q', .inl (o : Int)] [] (I, mm_R0) := by
      intro qA qB
      refine c102 _ _ _ ?_
      simp only [b_X12_surface_102, i_xorg, i_shl, i_shr, i_ior, i_and1, i_lcg1, i_lcg2, i_ld, i_la, i_st, i_sa, i_c, i_inc, i_add, i_sub, i_mul, i_div, i_rem, i_remT, i_xor, i_dup, i_dup2, i_if, i_if2, i_sw, i_gi, i_gr, i_pi, i_pz, i_ial, i_ias, i_len, i_aal, i_gs, i_tal, i_cv, i_cs, i_ir, i_zr, i_vr, i_min, i_max, i_cpy, List.getElem?_cons_zero, List.getElem?_cons_succ, List.set_cons_zero, List.set_cons_succ, List.length_cons, List.length_nil, List.drop_succ_cons, List.drop_zero, List.take_succ_cons, List.take_zero, List.reverse_cons, List.reverse_nil, List.nil_append, List.cons_append, Option.toList_some, Option.toList_none, true_and, and_true, true_or, or_true, Nat.reduceAdd, Nat.reduceLT, Nat.reduceLeDiff, Option.some.injEq, exists_eq_left', Int.toNat_natCast, Nat.reduceSub, List.append_nil, List.replicate_succ, List.replicate_zero, mm_in, w0', T_X12_ofWell]
      refine ⟨o, n', rfl, by omega, qA, qB, hgm, hb', fun I' z' fA hz => fin' I' z' (scM_hi fA) ?_⟩
      rw [if_neg (by omega), if_neg (by omega), if_neg (by omega), if_neg (by omega), if_neg (by omega), if_neg (by omega)]
      exact hz
    refine ⟨by omega, by omega, fun qz => ?_, fun qz => ⟨fun qy => ?_, fun qy => ⟨fun qx => ?_, fun qx => ⟨fun qw => p102 (by omega) (by omega), fun qw => ⟨fun qv => p102 (by omega) (by omega), fun qv => ⟨fun qu => p102 (by omega) (by omega), fun qu => ⟨fun qt => p102 (by omega) (by omega), fun qt => ⟨fun qs => ?_, fun qs => ⟨fun qr => ?_, fun qr => ?_⟩⟩⟩⟩⟩⟩⟩⟩⟩
    · have g81 : ∀ z' : Int, bz z' (mtA n' (MP I) (MY I) (MN I o) (4 * n') 0) → Ok 81 [.inr (some 338), .inl (t' : Int), .inl q', .inl (o : Int)] [.inl z'] (I, mm_R0) := by
        intro z' hz
        refine c81 _ _ _ ?_
        simp only [b_X12_surface_81, i_xorg, i_shl, i_shr, i_ior, i_and1, i_lcg1, i_lcg2, i_ld, i_la, i_st, i_sa, i_c, i_inc, i_add, i_sub, i_mul, i_div, i_rem, i_remT, i_xor, i_dup, i_dup2, i_if, i_if2, i_sw, i_gi, i_gr, i_pi, i_pz, i_ial, i_ias, i_len, i_aal, i_gs, i_tal, i_cv, i_cs, i_ir, i_zr, i_vr, i_min, i_max, i_cpy, List.getElem?_cons_zero, List.getElem?_cons_succ, List.set_cons_zero, List.set_cons_succ, List.length_cons, List.length_nil, List.drop_succ_cons, List.drop_zero, List.take_succ_cons, List.take_zero, List.reverse_cons, List.reverse_nil, List.nil_append, List.cons_append, Option.toList_some, Option.toList_none, true_and, and_true, true_or, or_true, Nat.reduceAdd, Nat.reduceLT, Nat.reduceLeDiff, Option.some.injEq, exists_eq_left', Int.toNat_natCast, Nat.reduceSub, List.append_nil, List.replicate_succ, List.replicate_zero]
        exact fin' I z' (scM_rf I) (by rw [if_neg (by omega), if_pos qz]; exact hz)
      refine c68 _ _ _ ?_
      simp only [b_X12_surface_68, i_xorg, i_shl, i_shr, i_ior, i_and1, i_lcg1, i_lcg2, i_ld, i_la, i_st, i_sa, i_c, i_inc, i_add, i_sub, i_mul, i_div, i_rem, i_remT, i_xor, i_dup, i_dup2, i_if, i_if2, i_sw, i_gi, i_gr, i_pi, i_pz, i_ial, i_ias, i_len, i_aal, i_gs, i_tal, i_cv, i_cs, i_ir, i_zr, i_vr, i_min, i_max, i_cpy, List.getElem?_cons_zero, List.getElem?_cons_succ, List.set_cons_zero, List.set_cons_succ, List.length_cons, List.length_nil, List.drop_succ_cons, List.drop_zero, List.take_succ_cons, List.take_zero, List.reverse_cons, List.reverse_nil, List.nil_append, List.cons_append, Option.toList_some, Option.toList_none, true_and, and_true, true_or, or_true, Nat.reduceAdd, Nat.reduceLT, Nat.reduceLeDiff, Option.some.injEq, exists_eq_left', Int.toNat_natCast, Nat.reduceSub, List.append_nil, List.replicate_succ, List.replicate_zero, mm_in, w0', T_X12_meets]
      refine ⟨o, n', rfl, by omega, hgm, b20_bd hb', fun z' hz => ⟨fun r' => g81 0 (bz_0 (bz_f hz r')), fun r' => g81 1 (bz_1 (bz_t hz r'))⟩⟩
    · have g95 : ∀ z' : Int, bz z' (crs (MN I o) n') → Ok 95 [.inr (some 338), .inl (t' : Int), .inl q', .inl (o : Int)] [.inl z'] (I, mm_R0) := by
        intro z' hz
        refine c95 _ _ _ ?_
        simp only [b_X12_surface_95, i_xorg, i_shl, i_shr, i_ior, i_and1, i_lcg1, i_lcg2, i_ld, i_la, i_st, i_sa, i_c, i_inc, i_add, i_sub, i_mul, i_div, i_rem, i_remT, i_xor, i_dup, i_dup2, i_if, i_if2, i_sw, i_gi, i_gr, i_pi, i_pz, i_ial, i_ias, i_len, i_aal, i_gs, i_tal, i_cv, i_cs, i_ir, i_zr, i_vr, i_min, i_max, i_cpy, List.getElem?_cons_zero, List.getElem?_cons_succ, List.set_cons_zero, List.set_cons_succ, List.length_cons, List.length_nil, List.drop_succ_cons, List.drop_zero, List.take_succ_cons, List.take_zero, List.reverse_cons, List.reverse_nil, List.nil_append, List.cons_append, Option.toList_some, Option.toList_none, true_and, and_true, true_or, or_true, Nat.reduceAdd, Nat.reduceLT, Nat.reduceLeDiff, Option.some.injEq, exists_eq_left', Int.toNat_natCast, Nat.reduceSub, List.append_nil, List.replicate_succ, List.replicate_zero]
        exact fin' I z' (scM_rf I) (by rw [if_neg (by omega), if_neg qz, if_pos qy]; exact hz)
      refine c82 _ _ _ ?_
      simp only [b_X12_surface_82, i_xorg, i_shl, i_shr, i_ior, i_and1, i_lcg1, i_lcg2, i_ld, i_la, i_st, i_sa, i_c, i_inc, i_add, i_sub, i_mul, i_div, i_rem, i_remT, i_xor, i_dup, i_dup2, i_if, i_if2, i_sw, i_gi, i_gr, i_pi, i_pz, i_ial, i_ias, i_len, i_aal, i_gs, i_tal, i_cv, i_cs, i_ir, i_zr, i_vr, i_min, i_max, i_cpy, List.getElem?_cons_zero, List.getElem?_cons_succ, List.set_cons_zero, List.set_cons_succ, List.length_cons, List.length_nil, List.drop_succ_cons, List.drop_zero, List.take_succ_cons, List.take_zero, List.reverse_cons, List.reverse_nil, List.nil_append, List.cons_append, Option.toList_some, Option.toList_none, true_and, and_true, true_or, or_true, Nat.reduceAdd, Nat.reduceLT, Nat.reduceLeDiff, Option.some.injEq, exists_eq_left', Int.toNat_natCast, Nat.reduceSub, List.append_nil, List.replicate_succ, List.replicate_zero, mm_in, w0', T_X12_crosses]
      refine ⟨o, n', rfl, by omega, hn, hn3, fun z' hz => ⟨fun r' => g95 0 (bz_0 (bz_f hz r')), fun r' => g95 1 (bz_1 (bz_t hz r'))⟩⟩
    · refine c96 _ _ _ ?_
      simp only [b_X12_surface_96, i_xorg, i_shl, i_shr, i_ior, i_and1, i_lcg1, i_lcg2, i_ld, i_la, i_st, i_sa, i_c, i_inc, i_add, i_sub, i_mul, i_div, i_rem, i_remT, i_xor, i_dup, i_dup2, i_if, i_if2, i_sw, i_gi, i_gr, i_pi, i_pz, i_ial, i_ias, i_len, i_aal, i_gs, i_tal, i_cv, i_cs, i_ir, i_zr, i_vr, i_min, i_max, i_cpy, List.getElem?_cons_zero, List.getElem?_cons_succ, List.set_cons_zero, List.set_cons_succ, List.length_cons, List.length_nil, List.drop_succ_cons, List.drop_zero, List.take_succ_cons, List.take_zero, List.reverse_cons, List.reverse_nil, List.nil_append, List.cons_append, Option.toList_some, Option.toList_none, true_and, and_true, true_or, or_true, Nat.reduceAdd, Nat.reduceLT, Nat.reduceLeDiff, Option.some.injEq, exists_eq_left', Int.toNat_natCast, Nat.reduceSub, List.append_nil, List.replicate_succ, List.replicate_zero, mm_in, w0', T_X12_allPieces]
      refine ⟨o, n', rfl, by omega, hn, hn3, b20_bd hb', fin' I _ (scM_rf I) (by rw [if_neg (by omega), if_neg qz, if_neg qy, if_pos qx])⟩
    · refine c109 _ _ _ ?_
      simp only [b_X12_surface_109, i_xorg, i_shl, i_shr, i_ior, i_and1, i_lcg1, i_lcg2, i_ld, i_la, i_st, i_sa, i_c, i_inc, i_add, i_sub, i_mul, i_div, i_rem, i_remT, i_xor, i_dup, i_dup2, i_if, i_if2, i_sw, i_gi, i_gr, i_pi, i_pz, i_ial, i_ias, i_len, i_aal, i_gs, i_tal, i_cv, i_cs, i_ir, i_zr, i_vr, i_min, i_max, i_cpy, List.getElem?_cons_zero, List.getElem?_cons_succ, List.set_cons_zero, List.set_cons_succ, List.length_cons, List.length_nil, List.drop_succ_cons, List.drop_zero, List.take_succ_cons, List.take_zero, List.reverse_cons, List.reverse_nil, List.nil_append, List.cons_append, Option.toList_some, Option.toList_none, true_and, and_true, true_or, or_true, Nat.reduceAdd, Nat.reduceLT, Nat.reduceLeDiff, Option.some.injEq, exists_eq_left', Int.toNat_natCast, Nat.reduceSub, List.append_nil, List.replicate_succ, List.replicate_zero, mm_in, w0', T_X12_name]
      refine ⟨o, n', rfl, by omega, hgm, hb', fun I' z' fA hz => fin' I' z' (scM_hi fA) ?_⟩
      rw [if_neg (by omega), if_neg qz, if_neg qy, if_neg qx, if_pos qs]
      exact hz
    · refine c115 _ _ _ ?_
      simp only [b_X12_surface_115, i_xorg, i_shl, i_shr, i_ior, i_and1, i_lcg1, i_lcg2, i_ld, i_la, i_st, i_sa, i_c, i_inc, i_add, i_sub, i_mul, i_div, i_rem, i_remT, i_xor, i_dup, i_dup2, i_if, i_if2, i_sw, i_gi, i_gr, i_pi, i_pz, i_ial, i_ias, i_len, i_aal, i_gs, i_tal, i_cv, i_cs, i_ir, i_zr, i_vr, i_min, i_max, i_cpy, List.getElem?_cons_zero, List.getElem?_cons_succ, List.set_cons_zero, List.set_cons_succ, List.length_cons, List.length_nil, List.drop_succ_cons, List.drop_zero, List.take_succ_cons, List.take_zero, List.reverse_cons, List.reverse_nil, List.nil_append, List.cons_append, Option.toList_some, Option.toList_none, true_and, and_true, true_or, or_true, Nat.reduceAdd, Nat.reduceLT, Nat.reduceLeDiff, Option.some.injEq, exists_eq_left', Int.toNat_natCast, Nat.reduceSub, List.append_nil, List.replicate_succ, List.replicate_zero, mm_in, w0', T_X12_split]
      refine ⟨o, n', rfl, by omega, by omega, hgm, hb', hbt, fun I' z' sA hz => fin' I' z' sA ?_⟩
      rw [if_neg (by omega), if_neg qz, if_neg qy, if_neg qx, if_neg qs, if_pos qr]
      exact hz
    · refine c121 _ _ _ ?_
      simp only [b_X12_surface_121, i_xorg, i_shl, i_shr, i_ior, i_and1, i_lcg1, i_lcg2, i_ld, i_la, i_st, i_sa, i_c, i_inc, i_add, i_sub, i_mul, i_div, i_rem, i_remT, i_xor, i_dup, i_dup2, i_if, i_if2, i_sw, i_gi, i_gr, i_pi, i_pz, i_ial, i_ias, i_len, i_aal, i_gs, i_tal, i_cv, i_cs, i_ir, i_zr, i_vr, i_min, i_max, i_cpy, List.getElem?_cons_zero, List.getElem?_cons_succ, List.set_cons_zero, List.set_cons_succ, List.length_cons, List.length_nil, List.drop_succ_cons, List.drop_zero, List.take_succ_cons, List.take_zero, List.reverse_cons, List.reverse_nil, List.nil_append, List.cons_append, Option.toList_some, Option.toList_none, true_and, and_true, true_or, or_true, Nat.reduceAdd, Nat.reduceLT, Nat.reduceLeDiff, Option.some.injEq, exists_eq_left', Int.toNat_natCast, Nat.reduceSub, List.append_nil, List.replicate_succ, List.replicate_zero]
      exact fin' I _ (scM_rf I) (by rw [if_pos (by omega)])
  · exact hT.elim
theorem sp_X12_surface : mm_Sp yX12_surface cX12_surface 4 (some .int) rm_X12_surface T_X12_surface := mm_meth (by decide) (by
  intro av σ Post h
  unfold T_X12_surface at h
  split at h
  · simp
  · exact h.elim) (fun p l e s m args below meth c G av σ Post hC hr _ hav hin hk hT => pv_X12_surface av σ Post hav hin hk hT _ (bk_X12_surface hC hr))
def btM (I : Nat → Nat → Int) (n' : Nat) (i' : Nat) : Prop := I 341 i' < I 339 1 ∧ wellM n' (MP I) (MY I) (MN I (26 + 21 * (I 341 i').toNat)) ∧ eulM n' (MP I) (room n' (MP I) (MY I)).2.1 (MN I (26 + 21 * (I 341 i').toNat)) = I 342 i'
def bkM (I : Nat → Nat → Int) : Prop := 0 ≤ I 338 7 ∧ I 338 7 ≤ 20 ∧ ∀ i' : Nat, (i' : Int) < I 338 7 → 0 ≤ I 341 i' ∧ I 341 i' < 6
def T_X12_wrongEntry : mm_T := fun av σ Post => match av with
  | [.inr (some a')] => σ.2 = mm_R0 ∧ a' = 338 ∧ ∃ n' : Nat, gM σ.1 n' ∧ shM σ.1 ∧ bkM σ.1 ∧ ∀ (I' : Nat → Nat → Int) (z' : Int), scM I' σ.1 → fwrong (btM σ.1 n') (σ.1 338 7).toNat z' → Post (some (.inl z')) (I', mm_R0)
  | _ => False
def rm_X12_wrongEntry : Room := { frames := 5, cells := 0, slots := 0, locals := 122 }
def b_X12_wrongEntry_0 (Ok : Nat → mm_K) (Post : Option mm_V → mm_S → Prop) (kf : Nat) : mm_K := i_c 0 (i_st 1 (Ok 2))
def b_X12_wrongEntry_2 (Ok : Nat → mm_K) (Post : Option mm_V → mm_S → Prop) (kf : Nat) : mm_K := i_ld 1 (i_la 0 (i_gi 11 7 (i_if2 (fun x y => y ≤ x) (i_c (-1) (i_ir Post kf)) (i_la 0 (i_gr 11 5 (i_ld 1 (i_ial (i_cs 1 T_X12_surfaceAt (i_st 2 (i_la 0 (i_la 0 (i_gr 11 5 (i_ld 1 (i_ial (i_cv 11 1 T_X12_isSurface (i_if (fun x => x = 0) (Ok 55) (i_la 0 (i_ld 2 (i_cv 11 1 T_X12_isWell (i_if (fun x => x = 0) (Ok 55) (i_la 0 (i_ld 2 (i_cv 11 1 T_X12_euler (i_la 0 (i_gr 11 6 (i_ld 1 (i_ial (i_if2 (fun x y => x = y) (i_inc 1 1 (Ok 2)) (Ok 55)))))))))))))))))))))))))))))
def b_X12_wrongEntry_55 (Ok : Nat → mm_K) (Post : Option mm_V → mm_S → Prop) (kf : Nat) : mm_K := i_ld 1 (i_ir Post kf)
def clo_X12_wrongEntry (Ok : Nat → mm_K) (Post : Option mm_V → mm_S → Prop) (kf : Nat) : Prop := mm_imp (b_X12_wrongEntry_0 Ok Post kf) (Ok 0) ∧ mm_imp (b_X12_wrongEntry_2 Ok Post kf) (Ok 2) ∧ mm_imp (b_X12_wrongEntry_55 Ok Post kf) (Ok 55)
set_option maxRecDepth 100000 in
set_option maxHeartbeats 4000000 in
theorem bk_X12_wrongEntry {p : Program} {l : Launch} {e : Env} {s : State} {m : MethodId} {args : Array Value} {below : List Frame} {meth : Method} {c : Code} {G : mm_G} {σ0 : mm_S} {Post : Option mm_V → mm_S → Prop} (hC : mm_C p G s m args meth c cX12_wrongEntry yX12_wrongEntry.cls) (hr : meth.sig.returnType = some .int) : clo_X12_wrongEntry (mm_O p l e rm_X12_wrongEntry s m args below meth c G σ0.2.2 (MQ below (mm_Qc G σ0 rm_X12_wrongEntry.cells rm_X12_wrongEntry.slots Post) args s rm_X12_wrongEntry.cells rm_X12_wrongEntry.slots (mm_A G))) Post σ0.2.2 := ⟨(by unfold b_X12_wrongEntry_0; exact (mm_ic hC dX12_wrongEntry_0 ⟨by decide, by decide⟩ (mm_st_n hC dX12_wrongEntry_1 rfl (fun _ _ _ h => h)))), (by unfold b_X12_wrongEntry_2; exact (mm_ld_n hC dX12_wrongEntry_2 rfl (mm_la_n hC dX12_wrongEntry_3 rfl (mm_gi hC cl_11 (by decide) rfl wd_796 dX12_wrongEntry_4 (mm_ic_ge hC (t := 63) dX12_wrongEntry_7 (by decide) (mm_ic hC dX12_wrongEntry_63 ⟨by decide, by decide⟩ (mm_ir hC ⟨rfl, rfl⟩ hr dX12_wrongEntry_64)) (mm_la_n hC dX12_wrongEntry_10 rfl (mm_gr hC cl_11 (by decide) rfl wd_794 dX12_wrongEntry_11 (mm_ld_n hC dX12_wrongEntry_14 rfl (mm_ial hC dX12_wrongEntry_15 (mm_cs hC sp_X12_surfaceAt ⟨rfl, rfl⟩ wd_972 wd_973 wd_974 wd_77 ⟨by decide, by decide, by decide +kernel⟩ ⟨by decide, by decide⟩ dX12_wrongEntry_16 (mm_st_n hC dX12_wrongEntry_19 rfl (mm_la_n hC dX12_wrongEntry_20 rfl (mm_la_n hC dX12_wrongEntry_21 rfl (mm_gr hC cl_11 (by decide) rfl wd_794 dX12_wrongEntry_22 (mm_ld_n hC dX12_wrongEntry_25 rfl (mm_ial hC dX12_wrongEntry_26 (mm_cv hC sp_X12_isSurface ⟨rfl, rfl⟩ cl_11 wd_975 wd_977 wd_48 wd_978 wd_77 ⟨by decide, by decide, by decide +kernel⟩ ⟨by decide, by decide⟩ dX12_wrongEntry_27 (mm_if_eq hC (t := 55) dX12_wrongEntry_30 (by decide) (fun _ _ _ h => h) (mm_la_n hC dX12_wrongEntry_33 rfl (mm_ld_n hC dX12_wrongEntry_34 rfl (mm_cv hC sp_X12_isWell ⟨rfl, rfl⟩ cl_11 wd_982 wd_984 wd_49 wd_985 wd_77 ⟨by decide, by decide, by decide +kernel⟩ ⟨by decide, by decide⟩ dX12_wrongEntry_35 (mm_if_eq hC (t := 55) dX12_wrongEntry_38 (by decide) (fun _ _ _ h => h) (mm_la_n hC dX12_wrongEntry_41 rfl (mm_ld_n hC dX12_wrongEntry_42 rfl (mm_cv hC sp_X12_euler ⟨rfl, rfl⟩ cl_11 wd_938 wd_940 wd_41 wd_941 wd_77 ⟨by decide, by decide, by decide +kernel⟩ ⟨by decide, by decide⟩ dX12_wrongEntry_43 (mm_la_n hC dX12_wrongEntry_46 rfl (mm_gr hC cl_11 (by decide) rfl wd_795 dX12_wrongEntry_47 (mm_ld_n hC dX12_wrongEntry_50 rfl (mm_ial hC dX12_wrongEntry_51 (mm_ic_eq hC (t := 57) dX12_wrongEntry_52 (by decide) (mm_inc hC dX12_wrongEntry_57 (mm_goto hC (t := 2) dX12_wrongEntry_60 (by decide) (fun _ _ _ h => h))) (fun _ _ _ h => h))))))))))))))))))))))))))))))), (by unfold b_X12_wrongEntry_55; exact (mm_ld_n hC dX12_wrongEntry_55 rfl (mm_ir hC ⟨rfl, rfl⟩ hr dX12_wrongEntry_56)))⟩
set_option maxRecDepth 100000 in
set_option maxHeartbeats 8000000 in
theorem pv_X12_wrongEntry : ∀ (av : List mm_V) (σ : mm_S) (Post : Option mm_V → mm_S → Prop), (∀ v ∈ av, mm_iv v) → (∀ a j, mm_in (σ.1 a j)) → σ.2.2 ≤ 348 → T_X12_wrongEntry av σ Post → ∀ Ok : Nat → mm_K, clo_X12_wrongEntry Ok Post σ.2.2 → Ok 0 (av ++ List.replicate (3 - av.length) (.inr none)) [] σ := by
  intro av σ Post hav hin hk hT Ok hcl
  obtain ⟨I, R0⟩ := σ
  unfold T_X12_wrongEntry at hT
  split at hT
  · rename_i a'
    obtain ⟨h0, hT⟩ := hT
    have h0 : R0 = mm_R0 := h0
    subst h0
    dsimp only at hT hin
    obtain ⟨c0, c2, c55⟩ := hcl
    obtain ⟨rfl, n', hgm, ⟨v1', v2, v3⟩, ⟨y1, y2, y3⟩, hP⟩ := hT
    have w0' := m0
    have rA := Rs_338.2.2.1
    have rB' := Rs_338.2.2.2.1
    have sA := sh_338.2.2.2.1
    have sB := sh_338.2.2.2.2.1
    obtain ⟨hn, hn1, hn3, hg⟩ := id hgm
    have loop' : ∀ (d' i' : Nat) (I1 : Nat → Nat → Int), (i' : Int) + d' = I 338 7 → (∀ b', b' < 343 → I1 b' = I b') → (∀ j', j' < i' → btM I n' j') → ∀ u' : mm_V, Ok 2 [.inr (some 338), .inl (i' : Int), u'] [] (I1, mm_R0) := by
      intro d'
      induction d' with
      | zero =>
        intro i' I1 hd' f1' hyes u'
        refine c2 _ _ _ ?_
        simp only [b_X12_wrongEntry_2, i_xorg, i_shl, i_shr, i_ior, i_and1, i_lcg1, i_lcg2, i_ld, i_la, i_st, i_sa, i_c, i_inc, i_add, i_sub, i_mul, i_div, i_rem, i_remT, i_xor, i_dup, i_dup2, i_if, i_if2, i_sw, i_gi, i_gr, i_pi, i_pz, i_ial, i_ias, i_len, i_aal, i_gs, i_tal, i_cv, i_cs, i_ir, i_zr, i_vr, i_min, i_max, i_cpy, List.getElem?_cons_zero, List.getElem?_cons_succ, List.set_cons_zero, List.set_cons_succ, List.length_cons, List.length_nil, List.drop_succ_cons, List.drop_zero, List.take_succ_cons, List.take_zero, List.reverse_cons, List.reverse_nil, List.nil_append, List.cons_append, Option.toList_some, Option.toList_none, true_and, and_true, true_or, or_true, Nat.reduceAdd, Nat.reduceLT, Nat.reduceLeDiff, Option.some.injEq, exists_eq_left', Int.toNat_natCast, Nat.reduceSub, List.append_nil, List.replicate_succ, List.replicate_zero, mm_in, w0']
        rw [f1' 338 (by omega)]
        refine fun _ => ⟨fun _ => hP I1 _ (scM_hi f1') (Or.inl ⟨rfl, fun j' hj => hyes j' (by omega)⟩), fun r' => by omega⟩
      | succ d' ih =>
        intro i' I1 hd' f1' hyes u'
        obtain ⟨gm1, eP, eY, eN'⟩ := gM_fr hgm (f1' 339 (by omega))
        have y4 := y3 i' (by omega)
        obtain ⟨t', ht⟩ := Int.eq_ofNat_of_zero_le y4.1
        have ht' : I1 341 i' = (t' : Int) := by rw [f1' 341 (by omega)]; exact ht
        have bte : btM I n' i' ↔ ((t' : Int) < I 339 1 ∧ wellM n' (MP I) (MY I) (MN I (26 + 21 * t')) ∧ eulM n' (MP I) (room n' (MP I) (MY I)).2.1 (MN I (26 + 21 * t')) = I 342 i') := by
          unfold btM
          rw [ht, Int.toNat_natCast]
        have no' : ∀ (I2' : Nat → Nat → Int) (u2' : mm_V), (∀ b', b' < 343 → I2' b' = I b') → ¬ btM I n' i' → Ok 55 [.inr (some 338), .inl (i' : Int), u2'] [] (I2', mm_R0) := by
          intro I2' u2' f2' hno
          refine c55 _ _ _ ?_
          simp only [b_X12_wrongEntry_55, i_xorg, i_shl, i_shr, i_ior, i_and1, i_lcg1, i_lcg2, i_ld, i_la, i_st, i_sa, i_c, i_inc, i_add, i_sub, i_mul, i_div, i_rem, i_remT, i_xor, i_dup, i_dup2, i_if, i_if2, i_sw, i_gi, i_gr, i_pi, i_pz, i_ial, i_ias, i_len, i_aal, i_gs, i_tal, i_cv, i_cs, i_ir, i_zr, i_vr, i_min, i_max, i_cpy, List.getElem?_cons_zero, List.getElem?_cons_succ, List.set_cons_zero, List.set_cons_succ, List.length_cons, List.length_nil, List.drop_succ_cons, List.drop_zero, List.take_succ_cons, List.take_zero, List.reverse_cons, List.reverse_nil, List.nil_append, List.cons_append, Option.toList_some, Option.toList_none, true_and, and_true, true_or, or_true, Nat.reduceAdd, Nat.reduceLT, Nat.reduceLeDiff, Option.some.injEq, exists_eq_left', Int.toNat_natCast, Nat.reduceSub, List.append_nil, List.replicate_succ, List.replicate_zero]
          exact hP I2' _ (scM_hi f2') (Or.inr ⟨i', by omega, rfl, hno, hyes⟩)
        refine c2 _ _ _ ?_
        simp only [b_X12_wrongEntry_2, i_xorg, i_shl, i_shr, i_ior, i_and1, i_lcg1, i_lcg2, i_ld, i_la, i_st, i_sa, i_c, i_inc, i_add, i_sub, i_mul, i_div, i_rem, i_remT, i_xor, i_dup, i_dup2, i_if, i_if2, i_sw, i_gi, i_gr, i_pi, i_pz, i_ial, i_ias, i_len, i_aal, i_gs, i_tal, i_cv, i_cs, i_ir, i_zr, i_vr, i_min, i_max, i_cpy, List.getElem?_cons_zero, List.getElem?_cons_succ, List.set_cons_zero, List.set_cons_succ, List.length_cons, List.length_nil, List.drop_succ_cons, List.drop_zero, List.take_succ_cons, List.take_zero, List.reverse_cons, List.reverse_nil, List.nil_append, List.cons_append, Option.toList_some, Option.toList_none, true_and, and_true, true_or, or_true, Nat.reduceAdd, Nat.reduceLT, Nat.reduceLeDiff, Option.some.injEq, exists_eq_left', Int.toNat_natCast, Nat.reduceSub, List.append_nil, List.replicate_succ, List.replicate_zero, mm_in, w0', rA, sA, rB', sB, ht', T_X12_surfaceAt, T_X12_isSurface, T_X12_isWell, T_X12_euler]
        rw [f1' 338 (by omega)]
        refine fun _ => ⟨fun r' => by omega, fun r' => ?_⟩
        rw [f1' 339 (by omega)]
        refine ⟨⟨by omega, by omega⟩, fun _ => ⟨by omega, by omega, ⟨by omega, by omega⟩, fun _ => ⟨by omega, fun zA hA => ⟨fun yA => no' I1 _ f1' (fun w' => bz_f hA yA ⟨by omega, (bte.mp w').1⟩), fun yA => ?_⟩⟩⟩⟩
        have hs := (bz_t hA yA).2
        have hb' := v3 t' hs
        obtain ⟨o, ho⟩ : ∃ o, 26 + 21 * t' = o := ⟨_, rfl⟩
        rw [ho] at hb' bte
        refine ⟨o, n', by omega, by omega, gm1, by rw [eN']; exact b20_bd hb', fun zB' hB' => ?_⟩
        rw [eP, eY, eN'] at hB'
        refine ⟨fun yB' => no' I1 _ f1' (fun w' => bz_f hB' yB' (bte.mp w').2.1), fun yB' => ?_⟩
        refine ⟨o, n', by omega, by omega, gm1, by rw [eN']; exact b20_bd hb', fun I2' f2' _ => ?_⟩
        have f3' : ∀ b', b' < 343 → I2' b' = I b' := fun b' hb' => by rw [f2' b' (by omega), f1' b' hb']
        rw [eP, eY, eN', f3' 342 (by omega)]
        refine ⟨⟨by omega, by omega⟩, fun _ => ⟨fun yC => ?_, fun yC => no' I2' _ f3' (fun w' => yC (bte.mp w').2.2)⟩⟩
        have := ih (i' + 1) I2' (by omega) f3' (fun j' hj => ?_) (.inl (26 + 21 * (t' : Int)))
        · rw [Int.natCast_add] at this
          exact ⟨⟨by omega, by omega⟩, this⟩
        · by_cases e' : j' = i'
          · subst e'
            exact bte.mpr ⟨hs, bz_t hB' yB', yC⟩
          · exact hyes j' (by omega)
    refine c0 _ _ _ ?_
    simp only [b_X12_wrongEntry_0, i_xorg, i_shl, i_shr, i_ior, i_and1, i_lcg1, i_lcg2, i_ld, i_la, i_st, i_sa, i_c, i_inc, i_add, i_sub, i_mul, i_div, i_rem, i_remT, i_xor, i_dup, i_dup2, i_if, i_if2, i_sw, i_gi, i_gr, i_pi, i_pz, i_ial, i_ias, i_len, i_aal, i_gs, i_tal, i_cv, i_cs, i_ir, i_zr, i_vr, i_min, i_max, i_cpy, List.getElem?_cons_zero, List.getElem?_cons_succ, List.set_cons_zero, List.set_cons_succ, List.length_cons, List.length_nil, List.drop_succ_cons, List.drop_zero, List.take_succ_cons, List.take_zero, List.reverse_cons, List.reverse_nil, List.nil_append, List.cons_append, Option.toList_some, Option.toList_none, true_and, and_true, true_or, or_true, Nat.reduceAdd, Nat.reduceLT, Nat.reduceLeDiff, Option.some.injEq, exists_eq_left', Int.toNat_natCast, Nat.reduceSub, List.append_nil, List.replicate_succ, List.replicate_zero, mm_in,]
    exact loop' (I 338 7).toNat 0 I (by omega) (fun _ _ => rfl) (fun j' hj => by omega) _
  · exact hT.elim
theorem sp_X12_wrongEntry : mm_Sp yX12_wrongEntry cX12_wrongEntry 3 (some .int) rm_X12_wrongEntry T_X12_wrongEntry := mm_meth (by decide) (by
  intro av σ Post h
  unfold T_X12_wrongEntry at h
  split at h
  · simp
  · exact h.elim) (fun p l e s m args below meth c G av σ Post hC hr _ hav hin hk hT => pv_X12_wrongEntry av σ Post hav hin hk hT _ (bk_X12_wrongEntry hC hr))
def toldM (I : Nat → Nat → Int) (n' : Nat) (q' z' : Int) : Prop :=
  if q' < 0 ∨ 11 < q' then z' = -1000000002 else if q' = 0 then z' = I 339 0 else if q' = 1 then z' = frn (MP I) (4 * n') else if q' = 2 then z' = nr (room n' (MP I) (MY I)).1 (4 * n') else if q' = 3 then z' = nr (room n' (MP I) (MY I)).2.1 (6 * n')
  else if q' = 4 then nbnt (room n' (MP I) (MY I)) n' z' else if q' = 5 then ngM n' (MP I) (MY I) z'
  else if q' = 6 then ∃ g' a', ngM n' (MP I) (MY I) g' ∧ nbnt (room n' (MP I) (MY I)) n' a' ∧ bz z' (g' = nr (room n' (MP I) (MY I)).1 (4 * n') ∧ a' = 0)
  else if q' = 7 then z' = I 339 1 else if q' = 8 then z' = nr (room n' (MP I) (MY I)).1 (4 * n') - nr (room n' (MP I) (MY I)).2.1 (6 * n') + (4 * n' + frn (MP I) (4 * n')) / 2 - n' + 100 else if q' = 9 then z' = I 338 7
  else if q' = 10 then fwrong (btM I n') (I 338 7).toNat z' else z' = I 338 1
theorem nbnt_ex (L : LT) (n' : Nat) : ∃ z', nbnt L n' z' := by
  classical
  refine ⟨_, fun e' => if L.2.1 e' = e' ∧ bent L n' e' (6 * n') then 1 else 0, fun e' _ => ?_, rfl⟩
  by_cases q' : L.2.1 e' = e' ∧ bent L n' e' (6 * n')
  · simp only [if_pos q']
    exact bz_1 q'
  · simp only [if_neg q']
    exact bz_0 q'
def T_X12_told : mm_T := fun av σ Post => match av with
  | [.inr (some a'), .inl q'] => σ.2 = mm_R0 ∧ a' = 338 ∧ ∃ n' : Nat, gM σ.1 n' ∧ shM σ.1 ∧ bkM σ.1 ∧ ∀ (I' : Nat → Nat → Int) (z' : Int), scM I' σ.1 → toldM σ.1 n' q' z' → Post (some (.inl z')) (I', mm_R0)
  | _ => False
def rm_X12_told : Room := { frames := 7, cells := 0, slots := 0, locals := 171 }
def b_X12_told_0 (Ok : Nat → mm_K) (Post : Option mm_V → mm_S → Prop) (kf : Nat) : mm_K := i_ld 1 (i_sw Ok 150 [(0, 64), (1, 71), (2, 76), (3, 81), (4, 86), (5, 91), (6, 96), (7, 120), (8, 127), (9, 135), (10, 140), (11, 145)])
def b_X12_told_64 (Ok : Nat → mm_K) (Post : Option mm_V → mm_S → Prop) (kf : Nat) : mm_K := i_la 0 (i_gr 11 0 (i_c 0 (i_ial (i_ir Post kf))))
def b_X12_told_71 (Ok : Nat → mm_K) (Post : Option mm_V → mm_S → Prop) (kf : Nat) : mm_K := i_la 0 (i_cv 11 0 T_X12_freeMany (i_ir Post kf))
def b_X12_told_76 (Ok : Nat → mm_K) (Post : Option mm_V → mm_S → Prop) (kf : Nat) : mm_K := i_la 0 (i_cv 11 0 T_X12_points (i_ir Post kf))
def b_X12_told_81 (Ok : Nat → mm_K) (Post : Option mm_V → mm_S → Prop) (kf : Nat) : mm_K := i_la 0 (i_cv 11 0 T_X12_lines (i_ir Post kf))
def b_X12_told_86 (Ok : Nat → mm_K) (Post : Option mm_V → mm_S → Prop) (kf : Nat) : mm_K := i_la 0 (i_cv 11 0 T_X12_bents (i_ir Post kf))
def b_X12_told_91 (Ok : Nat → mm_K) (Post : Option mm_V → mm_S → Prop) (kf : Nat) : mm_K := i_la 0 (i_cv 11 0 T_X12_goodMany (i_ir Post kf))
def b_X12_told_96 (Ok : Nat → mm_K) (Post : Option mm_V → mm_S → Prop) (kf : Nat) : mm_K := i_la 0 (i_cv 11 0 T_X12_goodMany (i_la 0 (i_cv 11 0 T_X12_points (i_if2 (fun x y => ¬ x = y) (Ok 118) (i_la 0 (i_cv 11 0 T_X12_bents (i_if (fun x => ¬ x = 0) (Ok 118) (i_c 1 (Ok 119)))))))))
def b_X12_told_118 (Ok : Nat → mm_K) (Post : Option mm_V → mm_S → Prop) (kf : Nat) : mm_K := i_c 0 (Ok 119)
def b_X12_told_119 (Ok : Nat → mm_K) (Post : Option mm_V → mm_S → Prop) (kf : Nat) : mm_K := i_ir Post kf
def b_X12_told_120 (Ok : Nat → mm_K) (Post : Option mm_V → mm_S → Prop) (kf : Nat) : mm_K := i_la 0 (i_gr 11 0 (i_c 1 (i_ial (i_ir Post kf))))
def b_X12_told_127 (Ok : Nat → mm_K) (Post : Option mm_V → mm_S → Prop) (kf : Nat) : mm_K := i_la 0 (i_cv 11 0 T_X12_characteristic (i_c 100 (i_add (i_ir Post kf))))
def b_X12_told_135 (Ok : Nat → mm_K) (Post : Option mm_V → mm_S → Prop) (kf : Nat) : mm_K := i_la 0 (i_gi 11 7 (i_ir Post kf))
def b_X12_told_140 (Ok : Nat → mm_K) (Post : Option mm_V → mm_S → Prop) (kf : Nat) : mm_K := i_la 0 (i_cv 11 0 T_X12_wrongEntry (i_ir Post kf))
def b_X12_told_145 (Ok : Nat → mm_K) (Post : Option mm_V → mm_S → Prop) (kf : Nat) : mm_K := i_la 0 (i_gi 11 1 (i_ir Post kf))
def b_X12_told_150 (Ok : Nat → mm_K) (Post : Option mm_V → mm_S → Prop) (kf : Nat) : mm_K := i_c (-1000000002) (i_ir Post kf)
def clo_X12_told (Ok : Nat → mm_K) (Post : Option mm_V → mm_S → Prop) (kf : Nat) : Prop := mm_imp (b_X12_told_0 Ok Post kf) (Ok 0) ∧ mm_imp (b_X12_told_64 Ok Post kf) (Ok 64) ∧ mm_imp (b_X12_told_71 Ok Post kf) (Ok 71) ∧ mm_imp (b_X12_told_76 Ok Post kf) (Ok 76) ∧ mm_imp (b_X12_told_81 Ok Post kf) (Ok 81) ∧ mm_imp (b_X12_told_86 Ok Post kf) (Ok 86) ∧ mm_imp (b_X12_told_91 Ok Post kf) (Ok 91) ∧ mm_imp (b_X12_told_96 Ok Post kf) (Ok 96) ∧ mm_imp (b_X12_told_118 Ok Post kf) (Ok 118) ∧ mm_imp (b_X12_told_119 Ok Post kf) (Ok 119) ∧ mm_imp (b_X12_told_120 Ok Post kf) (Ok 120) ∧ mm_imp (b_X12_told_127 Ok Post kf) (Ok 127) ∧ mm_imp (b_X12_told_135 Ok Post kf) (Ok 135) ∧ mm_imp (b_X12_told_140 Ok Post kf) (Ok 140) ∧ mm_imp (b_X12_told_145 Ok Post kf) (Ok 145) ∧ mm_imp (b_X12_told_150 Ok Post kf) (Ok 150)
set_option maxRecDepth 100000 in
set_option maxHeartbeats 4000000 in
theorem bk_X12_told {p : Program} {l : Launch} {e : Env} {s : State} {m : MethodId} {args : Array Value} {below : List Frame} {meth : Method} {c : Code} {G : mm_G} {σ0 : mm_S} {Post : Option mm_V → mm_S → Prop} (hC : mm_C p G s m args meth c cX12_told yX12_told.cls) (hr : meth.sig.returnType = some .int) : clo_X12_told (mm_O p l e rm_X12_told s m args below meth c G σ0.2.2 (MQ below (mm_Qc G σ0 rm_X12_told.cells rm_X12_told.slots Post) args s rm_X12_told.cells rm_X12_told.slots (mm_A G))) Post σ0.2.2 := ⟨(by unfold b_X12_told_0; exact (mm_ld_n hC dX12_told_0 rfl (mm_tsw hC dX12_told_1 rfl (by decide) (by decide) (by decide)))), (by unfold b_X12_told_64; exact (mm_la_n hC dX12_told_64 rfl (mm_gr hC cl_11 (by decide) rfl wd_789 dX12_told_65 (mm_ic hC dX12_told_68 ⟨by decide, by decide⟩ (mm_ial hC dX12_told_69 (mm_ir hC ⟨rfl, rfl⟩ hr dX12_told_70)))))), (by unfold b_X12_told_71; exact (mm_la_n hC dX12_told_71 rfl (mm_cv hC sp_X12_freeMany ⟨rfl, rfl⟩ cl_11 wd_833 wd_835 wd_20 wd_836 wd_77 ⟨by decide, by decide, by decide +kernel⟩ ⟨by decide, by decide⟩ dX12_told_72 (mm_ir hC ⟨rfl, rfl⟩ hr dX12_told_75)))), (by unfold b_X12_told_76; exact (mm_la_n hC dX12_told_76 rfl (mm_cv hC sp_X12_points ⟨rfl, rfl⟩ cl_11 wd_845 wd_847 wd_23 wd_848 wd_77 ⟨by decide, by decide, by decide +kernel⟩ ⟨by decide, by decide⟩ dX12_told_77 (mm_ir hC ⟨rfl, rfl⟩ hr dX12_told_80)))), (by unfold b_X12_told_81; exact (mm_la_n hC dX12_told_81 rfl (mm_cv hC sp_X12_lines ⟨rfl, rfl⟩ cl_11 wd_873 wd_875 wd_27 wd_876 wd_77 ⟨by decide, by decide, by decide +kernel⟩ ⟨by decide, by decide⟩ dX12_told_82 (mm_ir hC ⟨rfl, rfl⟩ hr dX12_told_85)))), (by unfold b_X12_told_86; exact (mm_la_n hC dX12_told_86 rfl (mm_cv hC sp_X12_bents ⟨rfl, rfl⟩ cl_11 wd_877 wd_879 wd_28 wd_880 wd_77 ⟨by decide, by decide, by decide +kernel⟩ ⟨by decide, by decide⟩ dX12_told_87 (mm_ir hC ⟨rfl, rfl⟩ hr dX12_told_90)))), (by unfold b_X12_told_91; exact (mm_la_n hC dX12_told_91 rfl (mm_cv hC sp_X12_goodMany ⟨rfl, rfl⟩ cl_11 wd_889 wd_891 wd_31 wd_892 wd_77 ⟨by decide, by decide, by decide +kernel⟩ ⟨by decide, by decide⟩ dX12_told_92 (mm_ir hC ⟨rfl, rfl⟩ hr dX12_told_95)))), (by unfold b_X12_told_96; exact (mm_la_n hC dX12_told_96 rfl (mm_cv hC sp_X12_goodMany ⟨rfl, rfl⟩ cl_11 wd_889 wd_891 wd_31 wd_892 wd_77 ⟨by decide, by decide, by decide +kernel⟩ ⟨by decide, by decide⟩ dX12_told_97 (mm_la_n hC dX12_told_100 rfl (mm_cv hC sp_X12_points ⟨rfl, rfl⟩ cl_11 wd_845 wd_847 wd_23 wd_848 wd_77 ⟨by decide, by decide, by decide +kernel⟩ ⟨by decide, by decide⟩ dX12_told_101 (mm_ic_ne hC (t := 118) dX12_told_104 (by decide) (fun _ _ _ h => h) (mm_la_n hC dX12_told_107 rfl (mm_cv hC sp_X12_bents ⟨rfl, rfl⟩ cl_11 wd_877 wd_879 wd_28 wd_880 wd_77 ⟨by decide, by decide, by decide +kernel⟩ ⟨by decide, by decide⟩ dX12_told_108 (mm_if_ne hC (t := 118) dX12_told_111 (by decide) (fun _ _ _ h => h) (mm_ic hC dX12_told_114 ⟨by decide, by decide⟩ (mm_goto hC (t := 119) dX12_told_115 (by decide) (fun _ _ _ h => h)))))))))))), (by unfold b_X12_told_118; exact (mm_ic hC dX12_told_118 ⟨by decide, by decide⟩ (fun _ _ _ h => h))), (by unfold b_X12_told_119; exact (mm_ir hC ⟨rfl, rfl⟩ hr dX12_told_119)), (by unfold b_X12_told_120; exact (mm_la_n hC dX12_told_120 rfl (mm_gr hC cl_11 (by decide) rfl wd_789 dX12_told_121 (mm_ic hC dX12_told_124 ⟨by decide, by decide⟩ (mm_ial hC dX12_told_125 (mm_ir hC ⟨rfl, rfl⟩ hr dX12_told_126)))))), (by unfold b_X12_told_127; exact (mm_la_n hC dX12_told_127 rfl (mm_cv hC sp_X12_characteristic ⟨rfl, rfl⟩ cl_11 wd_964 wd_966 wd_46 wd_967 wd_77 ⟨by decide, by decide, by decide +kernel⟩ ⟨by decide, by decide⟩ dX12_told_128 (mm_bp hC dX12_told_131 ⟨⟨by decide, by decide⟩, by decide⟩ (mm_add hC dX12_told_133 (mm_ir hC ⟨rfl, rfl⟩ hr dX12_told_134)))))), (by unfold b_X12_told_135; exact (mm_la_n hC dX12_told_135 rfl (mm_gi hC cl_11 (by decide) rfl wd_796 dX12_told_136 (mm_ir hC ⟨rfl, rfl⟩ hr dX12_told_139)))), (by unfold b_X12_told_140; exact (mm_la_n hC dX12_told_140 rfl (mm_cv hC sp_X12_wrongEntry ⟨rfl, rfl⟩ cl_11 wd_968 wd_970 wd_47 wd_971 wd_77 ⟨by decide, by decide, by decide +kernel⟩ ⟨by decide, by decide⟩ dX12_told_141 (mm_ir hC ⟨rfl, rfl⟩ hr dX12_told_144)))), (by unfold b_X12_told_145; exact (mm_la_n hC dX12_told_145 rfl (mm_gi hC cl_11 (by decide) rfl wd_790 dX12_told_146 (mm_ir hC ⟨rfl, rfl⟩ hr dX12_told_149)))), (by unfold b_X12_told_150; exact (mm_ldc hC dX12_told_150 ⟨by decide, by decide⟩ wd_994 (mm_ir hC ⟨rfl, rfl⟩ hr dX12_told_152)))⟩
set_option maxRecDepth 100000 in
set_option maxHeartbeats 8000000 in
theorem pv_X12_told : ∀ (av : List mm_V) (σ : mm_S) (Post : Option mm_V → mm_S → Prop), (∀ v ∈ av, mm_iv v) → (∀ a j, mm_in (σ.1 a j)) → σ.2.2 ≤ 348 → T_X12_told av σ Post → ∀ Ok : Nat → mm_K, clo_X12_told Ok Post σ.2.2 → Ok 0 (av ++ List.replicate (2 - av.length) (.inr none)) [] σ := by
  intro av σ Post hav hin hk hT Ok hcl
  obtain ⟨I, R0⟩ := σ
  unfold T_X12_told at hT
  split at hT
  · rename_i a' q'
    obtain ⟨h0, hT⟩ := hT
    have h0 : R0 = mm_R0 := h0
    subst h0
    dsimp only at hT hin
    obtain ⟨c0, c64, c71, c76, c81, c86, c91, c96, c118, c119, c120, c127, c135, c140, c145, c150⟩ := hcl
    obtain ⟨rfl, n', hgm, hsh, hbk, hP⟩ := hT
    have w0' := m0
    have w1' := m1
    have w2' := m2
    obtain ⟨hn, hn1, hn3, hg⟩ := id hgm
    unfold toldM at hP
    have bA := nr_b (room n' (MP I) (MY I)).1 (4 * n')
    have bB' := nr_b (room n' (MP I) (MY I)).2.1 (6 * n')
    have bC' := frn_b (MP I) (4 * n')
    have hM' : ∀ j', j' < 12 → -1 ≤ MP I j' := fun j' hj => by rcases hg j' hj with e' | e' <;> omega
    refine c0 _ _ _ ?_
    simp only [b_X12_told_0, i_xorg, i_shl, i_shr, i_ior, i_and1, i_lcg1, i_lcg2, i_ld, i_la, i_st, i_sa, i_c, i_inc, i_add, i_sub, i_mul, i_div, i_rem, i_remT, i_xor, i_dup, i_dup2, i_if, i_if2, i_sw, i_gi, i_gr, i_pi, i_pz, i_ial, i_ias, i_len, i_aal, i_gs, i_tal, i_cv, i_cs, i_ir, i_zr, i_vr, i_min, i_max, i_cpy, List.getElem?_cons_zero, List.getElem?_cons_succ, List.set_cons_zero, List.set_cons_succ, List.length_cons, List.length_nil, List.drop_succ_cons, List.drop_zero, List.take_succ_cons, List.take_zero, List.reverse_cons, List.reverse_nil, List.nil_append, List.cons_append, Option.toList_some, Option.toList_none, true_and, and_true, true_or, or_true, Nat.reduceAdd, Nat.reduceLT, Nat.reduceLeDiff, Option.some.injEq, exists_eq_left', Int.toNat_natCast, Nat.reduceSub, List.append_nil, List.replicate_succ, List.replicate_zero, mm_in,]
    refine ⟨fun q0 => ?_, fun q0 => ⟨fun q1' => ?_, fun q1' => ⟨fun q2' => ?_, fun q2' => ⟨fun q3' => ?_, fun q3' => ⟨fun q4' => ?_, fun q4' => ⟨fun q5' => ?_, fun q5' => ⟨fun q6 => ?_, fun q6 => ⟨fun q7' => ?_, fun q7' => ⟨fun q8' => ?_, fun q8' => ⟨fun q9' => ?_, fun q9' => ⟨fun qA => ?_, fun qA => ⟨fun qB => ?_, fun qB => ?_⟩⟩⟩⟩⟩⟩⟩⟩⟩⟩⟩⟩
    · refine c64 _ _ _ ?_
      simp only [b_X12_told_64, i_xorg, i_shl, i_shr, i_ior, i_and1, i_lcg1, i_lcg2, i_ld, i_la, i_st, i_sa, i_c, i_inc, i_add, i_sub, i_mul, i_div, i_rem, i_remT, i_xor, i_dup, i_dup2, i_if, i_if2, i_sw, i_gi, i_gr, i_pi, i_pz, i_ial, i_ias, i_len, i_aal, i_gs, i_tal, i_cv, i_cs, i_ir, i_zr, i_vr, i_min, i_max, i_cpy, List.getElem?_cons_zero, List.getElem?_cons_succ, List.set_cons_zero, List.set_cons_succ, List.length_cons, List.length_nil, List.drop_succ_cons, List.drop_zero, List.take_succ_cons, List.take_zero, List.reverse_cons, List.reverse_nil, List.nil_append, List.cons_append, Option.toList_some, Option.toList_none, true_and, and_true, true_or, or_true, Nat.reduceAdd, Nat.reduceLT, Nat.reduceLeDiff, Option.some.injEq, exists_eq_left', Int.toNat_natCast, Nat.reduceSub, List.append_nil, List.replicate_succ, List.replicate_zero, mm_in, w0', w1', w2', t0]
      refine ⟨⟨by omega, by omega⟩, fun _ => hP I _ (scM_rf I) (by rw [if_neg (by omega), if_pos q0])⟩
    · refine c71 _ _ _ ?_
      simp only [b_X12_told_71, i_xorg, i_shl, i_shr, i_ior, i_and1, i_lcg1, i_lcg2, i_ld, i_la, i_st, i_sa, i_c, i_inc, i_add, i_sub, i_mul, i_div, i_rem, i_remT, i_xor, i_dup, i_dup2, i_if, i_if2, i_sw, i_gi, i_gr, i_pi, i_pz, i_ial, i_ias, i_len, i_aal, i_gs, i_tal, i_cv, i_cs, i_ir, i_zr, i_vr, i_min, i_max, i_cpy, List.getElem?_cons_zero, List.getElem?_cons_succ, List.set_cons_zero, List.set_cons_succ, List.length_cons, List.length_nil, List.drop_succ_cons, List.drop_zero, List.take_succ_cons, List.take_zero, List.reverse_cons, List.reverse_nil, List.nil_append, List.cons_append, Option.toList_some, Option.toList_none, true_and, and_true, true_or, or_true, Nat.reduceAdd, Nat.reduceLT, Nat.reduceLeDiff, Option.some.injEq, exists_eq_left', Int.toNat_natCast, Nat.reduceSub, List.append_nil, List.replicate_succ, List.replicate_zero, mm_in, w0', T_X12_freeMany]
      refine ⟨n', hn, hn3, hM', hP I _ (scM_rf I) (by rw [if_neg (by omega), if_neg q0, if_pos q1'])⟩
    · refine c76 _ _ _ ?_
      simp only [b_X12_told_76, i_xorg, i_shl, i_shr, i_ior, i_and1, i_lcg1, i_lcg2, i_ld, i_la, i_st, i_sa, i_c, i_inc, i_add, i_sub, i_mul, i_div, i_rem, i_remT, i_xor, i_dup, i_dup2, i_if, i_if2, i_sw, i_gi, i_gr, i_pi, i_pz, i_ial, i_ias, i_len, i_aal, i_gs, i_tal, i_cv, i_cs, i_ir, i_zr, i_vr, i_min, i_max, i_cpy, List.getElem?_cons_zero, List.getElem?_cons_succ, List.set_cons_zero, List.set_cons_succ, List.length_cons, List.length_nil, List.drop_succ_cons, List.drop_zero, List.take_succ_cons, List.take_zero, List.reverse_cons, List.reverse_nil, List.nil_append, List.cons_append, Option.toList_some, Option.toList_none, true_and, and_true, true_or, or_true, Nat.reduceAdd, Nat.reduceLT, Nat.reduceLeDiff, Option.some.injEq, exists_eq_left', Int.toNat_natCast, Nat.reduceSub, List.append_nil, List.replicate_succ, List.replicate_zero, mm_in, w0', T_X12_points]
      refine ⟨n', hgm, fun I' sA => hP I' _ sA (by rw [if_neg (by omega), if_neg q0, if_neg q1', if_pos q2'])⟩
    · refine c81 _ _ _ ?_
      simp only [b_X12_told_81, i_xorg, i_shl, i_shr, i_ior, i_and1, i_lcg1, i_lcg2, i_ld, i_la, i_st, i_sa, i_c, i_inc, i_add, i_sub, i_mul, i_div, i_rem, i_remT, i_xor, i_dup, i_dup2, i_if, i_if2, i_sw, i_gi, i_gr, i_pi, i_pz, i_ial, i_ias, i_len, i_aal, i_gs, i_tal, i_cv, i_cs, i_ir, i_zr, i_vr, i_min, i_max, i_cpy, List.getElem?_cons_zero, List.getElem?_cons_succ, List.set_cons_zero, List.set_cons_succ, List.length_cons, List.length_nil, List.drop_succ_cons, List.drop_zero, List.take_succ_cons, List.take_zero, List.reverse_cons, List.reverse_nil, List.nil_append, List.cons_append, Option.toList_some, Option.toList_none, true_and, and_true, true_or, or_true, Nat.reduceAdd, Nat.reduceLT, Nat.reduceLeDiff, Option.some.injEq, exists_eq_left', Int.toNat_natCast, Nat.reduceSub, List.append_nil, List.replicate_succ, List.replicate_zero, mm_in, w0', T_X12_lines]
      refine ⟨n', hgm, fun I' sA => hP I' _ sA (by rw [if_neg (by omega), if_neg q0, if_neg q1', if_neg q2', if_pos q3'])⟩
    · refine c86 _ _ _ ?_
      simp only [b_X12_told_86, i_xorg, i_shl, i_shr, i_ior, i_and1, i_lcg1, i_lcg2, i_ld, i_la, i_st, i_sa, i_c, i_inc, i_add, i_sub, i_mul, i_div, i_rem, i_remT, i_xor, i_dup, i_dup2, i_if, i_if2, i_sw, i_gi, i_gr, i_pi, i_pz, i_ial, i_ias, i_len, i_aal, i_gs, i_tal, i_cv, i_cs, i_ir, i_zr, i_vr, i_min, i_max, i_cpy, List.getElem?_cons_zero, List.getElem?_cons_succ, List.set_cons_zero, List.set_cons_succ, List.length_cons, List.length_nil, List.drop_succ_cons, List.drop_zero, List.take_succ_cons, List.take_zero, List.reverse_cons, List.reverse_nil, List.nil_append, List.cons_append, Option.toList_some, Option.toList_none, true_and, and_true, true_or, or_true, Nat.reduceAdd, Nat.reduceLT, Nat.reduceLeDiff, Option.some.injEq, exists_eq_left', Int.toNat_natCast, Nat.reduceSub, List.append_nil, List.replicate_succ, List.replicate_zero, mm_in, w0', T_X12_bents]
      refine ⟨n', hgm, fun I' z' sA hz => hP I' _ sA (by rw [if_neg (by omega), if_neg q0, if_neg q1', if_neg q2', if_neg q3', if_pos q4']; exact hz)⟩
    · refine c91 _ _ _ ?_
      simp only [b_X12_told_91, i_xorg, i_shl, i_shr, i_ior, i_and1, i_lcg1, i_lcg2, i_ld, i_la, i_st, i_sa, i_c, i_inc, i_add, i_sub, i_mul, i_div, i_rem, i_remT, i_xor, i_dup, i_dup2, i_if, i_if2, i_sw, i_gi, i_gr, i_pi, i_pz, i_ial, i_ias, i_len, i_aal, i_gs, i_tal, i_cv, i_cs, i_ir, i_zr, i_vr, i_min, i_max, i_cpy, List.getElem?_cons_zero, List.getElem?_cons_succ, List.set_cons_zero, List.set_cons_succ, List.length_cons, List.length_nil, List.drop_succ_cons, List.drop_zero, List.take_succ_cons, List.take_zero, List.reverse_cons, List.reverse_nil, List.nil_append, List.cons_append, Option.toList_some, Option.toList_none, true_and, and_true, true_or, or_true, Nat.reduceAdd, Nat.reduceLT, Nat.reduceLeDiff, Option.some.injEq, exists_eq_left', Int.toNat_natCast, Nat.reduceSub, List.append_nil, List.replicate_succ, List.replicate_zero, mm_in, w0', T_X12_goodMany]
      refine ⟨n', hgm, fun I' z' sA hz => hP I' _ sA (by rw [if_neg (by omega), if_neg q0, if_neg q1', if_neg q2', if_neg q3', if_neg q4', if_pos q5']; exact hz)⟩
    · have fin' : ∀ (I' : Nat → Nat → Int) (z' : Int), scM I' I → (∃ g' a', ngM n' (MP I) (MY I) g' ∧ nbnt (room n' (MP I) (MY I)) n' a' ∧ bz z' (g' = nr (room n' (MP I) (MY I)).1 (4 * n') ∧ a' = 0)) → Ok 119 [.inr (some 338), .inl q'] [.inl z'] (I', mm_R0) := by
        intro I' z' sA hz
        refine c119 _ _ _ ?_
        simp only [b_X12_told_119, i_xorg, i_shl, i_shr, i_ior, i_and1, i_lcg1, i_lcg2, i_ld, i_la, i_st, i_sa, i_c, i_inc, i_add, i_sub, i_mul, i_div, i_rem, i_remT, i_xor, i_dup, i_dup2, i_if, i_if2, i_sw, i_gi, i_gr, i_pi, i_pz, i_ial, i_ias, i_len, i_aal, i_gs, i_tal, i_cv, i_cs, i_ir, i_zr, i_vr, i_min, i_max, i_cpy, List.getElem?_cons_zero, List.getElem?_cons_succ, List.set_cons_zero, List.set_cons_succ, List.length_cons, List.length_nil, List.drop_succ_cons, List.drop_zero, List.take_succ_cons, List.take_zero, List.reverse_cons, List.reverse_nil, List.nil_append, List.cons_append, Option.toList_some, Option.toList_none, true_and, and_true, true_or, or_true, Nat.reduceAdd, Nat.reduceLT, Nat.reduceLeDiff, Option.some.injEq, exists_eq_left', Int.toNat_natCast, Nat.reduceSub, List.append_nil, List.replicate_succ, List.replicate_zero]
        exact hP I' z' sA (by rw [if_neg (by omega), if_neg q0, if_neg q1', if_neg q2', if_neg q3', if_neg q4', if_neg q5', if_pos q6]; exact hz)
      have no' : ∀ (I' : Nat → Nat → Int), scM I' I → (∃ g' a', ngM n' (MP I) (MY I) g' ∧ nbnt (room n' (MP I) (MY I)) n' a' ∧ ¬ (g' = nr (room n' (MP I) (MY I)).1 (4 * n') ∧ a' = 0)) → Ok 118 [.inr (some 338), .inl q'] [] (I', mm_R0) := by
        intro I' sA hz
        obtain ⟨g', a', hA, hB', hC⟩ := hz
        refine c118 _ _ _ ?_
        simp only [b_X12_told_118, i_xorg, i_shl, i_shr, i_ior, i_and1, i_lcg1, i_lcg2, i_ld, i_la, i_st, i_sa, i_c, i_inc, i_add, i_sub, i_mul, i_div, i_rem, i_remT, i_xor, i_dup, i_dup2, i_if, i_if2, i_sw, i_gi, i_gr, i_pi, i_pz, i_ial, i_ias, i_len, i_aal, i_gs, i_tal, i_cv, i_cs, i_ir, i_zr, i_vr, i_min, i_max, i_cpy, List.getElem?_cons_zero, List.getElem?_cons_succ, List.set_cons_zero, List.set_cons_succ, List.length_cons, List.length_nil, List.drop_succ_cons, List.drop_zero, List.take_succ_cons, List.take_zero, List.reverse_cons, List.reverse_nil, List.nil_append, List.cons_append, Option.toList_some, Option.toList_none, true_and, and_true, true_or, or_true, Nat.reduceAdd, Nat.reduceLT, Nat.reduceLeDiff, Option.some.injEq, exists_eq_left', Int.toNat_natCast, Nat.reduceSub, List.append_nil, List.replicate_succ, List.replicate_zero]
        exact fin' I' 0 sA ⟨g', a', hA, hB', bz_0 hC⟩
      obtain ⟨a0', hao⟩ := nbnt_ex (room n' (MP I) (MY I)) n'
      refine c96 _ _ _ ?_
      simp only [b_X12_told_96, i_xorg, i_shl, i_shr, i_ior, i_and1, i_lcg1, i_lcg2, i_ld, i_la, i_st, i_sa, i_c, i_inc, i_add, i_sub, i_mul, i_div, i_rem, i_remT, i_xor, i_dup, i_dup2, i_if, i_if2, i_sw, i_gi, i_gr, i_pi, i_pz, i_ial, i_ias, i_len, i_aal, i_gs, i_tal, i_cv, i_cs, i_ir, i_zr, i_vr, i_min, i_max, i_cpy, List.getElem?_cons_zero, List.getElem?_cons_succ, List.set_cons_zero, List.set_cons_succ, List.length_cons, List.length_nil, List.drop_succ_cons, List.drop_zero, List.take_succ_cons, List.take_zero, List.reverse_cons, List.reverse_nil, List.nil_append, List.cons_append, Option.toList_some, Option.toList_none, true_and, and_true, true_or, or_true, Nat.reduceAdd, Nat.reduceLT, Nat.reduceLeDiff, Option.some.injEq, exists_eq_left', Int.toNat_natCast, Nat.reduceSub, List.append_nil, List.replicate_succ, List.replicate_zero, mm_in, w0', T_X12_goodMany, T_X12_points, T_X12_bents]
      refine ⟨n', hgm, fun I' g' sA hgz => ?_⟩
      obtain ⟨gmA, aA⟩ := gM_sc hgm sA
      refine ⟨n', gmA, fun I'' sB => ?_⟩
      rw [← room_cg hn3 aA hg]
      have sC' := scM_tr sA sB
      obtain ⟨gmB, aB⟩ := gM_sc hgm sC'
      refine ⟨fun r' => no' I'' sC' ⟨g', a0', hgz, hao, fun w' => r' w'.1⟩, fun r' => ⟨n', gmB, fun I3 a' sD haz => ?_⟩⟩
      rw [← room_cg hn3 aB hg] at haz
      refine ⟨fun r' => no' I3 (scM_tr sC' sD) ⟨g', a', hgz, haz, fun w' => r' w'.2⟩, fun r' => fin' I3 1 (scM_tr sC' sD) ⟨g', a', hgz, haz, bz_1 ⟨by omega, by omega⟩⟩⟩
    · refine c120 _ _ _ ?_
      simp only [b_X12_told_120, i_xorg, i_shl, i_shr, i_ior, i_and1, i_lcg1, i_lcg2, i_ld, i_la, i_st, i_sa, i_c, i_inc, i_add, i_sub, i_mul, i_div, i_rem, i_remT, i_xor, i_dup, i_dup2, i_if, i_if2, i_sw, i_gi, i_gr, i_pi, i_pz, i_ial, i_ias, i_len, i_aal, i_gs, i_tal, i_cv, i_cs, i_ir, i_zr, i_vr, i_min, i_max, i_cpy, List.getElem?_cons_zero, List.getElem?_cons_succ, List.set_cons_zero, List.set_cons_succ, List.length_cons, List.length_nil, List.drop_succ_cons, List.drop_zero, List.take_succ_cons, List.take_zero, List.reverse_cons, List.reverse_nil, List.nil_append, List.cons_append, Option.toList_some, Option.toList_none, true_and, and_true, true_or, or_true, Nat.reduceAdd, Nat.reduceLT, Nat.reduceLeDiff, Option.some.injEq, exists_eq_left', Int.toNat_natCast, Nat.reduceSub, List.append_nil, List.replicate_succ, List.replicate_zero, mm_in, w0', w1', w2', t1]
      refine ⟨⟨by omega, by omega⟩, fun _ => hP I _ (scM_rf I) (by rw [if_neg (by omega), if_neg q0, if_neg q1', if_neg q2', if_neg q3', if_neg q4', if_neg q5', if_neg q6, if_pos q7'])⟩
    · refine c127 _ _ _ ?_
      simp only [b_X12_told_127, i_xorg, i_shl, i_shr, i_ior, i_and1, i_lcg1, i_lcg2, i_ld, i_la, i_st, i_sa, i_c, i_inc, i_add, i_sub, i_mul, i_div, i_rem, i_remT, i_xor, i_dup, i_dup2, i_if, i_if2, i_sw, i_gi, i_gr, i_pi, i_pz, i_ial, i_ias, i_len, i_aal, i_gs, i_tal, i_cv, i_cs, i_ir, i_zr, i_vr, i_min, i_max, i_cpy, List.getElem?_cons_zero, List.getElem?_cons_succ, List.set_cons_zero, List.set_cons_succ, List.length_cons, List.length_nil, List.drop_succ_cons, List.drop_zero, List.take_succ_cons, List.take_zero, List.reverse_cons, List.reverse_nil, List.nil_append, List.cons_append, Option.toList_some, Option.toList_none, true_and, and_true, true_or, or_true, Nat.reduceAdd, Nat.reduceLT, Nat.reduceLeDiff, Option.some.injEq, exists_eq_left', Int.toNat_natCast, Nat.reduceSub, List.append_nil, List.replicate_succ, List.replicate_zero, mm_in, w0', T_X12_characteristic]
      refine ⟨n', hgm, fun I' sA => ⟨⟨by omega, by omega⟩, hP I' _ sA (by rw [if_neg (by omega), if_neg q0, if_neg q1', if_neg q2', if_neg q3', if_neg q4', if_neg q5', if_neg q6, if_neg q7', if_pos q8'])⟩⟩
    · refine c135 _ _ _ ?_
      simp only [b_X12_told_135, i_xorg, i_shl, i_shr, i_ior, i_and1, i_lcg1, i_lcg2, i_ld, i_la, i_st, i_sa, i_c, i_inc, i_add, i_sub, i_mul, i_div, i_rem, i_remT, i_xor, i_dup, i_dup2, i_if, i_if2, i_sw, i_gi, i_gr, i_pi, i_pz, i_ial, i_ias, i_len, i_aal, i_gs, i_tal, i_cv, i_cs, i_ir, i_zr, i_vr, i_min, i_max, i_cpy, List.getElem?_cons_zero, List.getElem?_cons_succ, List.set_cons_zero, List.set_cons_succ, List.length_cons, List.length_nil, List.drop_succ_cons, List.drop_zero, List.take_succ_cons, List.take_zero, List.reverse_cons, List.reverse_nil, List.nil_append, List.cons_append, Option.toList_some, Option.toList_none, true_and, and_true, true_or, or_true, Nat.reduceAdd, Nat.reduceLT, Nat.reduceLeDiff, Option.some.injEq, exists_eq_left', Int.toNat_natCast, Nat.reduceSub, List.append_nil, List.replicate_succ, List.replicate_zero, mm_in, w0']
      exact fun _ => hP I _ (scM_rf I) (by rw [if_neg (by omega), if_neg q0, if_neg q1', if_neg q2', if_neg q3', if_neg q4', if_neg q5', if_neg q6, if_neg q7', if_neg q8', if_pos q9'])
    · refine c140 _ _ _ ?_
      simp only [b_X12_told_140, i_xorg, i_shl, i_shr, i_ior, i_and1, i_lcg1, i_lcg2, i_ld, i_la, i_st, i_sa, i_c, i_inc, i_add, i_sub, i_mul, i_div, i_rem, i_remT, i_xor, i_dup, i_dup2, i_if, i_if2, i_sw, i_gi, i_gr, i_pi, i_pz, i_ial, i_ias, i_len, i_aal, i_gs, i_tal, i_cv, i_cs, i_ir, i_zr, i_vr, i_min, i_max, i_cpy, List.getElem?_cons_zero, List.getElem?_cons_succ, List.set_cons_zero, List.set_cons_succ, List.length_cons, List.length_nil, List.drop_succ_cons, List.drop_zero, List.take_succ_cons, List.take_zero, List.reverse_cons, List.reverse_nil, List.nil_append, List.cons_append, Option.toList_some, Option.toList_none, true_and, and_true, true_or, or_true, Nat.reduceAdd, Nat.reduceLT, Nat.reduceLeDiff, Option.some.injEq, exists_eq_left', Int.toNat_natCast, Nat.reduceSub, List.append_nil, List.replicate_succ, List.replicate_zero, mm_in, w0', T_X12_wrongEntry]
      refine ⟨n', hgm, hsh, hbk, fun I' z' sA hz => hP I' _ sA (by rw [if_neg (by omega), if_neg q0, if_neg q1', if_neg q2', if_neg q3', if_neg q4', if_neg q5', if_neg q6, if_neg q7', if_neg q8', if_neg q9', if_pos qA]; exact hz)⟩
    · refine c145 _ _ _ ?_
      simp only [b_X12_told_145, i_xorg, i_shl, i_shr, i_ior, i_and1, i_lcg1, i_lcg2, i_ld, i_la, i_st, i_sa, i_c, i_inc, i_add, i_sub, i_mul, i_div, i_rem, i_remT, i_xor, i_dup, i_dup2, i_if, i_if2, i_sw, i_gi, i_gr, i_pi, i_pz, i_ial, i_ias, i_len, i_aal, i_gs, i_tal, i_cv, i_cs, i_ir, i_zr, i_vr, i_min, i_max, i_cpy, List.getElem?_cons_zero, List.getElem?_cons_succ, List.set_cons_zero, List.set_cons_succ, List.length_cons, List.length_nil, List.drop_succ_cons, List.drop_zero, List.take_succ_cons, List.take_zero, List.reverse_cons, List.reverse_nil, List.nil_append, List.cons_append, Option.toList_some, Option.toList_none, true_and, and_true, true_or, or_true, Nat.reduceAdd, Nat.reduceLT, Nat.reduceLeDiff, Option.some.injEq, exists_eq_left', Int.toNat_natCast, Nat.reduceSub, List.append_nil, List.replicate_succ, List.replicate_zero, mm_in, w0']
      exact fun _ => hP I _ (scM_rf I) (by rw [if_neg (by omega), if_neg q0, if_neg q1', if_neg q2', if_neg q3', if_neg q4', if_neg q5', if_neg q6, if_neg q7', if_neg q8', if_neg q9', if_neg qA])
    · refine c150 _ _ _ ?_
      simp only [b_X12_told_150, i_xorg, i_shl, i_shr, i_ior, i_and1, i_lcg1, i_lcg2, i_ld, i_la, i_st, i_sa, i_c, i_inc, i_add, i_sub, i_mul, i_div, i_rem, i_remT, i_xor, i_dup, i_dup2, i_if, i_if2, i_sw, i_gi, i_gr, i_pi, i_pz, i_ial, i_ias, i_len, i_aal, i_gs, i_tal, i_cv, i_cs, i_ir, i_zr, i_vr, i_min, i_max, i_cpy, List.getElem?_cons_zero, List.getElem?_cons_succ, List.set_cons_zero, List.set_cons_succ, List.length_cons, List.length_nil, List.drop_succ_cons, List.drop_zero, List.take_succ_cons, List.take_zero, List.reverse_cons, List.reverse_nil, List.nil_append, List.cons_append, Option.toList_some, Option.toList_none, true_and, and_true, true_or, or_true, Nat.reduceAdd, Nat.reduceLT, Nat.reduceLeDiff, Option.some.injEq, exists_eq_left', Int.toNat_natCast, Nat.reduceSub, List.append_nil, List.replicate_succ, List.replicate_zero]
      exact hP I _ (scM_rf I) (by rw [if_pos (by omega)])
  · exact hT.elim
theorem sp_X12_told : mm_Sp yX12_told cX12_told 2 (some .int) rm_X12_told T_X12_told := mm_meth (by decide) (by
  intro av σ Post h
  unfold T_X12_told at h
  split at h
  · simp
  · exact h.elim) (fun p l e s m args below meth c G av σ Post hC hr _ hav hin hk hT => pv_X12_told av σ Post hav hin hk hT _ (bk_X12_told hC hr))
