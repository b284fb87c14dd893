/-! the other program: add
-/
theorem us_0 {nb : Nat → Int} {b' : Nat} (h' : ∀ t', t' < 3 → nb (7 * b' + (4 + t')) = 0) : us nb b' = 0 := by
  unfold us
  rw [sm_congr (g := fun _ => 0) (fun t' ht => by rw [h' t' ht, if_neg (by omega)])]
  rfl
theorem crs_n {nb : Nat → Int} {n : Nat} (hn : n ≤ 3) (h' : ∀ i', 7 * n ≤ i' → i' < 21 → nb i' = 0) : crs nb n ↔ crs nb 3 := by
  constructor
  · rintro ⟨b', hb', hc⟩
    exact ⟨b', by omega, hc⟩
  · rintro ⟨b', hb', hc⟩
    by_cases q' : b' < n
    · exact ⟨b', q', hc⟩
    · rw [us_0 (fun t' ht => h' _ (by omega) (by omega))] at hc
      omega
theorem crs_cg {p q' : Nat → Int} (h' : ∀ i', i' < 21 → p i' = q' i') {n : Nat} (hn : n ≤ 3) : crs p n ↔ crs q' n := by
  constructor
  · rintro ⟨b', hb', hc⟩
    exact ⟨b', hb', by rw [← us_cg h' (by omega)]; exact hc⟩
  · rintro ⟨b', hb', hc⟩
    exact ⟨b', hb', by rw [us_cg h' (by omega)]; exact hc⟩
def T_X12_add : mm_T := fun av σ Post => match av with
  | [.inr (some a), .inl s, .inl u] => mT (fun S' => addF S' s u) a σ Post
  | _ => False
def rm_X12_add : Room := { frames := 2, cells := 0, slots := 0, locals := 44 }
def b_X12_add_0 (Ok : Nat → mm_K) (Post : Option mm_V → mm_S → Prop) (kf : Nat) : mm_K := i_la 0 (i_ld 1 (i_cv 11 1 T_X12_isSurface (i_if (fun x => x = 0) (Ok 16) (i_la 0 (i_ld 2 (i_cv 11 1 T_X12_isSurface (i_if (fun x => ¬ x = 0) (i_la 0 (i_gr 11 0 (i_c 1 (i_ial (i_c 6 (i_if2 (fun x y => ¬ x = y) (i_c 1 (i_st 3 (i_c 0 (i_st 4 (Ok 38))))) (i_c (-1000000004) (i_ir Post kf)))))))) (Ok 16))))))))
def b_X12_add_16 (Ok : Nat → mm_K) (Post : Option mm_V → mm_S → Prop) (kf : Nat) : mm_K := i_c (-1000000001) (i_ir Post kf)
def b_X12_add_38 (Ok : Nat → mm_K) (Post : Option mm_V → mm_S → Prop) (kf : Nat) : mm_K := i_ld 4 (i_c 21 (i_if2 (fun x y => y ≤ x) (i_ld 3 (i_if (fun x => x = 0) (Ok 140) (i_la 0 (i_c 2888 (i_cv 11 1 T_X12_crosses (i_if (fun x => x = 0) (i_la 0 (i_cv 11 0 T_X12_remember (i_la 0 (i_cv 11 0 T_X12_newSurface (i_st 4 (i_c 0 (i_st 5 (Ok 156)))))))) (Ok 140))))))) (i_ld 4 (i_c 7 (i_la 0 (i_gr 11 0 (i_c 0 (i_ial (i_mul (i_if2 (fun x y => y ≤ x) (i_c 0 (Ok 88)) (i_la 0 (i_gr 11 0 (i_ld 1 (i_cs 1 T_X12_surfaceAt (i_ld 4 (i_add (i_ial (i_la 0 (i_gr 11 0 (i_ld 2 (i_cs 1 T_X12_surfaceAt (i_ld 4 (i_add (i_ial (i_add (Ok 88))))))))))))))))))))))))))
def b_X12_add_88 (Ok : Nat → mm_K) (Post : Option mm_V → mm_S → Prop) (kf : Nat) : mm_K := i_st 5 (i_la 0 (i_gr 11 0 (i_c 2888 (i_ld 4 (i_add (i_ld 5 (i_ias (i_ld 3 (i_if (fun x => x = 0) (Ok 118) (i_ld 5 (i_c 20 (i_if2 (fun x y => y < x) (Ok 118) (i_c 1 (Ok 119))))))))))))))
def b_X12_add_118 (Ok : Nat → mm_K) (Post : Option mm_V → mm_S → Prop) (kf : Nat) : mm_K := i_c 0 (Ok 119)
def b_X12_add_119 (Ok : Nat → mm_K) (Post : Option mm_V → mm_S → Prop) (kf : Nat) : mm_K := i_st 3 (i_inc 4 1 (Ok 38))
def b_X12_add_140 (Ok : Nat → mm_K) (Post : Option mm_V → mm_S → Prop) (kf : Nat) : mm_K := i_c (-1000000003) (i_ir Post kf)
def b_X12_add_156 (Ok : Nat → mm_K) (Post : Option mm_V → mm_S → Prop) (kf : Nat) : mm_K := i_ld 5 (i_c 21 (i_if2 (fun x y => y ≤ x) (i_la 0 (i_gr 11 0 (i_c 1 (i_ial (i_c 1 (i_sub (i_ir Post kf))))))) (i_la 0 (i_gr 11 0 (i_ld 4 (i_ld 5 (i_add (i_la 0 (i_gr 11 0 (i_c 2888 (i_ld 5 (i_add (i_ial (i_ias (i_inc 5 1 (Ok 156))))))))))))))))
def clo_X12_add (Ok : Nat → mm_K) (Post : Option mm_V → mm_S → Prop) (kf : Nat) : Prop := mm_imp (b_X12_add_0 Ok Post kf) (Ok 0) ∧ mm_imp (b_X12_add_16 Ok Post kf) (Ok 16) ∧ mm_imp (b_X12_add_38 Ok Post kf) (Ok 38) ∧ mm_imp (b_X12_add_88 Ok Post kf) (Ok 88) ∧ mm_imp (b_X12_add_118 Ok Post kf) (Ok 118) ∧ mm_imp (b_X12_add_119 Ok Post kf) (Ok 119) ∧ mm_imp (b_X12_add_140 Ok Post kf) (Ok 140) ∧ mm_imp (b_X12_add_156 Ok Post kf) (Ok 156)
set_option maxRecDepth 100000 in
set_option maxHeartbeats 4000000 in
theorem bk_X12_add {p : Program} {l : Launch} {e : Env} {s : State} {m : MethodId} {args : Array Value} {below : List Frame} {meth : Method} {c : Code} {G : mm_G} {σ0 : mm_S} {Post : Option mm_V → mm_S → Prop} (hC : mm_C p G s m args meth c cX12_add yX12_add.cls) (hr : meth.sig.returnType = some .int) : clo_X12_add (mm_O p l e rm_X12_add s m args below meth c G σ0.2.2 (MQ below (mm_Qc G σ0 rm_X12_add.cells rm_X12_add.slots Post) args s rm_X12_add.cells rm_X12_add.slots (mm_A G))) Post σ0.2.2 := ⟨(by unfold b_X12_add_0; exact (mm_la_n hC dX12_add_0 rfl (mm_ld_n hC dX12_add_1 rfl (mm_cv hC sp_X12_isSurface ⟨rfl, rfl⟩ cl_11 wd_975 wd_977 wd_48 wd_978 wd_77 ⟨by decide, by decide, by decide +kernel⟩ ⟨by decide, by decide⟩ dX12_add_2 (mm_if_eq hC (t := 16) dX12_add_5 (by decide) (fun _ _ _ h => h) (mm_la_n hC dX12_add_8 rfl (mm_ld_n hC dX12_add_9 rfl (mm_cv hC sp_X12_isSurface ⟨rfl, rfl⟩ cl_11 wd_975 wd_977 wd_48 wd_978 wd_77 ⟨by decide, by decide, by decide +kernel⟩ ⟨by decide, by decide⟩ dX12_add_10 (mm_if_ne hC (t := 19) dX12_add_13 (by decide) (mm_la_n hC dX12_add_19 rfl (mm_gr hC cl_11 (by decide) rfl wd_789 dX12_add_20 (mm_ic hC dX12_add_23 ⟨by decide, by decide⟩ (mm_ial hC dX12_add_24 (mm_bp hC dX12_add_25 ⟨⟨by decide, by decide⟩, by decide⟩ (mm_ic_ne hC (t := 33) dX12_add_27 (by decide) (mm_ic hC dX12_add_33 ⟨by decide, by decide⟩ (mm_st_n hC dX12_add_34 rfl (mm_ic hC dX12_add_35 ⟨by decide, by decide⟩ (mm_st hC dX12_add_36 (fun _ _ _ h => h))))) (mm_ldc hC dX12_add_30 ⟨by decide, by decide⟩ wd_1083 (mm_ir hC ⟨rfl, rfl⟩ hr dX12_add_32)))))))) (fun _ _ _ h => h)))))))))), (by unfold b_X12_add_16; exact (mm_ldc hC dX12_add_16 ⟨by decide, by decide⟩ wd_1006 (mm_ir hC ⟨rfl, rfl⟩ hr dX12_add_18))), (by unfold b_X12_add_38; exact (mm_ld hC dX12_add_38 (mm_bp hC dX12_add_40 ⟨⟨by decide, by decide⟩, by decide⟩ (mm_ic_ge hC (t := 126) dX12_add_42 (by decide) (mm_ld_n hC dX12_add_126 rfl (mm_if_eq hC (t := 140) dX12_add_127 (by decide) (fun _ _ _ h => h) (mm_la_n hC dX12_add_130 rfl (mm_sp hC dX12_add_131 ⟨⟨by decide, by decide⟩, by decide⟩ (mm_cv hC sp_X12_crosses ⟨rfl, rfl⟩ cl_11 wd_990 wd_992 wd_51 wd_993 wd_77 ⟨by decide, by decide, by decide +kernel⟩ ⟨by decide, by decide⟩ dX12_add_134 (mm_if_eq hC (t := 143) dX12_add_137 (by decide) (mm_la_n hC dX12_add_143 rfl (mm_cv hC sp_X12_remember ⟨rfl, rfl⟩ cl_11 wd_1051 wd_1053 wd_57 wd_1054 wd_77 ⟨by decide, by decide, by decide +kernel⟩ ⟨by decide, by decide⟩ dX12_add_144 (mm_la_n hC dX12_add_147 rfl (mm_cv hC sp_X12_newSurface ⟨rfl, rfl⟩ cl_11 wd_1084 wd_1086 wd_61 wd_1087 wd_77 ⟨by decide, by decide, by decide +kernel⟩ ⟨by decide, by decide⟩ dX12_add_148 (mm_st hC dX12_add_151 (mm_ic hC dX12_add_153 ⟨by decide, by decide⟩ (mm_st hC dX12_add_154 (fun _ _ _ h => h)))))))) (fun _ _ _ h => h))))))) (mm_ld hC dX12_add_45 (mm_bp hC dX12_add_47 ⟨⟨by decide, by decide⟩, by decide⟩ (mm_la_n hC dX12_add_49 rfl (mm_gr hC cl_11 (by decide) rfl wd_789 dX12_add_50 (mm_ic hC dX12_add_53 ⟨by decide, by decide⟩ (mm_ial hC dX12_add_54 (mm_mul hC dX12_add_55 (mm_ic_ge hC (t := 87) dX12_add_56 (by decide) (mm_ic hC dX12_add_87 ⟨by decide, by decide⟩ (fun _ _ _ h => h)) (mm_la_n hC dX12_add_59 rfl (mm_gr hC cl_11 (by decide) rfl wd_789 dX12_add_60 (mm_ld_n hC dX12_add_63 rfl (mm_cs hC sp_X12_surfaceAt ⟨rfl, rfl⟩ wd_972 wd_973 wd_974 wd_77 ⟨by decide, by decide, by decide +kernel⟩ ⟨by decide, by decide⟩ dX12_add_64 (mm_ld hC dX12_add_67 (mm_add hC dX12_add_69 (mm_ial hC dX12_add_70 (mm_la_n hC dX12_add_71 rfl (mm_gr hC cl_11 (by decide) rfl wd_789 dX12_add_72 (mm_ld_n hC dX12_add_75 rfl (mm_cs hC sp_X12_surfaceAt ⟨rfl, rfl⟩ wd_972 wd_973 wd_974 wd_77 ⟨by decide, by decide, by decide +kernel⟩ ⟨by decide, by decide⟩ dX12_add_76 (mm_ld hC dX12_add_79 (mm_add hC dX12_add_81 (mm_ial hC dX12_add_82 (mm_add hC dX12_add_83 (mm_goto hC (t := 88) dX12_add_84 (by decide) (fun _ _ _ h => h))))))))))))))))))))))))))))), (by unfold b_X12_add_88; exact (mm_st hC dX12_add_88 (mm_la_n hC dX12_add_90 rfl (mm_gr hC cl_11 (by decide) rfl wd_789 dX12_add_91 (mm_sp hC dX12_add_94 ⟨⟨by decide, by decide⟩, by decide⟩ (mm_ld hC dX12_add_97 (mm_add hC dX12_add_99 (mm_ld hC dX12_add_100 (mm_ias hC dX12_add_102 (mm_ld_n hC dX12_add_103 rfl (mm_if_eq hC (t := 118) dX12_add_104 (by decide) (fun _ _ _ h => h) (mm_ld hC dX12_add_107 (mm_bp hC dX12_add_109 ⟨⟨by decide, by decide⟩, by decide⟩ (mm_ic_gt hC (t := 118) dX12_add_111 (by decide) (fun _ _ _ h => h) (mm_ic hC dX12_add_114 ⟨by decide, by decide⟩ (mm_goto hC (t := 119) dX12_add_115 (by decide) (fun _ _ _ h => h))))))))))))))))), (by unfold b_X12_add_118; exact (mm_ic hC dX12_add_118 ⟨by decide, by decide⟩ (fun _ _ _ h => h))), (by unfold b_X12_add_119; exact (mm_st_n hC dX12_add_119 rfl (mm_inc hC dX12_add_120 (mm_goto hC (t := 38) dX12_add_123 (by decide) (fun _ _ _ h => h))))), (by unfold b_X12_add_140; exact (mm_ldc hC dX12_add_140 ⟨by decide, by decide⟩ wd_1067 (mm_ir hC ⟨rfl, rfl⟩ hr dX12_add_142))), (by unfold b_X12_add_156; exact (mm_ld hC dX12_add_156 (mm_bp hC dX12_add_158 ⟨⟨by decide, by decide⟩, by decide⟩ (mm_ic_ge hC (t := 190) dX12_add_160 (by decide) (mm_la_n hC dX12_add_190 rfl (mm_gr hC cl_11 (by decide) rfl wd_789 dX12_add_191 (mm_ic hC dX12_add_194 ⟨by decide, by decide⟩ (mm_ial hC dX12_add_195 (mm_ic hC dX12_add_196 ⟨by decide, by decide⟩ (mm_sub hC dX12_add_197 (mm_ir hC ⟨rfl, rfl⟩ hr dX12_add_198))))))) (mm_la_n hC dX12_add_163 rfl (mm_gr hC cl_11 (by decide) rfl wd_789 dX12_add_164 (mm_ld hC dX12_add_167 (mm_ld hC dX12_add_169 (mm_add hC dX12_add_171 (mm_la_n hC dX12_add_172 rfl (mm_gr hC cl_11 (by decide) rfl wd_789 dX12_add_173 (mm_sp hC dX12_add_176 ⟨⟨by decide, by decide⟩, by decide⟩ (mm_ld hC dX12_add_179 (mm_add hC dX12_add_181 (mm_ial hC dX12_add_182 (mm_ias hC dX12_add_183 (mm_inc hC dX12_add_184 (mm_goto hC (t := 156) dX12_add_187 (by decide) (fun _ _ _ h => h)))))))))))))))))))⟩
set_option maxRecDepth 100000 in
set_option maxHeartbeats 8000000 in
theorem pv_X12_add : ∀ (av : List mm_V) (σ : mm_S) (Post : Option mm_V → mm_S → Prop), (∀ v ∈ av, mm_iv v) → (∀ a j, mm_in (σ.1 a j)) → σ.2.2 ≤ 348 → T_X12_add av σ Post → ∀ Ok : Nat → mm_K, clo_X12_add Ok Post σ.2.2 → Ok 0 (av ++ List.replicate (6 - av.length) (.inr none)) [] σ := by
  intro av σ Post hav hin hk hT Ok hcl
  obtain ⟨I, R0⟩ := σ
  unfold T_X12_add at hT
  split at hT
  · rename_i a s u
    obtain ⟨h0, hT⟩ := hT
    have h0 : R0 = mm_R0 := h0
    subst h0
    dsimp only at hT hin
    obtain ⟨c0, c16, c38, c88, c118, c119, c140, c156⟩ := hcl
    obtain ⟨rfl, S', hS', ok, hP⟩ := hT
    have w0' := m0
    have w1' := m1
    have w2' := m2
    obtain ⟨nn, m', okA, okB, okC, okD, okE, okF, okG⟩ := id ok.1
    have hn : I 339 0 = (nn : Int) := by rw [(mW_0 hS'.1).1, okA]
    have hm' : I 339 1 = (m' : Int) := by rw [(mW_0 hS'.1).2.1, okB]
    obtain ⟨sw', hsw⟩ : ∃ sw', sumW (S' 0) s u = sw' := ⟨_, rfl⟩
    have eF : addF S' s u = if ¬ ((0 ≤ s ∧ s < S' 0 1) ∧ (0 ≤ u ∧ u < S' 0 1)) then (S', -1000000001) else if 6 ≤ S' 0 1 then (S', -1000000004)
      else if (1 < us (sumW (S' 0) s u) 0 ∨ 1 < us (sumW (S' 0) s u) 1 ∨ 1 < us (sumW (S' 0) s u) 2) ∨ ¬ (∀ i', i' < 21 → sumW (S' 0) s u i' ≤ 20) then (S', -1000000003) else (upW (recS S') (wNew (S' 0) (sumW (S' 0) s u)), S' 0 1) := rfl
    rw [okB, hsw] at eF
    have no' : ¬ ((0 ≤ s ∧ s < (m' : Int)) ∧ (0 ≤ u ∧ u < (m' : Int))) → Ok 16 [.inr (some 338), .inl s, .inl u, .inr none, .inr none, .inr none] [] (I, mm_R0) := by
      intro h'
      rw [if_pos h'] at eF
      simp only [eF] at hP
      refine c16 _ _ _ ?_
      simp only [b_X12_add_16, i_xorg, i_shl, i_shr, i_ior, i_and1, i_lcg1, i_lcg2, i_ld, i_la, i_st, i_sa, i_c, i_inc, i_add, i_sub, i_mul, i_div, i_rem, i_remT, i_xor, i_dup, i_dup2, i_if, i_if2, i_sw, i_gi, i_gr, i_pi, i_pz, i_ial, i_ias, i_len, i_aal, i_gs, i_tal, i_cv, i_cs, i_ir, i_zr, i_vr, i_min, i_max, i_cpy, List.getElem?_cons_zero, List.getElem?_cons_succ, List.set_cons_zero, List.set_cons_succ, List.length_cons, List.length_nil, List.drop_succ_cons, List.drop_zero, List.take_succ_cons, List.take_zero, List.reverse_cons, List.reverse_nil, List.nil_append, List.cons_append, Option.toList_some, Option.toList_none, true_and, and_true, true_or, or_true, Nat.reduceAdd, Nat.reduceLT, Nat.reduceLeDiff, Option.some.injEq, exists_eq_left', Int.toNat_natCast, Nat.reduceSub, List.append_nil, List.replicate_succ, List.replicate_zero]
      exact hP I (loF_rf I) hS'
    refine c0 _ _ _ ?_
    simp only [b_X12_add_0, i_xorg, i_shl, i_shr, i_ior, i_and1, i_lcg1, i_lcg2, i_ld, i_la, i_st, i_sa, i_c, i_inc, i_add, i_sub, i_mul, i_div, i_rem, i_remT, i_xor, i_dup, i_dup2, i_if, i_if2, i_sw, i_gi, i_gr, i_pi, i_pz, i_ial, i_ias, i_len, i_aal, i_gs, i_tal, i_cv, i_cs, i_ir, i_zr, i_vr, i_min, i_max, i_cpy, List.getElem?_cons_zero, List.getElem?_cons_succ, List.set_cons_zero, List.set_cons_succ, List.length_cons, List.length_nil, List.drop_succ_cons, List.drop_zero, List.take_succ_cons, List.take_zero, List.reverse_cons, List.reverse_nil, List.nil_append, List.cons_append, Option.toList_some, Option.toList_none, true_and, and_true, true_or, or_true, Nat.reduceAdd, Nat.reduceLT, Nat.reduceLeDiff, Option.some.injEq, exists_eq_left', Int.toNat_natCast, Nat.reduceSub, List.append_nil, List.replicate_succ, List.replicate_zero, mm_in, w0', w1', w2', t1, hm', T_X12_isSurface]
    refine ⟨by omega, fun zA hA => ⟨fun y' => no' (fun w' => bz_f hA y' w'.1), fun yA => ⟨by omega, fun zB' hB' => ⟨fun yB' => ?_, fun y' => no' (fun w' => bz_f hB' (by omega) w'.2)⟩⟩⟩⟩
    have hs := bz_t hA yA
    have hu := bz_t hB' yB'
    rw [if_neg (fun w' => w' ⟨hs, hu⟩)] at eF
    refine ⟨⟨by omega, by omega⟩, fun _ => ⟨fun yC => ?_, fun yC => ?_⟩⟩
    rotate_left
    · rw [if_pos (by omega)] at eF
      simp only [eF] at hP
      exact hP I (loF_rf I) hS'
    rw [if_neg (by omega)] at eF
    obtain ⟨t', rfl⟩ := Int.eq_ofNat_of_zero_le hs.1
    obtain ⟨v', rfl⟩ := Int.eq_ofNat_of_zero_le hu.1
    have esw : ∀ i', sw' i' = nw (S' 0) t' i' + nw (S' 0) v' i' := fun i' => by rw [← hsw]; unfold sumW; rw [Int.toNat_natCast, Int.toNat_natCast]
    have bsw : ∀ i', i' < 21 → 0 ≤ sw' i' ∧ sw' i' ≤ 40 ∧ (7 * nn ≤ i' → sw' i' = 0) := by
      intro i' hi'
      have hA1 := okG t' (by omega) i' hi'
      have hA2 := okG v' (by omega) i' hi'
      rw [esw]
      refine ⟨by omega, by omega, fun h' => ?_⟩
      rw [hA1.2.2 h', hA2.2.2 h']
      rfl
    have rt' : ∀ i', i' < 21 → I 339 (26 + 21 * t' + i') = nw (S' 0) t' i' := fun i' hi' => (mW_0 hS'.1).2.2.2.2 t' (by omega) i' hi'
    have rv' : ∀ i', i' < 21 → I 339 (26 + 21 * v' + i') = nw (S' 0) v' i' := fun i' hi' => (mW_0 hS'.1).2.2.2.2 v' (by omega) i' hi'
    have no3 : ∀ (K' : Nat → Nat → Int) (uA uB' uC : mm_V), scM K' I → (crs sw' 3 ∨ ¬ ∀ i', i' < 21 → sw' i' ≤ 20) → Ok 140 [.inr (some 338), .inl (t' : Int), .inl (v' : Int), uA, uB', uC] [] (K', mm_R0) := by
      intro K' uA uB' uC sK' hK'
      rw [if_pos (hK'.imp (crs_3 sw').mp id)] at eF
      simp only [eF] at hP
      refine c140 _ _ _ ?_
      simp only [b_X12_add_140, i_xorg, i_shl, i_shr, i_ior, i_and1, i_lcg1, i_lcg2, i_ld, i_la, i_st, i_sa, i_c, i_inc, i_add, i_sub, i_mul, i_div, i_rem, i_remT, i_xor, i_dup, i_dup2, i_if, i_if2, i_sw, i_gi, i_gr, i_pi, i_pz, i_ial, i_ias, i_len, i_aal, i_gs, i_tal, i_cv, i_cs, i_ir, i_zr, i_vr, i_min, i_max, i_cpy, List.getElem?_cons_zero, List.getElem?_cons_succ, List.set_cons_zero, List.set_cons_succ, List.length_cons, List.length_nil, List.drop_succ_cons, List.drop_zero, List.take_succ_cons, List.take_zero, List.reverse_cons, List.reverse_nil, List.nil_append, List.cons_append, Option.toList_some, Option.toList_none, true_and, and_true, true_or, or_true, Nat.reduceAdd, Nat.reduceLT, Nat.reduceLeDiff, Option.some.injEq, exists_eq_left', Int.toNat_natCast, Nat.reduceSub, List.append_nil, List.replicate_succ, List.replicate_zero]
      exact hP K' (fun b' hb' => sK'.1 b' (by omega)) (mSt_fr hS' ok sK')
    have copy' : ¬ (crs sw' 3 ∨ ¬ ∀ i', i' < 21 → sw' i' ≤ 20) → ∀ (J' : Nat → Nat → Int), (∀ b', b' < 338 → J' b' = I b') → mSt J' (recS S') → (∀ i', i' < 21 → J' 339 (2888 + i') = sw' i') → ∀ (d' k' : Nat) (K' : Nat → Nat → Int) (uA : mm_V), k' + d' = 21 → (∀ b', b' ≠ 339 → K' b' = J' b') → (∀ i', K' 339 i' = wNew (J' 339) (fun j' => if j' < k' then sw' j' else 0) i') → Ok 156 [.inr (some 338), .inl (t' : Int), .inl (v' : Int), uA, .inl (26 + 21 * (m' : Int)), .inl (k' : Int)] [] (K', mm_R0) := by
      intro hok J' fJ hJ hT' d'
      rw [if_neg (fun w' => hok (w'.imp (crs_3 sw').mpr id))] at eF
      simp only [eF] at hP
      have hWJ := recW0 hJ
      have hmJ : J' 339 1 = (m' : Int) := by rw [(mW_0 hWJ).2.1, okB]
      induction d' with
      | zero =>
        intro k' K' uA hd' kA' kB'
        have eK : K' 339 1 = (m' : Int) + 1 := by rw [kB', wNew_1, hmJ]
        refine c156 _ _ _ ?_
        simp only [b_X12_add_156, i_xorg, i_shl, i_shr, i_ior, i_and1, i_lcg1, i_lcg2, i_ld, i_la, i_st, i_sa, i_c, i_inc, i_add, i_sub, i_mul, i_div, i_rem, i_remT, i_xor, i_dup, i_dup2, i_if, i_if2, i_sw, i_gi, i_gr, i_pi, i_pz, i_ial, i_ias, i_len, i_aal, i_gs, i_tal, i_cv, i_cs, i_ir, i_zr, i_vr, i_min, i_max, i_cpy, List.getElem?_cons_zero, List.getElem?_cons_succ, List.set_cons_zero, List.set_cons_succ, List.length_cons, List.length_nil, List.drop_succ_cons, List.drop_zero, List.take_succ_cons, List.take_zero, List.reverse_cons, List.reverse_nil, List.nil_append, List.cons_append, Option.toList_some, Option.toList_none, true_and, and_true, true_or, or_true, Nat.reduceAdd, Nat.reduceLT, Nat.reduceLeDiff, Option.some.injEq, exists_eq_left', Int.toNat_natCast, Nat.reduceSub, List.append_nil, List.replicate_succ, List.replicate_zero, mm_in, w0', w1', w2', t1, eK]
        refine ⟨fun _ => ⟨⟨by omega, by omega⟩, fun _ => ⟨⟨by omega, by omega⟩, ?_⟩⟩, fun h' => by omega⟩
        have kC' : ∀ i', K' 339 i' = wNew (J' 339) sw' i' := by
          intro i'
          rw [kB']
          unfold wNew
          by_cases cc : i' = 1
          · rw [if_pos cc, if_pos cc]
          rw [if_neg cc, if_neg cc]
          by_cases c' : 26 + 21 * (J' 339 1).toNat ≤ i' ∧ i' < 26 + 21 * (J' 339 1).toNat + 21
          · rw [if_pos c', if_pos c']
            dsimp only
            rw [if_pos (by omega)]
          · rw [if_neg c', if_neg c']
        rw [show (m' : Int) + 1 - 1 = (m' : Int) by omega]
        refine hP K' (fun b' hb' => by rw [kA' b' (by omega), fJ b' hb']) (mdone hJ (okS_rec ok) kA' kC' (fun i' hi' => ?_) (mW_new hWJ (fun i' _ => kC' i') (by omega)))
        unfold wNew
        rw [hmJ, if_neg (by omega), if_neg (by omega)]
      | succ d' ih =>
        intro k' K' uA hd' kA' kB'
        have e1' : (26 + 21 * (m' : Int) + (k' : Int)).toNat = 26 + 21 * m' + k' := by omega
        have e2' : ((2888 : Int) + (k' : Int)).toNat = 2888 + k' := by omega
        have e3' : K' 339 (2888 + k') = sw' k' := by
          rw [kB']
          unfold wNew
          rw [hmJ, if_neg (by omega), if_neg (by omega)]
          exact hT' k' (by omega)
        have bk := bsw k' (by omega)
        have := ih (k' + 1) (mm_set K' 339 (26 + 21 * m' + k') (sw' k')) uA (by omega) (fun b' hb' => by rw [mset_ne hb']; exact kA' b' hb') (fun i' => ?_)
        · rw [Int.natCast_add] at this
          refine c156 _ _ _ ?_
          simp only [b_X12_add_156, i_xorg, i_shl, i_shr, i_ior, i_and1, i_lcg1, i_lcg2, i_ld, i_la, i_st, i_sa, i_c, i_inc, i_add, i_sub, i_mul, i_div, i_rem, i_remT, i_xor, i_dup, i_dup2, i_if, i_if2, i_sw, i_gi, i_gr, i_pi, i_pz, i_ial, i_ias, i_len, i_aal, i_gs, i_tal, i_cv, i_cs, i_ir, i_zr, i_vr, i_min, i_max, i_cpy, List.getElem?_cons_zero, List.getElem?_cons_succ, List.set_cons_zero, List.set_cons_succ, List.length_cons, List.length_nil, List.drop_succ_cons, List.drop_zero, List.take_succ_cons, List.take_zero, List.reverse_cons, List.reverse_nil, List.nil_append, List.cons_append, Option.toList_some, Option.toList_none, true_and, and_true, true_or, or_true, Nat.reduceAdd, Nat.reduceLT, Nat.reduceLeDiff, Option.some.injEq, exists_eq_left', Int.toNat_natCast, Nat.reduceSub, List.append_nil, List.replicate_succ, List.replicate_zero, mm_in, w0', w1', w2', e1', e2', e3']
          refine ⟨fun h' => by omega, fun h' => ⟨⟨by omega, by omega⟩, ⟨by omega, by omega⟩, ⟨by omega, by omega⟩, fun _ => ⟨⟨by omega, by omega⟩, ⟨by omega, by omega⟩, this⟩⟩⟩
        · rw [mset_i, kB']
          unfold wNew
          rw [hmJ, Int.toNat_natCast]
          by_cases c' : i' = 26 + 21 * m' + k'
          · rw [if_pos c', if_neg (by omega), if_pos (by omega)]
            dsimp only
            rw [if_pos (by omega), show i' - (26 + 21 * m') = k' by omega]
          · rw [if_neg c']
            by_cases c2' : i' = 1
            · rw [if_pos c2', if_pos c2']
            · rw [if_neg c2', if_neg c2']
              by_cases c3' : 26 + 21 * m' ≤ i' ∧ i' < 26 + 21 * m' + 21
              · rw [if_pos c3', if_pos c3']
                dsimp only
                by_cases c4' : i' - (26 + 21 * m') < k'
                · rw [if_pos c4', if_pos (by omega)]
                · rw [if_neg c4', if_neg (by omega)]
              · rw [if_neg c3', if_neg c3']
    have loop' : ∀ (d' k' : Nat) (z' : Int) (K' : Nat → Nat → Int) (uA : mm_V), k' + d' = 21 → bz z' (∀ i', i' < k' → sw' i' ≤ 20) → (∀ b', b' ≠ 339 → K' b' = I b') → (∀ j', j' < 2888 ∨ 2888 + k' ≤ j' → K' 339 j' = I 339 j') → (∀ i', i' < k' → K' 339 (2888 + i') = sw' i') → Ok 38 [.inr (some 338), .inl (t' : Int), .inl (v' : Int), .inl z', .inl (k' : Int), uA] [] (K', mm_R0) := by
      intro d'
      induction d' with
      | zero =>
        intro k' z' K' uA hd' hz kA' kB' kC'
        have sK' : scM K' I := ⟨fun b' hb' => kA' b' (by omega), fun j' hj => kB' j' (by omega), fun _ i' hi' => by
          unfold MN
          rw [kC' i' (by omega)]
          have := bsw i' hi'
          omega⟩
        have hSK := mSt_fr hS' ok sK'
        refine c38 _ _ _ ?_
        simp only [b_X12_add_38, i_xorg, i_shl, i_shr, i_ior, i_and1, i_lcg1, i_lcg2, i_ld, i_la, i_st, i_sa, i_c, i_inc, i_add, i_sub, i_mul, i_div, i_rem, i_remT, i_xor, i_dup, i_dup2, i_if, i_if2, i_sw, i_gi, i_gr, i_pi, i_pz, i_ial, i_ias, i_len, i_aal, i_gs, i_tal, i_cv, i_cs, i_ir, i_zr, i_vr, i_min, i_max, i_cpy, List.getElem?_cons_zero, List.getElem?_cons_succ, List.set_cons_zero, List.set_cons_succ, List.length_cons, List.length_nil, List.drop_succ_cons, List.drop_zero, List.take_succ_cons, List.take_zero, List.reverse_cons, List.reverse_nil, List.nil_append, List.cons_append, Option.toList_some, Option.toList_none, true_and, and_true, true_or, or_true, Nat.reduceAdd, Nat.reduceLT, Nat.reduceLeDiff, Option.some.injEq, exists_eq_left', Int.toNat_natCast, Nat.reduceSub, List.append_nil, List.replicate_succ, List.replicate_zero, mm_in, w0', T_X12_crosses]
        refine ⟨fun _ => ⟨fun y' => no3 K' _ _ _ sK' (Or.inr (fun w' => bz_f hz y' (fun i' hi' => w' i' (by omega)))), fun y' => ?_⟩, fun h' => by omega⟩
        have hall := bz_t hz y'
        have ecr : crs (MN K' 2888) nn ↔ crs sw' 3 := by
          have eAB : ∀ i', i' < 21 → MN K' 2888 i' = sw' i' := fun i' hi' => kC' i' (by omega)
          rw [crs_cg eAB okD]
          exact crs_n okD (fun i' hi' hi2 => (bsw i' hi2).2.2 hi')
        refine ⟨2888, nn, rfl, by omega, by rw [kB' 0 (by omega)]; exact hn, okD, fun z2 hz2 => ⟨fun y2 => mrecall hSK ok (fun J' fA fB' hJ => ?_), fun y2 => no3 K' _ _ _ sK' (Or.inl (ecr.mp (bz_t hz2 (by omega))))⟩⟩
        have hncr := bz_f hz2 y2
        have hWJ := recW0 hJ
        have hmJ : J' 339 1 = (m' : Int) := by rw [(mW_0 hWJ).2.1, okB]
        simp only [mm_in, w0', T_X12_newSurface, i_xorg, i_shl, i_shr, i_ior, i_and1, i_lcg1, i_lcg2, i_ld, i_la, i_st, i_sa, i_c, i_inc, i_add, i_sub, i_mul, i_div, i_rem, i_remT, i_xor, i_dup, i_dup2, i_if, i_if2, i_sw, i_gi, i_gr, i_pi, i_pz, i_ial, i_ias, i_len, i_aal, i_gs, i_tal, i_cv, i_cs, i_ir, i_zr, i_vr, i_min, i_max, i_cpy, List.getElem?_cons_zero, List.getElem?_cons_succ, List.set_cons_zero, List.set_cons_succ, List.length_cons, List.length_nil, List.drop_succ_cons, List.drop_zero, List.take_succ_cons, List.take_zero, List.reverse_cons, List.reverse_nil, List.nil_append, List.cons_append, Option.toList_some, Option.toList_none, true_and, and_true, true_or, or_true, Nat.reduceAdd, Nat.reduceLT, Nat.reduceLeDiff, Option.some.injEq, exists_eq_left', Int.toNat_natCast, Nat.reduceSub, List.append_nil, List.replicate_succ, List.replicate_zero]
        refine ⟨m', hmJ, by omega, fun K2 gA gB => ?_⟩
        refine copy' (fun w' => w'.elim (fun w' => hncr (ecr.mpr w')) (fun w' => w' (fun i' hi' => hall i' (by omega)))) J' (fun b' hb' => by rw [fA b' (by omega) (by omega), kA' b' (by omega)]) hJ (fun i' hi' => by rw [fB' _ (by omega), kC' i' (by omega)]) 21 0 K2 _ (by omega) gA (fun i' => ?_)
        rw [gB i']
        have : (fun j' => if j' < 0 then sw' j' else 0) = (fun _ => (0 : Int)) := by
          funext j'
          rw [if_neg (by omega)]
        rw [this]
      | succ d' ih =>
        intro k' z' K' uA hd' hz kA' kB' kC'
        have bk := bsw k' (by omega)
        have e2' : ((2888 : Int) + (k' : Int)).toNat = 2888 + k' := by omega
        have nK : K' 339 0 = (nn : Int) := by rw [kB' 0 (by omega)]; exact hn
        have p119 : ∀ y' : Int, bz y' (∀ i', i' < k' + 1 → sw' i' ≤ 20) → Ok 119 [.inr (some 338), .inl (t' : Int), .inl (v' : Int), .inl z', .inl (k' : Int), .inl (sw' k')] [.inl y'] (mm_set K' 339 (2888 + k') (sw' k'), mm_R0) := by
          intro y' hy
          have := ih (k' + 1) y' (mm_set K' 339 (2888 + k') (sw' k')) (.inl (sw' k')) (by omega) hy (fun b' hb' => by rw [mset_ne hb']; exact kA' b' hb') (fun j' hj => by rw [mset_n2 (by omega)]; exact kB' j' (by omega)) (fun i' hi' => ?_)
          · rw [Int.natCast_add] at this
            refine c119 _ _ _ ?_
            simp only [b_X12_add_119, i_xorg, i_shl, i_shr, i_ior, i_and1, i_lcg1, i_lcg2, i_ld, i_la, i_st, i_sa, i_c, i_inc, i_add, i_sub, i_mul, i_div, i_rem, i_remT, i_xor, i_dup, i_dup2, i_if, i_if2, i_sw, i_gi, i_gr, i_pi, i_pz, i_ial, i_ias, i_len, i_aal, i_gs, i_tal, i_cv, i_cs, i_ir, i_zr, i_vr, i_min, i_max, i_cpy, List.getElem?_cons_zero, List.getElem?_cons_succ, List.set_cons_zero, List.set_cons_succ, List.length_cons, List.length_nil, List.drop_succ_cons, List.drop_zero, List.take_succ_cons, List.take_zero, List.reverse_cons, List.reverse_nil, List.nil_append, List.cons_append, Option.toList_some, Option.toList_none, true_and, and_true, true_or, or_true, Nat.reduceAdd, Nat.reduceLT, Nat.reduceLeDiff, Option.some.injEq, exists_eq_left', Int.toNat_natCast, Nat.reduceSub, List.append_nil, List.replicate_succ, List.replicate_zero, mm_in,]
            exact ⟨⟨by omega, by omega⟩, this⟩
          · by_cases c' : i' = k'
            · rw [c', mset_eq]
            · rw [mset_n2 (by omega)]
              exact kC' i' (by omega)
        have p118 : ¬ (∀ i', i' < k' + 1 → sw' i' ≤ 20) → Ok 118 [.inr (some 338), .inl (t' : Int), .inl (v' : Int), .inl z', .inl (k' : Int), .inl (sw' k')] [] (mm_set K' 339 (2888 + k') (sw' k'), mm_R0) := by
          intro h'
          refine c118 _ _ _ ?_
          simp only [b_X12_add_118, i_xorg, i_shl, i_shr, i_ior, i_and1, i_lcg1, i_lcg2, i_ld, i_la, i_st, i_sa, i_c, i_inc, i_add, i_sub, i_mul, i_div, i_rem, i_remT, i_xor, i_dup, i_dup2, i_if, i_if2, i_sw, i_gi, i_gr, i_pi, i_pz, i_ial, i_ias, i_len, i_aal, i_gs, i_tal, i_cv, i_cs, i_ir, i_zr, i_vr, i_min, i_max, i_cpy, List.getElem?_cons_zero, List.getElem?_cons_succ, List.set_cons_zero, List.set_cons_succ, List.length_cons, List.length_nil, List.drop_succ_cons, List.drop_zero, List.take_succ_cons, List.take_zero, List.reverse_cons, List.reverse_nil, List.nil_append, List.cons_append, Option.toList_some, Option.toList_none, true_and, and_true, true_or, or_true, Nat.reduceAdd, Nat.reduceLT, Nat.reduceLeDiff, Option.some.injEq, exists_eq_left', Int.toNat_natCast, Nat.reduceSub, List.append_nil, List.replicate_succ, List.replicate_zero]
          exact p119 0 (bz_0 h')
        have p88 : ∀ y' : Int, y' = sw' k' → Ok 88 [.inr (some 338), .inl (t' : Int), .inl (v' : Int), .inl z', .inl (k' : Int), uA] [.inl y'] (K', mm_R0) := by
          intro y' hy
          subst hy
          refine c88 _ _ _ ?_
          simp only [b_X12_add_88, i_xorg, i_shl, i_shr, i_ior, i_and1, i_lcg1, i_lcg2, i_ld, i_la, i_st, i_sa, i_c, i_inc, i_add, i_sub, i_mul, i_div, i_rem, i_remT, i_xor, i_dup, i_dup2, i_if, i_if2, i_sw, i_gi, i_gr, i_pi, i_pz, i_ial, i_ias, i_len, i_aal, i_gs, i_tal, i_cv, i_cs, i_ir, i_zr, i_vr, i_min, i_max, i_cpy, List.getElem?_cons_zero, List.getElem?_cons_succ, List.set_cons_zero, List.set_cons_succ, List.length_cons, List.length_nil, List.drop_succ_cons, List.drop_zero, List.take_succ_cons, List.take_zero, List.reverse_cons, List.reverse_nil, List.nil_append, List.cons_append, Option.toList_some, Option.toList_none, true_and, and_true, true_or, or_true, Nat.reduceAdd, Nat.reduceLT, Nat.reduceLeDiff, Option.some.injEq, exists_eq_left', Int.toNat_natCast, Nat.reduceSub, List.append_nil, List.replicate_succ, List.replicate_zero, mm_in, w0', w1', w2', e2']
          refine ⟨⟨by omega, by omega⟩, ⟨by omega, by omega⟩, fun y1 => p118 (fun w' => bz_f hz y1 (fun i' hi' => w' i' (by omega))), fun y1 => ⟨fun y2 => p118 (fun w' => by have := w' k' (by omega); omega), fun y2 => p119 1 (bz_1 (fun i' hi' => ?_))⟩⟩
          by_cases c' : i' = k'
          · rw [c']; omega
          · exact bz_t hz y1 i' (by omega)
        have e3' : (26 + 21 * (t' : Int) + (k' : Int)).toNat = 26 + 21 * t' + k' := by omega
        have e4' : (26 + 21 * (v' : Int) + (k' : Int)).toNat = 26 + 21 * v' + k' := by omega
        have e5' : K' 339 (26 + 21 * t' + k') = nw (S' 0) t' k' := by rw [kB' _ (by omega)]; exact rt' k' (by omega)
        have e6' : K' 339 (26 + 21 * v' + k') = nw (S' 0) v' k' := by rw [kB' _ (by omega)]; exact rv' k' (by omega)
        have bA := okG t' (by omega) k' (by omega)
        have bB' := okG v' (by omega) k' (by omega)
        refine c38 _ _ _ ?_
        simp only [b_X12_add_38, i_xorg, i_shl, i_shr, i_ior, i_and1, i_lcg1, i_lcg2, i_ld, i_la, i_st, i_sa, i_c, i_inc, i_add, i_sub, i_mul, i_div, i_rem, i_remT, i_xor, i_dup, i_dup2, i_if, i_if2, i_sw, i_gi, i_gr, i_pi, i_pz, i_ial, i_ias, i_len, i_aal, i_gs, i_tal, i_cv, i_cs, i_ir, i_zr, i_vr, i_min, i_max, i_cpy, List.getElem?_cons_zero, List.getElem?_cons_succ, List.set_cons_zero, List.set_cons_succ, List.length_cons, List.length_nil, List.drop_succ_cons, List.drop_zero, List.take_succ_cons, List.take_zero, List.reverse_cons, List.reverse_nil, List.nil_append, List.cons_append, Option.toList_some, Option.toList_none, true_and, and_true, true_or, or_true, Nat.reduceAdd, Nat.reduceLT, Nat.reduceLeDiff, Option.some.injEq, exists_eq_left', Int.toNat_natCast, Nat.reduceSub, List.append_nil, List.replicate_succ, List.replicate_zero, mm_in, w0', w1', w2', t0, nK, e3', e4', e5', e6', T_X12_surfaceAt]
        refine ⟨fun h' => by omega, fun h' => ⟨⟨by omega, by omega⟩, fun _ => ⟨⟨by omega, by omega⟩, fun y1 => p88 0 (bk.2.2 (by omega)).symm, fun y1 => ⟨by omega, by omega, ⟨by omega, by omega⟩, ⟨by omega, by omega⟩, fun _ => ⟨by omega, by omega, ⟨by omega, by omega⟩, ⟨by omega, by omega⟩, fun _ => ⟨⟨by omega, by omega⟩, p88 _ (esw k').symm⟩⟩⟩⟩⟩⟩
    exact loop' 21 0 1 I _ (by omega) (bz_1 (fun i' hi' => by omega)) (fun _ _ => rfl) (fun _ _ => rfl) (fun i' hi' => by omega)
  · exact hT.elim
theorem sp_X12_add : mm_Sp yX12_add cX12_add 6 (some .int) rm_X12_add T_X12_add := mm_meth (by decide) (by
  intro av σ Post h
  unfold T_X12_add at h
  split at h
  · simp
  · exact h.elim) (fun p l e s m args below meth c G av σ Post hC hr _ hav hin hk hT => pv_X12_add av σ Post hav hin hk hT _ (bk_X12_add hC hr))
