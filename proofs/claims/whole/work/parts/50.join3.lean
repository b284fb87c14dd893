/-! the other program: all pieces joined
-/
def T_X12_join : mm_T := fun av σ Post => match av with
  | [.inr (some a), .inl s] => σ.2 = mm_R0 ∧ a = 338 ∧ ∃ o n : Nat, s = o ∧ o ≤ 2888 ∧ gM σ.1 n ∧ b20 (MN σ.1 o) ∧ mtA n (MP σ.1) (MY σ.1) (MN σ.1 o) (4 * n) 0 ∧
    ∀ I' : Nat → Nat → Int, (∀ b, b < 346 → I' b = σ.1 b) → agJ I' (joi n (MP σ.1) (MY σ.1) (MN σ.1 o)) → Post none (I', mm_R0)
  | _ => False
def rm_X12_join : Room := { frames := 3, cells := 0, slots := 0, locals := 81 }
def b_X12_join_0 (Ok : Nat → mm_K) (Post : Option mm_V → mm_S → Prop) (kf : Nat) : mm_K := i_c 0 (i_st 2 (Ok 2))
def b_X12_join_2 (Ok : Nat → mm_K) (Post : Option mm_V → mm_S → Prop) (kf : Nat) : mm_K := i_ld 2 (i_c 840 (i_if2 (fun x y => y ≤ x) (i_c 0 (i_st 2 (Ok 35))) (i_la 0 (i_gr 11 12 (i_ld 2 (i_ld 2 (i_ias (i_la 0 (i_gr 11 11 (i_ld 2 (i_c 2 (i_div (i_ld 2 (i_c 2 (i_div (i_ias (i_inc 2 1 (Ok 2))))))))))))))))))
def b_X12_join_35 (Ok : Nat → mm_K) (Post : Option mm_V → mm_S → Prop) (kf : Nat) : mm_K := i_ld 2 (i_la 0 (i_cv 11 0 T_X12_walls (i_if2 (fun x y => y ≤ x) (i_vr Post kf) (i_c 0 (i_st 3 (Ok 45))))))
def b_X12_join_45 (Ok : Nat → mm_K) (Post : Option mm_V → mm_S → Prop) (kf : Nat) : mm_K := i_ld 3 (i_c 4 (i_if2 (fun x y => y ≤ x) (Ok 90) (i_la 0 (i_ld 2 (i_cv 11 1 T_X12_isFree (i_if (fun x => ¬ x = 0) (Ok 90) (i_ld 2 (i_la 0 (i_gr 11 0 (i_c 2 (i_ld 2 (i_add (i_ial (i_if2 (fun x y => y ≤ x) (Ok 90) (i_ld 3 (i_ld 2 (i_c 4 (i_rem (i_if2 (fun x y => x = y) (Ok 84) (i_la 0 (i_ld 1 (i_ld 2 (i_ld 3 (i_cv 11 3 T_X12_joinArcs (Ok 84)))))))))))))))))))))))))
def b_X12_join_84 (Ok : Nat → mm_K) (Post : Option mm_V → mm_S → Prop) (kf : Nat) : mm_K := i_inc 3 1 (Ok 45)
def b_X12_join_90 (Ok : Nat → mm_K) (Post : Option mm_V → mm_S → Prop) (kf : Nat) : mm_K := i_inc 2 1 (Ok 35)
def clo_X12_join (Ok : Nat → mm_K) (Post : Option mm_V → mm_S → Prop) (kf : Nat) : Prop := mm_imp (b_X12_join_0 Ok Post kf) (Ok 0) ∧ mm_imp (b_X12_join_2 Ok Post kf) (Ok 2) ∧ mm_imp (b_X12_join_35 Ok Post kf) (Ok 35) ∧ mm_imp (b_X12_join_45 Ok Post kf) (Ok 45) ∧ mm_imp (b_X12_join_84 Ok Post kf) (Ok 84) ∧ mm_imp (b_X12_join_90 Ok Post kf) (Ok 90)
set_option maxRecDepth 100000 in
set_option maxHeartbeats 4000000 in
theorem bk_X12_join {p : Program} {l : Launch} {e : Env} {s : State} {m : MethodId} {args : Array Value} {below : List Frame} {meth : Method} {c : Code} {G : mm_G} {σ0 : mm_S} {Post : Option mm_V → mm_S → Prop} (hC : mm_C p G s m args meth c cX12_join yX12_join.cls) (hr : meth.sig.returnType = none) : clo_X12_join (mm_O p l e rm_X12_join s m args below meth c G σ0.2.2 (MQ below (mm_Qc G σ0 rm_X12_join.cells rm_X12_join.slots Post) args s rm_X12_join.cells rm_X12_join.slots (mm_A G))) Post σ0.2.2 := ⟨(by unfold b_X12_join_0; exact (mm_ic hC dX12_join_0 ⟨by decide, by decide⟩ (mm_st_n hC dX12_join_1 rfl (fun _ _ _ h => h)))), (by unfold b_X12_join_2; exact (mm_ld_n hC dX12_join_2 rfl (mm_sp hC dX12_join_3 ⟨⟨by decide, by decide⟩, by decide⟩ (mm_ic_ge hC (t := 33) dX12_join_6 (by decide) (mm_ic hC dX12_join_33 ⟨by decide, by decide⟩ (mm_st_n hC dX12_join_34 rfl (fun _ _ _ h => h))) (mm_la_n hC dX12_join_9 rfl (mm_gr hC cl_11 (by decide) rfl wd_801 dX12_join_10 (mm_ld_n hC dX12_join_13 rfl (mm_ld_n hC dX12_join_14 rfl (mm_ias hC dX12_join_15 (mm_la_n hC dX12_join_16 rfl (mm_gr hC cl_11 (by decide) rfl wd_800 dX12_join_17 (mm_ld_n hC dX12_join_20 rfl (mm_ic hC dX12_join_21 ⟨by decide, by decide⟩ (mm_div hC dX12_join_22 (mm_ld_n hC dX12_join_23 rfl (mm_ic hC dX12_join_24 ⟨by decide, by decide⟩ (mm_div hC dX12_join_25 (mm_ias hC dX12_join_26 (mm_inc hC dX12_join_27 (mm_goto hC (t := 2) dX12_join_30 (by decide) (fun _ _ _ h => h))))))))))))))))))))), (by unfold b_X12_join_35; exact (mm_ld_n hC dX12_join_35 rfl (mm_la_n hC dX12_join_36 rfl (mm_cv hC sp_X12_walls ⟨rfl, rfl⟩ cl_11 wd_837 wd_839 wd_21 wd_840 wd_77 ⟨by decide, by decide, by decide +kernel⟩ ⟨by decide, by decide⟩ dX12_join_37 (mm_ic_ge hC (t := 96) dX12_join_40 (by decide) (mm_vr hC ⟨rfl, rfl⟩ hr dX12_join_96) (mm_ic hC dX12_join_43 ⟨by decide, by decide⟩ (mm_st_n hC dX12_join_44 rfl (fun _ _ _ h => h)))))))), (by unfold b_X12_join_45; exact (mm_ld_n hC dX12_join_45 rfl (mm_ic hC dX12_join_46 ⟨by decide, by decide⟩ (mm_ic_ge hC (t := 90) dX12_join_47 (by decide) (fun _ _ _ h => h) (mm_la_n hC dX12_join_50 rfl (mm_ld_n hC dX12_join_51 rfl (mm_cv hC sp_X12_isFree ⟨rfl, rfl⟩ cl_11 wd_841 wd_843 wd_22 wd_844 wd_77 ⟨by decide, by decide, by decide +kernel⟩ ⟨by decide, by decide⟩ dX12_join_52 (mm_if_ne hC (t := 90) dX12_join_55 (by decide) (fun _ _ _ h => h) (mm_ld_n hC dX12_join_58 rfl (mm_la_n hC dX12_join_59 rfl (mm_gr hC cl_11 (by decide) rfl wd_789 dX12_join_60 (mm_ic hC dX12_join_63 ⟨by decide, by decide⟩ (mm_ld_n hC dX12_join_64 rfl (mm_add hC dX12_join_65 (mm_ial hC dX12_join_66 (mm_ic_ge hC (t := 90) dX12_join_67 (by decide) (fun _ _ _ h => h) (mm_ld_n hC dX12_join_70 rfl (mm_ld_n hC dX12_join_71 rfl (mm_ic hC dX12_join_72 ⟨by decide, by decide⟩ (mm_rem hC dX12_join_73 (mm_ic_eq hC (t := 84) dX12_join_74 (by decide) (fun _ _ _ h => h) (mm_la_n hC dX12_join_77 rfl (mm_ld_n hC dX12_join_78 rfl (mm_ld_n hC dX12_join_79 rfl (mm_ld_n hC dX12_join_80 rfl (mm_cv hC sp_X12_joinArcs ⟨rfl, rfl⟩ cl_11 wd_909 wd_911 wd_36 wd_912 wd_77 ⟨by decide, by decide, by decide +kernel⟩ ⟨by decide, by decide⟩ dX12_join_81 (fun _ _ _ h => h))))))))))))))))))))))))))), (by unfold b_X12_join_84; exact (mm_inc hC dX12_join_84 (mm_goto hC (t := 45) dX12_join_87 (by decide) (fun _ _ _ h => h)))), (by unfold b_X12_join_90; exact (mm_inc hC dX12_join_90 (mm_goto hC (t := 35) dX12_join_93 (by decide) (fun _ _ _ h => h))))⟩
set_option maxRecDepth 100000 in
set_option maxHeartbeats 8000000 in
theorem pv_X12_join : ∀ (av : List mm_V) (σ : mm_S) (Post : Option mm_V → mm_S → Prop), (∀ v ∈ av, mm_iv v) → (∀ a j, mm_in (σ.1 a j)) → σ.2.2 ≤ 348 → T_X12_join av σ Post → ∀ Ok : Nat → mm_K, clo_X12_join Ok Post σ.2.2 → Ok 0 (av ++ List.replicate (4 - av.length) (.inr none)) [] σ := by
  intro av σ Post hav hin hk hT Ok hcl
  obtain ⟨I, R0⟩ := σ
  unfold T_X12_join at hT
  split at hT
  · rename_i a s
    obtain ⟨h0, hT⟩ := hT
    have h0 : R0 = mm_R0 := h0
    subst h0
    dsimp only at hT hin
    obtain ⟨c0, c2, c35, c45, c84, c90⟩ := hcl
    obtain ⟨rfl, o, n, rfl, ho, hgm, hb, hmt, hP⟩ := hT
    obtain ⟨hn, hn1, hn3, hg⟩ := id hgm
    have w0 := m0
    have w1 := m1
    have w2 := m2
    obtain ⟨r0, r1, r2, r3, r4, r5, r6, r7, r8⟩ := Rs_338
    obtain ⟨s0, s1, s2, s3, s4, s5, s6, s7, s8, s9⟩ := sh_338
    have outer : ∀ (d f : Nat) (I1 : Nat → Nat → Int), f + d = 4 * n → (∀ b, b < 346 → I1 b = I b) → agJ I1 (fo (kF (MP I) (MY I) (MN I o)) f (id, id)) → ∀ u3 : mm_V, Ok 35 [.inr (some 338), .inl (o : Int), .inl (f : Int), u3] [] (I1, mm_R0) := by
      intro d
      induction d with
      | zero =>
        intro f I1 hd h1 h2 u3
        refine c35 _ _ _ ?_
        simp only [b_X12_join_35, i_xorg, i_shl, i_shr, i_ior, i_and1, i_lcg1, i_lcg2, i_ld, i_la, i_st, i_sa, i_c, i_inc, i_add, i_sub, i_mul, i_div, i_rem, i_remT, i_xor, i_dup, i_dup2, i_if, i_if2, i_sw, i_gi, i_gr, i_pi, i_pz, i_ial, i_ias, i_len, i_aal, i_gs, i_tal, i_cv, i_cs, i_ir, i_zr, i_vr, i_min, i_max, i_cpy, List.getElem?_cons_zero, List.getElem?_cons_succ, List.set_cons_zero, List.set_cons_succ, List.length_cons, List.length_nil, List.drop_succ_cons, List.drop_zero, List.take_succ_cons, List.take_zero, List.reverse_cons, List.reverse_nil, List.nil_append, List.cons_append, Option.toList_some, Option.toList_none, true_and, and_true, true_or, or_true, Nat.reduceAdd, Nat.reduceLT, Nat.reduceLeDiff, Option.some.injEq, exists_eq_left', Int.toNat_natCast, Nat.reduceSub, List.append_nil, List.replicate_succ, List.replicate_zero, mm_in, w0, T_X12_walls]
        rw [h1 339 (by omega), hn]
        refine ⟨by omega, by omega, fun _ => hP I1 h1 ?_, fun q => by omega⟩
        rw [show f = 4 * n by omega] at h2
        exact h2
      | succ d ih =>
        intro f I1 hd h1 h2 u3
        obtain ⟨M, hM⟩ : ∃ M, fo (kF (MP I) (MY I) (MN I o)) f (id, id) = M := ⟨_, rfl⟩
        rw [hM] at h2
        have f90 : ∀ (I2 : Nat → Nat → Int) (v : Nat), (∀ b, b < 346 → I2 b = I b) → agJ I2 (kF (MP I) (MY I) (MN I o) f M) → Ok 90 [.inr (some 338), .inl (o : Int), .inl (f : Int), .inl (v : Int)] [] (I2, mm_R0) := by
          intro I2 v z1 z2
          have := ih (f + 1) I2 (by omega) z1 (by show agJ I2 (kF (MP I) (MY I) (MN I o) f (fo (kF (MP I) (MY I) (MN I o)) f _)); rw [hM]; exact z2) (.inl (v : Int))
          rw [Int.natCast_add] at this
          refine c90 _ _ _ ?_
          simp only [b_X12_join_90, i_xorg, i_shl, i_shr, i_ior, i_and1, i_lcg1, i_lcg2, i_ld, i_la, i_st, i_sa, i_c, i_inc, i_add, i_sub, i_mul, i_div, i_rem, i_remT, i_xor, i_dup, i_dup2, i_if, i_if2, i_sw, i_gi, i_gr, i_pi, i_pz, i_ial, i_ias, i_len, i_aal, i_gs, i_tal, i_cv, i_cs, i_ir, i_zr, i_vr, i_min, i_max, i_cpy, List.getElem?_cons_zero, List.getElem?_cons_succ, List.set_cons_zero, List.set_cons_succ, List.length_cons, List.length_nil, List.drop_succ_cons, List.drop_zero, List.take_succ_cons, List.take_zero, List.reverse_cons, List.reverse_nil, List.nil_append, List.cons_append, Option.toList_some, Option.toList_none, true_and, and_true, true_or, or_true, Nat.reduceAdd, Nat.reduceLT, Nat.reduceLeDiff, Option.some.injEq, exists_eq_left', Int.toNat_natCast, Nat.reduceSub, List.append_nil, List.replicate_succ, List.replicate_zero, mm_in,]
          repeat' first | refine And.intro ?_ ?_ | refine fun (_ : _ ≤ _ ∧ _ < _) => ?_
          all_goals try omega
        have inner : ∀ (e v : Nat) (I2 : Nat → Nat → Int), v + e = 4 → (∀ b, b < 346 → I2 b = I b) → ((f : Int) < MP I f → agJ I2 (fo (kV (MP I) (MY I) (MN I o) f) v M)) → (¬ (f : Int) < MP I f → agJ I2 M) → Ok 45 [.inr (some 338), .inl (o : Int), .inl (f : Int), .inl (v : Int)] [] (I2, mm_R0) := by
          intro e
          induction e with
          | zero =>
            intro v I2 he g1 g2 g3
            refine c45 _ _ _ ?_
            simp only [b_X12_join_45, i_xorg, i_shl, i_shr, i_ior, i_and1, i_lcg1, i_lcg2, i_ld, i_la, i_st, i_sa, i_c, i_inc, i_add, i_sub, i_mul, i_div, i_rem, i_remT, i_xor, i_dup, i_dup2, i_if, i_if2, i_sw, i_gi, i_gr, i_pi, i_pz, i_ial, i_ias, i_len, i_aal, i_gs, i_tal, i_cv, i_cs, i_ir, i_zr, i_vr, i_min, i_max, i_cpy, List.getElem?_cons_zero, List.getElem?_cons_succ, List.set_cons_zero, List.set_cons_succ, List.length_cons, List.length_nil, List.drop_succ_cons, List.drop_zero, List.take_succ_cons, List.take_zero, List.reverse_cons, List.reverse_nil, List.nil_append, List.cons_append, Option.toList_some, Option.toList_none, true_and, and_true, true_or, or_true, Nat.reduceAdd, Nat.reduceLT, Nat.reduceLeDiff, Option.some.injEq, exists_eq_left', Int.toNat_natCast, Nat.reduceSub, List.append_nil, List.replicate_succ, List.replicate_zero, mm_in,]
            repeat' first | refine And.intro ?_ ?_ | refine fun (_ : _ ≤ _ ∧ _ < _) => ?_
            all_goals try omega
            intro _
            refine f90 I2 v g1 ?_
            unfold kF
            split
            · rename_i q
              rw [show v = 4 by omega] at g2
              exact g2 q
            · rename_i q
              exact g3 q
          | succ e ih2 =>
            intro v I2 he g1 g2 g3
            obtain ⟨gm2, eP, eY, eN⟩ := gM_fr hgm (g1 339 (by omega))
            have out : ¬ (f : Int) < MP I f → Ok 90 [.inr (some 338), .inl (o : Int), .inl (f : Int), .inl (v : Int)] [] (I2, mm_R0) := by
              intro q
              refine f90 I2 v g1 ?_
              unfold kF
              rw [if_neg q]
              exact g3 q
            have f84 : ∀ I3 : Nat → Nat → Int, (∀ b, b < 346 → I3 b = I b) → (f : Int) < MP I f → agJ I3 (kV (MP I) (MY I) (MN I o) f v (fo (kV (MP I) (MY I) (MN I o) f) v M)) → Ok 84 [.inr (some 338), .inl (o : Int), .inl (f : Int), .inl (v : Int)] [] (I3, mm_R0) := by
              intro I3 z1 zq z2
              have := ih2 (v + 1) I3 (by omega) z1 (fun _ => z2) (fun q => absurd zq q)
              rw [Int.natCast_add] at this
              refine c84 _ _ _ ?_
              simp only [b_X12_join_84, i_xorg, i_shl, i_shr, i_ior, i_and1, i_lcg1, i_lcg2, i_ld, i_la, i_st, i_sa, i_c, i_inc, i_add, i_sub, i_mul, i_div, i_rem, i_remT, i_xor, i_dup, i_dup2, i_if, i_if2, i_sw, i_gi, i_gr, i_pi, i_pz, i_ial, i_ias, i_len, i_aal, i_gs, i_tal, i_cv, i_cs, i_ir, i_zr, i_vr, i_min, i_max, i_cpy, List.getElem?_cons_zero, List.getElem?_cons_succ, List.set_cons_zero, List.set_cons_succ, List.length_cons, List.length_nil, List.drop_succ_cons, List.drop_zero, List.take_succ_cons, List.take_zero, List.reverse_cons, List.reverse_nil, List.nil_append, List.cons_append, Option.toList_some, Option.toList_none, true_and, and_true, true_or, or_true, Nat.reduceAdd, Nat.reduceLT, Nat.reduceLeDiff, Option.some.injEq, exists_eq_left', Int.toNat_natCast, Nat.reduceSub, List.append_nil, List.replicate_succ, List.replicate_zero, mm_in,]
              repeat' first | refine And.intro ?_ ?_ | refine fun (_ : _ ≤ _ ∧ _ < _) => ?_
              all_goals try omega
            refine c45 _ _ _ ?_
            simp only [b_X12_join_45, i_xorg, i_shl, i_shr, i_ior, i_and1, i_lcg1, i_lcg2, i_ld, i_la, i_st, i_sa, i_c, i_inc, i_add, i_sub, i_mul, i_div, i_rem, i_remT, i_xor, i_dup, i_dup2, i_if, i_if2, i_sw, i_gi, i_gr, i_pi, i_pz, i_ial, i_ias, i_len, i_aal, i_gs, i_tal, i_cv, i_cs, i_ir, i_zr, i_vr, i_min, i_max, i_cpy, List.getElem?_cons_zero, List.getElem?_cons_succ, List.set_cons_zero, List.set_cons_succ, List.length_cons, List.length_nil, List.drop_succ_cons, List.drop_zero, List.take_succ_cons, List.take_zero, List.reverse_cons, List.reverse_nil, List.nil_append, List.cons_append, Option.toList_some, Option.toList_none, true_and, and_true, true_or, or_true, Nat.reduceAdd, Nat.reduceLT, Nat.reduceLeDiff, Option.some.injEq, exists_eq_left', Int.toNat_natCast, Nat.reduceSub, List.append_nil, List.replicate_succ, List.replicate_zero, mm_in, w0, w1, w2, t2, T_X12_isFree, T_X12_joinArcs]
            refine ⟨fun q => by omega, fun q => ⟨f, rfl, by omega, fun z hz => ⟨fun y => out ?_, fun y => ?_⟩⟩⟩
            · have hf := bz_t hz y
              have : MP I f = -1 := by rw [← eP]; exact hf
              omega
            · have ef : I2 339 (2 + f) = MP I f := by rw [← eP]; rfl
              rw [ef] at hz ⊢
              have hno := bz_f hz (by omega)
              repeat' first | refine And.intro ?_ ?_ | refine fun (_ : _ ≤ _ ∧ _ < _) => ?_
              all_goals try omega
              · intro q2
                exact out (by omega)
              · intro q2
                have hl : (f : Int) < MP I f := by omega
                have g4 := g2 hl
                repeat' first | refine And.intro ?_ ?_ | refine fun (_ : _ ≤ _ ∧ _ < _) => ?_
                all_goals try omega
                · intro q3
                  refine f84 I2 g1 hl ?_
                  unfold kV
                  rw [if_neg (by unfold acr; rw [if_pos (Or.inl (by omega))]; omega)]
                  exact g4
                · intro q3
                  refine ⟨o, f, v, n, _, rfl, rfl, rfl, ho, gm2, by omega, by omega, by omega, by rw [eP]; omega, by rw [eN]; exact hb, by rw [eP, eY, eN]; exact hmt f v (by omega) (by omega) (by omega) hno (by omega), g4, fun I3 k1 k2 => f84 I3 (fun b hb => by rw [k1 b hb]; exact g1 b hb) hl ?_⟩
                  rw [eP, eY, eN] at k2
                  exact k2
        refine c35 _ _ _ ?_
        simp only [b_X12_join_35, i_xorg, i_shl, i_shr, i_ior, i_and1, i_lcg1, i_lcg2, i_ld, i_la, i_st, i_sa, i_c, i_inc, i_add, i_sub, i_mul, i_div, i_rem, i_remT, i_xor, i_dup, i_dup2, i_if, i_if2, i_sw, i_gi, i_gr, i_pi, i_pz, i_ial, i_ias, i_len, i_aal, i_gs, i_tal, i_cv, i_cs, i_ir, i_zr, i_vr, i_min, i_max, i_cpy, List.getElem?_cons_zero, List.getElem?_cons_succ, List.set_cons_zero, List.set_cons_succ, List.length_cons, List.length_nil, List.drop_succ_cons, List.drop_zero, List.take_succ_cons, List.take_zero, List.reverse_cons, List.reverse_nil, List.nil_append, List.cons_append, Option.toList_some, Option.toList_none, true_and, and_true, true_or, or_true, Nat.reduceAdd, Nat.reduceLT, Nat.reduceLeDiff, Option.some.injEq, exists_eq_left', Int.toNat_natCast, Nat.reduceSub, List.append_nil, List.replicate_succ, List.replicate_zero, mm_in, w0, T_X12_walls]
        rw [h1 339 (by omega), hn]
        refine ⟨by omega, by omega, fun q => by omega, fun _ => inner 4 0 I1 (by omega) h1 (fun _ => h2) (fun _ => h2)⟩
    have init : ∀ (d i : Nat) (I1 : Nat → Nat → Int), i + d = 840 → (∀ b, b < 346 → I1 b = I b) → (∀ k, k < i → I1 347 k = k) → (∀ k, 2 * k < i → I1 346 k = k) → Ok 2 [.inr (some 338), .inl (o : Int), .inl (i : Int), .inr none] [] (I1, mm_R0) := by
      intro d
      induction d with
      | zero =>
        intro i I1 hd h1 h2 h3
        refine c2 _ _ _ ?_
        simp only [b_X12_join_2, i_xorg, i_shl, i_shr, i_ior, i_and1, i_lcg1, i_lcg2, i_ld, i_la, i_st, i_sa, i_c, i_inc, i_add, i_sub, i_mul, i_div, i_rem, i_remT, i_xor, i_dup, i_dup2, i_if, i_if2, i_sw, i_gi, i_gr, i_pi, i_pz, i_ial, i_ias, i_len, i_aal, i_gs, i_tal, i_cv, i_cs, i_ir, i_zr, i_vr, i_min, i_max, i_cpy, List.getElem?_cons_zero, List.getElem?_cons_succ, List.set_cons_zero, List.set_cons_succ, List.length_cons, List.length_nil, List.drop_succ_cons, List.drop_zero, List.take_succ_cons, List.take_zero, List.reverse_cons, List.reverse_nil, List.nil_append, List.cons_append, Option.toList_some, Option.toList_none, true_and, and_true, true_or, or_true, Nat.reduceAdd, Nat.reduceLT, Nat.reduceLeDiff, Option.some.injEq, exists_eq_left', Int.toNat_natCast, Nat.reduceSub, List.append_nil, List.replicate_succ, List.replicate_zero, mm_in,]
        refine ⟨fun _ => ?_, fun z => by omega⟩
        exact outer (4 * n) 0 I1 (by omega) h1 ⟨fun k hk => ⟨h3 k (by omega), Nat.le_refl _⟩, fun k hk => ⟨h2 k (by omega), Nat.le_refl _⟩⟩ _
      | succ d ih =>
        intro i I1 hd h1 h2 h3
        have d2 : (i : Int) / 2 = ((i / 2 : Nat) : Int) := by omega
        refine c2 _ _ _ ?_
        simp only [b_X12_join_2, i_xorg, i_shl, i_shr, i_ior, i_and1, i_lcg1, i_lcg2, i_ld, i_la, i_st, i_sa, i_c, i_inc, i_add, i_sub, i_mul, i_div, i_rem, i_remT, i_xor, i_dup, i_dup2, i_if, i_if2, i_sw, i_gi, i_gr, i_pi, i_pz, i_ial, i_ias, i_len, i_aal, i_gs, i_tal, i_cv, i_cs, i_ir, i_zr, i_vr, i_min, i_max, i_cpy, List.getElem?_cons_zero, List.getElem?_cons_succ, List.set_cons_zero, List.set_cons_succ, List.length_cons, List.length_nil, List.drop_succ_cons, List.drop_zero, List.take_succ_cons, List.take_zero, List.reverse_cons, List.reverse_nil, List.nil_append, List.cons_append, Option.toList_some, Option.toList_none, true_and, and_true, true_or, or_true, Nat.reduceAdd, Nat.reduceLT, Nat.reduceLeDiff, Option.some.injEq, exists_eq_left', Int.toNat_natCast, Nat.reduceSub, List.append_nil, List.replicate_succ, List.replicate_zero, mm_in, w0, r7, r8, s8, s9, d2]
        refine ⟨fun z => by omega, fun z => ?_⟩
        repeat' first | refine And.intro ?_ ?_ | refine fun (_ : _ ≤ _ ∧ _ < _) => ?_
        all_goals try omega
        have := ih (i + 1) (mm_set (mm_set I1 347 i (i : Int)) 346 (i / 2) ((i / 2 : Nat) : Int)) (by omega) (fun b hb => by rw [mset_ne (by omega), mset_ne (by omega)]; exact h1 b hb) (fun k hk => ?_) (fun k hk => ?_)
        · rw [Int.natCast_add] at this
          exact this
        · rw [mset_ne (by omega)]
          by_cases q : k = i
          · rw [q, mset_eq]
          · rw [mset_n2 q]
            exact h2 k (by omega)
        · by_cases q : k = i / 2
          · rw [q, mset_eq]
          · rw [mset_n2 q, mset_ne (by omega)]
            exact h3 k (by omega)
    refine c0 _ _ _ ?_
    simp only [b_X12_join_0, i_xorg, i_shl, i_shr, i_ior, i_and1, i_lcg1, i_lcg2, i_ld, i_la, i_st, i_sa, i_c, i_inc, i_add, i_sub, i_mul, i_div, i_rem, i_remT, i_xor, i_dup, i_dup2, i_if, i_if2, i_sw, i_gi, i_gr, i_pi, i_pz, i_ial, i_ias, i_len, i_aal, i_gs, i_tal, i_cv, i_cs, i_ir, i_zr, i_vr, i_min, i_max, i_cpy, List.getElem?_cons_zero, List.getElem?_cons_succ, List.set_cons_zero, List.set_cons_succ, List.length_cons, List.length_nil, List.drop_succ_cons, List.drop_zero, List.take_succ_cons, List.take_zero, List.reverse_cons, List.reverse_nil, List.nil_append, List.cons_append, Option.toList_some, Option.toList_none, true_and, and_true, true_or, or_true, Nat.reduceAdd, Nat.reduceLT, Nat.reduceLeDiff, Option.some.injEq, exists_eq_left', Int.toNat_natCast, Nat.reduceSub, List.append_nil, List.replicate_succ, List.replicate_zero, mm_in,]
    exact init 840 0 I (by omega) (fun _ _ => rfl) (fun k hk => by omega) (fun k hk => by omega)
  · exact hT.elim
theorem sp_X12_join : mm_Sp yX12_join cX12_join 4 none rm_X12_join T_X12_join := mm_meth (by decide) (by
  intro av σ Post h
  unfold T_X12_join at h
  split at h
  · simp
  · exact h.elim) (fun p l e s m args below meth c G av σ Post hC hr _ hav hin hk hT => pv_X12_join av σ Post hav hin hk hT _ (bk_X12_join hC hr))
