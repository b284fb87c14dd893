/-! the other program: the Euler characteristic of a surface
-/
def eulM (n : Nat) (pa : Nat → Int) (Le : Nat → Nat) (nb : Nat → Int) : Int := sm nb (7 * n) + wsum n Le nb - arcsum n pa nb
def T_X12_euler : mm_T := fun av σ Post => match av with
  | [.inr (some a), .inl s] => σ.2 = mm_R0 ∧ a = 338 ∧ ∃ o n : Nat, s = o ∧ o ≤ 2888 ∧ gM σ.1 n ∧ bd (MN σ.1 o) ∧ ∀ I' : Nat → Nat → Int, (∀ b, b < 343 ∨ 345 < b → I' b = σ.1 b) → agM I' (room n (MP σ.1) (MY σ.1)) → Post (some (.inl (eulM n (MP σ.1) (room n (MP σ.1) (MY σ.1)).2.1 (MN σ.1 o)))) (I', mm_R0)
  | _ => False
theorem gM_fr {I I1 : Nat → Nat → Int} {n : Nat} (h : gM I n) (e : I1 339 = I 339) : gM I1 n ∧ MP I1 = MP I ∧ MY I1 = MY I ∧ ∀ o, MN I1 o = MN I o := by
  have e1 : MP I1 = MP I := by funext j; unfold MP; rw [e]
  have e2 : MY I1 = MY I := by funext j; unfold MY; rw [e]
  refine ⟨⟨by rw [e]; exact h.1, h.2.1, h.2.2.1, by rw [e1, e2]; exact h.2.2.2⟩, e1, e2, fun o => ?_⟩
  funext j
  unfold MN
  rw [e]
def rm_X12_euler : Room := { frames := 4, cells := 0, slots := 0, locals := 99 }
def b_X12_euler_0 (Ok : Nat → mm_K) (Post : Option mm_V → mm_S → Prop) (kf : Nat) : mm_K := i_la 0 (i_cv 11 0 T_X12_layRoom (i_la 0 (i_ld 1 (i_cv 11 1 T_X12_allPieces (i_st 2 (i_c 0 (i_st 3 (Ok 12))))))))
def b_X12_euler_12 (Ok : Nat → mm_K) (Post : Option mm_V → mm_S → Prop) (kf : Nat) : mm_K := i_ld 3 (i_c 6 (i_la 0 (i_gr 11 0 (i_c 0 (i_ial (i_mul (i_if2 (fun x y => y ≤ x) (i_c 0 (i_st 3 (Ok 63))) (i_ld 2 (i_la 0 (i_gr 11 9 (i_ld 3 (i_ial (i_ld 3 (i_if2 (fun x y => ¬ x = y) (i_c 0 (Ok 53)) (i_la 0 (i_ld 1 (i_ld 3 (i_c 6 (i_div (i_ld 3 (i_c 6 (i_rem (i_cv 11 3 T_X12_weightOf (Ok 53))))))))))))))))))))))))
def b_X12_euler_53 (Ok : Nat → mm_K) (Post : Option mm_V → mm_S → Prop) (kf : Nat) : mm_K := i_add (i_st 2 (i_inc 3 1 (Ok 12)))
def b_X12_euler_63 (Ok : Nat → mm_K) (Post : Option mm_V → mm_S → Prop) (kf : Nat) : mm_K := i_ld 3 (i_la 0 (i_cv 11 0 T_X12_walls (i_if2 (fun x y => y ≤ x) (i_ld 2 (i_ir Post kf)) (i_ld 2 (i_la 0 (i_ld 3 (i_cv 11 1 T_X12_isFree (i_if (fun x => ¬ x = 0) (Ok 92) (i_ld 3 (i_la 0 (i_gr 11 0 (i_c 2 (i_ld 3 (i_add (i_ial (i_if2 (fun x y => y ≤ x) (i_c 0 (Ok 102)) (Ok 92)))))))))))))))))
def b_X12_euler_92 (Ok : Nat → mm_K) (Post : Option mm_V → mm_S → Prop) (kf : Nat) : mm_K := i_la 0 (i_ld 1 (i_ld 3 (i_cv 11 2 T_X12_arcsOfWall (Ok 102))))
def b_X12_euler_102 (Ok : Nat → mm_K) (Post : Option mm_V → mm_S → Prop) (kf : Nat) : mm_K := i_sub (i_st 2 (i_inc 3 1 (Ok 63)))
def clo_X12_euler (Ok : Nat → mm_K) (Post : Option mm_V → mm_S → Prop) (kf : Nat) : Prop := mm_imp (b_X12_euler_0 Ok Post kf) (Ok 0) ∧ mm_imp (b_X12_euler_12 Ok Post kf) (Ok 12) ∧ mm_imp (b_X12_euler_53 Ok Post kf) (Ok 53) ∧ mm_imp (b_X12_euler_63 Ok Post kf) (Ok 63) ∧ mm_imp (b_X12_euler_92 Ok Post kf) (Ok 92) ∧ mm_imp (b_X12_euler_102 Ok Post kf) (Ok 102)
set_option maxRecDepth 100000 in
set_option maxHeartbeats 4000000 in
theorem bk_X12_euler {p : Program} {l : Launch} {e : Env} {s : State} {m : MethodId} {args : Array Value} {below : List Frame} {meth : Method} {c : Code} {G : mm_G} {σ0 : mm_S} {Post : Option mm_V → mm_S → Prop} (hC : mm_C p G s m args meth c cX12_euler yX12_euler.cls) (hr : meth.sig.returnType = some .int) : clo_X12_euler (mm_O p l e rm_X12_euler s m args below meth c G σ0.2.2 (MQ below (mm_Qc G σ0 rm_X12_euler.cells rm_X12_euler.slots Post) args s rm_X12_euler.cells rm_X12_euler.slots (mm_A G))) Post σ0.2.2 := ⟨(by unfold b_X12_euler_0; exact (mm_la_n hC dX12_euler_0 rfl (mm_cv hC sp_X12_layRoom ⟨rfl, rfl⟩ cl_11 wd_849 wd_851 wd_24 wd_852 wd_77 ⟨by decide, by decide, by decide +kernel⟩ ⟨by decide, by decide⟩ dX12_euler_1 (mm_la_n hC dX12_euler_4 rfl (mm_ld_n hC dX12_euler_5 rfl (mm_cv hC sp_X12_allPieces ⟨rfl, rfl⟩ cl_11 wd_942 wd_944 wd_42 wd_945 wd_77 ⟨by decide, by decide, by decide +kernel⟩ ⟨by decide, by decide⟩ dX12_euler_6 (mm_st_n hC dX12_euler_9 rfl (mm_ic hC dX12_euler_10 ⟨by decide, by decide⟩ (mm_st_n hC dX12_euler_11 rfl (fun _ _ _ h => h)))))))))), (by unfold b_X12_euler_12; exact (mm_ld_n hC dX12_euler_12 rfl (mm_bp hC dX12_euler_13 ⟨⟨by decide, by decide⟩, by decide⟩ (mm_la_n hC dX12_euler_15 rfl (mm_gr hC cl_11 (by decide) rfl wd_789 dX12_euler_16 (mm_ic hC dX12_euler_19 ⟨by decide, by decide⟩ (mm_ial hC dX12_euler_20 (mm_mul hC dX12_euler_21 (mm_ic_ge hC (t := 61) dX12_euler_22 (by decide) (mm_ic hC dX12_euler_61 ⟨by decide, by decide⟩ (mm_st_n hC dX12_euler_62 rfl (fun _ _ _ h => h))) (mm_ld_n hC dX12_euler_25 rfl (mm_la_n hC dX12_euler_26 rfl (mm_gr hC cl_11 (by decide) rfl wd_798 dX12_euler_27 (mm_ld_n hC dX12_euler_30 rfl (mm_ial hC dX12_euler_31 (mm_ld_n hC dX12_euler_32 rfl (mm_ic_ne hC (t := 52) dX12_euler_33 (by decide) (mm_ic hC dX12_euler_52 ⟨by decide, by decide⟩ (fun _ _ _ h => h)) (mm_la_n hC dX12_euler_36 rfl (mm_ld_n hC dX12_euler_37 rfl (mm_ld_n hC dX12_euler_38 rfl (mm_bp hC dX12_euler_39 ⟨⟨by decide, by decide⟩, by decide⟩ (mm_div hC dX12_euler_41 (mm_ld_n hC dX12_euler_42 rfl (mm_bp hC dX12_euler_43 ⟨⟨by decide, by decide⟩, by decide⟩ (mm_rem hC dX12_euler_45 (mm_cv hC sp_X12_weightOf ⟨rfl, rfl⟩ cl_11 wd_946 wd_948 wd_43 wd_949 wd_77 ⟨by decide, by decide, by decide +kernel⟩ ⟨by decide, by decide⟩ dX12_euler_46 (mm_goto hC (t := 53) dX12_euler_49 (by decide) (fun _ _ _ h => h))))))))))))))))))))))))))), (by unfold b_X12_euler_53; exact (mm_add hC dX12_euler_53 (mm_st_n hC dX12_euler_54 rfl (mm_inc hC dX12_euler_55 (mm_goto hC (t := 12) dX12_euler_58 (by decide) (fun _ _ _ h => h)))))), (by unfold b_X12_euler_63; exact (mm_ld_n hC dX12_euler_63 rfl (mm_la_n hC dX12_euler_64 rfl (mm_cv hC sp_X12_walls ⟨rfl, rfl⟩ cl_11 wd_837 wd_839 wd_21 wd_840 wd_77 ⟨by decide, by decide, by decide +kernel⟩ ⟨by decide, by decide⟩ dX12_euler_65 (mm_ic_ge hC (t := 110) dX12_euler_68 (by decide) (mm_ld_n hC dX12_euler_110 rfl (mm_ir hC ⟨rfl, rfl⟩ hr dX12_euler_111)) (mm_ld_n hC dX12_euler_71 rfl (mm_la_n hC dX12_euler_72 rfl (mm_ld_n hC dX12_euler_73 rfl (mm_cv hC sp_X12_isFree ⟨rfl, rfl⟩ cl_11 wd_841 wd_843 wd_22 wd_844 wd_77 ⟨by decide, by decide, by decide +kernel⟩ ⟨by decide, by decide⟩ dX12_euler_74 (mm_if_ne hC (t := 92) dX12_euler_77 (by decide) (fun _ _ _ h => h) (mm_ld_n hC dX12_euler_80 rfl (mm_la_n hC dX12_euler_81 rfl (mm_gr hC cl_11 (by decide) rfl wd_789 dX12_euler_82 (mm_ic hC dX12_euler_85 ⟨by decide, by decide⟩ (mm_ld_n hC dX12_euler_86 rfl (mm_add hC dX12_euler_87 (mm_ial hC dX12_euler_88 (mm_ic_ge hC (t := 101) dX12_euler_89 (by decide) (mm_ic hC dX12_euler_101 ⟨by decide, by decide⟩ (fun _ _ _ h => h)) (fun _ _ _ h => h))))))))))))))))))), (by unfold b_X12_euler_92; exact (mm_la_n hC dX12_euler_92 rfl (mm_ld_n hC dX12_euler_93 rfl (mm_ld_n hC dX12_euler_94 rfl (mm_cv hC sp_X12_arcsOfWall ⟨rfl, rfl⟩ cl_11 wd_956 wd_958 wd_44 wd_959 wd_77 ⟨by decide, by decide, by decide +kernel⟩ ⟨by decide, by decide⟩ dX12_euler_95 (mm_goto hC (t := 102) dX12_euler_98 (by decide) (fun _ _ _ h => h))))))), (by unfold b_X12_euler_102; exact (mm_sub hC dX12_euler_102 (mm_st_n hC dX12_euler_103 rfl (mm_inc hC dX12_euler_104 (mm_goto hC (t := 63) dX12_euler_107 (by decide) (fun _ _ _ h => h))))))⟩
set_option maxRecDepth 100000 in
set_option maxHeartbeats 8000000 in
theorem pv_X12_euler : ∀ (av : List mm_V) (σ : mm_S) (Post : Option mm_V → mm_S → Prop), (∀ v ∈ av, mm_iv v) → (∀ a j, mm_in (σ.1 a j)) → σ.2.2 ≤ 348 → T_X12_euler av σ Post → ∀ Ok : Nat → mm_K, clo_X12_euler Ok Post σ.2.2 → Ok 0 (av ++ List.replicate (4 - av.length) (.inr none)) [] σ := by
  intro av σ Post hav hin hk hT Ok hcl
  obtain ⟨I, R0⟩ := σ
  unfold T_X12_euler at hT
  split at hT
  · rename_i a s
    obtain ⟨h0, hT⟩ := hT
    have h0 : R0 = mm_R0 := h0
    subst h0
    dsimp only at hT hin
    obtain ⟨c0, c12, c53, c63, c92, c102⟩ := hcl
    obtain ⟨rfl, o, n, rfl, ho, hgm, hb, hP⟩ := hT
    have w0 := m0
    have w1 := m1
    have w2 := m2
    have r5 := Rs_338.2.2.2.2.2.1
    have s6 := sh_338.2.2.2.2.2.2.1
    refine c0 _ _ _ ?_
    simp only [b_X12_euler_0, i_xorg, i_shl, i_shr, i_ior, i_and1, i_lcg1, i_lcg2, i_ld, i_la, i_st, i_sa, i_c, i_inc, i_add, i_sub, i_mul, i_div, i_rem, i_remT, i_xor, i_dup, i_dup2, i_if, i_if2, i_sw, i_gi, i_gr, i_pi, i_pz, i_ial, i_ias, i_len, i_aal, i_gs, i_tal, i_cv, i_cs, i_ir, i_zr, i_vr, i_min, i_max, i_cpy, List.getElem?_cons_zero, List.getElem?_cons_succ, List.set_cons_zero, List.set_cons_succ, List.length_cons, List.length_nil, List.drop_succ_cons, List.drop_zero, List.take_succ_cons, List.take_zero, List.reverse_cons, List.reverse_nil, List.nil_append, List.cons_append, Option.toList_some, Option.toList_none, true_and, and_true, true_or, or_true, Nat.reduceAdd, Nat.reduceLT, Nat.reduceLeDiff, Option.some.injEq, exists_eq_left', Int.toNat_natCast, Nat.reduceSub, List.append_nil, List.replicate_succ, List.replicate_zero, mm_in, w0, T_X12_layRoom, T_X12_allPieces]
    refine ⟨n, hgm, fun I1 f1 hag => ?_⟩
    obtain ⟨gm1, eP, eY, eN⟩ := gM_fr hgm (f1 339 (by omega))
    obtain ⟨hn, hn1, hn3, hg⟩ := id gm1
    have hb1 : bd (MN I1 o) := by rw [eN]; exact hb
    obtain ⟨L, hL⟩ : ∃ L, room n (MP I) (MY I) = L := ⟨_, rfl⟩
    rw [hL] at hag hP
    rw [← eP, ← eN] at hP
    obtain ⟨g1, g2, g3⟩ := id hag
    have hin1 : ∀ j, j < 12 → -1 ≤ MP I1 j := by
      intro j hj
      rcases hg j hj with e | e <;> omega
    refine ⟨o, n, rfl, ho, hn, hn3, hb1, ?_⟩
    obtain ⟨T, hT⟩ : ∃ T, sm (MN I1 o) (7 * n) = T := ⟨_, rfl⟩
    have hTb := sm_bd (f := MN I1 o) (c := 1000) (7 * n) (fun k hk => hb1 k (by omega))
    rw [hT] at hTb ⊢
    obtain ⟨g, hgd⟩ : ∃ g : Nat → Int, (fun e => if L.2.1 e = e then wt (MN I1 o) (e / 6) (e % 6) else 0) = g := ⟨_, rfl⟩
    obtain ⟨h, hhd⟩ : ∃ h : Nat → Int, (fun f => if MP I1 f < 0 ∨ (f : Int) < MP I1 f then aw (MN I1 o) (f / 4) (f % 4) else 0) = h := ⟨_, rfl⟩
    have hgb : ∀ e, e < 6 * n → 0 ≤ g e ∧ g e ≤ 5000 := by
      intro e he
      rw [← hgd]
      have := wt_b (b := e / 6) (e := e % 6) hb1 (by omega) (by omega)
      simp only
      split <;> omega
    have hhb : ∀ f, f < 4 * n → 0 ≤ h f ∧ h f ≤ 8000 := by
      intro f hf
      rw [← hhd]
      have := aw_b (b := f / 4) (f := f % 4) hb1 (by omega) (by omega)
      simp only
      split <;> omega
    have hgs := sm_bd (f := g) (c := 5000) (6 * n) hgb
    have hP2 : Post (some (.inl (T + sm g (6 * n) - sm h (4 * n)))) (I1, mm_R0) := by
      rw [← hT, ← hgd, ← hhd]
      exact hP I1 f1 hag
    have loop2 : ∀ (d f : Nat), f + d = 4 * n → Ok 63 [.inr (some 338), .inl (o : Int), .inl (T + sm g (6 * n) - sm h f), .inl (f : Int)] [] (I1, mm_R0) := by
      intro d
      induction d with
      | zero =>
        intro f hd
        refine c63 _ _ _ ?_
        simp only [b_X12_euler_63, i_xorg, i_shl, i_shr, i_ior, i_and1, i_lcg1, i_lcg2, i_ld, i_la, i_st, i_sa, i_c, i_inc, i_add, i_sub, i_mul, i_div, i_rem, i_remT, i_xor, i_dup, i_dup2, i_if, i_if2, i_sw, i_gi, i_gr, i_pi, i_pz, i_ial, i_ias, i_len, i_aal, i_gs, i_tal, i_cv, i_cs, i_ir, i_zr, i_vr, i_min, i_max, i_cpy, List.getElem?_cons_zero, List.getElem?_cons_succ, List.set_cons_zero, List.set_cons_succ, List.length_cons, List.length_nil, List.drop_succ_cons, List.drop_zero, List.take_succ_cons, List.take_zero, List.reverse_cons, List.reverse_nil, List.nil_append, List.cons_append, Option.toList_some, Option.toList_none, true_and, and_true, true_or, or_true, Nat.reduceAdd, Nat.reduceLT, Nat.reduceLeDiff, Option.some.injEq, exists_eq_left', Int.toNat_natCast, Nat.reduceSub, List.append_nil, List.replicate_succ, List.replicate_zero, mm_in, w0, T_X12_walls]
        rw [show f = 4 * n by omega, hn]
        exact ⟨by omega, by omega, fun _ => hP2, fun q => by omega⟩
      | succ d ih =>
        intro f hd
        have s1 := sm_bd (f := h) (c := 8000) f (fun k hk => hhb k (by omega))
        have s2 := hhb f (by omega)
        have f102 : ∀ z : Int, z = h f → Ok 102 [.inr (some 338), .inl (o : Int), .inl (T + sm g (6 * n) - sm h f), .inl (f : Int)] [.inl z, .inl (T + sm g (6 * n) - sm h f)] (I1, mm_R0) := by
          intro z hz
          have hs : T + sm g (6 * n) - sm h (f + 1) = T + sm g (6 * n) - sm h f - z := by
            rw [hz]
            show _ - (sm h f + h f) = _
            omega
          have := ih (f + 1) (by omega)
          rw [hs, Int.natCast_add] at this
          refine c102 _ _ _ ?_
          simp only [b_X12_euler_102, i_xorg, i_shl, i_shr, i_ior, i_and1, i_lcg1, i_lcg2, i_ld, i_la, i_st, i_sa, i_c, i_inc, i_add, i_sub, i_mul, i_div, i_rem, i_remT, i_xor, i_dup, i_dup2, i_if, i_if2, i_sw, i_gi, i_gr, i_pi, i_pz, i_ial, i_ias, i_len, i_aal, i_gs, i_tal, i_cv, i_cs, i_ir, i_zr, i_vr, i_min, i_max, i_cpy, List.getElem?_cons_zero, List.getElem?_cons_succ, List.set_cons_zero, List.set_cons_succ, List.length_cons, List.length_nil, List.drop_succ_cons, List.drop_zero, List.take_succ_cons, List.take_zero, List.reverse_cons, List.reverse_nil, List.nil_append, List.cons_append, Option.toList_some, Option.toList_none, true_and, and_true, true_or, or_true, Nat.reduceAdd, Nat.reduceLT, Nat.reduceLeDiff, Option.some.injEq, exists_eq_left', Int.toNat_natCast, Nat.reduceSub, List.append_nil, List.replicate_succ, List.replicate_zero, mm_in,]
          repeat' first | refine And.intro ?_ ?_ | refine fun (_ : _ ≤ _ ∧ _ < _) => ?_
          all_goals try omega
        have f92 : (MP I1 f < 0 ∨ (f : Int) < MP I1 f) → Ok 92 [.inr (some 338), .inl (o : Int), .inl (T + sm g (6 * n) - sm h f), .inl (f : Int)] [.inl (T + sm g (6 * n) - sm h f)] (I1, mm_R0) := by
          intro hc
          refine c92 _ _ _ ?_
          simp only [b_X12_euler_92, i_xorg, i_shl, i_shr, i_ior, i_and1, i_lcg1, i_lcg2, i_ld, i_la, i_st, i_sa, i_c, i_inc, i_add, i_sub, i_mul, i_div, i_rem, i_remT, i_xor, i_dup, i_dup2, i_if, i_if2, i_sw, i_gi, i_gr, i_pi, i_pz, i_ial, i_ias, i_len, i_aal, i_gs, i_tal, i_cv, i_cs, i_ir, i_zr, i_vr, i_min, i_max, i_cpy, List.getElem?_cons_zero, List.getElem?_cons_succ, List.set_cons_zero, List.set_cons_succ, List.length_cons, List.length_nil, List.drop_succ_cons, List.drop_zero, List.take_succ_cons, List.take_zero, List.reverse_cons, List.reverse_nil, List.nil_append, List.cons_append, Option.toList_some, Option.toList_none, true_and, and_true, true_or, or_true, Nat.reduceAdd, Nat.reduceLT, Nat.reduceLeDiff, Option.some.injEq, exists_eq_left', Int.toNat_natCast, Nat.reduceSub, List.append_nil, List.replicate_succ, List.replicate_zero, mm_in, w0, T_X12_arcsOfWall]
          refine ⟨o, f, rfl, rfl, ho, by omega, hb1, f102 _ ?_⟩
          rw [← hhd]
          simp only
          rw [if_pos hc]
        have hjv := hin1 f (by omega)
        refine c63 _ _ _ ?_
        simp only [b_X12_euler_63, i_xorg, i_shl, i_shr, i_ior, i_and1, i_lcg1, i_lcg2, i_ld, i_la, i_st, i_sa, i_c, i_inc, i_add, i_sub, i_mul, i_div, i_rem, i_remT, i_xor, i_dup, i_dup2, i_if, i_if2, i_sw, i_gi, i_gr, i_pi, i_pz, i_ial, i_ias, i_len, i_aal, i_gs, i_tal, i_cv, i_cs, i_ir, i_zr, i_vr, i_min, i_max, i_cpy, List.getElem?_cons_zero, List.getElem?_cons_succ, List.set_cons_zero, List.set_cons_succ, List.length_cons, List.length_nil, List.drop_succ_cons, List.drop_zero, List.take_succ_cons, List.take_zero, List.reverse_cons, List.reverse_nil, List.nil_append, List.cons_append, Option.toList_some, Option.toList_none, true_and, and_true, true_or, or_true, Nat.reduceAdd, Nat.reduceLT, Nat.reduceLeDiff, Option.some.injEq, exists_eq_left', Int.toNat_natCast, Nat.reduceSub, List.append_nil, List.replicate_succ, List.replicate_zero, mm_in, w0, w1, w2, t2, T_X12_walls, T_X12_isFree]
        rw [hn]
        refine ⟨by omega, by omega, fun q => by omega, fun q => ⟨f, rfl, by omega, fun z hz => ⟨fun y => f92 (Or.inl ?_), fun y => ?_⟩⟩⟩
        · have := bz_t hz y
          unfold MP
          omega
        · have hno := bz_f hz (by omega)
          have e : I1 339 (2 + f) = MP I1 f := rfl
          rw [e] at hno ⊢
          repeat' first | refine And.intro ?_ ?_ | refine fun (_ : _ ≤ _ ∧ _ < _) => ?_
          all_goals try omega
          · intro q2
            refine f102 0 ?_
            rw [← hhd]
            simp only
            rw [if_neg (by omega)]
          · intro q2
            exact f92 (Or.inr (by omega))
    have loop1 : ∀ (d e : Nat), e + d = 6 * n → Ok 12 [.inr (some 338), .inl (o : Int), .inl (T + sm g e), .inl (e : Int)] [] (I1, mm_R0) := by
      intro d
      induction d with
      | zero =>
        intro e hd
        have := loop2 (4 * n) 0 (by omega)
        rw [show sm h 0 = 0 from rfl, Int.sub_zero] at this
        refine c12 _ _ _ ?_
        simp only [b_X12_euler_12, i_xorg, i_shl, i_shr, i_ior, i_and1, i_lcg1, i_lcg2, i_ld, i_la, i_st, i_sa, i_c, i_inc, i_add, i_sub, i_mul, i_div, i_rem, i_remT, i_xor, i_dup, i_dup2, i_if, i_if2, i_sw, i_gi, i_gr, i_pi, i_pz, i_ial, i_ias, i_len, i_aal, i_gs, i_tal, i_cv, i_cs, i_ir, i_zr, i_vr, i_min, i_max, i_cpy, List.getElem?_cons_zero, List.getElem?_cons_succ, List.set_cons_zero, List.set_cons_succ, List.length_cons, List.length_nil, List.drop_succ_cons, List.drop_zero, List.take_succ_cons, List.take_zero, List.reverse_cons, List.reverse_nil, List.nil_append, List.cons_append, Option.toList_some, Option.toList_none, true_and, and_true, true_or, or_true, Nat.reduceAdd, Nat.reduceLT, Nat.reduceLeDiff, Option.some.injEq, exists_eq_left', Int.toNat_natCast, Nat.reduceSub, List.append_nil, List.replicate_succ, List.replicate_zero, mm_in, w0, w1, w2, t0, hn]
        rw [show e = 6 * n by omega]
        repeat' first | refine And.intro ?_ ?_ | refine fun (_ : _ ≤ _ ∧ _ < _) => ?_
        all_goals try omega
        exact fun _ => this
      | succ d ih =>
        intro e hd
        have ek := g2 e (by omega)
        have s1 := sm_bd (f := g) (c := 5000) e (fun k hk => hgb k (by omega))
        have s2 := hgb e (by omega)
        have f53 : ∀ z : Int, z = g e → Ok 53 [.inr (some 338), .inl (o : Int), .inl (T + sm g e), .inl (e : Int)] [.inl z, .inl (T + sm g e)] (I1, mm_R0) := by
          intro z hz
          have hs : T + sm g (e + 1) = T + sm g e + z := by
            rw [hz]
            show T + (sm g e + g e) = _
            omega
          have := ih (e + 1) (by omega)
          rw [hs, Int.natCast_add] at this
          refine c53 _ _ _ ?_
          simp only [b_X12_euler_53, i_xorg, i_shl, i_shr, i_ior, i_and1, i_lcg1, i_lcg2, i_ld, i_la, i_st, i_sa, i_c, i_inc, i_add, i_sub, i_mul, i_div, i_rem, i_remT, i_xor, i_dup, i_dup2, i_if, i_if2, i_sw, i_gi, i_gr, i_pi, i_pz, i_ial, i_ias, i_len, i_aal, i_gs, i_tal, i_cv, i_cs, i_ir, i_zr, i_vr, i_min, i_max, i_cpy, List.getElem?_cons_zero, List.getElem?_cons_succ, List.set_cons_zero, List.set_cons_succ, List.length_cons, List.length_nil, List.drop_succ_cons, List.drop_zero, List.take_succ_cons, List.take_zero, List.reverse_cons, List.reverse_nil, List.nil_append, List.cons_append, Option.toList_some, Option.toList_none, true_and, and_true, true_or, or_true, Nat.reduceAdd, Nat.reduceLT, Nat.reduceLeDiff, Option.some.injEq, exists_eq_left', Int.toNat_natCast, Nat.reduceSub, List.append_nil, List.replicate_succ, List.replicate_zero, mm_in,]
          repeat' first | refine And.intro ?_ ?_ | refine fun (_ : _ ≤ _ ∧ _ < _) => ?_
          all_goals try omega
        refine c12 _ _ _ ?_
        simp only [b_X12_euler_12, i_xorg, i_shl, i_shr, i_ior, i_and1, i_lcg1, i_lcg2, i_ld, i_la, i_st, i_sa, i_c, i_inc, i_add, i_sub, i_mul, i_div, i_rem, i_remT, i_xor, i_dup, i_dup2, i_if, i_if2, i_sw, i_gi, i_gr, i_pi, i_pz, i_ial, i_ias, i_len, i_aal, i_gs, i_tal, i_cv, i_cs, i_ir, i_zr, i_vr, i_min, i_max, i_cpy, List.getElem?_cons_zero, List.getElem?_cons_succ, List.set_cons_zero, List.set_cons_succ, List.length_cons, List.length_nil, List.drop_succ_cons, List.drop_zero, List.take_succ_cons, List.take_zero, List.reverse_cons, List.reverse_nil, List.nil_append, List.cons_append, Option.toList_some, Option.toList_none, true_and, and_true, true_or, or_true, Nat.reduceAdd, Nat.reduceLT, Nat.reduceLeDiff, Option.some.injEq, exists_eq_left', Int.toNat_natCast, Nat.reduceSub, List.append_nil, List.replicate_succ, List.replicate_zero, mm_in, w0, w1, w2, t0, hn, r5, s6, ek.1, T_X12_weightOf]
        repeat' first | refine And.intro ?_ ?_ | refine fun (_ : _ ≤ _ ∧ _ < _) => ?_
        all_goals try omega
        intro q
        repeat' first | refine And.intro ?_ ?_ | refine fun (_ : _ ≤ _ ∧ _ < _) => ?_
        all_goals try omega
        · intro q2
          refine f53 0 ?_
          rw [← hgd]
          simp only
          rw [if_neg (by omega)]
        · intro q2
          repeat' first | refine And.intro ?_ ?_ | refine fun (_ : _ ≤ _ ∧ _ < _) => ?_
          all_goals try omega
          refine ⟨o, e / 6, e % 6, rfl, by omega, by omega, ho, by omega, by omega, hb1, f53 _ ?_⟩
          rw [← hgd]
          simp only
          rw [if_pos (by omega)]
    have := loop1 (6 * n) 0 (by omega)
    rw [show sm g 0 = 0 from rfl, Int.add_zero] at this
    exact this
  · exact hT.elim
theorem sp_X12_euler : mm_Sp yX12_euler cX12_euler 4 (some .int) rm_X12_euler T_X12_euler := mm_meth (by decide) (by
  intro av σ Post h
  unfold T_X12_euler at h
  split at h
  · simp
  · exact h.elim) (fun p l e s m args below meth c G av σ Post hC hr _ hav hin hk hT => pv_X12_euler av σ Post hav hin hk hT _ (bk_X12_euler hC hr))
