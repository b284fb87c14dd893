/-! the other program: meets, crosses, euler
-/
def mtA (n : Nat) (pa wy nb : Nat → Int) (m v0 : Nat) : Prop := ∀ f v, (f < m ∨ (f = m ∧ v < v0)) → f < 4 * n → v < 4 → ¬ pa f = -1 → v ≠ f % 4 → mc pa wy nb f v
def T_X12_meets : mm_T := fun av σ Post => match av with
  | [.inr (some a), .inl s] => σ.2 = mm_R0 ∧ a = 338 ∧ ∃ o n : Nat, s = o ∧ o ≤ 2888 ∧ gM σ.1 n ∧ bd (MN σ.1 o) ∧ ∀ z : Int, bz z (mtA n (MP σ.1) (MY σ.1) (MN σ.1 o) (4 * n) 0) → Post (some (.inl z)) σ
  | _ => False
def rm_X12_meets : Room := { frames := 2, cells := 0, slots := 0, locals := 48 }
def b_X12_meets_0 (Ok : Nat → mm_K) (Post : Option mm_V → mm_S → Prop) (kf : Nat) : mm_K := i_c 0 (i_st 2 (Ok 2))
def b_X12_meets_2 (Ok : Nat → mm_K) (Post : Option mm_V → mm_S → Prop) (kf : Nat) : mm_K := i_ld 2 (i_la 0 (i_cv 11 0 T_X12_walls (i_if2 (fun x y => y ≤ x) (i_c 1 (i_zr Post kf)) (i_c 0 (i_st 3 (Ok 12))))))
def b_X12_meets_12 (Ok : Nat → mm_K) (Post : Option mm_V → mm_S → Prop) (kf : Nat) : mm_K := i_ld 3 (i_c 4 (i_if2 (fun x y => y ≤ x) (Ok 75) (i_la 0 (i_ld 2 (i_cv 11 1 T_X12_isFree (i_if (fun x => ¬ x = 0) (Ok 75) (i_ld 3 (i_ld 2 (i_c 4 (i_rem (i_if2 (fun x y => x = y) (Ok 69) (i_la 0 (i_ld 2 (i_ld 3 (i_cv 11 2 T_X12_goesTo (i_st 4 (i_la 0 (i_ld 1 (i_ld 2 (i_ld 3 (i_cv 11 3 T_X12_arcsOf (i_la 0 (i_ld 1 (i_la 0 (i_gr 11 0 (i_c 2 (i_ld 2 (i_add (i_ial (i_ld 4 (i_c 4 (i_rem (i_cv 11 3 T_X12_arcsOf (i_if2 (fun x y => x = y) (Ok 69) (i_c 0 (i_zr Post kf))))))))))))))))))))))))))))))))))))
def b_X12_meets_69 (Ok : Nat → mm_K) (Post : Option mm_V → mm_S → Prop) (kf : Nat) : mm_K := i_inc 3 1 (Ok 12)
def b_X12_meets_75 (Ok : Nat → mm_K) (Post : Option mm_V → mm_S → Prop) (kf : Nat) : mm_K := i_inc 2 1 (Ok 2)
def clo_X12_meets (Ok : Nat → mm_K) (Post : Option mm_V → mm_S → Prop) (kf : Nat) : Prop := mm_imp (b_X12_meets_0 Ok Post kf) (Ok 0) ∧ mm_imp (b_X12_meets_2 Ok Post kf) (Ok 2) ∧ mm_imp (b_X12_meets_12 Ok Post kf) (Ok 12) ∧ mm_imp (b_X12_meets_69 Ok Post kf) (Ok 69) ∧ mm_imp (b_X12_meets_75 Ok Post kf) (Ok 75)
set_option maxRecDepth 100000 in
set_option maxHeartbeats 4000000 in
theorem bk_X12_meets {p : Program} {l : Launch} {e : Env} {s : State} {m : MethodId} {args : Array Value} {below : List Frame} {meth : Method} {c : Code} {G : mm_G} {σ0 : mm_S} {Post : Option mm_V → mm_S → Prop} (hC : mm_C p G s m args meth c cX12_meets yX12_meets.cls) (hr : meth.sig.returnType = some .boolean) : clo_X12_meets (mm_O p l e rm_X12_meets s m args below meth c G σ0.2.2 (MQ below (mm_Qc G σ0 rm_X12_meets.cells rm_X12_meets.slots Post) args s rm_X12_meets.cells rm_X12_meets.slots (mm_A G))) Post σ0.2.2 := ⟨(by unfold b_X12_meets_0; exact (mm_ic hC dX12_meets_0 ⟨by decide, by decide⟩ (mm_st_n hC dX12_meets_1 rfl (fun _ _ _ h => h)))), (by unfold b_X12_meets_2; exact (mm_ld_n hC dX12_meets_2 rfl (mm_la_n hC dX12_meets_3 rfl (mm_cv hC sp_X12_walls ⟨rfl, rfl⟩ cl_11 wd_837 wd_839 wd_21 wd_840 wd_77 ⟨by decide, by decide, by decide +kernel⟩ ⟨by decide, by decide⟩ dX12_meets_4 (mm_ic_ge hC (t := 81) dX12_meets_7 (by decide) (mm_ic hC dX12_meets_81 ⟨by decide, by decide⟩ (mm_zr hC ⟨rfl, rfl⟩ hr dX12_meets_82)) (mm_ic hC dX12_meets_10 ⟨by decide, by decide⟩ (mm_st_n hC dX12_meets_11 rfl (fun _ _ _ h => h)))))))), (by unfold b_X12_meets_12; exact (mm_ld_n hC dX12_meets_12 rfl (mm_ic hC dX12_meets_13 ⟨by decide, by decide⟩ (mm_ic_ge hC (t := 75) dX12_meets_14 (by decide) (fun _ _ _ h => h) (mm_la_n hC dX12_meets_17 rfl (mm_ld_n hC dX12_meets_18 rfl (mm_cv hC sp_X12_isFree ⟨rfl, rfl⟩ cl_11 wd_841 wd_843 wd_22 wd_844 wd_77 ⟨by decide, by decide, by decide +kernel⟩ ⟨by decide, by decide⟩ dX12_meets_19 (mm_if_ne hC (t := 75) dX12_meets_22 (by decide) (fun _ _ _ h => h) (mm_ld_n hC dX12_meets_25 rfl (mm_ld_n hC dX12_meets_26 rfl (mm_ic hC dX12_meets_27 ⟨by decide, by decide⟩ (mm_rem hC dX12_meets_28 (mm_ic_eq hC (t := 69) dX12_meets_29 (by decide) (fun _ _ _ h => h) (mm_la_n hC dX12_meets_32 rfl (mm_ld_n hC dX12_meets_33 rfl (mm_ld_n hC dX12_meets_34 rfl (mm_cv hC sp_X12_goesTo ⟨rfl, rfl⟩ cl_11 wd_857 wd_859 wd_26 wd_860 wd_77 ⟨by decide, by decide, by decide +kernel⟩ ⟨by decide, by decide⟩ dX12_meets_35 (mm_st hC dX12_meets_38 (mm_la_n hC dX12_meets_40 rfl (mm_ld_n hC dX12_meets_41 rfl (mm_ld_n hC dX12_meets_42 rfl (mm_ld_n hC dX12_meets_43 rfl (mm_cv hC sp_X12_arcsOf ⟨rfl, rfl⟩ cl_11 wd_913 wd_915 wd_37 wd_916 wd_77 ⟨by decide, by decide, by decide +kernel⟩ ⟨by decide, by decide⟩ dX12_meets_44 (mm_la_n hC dX12_meets_47 rfl (mm_ld_n hC dX12_meets_48 rfl (mm_la_n hC dX12_meets_49 rfl (mm_gr hC cl_11 (by decide) rfl wd_789 dX12_meets_50 (mm_ic hC dX12_meets_53 ⟨by decide, by decide⟩ (mm_ld_n hC dX12_meets_54 rfl (mm_add hC dX12_meets_55 (mm_ial hC dX12_meets_56 (mm_ld hC dX12_meets_57 (mm_ic hC dX12_meets_59 ⟨by decide, by decide⟩ (mm_rem hC dX12_meets_60 (mm_cv hC sp_X12_arcsOf ⟨rfl, rfl⟩ cl_11 wd_913 wd_915 wd_37 wd_916 wd_77 ⟨by decide, by decide, by decide +kernel⟩ ⟨by decide, by decide⟩ dX12_meets_61 (mm_ic_eq hC (t := 69) dX12_meets_64 (by decide) (fun _ _ _ h => h) (mm_ic hC dX12_meets_67 ⟨by decide, by decide⟩ (mm_zr hC ⟨rfl, rfl⟩ hr dX12_meets_68)))))))))))))))))))))))))))))))))))))), (by unfold b_X12_meets_69; exact (mm_inc hC dX12_meets_69 (mm_goto hC (t := 12) dX12_meets_72 (by decide) (fun _ _ _ h => h)))), (by unfold b_X12_meets_75; exact (mm_inc hC dX12_meets_75 (mm_goto hC (t := 2) dX12_meets_78 (by decide) (fun _ _ _ h => h))))⟩
set_option maxRecDepth 100000 in
set_option maxHeartbeats 8000000 in
theorem pv_X12_meets : ∀ (av : List mm_V) (σ : mm_S) (Post : Option mm_V → mm_S → Prop), (∀ v ∈ av, mm_iv v) → (∀ a j, mm_in (σ.1 a j)) → σ.2.2 ≤ 348 → T_X12_meets av σ Post → ∀ Ok : Nat → mm_K, clo_X12_meets Ok Post σ.2.2 → Ok 0 (av ++ List.replicate (5 - av.length) (.inr none)) [] σ := by
  intro av σ Post hav hin hk hT Ok hcl
  obtain ⟨I, R0⟩ := σ
  unfold T_X12_meets at hT
  split at hT
  · rename_i a s
    obtain ⟨h0, hT⟩ := hT
    have h0 : R0 = mm_R0 := h0
    subst h0
    dsimp only at hT hin
    obtain ⟨c0, c2, c12, c69, c75⟩ := hcl
    obtain ⟨rfl, o, n, rfl, ho, ⟨hn, hn1, hn3, hg⟩, hb, hP⟩ := hT
    have w0 := m0
    have w1 := m1
    have w2 := m2
    have outer : ∀ (d f : Nat), f + d = 4 * n → mtA n (MP I) (MY I) (MN I o) f 0 → ∀ u3 u4 : mm_V, Ok 2 [.inr (some 338), .inl (o : Int), .inl (f : Int), u3, u4] [] (I, mm_R0) := by
      intro d
      induction d with
      | zero =>
        intro f hd hm u3 u4
        refine c2 _ _ _ ?_
        simp only [b_X12_meets_2, i_xorg, i_shl, i_shr, i_ior, i_and1, i_lcg1, i_lcg2, i_ld, i_la, i_st, i_sa, i_c, i_inc, i_add, i_sub, i_mul, i_div, i_rem, i_remT, i_xor, i_dup, i_dup2, i_if, i_if2, i_sw, i_gi, i_gr, i_pi, i_pz, i_ial, i_ias, i_len, i_aal, i_gs, i_tal, i_cv, i_cs, i_ir, i_zr, i_vr, i_min, i_max, i_cpy, List.getElem?_cons_zero, List.getElem?_cons_succ, List.set_cons_zero, List.set_cons_succ, List.length_cons, List.length_nil, List.drop_succ_cons, List.drop_zero, List.take_succ_cons, List.take_zero, List.reverse_cons, List.reverse_nil, List.nil_append, List.cons_append, Option.toList_some, Option.toList_none, true_and, and_true, true_or, or_true, Nat.reduceAdd, Nat.reduceLT, Nat.reduceLeDiff, Option.some.injEq, exists_eq_left', Int.toNat_natCast, Nat.reduceSub, List.append_nil, List.replicate_succ, List.replicate_zero, mm_in, w0, T_X12_walls]
        rw [hn]
        refine ⟨by omega, by omega, fun _ => ?_, fun q => by omega⟩
        rw [show f = 4 * n by omega] at hm
        exact hP 1 (bz_1 hm)
      | succ d ih =>
        intro f hd hm u3 u4
        have f75 : mtA n (MP I) (MY I) (MN I o) (f + 1) 0 → ∀ v : Nat, ∀ u4 : mm_V, Ok 75 [.inr (some 338), .inl (o : Int), .inl (f : Int), .inl (v : Int), u4] [] (I, mm_R0) := by
          intro h v u4
          have := ih (f + 1) (by omega) h (.inl (v : Int)) u4
          rw [Int.natCast_add] at this
          refine c75 _ _ _ ?_
          simp only [b_X12_meets_75, i_xorg, i_shl, i_shr, i_ior, i_and1, i_lcg1, i_lcg2, i_ld, i_la, i_st, i_sa, i_c, i_inc, i_add, i_sub, i_mul, i_div, i_rem, i_remT, i_xor, i_dup, i_dup2, i_if, i_if2, i_sw, i_gi, i_gr, i_pi, i_pz, i_ial, i_ias, i_len, i_aal, i_gs, i_tal, i_cv, i_cs, i_ir, i_zr, i_vr, i_min, i_max, i_cpy, List.getElem?_cons_zero, List.getElem?_cons_succ, List.set_cons_zero, List.set_cons_succ, List.length_cons, List.length_nil, List.drop_succ_cons, List.drop_zero, List.take_succ_cons, List.take_zero, List.reverse_cons, List.reverse_nil, List.nil_append, List.cons_append, Option.toList_some, Option.toList_none, true_and, and_true, true_or, or_true, Nat.reduceAdd, Nat.reduceLT, Nat.reduceLeDiff, Option.some.injEq, exists_eq_left', Int.toNat_natCast, Nat.reduceSub, List.append_nil, List.replicate_succ, List.replicate_zero, mm_in,]
          repeat' first | refine And.intro ?_ ?_ | refine fun (_ : _ ≤ _ ∧ _ < _) => ?_
          all_goals try omega
        have inner : ∀ (e v : Nat), v + e = 4 → mtA n (MP I) (MY I) (MN I o) f v → ∀ u4 : mm_V, Ok 12 [.inr (some 338), .inl (o : Int), .inl (f : Int), .inl (v : Int), u4] [] (I, mm_R0) := by
          intro e
          induction e with
          | zero =>
            intro v he h u4
            refine c12 _ _ _ ?_
            simp only [b_X12_meets_12, i_xorg, i_shl, i_shr, i_ior, i_and1, i_lcg1, i_lcg2, i_ld, i_la, i_st, i_sa, i_c, i_inc, i_add, i_sub, i_mul, i_div, i_rem, i_remT, i_xor, i_dup, i_dup2, i_if, i_if2, i_sw, i_gi, i_gr, i_pi, i_pz, i_ial, i_ias, i_len, i_aal, i_gs, i_tal, i_cv, i_cs, i_ir, i_zr, i_vr, i_min, i_max, i_cpy, List.getElem?_cons_zero, List.getElem?_cons_succ, List.set_cons_zero, List.set_cons_succ, List.length_cons, List.length_nil, List.drop_succ_cons, List.drop_zero, List.take_succ_cons, List.take_zero, List.reverse_cons, List.reverse_nil, List.nil_append, List.cons_append, Option.toList_some, Option.toList_none, true_and, and_true, true_or, or_true, Nat.reduceAdd, Nat.reduceLT, Nat.reduceLeDiff, Option.some.injEq, exists_eq_left', Int.toNat_natCast, Nat.reduceSub, List.append_nil, List.replicate_succ, List.replicate_zero, mm_in,]
            repeat' first | refine And.intro ?_ ?_ | refine fun (_ : _ ≤ _ ∧ _ < _) => ?_
            all_goals try omega
            intro _
            refine f75 (fun f' v' h1 h2 h3 h4 h5 => ?_) v u4
            exact h f' v' (by omega) h2 h3 h4 h5
          | succ e ih2 =>
            intro v he h u4
            have f69 : mtA n (MP I) (MY I) (MN I o) f (v + 1) → ∀ u4 : mm_V, Ok 69 [.inr (some 338), .inl (o : Int), .inl (f : Int), .inl (v : Int), u4] [] (I, mm_R0) := by
              intro h u4
              have := ih2 (v + 1) (by omega) h u4
              rw [Int.natCast_add] at this
              refine c69 _ _ _ ?_
              simp only [b_X12_meets_69, i_xorg, i_shl, i_shr, i_ior, i_and1, i_lcg1, i_lcg2, i_ld, i_la, i_st, i_sa, i_c, i_inc, i_add, i_sub, i_mul, i_div, i_rem, i_remT, i_xor, i_dup, i_dup2, i_if, i_if2, i_sw, i_gi, i_gr, i_pi, i_pz, i_ial, i_ias, i_len, i_aal, i_gs, i_tal, i_cv, i_cs, i_ir, i_zr, i_vr, i_min, i_max, i_cpy, List.getElem?_cons_zero, List.getElem?_cons_succ, List.set_cons_zero, List.set_cons_succ, List.length_cons, List.length_nil, List.drop_succ_cons, List.drop_zero, List.take_succ_cons, List.take_zero, List.reverse_cons, List.reverse_nil, List.nil_append, List.cons_append, Option.toList_some, Option.toList_none, true_and, and_true, true_or, or_true, Nat.reduceAdd, Nat.reduceLT, Nat.reduceLeDiff, Option.some.injEq, exists_eq_left', Int.toNat_natCast, Nat.reduceSub, List.append_nil, List.replicate_succ, List.replicate_zero, mm_in,]
              repeat' first | refine And.intro ?_ ?_ | refine fun (_ : _ ≤ _ ∧ _ < _) => ?_
              all_goals try omega
            refine c12 _ _ _ ?_
            simp only [b_X12_meets_12, i_xorg, i_shl, i_shr, i_ior, i_and1, i_lcg1, i_lcg2, i_ld, i_la, i_st, i_sa, i_c, i_inc, i_add, i_sub, i_mul, i_div, i_rem, i_remT, i_xor, i_dup, i_dup2, i_if, i_if2, i_sw, i_gi, i_gr, i_pi, i_pz, i_ial, i_ias, i_len, i_aal, i_gs, i_tal, i_cv, i_cs, i_ir, i_zr, i_vr, i_min, i_max, i_cpy, List.getElem?_cons_zero, List.getElem?_cons_succ, List.set_cons_zero, List.set_cons_succ, List.length_cons, List.length_nil, List.drop_succ_cons, List.drop_zero, List.take_succ_cons, List.take_zero, List.reverse_cons, List.reverse_nil, List.nil_append, List.cons_append, Option.toList_some, Option.toList_none, true_and, and_true, true_or, or_true, Nat.reduceAdd, Nat.reduceLT, Nat.reduceLeDiff, Option.some.injEq, exists_eq_left', Int.toNat_natCast, Nat.reduceSub, List.append_nil, List.replicate_succ, List.replicate_zero, mm_in, w0, w1, w2, t2, T_X12_isFree, T_X12_goesTo, T_X12_arcsOf]
            refine ⟨fun q => by omega, fun q => ⟨f, rfl, by omega, fun z hz => ⟨fun y => ?_, fun y => ?_⟩⟩⟩
            · have hf := bz_t hz y
              refine f75 (fun f' v' h1 h2 h3 h4 h5 => ?_) v u4
              by_cases r : f' = f
              · subst r
                exact absurd hf h4
              · exact h f' v' (by omega) h2 h3 h4 h5
            · have hf := bz_f hz (by omega)
              have hfr : ¬ MP I f = -1 := hf
              obtain ⟨q1, q2, q3, q4, q5, q6, q7, q8⟩ : f < 4 * n ∧ 0 ≤ MP I f ∧ MP I f < 4 * n ∧ MP I f ≠ f ∧ MP I (MP I f).toNat = f ∧ 0 ≤ MY I f ∧ MY I f < 6 ∧ MY I (MP I f).toNat = mm_tb 1 (MY I f).toNat := by
                rcases hg f (by omega) with e | e
                · exact absurd e hfr
                · exact e
              obtain ⟨p, hp⟩ := Int.eq_ofNat_of_zero_le q2
              obtain ⟨k, hk⟩ := Int.eq_ofNat_of_zero_le q6
              have hp' : I 339 (2 + f) = (p : Int) := hp
              refine ⟨⟨by omega, by omega⟩, fun r => ?_, fun r => ?_⟩
              · refine f69 (fun f' v' h1 h2 h3 h4 h5 => ?_) u4
                by_cases r2 : f' = f ∧ v' = v
                · omega
                · exact h f' v' (by omega) h2 h3 h4 h5
              · have av := acN_b (o := p) (k := k) (f := f) (v := v) (by omega) (by omega) (by omega) (by omega)
                refine ⟨f, v, p, k, rfl, rfl, by omega, by omega, by omega, hp', by omega, hk, by omega, ?_⟩
                refine ⟨o, f, v, rfl, rfl, rfl, ho, by omega, by omega, by omega, hb, ?_⟩
                rw [hp']
                repeat' first | refine And.intro ?_ ?_ | refine fun (_ : _ ≤ _ ∧ _ < _) => ?_
                all_goals try omega
                refine ⟨o, p, acN p k f v % 4, rfl, rfl, by omega, ho, by omega, by omega, by omega, hb, ?_⟩
                have em : mc (MP I) (MY I) (MN I o) f v ↔ ac (MN I o) (f / 4) (f % 4) v = ac (MN I o) (p / 4) (p % 4) (acN p k f v % 4) := by
                  unfold mc
                  rw [hp, hk, Int.toNat_natCast, Int.toNat_natCast]
                refine ⟨fun r2 => f69 (fun f' v' h1 h2 h3 h4 h5 => ?_) _, fun r2 => hP 0 (bz_0 (fun w => ?_))⟩
                · by_cases r3 : f' = f ∧ v' = v
                  · obtain ⟨rfl, rfl⟩ := r3
                    exact em.mpr r2
                  · exact h f' v' (by omega) h2 h3 h4 h5
                · exact r2 (em.mp (w f v (by omega) (by omega) (by omega) hfr (by omega)))
        refine c2 _ _ _ ?_
        simp only [b_X12_meets_2, i_xorg, i_shl, i_shr, i_ior, i_and1, i_lcg1, i_lcg2, i_ld, i_la, i_st, i_sa, i_c, i_inc, i_add, i_sub, i_mul, i_div, i_rem, i_remT, i_xor, i_dup, i_dup2, i_if, i_if2, i_sw, i_gi, i_gr, i_pi, i_pz, i_ial, i_ias, i_len, i_aal, i_gs, i_tal, i_cv, i_cs, i_ir, i_zr, i_vr, i_min, i_max, i_cpy, List.getElem?_cons_zero, List.getElem?_cons_succ, List.set_cons_zero, List.set_cons_succ, List.length_cons, List.length_nil, List.drop_succ_cons, List.drop_zero, List.take_succ_cons, List.take_zero, List.reverse_cons, List.reverse_nil, List.nil_append, List.cons_append, Option.toList_some, Option.toList_none, true_and, and_true, true_or, or_true, Nat.reduceAdd, Nat.reduceLT, Nat.reduceLeDiff, Option.some.injEq, exists_eq_left', Int.toNat_natCast, Nat.reduceSub, List.append_nil, List.replicate_succ, List.replicate_zero, mm_in, w0, T_X12_walls]
        rw [hn]
        refine ⟨by omega, by omega, fun q => by omega, fun _ => inner 4 0 (by omega) hm _⟩
    refine c0 _ _ _ ?_
    simp only [b_X12_meets_0, i_xorg, i_shl, i_shr, i_ior, i_and1, i_lcg1, i_lcg2, i_ld, i_la, i_st, i_sa, i_c, i_inc, i_add, i_sub, i_mul, i_div, i_rem, i_remT, i_xor, i_dup, i_dup2, i_if, i_if2, i_sw, i_gi, i_gr, i_pi, i_pz, i_ial, i_ias, i_len, i_aal, i_gs, i_tal, i_cv, i_cs, i_ir, i_zr, i_vr, i_min, i_max, i_cpy, List.getElem?_cons_zero, List.getElem?_cons_succ, List.set_cons_zero, List.set_cons_succ, List.length_cons, List.length_nil, List.drop_succ_cons, List.drop_zero, List.take_succ_cons, List.take_zero, List.reverse_cons, List.reverse_nil, List.nil_append, List.cons_append, Option.toList_some, Option.toList_none, true_and, and_true, true_or, or_true, Nat.reduceAdd, Nat.reduceLT, Nat.reduceLeDiff, Option.some.injEq, exists_eq_left', Int.toNat_natCast, Nat.reduceSub, List.append_nil, List.replicate_succ, List.replicate_zero, mm_in,]
    exact outer (4 * n) 0 (by omega) (fun f v h => by omega) _ _
  · exact hT.elim
theorem sp_X12_meets : mm_Sp yX12_meets cX12_meets 5 (some .boolean) rm_X12_meets T_X12_meets := mm_meth (by decide) (by
  intro av σ Post h
  unfold T_X12_meets at h
  split at h
  · simp
  · exact h.elim) (fun p l e s m args below meth c G av σ Post hC hr _ hav hin hk hT => pv_X12_meets av σ Post hav hin hk hT _ (bk_X12_meets hC hr))
