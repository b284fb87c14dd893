/-! the other program: the surface about a corner
-/
def lkM (n : Nat) (C : Nat → Nat) (x : Nat) : Nat → Int := fun i => if i % 7 < 4 ∧ i / 7 < n ∧ C (4 * (i / 7) + i % 7) = x then 1 else 0
def T_X12_layAbout : mm_T := fun av σ Post => match av with
  | [.inr (some a), .inl y, .inl s] => σ.2 = mm_R0 ∧ a = 338 ∧ ∃ (x o n : Nat) (C : Nat → Nat), y = x ∧ s = o ∧ 26 ≤ o ∧ o ≤ 2888 ∧ σ.1 339 0 = n ∧ n ≤ 3 ∧ (∀ k, k < 12 → σ.1 343 k = C k) ∧
    ∀ I' : Nat → Nat → Int, (∀ b, b ≠ 339 → I' b = σ.1 b) → (∀ j, j < o ∨ o + 21 ≤ j → I' 339 j = σ.1 339 j) → (∀ i, i < 21 → I' 339 (o + i) = lkM n C x i) → Post none (I', mm_R0)
  | _ => False
def rm_X12_layAbout : Room := { frames := 1, cells := 0, slots := 0, locals := 20 }
def b_X12_layAbout_0 (Ok : Nat → mm_K) (Post : Option mm_V → mm_S → Prop) (kf : Nat) : mm_K := i_c 0 (i_st 3 (Ok 2))
def b_X12_layAbout_2 (Ok : Nat → mm_K) (Post : Option mm_V → mm_S → Prop) (kf : Nat) : mm_K := i_ld 3 (i_c 21 (i_if2 (fun x y => y ≤ x) (i_c 0 (i_st 3 (Ok 25))) (i_la 0 (i_gr 11 0 (i_ld 2 (i_ld 3 (i_add (i_c 0 (i_ias (i_inc 3 1 (Ok 2)))))))))))
def b_X12_layAbout_25 (Ok : Nat → mm_K) (Post : Option mm_V → mm_S → Prop) (kf : Nat) : mm_K := i_ld 3 (i_la 0 (i_cv 11 0 T_X12_walls (i_if2 (fun x y => y ≤ x) (i_vr Post kf) (i_la 0 (i_gr 11 0 (i_ld 2 (i_c 7 (i_ld 3 (i_c 4 (i_div (i_mul (i_add (i_ld 3 (i_c 4 (i_rem (i_add (i_la 0 (i_gr 11 8 (i_ld 3 (i_ial (i_ld 1 (i_if2 (fun x y => ¬ x = y) (i_c 0 (Ok 64)) (i_c 1 (Ok 64))))))))))))))))))))))))
def b_X12_layAbout_64 (Ok : Nat → mm_K) (Post : Option mm_V → mm_S → Prop) (kf : Nat) : mm_K := i_ias (i_inc 3 1 (Ok 25))
def clo_X12_layAbout (Ok : Nat → mm_K) (Post : Option mm_V → mm_S → Prop) (kf : Nat) : Prop := mm_imp (b_X12_layAbout_0 Ok Post kf) (Ok 0) ∧ mm_imp (b_X12_layAbout_2 Ok Post kf) (Ok 2) ∧ mm_imp (b_X12_layAbout_25 Ok Post kf) (Ok 25) ∧ mm_imp (b_X12_layAbout_64 Ok Post kf) (Ok 64)
set_option maxRecDepth 100000 in
set_option maxHeartbeats 4000000 in
theorem bk_X12_layAbout {p : Program} {l : Launch} {e : Env} {s : State} {m : MethodId} {args : Array Value} {below : List Frame} {meth : Method} {c : Code} {G : mm_G} {σ0 : mm_S} {Post : Option mm_V → mm_S → Prop} (hC : mm_C p G s m args meth c cX12_layAbout yX12_layAbout.cls) (hr : meth.sig.returnType = none) : clo_X12_layAbout (mm_O p l e rm_X12_layAbout s m args below meth c G σ0.2.2 (MQ below (mm_Qc G σ0 rm_X12_layAbout.cells rm_X12_layAbout.slots Post) args s rm_X12_layAbout.cells rm_X12_layAbout.slots (mm_A G))) Post σ0.2.2 := ⟨(by unfold b_X12_layAbout_0; exact (mm_ic hC dX12_layAbout_0 ⟨by decide, by decide⟩ (mm_st_n hC dX12_layAbout_1 rfl (fun _ _ _ h => h)))), (by unfold b_X12_layAbout_2; exact (mm_ld_n hC dX12_layAbout_2 rfl (mm_bp hC dX12_layAbout_3 ⟨⟨by decide, by decide⟩, by decide⟩ (mm_ic_ge hC (t := 23) dX12_layAbout_5 (by decide) (mm_ic hC dX12_layAbout_23 ⟨by decide, by decide⟩ (mm_st_n hC dX12_layAbout_24 rfl (fun _ _ _ h => h))) (mm_la_n hC dX12_layAbout_8 rfl (mm_gr hC cl_11 (by decide) rfl wd_789 dX12_layAbout_9 (mm_ld_n hC dX12_layAbout_12 rfl (mm_ld_n hC dX12_layAbout_13 rfl (mm_add hC dX12_layAbout_14 (mm_ic hC dX12_layAbout_15 ⟨by decide, by decide⟩ (mm_ias hC dX12_layAbout_16 (mm_inc hC dX12_layAbout_17 (mm_goto hC (t := 2) dX12_layAbout_20 (by decide) (fun _ _ _ h => h)))))))))))))), (by unfold b_X12_layAbout_25; exact (mm_ld_n hC dX12_layAbout_25 rfl (mm_la_n hC dX12_layAbout_26 rfl (mm_cv hC sp_X12_walls ⟨rfl, rfl⟩ cl_11 wd_837 wd_839 wd_21 wd_840 wd_77 ⟨by decide, by decide, by decide +kernel⟩ ⟨by decide, by decide⟩ dX12_layAbout_27 (mm_ic_ge hC (t := 71) dX12_layAbout_30 (by decide) (mm_vr hC ⟨rfl, rfl⟩ hr dX12_layAbout_71) (mm_la_n hC dX12_layAbout_33 rfl (mm_gr hC cl_11 (by decide) rfl wd_789 dX12_layAbout_34 (mm_ld_n hC dX12_layAbout_37 rfl (mm_bp hC dX12_layAbout_38 ⟨⟨by decide, by decide⟩, by decide⟩ (mm_ld_n hC dX12_layAbout_40 rfl (mm_ic hC dX12_layAbout_41 ⟨by decide, by decide⟩ (mm_div hC dX12_layAbout_42 (mm_mul hC dX12_layAbout_43 (mm_add hC dX12_layAbout_44 (mm_ld_n hC dX12_layAbout_45 rfl (mm_ic hC dX12_layAbout_46 ⟨by decide, by decide⟩ (mm_rem hC dX12_layAbout_47 (mm_add hC dX12_layAbout_48 (mm_la_n hC dX12_layAbout_49 rfl (mm_gr hC cl_11 (by decide) rfl wd_797 dX12_layAbout_50 (mm_ld_n hC dX12_layAbout_53 rfl (mm_ial hC dX12_layAbout_54 (mm_ld_n hC dX12_layAbout_55 rfl (mm_ic_ne hC (t := 63) dX12_layAbout_56 (by decide) (mm_ic hC dX12_layAbout_63 ⟨by decide, by decide⟩ (fun _ _ _ h => h)) (mm_ic hC dX12_layAbout_59 ⟨by decide, by decide⟩ (mm_goto hC (t := 64) dX12_layAbout_60 (by decide) (fun _ _ _ h => h))))))))))))))))))))))))))), (by unfold b_X12_layAbout_64; exact (mm_ias hC dX12_layAbout_64 (mm_inc hC dX12_layAbout_65 (mm_goto hC (t := 25) dX12_layAbout_68 (by decide) (fun _ _ _ h => h)))))⟩
set_option maxRecDepth 100000 in
set_option maxHeartbeats 8000000 in
theorem pv_X12_layAbout : ∀ (av : List mm_V) (σ : mm_S) (Post : Option mm_V → mm_S → Prop), (∀ v ∈ av, mm_iv v) → (∀ a j, mm_in (σ.1 a j)) → σ.2.2 ≤ 348 → T_X12_layAbout av σ Post → ∀ Ok : Nat → mm_K, clo_X12_layAbout Ok Post σ.2.2 → Ok 0 (av ++ List.replicate (4 - av.length) (.inr none)) [] σ := by
  intro av σ Post hav hin hk hT Ok hcl
  obtain ⟨I, R0⟩ := σ
  unfold T_X12_layAbout at hT
  split at hT
  · rename_i a y s
    obtain ⟨h0, hT⟩ := hT
    have h0 : R0 = mm_R0 := h0
    subst h0
    dsimp only at hT hin
    obtain ⟨c0, c2, c25, c64⟩ := hcl
    obtain ⟨rfl, x, o, n, C, rfl, rfl, ho, ho2, hn, hn3, hC, hP⟩ := hT
    have w0 := m0
    have w1 := m1
    have w2 := m2
    have r4 := Rs_338.2.2.2.2.1
    have s5 := sh_338.2.2.2.2.2.1
    have loop2 : ∀ (d c : Nat) (I1 : Nat → Nat → Int), c + d = 4 * n → (∀ b, b ≠ 339 → I1 b = I b) → (∀ j, j < o ∨ o + 21 ≤ j → I1 339 j = I 339 j) → (∀ i, i < 21 → I1 339 (o + i) = if 4 * (i / 7) + i % 7 < c then lkM n C x i else 0) → Ok 25 [.inr (some 338), .inl (x : Int), .inl (o : Int), .inl (c : Int)] [] (I1, mm_R0) := by
      intro d
      induction d with
      | zero =>
        intro c I1 hd h1 h2 h3
        refine c25 _ _ _ ?_
        simp only [b_X12_layAbout_25, i_xorg, i_shl, i_shr, i_ior, i_and1, i_lcg1, i_lcg2, i_ld, i_la, i_st, i_sa, i_c, i_inc, i_add, i_sub, i_mul, i_div, i_rem, i_remT, i_xor, i_dup, i_dup2, i_if, i_if2, i_sw, i_gi, i_gr, i_pi, i_pz, i_ial, i_ias, i_len, i_aal, i_gs, i_tal, i_cv, i_cs, i_ir, i_zr, i_vr, i_min, i_max, i_cpy, List.getElem?_cons_zero, List.getElem?_cons_succ, List.set_cons_zero, List.set_cons_succ, List.length_cons, List.length_nil, List.drop_succ_cons, List.drop_zero, List.take_succ_cons, List.take_zero, List.reverse_cons, List.reverse_nil, List.nil_append, List.cons_append, Option.toList_some, Option.toList_none, true_and, and_true, true_or, or_true, Nat.reduceAdd, Nat.reduceLT, Nat.reduceLeDiff, Option.some.injEq, exists_eq_left', Int.toNat_natCast, Nat.reduceSub, List.append_nil, List.replicate_succ, List.replicate_zero, mm_in, w0, T_X12_walls]
        rw [h2 0 (by omega), hn]
        refine ⟨by omega, by omega, fun _ => hP I1 h1 h2 (fun i hi => ?_), fun q => by omega⟩
        rw [h3 i hi]
        split
        · rfl
        · unfold lkM
          rw [if_neg (by omega)]
      | succ d ih =>
        intro c I1 hd h1 h2 h3
        have ec : I1 343 c = (C c : Int) := by rw [h1 343 (by omega)]; exact hC c (by omega)
        have ei : ((o : Int) + 7 * ((c : Int) / 4) + (c : Int) % 4).toNat = o + (7 * (c / 4) + c % 4) := by omega
        have f64 : ∀ v : Int, v = (if C c = x then 1 else 0) → Ok 64 [.inr (some 338), .inl (x : Int), .inl (o : Int), .inl (c : Int)] [.inl v, .inl ((o : Int) + 7 * ((c : Int) / 4) + (c : Int) % 4), .inr (some 339)] (I1, mm_R0) := by
          intro v hv
          have := ih (c + 1) (mm_set I1 339 (o + (7 * (c / 4) + c % 4)) v) (by omega) (fun b hb => by rw [mset_ne hb]; exact h1 b hb) (fun j hj => by rw [mset_n2 (by omega)]; exact h2 j hj) (fun i hi => ?_)
          · rw [Int.natCast_add] at this
            refine c64 _ _ _ ?_
            simp only [b_X12_layAbout_64, i_xorg, i_shl, i_shr, i_ior, i_and1, i_lcg1, i_lcg2, i_ld, i_la, i_st, i_sa, i_c, i_inc, i_add, i_sub, i_mul, i_div, i_rem, i_remT, i_xor, i_dup, i_dup2, i_if, i_if2, i_sw, i_gi, i_gr, i_pi, i_pz, i_ial, i_ias, i_len, i_aal, i_gs, i_tal, i_cv, i_cs, i_ir, i_zr, i_vr, i_min, i_max, i_cpy, List.getElem?_cons_zero, List.getElem?_cons_succ, List.set_cons_zero, List.set_cons_succ, List.length_cons, List.length_nil, List.drop_succ_cons, List.drop_zero, List.take_succ_cons, List.take_zero, List.reverse_cons, List.reverse_nil, List.nil_append, List.cons_append, Option.toList_some, Option.toList_none, true_and, and_true, true_or, or_true, Nat.reduceAdd, Nat.reduceLT, Nat.reduceLeDiff, Option.some.injEq, exists_eq_left', Int.toNat_natCast, Nat.reduceSub, List.append_nil, List.replicate_succ, List.replicate_zero, mm_in, w2, ei]
            repeat' first | refine And.intro ?_ ?_ | refine fun (_ : _ ≤ _ ∧ _ < _) => ?_
            all_goals try omega
            all_goals first | exact this | (subst hv; split <;> omega)
          · by_cases q : i = 7 * (c / 4) + c % 4
            · rw [q, mset_eq, if_pos (by omega), hv]
              unfold lkM
              rw [show (7 * (c / 4) + c % 4) % 7 = c % 4 by omega, show (7 * (c / 4) + c % 4) / 7 = c / 4 by omega, show 4 * (c / 4) + c % 4 = c by omega]
              by_cases r : C c = x
              · rw [if_pos r, if_pos ⟨by omega, by omega, r⟩]
              · rw [if_neg r, if_neg (fun w => r w.2.2)]
            · rw [mset_n2 (by omega), h3 i hi]
              by_cases r : 4 * (i / 7) + i % 7 < c
              · rw [if_pos r, if_pos (by omega)]
              · rw [if_neg r]
                by_cases r2 : 4 * (i / 7) + i % 7 < c + 1
                · rw [if_pos r2]
                  unfold lkM
                  rw [if_neg (by omega)]
                · rw [if_neg r2]
        refine c25 _ _ _ ?_
        simp only [b_X12_layAbout_25, i_xorg, i_shl, i_shr, i_ior, i_and1, i_lcg1, i_lcg2, i_ld, i_la, i_st, i_sa, i_c, i_inc, i_add, i_sub, i_mul, i_div, i_rem, i_remT, i_xor, i_dup, i_dup2, i_if, i_if2, i_sw, i_gi, i_gr, i_pi, i_pz, i_ial, i_ias, i_len, i_aal, i_gs, i_tal, i_cv, i_cs, i_ir, i_zr, i_vr, i_min, i_max, i_cpy, List.getElem?_cons_zero, List.getElem?_cons_succ, List.set_cons_zero, List.set_cons_succ, List.length_cons, List.length_nil, List.drop_succ_cons, List.drop_zero, List.take_succ_cons, List.take_zero, List.reverse_cons, List.reverse_nil, List.nil_append, List.cons_append, Option.toList_some, Option.toList_none, true_and, and_true, true_or, or_true, Nat.reduceAdd, Nat.reduceLT, Nat.reduceLeDiff, Option.some.injEq, exists_eq_left', Int.toNat_natCast, Nat.reduceSub, List.append_nil, List.replicate_succ, List.replicate_zero, mm_in, w0, w1, w2, r4, s5, T_X12_walls, ec]
        rw [h2 0 (by omega), hn]
        refine ⟨by omega, by omega, fun q => by omega, fun q => ?_⟩
        repeat' first | refine And.intro ?_ ?_ | refine fun (_ : _ ≤ _ ∧ _ < _) => ?_
        all_goals try omega
        · intro q2
          exact f64 0 (by rw [if_neg (by omega)])
        · intro q2
          exact f64 1 (by rw [if_pos (by omega)])
    have loop1 : ∀ (d i : Nat) (I1 : Nat → Nat → Int), i + d = 21 → (∀ b, b ≠ 339 → I1 b = I b) → (∀ j, j < o ∨ o + 21 ≤ j → I1 339 j = I 339 j) → (∀ k, k < i → I1 339 (o + k) = 0) → Ok 2 [.inr (some 338), .inl (x : Int), .inl (o : Int), .inl (i : Int)] [] (I1, mm_R0) := by
      intro d
      induction d with
      | zero =>
        intro i I1 hd h1 h2 h3
        refine c2 _ _ _ ?_
        simp only [b_X12_layAbout_2, i_xorg, i_shl, i_shr, i_ior, i_and1, i_lcg1, i_lcg2, i_ld, i_la, i_st, i_sa, i_c, i_inc, i_add, i_sub, i_mul, i_div, i_rem, i_remT, i_xor, i_dup, i_dup2, i_if, i_if2, i_sw, i_gi, i_gr, i_pi, i_pz, i_ial, i_ias, i_len, i_aal, i_gs, i_tal, i_cv, i_cs, i_ir, i_zr, i_vr, i_min, i_max, i_cpy, List.getElem?_cons_zero, List.getElem?_cons_succ, List.set_cons_zero, List.set_cons_succ, List.length_cons, List.length_nil, List.drop_succ_cons, List.drop_zero, List.take_succ_cons, List.take_zero, List.reverse_cons, List.reverse_nil, List.nil_append, List.cons_append, Option.toList_some, Option.toList_none, true_and, and_true, true_or, or_true, Nat.reduceAdd, Nat.reduceLT, Nat.reduceLeDiff, Option.some.injEq, exists_eq_left', Int.toNat_natCast, Nat.reduceSub, List.append_nil, List.replicate_succ, List.replicate_zero, mm_in,]
        refine ⟨fun _ => ?_, fun q => by omega⟩
        exact loop2 (4 * n) 0 I1 (by omega) h1 h2 (fun i hi => by rw [if_neg (by omega)]; exact h3 i (by omega))
      | succ d ih =>
        intro i I1 hd h1 h2 h3
        have := ih (i + 1) (mm_set I1 339 (o + i) 0) (by omega) (fun b hb => by rw [mset_ne hb]; exact h1 b hb) (fun j hj => by rw [mset_n2 (by omega)]; exact h2 j hj) (fun k hk => ?_)
        · rw [Int.natCast_add] at this
          refine c2 _ _ _ ?_
          simp only [b_X12_layAbout_2, i_xorg, i_shl, i_shr, i_ior, i_and1, i_lcg1, i_lcg2, i_ld, i_la, i_st, i_sa, i_c, i_inc, i_add, i_sub, i_mul, i_div, i_rem, i_remT, i_xor, i_dup, i_dup2, i_if, i_if2, i_sw, i_gi, i_gr, i_pi, i_pz, i_ial, i_ias, i_len, i_aal, i_gs, i_tal, i_cv, i_cs, i_ir, i_zr, i_vr, i_min, i_max, i_cpy, List.getElem?_cons_zero, List.getElem?_cons_succ, List.set_cons_zero, List.set_cons_succ, List.length_cons, List.length_nil, List.drop_succ_cons, List.drop_zero, List.take_succ_cons, List.take_zero, List.reverse_cons, List.reverse_nil, List.nil_append, List.cons_append, Option.toList_some, Option.toList_none, true_and, and_true, true_or, or_true, Nat.reduceAdd, Nat.reduceLT, Nat.reduceLeDiff, Option.some.injEq, exists_eq_left', Int.toNat_natCast, Nat.reduceSub, List.append_nil, List.replicate_succ, List.replicate_zero, mm_in, w0, w1, w2, ton]
          refine ⟨fun q => by omega, fun q => ?_⟩
          repeat' first | refine And.intro ?_ ?_ | refine fun (_ : _ ≤ _ ∧ _ < _) => ?_
          all_goals try omega
        · by_cases q : k = i
          · rw [q, mset_eq]
          · rw [mset_n2 (by omega)]
            exact h3 k (by omega)
    refine c0 _ _ _ ?_
    simp only [b_X12_layAbout_0, i_xorg, i_shl, i_shr, i_ior, i_and1, i_lcg1, i_lcg2, i_ld, i_la, i_st, i_sa, i_c, i_inc, i_add, i_sub, i_mul, i_div, i_rem, i_remT, i_xor, i_dup, i_dup2, i_if, i_if2, i_sw, i_gi, i_gr, i_pi, i_pz, i_ial, i_ias, i_len, i_aal, i_gs, i_tal, i_cv, i_cs, i_ir, i_zr, i_vr, i_min, i_max, i_cpy, List.getElem?_cons_zero, List.getElem?_cons_succ, List.set_cons_zero, List.set_cons_succ, List.length_cons, List.length_nil, List.drop_succ_cons, List.drop_zero, List.take_succ_cons, List.take_zero, List.reverse_cons, List.reverse_nil, List.nil_append, List.cons_append, Option.toList_some, Option.toList_none, true_and, and_true, true_or, or_true, Nat.reduceAdd, Nat.reduceLT, Nat.reduceLeDiff, Option.some.injEq, exists_eq_left', Int.toNat_natCast, Nat.reduceSub, List.append_nil, List.replicate_succ, List.replicate_zero, mm_in,]
    exact loop1 21 0 I (by omega) (fun _ _ => rfl) (fun _ _ => rfl) (fun k hk => by omega)
  · exact hT.elim
theorem sp_X12_layAbout : mm_Sp yX12_layAbout cX12_layAbout 4 none rm_X12_layAbout T_X12_layAbout := mm_meth (by decide) (by
  intro av σ Post h
  unfold T_X12_layAbout at h
  split at h
  · simp
  · exact h.elim) (fun p l e s m args below meth c G av σ Post hC hr _ hav hin hk hT => pv_X12_layAbout av σ Post hav hin hk hT _ (bk_X12_layAbout hC hr))
