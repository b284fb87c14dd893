/-! the other program: the room laid; counts
-/
def T_X12_layRoom : mm_T := fun av σ Post => match av with
  | [.inr (some a)] => σ.2 = mm_R0 ∧ a = 338 ∧ ∃ n : Nat, gM σ.1 n ∧ ∀ I' : Nat → Nat → Int, (∀ b, b < 343 ∨ 345 < b → I' b = σ.1 b) → agM I' (room n (MP σ.1) (MY σ.1)) → Post none (I', mm_R0)
  | _ => False
def rm_X12_layRoom : Room := { frames := 3, cells := 0, slots := 0, locals := 78 }
def b_X12_layRoom_0 (Ok : Nat → mm_K) (Post : Option mm_V → mm_S → Prop) (kf : Nat) : mm_K := i_c 0 (i_st 1 (Ok 2))
def b_X12_layRoom_2 (Ok : Nat → mm_K) (Post : Option mm_V → mm_S → Prop) (kf : Nat) : mm_K := i_ld 1 (i_c 36 (i_if2 (fun x y => y ≤ x) (i_c 0 (i_st 1 (Ok 45))) (i_la 0 (i_gr 11 10 (i_ld 1 (i_ld 1 (i_ias (i_la 0 (i_gr 11 9 (i_ld 1 (i_c 2 (i_div (i_ld 1 (i_c 2 (i_div (i_ias (i_la 0 (i_gr 11 8 (i_ld 1 (i_c 3 (i_div (i_ld 1 (i_c 3 (i_div (i_ias (i_inc 1 1 (Ok 2)))))))))))))))))))))))))))
def b_X12_layRoom_45 (Ok : Nat → mm_K) (Post : Option mm_V → mm_S → Prop) (kf : Nat) : mm_K := i_ld 1 (i_la 0 (i_cv 11 0 T_X12_walls (i_if2 (fun x y => y ≤ x) (i_vr Post kf) (i_la 0 (i_ld 1 (i_cv 11 1 T_X12_isFree (i_if (fun x => ¬ x = 0) (Ok 66) (i_la 0 (i_ld 1 (i_cv 11 1 T_X12_glueCorners (Ok 66)))))))))))
def b_X12_layRoom_66 (Ok : Nat → mm_K) (Post : Option mm_V → mm_S → Prop) (kf : Nat) : mm_K := i_inc 1 1 (Ok 45)
def clo_X12_layRoom (Ok : Nat → mm_K) (Post : Option mm_V → mm_S → Prop) (kf : Nat) : Prop := mm_imp (b_X12_layRoom_0 Ok Post kf) (Ok 0) ∧ mm_imp (b_X12_layRoom_2 Ok Post kf) (Ok 2) ∧ mm_imp (b_X12_layRoom_45 Ok Post kf) (Ok 45) ∧ mm_imp (b_X12_layRoom_66 Ok Post kf) (Ok 66)
set_option maxRecDepth 100000 in
set_option maxHeartbeats 4000000 in
theorem bk_X12_layRoom {p : Program} {l : Launch} {e : Env} {s : State} {m : MethodId} {args : Array Value} {below : List Frame} {meth : Method} {c : Code} {G : mm_G} {σ0 : mm_S} {Post : Option mm_V → mm_S → Prop} (hC : mm_C p G s m args meth c cX12_layRoom yX12_layRoom.cls) (hr : meth.sig.returnType = none) : clo_X12_layRoom (mm_O p l e rm_X12_layRoom s m args below meth c G σ0.2.2 (MQ below (mm_Qc G σ0 rm_X12_layRoom.cells rm_X12_layRoom.slots Post) args s rm_X12_layRoom.cells rm_X12_layRoom.slots (mm_A G))) Post σ0.2.2 := ⟨(by unfold b_X12_layRoom_0; exact (mm_ic hC dX12_layRoom_0 ⟨by decide, by decide⟩ (mm_st_n hC dX12_layRoom_1 rfl (fun _ _ _ h => h)))), (by unfold b_X12_layRoom_2; exact (mm_ld_n hC dX12_layRoom_2 rfl (mm_bp hC dX12_layRoom_3 ⟨⟨by decide, by decide⟩, by decide⟩ (mm_ic_ge hC (t := 43) dX12_layRoom_5 (by decide) (mm_ic hC dX12_layRoom_43 ⟨by decide, by decide⟩ (mm_st_n hC dX12_layRoom_44 rfl (fun _ _ _ h => h))) (mm_la_n hC dX12_layRoom_8 rfl (mm_gr hC cl_11 (by decide) rfl wd_799 dX12_layRoom_9 (mm_ld_n hC dX12_layRoom_12 rfl (mm_ld_n hC dX12_layRoom_13 rfl (mm_ias hC dX12_layRoom_14 (mm_la_n hC dX12_layRoom_15 rfl (mm_gr hC cl_11 (by decide) rfl wd_798 dX12_layRoom_16 (mm_ld_n hC dX12_layRoom_19 rfl (mm_ic hC dX12_layRoom_20 ⟨by decide, by decide⟩ (mm_div hC dX12_layRoom_21 (mm_ld_n hC dX12_layRoom_22 rfl (mm_ic hC dX12_layRoom_23 ⟨by decide, by decide⟩ (mm_div hC dX12_layRoom_24 (mm_ias hC dX12_layRoom_25 (mm_la_n hC dX12_layRoom_26 rfl (mm_gr hC cl_11 (by decide) rfl wd_797 dX12_layRoom_27 (mm_ld_n hC dX12_layRoom_30 rfl (mm_ic hC dX12_layRoom_31 ⟨by decide, by decide⟩ (mm_div hC dX12_layRoom_32 (mm_ld_n hC dX12_layRoom_33 rfl (mm_ic hC dX12_layRoom_34 ⟨by decide, by decide⟩ (mm_div hC dX12_layRoom_35 (mm_ias hC dX12_layRoom_36 (mm_inc hC dX12_layRoom_37 (mm_goto hC (t := 2) dX12_layRoom_40 (by decide) (fun _ _ _ h => h)))))))))))))))))))))))))))))), (by unfold b_X12_layRoom_45; exact (mm_ld_n hC dX12_layRoom_45 rfl (mm_la_n hC dX12_layRoom_46 rfl (mm_cv hC sp_X12_walls ⟨rfl, rfl⟩ cl_11 wd_837 wd_839 wd_21 wd_840 wd_77 ⟨by decide, by decide, by decide +kernel⟩ ⟨by decide, by decide⟩ dX12_layRoom_47 (mm_ic_ge hC (t := 72) dX12_layRoom_50 (by decide) (mm_vr hC ⟨rfl, rfl⟩ hr dX12_layRoom_72) (mm_la_n hC dX12_layRoom_53 rfl (mm_ld_n hC dX12_layRoom_54 rfl (mm_cv hC sp_X12_isFree ⟨rfl, rfl⟩ cl_11 wd_841 wd_843 wd_22 wd_844 wd_77 ⟨by decide, by decide, by decide +kernel⟩ ⟨by decide, by decide⟩ dX12_layRoom_55 (mm_if_ne hC (t := 66) dX12_layRoom_58 (by decide) (fun _ _ _ h => h) (mm_la_n hC dX12_layRoom_61 rfl (mm_ld_n hC dX12_layRoom_62 rfl (mm_cv hC sp_X12_glueCorners ⟨rfl, rfl⟩ cl_11 wd_853 wd_855 wd_25 wd_856 wd_77 ⟨by decide, by decide, by decide +kernel⟩ ⟨by decide, by decide⟩ dX12_layRoom_63 (fun _ _ _ h => h))))))))))))), (by unfold b_X12_layRoom_66; exact (mm_inc hC dX12_layRoom_66 (mm_goto hC (t := 45) dX12_layRoom_69 (by decide) (fun _ _ _ h => h))))⟩
set_option maxRecDepth 100000 in
set_option maxHeartbeats 8000000 in
theorem pv_X12_layRoom : ∀ (av : List mm_V) (σ : mm_S) (Post : Option mm_V → mm_S → Prop), (∀ v ∈ av, mm_iv v) → (∀ a j, mm_in (σ.1 a j)) → σ.2.2 ≤ 348 → T_X12_layRoom av σ Post → ∀ Ok : Nat → mm_K, clo_X12_layRoom Ok Post σ.2.2 → Ok 0 (av ++ List.replicate (2 - av.length) (.inr none)) [] σ := by
  intro av σ Post hav hin hk hT Ok hcl
  obtain ⟨I, R0⟩ := σ
  unfold T_X12_layRoom at hT
  split at hT
  · rename_i a
    obtain ⟨h0, hT⟩ := hT
    have h0 : R0 = mm_R0 := h0
    subst h0
    dsimp only at hT hin
    obtain ⟨c0, c2, c45, c66⟩ := hcl
    obtain ⟨rfl, n, hgm, hP⟩ := hT
    obtain ⟨hn, hn1, hn3, hg⟩ := id hgm
    have w0 := m0
    obtain ⟨r0, r1, r2, r3, r4, r5, r6, r7, r8⟩ := Rs_338
    obtain ⟨s0, s1, s2, s3, s4, s5, s6, s7, s8, s9⟩ := sh_338
    have hfr : ∀ I1 : Nat → Nat → Int, (∀ b, b < 343 ∨ 345 < b → I1 b = I b) → gM I1 n ∧ MP I1 = MP I ∧ MY I1 = MY I := by
      intro I1 h
      have e := h 339 (by omega)
      have e1 : MP I1 = MP I := by funext j; unfold MP; rw [e]
      have e2 : MY I1 = MY I := by funext j; unfold MY; rw [e]
      exact ⟨⟨by rw [e]; exact hn, hn1, hn3, by rw [e1, e2]; exact hg⟩, e1, e2⟩
    have loop : ∀ (d f : Nat) (I1 : Nat → Nat → Int), f + d = 4 * n → (∀ b, b < 343 ∨ 345 < b → I1 b = I b) → agM I1 (fo (gR (MP I) (MY I)) f (id, id, id)) → Ok 45 [.inr (some 338), .inl (f : Int)] [] (I1, mm_R0) := by
      intro d
      induction d with
      | zero =>
        intro f I1 hd h1 h2
        obtain ⟨⟨gn, _, _, _⟩, _, _⟩ := hfr I1 h1
        refine c45 _ _ _ ?_
        simp only [b_X12_layRoom_45, i_xorg, i_shl, i_shr, i_ior, i_and1, i_lcg1, i_lcg2, i_ld, i_la, i_st, i_sa, i_c, i_inc, i_add, i_sub, i_mul, i_div, i_rem, i_remT, i_xor, i_dup, i_dup2, i_if, i_if2, i_sw, i_gi, i_gr, i_pi, i_pz, i_ial, i_ias, i_len, i_aal, i_gs, i_tal, i_cv, i_cs, i_ir, i_zr, i_vr, i_min, i_max, i_cpy, List.getElem?_cons_zero, List.getElem?_cons_succ, List.set_cons_zero, List.set_cons_succ, List.length_cons, List.length_nil, List.drop_succ_cons, List.drop_zero, List.take_succ_cons, List.take_zero, List.reverse_cons, List.reverse_nil, List.nil_append, List.cons_append, Option.toList_some, Option.toList_none, true_and, and_true, true_or, or_true, Nat.reduceAdd, Nat.reduceLT, Nat.reduceLeDiff, Option.some.injEq, exists_eq_left', Int.toNat_natCast, Nat.reduceSub, List.append_nil, List.replicate_succ, List.replicate_zero, mm_in, w0, T_X12_walls]
        rw [gn]
        refine ⟨by omega, by omega, fun _ => hP I1 h1 ?_, fun z => by omega⟩
        rw [show f = 4 * n by omega] at h2
        exact h2
      | succ d ih =>
        intro f I1 hd h1 h2
        obtain ⟨gm, eP, eY⟩ := hfr I1 h1
        obtain ⟨M, hM⟩ : ∃ M, fo (gR (MP I) (MY I)) f (id, id, id) = M := ⟨_, rfl⟩
        rw [hM] at h2
        have nx : ∀ (I2 : Nat → Nat → Int), (∀ b, b < 343 ∨ 345 < b → I2 b = I b) → agM I2 (gR (MP I) (MY I) f M) → Ok 66 [.inr (some 338), .inl (f : Int)] [] (I2, mm_R0) := by
          intro I2 z1 z2
          refine c66 _ _ _ ?_
          simp only [b_X12_layRoom_66, i_xorg, i_shl, i_shr, i_ior, i_and1, i_lcg1, i_lcg2, i_ld, i_la, i_st, i_sa, i_c, i_inc, i_add, i_sub, i_mul, i_div, i_rem, i_remT, i_xor, i_dup, i_dup2, i_if, i_if2, i_sw, i_gi, i_gr, i_pi, i_pz, i_ial, i_ias, i_len, i_aal, i_gs, i_tal, i_cv, i_cs, i_ir, i_zr, i_vr, i_min, i_max, i_cpy, List.getElem?_cons_zero, List.getElem?_cons_succ, List.set_cons_zero, List.set_cons_succ, List.length_cons, List.length_nil, List.drop_succ_cons, List.drop_zero, List.take_succ_cons, List.take_zero, List.reverse_cons, List.reverse_nil, List.nil_append, List.cons_append, Option.toList_some, Option.toList_none, true_and, and_true, true_or, or_true, Nat.reduceAdd, Nat.reduceLT, Nat.reduceLeDiff, Option.some.injEq, exists_eq_left', Int.toNat_natCast, Nat.reduceSub, List.append_nil, List.replicate_succ, List.replicate_zero, mm_in,]
          refine ⟨⟨by omega, by omega⟩, ?_⟩
          have := ih (f + 1) I2 (by omega) z1 (by show agM I2 (gR (MP I) (MY I) f (fo (gR (MP I) (MY I)) f _)); rw [hM]; exact z2)
          rw [Int.natCast_add] at this
          exact this
        refine c45 _ _ _ ?_
        simp only [b_X12_layRoom_45, i_xorg, i_shl, i_shr, i_ior, i_and1, i_lcg1, i_lcg2, i_ld, i_la, i_st, i_sa, i_c, i_inc, i_add, i_sub, i_mul, i_div, i_rem, i_remT, i_xor, i_dup, i_dup2, i_if, i_if2, i_sw, i_gi, i_gr, i_pi, i_pz, i_ial, i_ias, i_len, i_aal, i_gs, i_tal, i_cv, i_cs, i_ir, i_zr, i_vr, i_min, i_max, i_cpy, List.getElem?_cons_zero, List.getElem?_cons_succ, List.set_cons_zero, List.set_cons_succ, List.length_cons, List.length_nil, List.drop_succ_cons, List.drop_zero, List.take_succ_cons, List.take_zero, List.reverse_cons, List.reverse_nil, List.nil_append, List.cons_append, Option.toList_some, Option.toList_none, true_and, and_true, true_or, or_true, Nat.reduceAdd, Nat.reduceLT, Nat.reduceLeDiff, Option.some.injEq, exists_eq_left', Int.toNat_natCast, Nat.reduceSub, List.append_nil, List.replicate_succ, List.replicate_zero, mm_in, w0, T_X12_walls, T_X12_isFree, T_X12_glueCorners]
        rw [gm.1]
        refine ⟨by omega, by omega, fun z => by omega, fun z => ⟨f, rfl, by omega, fun y hy => ⟨fun q => nx I1 h1 ?_, fun q => ?_⟩⟩⟩
        · unfold gR
          rw [if_pos (by rw [← eP]; exact bz_t hy q)]
          exact h2
        · have hno := bz_f hy (by omega)
          have hno2 : ¬ MP I f = -1 := by rw [← eP]; exact hno
          have hp : 0 ≤ MP I1 f := by
            rw [eP]
            rcases hg f (by omega) with e | e <;> omega
          refine ⟨f, n, M, rfl, gm, by omega, hp, h2, fun I2 f1 f2 => nx I2 (fun b hb => by rw [f1 b hb]; exact h1 b hb) ?_⟩
          unfold gR
          rw [if_neg hno2, ← eP, ← eY]
          exact f2
    have init : ∀ (d i : Nat) (I1 : Nat → Nat → Int), i + d = 36 → (∀ b, b < 343 ∨ 345 < b → I1 b = I b) → (∀ k, k < i → I1 345 k = k) → (∀ k, 2 * k < i → I1 344 k = k) → (∀ k, 3 * k < i → I1 343 k = k) → Ok 2 [.inr (some 338), .inl (i : Int)] [] (I1, mm_R0) := by
      intro d
      induction d with
      | zero =>
        intro i I1 hd h1 h2 h3 h4
        refine c2 _ _ _ ?_
        simp only [b_X12_layRoom_2, i_xorg, i_shl, i_shr, i_ior, i_and1, i_lcg1, i_lcg2, i_ld, i_la, i_st, i_sa, i_c, i_inc, i_add, i_sub, i_mul, i_div, i_rem, i_remT, i_xor, i_dup, i_dup2, i_if, i_if2, i_sw, i_gi, i_gr, i_pi, i_pz, i_ial, i_ias, i_len, i_aal, i_gs, i_tal, i_cv, i_cs, i_ir, i_zr, i_vr, i_min, i_max, i_cpy, List.getElem?_cons_zero, List.getElem?_cons_succ, List.set_cons_zero, List.set_cons_succ, List.length_cons, List.length_nil, List.drop_succ_cons, List.drop_zero, List.take_succ_cons, List.take_zero, List.reverse_cons, List.reverse_nil, List.nil_append, List.cons_append, Option.toList_some, Option.toList_none, true_and, and_true, true_or, or_true, Nat.reduceAdd, Nat.reduceLT, Nat.reduceLeDiff, Option.some.injEq, exists_eq_left', Int.toNat_natCast, Nat.reduceSub, List.append_nil, List.replicate_succ, List.replicate_zero, mm_in,]
        refine ⟨fun _ => ?_, fun z => by omega⟩
        exact loop (4 * n) 0 I1 (by omega) h1 ⟨fun k hk => ⟨h4 k (by omega), Nat.le_refl _⟩, fun k hk => ⟨h3 k (by omega), Nat.le_refl _⟩, fun k hk => ⟨h2 k (by omega), Nat.le_refl _⟩⟩
      | succ d ih =>
        intro i I1 hd h1 h2 h3 h4
        have d2 : (i : Int) / 2 = ((i / 2 : Nat) : Int) := by omega
        have d3 : (i : Int) / 3 = ((i / 3 : Nat) : Int) := by omega
        refine c2 _ _ _ ?_
        simp only [b_X12_layRoom_2, i_xorg, i_shl, i_shr, i_ior, i_and1, i_lcg1, i_lcg2, i_ld, i_la, i_st, i_sa, i_c, i_inc, i_add, i_sub, i_mul, i_div, i_rem, i_remT, i_xor, i_dup, i_dup2, i_if, i_if2, i_sw, i_gi, i_gr, i_pi, i_pz, i_ial, i_ias, i_len, i_aal, i_gs, i_tal, i_cv, i_cs, i_ir, i_zr, i_vr, i_min, i_max, i_cpy, List.getElem?_cons_zero, List.getElem?_cons_succ, List.set_cons_zero, List.set_cons_succ, List.length_cons, List.length_nil, List.drop_succ_cons, List.drop_zero, List.take_succ_cons, List.take_zero, List.reverse_cons, List.reverse_nil, List.nil_append, List.cons_append, Option.toList_some, Option.toList_none, true_and, and_true, true_or, or_true, Nat.reduceAdd, Nat.reduceLT, Nat.reduceLeDiff, Option.some.injEq, exists_eq_left', Int.toNat_natCast, Nat.reduceSub, List.append_nil, List.replicate_succ, List.replicate_zero, mm_in, w0, r4, r5, r6, s5, s6, s7, d2, d3]
        refine ⟨fun z => by omega, fun z => ?_⟩
        repeat' first | refine And.intro ?_ ?_ | refine fun (_ : _ ≤ _ ∧ _ < _) => ?_
        all_goals try omega
        have := ih (i + 1) (mm_set (mm_set (mm_set I1 345 i (i : Int)) 344 (i / 2) ((i / 2 : Nat) : Int)) 343 (i / 3) ((i / 3 : Nat) : Int)) (by omega) (fun b hb => by rw [mset_ne (by omega), mset_ne (by omega), mset_ne (by omega)]; exact h1 b hb) (fun k hk => ?_) (fun k hk => ?_) (fun k hk => ?_)
        · rw [Int.natCast_add] at this
          exact this
        · rw [mset_ne (by omega), mset_ne (by omega)]
          by_cases q : k = i
          · rw [q, mset_eq]
          · rw [mset_n2 q]
            exact h2 k (by omega)
        · rw [mset_ne (by omega)]
          by_cases q : k = i / 2
          · rw [q, mset_eq]
          · rw [mset_n2 q, mset_ne (by omega)]
            exact h3 k (by omega)
        · by_cases q : k = i / 3
          · rw [q, mset_eq]
          · rw [mset_n2 q, mset_ne (by omega), mset_ne (by omega)]
            exact h4 k (by omega)
    refine c0 _ _ _ ?_
    simp only [b_X12_layRoom_0, i_xorg, i_shl, i_shr, i_ior, i_and1, i_lcg1, i_lcg2, i_ld, i_la, i_st, i_sa, i_c, i_inc, i_add, i_sub, i_mul, i_div, i_rem, i_remT, i_xor, i_dup, i_dup2, i_if, i_if2, i_sw, i_gi, i_gr, i_pi, i_pz, i_ial, i_ias, i_len, i_aal, i_gs, i_tal, i_cv, i_cs, i_ir, i_zr, i_vr, i_min, i_max, i_cpy, List.getElem?_cons_zero, List.getElem?_cons_succ, List.set_cons_zero, List.set_cons_succ, List.length_cons, List.length_nil, List.drop_succ_cons, List.drop_zero, List.take_succ_cons, List.take_zero, List.reverse_cons, List.reverse_nil, List.nil_append, List.cons_append, Option.toList_some, Option.toList_none, true_and, and_true, true_or, or_true, Nat.reduceAdd, Nat.reduceLT, Nat.reduceLeDiff, Option.some.injEq, exists_eq_left', Int.toNat_natCast, Nat.reduceSub, List.append_nil, List.replicate_succ, List.replicate_zero, mm_in,]
    exact init 36 0 I (by omega) (fun _ _ => rfl) (fun k hk => by omega) (fun k hk => by omega) (fun k hk => by omega)
  · exact hT.elim
theorem sp_X12_layRoom : mm_Sp yX12_layRoom cX12_layRoom 2 none rm_X12_layRoom T_X12_layRoom := mm_meth (by decide) (by
  intro av σ Post h
  unfold T_X12_layRoom at h
  split at h
  · simp
  · exact h.elim) (fun p l e s m args below meth c G av σ Post hC hr _ hav hin hk hT => pv_X12_layRoom av σ Post hav hin hk hT _ (bk_X12_layRoom hC hr))
def T_X12_firsts : mm_T := fun av σ Post => match av with
  | [.inr (some u), .inl x] => σ.2 = mm_R0 ∧ ∃ (n : Nat) (L : Nat → Nat), x = n ∧ (mm_sh u).1 = 100 ∧ n ≤ (mm_sh u).2 ∧ n ≤ 840 ∧ (∀ k, k < n → σ.1 u k = L k) ∧ Post (some (.inl (nr L n))) σ
  | _ => False
def rm_X12_firsts : Room := { frames := 0, cells := 0, slots := 0, locals := 0 }
def b_X12_firsts_0 (Ok : Nat → mm_K) (Post : Option mm_V → mm_S → Prop) (kf : Nat) : mm_K := i_c 0 (i_st 2 (i_c 0 (i_st 3 (Ok 4))))
def b_X12_firsts_4 (Ok : Nat → mm_K) (Post : Option mm_V → mm_S → Prop) (kf : Nat) : mm_K := i_ld 3 (i_ld 1 (i_if2 (fun x y => y ≤ x) (i_ld 2 (i_ir Post kf)) (i_ld 2 (i_la 0 (i_ld 3 (i_ial (i_ld 3 (i_if2 (fun x y => ¬ x = y) (i_c 0 (Ok 22)) (i_c 1 (Ok 22))))))))))
def b_X12_firsts_22 (Ok : Nat → mm_K) (Post : Option mm_V → mm_S → Prop) (kf : Nat) : mm_K := i_add (i_st 2 (i_inc 3 1 (Ok 4)))
def clo_X12_firsts (Ok : Nat → mm_K) (Post : Option mm_V → mm_S → Prop) (kf : Nat) : Prop := mm_imp (b_X12_firsts_0 Ok Post kf) (Ok 0) ∧ mm_imp (b_X12_firsts_4 Ok Post kf) (Ok 4) ∧ mm_imp (b_X12_firsts_22 Ok Post kf) (Ok 22)
set_option maxRecDepth 100000 in
set_option maxHeartbeats 4000000 in
theorem bk_X12_firsts {p : Program} {l : Launch} {e : Env} {s : State} {m : MethodId} {args : Array Value} {below : List Frame} {meth : Method} {c : Code} {G : mm_G} {σ0 : mm_S} {Post : Option mm_V → mm_S → Prop} (hC : mm_C p G s m args meth c cX12_firsts yX12_firsts.cls) (hr : meth.sig.returnType = some .int) : clo_X12_firsts (mm_O p l e rm_X12_firsts s m args below meth c G σ0.2.2 (MQ below (mm_Qc G σ0 rm_X12_firsts.cells rm_X12_firsts.slots Post) args s rm_X12_firsts.cells rm_X12_firsts.slots (mm_A G))) Post σ0.2.2 := ⟨(by unfold b_X12_firsts_0; exact (mm_ic hC dX12_firsts_0 ⟨by decide, by decide⟩ (mm_st_n hC dX12_firsts_1 rfl (mm_ic hC dX12_firsts_2 ⟨by decide, by decide⟩ (mm_st_n hC dX12_firsts_3 rfl (fun _ _ _ h => h)))))), (by unfold b_X12_firsts_4; exact (mm_ld_n hC dX12_firsts_4 rfl (mm_ld_n hC dX12_firsts_5 rfl (mm_ic_ge hC (t := 30) dX12_firsts_6 (by decide) (mm_ld_n hC dX12_firsts_30 rfl (mm_ir hC ⟨rfl, rfl⟩ hr dX12_firsts_31)) (mm_ld_n hC dX12_firsts_9 rfl (mm_la_n hC dX12_firsts_10 rfl (mm_ld_n hC dX12_firsts_11 rfl (mm_ial hC dX12_firsts_12 (mm_ld_n hC dX12_firsts_13 rfl (mm_ic_ne hC (t := 21) dX12_firsts_14 (by decide) (mm_ic hC dX12_firsts_21 ⟨by decide, by decide⟩ (fun _ _ _ h => h)) (mm_ic hC dX12_firsts_17 ⟨by decide, by decide⟩ (mm_goto hC (t := 22) dX12_firsts_18 (by decide) (fun _ _ _ h => h))))))))))))), (by unfold b_X12_firsts_22; exact (mm_add hC dX12_firsts_22 (mm_st_n hC dX12_firsts_23 rfl (mm_inc hC dX12_firsts_24 (mm_goto hC (t := 4) dX12_firsts_27 (by decide) (fun _ _ _ h => h))))))⟩
set_option maxRecDepth 100000 in
set_option maxHeartbeats 8000000 in
theorem pv_X12_firsts : ∀ (av : List mm_V) (σ : mm_S) (Post : Option mm_V → mm_S → Prop), (∀ v ∈ av, mm_iv v) → (∀ a j, mm_in (σ.1 a j)) → σ.2.2 ≤ 348 → T_X12_firsts av σ Post → ∀ Ok : Nat → mm_K, clo_X12_firsts Ok Post σ.2.2 → Ok 0 (av ++ List.replicate (4 - av.length) (.inr none)) [] σ := by
  intro av σ Post hav hin hk hT Ok hcl
  obtain ⟨I, R0⟩ := σ
  unfold T_X12_firsts at hT
  split at hT
  · rename_i u x
    obtain ⟨h0, hT⟩ := hT
    have h0 : R0 = mm_R0 := h0
    subst h0
    dsimp only at hT hin
    obtain ⟨c0, c4, c22⟩ := hcl
    obtain ⟨n, L, rfl, hu, hn, hn2, hL, hP⟩ := hT
    have hu348 := sh_lt hu (by decide)
    have loop : ∀ (d k : Nat), k + d = n → Ok 4 [.inr (some u), .inl (n : Int), .inl (nr L k), .inl (k : Int)] [] (I, mm_R0) := by
      intro d
      induction d with
      | zero =>
        intro k hd
        refine c4 _ _ _ ?_
        simp only [b_X12_firsts_4, i_xorg, i_shl, i_shr, i_ior, i_and1, i_lcg1, i_lcg2, i_ld, i_la, i_st, i_sa, i_c, i_inc, i_add, i_sub, i_mul, i_div, i_rem, i_remT, i_xor, i_dup, i_dup2, i_if, i_if2, i_sw, i_gi, i_gr, i_pi, i_pz, i_ial, i_ias, i_len, i_aal, i_gs, i_tal, i_cv, i_cs, i_ir, i_zr, i_vr, i_min, i_max, i_cpy, List.getElem?_cons_zero, List.getElem?_cons_succ, List.set_cons_zero, List.set_cons_succ, List.length_cons, List.length_nil, List.drop_succ_cons, List.drop_zero, List.take_succ_cons, List.take_zero, List.reverse_cons, List.reverse_nil, List.nil_append, List.cons_append, Option.toList_some, Option.toList_none, true_and, and_true, true_or, or_true, Nat.reduceAdd, Nat.reduceLT, Nat.reduceLeDiff, Option.some.injEq, exists_eq_left', Int.toNat_natCast, Nat.reduceSub, List.append_nil, List.replicate_succ, List.replicate_zero, mm_in,]
        refine ⟨fun _ => ?_, fun z => by omega⟩
        rw [show k = n by omega]
        exact hP
      | succ d ih =>
        intro k hd
        have hb := nr_b L k
        have f22 : ∀ v : Int, v = (if L k = k then 1 else 0) → Ok 22 [.inr (some u), .inl (n : Int), .inl (nr L k), .inl (k : Int)] [.inl v, .inl (nr L k)] (I, mm_R0) := by
          intro v hv
          have hs : nr L (k + 1) = nr L k + v := by rw [hv]; rfl
          have hb2 := nr_b L (k + 1)
          have := ih (k + 1) (by omega)
          rw [hs] at this hb2
          refine c22 _ _ _ ?_
          simp only [b_X12_firsts_22, i_xorg, i_shl, i_shr, i_ior, i_and1, i_lcg1, i_lcg2, i_ld, i_la, i_st, i_sa, i_c, i_inc, i_add, i_sub, i_mul, i_div, i_rem, i_remT, i_xor, i_dup, i_dup2, i_if, i_if2, i_sw, i_gi, i_gr, i_pi, i_pz, i_ial, i_ias, i_len, i_aal, i_gs, i_tal, i_cv, i_cs, i_ir, i_zr, i_vr, i_min, i_max, i_cpy, List.getElem?_cons_zero, List.getElem?_cons_succ, List.set_cons_zero, List.set_cons_succ, List.length_cons, List.length_nil, List.drop_succ_cons, List.drop_zero, List.take_succ_cons, List.take_zero, List.reverse_cons, List.reverse_nil, List.nil_append, List.cons_append, Option.toList_some, Option.toList_none, true_and, and_true, true_or, or_true, Nat.reduceAdd, Nat.reduceLT, Nat.reduceLeDiff, Option.some.injEq, exists_eq_left', Int.toNat_natCast, Nat.reduceSub, List.append_nil, List.replicate_succ, List.replicate_zero, mm_in,]
          repeat' first | refine And.intro ?_ ?_ | refine fun (_ : _ ≤ _ ∧ _ < _) => ?_
          all_goals try omega
          exact this
        refine c4 _ _ _ ?_
        simp only [b_X12_firsts_4, i_xorg, i_shl, i_shr, i_ior, i_and1, i_lcg1, i_lcg2, i_ld, i_la, i_st, i_sa, i_c, i_inc, i_add, i_sub, i_mul, i_div, i_rem, i_remT, i_xor, i_dup, i_dup2, i_if, i_if2, i_sw, i_gi, i_gr, i_pi, i_pz, i_ial, i_ias, i_len, i_aal, i_gs, i_tal, i_cv, i_cs, i_ir, i_zr, i_vr, i_min, i_max, i_cpy, List.getElem?_cons_zero, List.getElem?_cons_succ, List.set_cons_zero, List.set_cons_succ, List.length_cons, List.length_nil, List.drop_succ_cons, List.drop_zero, List.take_succ_cons, List.take_zero, List.reverse_cons, List.reverse_nil, List.nil_append, List.cons_append, Option.toList_some, Option.toList_none, true_and, and_true, true_or, or_true, Nat.reduceAdd, Nat.reduceLT, Nat.reduceLeDiff, Option.some.injEq, exists_eq_left', Int.toNat_natCast, Nat.reduceSub, List.append_nil, List.replicate_succ, List.replicate_zero, mm_in, hu]
        refine ⟨fun z => by omega, fun z => ?_⟩
        rw [hL k (by omega)]
        repeat' first | refine And.intro ?_ ?_ | refine fun (_ : _ ≤ _ ∧ _ < _) => ?_
        all_goals try omega
        · intro q
          exact f22 0 (by rw [if_neg (by omega)])
        · intro q
          exact f22 1 (by rw [if_pos (by omega)])
    refine c0 _ _ _ ?_
    simp only [b_X12_firsts_0, i_xorg, i_shl, i_shr, i_ior, i_and1, i_lcg1, i_lcg2, i_ld, i_la, i_st, i_sa, i_c, i_inc, i_add, i_sub, i_mul, i_div, i_rem, i_remT, i_xor, i_dup, i_dup2, i_if, i_if2, i_sw, i_gi, i_gr, i_pi, i_pz, i_ial, i_ias, i_len, i_aal, i_gs, i_tal, i_cv, i_cs, i_ir, i_zr, i_vr, i_min, i_max, i_cpy, List.getElem?_cons_zero, List.getElem?_cons_succ, List.set_cons_zero, List.set_cons_succ, List.length_cons, List.length_nil, List.drop_succ_cons, List.drop_zero, List.take_succ_cons, List.take_zero, List.reverse_cons, List.reverse_nil, List.nil_append, List.cons_append, Option.toList_some, Option.toList_none, true_and, and_true, true_or, or_true, Nat.reduceAdd, Nat.reduceLT, Nat.reduceLeDiff, Option.some.injEq, exists_eq_left', Int.toNat_natCast, Nat.reduceSub, List.append_nil, List.replicate_succ, List.replicate_zero, mm_in,]
    exact loop n 0 (by omega)
  · exact hT.elim
theorem sp_X12_firsts : mm_Sp yX12_firsts cX12_firsts 4 (some .int) rm_X12_firsts T_X12_firsts := mm_meth (by decide) (by
  intro av σ Post h
  unfold T_X12_firsts at h
  split at h
  · simp
  · exact h.elim) (fun p l e s m args below meth c G av σ Post hC hr _ hav hin hk hT => pv_X12_firsts av σ Post hav hin hk hT _ (bk_X12_firsts hC hr))
