/-! the other program: numbers of edges, labels
-/
def T_X12_walls : mm_T := fun av σ Post => match av with
  | [.inr (some a)] => σ.2 = mm_R0 ∧ a = 338 ∧ 0 ≤ σ.1 339 0 ∧ σ.1 339 0 ≤ 3 ∧ Post (some (.inl (4 * σ.1 339 0))) σ
  | _ => False
def rm_X12_walls : Room := { frames := 0, cells := 0, slots := 0, locals := 0 }
def b_X12_walls_0 (Ok : Nat → mm_K) (Post : Option mm_V → mm_S → Prop) (kf : Nat) : mm_K := i_c 4 (i_la 0 (i_gr 11 0 (i_c 0 (i_ial (i_mul (i_ir Post kf))))))
def clo_X12_walls (Ok : Nat → mm_K) (Post : Option mm_V → mm_S → Prop) (kf : Nat) : Prop := mm_imp (b_X12_walls_0 Ok Post kf) (Ok 0)
set_option maxRecDepth 100000 in
set_option maxHeartbeats 4000000 in
theorem bk_X12_walls {p : Program} {l : Launch} {e : Env} {s : State} {m : MethodId} {args : Array Value} {below : List Frame} {meth : Method} {c : Code} {G : mm_G} {σ0 : mm_S} {Post : Option mm_V → mm_S → Prop} (hC : mm_C p G s m args meth c cX12_walls yX12_walls.cls) (hr : meth.sig.returnType = some .int) : clo_X12_walls (mm_O p l e rm_X12_walls s m args below meth c G σ0.2.2 (MQ below (mm_Qc G σ0 rm_X12_walls.cells rm_X12_walls.slots Post) args s rm_X12_walls.cells rm_X12_walls.slots (mm_A G))) Post σ0.2.2 := (by unfold clo_X12_walls b_X12_walls_0; exact (mm_ic hC dX12_walls_0 ⟨by decide, by decide⟩ (mm_la_n hC dX12_walls_1 rfl (mm_gr hC cl_11 (by decide) rfl wd_789 dX12_walls_2 (mm_ic hC dX12_walls_5 ⟨by decide, by decide⟩ (mm_ial hC dX12_walls_6 (mm_mul hC dX12_walls_7 (mm_ir hC ⟨rfl, rfl⟩ hr dX12_walls_8))))))))
set_option maxRecDepth 100000 in
set_option maxHeartbeats 8000000 in
theorem pv_X12_walls : ∀ (av : List mm_V) (σ : mm_S) (Post : Option mm_V → mm_S → Prop), (∀ v ∈ av, mm_iv v) → (∀ a j, mm_in (σ.1 a j)) → σ.2.2 ≤ 348 → T_X12_walls av σ Post → ∀ Ok : Nat → mm_K, clo_X12_walls Ok Post σ.2.2 → Ok 0 (av ++ List.replicate (1 - av.length) (.inr none)) [] σ := by
  intro av σ Post hav hin hk hT Ok hcl
  obtain ⟨I, R0⟩ := σ
  unfold T_X12_walls at hT
  split at hT
  · rename_i a
    obtain ⟨h0, hT⟩ := hT
    have h0 : R0 = mm_R0 := h0
    subst h0
    dsimp only at hT hin
    have c0 := hcl
    unfold clo_X12_walls at c0
    obtain ⟨rfl, h1, h2, hP⟩ := hT
    have w0 := m0
    have w1 := m1
    have w2 := m2
    refine c0 _ _ _ ?_
    simp only [b_X12_walls_0, i_xorg, i_shl, i_shr, i_ior, i_and1, i_lcg1, i_lcg2, i_ld, i_la, i_st, i_sa, i_c, i_inc, i_add, i_sub, i_mul, i_div, i_rem, i_remT, i_xor, i_dup, i_dup2, i_if, i_if2, i_sw, i_gi, i_gr, i_pi, i_pz, i_ial, i_ias, i_len, i_aal, i_gs, i_tal, i_cv, i_cs, i_ir, i_zr, i_vr, i_min, i_max, i_cpy, List.getElem?_cons_zero, List.getElem?_cons_succ, List.set_cons_zero, List.set_cons_succ, List.length_cons, List.length_nil, List.drop_succ_cons, List.drop_zero, List.take_succ_cons, List.take_zero, List.reverse_cons, List.reverse_nil, List.nil_append, List.cons_append, Option.toList_some, Option.toList_none, true_and, and_true, true_or, or_true, Nat.reduceAdd, Nat.reduceLT, Nat.reduceLeDiff, Option.some.injEq, exists_eq_left', Int.toNat_natCast, Nat.reduceSub, List.append_nil, List.replicate_succ, List.replicate_zero, mm_in, w0, w1, w2, t0]
    repeat' first | refine And.intro ?_ ?_ | refine fun (_ : _ ≤ _ ∧ _ < _) => ?_
    all_goals try omega
  · exact hT.elim
theorem sp_X12_walls : mm_Sp yX12_walls cX12_walls 1 (some .int) rm_X12_walls T_X12_walls := mm_meth (by decide) (by
  intro av σ Post h
  unfold T_X12_walls at h
  split at h
  · simp
  · exact h.elim) (fun p l e s m args below meth c G av σ Post hC hr _ hav hin hk hT => pv_X12_walls av σ Post hav hin hk hT _ (bk_X12_walls hC hr))
def MP (I : Nat → Nat → Int) : Nat → Int := fun j => I 339 (2 + j)
def MY (I : Nat → Nat → Int) : Nat → Int := fun j => I 339 (14 + j)
def MN (I : Nat → Nat → Int) (o : Nat) : Nat → Int := fun i => I 339 (o + i)
def T_X12_freeMany : mm_T := fun av σ Post => match av with
  | [.inr (some a)] => σ.2 = mm_R0 ∧ a = 338 ∧ ∃ n : Nat, σ.1 339 0 = n ∧ n ≤ 3 ∧ (∀ j, j < 12 → -1 ≤ MP σ.1 j) ∧ Post (some (.inl (frn (MP σ.1) (4 * n)))) σ
  | _ => False
def rm_X12_freeMany : Room := { frames := 1, cells := 0, slots := 0, locals := 21 }
def b_X12_freeMany_0 (Ok : Nat → mm_K) (Post : Option mm_V → mm_S → Prop) (kf : Nat) : mm_K := i_c 0 (i_st 1 (i_c 0 (i_st 2 (Ok 4))))
def b_X12_freeMany_4 (Ok : Nat → mm_K) (Post : Option mm_V → mm_S → Prop) (kf : Nat) : mm_K := i_ld 2 (i_la 0 (i_cv 11 0 T_X12_walls (i_if2 (fun x y => y ≤ x) (i_ld 1 (i_ir Post kf)) (i_ld 1 (i_la 0 (i_ld 2 (i_cv 11 1 T_X12_isFree (i_if (fun x => x = 0) (i_c 0 (Ok 26)) (i_c 1 (Ok 26))))))))))
def b_X12_freeMany_26 (Ok : Nat → mm_K) (Post : Option mm_V → mm_S → Prop) (kf : Nat) : mm_K := i_add (i_st 1 (i_inc 2 1 (Ok 4)))
def clo_X12_freeMany (Ok : Nat → mm_K) (Post : Option mm_V → mm_S → Prop) (kf : Nat) : Prop := mm_imp (b_X12_freeMany_0 Ok Post kf) (Ok 0) ∧ mm_imp (b_X12_freeMany_4 Ok Post kf) (Ok 4) ∧ mm_imp (b_X12_freeMany_26 Ok Post kf) (Ok 26)
set_option maxRecDepth 100000 in
set_option maxHeartbeats 4000000 in
theorem bk_X12_freeMany {p : Program} {l : Launch} {e : Env} {s : State} {m : MethodId} {args : Array Value} {below : List Frame} {meth : Method} {c : Code} {G : mm_G} {σ0 : mm_S} {Post : Option mm_V → mm_S → Prop} (hC : mm_C p G s m args meth c cX12_freeMany yX12_freeMany.cls) (hr : meth.sig.returnType = some .int) : clo_X12_freeMany (mm_O p l e rm_X12_freeMany s m args below meth c G σ0.2.2 (MQ below (mm_Qc G σ0 rm_X12_freeMany.cells rm_X12_freeMany.slots Post) args s rm_X12_freeMany.cells rm_X12_freeMany.slots (mm_A G))) Post σ0.2.2 := ⟨(by unfold b_X12_freeMany_0; exact (mm_ic hC dX12_freeMany_0 ⟨by decide, by decide⟩ (mm_st_n hC dX12_freeMany_1 rfl (mm_ic hC dX12_freeMany_2 ⟨by decide, by decide⟩ (mm_st_n hC dX12_freeMany_3 rfl (fun _ _ _ h => h)))))), (by unfold b_X12_freeMany_4; exact (mm_ld_n hC dX12_freeMany_4 rfl (mm_la_n hC dX12_freeMany_5 rfl (mm_cv hC sp_X12_walls ⟨rfl, rfl⟩ cl_11 wd_837 wd_839 wd_21 wd_840 wd_77 ⟨by decide, by decide, by decide +kernel⟩ ⟨by decide, by decide⟩ dX12_freeMany_6 (mm_ic_ge hC (t := 34) dX12_freeMany_9 (by decide) (mm_ld_n hC dX12_freeMany_34 rfl (mm_ir hC ⟨rfl, rfl⟩ hr dX12_freeMany_35)) (mm_ld_n hC dX12_freeMany_12 rfl (mm_la_n hC dX12_freeMany_13 rfl (mm_ld_n hC dX12_freeMany_14 rfl (mm_cv hC sp_X12_isFree ⟨rfl, rfl⟩ cl_11 wd_841 wd_843 wd_22 wd_844 wd_77 ⟨by decide, by decide, by decide +kernel⟩ ⟨by decide, by decide⟩ dX12_freeMany_15 (mm_if_eq hC (t := 25) dX12_freeMany_18 (by decide) (mm_ic hC dX12_freeMany_25 ⟨by decide, by decide⟩ (fun _ _ _ h => h)) (mm_ic hC dX12_freeMany_21 ⟨by decide, by decide⟩ (mm_goto hC (t := 26) dX12_freeMany_22 (by decide) (fun _ _ _ h => h))))))))))))), (by unfold b_X12_freeMany_26; exact (mm_add hC dX12_freeMany_26 (mm_st_n hC dX12_freeMany_27 rfl (mm_inc hC dX12_freeMany_28 (mm_goto hC (t := 4) dX12_freeMany_31 (by decide) (fun _ _ _ h => h))))))⟩
set_option maxRecDepth 100000 in
set_option maxHeartbeats 8000000 in
theorem pv_X12_freeMany : ∀ (av : List mm_V) (σ : mm_S) (Post : Option mm_V → mm_S → Prop), (∀ v ∈ av, mm_iv v) → (∀ a j, mm_in (σ.1 a j)) → σ.2.2 ≤ 348 → T_X12_freeMany av σ Post → ∀ Ok : Nat → mm_K, clo_X12_freeMany Ok Post σ.2.2 → Ok 0 (av ++ List.replicate (3 - av.length) (.inr none)) [] σ := by
  intro av σ Post hav hin hk hT Ok hcl
  obtain ⟨I, R0⟩ := σ
  unfold T_X12_freeMany at hT
  split at hT
  · rename_i a
    obtain ⟨h0, hT⟩ := hT
    have h0 : R0 = mm_R0 := h0
    subst h0
    dsimp only at hT hin
    obtain ⟨c0, c4, c26⟩ := hcl
    obtain ⟨rfl, n, hn, hn3, hj, hP⟩ := hT
    have w0 := m0
    have w1 := m1
    have w2 := m2
    have loop : ∀ (d j : Nat), j + d = 4 * n → Ok 4 [.inr (some 338), .inl (frn (MP I) j), .inl (j : Int)] [] (I, mm_R0) := by
      intro d
      induction d with
      | zero =>
        intro j hd
        refine c4 _ _ _ ?_
        simp only [b_X12_freeMany_4, i_xorg, i_shl, i_shr, i_ior, i_and1, i_lcg1, i_lcg2, i_ld, i_la, i_st, i_sa, i_c, i_inc, i_add, i_sub, i_mul, i_div, i_rem, i_remT, i_xor, i_dup, i_dup2, i_if, i_if2, i_sw, i_gi, i_gr, i_pi, i_pz, i_ial, i_ias, i_len, i_aal, i_gs, i_tal, i_cv, i_cs, i_ir, i_zr, i_vr, i_min, i_max, i_cpy, List.getElem?_cons_zero, List.getElem?_cons_succ, List.set_cons_zero, List.set_cons_succ, List.length_cons, List.length_nil, List.drop_succ_cons, List.drop_zero, List.take_succ_cons, List.take_zero, List.reverse_cons, List.reverse_nil, List.nil_append, List.cons_append, Option.toList_some, Option.toList_none, true_and, and_true, true_or, or_true, Nat.reduceAdd, Nat.reduceLT, Nat.reduceLeDiff, Option.some.injEq, exists_eq_left', Int.toNat_natCast, Nat.reduceSub, List.append_nil, List.replicate_succ, List.replicate_zero, mm_in, w0, T_X12_walls]
        refine ⟨by omega, by omega, fun _ => ?_, fun x => by omega⟩
        rw [show j = 4 * n by omega]
        exact hP
      | succ d ih =>
        intro j hd
        have hb := frn_b (MP I) j
        have nx : ∀ y : Int, bz y (I 339 (2 + j) = -1) → Ok 26 [.inr (some 338), .inl (frn (MP I) j), .inl (j : Int)] [.inl y, .inl (frn (MP I) j)] (I, mm_R0) := by
          intro y hy
          have hy2 : y = if MP I j < 0 then 1 else 0 := by
            have := hj j (by omega)
            unfold MP at this ⊢
            rcases hy with ⟨q1, q2⟩ | ⟨q1, q2⟩
            · rw [q1, if_pos (by omega)]
            · rw [q1, if_neg (by omega)]
          have hs : frn (MP I) (j + 1) = frn (MP I) j + y := by rw [hy2]; rfl
          have hb2 := frn_b (MP I) (j + 1)
          have := ih (j + 1) (by omega)
          rw [hs] at this hb2
          refine c26 _ _ _ ?_
          simp only [b_X12_freeMany_26, i_xorg, i_shl, i_shr, i_ior, i_and1, i_lcg1, i_lcg2, i_ld, i_la, i_st, i_sa, i_c, i_inc, i_add, i_sub, i_mul, i_div, i_rem, i_remT, i_xor, i_dup, i_dup2, i_if, i_if2, i_sw, i_gi, i_gr, i_pi, i_pz, i_ial, i_ias, i_len, i_aal, i_gs, i_tal, i_cv, i_cs, i_ir, i_zr, i_vr, i_min, i_max, i_cpy, List.getElem?_cons_zero, List.getElem?_cons_succ, List.set_cons_zero, List.set_cons_succ, List.length_cons, List.length_nil, List.drop_succ_cons, List.drop_zero, List.take_succ_cons, List.take_zero, List.reverse_cons, List.reverse_nil, List.nil_append, List.cons_append, Option.toList_some, Option.toList_none, true_and, and_true, true_or, or_true, Nat.reduceAdd, Nat.reduceLT, Nat.reduceLeDiff, Option.some.injEq, exists_eq_left', Int.toNat_natCast, Nat.reduceSub, List.append_nil, List.replicate_succ, List.replicate_zero, mm_in,]
          repeat' first | refine And.intro ?_ ?_ | refine fun (_ : _ ≤ _ ∧ _ < _) => ?_
          all_goals try omega
          exact this
        refine c4 _ _ _ ?_
        simp only [b_X12_freeMany_4, i_xorg, i_shl, i_shr, i_ior, i_and1, i_lcg1, i_lcg2, i_ld, i_la, i_st, i_sa, i_c, i_inc, i_add, i_sub, i_mul, i_div, i_rem, i_remT, i_xor, i_dup, i_dup2, i_if, i_if2, i_sw, i_gi, i_gr, i_pi, i_pz, i_ial, i_ias, i_len, i_aal, i_gs, i_tal, i_cv, i_cs, i_ir, i_zr, i_vr, i_min, i_max, i_cpy, List.getElem?_cons_zero, List.getElem?_cons_succ, List.set_cons_zero, List.set_cons_succ, List.length_cons, List.length_nil, List.drop_succ_cons, List.drop_zero, List.take_succ_cons, List.take_zero, List.reverse_cons, List.reverse_nil, List.nil_append, List.cons_append, Option.toList_some, Option.toList_none, true_and, and_true, true_or, or_true, Nat.reduceAdd, Nat.reduceLT, Nat.reduceLeDiff, Option.some.injEq, exists_eq_left', Int.toNat_natCast, Nat.reduceSub, List.append_nil, List.replicate_succ, List.replicate_zero, mm_in, w0, T_X12_walls, T_X12_isFree]
        refine ⟨by omega, by omega, fun x => by omega, fun x => ⟨j, rfl, by omega, fun z hz => ⟨fun y => nx 0 (bz_0 (bz_f hz y)), fun y => nx 1 (bz_1 (bz_t hz y))⟩⟩⟩
    refine c0 _ _ _ ?_
    simp only [b_X12_freeMany_0, i_xorg, i_shl, i_shr, i_ior, i_and1, i_lcg1, i_lcg2, i_ld, i_la, i_st, i_sa, i_c, i_inc, i_add, i_sub, i_mul, i_div, i_rem, i_remT, i_xor, i_dup, i_dup2, i_if, i_if2, i_sw, i_gi, i_gr, i_pi, i_pz, i_ial, i_ias, i_len, i_aal, i_gs, i_tal, i_cv, i_cs, i_ir, i_zr, i_vr, i_min, i_max, i_cpy, List.getElem?_cons_zero, List.getElem?_cons_succ, List.set_cons_zero, List.set_cons_succ, List.length_cons, List.length_nil, List.drop_succ_cons, List.drop_zero, List.take_succ_cons, List.take_zero, List.reverse_cons, List.reverse_nil, List.nil_append, List.cons_append, Option.toList_some, Option.toList_none, true_and, and_true, true_or, or_true, Nat.reduceAdd, Nat.reduceLT, Nat.reduceLeDiff, Option.some.injEq, exists_eq_left', Int.toNat_natCast, Nat.reduceSub, List.append_nil, List.replicate_succ, List.replicate_zero, mm_in,]
    exact loop (4 * n) 0 (by omega)
  · exact hT.elim
theorem sp_X12_freeMany : mm_Sp yX12_freeMany cX12_freeMany 3 (some .int) rm_X12_freeMany T_X12_freeMany := mm_meth (by decide) (by
  intro av σ Post h
  unfold T_X12_freeMany at h
  split at h
  · simp
  · exact h.elim) (fun p l e s m args below meth c G av σ Post hC hr _ hav hin hk hT => pv_X12_freeMany av σ Post hav hin hk hT _ (bk_X12_freeMany hC hr))
theorem eg_tab : ∀ x, x < 4 → ∀ y, y < 4 → x ≠ y → mm_tb 4 (4 * x + y) = if min x y = 0 then ((max x y : Nat) : Int) - 1 else ((min x y : Nat) : Int) + ((max x y : Nat) : Int) := by decide +kernel
theorem eg_b : ∀ x, x < 4 → ∀ y, y < 4 → x ≠ y → 0 ≤ mm_tb 4 (4 * x + y) ∧ mm_tb 4 (4 * x + y) < 6 := by decide +kernel
def T_X12_edgeOf : mm_T := fun av σ Post => match av with
  | [.inl p, .inl q] => σ.2 = mm_R0 ∧ ∃ x y : Nat, p = x ∧ q = y ∧ x < 4 ∧ y < 4 ∧ x ≠ y ∧ Post (some (.inl (mm_tb 4 (4 * x + y)))) σ
  | _ => False
def rm_X12_edgeOf : Room := { frames := 0, cells := 0, slots := 0, locals := 0 }
def b_X12_edgeOf_0 (Ok : Nat → mm_K) (Post : Option mm_V → mm_S → Prop) (kf : Nat) : mm_K := i_ld 0 (i_ld 1 (i_if2 (fun x y => y ≤ x) (i_ld 1 (Ok 10)) (i_ld 0 (Ok 10))))
def b_X12_edgeOf_10 (Ok : Nat → mm_K) (Post : Option mm_V → mm_S → Prop) (kf : Nat) : mm_K := i_st 2 (i_ld 0 (i_ld 1 (i_if2 (fun x y => y ≤ x) (i_ld 0 (Ok 21)) (i_ld 1 (Ok 21)))))
def b_X12_edgeOf_21 (Ok : Nat → mm_K) (Post : Option mm_V → mm_S → Prop) (kf : Nat) : mm_K := i_st 3 (i_ld 2 (i_if (fun x => ¬ x = 0) (i_ld 2 (i_ld 3 (i_add (Ok 35)))) (i_ld 3 (i_c 1 (i_sub (Ok 35))))))
def b_X12_edgeOf_35 (Ok : Nat → mm_K) (Post : Option mm_V → mm_S → Prop) (kf : Nat) : mm_K := i_ir Post kf
def clo_X12_edgeOf (Ok : Nat → mm_K) (Post : Option mm_V → mm_S → Prop) (kf : Nat) : Prop := mm_imp (b_X12_edgeOf_0 Ok Post kf) (Ok 0) ∧ mm_imp (b_X12_edgeOf_10 Ok Post kf) (Ok 10) ∧ mm_imp (b_X12_edgeOf_21 Ok Post kf) (Ok 21) ∧ mm_imp (b_X12_edgeOf_35 Ok Post kf) (Ok 35)
set_option maxRecDepth 100000 in
set_option maxHeartbeats 4000000 in
theorem bk_X12_edgeOf {p : Program} {l : Launch} {e : Env} {s : State} {m : MethodId} {args : Array Value} {below : List Frame} {meth : Method} {c : Code} {G : mm_G} {σ0 : mm_S} {Post : Option mm_V → mm_S → Prop} (hC : mm_C p G s m args meth c cX12_edgeOf yX12_edgeOf.cls) (hr : meth.sig.returnType = some .int) : clo_X12_edgeOf (mm_O p l e rm_X12_edgeOf s m args below meth c G σ0.2.2 (MQ below (mm_Qc G σ0 rm_X12_edgeOf.cells rm_X12_edgeOf.slots Post) args s rm_X12_edgeOf.cells rm_X12_edgeOf.slots (mm_A G))) Post σ0.2.2 := ⟨(by unfold b_X12_edgeOf_0; exact (mm_ld_n hC dX12_edgeOf_0 rfl (mm_ld_n hC dX12_edgeOf_1 rfl (mm_ic_ge hC (t := 9) dX12_edgeOf_2 (by decide) (mm_ld_n hC dX12_edgeOf_9 rfl (fun _ _ _ h => h)) (mm_ld_n hC dX12_edgeOf_5 rfl (mm_goto hC (t := 10) dX12_edgeOf_6 (by decide) (fun _ _ _ h => h))))))), (by unfold b_X12_edgeOf_10; exact (mm_st_n hC dX12_edgeOf_10 rfl (mm_ld_n hC dX12_edgeOf_11 rfl (mm_ld_n hC dX12_edgeOf_12 rfl (mm_ic_ge hC (t := 20) dX12_edgeOf_13 (by decide) (mm_ld_n hC dX12_edgeOf_20 rfl (fun _ _ _ h => h)) (mm_ld_n hC dX12_edgeOf_16 rfl (mm_goto hC (t := 21) dX12_edgeOf_17 (by decide) (fun _ _ _ h => h)))))))), (by unfold b_X12_edgeOf_21; exact (mm_st_n hC dX12_edgeOf_21 rfl (mm_ld_n hC dX12_edgeOf_22 rfl (mm_if_ne hC (t := 32) dX12_edgeOf_23 (by decide) (mm_ld_n hC dX12_edgeOf_32 rfl (mm_ld_n hC dX12_edgeOf_33 rfl (mm_add hC dX12_edgeOf_34 (fun _ _ _ h => h)))) (mm_ld_n hC dX12_edgeOf_26 rfl (mm_ic hC dX12_edgeOf_27 ⟨by decide, by decide⟩ (mm_sub hC dX12_edgeOf_28 (mm_goto hC (t := 35) dX12_edgeOf_29 (by decide) (fun _ _ _ h => h))))))))), (by unfold b_X12_edgeOf_35; exact (mm_ir hC ⟨rfl, rfl⟩ hr dX12_edgeOf_35))⟩
set_option maxRecDepth 100000 in
set_option maxHeartbeats 8000000 in
theorem pv_X12_edgeOf : ∀ (av : List mm_V) (σ : mm_S) (Post : Option mm_V → mm_S → Prop), (∀ v ∈ av, mm_iv v) → (∀ a j, mm_in (σ.1 a j)) → σ.2.2 ≤ 348 → T_X12_edgeOf av σ Post → ∀ Ok : Nat → mm_K, clo_X12_edgeOf Ok Post σ.2.2 → Ok 0 (av ++ List.replicate (4 - av.length) (.inr none)) [] σ := by
  intro av σ Post hav hin hk hT Ok hcl
  obtain ⟨I, R0⟩ := σ
  unfold T_X12_edgeOf at hT
  split at hT
  · rename_i p q
    obtain ⟨h0, hT⟩ := hT
    have h0 : R0 = mm_R0 := h0
    subst h0
    dsimp only at hT hin
    obtain ⟨c0, c10, c21, c35⟩ := hcl
    obtain ⟨x, y, rfl, rfl, hx, hy, hne, hP⟩ := hT
    rw [eg_tab x hx y hy hne] at hP
    obtain ⟨lo, hlo⟩ : ∃ lo, min x y = lo := ⟨_, rfl⟩
    obtain ⟨hi, hhi⟩ : ∃ hi, max x y = hi := ⟨_, rfl⟩
    rw [hlo, hhi] at hP
    have f35 : ∀ v : Int, v = (if lo = 0 then (hi : Int) - 1 else (lo : Int) + (hi : Int)) → Ok 35 [.inl (x : Int), .inl (y : Int), .inl (lo : Int), .inl (hi : Int)] [.inl v] (I, mm_R0) := by
      intro v hv
      refine c35 _ _ _ ?_
      simp only [b_X12_edgeOf_35, i_xorg, i_shl, i_shr, i_ior, i_and1, i_lcg1, i_lcg2, i_ld, i_la, i_st, i_sa, i_c, i_inc, i_add, i_sub, i_mul, i_div, i_rem, i_remT, i_xor, i_dup, i_dup2, i_if, i_if2, i_sw, i_gi, i_gr, i_pi, i_pz, i_ial, i_ias, i_len, i_aal, i_gs, i_tal, i_cv, i_cs, i_ir, i_zr, i_vr, i_min, i_max, i_cpy, List.getElem?_cons_zero, List.getElem?_cons_succ, List.set_cons_zero, List.set_cons_succ, List.length_cons, List.length_nil, List.drop_succ_cons, List.drop_zero, List.take_succ_cons, List.take_zero, List.reverse_cons, List.reverse_nil, List.nil_append, List.cons_append, Option.toList_some, Option.toList_none, true_and, and_true, true_or, or_true, Nat.reduceAdd, Nat.reduceLT, Nat.reduceLeDiff, Option.some.injEq, exists_eq_left', Int.toNat_natCast, Nat.reduceSub, List.append_nil, List.replicate_succ, List.replicate_zero]
      rw [hv]
      exact hP
    have f21 : ∀ u : mm_V, Ok 21 [.inl (x : Int), .inl (y : Int), .inl (lo : Int), u] [.inl (hi : Int)] (I, mm_R0) := by
      intro u
      refine c21 _ _ _ ?_
      simp only [b_X12_edgeOf_21, i_xorg, i_shl, i_shr, i_ior, i_and1, i_lcg1, i_lcg2, i_ld, i_la, i_st, i_sa, i_c, i_inc, i_add, i_sub, i_mul, i_div, i_rem, i_remT, i_xor, i_dup, i_dup2, i_if, i_if2, i_sw, i_gi, i_gr, i_pi, i_pz, i_ial, i_ias, i_len, i_aal, i_gs, i_tal, i_cv, i_cs, i_ir, i_zr, i_vr, i_min, i_max, i_cpy, List.getElem?_cons_zero, List.getElem?_cons_succ, List.set_cons_zero, List.set_cons_succ, List.length_cons, List.length_nil, List.drop_succ_cons, List.drop_zero, List.take_succ_cons, List.take_zero, List.reverse_cons, List.reverse_nil, List.nil_append, List.cons_append, Option.toList_some, Option.toList_none, true_and, and_true, true_or, or_true, Nat.reduceAdd, Nat.reduceLT, Nat.reduceLeDiff, Option.some.injEq, exists_eq_left', Int.toNat_natCast, Nat.reduceSub, List.append_nil, List.replicate_succ, List.replicate_zero, mm_in,]
      repeat' first | refine And.intro ?_ ?_ | intro _
      all_goals try omega
      · exact f35 _ (by rw [if_neg (by omega)])
      · exact f35 _ (by rw [if_pos (by omega)])
    have f10 : ∀ u u' : mm_V, Ok 10 [.inl (x : Int), .inl (y : Int), u, u'] [.inl (lo : Int)] (I, mm_R0) := by
      intro u u'
      refine c10 _ _ _ ?_
      simp only [b_X12_edgeOf_10, i_xorg, i_shl, i_shr, i_ior, i_and1, i_lcg1, i_lcg2, i_ld, i_la, i_st, i_sa, i_c, i_inc, i_add, i_sub, i_mul, i_div, i_rem, i_remT, i_xor, i_dup, i_dup2, i_if, i_if2, i_sw, i_gi, i_gr, i_pi, i_pz, i_ial, i_ias, i_len, i_aal, i_gs, i_tal, i_cv, i_cs, i_ir, i_zr, i_vr, i_min, i_max, i_cpy, List.getElem?_cons_zero, List.getElem?_cons_succ, List.set_cons_zero, List.set_cons_succ, List.length_cons, List.length_nil, List.drop_succ_cons, List.drop_zero, List.take_succ_cons, List.take_zero, List.reverse_cons, List.reverse_nil, List.nil_append, List.cons_append, Option.toList_some, Option.toList_none, true_and, and_true, true_or, or_true, Nat.reduceAdd, Nat.reduceLT, Nat.reduceLeDiff, Option.some.injEq, exists_eq_left', Int.toNat_natCast, Nat.reduceSub, List.append_nil, List.replicate_succ, List.replicate_zero, mm_in,]
      refine ⟨fun h => ?_, fun h => ?_⟩
      · have := f21 u'
        rw [show hi = x by omega] at this
        exact this
      · have := f21 u'
        rw [show hi = y by omega] at this
        exact this
    refine c0 _ _ _ ?_
    simp only [b_X12_edgeOf_0, i_xorg, i_shl, i_shr, i_ior, i_and1, i_lcg1, i_lcg2, i_ld, i_la, i_st, i_sa, i_c, i_inc, i_add, i_sub, i_mul, i_div, i_rem, i_remT, i_xor, i_dup, i_dup2, i_if, i_if2, i_sw, i_gi, i_gr, i_pi, i_pz, i_ial, i_ias, i_len, i_aal, i_gs, i_tal, i_cv, i_cs, i_ir, i_zr, i_vr, i_min, i_max, i_cpy, List.getElem?_cons_zero, List.getElem?_cons_succ, List.set_cons_zero, List.set_cons_succ, List.length_cons, List.length_nil, List.drop_succ_cons, List.drop_zero, List.take_succ_cons, List.take_zero, List.reverse_cons, List.reverse_nil, List.nil_append, List.cons_append, Option.toList_some, Option.toList_none, true_and, and_true, true_or, or_true, Nat.reduceAdd, Nat.reduceLT, Nat.reduceLeDiff, Option.some.injEq, exists_eq_left', Int.toNat_natCast, Nat.reduceSub, List.append_nil, List.replicate_succ, List.replicate_zero, mm_in,]
    refine ⟨fun h => ?_, fun h => ?_⟩
    · have := f10 (.inr none) (.inr none)
      rw [show lo = y by omega] at this
      exact this
    · have := f10 (.inr none) (.inr none)
      rw [show lo = x by omega] at this
      exact this
  · exact hT.elim
theorem sp_X12_edgeOf : mm_Sp yX12_edgeOf cX12_edgeOf 4 (some .int) rm_X12_edgeOf T_X12_edgeOf := mm_meth (by decide) (by
  intro av σ Post h
  unfold T_X12_edgeOf at h
  split at h
  · simp
  · exact h.elim) (fun p l e s m args below meth c G av σ Post hC hr _ hav hin hk hT => pv_X12_edgeOf av σ Post hav hin hk hT _ (bk_X12_edgeOf hC hr))
theorem el_tab : ∀ e, e < 6 → (elo e : Int) = (if 3 ≤ (e : Int) then if 5 ≤ (e : Int) then 2 else 1 else 0) ∧ (ehi e : Int) = if 3 ≤ (e : Int) then (e : Int) - elo e else (e : Int) + 1 := by decide +kernel
def T_X12_lowOf : mm_T := fun av σ Post => match av with
  | [.inl p] => σ.2 = mm_R0 ∧ ∃ e : Nat, p = e ∧ e < 6 ∧ Post (some (.inl (elo e))) σ
  | _ => False
def rm_X12_lowOf : Room := { frames := 0, cells := 0, slots := 0, locals := 0 }
def b_X12_lowOf_0 (Ok : Nat → mm_K) (Post : Option mm_V → mm_S → Prop) (kf : Nat) : mm_K := i_ld 0 (i_c 3 (i_if2 (fun x y => y ≤ x) (i_ld 0 (i_c 5 (i_if2 (fun x y => y ≤ x) (i_c 2 (Ok 19)) (i_c 1 (Ok 19))))) (i_c 0 (Ok 19))))
def b_X12_lowOf_19 (Ok : Nat → mm_K) (Post : Option mm_V → mm_S → Prop) (kf : Nat) : mm_K := i_ir Post kf
def clo_X12_lowOf (Ok : Nat → mm_K) (Post : Option mm_V → mm_S → Prop) (kf : Nat) : Prop := mm_imp (b_X12_lowOf_0 Ok Post kf) (Ok 0) ∧ mm_imp (b_X12_lowOf_19 Ok Post kf) (Ok 19)
set_option maxRecDepth 100000 in
set_option maxHeartbeats 4000000 in
theorem bk_X12_lowOf {p : Program} {l : Launch} {e : Env} {s : State} {m : MethodId} {args : Array Value} {below : List Frame} {meth : Method} {c : Code} {G : mm_G} {σ0 : mm_S} {Post : Option mm_V → mm_S → Prop} (hC : mm_C p G s m args meth c cX12_lowOf yX12_lowOf.cls) (hr : meth.sig.returnType = some .int) : clo_X12_lowOf (mm_O p l e rm_X12_lowOf s m args below meth c G σ0.2.2 (MQ below (mm_Qc G σ0 rm_X12_lowOf.cells rm_X12_lowOf.slots Post) args s rm_X12_lowOf.cells rm_X12_lowOf.slots (mm_A G))) Post σ0.2.2 := ⟨(by unfold b_X12_lowOf_0; exact (mm_ld_n hC dX12_lowOf_0 rfl (mm_ic hC dX12_lowOf_1 ⟨by decide, by decide⟩ (mm_ic_ge hC (t := 9) dX12_lowOf_2 (by decide) (mm_ld_n hC dX12_lowOf_9 rfl (mm_ic hC dX12_lowOf_10 ⟨by decide, by decide⟩ (mm_ic_ge hC (t := 18) dX12_lowOf_11 (by decide) (mm_ic hC dX12_lowOf_18 ⟨by decide, by decide⟩ (fun _ _ _ h => h)) (mm_ic hC dX12_lowOf_14 ⟨by decide, by decide⟩ (mm_goto hC (t := 19) dX12_lowOf_15 (by decide) (fun _ _ _ h => h)))))) (mm_ic hC dX12_lowOf_5 ⟨by decide, by decide⟩ (mm_goto hC (t := 19) dX12_lowOf_6 (by decide) (fun _ _ _ h => h))))))), (by unfold b_X12_lowOf_19; exact (mm_ir hC ⟨rfl, rfl⟩ hr dX12_lowOf_19))⟩
set_option maxRecDepth 100000 in
set_option maxHeartbeats 8000000 in
theorem pv_X12_lowOf : ∀ (av : List mm_V) (σ : mm_S) (Post : Option mm_V → mm_S → Prop), (∀ v ∈ av, mm_iv v) → (∀ a j, mm_in (σ.1 a j)) → σ.2.2 ≤ 348 → T_X12_lowOf av σ Post → ∀ Ok : Nat → mm_K, clo_X12_lowOf Ok Post σ.2.2 → Ok 0 (av ++ List.replicate (1 - av.length) (.inr none)) [] σ := by
  intro av σ Post hav hin hk hT Ok hcl
  obtain ⟨I, R0⟩ := σ
  unfold T_X12_lowOf at hT
  split at hT
  · rename_i p
    obtain ⟨h0, hT⟩ := hT
    have h0 : R0 = mm_R0 := h0
    subst h0
    dsimp only at hT hin
    obtain ⟨c0, c19⟩ := hcl
    obtain ⟨e, rfl, he, hP⟩ := hT
    rw [(el_tab e he).1] at hP
    have fin : ∀ v : Int, v = (if 3 ≤ (e : Int) then if 5 ≤ (e : Int) then 2 else 1 else 0) → Ok 19 [.inl (e : Int)] [.inl v] (I, mm_R0) := by
      intro v hv
      refine c19 _ _ _ ?_
      simp only [b_X12_lowOf_19, i_xorg, i_shl, i_shr, i_ior, i_and1, i_lcg1, i_lcg2, i_ld, i_la, i_st, i_sa, i_c, i_inc, i_add, i_sub, i_mul, i_div, i_rem, i_remT, i_xor, i_dup, i_dup2, i_if, i_if2, i_sw, i_gi, i_gr, i_pi, i_pz, i_ial, i_ias, i_len, i_aal, i_gs, i_tal, i_cv, i_cs, i_ir, i_zr, i_vr, i_min, i_max, i_cpy, List.getElem?_cons_zero, List.getElem?_cons_succ, List.set_cons_zero, List.set_cons_succ, List.length_cons, List.length_nil, List.drop_succ_cons, List.drop_zero, List.take_succ_cons, List.take_zero, List.reverse_cons, List.reverse_nil, List.nil_append, List.cons_append, Option.toList_some, Option.toList_none, true_and, and_true, true_or, or_true, Nat.reduceAdd, Nat.reduceLT, Nat.reduceLeDiff, Option.some.injEq, exists_eq_left', Int.toNat_natCast, Nat.reduceSub, List.append_nil, List.replicate_succ, List.replicate_zero]
      rw [hv]
      exact hP
    refine c0 _ _ _ ?_
    simp only [b_X12_lowOf_0, i_xorg, i_shl, i_shr, i_ior, i_and1, i_lcg1, i_lcg2, i_ld, i_la, i_st, i_sa, i_c, i_inc, i_add, i_sub, i_mul, i_div, i_rem, i_remT, i_xor, i_dup, i_dup2, i_if, i_if2, i_sw, i_gi, i_gr, i_pi, i_pz, i_ial, i_ias, i_len, i_aal, i_gs, i_tal, i_cv, i_cs, i_ir, i_zr, i_vr, i_min, i_max, i_cpy, List.getElem?_cons_zero, List.getElem?_cons_succ, List.set_cons_zero, List.set_cons_succ, List.length_cons, List.length_nil, List.drop_succ_cons, List.drop_zero, List.take_succ_cons, List.take_zero, List.reverse_cons, List.reverse_nil, List.nil_append, List.cons_append, Option.toList_some, Option.toList_none, true_and, and_true, true_or, or_true, Nat.reduceAdd, Nat.reduceLT, Nat.reduceLeDiff, Option.some.injEq, exists_eq_left', Int.toNat_natCast, Nat.reduceSub, List.append_nil, List.replicate_succ, List.replicate_zero, mm_in,]
    repeat' first | refine And.intro ?_ ?_ | intro _
    all_goals try omega
    · exact fin _ (by rw [if_pos (by omega), if_pos (by omega)])
    · exact fin _ (by rw [if_pos (by omega), if_neg (by omega)])
    · exact fin _ (by rw [if_neg (by omega)])
  · exact hT.elim
theorem sp_X12_lowOf : mm_Sp yX12_lowOf cX12_lowOf 1 (some .int) rm_X12_lowOf T_X12_lowOf := mm_meth (by decide) (by
  intro av σ Post h
  unfold T_X12_lowOf at h
  split at h
  · simp
  · exact h.elim) (fun p l e s m args below meth c G av σ Post hC hr _ hav hin hk hT => pv_X12_lowOf av σ Post hav hin hk hT _ (bk_X12_lowOf hC hr))
def T_X12_highOf : mm_T := fun av σ Post => match av with
  | [.inl p] => σ.2 = mm_R0 ∧ ∃ e : Nat, p = e ∧ e < 6 ∧ Post (some (.inl (ehi e))) σ
  | _ => False
def rm_X12_highOf : Room := { frames := 1, cells := 0, slots := 0, locals := 20 }
def b_X12_highOf_0 (Ok : Nat → mm_K) (Post : Option mm_V → mm_S → Prop) (kf : Nat) : mm_K := i_ld 0 (i_c 3 (i_if2 (fun x y => y ≤ x) (i_ld 0 (i_ld 0 (i_cs 1 T_X12_lowOf (i_sub (Ok 17))))) (i_ld 0 (i_c 1 (i_add (Ok 17))))))
def b_X12_highOf_17 (Ok : Nat → mm_K) (Post : Option mm_V → mm_S → Prop) (kf : Nat) : mm_K := i_ir Post kf
def clo_X12_highOf (Ok : Nat → mm_K) (Post : Option mm_V → mm_S → Prop) (kf : Nat) : Prop := mm_imp (b_X12_highOf_0 Ok Post kf) (Ok 0) ∧ mm_imp (b_X12_highOf_17 Ok Post kf) (Ok 17)
set_option maxRecDepth 100000 in
set_option maxHeartbeats 4000000 in
theorem bk_X12_highOf {p : Program} {l : Launch} {e : Env} {s : State} {m : MethodId} {args : Array Value} {below : List Frame} {meth : Method} {c : Code} {G : mm_G} {σ0 : mm_S} {Post : Option mm_V → mm_S → Prop} (hC : mm_C p G s m args meth c cX12_highOf yX12_highOf.cls) (hr : meth.sig.returnType = some .int) : clo_X12_highOf (mm_O p l e rm_X12_highOf s m args below meth c G σ0.2.2 (MQ below (mm_Qc G σ0 rm_X12_highOf.cells rm_X12_highOf.slots Post) args s rm_X12_highOf.cells rm_X12_highOf.slots (mm_A G))) Post σ0.2.2 := ⟨(by unfold b_X12_highOf_0; exact (mm_ld_n hC dX12_highOf_0 rfl (mm_ic hC dX12_highOf_1 ⟨by decide, by decide⟩ (mm_ic_ge hC (t := 11) dX12_highOf_2 (by decide) (mm_ld_n hC dX12_highOf_11 rfl (mm_ld_n hC dX12_highOf_12 rfl (mm_cs hC sp_X12_lowOf ⟨rfl, rfl⟩ wd_950 wd_951 wd_952 wd_77 ⟨by decide, by decide, by decide +kernel⟩ ⟨by decide, by decide⟩ dX12_highOf_13 (mm_sub hC dX12_highOf_16 (fun _ _ _ h => h))))) (mm_ld_n hC dX12_highOf_5 rfl (mm_ic hC dX12_highOf_6 ⟨by decide, by decide⟩ (mm_add hC dX12_highOf_7 (mm_goto hC (t := 17) dX12_highOf_8 (by decide) (fun _ _ _ h => h))))))))), (by unfold b_X12_highOf_17; exact (mm_ir hC ⟨rfl, rfl⟩ hr dX12_highOf_17))⟩
set_option maxRecDepth 100000 in
set_option maxHeartbeats 8000000 in
theorem pv_X12_highOf : ∀ (av : List mm_V) (σ : mm_S) (Post : Option mm_V → mm_S → Prop), (∀ v ∈ av, mm_iv v) → (∀ a j, mm_in (σ.1 a j)) → σ.2.2 ≤ 348 → T_X12_highOf av σ Post → ∀ Ok : Nat → mm_K, clo_X12_highOf Ok Post σ.2.2 → Ok 0 (av ++ List.replicate (1 - av.length) (.inr none)) [] σ := by
  intro av σ Post hav hin hk hT Ok hcl
  obtain ⟨I, R0⟩ := σ
  unfold T_X12_highOf at hT
  split at hT
  · rename_i p
    obtain ⟨h0, hT⟩ := hT
    have h0 : R0 = mm_R0 := h0
    subst h0
    dsimp only at hT hin
    obtain ⟨c0, c17⟩ := hcl
    obtain ⟨e, rfl, he, hP⟩ := hT
    have hb := elo_b e he
    rw [(el_tab e he).2] at hP
    have fin : ∀ v : Int, v = (if 3 ≤ (e : Int) then (e : Int) - elo e else (e : Int) + 1) → Ok 17 [.inl (e : Int)] [.inl v] (I, mm_R0) := by
      intro v hv
      refine c17 _ _ _ ?_
      simp only [b_X12_highOf_17, i_xorg, i_shl, i_shr, i_ior, i_and1, i_lcg1, i_lcg2, i_ld, i_la, i_st, i_sa, i_c, i_inc, i_add, i_sub, i_mul, i_div, i_rem, i_remT, i_xor, i_dup, i_dup2, i_if, i_if2, i_sw, i_gi, i_gr, i_pi, i_pz, i_ial, i_ias, i_len, i_aal, i_gs, i_tal, i_cv, i_cs, i_ir, i_zr, i_vr, i_min, i_max, i_cpy, List.getElem?_cons_zero, List.getElem?_cons_succ, List.set_cons_zero, List.set_cons_succ, List.length_cons, List.length_nil, List.drop_succ_cons, List.drop_zero, List.take_succ_cons, List.take_zero, List.reverse_cons, List.reverse_nil, List.nil_append, List.cons_append, Option.toList_some, Option.toList_none, true_and, and_true, true_or, or_true, Nat.reduceAdd, Nat.reduceLT, Nat.reduceLeDiff, Option.some.injEq, exists_eq_left', Int.toNat_natCast, Nat.reduceSub, List.append_nil, List.replicate_succ, List.replicate_zero]
      rw [hv]
      exact hP
    refine c0 _ _ _ ?_
    simp only [b_X12_highOf_0, i_xorg, i_shl, i_shr, i_ior, i_and1, i_lcg1, i_lcg2, i_ld, i_la, i_st, i_sa, i_c, i_inc, i_add, i_sub, i_mul, i_div, i_rem, i_remT, i_xor, i_dup, i_dup2, i_if, i_if2, i_sw, i_gi, i_gr, i_pi, i_pz, i_ial, i_ias, i_len, i_aal, i_gs, i_tal, i_cv, i_cs, i_ir, i_zr, i_vr, i_min, i_max, i_cpy, List.getElem?_cons_zero, List.getElem?_cons_succ, List.set_cons_zero, List.set_cons_succ, List.length_cons, List.length_nil, List.drop_succ_cons, List.drop_zero, List.take_succ_cons, List.take_zero, List.reverse_cons, List.reverse_nil, List.nil_append, List.cons_append, Option.toList_some, Option.toList_none, true_and, and_true, true_or, or_true, Nat.reduceAdd, Nat.reduceLT, Nat.reduceLeDiff, Option.some.injEq, exists_eq_left', Int.toNat_natCast, Nat.reduceSub, List.append_nil, List.replicate_succ, List.replicate_zero, mm_in, T_X12_lowOf]
    refine ⟨fun h => ⟨e, rfl, he, ⟨by omega, by omega⟩, fin _ (by rw [if_pos h])⟩, fun h => ⟨⟨by omega, by omega⟩, fin _ (by rw [if_neg h])⟩⟩
  · exact hT.elim
theorem sp_X12_highOf : mm_Sp yX12_highOf cX12_highOf 1 (some .int) rm_X12_highOf T_X12_highOf := mm_meth (by decide) (by
  intro av σ Post h
  unfold T_X12_highOf at h
  split at h
  · simp
  · exact h.elim) (fun p l e s m args below meth c G av σ Post hC hr _ hav hin hk hT => pv_X12_highOf av σ Post hav hin hk hT _ (bk_X12_highOf hC hr))
/-- the labels of a row -/
def lb (I : Nat → Nat → Int) (u n : Nat) : Prop := ∀ k, k < n → 0 ≤ I u k ∧ I u k < n
def T_X12_alike : mm_T := fun av σ Post => match av with
  | [.inr (some u), .inl m, .inl p, .inl q] => σ.2 = mm_R0 ∧ ∃ n x y : Nat, (mm_sh u).1 = 100 ∧ m = n ∧ n ≤ (mm_sh u).2 ∧ n ≤ 840 ∧ p = x ∧ q = y ∧ x < n ∧ y < n ∧ lb σ.1 u n ∧
    ∀ I' : Nat → Nat → Int, (∀ b, b ≠ u → I' b = σ.1 b) → (∀ k, k < n → I' u k = (mg (fi σ.1 u) x y k : Int)) → Post none (I', mm_R0)
  | _ => False
def rm_X12_alike : Room := { frames := 0, cells := 0, slots := 0, locals := 0 }
def b_X12_alike_0 (Ok : Nat → mm_K) (Post : Option mm_V → mm_S → Prop) (kf : Nat) : mm_K := i_la 0 (i_ld 2 (i_ial (i_la 0 (i_ld 3 (i_ial (i_if2 (fun x y => y ≤ x) (i_la 0 (i_ld 3 (i_ial (Ok 18)))) (i_la 0 (i_ld 2 (i_ial (Ok 18))))))))))
def b_X12_alike_18 (Ok : Nat → mm_K) (Post : Option mm_V → mm_S → Prop) (kf : Nat) : mm_K := i_st 4 (i_la 0 (i_ld 2 (i_ial (i_la 0 (i_ld 3 (i_ial (i_if2 (fun x y => y ≤ x) (i_la 0 (i_ld 2 (i_ial (Ok 38)))) (i_la 0 (i_ld 3 (i_ial (Ok 38)))))))))))
def b_X12_alike_38 (Ok : Nat → mm_K) (Post : Option mm_V → mm_S → Prop) (kf : Nat) : mm_K := i_st 5 (i_c 0 (i_st 6 (Ok 43)))
def b_X12_alike_43 (Ok : Nat → mm_K) (Post : Option mm_V → mm_S → Prop) (kf : Nat) : mm_K := i_ld 6 (i_ld 1 (i_if2 (fun x y => y ≤ x) (Ok 84) (i_ld 4 (i_ld 5 (i_if2 (fun x y => x = y) (Ok 84) (i_la 0 (i_ld 6 (i_la 0 (i_ld 6 (i_ial (i_ld 5 (i_if2 (fun x y => ¬ x = y) (i_la 0 (i_ld 6 (i_ial (Ok 77)))) (i_ld 4 (Ok 77))))))))))))))
def b_X12_alike_77 (Ok : Nat → mm_K) (Post : Option mm_V → mm_S → Prop) (kf : Nat) : mm_K := i_ias (i_inc 6 1 (Ok 43))
def b_X12_alike_84 (Ok : Nat → mm_K) (Post : Option mm_V → mm_S → Prop) (kf : Nat) : mm_K := i_vr Post kf
def clo_X12_alike (Ok : Nat → mm_K) (Post : Option mm_V → mm_S → Prop) (kf : Nat) : Prop := mm_imp (b_X12_alike_0 Ok Post kf) (Ok 0) ∧ mm_imp (b_X12_alike_18 Ok Post kf) (Ok 18) ∧ mm_imp (b_X12_alike_38 Ok Post kf) (Ok 38) ∧ mm_imp (b_X12_alike_43 Ok Post kf) (Ok 43) ∧ mm_imp (b_X12_alike_77 Ok Post kf) (Ok 77) ∧ mm_imp (b_X12_alike_84 Ok Post kf) (Ok 84)
set_option maxRecDepth 100000 in
set_option maxHeartbeats 4000000 in
theorem bk_X12_alike {p : Program} {l : Launch} {e : Env} {s : State} {m : MethodId} {args : Array Value} {below : List Frame} {meth : Method} {c : Code} {G : mm_G} {σ0 : mm_S} {Post : Option mm_V → mm_S → Prop} (hC : mm_C p G s m args meth c cX12_alike yX12_alike.cls) (hr : meth.sig.returnType = none) : clo_X12_alike (mm_O p l e rm_X12_alike s m args below meth c G σ0.2.2 (MQ below (mm_Qc G σ0 rm_X12_alike.cells rm_X12_alike.slots Post) args s rm_X12_alike.cells rm_X12_alike.slots (mm_A G))) Post σ0.2.2 := ⟨(by unfold b_X12_alike_0; exact (mm_la_n hC dX12_alike_0 rfl (mm_ld_n hC dX12_alike_1 rfl (mm_ial hC dX12_alike_2 (mm_la_n hC dX12_alike_3 rfl (mm_ld_n hC dX12_alike_4 rfl (mm_ial hC dX12_alike_5 (mm_ic_ge hC (t := 15) dX12_alike_6 (by decide) (mm_la_n hC dX12_alike_15 rfl (mm_ld_n hC dX12_alike_16 rfl (mm_ial hC dX12_alike_17 (fun _ _ _ h => h)))) (mm_la_n hC dX12_alike_9 rfl (mm_ld_n hC dX12_alike_10 rfl (mm_ial hC dX12_alike_11 (mm_goto hC (t := 18) dX12_alike_12 (by decide) (fun _ _ _ h => h))))))))))))), (by unfold b_X12_alike_18; exact (mm_st hC dX12_alike_18 (mm_la_n hC dX12_alike_20 rfl (mm_ld_n hC dX12_alike_21 rfl (mm_ial hC dX12_alike_22 (mm_la_n hC dX12_alike_23 rfl (mm_ld_n hC dX12_alike_24 rfl (mm_ial hC dX12_alike_25 (mm_ic_ge hC (t := 35) dX12_alike_26 (by decide) (mm_la_n hC dX12_alike_35 rfl (mm_ld_n hC dX12_alike_36 rfl (mm_ial hC dX12_alike_37 (fun _ _ _ h => h)))) (mm_la_n hC dX12_alike_29 rfl (mm_ld_n hC dX12_alike_30 rfl (mm_ial hC dX12_alike_31 (mm_goto hC (t := 38) dX12_alike_32 (by decide) (fun _ _ _ h => h)))))))))))))), (by unfold b_X12_alike_38; exact (mm_st hC dX12_alike_38 (mm_ic hC dX12_alike_40 ⟨by decide, by decide⟩ (mm_st hC dX12_alike_41 (fun _ _ _ h => h))))), (by unfold b_X12_alike_43; exact (mm_ld hC dX12_alike_43 (mm_ld_n hC dX12_alike_45 rfl (mm_ic_ge hC (t := 84) dX12_alike_46 (by decide) (fun _ _ _ h => h) (mm_ld hC dX12_alike_49 (mm_ld hC dX12_alike_51 (mm_ic_eq hC (t := 84) dX12_alike_53 (by decide) (fun _ _ _ h => h) (mm_la_n hC dX12_alike_56 rfl (mm_ld hC dX12_alike_57 (mm_la_n hC dX12_alike_59 rfl (mm_ld hC dX12_alike_60 (mm_ial hC dX12_alike_62 (mm_ld hC dX12_alike_63 (mm_ic_ne hC (t := 73) dX12_alike_65 (by decide) (mm_la_n hC dX12_alike_73 rfl (mm_ld hC dX12_alike_74 (mm_ial hC dX12_alike_76 (fun _ _ _ h => h)))) (mm_ld hC dX12_alike_68 (mm_goto hC (t := 77) dX12_alike_70 (by decide) (fun _ _ _ h => h))))))))))))))))), (by unfold b_X12_alike_77; exact (mm_ias hC dX12_alike_77 (mm_inc hC dX12_alike_78 (mm_goto hC (t := 43) dX12_alike_81 (by decide) (fun _ _ _ h => h))))), (by unfold b_X12_alike_84; exact (mm_vr hC ⟨rfl, rfl⟩ hr dX12_alike_84))⟩
set_option maxRecDepth 100000 in
set_option maxHeartbeats 8000000 in
theorem pv_X12_alike : ∀ (av : List mm_V) (σ : mm_S) (Post : Option mm_V → mm_S → Prop), (∀ v ∈ av, mm_iv v) → (∀ a j, mm_in (σ.1 a j)) → σ.2.2 ≤ 348 → T_X12_alike av σ Post → ∀ Ok : Nat → mm_K, clo_X12_alike Ok Post σ.2.2 → Ok 0 (av ++ List.replicate (7 - av.length) (.inr none)) [] σ := by
  intro av σ Post hav hin hk hT Ok hcl
  obtain ⟨I, R0⟩ := σ
  unfold T_X12_alike at hT
  split at hT
  · rename_i u m p q
    obtain ⟨h0, hT⟩ := hT
    have h0 : R0 = mm_R0 := h0
    subst h0
    dsimp only at hT hin
    obtain ⟨c0, c18, c38, c43, c77, c84⟩ := hcl
    obtain ⟨n, x, y, hu, rfl, hn, hn840, rfl, rfl, hx, hy, hl, hP⟩ := hT
    have hu348 := sh_lt hu (by decide)
    have lx := hl x hx
    have ly := hl y hy
    obtain ⟨lo, hlo⟩ : ∃ lo, min (fi I u x) (fi I u y) = lo := ⟨_, rfl⟩
    obtain ⟨hi, hhi⟩ : ∃ hi, max (fi I u x) (fi I u y) = hi := ⟨_, rfl⟩
    have ex : I u x = (fi I u x : Int) := by unfold fi; omega
    have ey : I u y = (fi I u y : Int) := by unfold fi; omega
    have em : ∀ k, mg (fi I u) x y k = if fi I u k = hi then lo else fi I u k := by
      intro k
      unfold mg
      rw [hlo, hhi]
    have f84 : ∀ (I1 : Nat → Nat → Int) (k : Int), (∀ b, b ≠ u → I1 b = I b) → (∀ k, k < n → I1 u k = (mg (fi I u) x y k : Int)) → Ok 84 [.inr (some u), .inl (n : Int), .inl (x : Int), .inl (y : Int), .inl (lo : Int), .inl (hi : Int), .inl k] [] (I1, mm_R0) := by
      intro I1 k h1 h2
      refine c84 _ _ _ ?_
      simp only [b_X12_alike_84, i_xorg, i_shl, i_shr, i_ior, i_and1, i_lcg1, i_lcg2, i_ld, i_la, i_st, i_sa, i_c, i_inc, i_add, i_sub, i_mul, i_div, i_rem, i_remT, i_xor, i_dup, i_dup2, i_if, i_if2, i_sw, i_gi, i_gr, i_pi, i_pz, i_ial, i_ias, i_len, i_aal, i_gs, i_tal, i_cv, i_cs, i_ir, i_zr, i_vr, i_min, i_max, i_cpy, List.getElem?_cons_zero, List.getElem?_cons_succ, List.set_cons_zero, List.set_cons_succ, List.length_cons, List.length_nil, List.drop_succ_cons, List.drop_zero, List.take_succ_cons, List.take_zero, List.reverse_cons, List.reverse_nil, List.nil_append, List.cons_append, Option.toList_some, Option.toList_none, true_and, and_true, true_or, or_true, Nat.reduceAdd, Nat.reduceLT, Nat.reduceLeDiff, Option.some.injEq, exists_eq_left', Int.toNat_natCast, Nat.reduceSub, List.append_nil, List.replicate_succ, List.replicate_zero]
      exact hP I1 h1 h2
    have loop : ∀ (d k : Nat) (I1 : Nat → Nat → Int), k + d = n → (∀ b, b ≠ u → I1 b = I b) → (∀ j, j < k → I1 u j = (mg (fi I u) x y j : Int)) → (∀ j, k ≤ j → I1 u j = I u j) → (∀ a j, mm_in (I1 a j)) → Ok 43 [.inr (some u), .inl (n : Int), .inl (x : Int), .inl (y : Int), .inl (lo : Int), .inl (hi : Int), .inl (k : Int)] [] (I1, mm_R0) := by
      intro d
      induction d with
      | zero =>
        intro k I1 hd h1 h2 h3 h4
        refine c43 _ _ _ ?_
        simp only [b_X12_alike_43, i_xorg, i_shl, i_shr, i_ior, i_and1, i_lcg1, i_lcg2, i_ld, i_la, i_st, i_sa, i_c, i_inc, i_add, i_sub, i_mul, i_div, i_rem, i_remT, i_xor, i_dup, i_dup2, i_if, i_if2, i_sw, i_gi, i_gr, i_pi, i_pz, i_ial, i_ias, i_len, i_aal, i_gs, i_tal, i_cv, i_cs, i_ir, i_zr, i_vr, i_min, i_max, i_cpy, List.getElem?_cons_zero, List.getElem?_cons_succ, List.set_cons_zero, List.set_cons_succ, List.length_cons, List.length_nil, List.drop_succ_cons, List.drop_zero, List.take_succ_cons, List.take_zero, List.reverse_cons, List.reverse_nil, List.nil_append, List.cons_append, Option.toList_some, Option.toList_none, true_and, and_true, true_or, or_true, Nat.reduceAdd, Nat.reduceLT, Nat.reduceLeDiff, Option.some.injEq, exists_eq_left', Int.toNat_natCast, Nat.reduceSub, List.append_nil, List.replicate_succ, List.replicate_zero, mm_in,]
        exact ⟨fun _ => f84 I1 _ h1 (fun j hj => h2 j (by omega)), fun z => by omega⟩
      | succ d ih =>
        intro k I1 hd h1 h2 h3 h4
        have lk := hl k (by omega)
        have e3 := h3 k (Nat.le_refl _)
        have ek : I1 u k = (fi I u k : Int) := by rw [e3]; unfold fi; omega
        have f77 : ∀ v : Int, v = (mg (fi I u) x y k : Int) → Ok 77 [.inr (some u), .inl (n : Int), .inl (x : Int), .inl (y : Int), .inl (lo : Int), .inl (hi : Int), .inl (k : Int)] [.inl v, .inl (k : Int), .inr (some u)] (I1, mm_R0) := by
          intro v hv
          have hv2 : 0 ≤ v ∧ v < n := by
            rw [hv, em]
            unfold fi at *
            split <;> omega
          refine c77 _ _ _ ?_
          simp only [b_X12_alike_77, i_xorg, i_shl, i_shr, i_ior, i_and1, i_lcg1, i_lcg2, i_ld, i_la, i_st, i_sa, i_c, i_inc, i_add, i_sub, i_mul, i_div, i_rem, i_remT, i_xor, i_dup, i_dup2, i_if, i_if2, i_sw, i_gi, i_gr, i_pi, i_pz, i_ial, i_ias, i_len, i_aal, i_gs, i_tal, i_cv, i_cs, i_ir, i_zr, i_vr, i_min, i_max, i_cpy, List.getElem?_cons_zero, List.getElem?_cons_succ, List.set_cons_zero, List.set_cons_succ, List.length_cons, List.length_nil, List.drop_succ_cons, List.drop_zero, List.take_succ_cons, List.take_zero, List.reverse_cons, List.reverse_nil, List.nil_append, List.cons_append, Option.toList_some, Option.toList_none, true_and, and_true, true_or, or_true, Nat.reduceAdd, Nat.reduceLT, Nat.reduceLeDiff, Option.some.injEq, exists_eq_left', Int.toNat_natCast, Nat.reduceSub, List.append_nil, List.replicate_succ, List.replicate_zero, mm_in, hu]
          refine ⟨⟨by omega, by omega⟩, ⟨by omega, by omega⟩, ?_⟩
          have := ih (k + 1) (mm_set I1 u k v) (by omega) (fun b hb => by rw [mset_ne hb]; exact h1 b hb) (fun j hj => ?_) (fun j hj => by rw [mset_n2 (by omega)]; exact h3 j (by omega)) (fun a j => ?_)
          · rw [Int.natCast_add] at this
            exact this
          · by_cases q : j = k
            · rw [q, mset_eq]
              exact hv
            · rw [mset_n2 q]
              exact h2 j (by omega)
          · unfold mm_set
            split
            · exact ⟨by omega, by omega⟩
            · exact h4 a j
        refine c43 _ _ _ ?_
        simp only [b_X12_alike_43, i_xorg, i_shl, i_shr, i_ior, i_and1, i_lcg1, i_lcg2, i_ld, i_la, i_st, i_sa, i_c, i_inc, i_add, i_sub, i_mul, i_div, i_rem, i_remT, i_xor, i_dup, i_dup2, i_if, i_if2, i_sw, i_gi, i_gr, i_pi, i_pz, i_ial, i_ias, i_len, i_aal, i_gs, i_tal, i_cv, i_cs, i_ir, i_zr, i_vr, i_min, i_max, i_cpy, List.getElem?_cons_zero, List.getElem?_cons_succ, List.set_cons_zero, List.set_cons_succ, List.length_cons, List.length_nil, List.drop_succ_cons, List.drop_zero, List.take_succ_cons, List.take_zero, List.reverse_cons, List.reverse_nil, List.nil_append, List.cons_append, Option.toList_some, Option.toList_none, true_and, and_true, true_or, or_true, Nat.reduceAdd, Nat.reduceLT, Nat.reduceLeDiff, Option.some.injEq, exists_eq_left', Int.toNat_natCast, Nat.reduceSub, List.append_nil, List.replicate_succ, List.replicate_zero, mm_in, hu]
        refine ⟨fun z => by omega, fun z => ⟨fun q => f84 I1 _ h1 (fun j hj => ?_), fun q => ?_⟩⟩
        · by_cases q2 : j < k
          · exact h2 j q2
          · rw [h3 j (by omega), em]
            have := hl j hj
            unfold fi
            split
            · rename_i q3
              omega
            · omega
        · repeat' first | refine And.intro ?_ ?_ | refine fun (_ : _ ≤ _ ∧ _ < _) => ?_
          all_goals try omega
          · intro r
            repeat' first | refine And.intro ?_ ?_ | refine fun (_ : _ ≤ _ ∧ _ < _) => ?_
            all_goals try omega
            exact f77 _ (by rw [em, if_neg (by omega)]; exact ek)
          · intro r
            exact f77 _ (by rw [em, if_pos (by omega)])
    have f38 : ∀ u1 u2 : mm_V, Ok 38 [.inr (some u), .inl (n : Int), .inl (x : Int), .inl (y : Int), .inl (lo : Int), u1, u2] [.inl (hi : Int)] (I, mm_R0) := by
      intro u1 u2
      refine c38 _ _ _ ?_
      simp only [b_X12_alike_38, i_xorg, i_shl, i_shr, i_ior, i_and1, i_lcg1, i_lcg2, i_ld, i_la, i_st, i_sa, i_c, i_inc, i_add, i_sub, i_mul, i_div, i_rem, i_remT, i_xor, i_dup, i_dup2, i_if, i_if2, i_sw, i_gi, i_gr, i_pi, i_pz, i_ial, i_ias, i_len, i_aal, i_gs, i_tal, i_cv, i_cs, i_ir, i_zr, i_vr, i_min, i_max, i_cpy, List.getElem?_cons_zero, List.getElem?_cons_succ, List.set_cons_zero, List.set_cons_succ, List.length_cons, List.length_nil, List.drop_succ_cons, List.drop_zero, List.take_succ_cons, List.take_zero, List.reverse_cons, List.reverse_nil, List.nil_append, List.cons_append, Option.toList_some, Option.toList_none, true_and, and_true, true_or, or_true, Nat.reduceAdd, Nat.reduceLT, Nat.reduceLeDiff, Option.some.injEq, exists_eq_left', Int.toNat_natCast, Nat.reduceSub, List.append_nil, List.replicate_succ, List.replicate_zero, mm_in,]
      exact loop n 0 I (by omega) (fun _ _ => rfl) (fun j hj => by omega) (fun _ _ => rfl) hin
    have f18 : ∀ u0 u1 u2 : mm_V, Ok 18 [.inr (some u), .inl (n : Int), .inl (x : Int), .inl (y : Int), u0, u1, u2] [.inl (lo : Int)] (I, mm_R0) := by
      intro u0 u1 u2
      refine c18 _ _ _ ?_
      simp only [b_X12_alike_18, i_xorg, i_shl, i_shr, i_ior, i_and1, i_lcg1, i_lcg2, i_ld, i_la, i_st, i_sa, i_c, i_inc, i_add, i_sub, i_mul, i_div, i_rem, i_remT, i_xor, i_dup, i_dup2, i_if, i_if2, i_sw, i_gi, i_gr, i_pi, i_pz, i_ial, i_ias, i_len, i_aal, i_gs, i_tal, i_cv, i_cs, i_ir, i_zr, i_vr, i_min, i_max, i_cpy, List.getElem?_cons_zero, List.getElem?_cons_succ, List.set_cons_zero, List.set_cons_succ, List.length_cons, List.length_nil, List.drop_succ_cons, List.drop_zero, List.take_succ_cons, List.take_zero, List.reverse_cons, List.reverse_nil, List.nil_append, List.cons_append, Option.toList_some, Option.toList_none, true_and, and_true, true_or, or_true, Nat.reduceAdd, Nat.reduceLT, Nat.reduceLeDiff, Option.some.injEq, exists_eq_left', Int.toNat_natCast, Nat.reduceSub, List.append_nil, List.replicate_succ, List.replicate_zero, mm_in, hu]
      rw [ex, ey]
      repeat' first | refine And.intro ?_ ?_ | refine fun (_ : _ ≤ _ ∧ _ < _) => ?_
      all_goals try omega
      · intro h
        have := f38 u1 u2
        rw [show hi = fi I u x by omega] at this
        repeat' first | refine And.intro ?_ ?_ | refine fun (_ : _ ≤ _ ∧ _ < _) => ?_
        all_goals try omega
      · intro h
        have := f38 u1 u2
        rw [show hi = fi I u y by omega] at this
        repeat' first | refine And.intro ?_ ?_ | refine fun (_ : _ ≤ _ ∧ _ < _) => ?_
        all_goals try omega
    refine c0 _ _ _ ?_
    simp only [b_X12_alike_0, i_xorg, i_shl, i_shr, i_ior, i_and1, i_lcg1, i_lcg2, i_ld, i_la, i_st, i_sa, i_c, i_inc, i_add, i_sub, i_mul, i_div, i_rem, i_remT, i_xor, i_dup, i_dup2, i_if, i_if2, i_sw, i_gi, i_gr, i_pi, i_pz, i_ial, i_ias, i_len, i_aal, i_gs, i_tal, i_cv, i_cs, i_ir, i_zr, i_vr, i_min, i_max, i_cpy, List.getElem?_cons_zero, List.getElem?_cons_succ, List.set_cons_zero, List.set_cons_succ, List.length_cons, List.length_nil, List.drop_succ_cons, List.drop_zero, List.take_succ_cons, List.take_zero, List.reverse_cons, List.reverse_nil, List.nil_append, List.cons_append, Option.toList_some, Option.toList_none, true_and, and_true, true_or, or_true, Nat.reduceAdd, Nat.reduceLT, Nat.reduceLeDiff, Option.some.injEq, exists_eq_left', Int.toNat_natCast, Nat.reduceSub, List.append_nil, List.replicate_succ, List.replicate_zero, mm_in, hu]
    rw [ex, ey]
    repeat' first | refine And.intro ?_ ?_ | refine fun (_ : _ ≤ _ ∧ _ < _) => ?_
    all_goals try omega
    · intro h
      have := f18 (.inr none) (.inr none) (.inr none)
      rw [show lo = fi I u y by omega] at this
      repeat' first | refine And.intro ?_ ?_ | refine fun (_ : _ ≤ _ ∧ _ < _) => ?_
      all_goals try omega
    · intro h
      have := f18 (.inr none) (.inr none) (.inr none)
      rw [show lo = fi I u x by omega] at this
      repeat' first | refine And.intro ?_ ?_ | refine fun (_ : _ ≤ _ ∧ _ < _) => ?_
      all_goals try omega
  · exact hT.elim
theorem sp_X12_alike : mm_Sp yX12_alike cX12_alike 7 none rm_X12_alike T_X12_alike := mm_meth (by decide) (by
  intro av σ Post h
  unfold T_X12_alike at h
  split at h
  · simp
  · exact h.elim) (fun p l e s m args below meth c G av σ Post hC hr _ hav hin hk hT => pv_X12_alike av σ Post hav hin hk hT _ (bk_X12_alike hC hr))
