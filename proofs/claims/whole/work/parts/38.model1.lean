/-! the other program (cell 338): small things
-/
theorem sh_338 : (mm_sh 338).1 = 11 ∧ mm_sh 339 = (100, 2909) ∧ mm_sh 340 = (100, 2) ∧ mm_sh 341 = (100, 20) ∧ mm_sh 342 = (100, 20) ∧ mm_sh 343 = (100, 12) ∧ mm_sh 344 = (100, 18) ∧ mm_sh 345 = (100, 36) ∧ mm_sh 346 = (100, 420) ∧ mm_sh 347 = (100, 840) := by decide +kernel
theorem Rs_338 : mm_Rs 338 0 = some 339 ∧ mm_Rs 338 4 = some 340 ∧ mm_Rs 338 5 = some 341 ∧ mm_Rs 338 6 = some 342 ∧ mm_Rs 338 8 = some 343 ∧ mm_Rs 338 9 = some 344 ∧ mm_Rs 338 10 = some 345 ∧ mm_Rs 338 11 = some 346 ∧ mm_Rs 338 12 = some 347 := by decide +kernel
theorem m0 : (mm_sh 338).1 = 11 := sh_338.1
theorem m1 : mm_Rs 338 0 = some 339 := Rs_338.1
theorem m2 : mm_sh 339 = (100, 2909) := sh_338.2.1
theorem t0 : Int.toNat 0 = 0 := rfl
theorem t1 : Int.toNat 1 = 1 := rfl
theorem t2 (j : Nat) : (2 + (j : Int)).toNat = 2 + j := by omega
theorem t14 (j : Nat) : (14 + (j : Int)).toNat = 14 + j := by omega
def T_X12_in : mm_T := fun av σ Post => match av with
  | [.inl x, .inl a, .inl b] => σ.2 = mm_R0 ∧ ∀ z : Int, bz z (a ≤ x ∧ x ≤ b) → Post (some (.inl z)) σ
  | _ => False
def rm_X12_in : Room := { frames := 0, cells := 0, slots := 0, locals := 0 }
def b_X12_in_0 (Ok : Nat → mm_K) (Post : Option mm_V → mm_S → Prop) (kf : Nat) : mm_K := i_ld 0 (i_ld 1 (i_if2 (fun x y => x < y) (Ok 14) (i_ld 0 (i_ld 2 (i_if2 (fun x y => y < x) (Ok 14) (i_c 1 (Ok 15)))))))
def b_X12_in_14 (Ok : Nat → mm_K) (Post : Option mm_V → mm_S → Prop) (kf : Nat) : mm_K := i_c 0 (Ok 15)
def b_X12_in_15 (Ok : Nat → mm_K) (Post : Option mm_V → mm_S → Prop) (kf : Nat) : mm_K := i_zr Post kf
def clo_X12_in (Ok : Nat → mm_K) (Post : Option mm_V → mm_S → Prop) (kf : Nat) : Prop := mm_imp (b_X12_in_0 Ok Post kf) (Ok 0) ∧ mm_imp (b_X12_in_14 Ok Post kf) (Ok 14) ∧ mm_imp (b_X12_in_15 Ok Post kf) (Ok 15)
set_option maxRecDepth 100000 in
set_option maxHeartbeats 4000000 in
theorem bk_X12_in {p : Program} {l : Launch} {e : Env} {s : State} {m : MethodId} {args : Array Value} {below : List Frame} {meth : Method} {c : Code} {G : mm_G} {σ0 : mm_S} {Post : Option mm_V → mm_S → Prop} (hC : mm_C p G s m args meth c cX12_in yX12_in.cls) (hr : meth.sig.returnType = some .boolean) : clo_X12_in (mm_O p l e rm_X12_in s m args below meth c G σ0.2.2 (MQ below (mm_Qc G σ0 rm_X12_in.cells rm_X12_in.slots Post) args s rm_X12_in.cells rm_X12_in.slots (mm_A G))) Post σ0.2.2 := ⟨(by unfold b_X12_in_0; exact (mm_ld_n hC dX12_in_0 rfl (mm_ld_n hC dX12_in_1 rfl (mm_ic_lt hC (t := 14) dX12_in_2 (by decide) (fun _ _ _ h => h) (mm_ld_n hC dX12_in_5 rfl (mm_ld_n hC dX12_in_6 rfl (mm_ic_gt hC (t := 14) dX12_in_7 (by decide) (fun _ _ _ h => h) (mm_ic hC dX12_in_10 ⟨by decide, by decide⟩ (mm_goto hC (t := 15) dX12_in_11 (by decide) (fun _ _ _ h => h)))))))))), (by unfold b_X12_in_14; exact (mm_ic hC dX12_in_14 ⟨by decide, by decide⟩ (fun _ _ _ h => h))), (by unfold b_X12_in_15; exact (mm_zr hC ⟨rfl, rfl⟩ hr dX12_in_15))⟩
set_option maxRecDepth 100000 in
set_option maxHeartbeats 8000000 in
theorem pv_X12_in : ∀ (av : List mm_V) (σ : mm_S) (Post : Option mm_V → mm_S → Prop), (∀ v ∈ av, mm_iv v) → (∀ a j, mm_in (σ.1 a j)) → σ.2.2 ≤ 348 → T_X12_in av σ Post → ∀ Ok : Nat → mm_K, clo_X12_in Ok Post σ.2.2 → Ok 0 (av ++ List.replicate (3 - av.length) (.inr none)) [] σ := by
  intro av σ Post hav hin hk hT Ok hcl
  obtain ⟨I, R0⟩ := σ
  unfold T_X12_in at hT
  split at hT
  · rename_i x a b
    obtain ⟨h0, hT⟩ := hT
    have h0 : R0 = mm_R0 := h0
    subst h0
    dsimp only at hT hin
    obtain ⟨c0, c14, c15⟩ := hcl
    have hP := hT
    have no : ¬ (a ≤ x ∧ x ≤ b) → Ok 14 [.inl x, .inl a, .inl b] [] (I, mm_R0) := by
      intro h
      refine c14 _ _ _ ?_
      simp only [b_X12_in_14, i_xorg, i_shl, i_shr, i_ior, i_and1, i_lcg1, i_lcg2, i_ld, i_la, i_st, i_sa, i_c, i_inc, i_add, i_sub, i_mul, i_div, i_rem, i_remT, i_xor, i_dup, i_dup2, i_if, i_if2, i_sw, i_gi, i_gr, i_pi, i_pz, i_ial, i_ias, i_len, i_aal, i_gs, i_tal, i_cv, i_cs, i_ir, i_zr, i_vr, i_min, i_max, i_cpy, List.getElem?_cons_zero, List.getElem?_cons_succ, List.set_cons_zero, List.set_cons_succ, List.length_cons, List.length_nil, List.drop_succ_cons, List.drop_zero, List.take_succ_cons, List.take_zero, List.reverse_cons, List.reverse_nil, List.nil_append, List.cons_append, Option.toList_some, Option.toList_none, true_and, and_true, true_or, or_true, Nat.reduceAdd, Nat.reduceLT, Nat.reduceLeDiff, Option.some.injEq, exists_eq_left', Int.toNat_natCast, Nat.reduceSub, List.append_nil, List.replicate_succ, List.replicate_zero]
      refine c15 _ _ _ ?_
      simp only [b_X12_in_15, i_xorg, i_shl, i_shr, i_ior, i_and1, i_lcg1, i_lcg2, i_ld, i_la, i_st, i_sa, i_c, i_inc, i_add, i_sub, i_mul, i_div, i_rem, i_remT, i_xor, i_dup, i_dup2, i_if, i_if2, i_sw, i_gi, i_gr, i_pi, i_pz, i_ial, i_ias, i_len, i_aal, i_gs, i_tal, i_cv, i_cs, i_ir, i_zr, i_vr, i_min, i_max, i_cpy, List.getElem?_cons_zero, List.getElem?_cons_succ, List.set_cons_zero, List.set_cons_succ, List.length_cons, List.length_nil, List.drop_succ_cons, List.drop_zero, List.take_succ_cons, List.take_zero, List.reverse_cons, List.reverse_nil, List.nil_append, List.cons_append, Option.toList_some, Option.toList_none, true_and, and_true, true_or, or_true, Nat.reduceAdd, Nat.reduceLT, Nat.reduceLeDiff, Option.some.injEq, exists_eq_left', Int.toNat_natCast, Nat.reduceSub, List.append_nil, List.replicate_succ, List.replicate_zero]
      exact hP 0 (bz_0 h)
    refine c0 _ _ _ ?_
    simp only [b_X12_in_0, i_xorg, i_shl, i_shr, i_ior, i_and1, i_lcg1, i_lcg2, i_ld, i_la, i_st, i_sa, i_c, i_inc, i_add, i_sub, i_mul, i_div, i_rem, i_remT, i_xor, i_dup, i_dup2, i_if, i_if2, i_sw, i_gi, i_gr, i_pi, i_pz, i_ial, i_ias, i_len, i_aal, i_gs, i_tal, i_cv, i_cs, i_ir, i_zr, i_vr, i_min, i_max, i_cpy, List.getElem?_cons_zero, List.getElem?_cons_succ, List.set_cons_zero, List.set_cons_succ, List.length_cons, List.length_nil, List.drop_succ_cons, List.drop_zero, List.take_succ_cons, List.take_zero, List.reverse_cons, List.reverse_nil, List.nil_append, List.cons_append, Option.toList_some, Option.toList_none, true_and, and_true, true_or, or_true, Nat.reduceAdd, Nat.reduceLT, Nat.reduceLeDiff, Option.some.injEq, exists_eq_left', Int.toNat_natCast, Nat.reduceSub, List.append_nil, List.replicate_succ, List.replicate_zero, mm_in,]
    refine ⟨fun z => no (by omega), fun z => ⟨fun y => no (by omega), fun y => ?_⟩⟩
    refine c15 _ _ _ ?_
    simp only [b_X12_in_15, i_xorg, i_shl, i_shr, i_ior, i_and1, i_lcg1, i_lcg2, i_ld, i_la, i_st, i_sa, i_c, i_inc, i_add, i_sub, i_mul, i_div, i_rem, i_remT, i_xor, i_dup, i_dup2, i_if, i_if2, i_sw, i_gi, i_gr, i_pi, i_pz, i_ial, i_ias, i_len, i_aal, i_gs, i_tal, i_cv, i_cs, i_ir, i_zr, i_vr, i_min, i_max, i_cpy, List.getElem?_cons_zero, List.getElem?_cons_succ, List.set_cons_zero, List.set_cons_succ, List.length_cons, List.length_nil, List.drop_succ_cons, List.drop_zero, List.take_succ_cons, List.take_zero, List.reverse_cons, List.reverse_nil, List.nil_append, List.cons_append, Option.toList_some, Option.toList_none, true_and, and_true, true_or, or_true, Nat.reduceAdd, Nat.reduceLT, Nat.reduceLeDiff, Option.some.injEq, exists_eq_left', Int.toNat_natCast, Nat.reduceSub, List.append_nil, List.replicate_succ, List.replicate_zero]
    exact hP 1 (bz_1 ⟨by omega, by omega⟩)
  · exact hT.elim
theorem sp_X12_in : mm_Sp yX12_in cX12_in 3 (some .boolean) rm_X12_in T_X12_in := mm_meth (by decide) (by
  intro av σ Post h
  unfold T_X12_in at h
  split at h
  · simp
  · exact h.elim) (fun p l e s m args below meth c G av σ Post hC hr _ hav hin hk hT => pv_X12_in av σ Post hav hin hk hT _ (bk_X12_in hC hr))
def T_X12_isBody : mm_T := fun av σ Post => match av with
  | [.inr (some a), .inl b] => σ.2 = mm_R0 ∧ a = 338 ∧ (0 ≤ σ.1 339 0 ∧ σ.1 339 0 ≤ 3) ∧ ∀ z : Int, bz z (0 ≤ b ∧ b < σ.1 339 0) → Post (some (.inl z)) σ
  | _ => False
def rm_X12_isBody : Room := { frames := 1, cells := 0, slots := 0, locals := 22 }
def b_X12_isBody_0 (Ok : Nat → mm_K) (Post : Option mm_V → mm_S → Prop) (kf : Nat) : mm_K := i_ld 1 (i_c 0 (i_la 0 (i_gr 11 0 (i_c 0 (i_ial (i_c 1 (i_sub (i_cs 3 T_X12_in (i_zr Post kf)))))))))
def clo_X12_isBody (Ok : Nat → mm_K) (Post : Option mm_V → mm_S → Prop) (kf : Nat) : Prop := mm_imp (b_X12_isBody_0 Ok Post kf) (Ok 0)
set_option maxRecDepth 100000 in
set_option maxHeartbeats 4000000 in
theorem bk_X12_isBody {p : Program} {l : Launch} {e : Env} {s : State} {m : MethodId} {args : Array Value} {below : List Frame} {meth : Method} {c : Code} {G : mm_G} {σ0 : mm_S} {Post : Option mm_V → mm_S → Prop} (hC : mm_C p G s m args meth c cX12_isBody yX12_isBody.cls) (hr : meth.sig.returnType = some .boolean) : clo_X12_isBody (mm_O p l e rm_X12_isBody s m args below meth c G σ0.2.2 (MQ below (mm_Qc G σ0 rm_X12_isBody.cells rm_X12_isBody.slots Post) args s rm_X12_isBody.cells rm_X12_isBody.slots (mm_A G))) Post σ0.2.2 := (by unfold clo_X12_isBody b_X12_isBody_0; exact (mm_ld_n hC dX12_isBody_0 rfl (mm_ic hC dX12_isBody_1 ⟨by decide, by decide⟩ (mm_la_n hC dX12_isBody_2 rfl (mm_gr hC cl_11 (by decide) rfl wd_789 dX12_isBody_3 (mm_ic hC dX12_isBody_6 ⟨by decide, by decide⟩ (mm_ial hC dX12_isBody_7 (mm_ic hC dX12_isBody_8 ⟨by decide, by decide⟩ (mm_sub hC dX12_isBody_9 (mm_cs hC sp_X12_in ⟨rfl, rfl⟩ wd_979 wd_980 wd_981 wd_77 ⟨by decide, by decide, by decide +kernel⟩ ⟨by decide, by decide⟩ dX12_isBody_10 (mm_zr hC ⟨rfl, rfl⟩ hr dX12_isBody_13)))))))))))
set_option maxRecDepth 100000 in
set_option maxHeartbeats 8000000 in
theorem pv_X12_isBody : ∀ (av : List mm_V) (σ : mm_S) (Post : Option mm_V → mm_S → Prop), (∀ v ∈ av, mm_iv v) → (∀ a j, mm_in (σ.1 a j)) → σ.2.2 ≤ 348 → T_X12_isBody av σ Post → ∀ Ok : Nat → mm_K, clo_X12_isBody Ok Post σ.2.2 → Ok 0 (av ++ List.replicate (2 - av.length) (.inr none)) [] σ := by
  intro av σ Post hav hin hk hT Ok hcl
  obtain ⟨I, R0⟩ := σ
  unfold T_X12_isBody at hT
  split at hT
  · rename_i a b
    obtain ⟨h0, hT⟩ := hT
    have h0 : R0 = mm_R0 := h0
    subst h0
    dsimp only at hT hin
    have c0 := hcl
    unfold clo_X12_isBody at c0
    obtain ⟨rfl, h1, hP⟩ := hT
    have w0 := m0
    have w1 := m1
    have w2 := m2
    refine c0 _ _ _ ?_
    simp only [b_X12_isBody_0, i_xorg, i_shl, i_shr, i_ior, i_and1, i_lcg1, i_lcg2, i_ld, i_la, i_st, i_sa, i_c, i_inc, i_add, i_sub, i_mul, i_div, i_rem, i_remT, i_xor, i_dup, i_dup2, i_if, i_if2, i_sw, i_gi, i_gr, i_pi, i_pz, i_ial, i_ias, i_len, i_aal, i_gs, i_tal, i_cv, i_cs, i_ir, i_zr, i_vr, i_min, i_max, i_cpy, List.getElem?_cons_zero, List.getElem?_cons_succ, List.set_cons_zero, List.set_cons_succ, List.length_cons, List.length_nil, List.drop_succ_cons, List.drop_zero, List.take_succ_cons, List.take_zero, List.reverse_cons, List.reverse_nil, List.nil_append, List.cons_append, Option.toList_some, Option.toList_none, true_and, and_true, true_or, or_true, Nat.reduceAdd, Nat.reduceLT, Nat.reduceLeDiff, Option.some.injEq, exists_eq_left', Int.toNat_natCast, Nat.reduceSub, List.append_nil, List.replicate_succ, List.replicate_zero, mm_in, w0, w1, w2, t0, t1, T_X12_in]
    repeat' first | refine And.intro ?_ ?_ | refine fun (_ : _ ≤ _ ∧ _ < _) => ?_
    all_goals try omega
    intro z hz
    refine ⟨?_, hP z ?_⟩
    · rcases hz with q | q <;> omega
    · rcases hz with ⟨q1, q2⟩ | ⟨q1, q2⟩
      · rw [q1]; exact bz_1 (by omega)
      · rw [q1]; exact bz_0 (by omega)
  · exact hT.elim
theorem sp_X12_isBody : mm_Sp yX12_isBody cX12_isBody 2 (some .boolean) rm_X12_isBody T_X12_isBody := mm_meth (by decide) (by
  intro av σ Post h
  unfold T_X12_isBody at h
  split at h
  · simp
  · exact h.elim) (fun p l e s m args below meth c G av σ Post hC hr _ hav hin hk hT => pv_X12_isBody av σ Post hav hin hk hT _ (bk_X12_isBody hC hr))
def T_X12_isSide : mm_T := fun av σ Post => match av with
  | [.inl b] => σ.2 = mm_R0 ∧ ∀ z : Int, bz z (0 ≤ b ∧ b < 4) → Post (some (.inl z)) σ
  | _ => False
def rm_X12_isSide : Room := { frames := 1, cells := 0, slots := 0, locals := 22 }
def b_X12_isSide_0 (Ok : Nat → mm_K) (Post : Option mm_V → mm_S → Prop) (kf : Nat) : mm_K := i_ld 0 (i_c 0 (i_c 3 (i_cs 3 T_X12_in (i_zr Post kf))))
def clo_X12_isSide (Ok : Nat → mm_K) (Post : Option mm_V → mm_S → Prop) (kf : Nat) : Prop := mm_imp (b_X12_isSide_0 Ok Post kf) (Ok 0)
set_option maxRecDepth 100000 in
set_option maxHeartbeats 4000000 in
theorem bk_X12_isSide {p : Program} {l : Launch} {e : Env} {s : State} {m : MethodId} {args : Array Value} {below : List Frame} {meth : Method} {c : Code} {G : mm_G} {σ0 : mm_S} {Post : Option mm_V → mm_S → Prop} (hC : mm_C p G s m args meth c cX12_isSide yX12_isSide.cls) (hr : meth.sig.returnType = some .boolean) : clo_X12_isSide (mm_O p l e rm_X12_isSide s m args below meth c G σ0.2.2 (MQ below (mm_Qc G σ0 rm_X12_isSide.cells rm_X12_isSide.slots Post) args s rm_X12_isSide.cells rm_X12_isSide.slots (mm_A G))) Post σ0.2.2 := (by unfold clo_X12_isSide b_X12_isSide_0; exact (mm_ld_n hC dX12_isSide_0 rfl (mm_ic hC dX12_isSide_1 ⟨by decide, by decide⟩ (mm_ic hC dX12_isSide_2 ⟨by decide, by decide⟩ (mm_cs hC sp_X12_in ⟨rfl, rfl⟩ wd_979 wd_980 wd_981 wd_77 ⟨by decide, by decide, by decide +kernel⟩ ⟨by decide, by decide⟩ dX12_isSide_3 (mm_zr hC ⟨rfl, rfl⟩ hr dX12_isSide_6))))))
set_option maxRecDepth 100000 in
set_option maxHeartbeats 8000000 in
theorem pv_X12_isSide : ∀ (av : List mm_V) (σ : mm_S) (Post : Option mm_V → mm_S → Prop), (∀ v ∈ av, mm_iv v) → (∀ a j, mm_in (σ.1 a j)) → σ.2.2 ≤ 348 → T_X12_isSide av σ Post → ∀ Ok : Nat → mm_K, clo_X12_isSide Ok Post σ.2.2 → Ok 0 (av ++ List.replicate (1 - av.length) (.inr none)) [] σ := by
  intro av σ Post hav hin hk hT Ok hcl
  obtain ⟨I, R0⟩ := σ
  unfold T_X12_isSide at hT
  split at hT
  · rename_i b
    obtain ⟨h0, hT⟩ := hT
    have h0 : R0 = mm_R0 := h0
    subst h0
    dsimp only at hT hin
    have c0 := hcl
    unfold clo_X12_isSide at c0
    have hP := hT
    refine c0 _ _ _ ?_
    simp only [b_X12_isSide_0, i_xorg, i_shl, i_shr, i_ior, i_and1, i_lcg1, i_lcg2, i_ld, i_la, i_st, i_sa, i_c, i_inc, i_add, i_sub, i_mul, i_div, i_rem, i_remT, i_xor, i_dup, i_dup2, i_if, i_if2, i_sw, i_gi, i_gr, i_pi, i_pz, i_ial, i_ias, i_len, i_aal, i_gs, i_tal, i_cv, i_cs, i_ir, i_zr, i_vr, i_min, i_max, i_cpy, List.getElem?_cons_zero, List.getElem?_cons_succ, List.set_cons_zero, List.set_cons_succ, List.length_cons, List.length_nil, List.drop_succ_cons, List.drop_zero, List.take_succ_cons, List.take_zero, List.reverse_cons, List.reverse_nil, List.nil_append, List.cons_append, Option.toList_some, Option.toList_none, true_and, and_true, true_or, or_true, Nat.reduceAdd, Nat.reduceLT, Nat.reduceLeDiff, Option.some.injEq, exists_eq_left', Int.toNat_natCast, Nat.reduceSub, List.append_nil, List.replicate_succ, List.replicate_zero, mm_in, T_X12_in]
    intro z hz
    refine ⟨?_, hP z ?_⟩
    · rcases hz with q | q <;> omega
    · rcases hz with ⟨q1, q2⟩ | ⟨q1, q2⟩
      · rw [q1]; exact bz_1 (by omega)
      · rw [q1]; exact bz_0 (by omega)
  · exact hT.elim
theorem sp_X12_isSide : mm_Sp yX12_isSide cX12_isSide 1 (some .boolean) rm_X12_isSide T_X12_isSide := mm_meth (by decide) (by
  intro av σ Post h
  unfold T_X12_isSide at h
  split at h
  · simp
  · exact h.elim) (fun p l e s m args below meth c G av σ Post hC hr _ hav hin hk hT => pv_X12_isSide av σ Post hav hin hk hT _ (bk_X12_isSide hC hr))
def T_X12_isSurface : mm_T := fun av σ Post => match av with
  | [.inr (some a), .inl b] => σ.2 = mm_R0 ∧ a = 338 ∧ (0 ≤ σ.1 339 1 ∧ σ.1 339 1 ≤ 6) ∧ ∀ z : Int, bz z (0 ≤ b ∧ b < σ.1 339 1) → Post (some (.inl z)) σ
  | _ => False
def rm_X12_isSurface : Room := { frames := 1, cells := 0, slots := 0, locals := 22 }
def b_X12_isSurface_0 (Ok : Nat → mm_K) (Post : Option mm_V → mm_S → Prop) (kf : Nat) : mm_K := i_ld 1 (i_c 0 (i_la 0 (i_gr 11 0 (i_c 1 (i_ial (i_c 1 (i_sub (i_cs 3 T_X12_in (i_zr Post kf)))))))))
def clo_X12_isSurface (Ok : Nat → mm_K) (Post : Option mm_V → mm_S → Prop) (kf : Nat) : Prop := mm_imp (b_X12_isSurface_0 Ok Post kf) (Ok 0)
set_option maxRecDepth 100000 in
set_option maxHeartbeats 4000000 in
theorem bk_X12_isSurface {p : Program} {l : Launch} {e : Env} {s : State} {m : MethodId} {args : Array Value} {below : List Frame} {meth : Method} {c : Code} {G : mm_G} {σ0 : mm_S} {Post : Option mm_V → mm_S → Prop} (hC : mm_C p G s m args meth c cX12_isSurface yX12_isSurface.cls) (hr : meth.sig.returnType = some .boolean) : clo_X12_isSurface (mm_O p l e rm_X12_isSurface s m args below meth c G σ0.2.2 (MQ below (mm_Qc G σ0 rm_X12_isSurface.cells rm_X12_isSurface.slots Post) args s rm_X12_isSurface.cells rm_X12_isSurface.slots (mm_A G))) Post σ0.2.2 := (by unfold clo_X12_isSurface b_X12_isSurface_0; exact (mm_ld_n hC dX12_isSurface_0 rfl (mm_ic hC dX12_isSurface_1 ⟨by decide, by decide⟩ (mm_la_n hC dX12_isSurface_2 rfl (mm_gr hC cl_11 (by decide) rfl wd_789 dX12_isSurface_3 (mm_ic hC dX12_isSurface_6 ⟨by decide, by decide⟩ (mm_ial hC dX12_isSurface_7 (mm_ic hC dX12_isSurface_8 ⟨by decide, by decide⟩ (mm_sub hC dX12_isSurface_9 (mm_cs hC sp_X12_in ⟨rfl, rfl⟩ wd_979 wd_980 wd_981 wd_77 ⟨by decide, by decide, by decide +kernel⟩ ⟨by decide, by decide⟩ dX12_isSurface_10 (mm_zr hC ⟨rfl, rfl⟩ hr dX12_isSurface_13)))))))))))
set_option maxRecDepth 100000 in
set_option maxHeartbeats 8000000 in
theorem pv_X12_isSurface : ∀ (av : List mm_V) (σ : mm_S) (Post : Option mm_V → mm_S → Prop), (∀ v ∈ av, mm_iv v) → (∀ a j, mm_in (σ.1 a j)) → σ.2.2 ≤ 348 → T_X12_isSurface av σ Post → ∀ Ok : Nat → mm_K, clo_X12_isSurface Ok Post σ.2.2 → Ok 0 (av ++ List.replicate (2 - av.length) (.inr none)) [] σ := by
  intro av σ Post hav hin hk hT Ok hcl
  obtain ⟨I, R0⟩ := σ
  unfold T_X12_isSurface at hT
  split at hT
  · rename_i a b
    obtain ⟨h0, hT⟩ := hT
    have h0 : R0 = mm_R0 := h0
    subst h0
    dsimp only at hT hin
    have c0 := hcl
    unfold clo_X12_isSurface at c0
    obtain ⟨rfl, h1, hP⟩ := hT
    have w0 := m0
    have w1 := m1
    have w2 := m2
    refine c0 _ _ _ ?_
    simp only [b_X12_isSurface_0, i_xorg, i_shl, i_shr, i_ior, i_and1, i_lcg1, i_lcg2, i_ld, i_la, i_st, i_sa, i_c, i_inc, i_add, i_sub, i_mul, i_div, i_rem, i_remT, i_xor, i_dup, i_dup2, i_if, i_if2, i_sw, i_gi, i_gr, i_pi, i_pz, i_ial, i_ias, i_len, i_aal, i_gs, i_tal, i_cv, i_cs, i_ir, i_zr, i_vr, i_min, i_max, i_cpy, List.getElem?_cons_zero, List.getElem?_cons_succ, List.set_cons_zero, List.set_cons_succ, List.length_cons, List.length_nil, List.drop_succ_cons, List.drop_zero, List.take_succ_cons, List.take_zero, List.reverse_cons, List.reverse_nil, List.nil_append, List.cons_append, Option.toList_some, Option.toList_none, true_and, and_true, true_or, or_true, Nat.reduceAdd, Nat.reduceLT, Nat.reduceLeDiff, Option.some.injEq, exists_eq_left', Int.toNat_natCast, Nat.reduceSub, List.append_nil, List.replicate_succ, List.replicate_zero, mm_in, w0, w1, w2, t0, t1, T_X12_in]
    repeat' first | refine And.intro ?_ ?_ | refine fun (_ : _ ≤ _ ∧ _ < _) => ?_
    all_goals try omega
    intro z hz
    refine ⟨?_, hP z ?_⟩
    · rcases hz with q | q <;> omega
    · rcases hz with ⟨q1, q2⟩ | ⟨q1, q2⟩
      · rw [q1]; exact bz_1 (by omega)
      · rw [q1]; exact bz_0 (by omega)
  · exact hT.elim
theorem sp_X12_isSurface : mm_Sp yX12_isSurface cX12_isSurface 2 (some .boolean) rm_X12_isSurface T_X12_isSurface := mm_meth (by decide) (by
  intro av σ Post h
  unfold T_X12_isSurface at h
  split at h
  · simp
  · exact h.elim) (fun p l e s m args below meth c G av σ Post hC hr _ hav hin hk hT => pv_X12_isSurface av σ Post hav hin hk hT _ (bk_X12_isSurface hC hr))
def T_X12_surfaceAt : mm_T := fun av σ Post => match av with
  | [.inl s] => σ.2 = mm_R0 ∧ 0 ≤ s ∧ s ≤ 6 ∧ Post (some (.inl (26 + 21 * s))) σ
  | _ => False
def rm_X12_surfaceAt : Room := { frames := 0, cells := 0, slots := 0, locals := 0 }
def b_X12_surfaceAt_0 (Ok : Nat → mm_K) (Post : Option mm_V → mm_S → Prop) (kf : Nat) : mm_K := i_c 26 (i_c 21 (i_ld 0 (i_mul (i_add (i_ir Post kf)))))
def clo_X12_surfaceAt (Ok : Nat → mm_K) (Post : Option mm_V → mm_S → Prop) (kf : Nat) : Prop := mm_imp (b_X12_surfaceAt_0 Ok Post kf) (Ok 0)
set_option maxRecDepth 100000 in
set_option maxHeartbeats 4000000 in
theorem bk_X12_surfaceAt {p : Program} {l : Launch} {e : Env} {s : State} {m : MethodId} {args : Array Value} {below : List Frame} {meth : Method} {c : Code} {G : mm_G} {σ0 : mm_S} {Post : Option mm_V → mm_S → Prop} (hC : mm_C p G s m args meth c cX12_surfaceAt yX12_surfaceAt.cls) (hr : meth.sig.returnType = some .int) : clo_X12_surfaceAt (mm_O p l e rm_X12_surfaceAt s m args below meth c G σ0.2.2 (MQ below (mm_Qc G σ0 rm_X12_surfaceAt.cells rm_X12_surfaceAt.slots Post) args s rm_X12_surfaceAt.cells rm_X12_surfaceAt.slots (mm_A G))) Post σ0.2.2 := (by unfold clo_X12_surfaceAt b_X12_surfaceAt_0; exact (mm_bp hC dX12_surfaceAt_0 ⟨⟨by decide, by decide⟩, by decide⟩ (mm_bp hC dX12_surfaceAt_2 ⟨⟨by decide, by decide⟩, by decide⟩ (mm_ld_n hC dX12_surfaceAt_4 rfl (mm_mul hC dX12_surfaceAt_5 (mm_add hC dX12_surfaceAt_6 (mm_ir hC ⟨rfl, rfl⟩ hr dX12_surfaceAt_7)))))))
set_option maxRecDepth 100000 in
set_option maxHeartbeats 8000000 in
theorem pv_X12_surfaceAt : ∀ (av : List mm_V) (σ : mm_S) (Post : Option mm_V → mm_S → Prop), (∀ v ∈ av, mm_iv v) → (∀ a j, mm_in (σ.1 a j)) → σ.2.2 ≤ 348 → T_X12_surfaceAt av σ Post → ∀ Ok : Nat → mm_K, clo_X12_surfaceAt Ok Post σ.2.2 → Ok 0 (av ++ List.replicate (1 - av.length) (.inr none)) [] σ := by
  intro av σ Post hav hin hk hT Ok hcl
  obtain ⟨I, R0⟩ := σ
  unfold T_X12_surfaceAt at hT
  split at hT
  · rename_i s
    obtain ⟨h0, hT⟩ := hT
    have h0 : R0 = mm_R0 := h0
    subst h0
    dsimp only at hT hin
    have c0 := hcl
    unfold clo_X12_surfaceAt at c0
    obtain ⟨h1, h2, hP⟩ := hT
    refine c0 _ _ _ ?_
    simp only [b_X12_surfaceAt_0, i_xorg, i_shl, i_shr, i_ior, i_and1, i_lcg1, i_lcg2, i_ld, i_la, i_st, i_sa, i_c, i_inc, i_add, i_sub, i_mul, i_div, i_rem, i_remT, i_xor, i_dup, i_dup2, i_if, i_if2, i_sw, i_gi, i_gr, i_pi, i_pz, i_ial, i_ias, i_len, i_aal, i_gs, i_tal, i_cv, i_cs, i_ir, i_zr, i_vr, i_min, i_max, i_cpy, List.getElem?_cons_zero, List.getElem?_cons_succ, List.set_cons_zero, List.set_cons_succ, List.length_cons, List.length_nil, List.drop_succ_cons, List.drop_zero, List.take_succ_cons, List.take_zero, List.reverse_cons, List.reverse_nil, List.nil_append, List.cons_append, Option.toList_some, Option.toList_none, true_and, and_true, true_or, or_true, Nat.reduceAdd, Nat.reduceLT, Nat.reduceLeDiff, Option.some.injEq, exists_eq_left', Int.toNat_natCast, Nat.reduceSub, List.append_nil, List.replicate_succ, List.replicate_zero, mm_in,]
    exact ⟨⟨by omega, by omega⟩, ⟨by omega, by omega⟩, hP⟩
  · exact hT.elim
theorem sp_X12_surfaceAt : mm_Sp yX12_surfaceAt cX12_surfaceAt 1 (some .int) rm_X12_surfaceAt T_X12_surfaceAt := mm_meth (by decide) (by
  intro av σ Post h
  unfold T_X12_surfaceAt at h
  split at h
  · simp
  · exact h.elim) (fun p l e s m args below meth c G av σ Post hC hr _ hav hin hk hT => pv_X12_surfaceAt av σ Post hav hin hk hT _ (bk_X12_surfaceAt hC hr))
theorem pl_tab : ∀ k, k < 6 → ∀ v : Int, ((k = 0 ∧ v = 12) ∨ (k = 1 ∧ v = 21) ∨ (k = 2 ∧ v = 102) ∨ (k = 3 ∧ v = 120) ∨ (k = 4 ∧ v = 201) ∨ (k = 5 ∧ v = 210)) → v / 100 = mm_tb 0 (3 * k + 0) ∧ v / 10 % 10 = mm_tb 0 (3 * k + 1) ∧ v % 10 = mm_tb 0 (3 * k + 2) ∧ 0 ≤ v ∧ v ≤ 210 := by
  intro k hk v h
  rcases h with ⟨rfl, rfl⟩ | ⟨rfl, rfl⟩ | ⟨rfl, rfl⟩ | ⟨rfl, rfl⟩ | ⟨rfl, rfl⟩ | ⟨rfl, rfl⟩ <;> decide +kernel
def T_X12_place : mm_T := fun av σ Post => match av with
  | [.inl x, .inl y] => σ.2 = mm_R0 ∧ ∃ k i : Nat, x = k ∧ y = i ∧ k < 6 ∧ i < 3 ∧ Post (some (.inl (mm_tb 0 (3 * k + i)))) σ
  | _ => False
def rm_X12_place : Room := { frames := 0, cells := 0, slots := 0, locals := 0 }
def b_X12_place_0 (Ok : Nat → mm_K) (Post : Option mm_V → mm_S → Prop) (kf : Nat) : mm_K := i_ld 0 (i_if (fun x => ¬ x = 0) (i_ld 0 (i_c 1 (i_if2 (fun x y => ¬ x = y) (i_ld 0 (i_c 2 (i_if2 (fun x y => ¬ x = y) (i_ld 0 (i_c 3 (i_if2 (fun x y => ¬ x = y) (i_ld 0 (i_c 4 (i_if2 (fun x y => ¬ x = y) (i_c 210 (Ok 53)) (i_c 201 (Ok 53))))) (i_c 120 (Ok 53))))) (i_c 102 (Ok 53))))) (i_c 21 (Ok 53))))) (i_c 12 (Ok 53)))
def b_X12_place_53 (Ok : Nat → mm_K) (Post : Option mm_V → mm_S → Prop) (kf : Nat) : mm_K := i_st 2 (i_ld 1 (i_if (fun x => ¬ x = 0) (i_ld 1 (i_c 1 (i_if2 (fun x y => ¬ x = y) (i_ld 2 (i_c 10 (i_rem (Ok 84)))) (i_ld 2 (i_c 10 (i_div (i_c 10 (i_rem (Ok 84))))))))) (i_ld 2 (i_c 100 (i_div (Ok 84))))))
def b_X12_place_84 (Ok : Nat → mm_K) (Post : Option mm_V → mm_S → Prop) (kf : Nat) : mm_K := i_ir Post kf
def clo_X12_place (Ok : Nat → mm_K) (Post : Option mm_V → mm_S → Prop) (kf : Nat) : Prop := mm_imp (b_X12_place_0 Ok Post kf) (Ok 0) ∧ mm_imp (b_X12_place_53 Ok Post kf) (Ok 53) ∧ mm_imp (b_X12_place_84 Ok Post kf) (Ok 84)
set_option maxRecDepth 100000 in
set_option maxHeartbeats 4000000 in
theorem bk_X12_place {p : Program} {l : Launch} {e : Env} {s : State} {m : MethodId} {args : Array Value} {below : List Frame} {meth : Method} {c : Code} {G : mm_G} {σ0 : mm_S} {Post : Option mm_V → mm_S → Prop} (hC : mm_C p G s m args meth c cX12_place yX12_place.cls) (hr : meth.sig.returnType = some .int) : clo_X12_place (mm_O p l e rm_X12_place s m args below meth c G σ0.2.2 (MQ below (mm_Qc G σ0 rm_X12_place.cells rm_X12_place.slots Post) args s rm_X12_place.cells rm_X12_place.slots (mm_A G))) Post σ0.2.2 := ⟨(by unfold b_X12_place_0; exact (mm_ld_n hC dX12_place_0 rfl (mm_if_ne hC (t := 9) dX12_place_1 (by decide) (mm_ld_n hC dX12_place_9 rfl (mm_ic hC dX12_place_10 ⟨by decide, by decide⟩ (mm_ic_ne hC (t := 19) dX12_place_11 (by decide) (mm_ld_n hC dX12_place_19 rfl (mm_ic hC dX12_place_20 ⟨by decide, by decide⟩ (mm_ic_ne hC (t := 29) dX12_place_21 (by decide) (mm_ld_n hC dX12_place_29 rfl (mm_ic hC dX12_place_30 ⟨by decide, by decide⟩ (mm_ic_ne hC (t := 39) dX12_place_31 (by decide) (mm_ld_n hC dX12_place_39 rfl (mm_ic hC dX12_place_40 ⟨by decide, by decide⟩ (mm_ic_ne hC (t := 50) dX12_place_41 (by decide) (mm_sp hC dX12_place_50 ⟨⟨by decide, by decide⟩, by decide⟩ (fun _ _ _ h => h)) (mm_sp hC dX12_place_44 ⟨⟨by decide, by decide⟩, by decide⟩ (mm_goto hC (t := 53) dX12_place_47 (by decide) (fun _ _ _ h => h)))))) (mm_bp hC dX12_place_34 ⟨⟨by decide, by decide⟩, by decide⟩ (mm_goto hC (t := 53) dX12_place_36 (by decide) (fun _ _ _ h => h)))))) (mm_bp hC dX12_place_24 ⟨⟨by decide, by decide⟩, by decide⟩ (mm_goto hC (t := 53) dX12_place_26 (by decide) (fun _ _ _ h => h)))))) (mm_bp hC dX12_place_14 ⟨⟨by decide, by decide⟩, by decide⟩ (mm_goto hC (t := 53) dX12_place_16 (by decide) (fun _ _ _ h => h)))))) (mm_bp hC dX12_place_4 ⟨⟨by decide, by decide⟩, by decide⟩ (mm_goto hC (t := 53) dX12_place_6 (by decide) (fun _ _ _ h => h)))))), (by unfold b_X12_place_53; exact (mm_st_n hC dX12_place_53 rfl (mm_ld_n hC dX12_place_54 rfl (mm_if_ne hC (t := 65) dX12_place_55 (by decide) (mm_ld_n hC dX12_place_65 rfl (mm_ic hC dX12_place_66 ⟨by decide, by decide⟩ (mm_ic_ne hC (t := 80) dX12_place_67 (by decide) (mm_ld_n hC dX12_place_80 rfl (mm_bp hC dX12_place_81 ⟨⟨by decide, by decide⟩, by decide⟩ (mm_rem hC dX12_place_83 (fun _ _ _ h => h)))) (mm_ld_n hC dX12_place_70 rfl (mm_bp hC dX12_place_71 ⟨⟨by decide, by decide⟩, by decide⟩ (mm_div hC dX12_place_73 (mm_bp hC dX12_place_74 ⟨⟨by decide, by decide⟩, by decide⟩ (mm_rem hC dX12_place_76 (mm_goto hC (t := 84) dX12_place_77 (by decide) (fun _ _ _ h => h)))))))))) (mm_ld_n hC dX12_place_58 rfl (mm_bp hC dX12_place_59 ⟨⟨by decide, by decide⟩, by decide⟩ (mm_div hC dX12_place_61 (mm_goto hC (t := 84) dX12_place_62 (by decide) (fun _ _ _ h => h))))))))), (by unfold b_X12_place_84; exact (mm_ir hC ⟨rfl, rfl⟩ hr dX12_place_84))⟩
set_option maxRecDepth 100000 in
set_option maxHeartbeats 8000000 in
theorem pv_X12_place : ∀ (av : List mm_V) (σ : mm_S) (Post : Option mm_V → mm_S → Prop), (∀ v ∈ av, mm_iv v) → (∀ a j, mm_in (σ.1 a j)) → σ.2.2 ≤ 348 → T_X12_place av σ Post → ∀ Ok : Nat → mm_K, clo_X12_place Ok Post σ.2.2 → Ok 0 (av ++ List.replicate (3 - av.length) (.inr none)) [] σ := by
  intro av σ Post hav hin hk hT Ok hcl
  obtain ⟨I, R0⟩ := σ
  unfold T_X12_place at hT
  split at hT
  · rename_i x y
    obtain ⟨h0, hT⟩ := hT
    have h0 : R0 = mm_R0 := h0
    subst h0
    dsimp only at hT hin
    obtain ⟨c0, c53, c84⟩ := hcl
    obtain ⟨k, i, rfl, rfl, hk, hi, hP⟩ := hT
    have fin : ∀ (u : mm_V) (v : Int), ((k = 0 ∧ v = 12) ∨ (k = 1 ∧ v = 21) ∨ (k = 2 ∧ v = 102) ∨ (k = 3 ∧ v = 120) ∨ (k = 4 ∧ v = 201) ∨ (k = 5 ∧ v = 210)) → Ok 53 [.inl (k : Int), .inl (i : Int), u] [.inl v] (I, mm_R0) := by
      intro u v hv
      obtain ⟨e1, e2, e3, v0, v1⟩ := pl_tab k hk v hv
      have f84 : ∀ w : Int, w = mm_tb 0 (3 * k + i) → Ok 84 [.inl (k : Int), .inl (i : Int), .inl v] [.inl w] (I, mm_R0) := by
        intro w hw
        refine c84 _ _ _ ?_
        simp only [b_X12_place_84, i_xorg, i_shl, i_shr, i_ior, i_and1, i_lcg1, i_lcg2, i_ld, i_la, i_st, i_sa, i_c, i_inc, i_add, i_sub, i_mul, i_div, i_rem, i_remT, i_xor, i_dup, i_dup2, i_if, i_if2, i_sw, i_gi, i_gr, i_pi, i_pz, i_ial, i_ias, i_len, i_aal, i_gs, i_tal, i_cv, i_cs, i_ir, i_zr, i_vr, i_min, i_max, i_cpy, List.getElem?_cons_zero, List.getElem?_cons_succ, List.set_cons_zero, List.set_cons_succ, List.length_cons, List.length_nil, List.drop_succ_cons, List.drop_zero, List.take_succ_cons, List.take_zero, List.reverse_cons, List.reverse_nil, List.nil_append, List.cons_append, Option.toList_some, Option.toList_none, true_and, and_true, true_or, or_true, Nat.reduceAdd, Nat.reduceLT, Nat.reduceLeDiff, Option.some.injEq, exists_eq_left', Int.toNat_natCast, Nat.reduceSub, List.append_nil, List.replicate_succ, List.replicate_zero]
        rw [hw]
        exact hP
      refine c53 _ _ _ ?_
      simp only [b_X12_place_53, i_xorg, i_shl, i_shr, i_ior, i_and1, i_lcg1, i_lcg2, i_ld, i_la, i_st, i_sa, i_c, i_inc, i_add, i_sub, i_mul, i_div, i_rem, i_remT, i_xor, i_dup, i_dup2, i_if, i_if2, i_sw, i_gi, i_gr, i_pi, i_pz, i_ial, i_ias, i_len, i_aal, i_gs, i_tal, i_cv, i_cs, i_ir, i_zr, i_vr, i_min, i_max, i_cpy, List.getElem?_cons_zero, List.getElem?_cons_succ, List.set_cons_zero, List.set_cons_succ, List.length_cons, List.length_nil, List.drop_succ_cons, List.drop_zero, List.take_succ_cons, List.take_zero, List.reverse_cons, List.reverse_nil, List.nil_append, List.cons_append, Option.toList_some, Option.toList_none, true_and, and_true, true_or, or_true, Nat.reduceAdd, Nat.reduceLT, Nat.reduceLeDiff, Option.some.injEq, exists_eq_left', Int.toNat_natCast, Nat.reduceSub, List.append_nil, List.replicate_succ, List.replicate_zero, mm_in,]
      repeat' first | refine And.intro ?_ ?_ | intro _
      all_goals try omega
      · exact f84 _ (by rw [e3, show i = 2 by omega])
      · exact f84 _ (by rw [e2, show i = 1 by omega])
      · exact f84 _ (by rw [e1, show i = 0 by omega])
    refine c0 _ _ _ ?_
    simp only [b_X12_place_0, i_xorg, i_shl, i_shr, i_ior, i_and1, i_lcg1, i_lcg2, i_ld, i_la, i_st, i_sa, i_c, i_inc, i_add, i_sub, i_mul, i_div, i_rem, i_remT, i_xor, i_dup, i_dup2, i_if, i_if2, i_sw, i_gi, i_gr, i_pi, i_pz, i_ial, i_ias, i_len, i_aal, i_gs, i_tal, i_cv, i_cs, i_ir, i_zr, i_vr, i_min, i_max, i_cpy, List.getElem?_cons_zero, List.getElem?_cons_succ, List.set_cons_zero, List.set_cons_succ, List.length_cons, List.length_nil, List.drop_succ_cons, List.drop_zero, List.take_succ_cons, List.take_zero, List.reverse_cons, List.reverse_nil, List.nil_append, List.cons_append, Option.toList_some, Option.toList_none, true_and, and_true, true_or, or_true, Nat.reduceAdd, Nat.reduceLT, Nat.reduceLeDiff, Option.some.injEq, exists_eq_left', Int.toNat_natCast, Nat.reduceSub, List.append_nil, List.replicate_succ, List.replicate_zero, mm_in,]
    repeat' first | refine And.intro ?_ ?_ | intro _
    all_goals try omega
    all_goals exact fin _ _ (by omega)
  · exact hT.elim
theorem sp_X12_place : mm_Sp yX12_place cX12_place 3 (some .int) rm_X12_place T_X12_place := mm_meth (by decide) (by
  intro av σ Post h
  unfold T_X12_place at h
  split at h
  · simp
  · exact h.elim) (fun p l e s m args below meth c G av σ Post hC hr _ hav hin hk hT => pv_X12_place av σ Post hav hin hk hT _ (bk_X12_place hC hr))
theorem tb_1 : ∀ k, k < 6 → mm_tb 1 k = if k = 3 then 4 else if k = 4 then 3 else (k : Int) := by decide +kernel
def T_X12_turnedBack : mm_T := fun av σ Post => match av with
  | [.inl x] => σ.2 = mm_R0 ∧ ∃ k : Nat, x = k ∧ k < 6 ∧ Post (some (.inl (mm_tb 1 k))) σ
  | _ => False
def rm_X12_turnedBack : Room := { frames := 0, cells := 0, slots := 0, locals := 0 }
def b_X12_turnedBack_0 (Ok : Nat → mm_K) (Post : Option mm_V → mm_S → Prop) (kf : Nat) : mm_K := i_ld 0 (i_c 3 (i_if2 (fun x y => ¬ x = y) (i_ld 0 (i_c 4 (i_if2 (fun x y => ¬ x = y) (i_ld 0 (Ok 19)) (i_c 3 (Ok 19))))) (i_c 4 (Ok 19))))
def b_X12_turnedBack_19 (Ok : Nat → mm_K) (Post : Option mm_V → mm_S → Prop) (kf : Nat) : mm_K := i_ir Post kf
def clo_X12_turnedBack (Ok : Nat → mm_K) (Post : Option mm_V → mm_S → Prop) (kf : Nat) : Prop := mm_imp (b_X12_turnedBack_0 Ok Post kf) (Ok 0) ∧ mm_imp (b_X12_turnedBack_19 Ok Post kf) (Ok 19)
set_option maxRecDepth 100000 in
set_option maxHeartbeats 4000000 in
theorem bk_X12_turnedBack {p : Program} {l : Launch} {e : Env} {s : State} {m : MethodId} {args : Array Value} {below : List Frame} {meth : Method} {c : Code} {G : mm_G} {σ0 : mm_S} {Post : Option mm_V → mm_S → Prop} (hC : mm_C p G s m args meth c cX12_turnedBack yX12_turnedBack.cls) (hr : meth.sig.returnType = some .int) : clo_X12_turnedBack (mm_O p l e rm_X12_turnedBack s m args below meth c G σ0.2.2 (MQ below (mm_Qc G σ0 rm_X12_turnedBack.cells rm_X12_turnedBack.slots Post) args s rm_X12_turnedBack.cells rm_X12_turnedBack.slots (mm_A G))) Post σ0.2.2 := ⟨(by unfold b_X12_turnedBack_0; exact (mm_ld_n hC dX12_turnedBack_0 rfl (mm_ic hC dX12_turnedBack_1 ⟨by decide, by decide⟩ (mm_ic_ne hC (t := 9) dX12_turnedBack_2 (by decide) (mm_ld_n hC dX12_turnedBack_9 rfl (mm_ic hC dX12_turnedBack_10 ⟨by decide, by decide⟩ (mm_ic_ne hC (t := 18) dX12_turnedBack_11 (by decide) (mm_ld_n hC dX12_turnedBack_18 rfl (fun _ _ _ h => h)) (mm_ic hC dX12_turnedBack_14 ⟨by decide, by decide⟩ (mm_goto hC (t := 19) dX12_turnedBack_15 (by decide) (fun _ _ _ h => h)))))) (mm_ic hC dX12_turnedBack_5 ⟨by decide, by decide⟩ (mm_goto hC (t := 19) dX12_turnedBack_6 (by decide) (fun _ _ _ h => h))))))), (by unfold b_X12_turnedBack_19; exact (mm_ir hC ⟨rfl, rfl⟩ hr dX12_turnedBack_19))⟩
set_option maxRecDepth 100000 in
set_option maxHeartbeats 8000000 in
theorem pv_X12_turnedBack : ∀ (av : List mm_V) (σ : mm_S) (Post : Option mm_V → mm_S → Prop), (∀ v ∈ av, mm_iv v) → (∀ a j, mm_in (σ.1 a j)) → σ.2.2 ≤ 348 → T_X12_turnedBack av σ Post → ∀ Ok : Nat → mm_K, clo_X12_turnedBack Ok Post σ.2.2 → Ok 0 (av ++ List.replicate (1 - av.length) (.inr none)) [] σ := by
  intro av σ Post hav hin hk hT Ok hcl
  obtain ⟨I, R0⟩ := σ
  unfold T_X12_turnedBack at hT
  split at hT
  · rename_i x
    obtain ⟨h0, hT⟩ := hT
    have h0 : R0 = mm_R0 := h0
    subst h0
    dsimp only at hT hin
    obtain ⟨c0, c19⟩ := hcl
    obtain ⟨k, rfl, hk, hP⟩ := hT
    rw [tb_1 k hk] at hP
    have fin : ∀ v : Int, v = (if k = 3 then 4 else if k = 4 then 3 else (k : Int)) → Ok 19 [.inl (k : Int)] [.inl v] (I, mm_R0) := by
      intro v hv
      refine c19 _ _ _ ?_
      simp only [b_X12_turnedBack_19, i_xorg, i_shl, i_shr, i_ior, i_and1, i_lcg1, i_lcg2, i_ld, i_la, i_st, i_sa, i_c, i_inc, i_add, i_sub, i_mul, i_div, i_rem, i_remT, i_xor, i_dup, i_dup2, i_if, i_if2, i_sw, i_gi, i_gr, i_pi, i_pz, i_ial, i_ias, i_len, i_aal, i_gs, i_tal, i_cv, i_cs, i_ir, i_zr, i_vr, i_min, i_max, i_cpy, List.getElem?_cons_zero, List.getElem?_cons_succ, List.set_cons_zero, List.set_cons_succ, List.length_cons, List.length_nil, List.drop_succ_cons, List.drop_zero, List.take_succ_cons, List.take_zero, List.reverse_cons, List.reverse_nil, List.nil_append, List.cons_append, Option.toList_some, Option.toList_none, true_and, and_true, true_or, or_true, Nat.reduceAdd, Nat.reduceLT, Nat.reduceLeDiff, Option.some.injEq, exists_eq_left', Int.toNat_natCast, Nat.reduceSub, List.append_nil, List.replicate_succ, List.replicate_zero]
      rw [hv]
      exact hP
    refine c0 _ _ _ ?_
    simp only [b_X12_turnedBack_0, i_xorg, i_shl, i_shr, i_ior, i_and1, i_lcg1, i_lcg2, i_ld, i_la, i_st, i_sa, i_c, i_inc, i_add, i_sub, i_mul, i_div, i_rem, i_remT, i_xor, i_dup, i_dup2, i_if, i_if2, i_sw, i_gi, i_gr, i_pi, i_pz, i_ial, i_ias, i_len, i_aal, i_gs, i_tal, i_cv, i_cs, i_ir, i_zr, i_vr, i_min, i_max, i_cpy, List.getElem?_cons_zero, List.getElem?_cons_succ, List.set_cons_zero, List.set_cons_succ, List.length_cons, List.length_nil, List.drop_succ_cons, List.drop_zero, List.take_succ_cons, List.take_zero, List.reverse_cons, List.reverse_nil, List.nil_append, List.cons_append, Option.toList_some, Option.toList_none, true_and, and_true, true_or, or_true, Nat.reduceAdd, Nat.reduceLT, Nat.reduceLeDiff, Option.some.injEq, exists_eq_left', Int.toNat_natCast, Nat.reduceSub, List.append_nil, List.replicate_succ, List.replicate_zero, mm_in,]
    repeat' first | refine And.intro ?_ ?_ | intro _
    all_goals try omega
    · exact fin _ (by rw [if_neg (by omega), if_neg (by omega)])
    · exact fin _ (by rw [if_neg (by omega), if_pos (by omega)])
    · exact fin _ (by rw [if_pos (by omega)])
  · exact hT.elim
theorem sp_X12_turnedBack : mm_Sp yX12_turnedBack cX12_turnedBack 1 (some .int) rm_X12_turnedBack T_X12_turnedBack := mm_meth (by decide) (by
  intro av σ Post h
  unfold T_X12_turnedBack at h
  split at h
  · simp
  · exact h.elim) (fun p l e s m args below meth c G av σ Post hC hr _ hav hin hk hT => pv_X12_turnedBack av σ Post hav hin hk hT _ (bk_X12_turnedBack hC hr))
def T_X12_isFree : mm_T := fun av σ Post => match av with
  | [.inr (some a), .inl x] => σ.2 = mm_R0 ∧ a = 338 ∧ ∃ j : Nat, x = j ∧ j < 12 ∧ ∀ z : Int, bz z (σ.1 339 (2 + j) = -1) → Post (some (.inl z)) σ
  | _ => False
def rm_X12_isFree : Room := { frames := 0, cells := 0, slots := 0, locals := 0 }
def b_X12_isFree_0 (Ok : Nat → mm_K) (Post : Option mm_V → mm_S → Prop) (kf : Nat) : mm_K := i_la 0 (i_gr 11 0 (i_c 2 (i_ld 1 (i_add (i_ial (i_c (-1) (i_if2 (fun x y => ¬ x = y) (i_c 0 (Ok 17)) (i_c 1 (Ok 17)))))))))
def b_X12_isFree_17 (Ok : Nat → mm_K) (Post : Option mm_V → mm_S → Prop) (kf : Nat) : mm_K := i_zr Post kf
def clo_X12_isFree (Ok : Nat → mm_K) (Post : Option mm_V → mm_S → Prop) (kf : Nat) : Prop := mm_imp (b_X12_isFree_0 Ok Post kf) (Ok 0) ∧ mm_imp (b_X12_isFree_17 Ok Post kf) (Ok 17)
set_option maxRecDepth 100000 in
set_option maxHeartbeats 4000000 in
theorem bk_X12_isFree {p : Program} {l : Launch} {e : Env} {s : State} {m : MethodId} {args : Array Value} {below : List Frame} {meth : Method} {c : Code} {G : mm_G} {σ0 : mm_S} {Post : Option mm_V → mm_S → Prop} (hC : mm_C p G s m args meth c cX12_isFree yX12_isFree.cls) (hr : meth.sig.returnType = some .boolean) : clo_X12_isFree (mm_O p l e rm_X12_isFree s m args below meth c G σ0.2.2 (MQ below (mm_Qc G σ0 rm_X12_isFree.cells rm_X12_isFree.slots Post) args s rm_X12_isFree.cells rm_X12_isFree.slots (mm_A G))) Post σ0.2.2 := ⟨(by unfold b_X12_isFree_0; exact (mm_la_n hC dX12_isFree_0 rfl (mm_gr hC cl_11 (by decide) rfl wd_789 dX12_isFree_1 (mm_ic hC dX12_isFree_4 ⟨by decide, by decide⟩ (mm_ld_n hC dX12_isFree_5 rfl (mm_add hC dX12_isFree_6 (mm_ial hC dX12_isFree_7 (mm_ic hC dX12_isFree_8 ⟨by decide, by decide⟩ (mm_ic_ne hC (t := 16) dX12_isFree_9 (by decide) (mm_ic hC dX12_isFree_16 ⟨by decide, by decide⟩ (fun _ _ _ h => h)) (mm_ic hC dX12_isFree_12 ⟨by decide, by decide⟩ (mm_goto hC (t := 17) dX12_isFree_13 (by decide) (fun _ _ _ h => h)))))))))))), (by unfold b_X12_isFree_17; exact (mm_zr hC ⟨rfl, rfl⟩ hr dX12_isFree_17))⟩
set_option maxRecDepth 100000 in
set_option maxHeartbeats 8000000 in
theorem pv_X12_isFree : ∀ (av : List mm_V) (σ : mm_S) (Post : Option mm_V → mm_S → Prop), (∀ v ∈ av, mm_iv v) → (∀ a j, mm_in (σ.1 a j)) → σ.2.2 ≤ 348 → T_X12_isFree av σ Post → ∀ Ok : Nat → mm_K, clo_X12_isFree Ok Post σ.2.2 → Ok 0 (av ++ List.replicate (2 - av.length) (.inr none)) [] σ := by
  intro av σ Post hav hin hk hT Ok hcl
  obtain ⟨I, R0⟩ := σ
  unfold T_X12_isFree at hT
  split at hT
  · rename_i a x
    obtain ⟨h0, hT⟩ := hT
    have h0 : R0 = mm_R0 := h0
    subst h0
    dsimp only at hT hin
    obtain ⟨c0, c17⟩ := hcl
    obtain ⟨rfl, j, rfl, hj, hP⟩ := hT
    have w0 := m0
    have w1 := m1
    have w2 := m2
    refine c0 _ _ _ ?_
    simp only [b_X12_isFree_0, i_xorg, i_shl, i_shr, i_ior, i_and1, i_lcg1, i_lcg2, i_ld, i_la, i_st, i_sa, i_c, i_inc, i_add, i_sub, i_mul, i_div, i_rem, i_remT, i_xor, i_dup, i_dup2, i_if, i_if2, i_sw, i_gi, i_gr, i_pi, i_pz, i_ial, i_ias, i_len, i_aal, i_gs, i_tal, i_cv, i_cs, i_ir, i_zr, i_vr, i_min, i_max, i_cpy, List.getElem?_cons_zero, List.getElem?_cons_succ, List.set_cons_zero, List.set_cons_succ, List.length_cons, List.length_nil, List.drop_succ_cons, List.drop_zero, List.take_succ_cons, List.take_zero, List.reverse_cons, List.reverse_nil, List.nil_append, List.cons_append, Option.toList_some, Option.toList_none, true_and, and_true, true_or, or_true, Nat.reduceAdd, Nat.reduceLT, Nat.reduceLeDiff, Option.some.injEq, exists_eq_left', Int.toNat_natCast, Nat.reduceSub, List.append_nil, List.replicate_succ, List.replicate_zero, mm_in, w0, w1, w2, t2]
    repeat' first | refine And.intro ?_ ?_ | refine fun (_ : _ ≤ _ ∧ _ < _) => ?_
    all_goals try omega
    · intro h
      refine c17 _ _ _ ?_
      simp only [b_X12_isFree_17, i_xorg, i_shl, i_shr, i_ior, i_and1, i_lcg1, i_lcg2, i_ld, i_la, i_st, i_sa, i_c, i_inc, i_add, i_sub, i_mul, i_div, i_rem, i_remT, i_xor, i_dup, i_dup2, i_if, i_if2, i_sw, i_gi, i_gr, i_pi, i_pz, i_ial, i_ias, i_len, i_aal, i_gs, i_tal, i_cv, i_cs, i_ir, i_zr, i_vr, i_min, i_max, i_cpy, List.getElem?_cons_zero, List.getElem?_cons_succ, List.set_cons_zero, List.set_cons_succ, List.length_cons, List.length_nil, List.drop_succ_cons, List.drop_zero, List.take_succ_cons, List.take_zero, List.reverse_cons, List.reverse_nil, List.nil_append, List.cons_append, Option.toList_some, Option.toList_none, true_and, and_true, true_or, or_true, Nat.reduceAdd, Nat.reduceLT, Nat.reduceLeDiff, Option.some.injEq, exists_eq_left', Int.toNat_natCast, Nat.reduceSub, List.append_nil, List.replicate_succ, List.replicate_zero]
      exact hP 0 (bz_0 h)
    · intro h
      refine c17 _ _ _ ?_
      simp only [b_X12_isFree_17, i_xorg, i_shl, i_shr, i_ior, i_and1, i_lcg1, i_lcg2, i_ld, i_la, i_st, i_sa, i_c, i_inc, i_add, i_sub, i_mul, i_div, i_rem, i_remT, i_xor, i_dup, i_dup2, i_if, i_if2, i_sw, i_gi, i_gr, i_pi, i_pz, i_ial, i_ias, i_len, i_aal, i_gs, i_tal, i_cv, i_cs, i_ir, i_zr, i_vr, i_min, i_max, i_cpy, List.getElem?_cons_zero, List.getElem?_cons_succ, List.set_cons_zero, List.set_cons_succ, List.length_cons, List.length_nil, List.drop_succ_cons, List.drop_zero, List.take_succ_cons, List.take_zero, List.reverse_cons, List.reverse_nil, List.nil_append, List.cons_append, Option.toList_some, Option.toList_none, true_and, and_true, true_or, or_true, Nat.reduceAdd, Nat.reduceLT, Nat.reduceLeDiff, Option.some.injEq, exists_eq_left', Int.toNat_natCast, Nat.reduceSub, List.append_nil, List.replicate_succ, List.replicate_zero]
      exact hP 1 (bz_1 (by omega))
  · exact hT.elim
theorem sp_X12_isFree : mm_Sp yX12_isFree cX12_isFree 2 (some .boolean) rm_X12_isFree T_X12_isFree := mm_meth (by decide) (by
  intro av σ Post h
  unfold T_X12_isFree at h
  split at h
  · simp
  · exact h.elim) (fun p l e s m args below meth c G av σ Post hC hr _ hav hin hk hT => pv_X12_isFree av σ Post hav hin hk hT _ (bk_X12_isFree hC hr))
def T_X12_goesTo : mm_T := fun av σ Post => match av with
  | [.inr (some a), .inl x, .inl y] => σ.2 = mm_R0 ∧ a = 338 ∧ ∃ f v o k : Nat, x = f ∧ y = v ∧ f < 12 ∧ v < 4 ∧ v ≠ f % 4 ∧ σ.1 339 (2 + f) = o ∧ o < 12 ∧ σ.1 339 (14 + f) = k ∧ k < 6 ∧ Post (some (.inl (acN o k f v))) σ
  | _ => False
def rm_X12_goesTo : Room := { frames := 1, cells := 0, slots := 0, locals := 22 }
def b_X12_goesTo_0 (Ok : Nat → mm_K) (Post : Option mm_V → mm_S → Prop) (kf : Nat) : mm_K := i_ld 1 (i_c 4 (i_rem (i_st 3 (i_la 0 (i_gr 11 0 (i_c 2 (i_ld 1 (i_add (i_ial (i_st 4 (i_ld 4 (i_c 4 (i_rem (i_st 5 (i_la 0 (i_gr 11 0 (i_c 14 (i_ld 1 (i_add (i_ial (i_ld 2 (i_ld 3 (i_if2 (fun x y => x ≤ y) (i_ld 2 (Ok 41)) (i_ld 2 (i_c 1 (i_sub (Ok 41)))))))))))))))))))))))))))
def b_X12_goesTo_41 (Ok : Nat → mm_K) (Post : Option mm_V → mm_S → Prop) (kf : Nat) : mm_K := i_cs 2 T_X12_place (i_st 6 (i_c 4 (i_ld 4 (i_c 4 (i_div (i_mul (i_ld 6 (i_ld 5 (i_if2 (fun x y => x < y) (i_ld 6 (Ok 68)) (i_ld 6 (i_c 1 (i_add (Ok 68)))))))))))))
def b_X12_goesTo_68 (Ok : Nat → mm_K) (Post : Option mm_V → mm_S → Prop) (kf : Nat) : mm_K := i_add (i_ir Post kf)
def clo_X12_goesTo (Ok : Nat → mm_K) (Post : Option mm_V → mm_S → Prop) (kf : Nat) : Prop := mm_imp (b_X12_goesTo_0 Ok Post kf) (Ok 0) ∧ mm_imp (b_X12_goesTo_41 Ok Post kf) (Ok 41) ∧ mm_imp (b_X12_goesTo_68 Ok Post kf) (Ok 68)
set_option maxRecDepth 100000 in
set_option maxHeartbeats 4000000 in
theorem bk_X12_goesTo {p : Program} {l : Launch} {e : Env} {s : State} {m : MethodId} {args : Array Value} {below : List Frame} {meth : Method} {c : Code} {G : mm_G} {σ0 : mm_S} {Post : Option mm_V → mm_S → Prop} (hC : mm_C p G s m args meth c cX12_goesTo yX12_goesTo.cls) (hr : meth.sig.returnType = some .int) : clo_X12_goesTo (mm_O p l e rm_X12_goesTo s m args below meth c G σ0.2.2 (MQ below (mm_Qc G σ0 rm_X12_goesTo.cells rm_X12_goesTo.slots Post) args s rm_X12_goesTo.cells rm_X12_goesTo.slots (mm_A G))) Post σ0.2.2 := ⟨(by unfold b_X12_goesTo_0; exact (mm_ld_n hC dX12_goesTo_0 rfl (mm_ic hC dX12_goesTo_1 ⟨by decide, by decide⟩ (mm_rem hC dX12_goesTo_2 (mm_st_n hC dX12_goesTo_3 rfl (mm_la_n hC dX12_goesTo_4 rfl (mm_gr hC cl_11 (by decide) rfl wd_789 dX12_goesTo_5 (mm_ic hC dX12_goesTo_8 ⟨by decide, by decide⟩ (mm_ld_n hC dX12_goesTo_9 rfl (mm_add hC dX12_goesTo_10 (mm_ial hC dX12_goesTo_11 (mm_st hC dX12_goesTo_12 (mm_ld hC dX12_goesTo_14 (mm_ic hC dX12_goesTo_16 ⟨by decide, by decide⟩ (mm_rem hC dX12_goesTo_17 (mm_st hC dX12_goesTo_18 (mm_la_n hC dX12_goesTo_20 rfl (mm_gr hC cl_11 (by decide) rfl wd_789 dX12_goesTo_21 (mm_bp hC dX12_goesTo_24 ⟨⟨by decide, by decide⟩, by decide⟩ (mm_ld_n hC dX12_goesTo_26 rfl (mm_add hC dX12_goesTo_27 (mm_ial hC dX12_goesTo_28 (mm_ld_n hC dX12_goesTo_29 rfl (mm_ld_n hC dX12_goesTo_30 rfl (mm_ic_le hC (t := 40) dX12_goesTo_31 (by decide) (mm_ld_n hC dX12_goesTo_40 rfl (fun _ _ _ h => h)) (mm_ld_n hC dX12_goesTo_34 rfl (mm_ic hC dX12_goesTo_35 ⟨by decide, by decide⟩ (mm_sub hC dX12_goesTo_36 (mm_goto hC (t := 41) dX12_goesTo_37 (by decide) (fun _ _ _ h => h)))))))))))))))))))))))))))))), (by unfold b_X12_goesTo_41; exact (mm_cs hC sp_X12_place ⟨rfl, rfl⟩ wd_861 wd_862 wd_863 wd_77 ⟨by decide, by decide, by decide +kernel⟩ ⟨by decide, by decide⟩ dX12_goesTo_41 (mm_st hC dX12_goesTo_44 (mm_ic hC dX12_goesTo_46 ⟨by decide, by decide⟩ (mm_ld hC dX12_goesTo_47 (mm_ic hC dX12_goesTo_49 ⟨by decide, by decide⟩ (mm_div hC dX12_goesTo_50 (mm_mul hC dX12_goesTo_51 (mm_ld hC dX12_goesTo_52 (mm_ld hC dX12_goesTo_54 (mm_ic_lt hC (t := 66) dX12_goesTo_56 (by decide) (mm_ld hC dX12_goesTo_66 (fun _ _ _ h => h)) (mm_ld hC dX12_goesTo_59 (mm_ic hC dX12_goesTo_61 ⟨by decide, by decide⟩ (mm_add hC dX12_goesTo_62 (mm_goto hC (t := 68) dX12_goesTo_63 (by decide) (fun _ _ _ h => h)))))))))))))))), (by unfold b_X12_goesTo_68; exact (mm_add hC dX12_goesTo_68 (mm_ir hC ⟨rfl, rfl⟩ hr dX12_goesTo_69)))⟩
set_option maxRecDepth 100000 in
set_option maxHeartbeats 8000000 in
theorem pv_X12_goesTo : ∀ (av : List mm_V) (σ : mm_S) (Post : Option mm_V → mm_S → Prop), (∀ v ∈ av, mm_iv v) → (∀ a j, mm_in (σ.1 a j)) → σ.2.2 ≤ 348 → T_X12_goesTo av σ Post → ∀ Ok : Nat → mm_K, clo_X12_goesTo Ok Post σ.2.2 → Ok 0 (av ++ List.replicate (7 - av.length) (.inr none)) [] σ := by
  intro av σ Post hav hin hk hT Ok hcl
  obtain ⟨I, R0⟩ := σ
  unfold T_X12_goesTo at hT
  split at hT
  · rename_i a x y
    obtain ⟨h0, hT⟩ := hT
    have h0 : R0 = mm_R0 := h0
    subst h0
    dsimp only at hT hin
    obtain ⟨c0, c41, c68⟩ := hcl
    obtain ⟨rfl, f, v, o, k, rfl, rfl, hf, hv, hne, ho, ho12, hk, hk6, hP⟩ := hT
    have w0 := m0
    have w1 := m1
    have w2 := m2
    have e4 : (f : Int) % 4 = ((f % 4 : Nat) : Int) := by omega
    have p41 : ∀ j : Nat, j = (if v < f % 4 then v else v - 1) → ∀ u : mm_V, Ok 41 [.inr (some 338), .inl (f : Int), .inl (v : Int), .inl ((f : Int) % 4), .inl (o : Int), .inl ((o : Int) % 4), u] [.inl (j : Int), .inl (k : Int)] (I, mm_R0) := by
      intro j hj u
      have hj3 : j < 3 := by
        rw [hj]
        split <;> omega
      have hb := wtab_b (3 * k + j) (by omega)
      obtain ⟨p, hp⟩ := Int.eq_ofNat_of_zero_le hb.1
      have p68 : ∀ w : Nat, w = (if p < o % 4 then p else p + 1) → Ok 68 [.inr (some 338), .inl (f : Int), .inl (v : Int), .inl ((f : Int) % 4), .inl (o : Int), .inl ((o : Int) % 4), .inl (p : Int)] [.inl (w : Int), .inl (4 * ((o : Int) / 4))] (I, mm_R0) := by
        intro w hw
        refine c68 _ _ _ ?_
        simp only [b_X12_goesTo_68, i_xorg, i_shl, i_shr, i_ior, i_and1, i_lcg1, i_lcg2, i_ld, i_la, i_st, i_sa, i_c, i_inc, i_add, i_sub, i_mul, i_div, i_rem, i_remT, i_xor, i_dup, i_dup2, i_if, i_if2, i_sw, i_gi, i_gr, i_pi, i_pz, i_ial, i_ias, i_len, i_aal, i_gs, i_tal, i_cv, i_cs, i_ir, i_zr, i_vr, i_min, i_max, i_cpy, List.getElem?_cons_zero, List.getElem?_cons_succ, List.set_cons_zero, List.set_cons_succ, List.length_cons, List.length_nil, List.drop_succ_cons, List.drop_zero, List.take_succ_cons, List.take_zero, List.reverse_cons, List.reverse_nil, List.nil_append, List.cons_append, Option.toList_some, Option.toList_none, true_and, and_true, true_or, or_true, Nat.reduceAdd, Nat.reduceLT, Nat.reduceLeDiff, Option.some.injEq, exists_eq_left', Int.toNat_natCast, Nat.reduceSub, List.append_nil, List.replicate_succ, List.replicate_zero, mm_in,]
        have e : (acN o k f v : Int) = 4 * ((o : Int) / 4) + (w : Int) := by
          simp only [acN]
          rw [← hj, hp, Int.toNat_natCast, ← hw]
          omega
        have hw4 : w ≤ 4 := by
          rw [hw]
          split <;> omega
        rw [← e]
        exact ⟨⟨by omega, by omega⟩, hP⟩
      refine c41 _ _ _ ?_
      simp only [b_X12_goesTo_41, i_xorg, i_shl, i_shr, i_ior, i_and1, i_lcg1, i_lcg2, i_ld, i_la, i_st, i_sa, i_c, i_inc, i_add, i_sub, i_mul, i_div, i_rem, i_remT, i_xor, i_dup, i_dup2, i_if, i_if2, i_sw, i_gi, i_gr, i_pi, i_pz, i_ial, i_ias, i_len, i_aal, i_gs, i_tal, i_cv, i_cs, i_ir, i_zr, i_vr, i_min, i_max, i_cpy, List.getElem?_cons_zero, List.getElem?_cons_succ, List.set_cons_zero, List.set_cons_succ, List.length_cons, List.length_nil, List.drop_succ_cons, List.drop_zero, List.take_succ_cons, List.take_zero, List.reverse_cons, List.reverse_nil, List.nil_append, List.cons_append, Option.toList_some, Option.toList_none, true_and, and_true, true_or, or_true, Nat.reduceAdd, Nat.reduceLT, Nat.reduceLeDiff, Option.some.injEq, exists_eq_left', Int.toNat_natCast, Nat.reduceSub, List.append_nil, List.replicate_succ, List.replicate_zero, mm_in, T_X12_place]
      refine ⟨k, j, rfl, rfl, hk6, hj3, ?_⟩
      rw [hp]
      repeat' first | refine And.intro ?_ ?_ | refine fun (_ : _ ≤ _ ∧ _ < _) => ?_
      all_goals try omega
      · intro h
        have := p68 p (by rw [if_pos (by omega)])
        exact this
      · intro h
        have := p68 (p + 1) (by rw [if_neg (by omega)])
        rw [Int.natCast_add] at this
        exact ⟨⟨by omega, by omega⟩, this⟩
    refine c0 _ _ _ ?_
    simp only [b_X12_goesTo_0, i_xorg, i_shl, i_shr, i_ior, i_and1, i_lcg1, i_lcg2, i_ld, i_la, i_st, i_sa, i_c, i_inc, i_add, i_sub, i_mul, i_div, i_rem, i_remT, i_xor, i_dup, i_dup2, i_if, i_if2, i_sw, i_gi, i_gr, i_pi, i_pz, i_ial, i_ias, i_len, i_aal, i_gs, i_tal, i_cv, i_cs, i_ir, i_zr, i_vr, i_min, i_max, i_cpy, List.getElem?_cons_zero, List.getElem?_cons_succ, List.set_cons_zero, List.set_cons_succ, List.length_cons, List.length_nil, List.drop_succ_cons, List.drop_zero, List.take_succ_cons, List.take_zero, List.reverse_cons, List.reverse_nil, List.nil_append, List.cons_append, Option.toList_some, Option.toList_none, true_and, and_true, true_or, or_true, Nat.reduceAdd, Nat.reduceLT, Nat.reduceLeDiff, Option.some.injEq, exists_eq_left', Int.toNat_natCast, Nat.reduceSub, List.append_nil, List.replicate_succ, List.replicate_zero, mm_in, w0, w1, w2, t2, t14, ho, hk]
    repeat' first | refine And.intro ?_ ?_ | refine fun (_ : _ ≤ _ ∧ _ < _) => ?_
    all_goals try omega
    · intro h
      exact p41 v (by rw [if_pos (by omega)]) _
    · intro h
      have := p41 (v - 1) (by rw [if_neg (by omega)])
      rw [show ((v - 1 : Nat) : Int) = (v : Int) - 1 by omega] at this
      exact ⟨⟨by omega, by omega⟩, this _⟩
  · exact hT.elim
theorem sp_X12_goesTo : mm_Sp yX12_goesTo cX12_goesTo 7 (some .int) rm_X12_goesTo T_X12_goesTo := mm_meth (by decide) (by
  intro av σ Post h
  unfold T_X12_goesTo at h
  split at h
  · simp
  · exact h.elim) (fun p l e s m args below meth c G av σ Post hC hr _ hav hin hk hT => pv_X12_goesTo av σ Post hav hin hk hT _ (bk_X12_goesTo hC hr))
