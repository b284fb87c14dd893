/-! PieceSurfaces (cell 0): tests and queries
-/
theorem sh_0 : (mm_sh 0).1 = 10 ∧ mm_Rs 0 0 = some 2 ∧ mm_Rs 0 1 = some 18 ∧ mm_Rs 0 2 = some 1 ∧ mm_Rs 0 3 = some 41 ∧ mm_Rs 0 4 = some 299 ∧ mm_Rs 0 5 = some 302 ∧ mm_Rs 0 6 = some 303 := by decide +kernel
def scr (I' I : Nat → Nat → Int) : Prop := ∀ b, b ≠ 1 → b < 18 ∨ 40 < b → I' b = I b
theorem scr_rf (I : Nat → Nat → Int) : scr I I := fun _ _ _ => rfl
def T_X11_hasBody : mm_T := fun av σ Post => match av with
  | [.inr (some a), .inl b] => σ.2 = mm_R0 ∧ a = 0 ∧ ∀ z : Int, bz z (0 ≤ b ∧ b < σ.1 2 0) → Post (some (.inl z)) σ
  | _ => False
def rm_X11_hasBody : Room := { frames := 0, cells := 0, slots := 0, locals := 0 }
def b_X11_hasBody_0 (Ok : Nat → mm_K) (Post : Option mm_V → mm_S → Prop) (kf : Nat) : mm_K := i_ld 1 (i_if (fun x => x < 0) (Ok 19) (i_ld 1 (i_la 0 (i_gr 10 0 (i_gi 9 0 (i_if2 (fun x y => y ≤ x) (Ok 19) (i_c 1 (Ok 20))))))))
def b_X11_hasBody_19 (Ok : Nat → mm_K) (Post : Option mm_V → mm_S → Prop) (kf : Nat) : mm_K := i_c 0 (Ok 20)
def b_X11_hasBody_20 (Ok : Nat → mm_K) (Post : Option mm_V → mm_S → Prop) (kf : Nat) : mm_K := i_zr Post kf
def clo_X11_hasBody (Ok : Nat → mm_K) (Post : Option mm_V → mm_S → Prop) (kf : Nat) : Prop := mm_imp (b_X11_hasBody_0 Ok Post kf) (Ok 0) ∧ mm_imp (b_X11_hasBody_19 Ok Post kf) (Ok 19) ∧ mm_imp (b_X11_hasBody_20 Ok Post kf) (Ok 20)
set_option maxRecDepth 100000 in
set_option maxHeartbeats 4000000 in
theorem bk_X11_hasBody {p : Program} {l : Launch} {e : Env} {s : State} {m : MethodId} {args : Array Value} {below : List Frame} {meth : Method} {c : Code} {G : mm_G} {σ0 : mm_S} {Post : Option mm_V → mm_S → Prop} (hC : mm_C p G s m args meth c cX11_hasBody yX11_hasBody.cls) (hr : meth.sig.returnType = some .boolean) : clo_X11_hasBody (mm_O p l e rm_X11_hasBody s m args below meth c G σ0.2.2 (MQ below (mm_Qc G σ0 rm_X11_hasBody.cells rm_X11_hasBody.slots Post) args s rm_X11_hasBody.cells rm_X11_hasBody.slots (mm_A G))) Post σ0.2.2 := ⟨(by unfold b_X11_hasBody_0; exact (mm_ld_n hC dX11_hasBody_0 rfl (mm_if_lt hC (t := 19) dX11_hasBody_1 (by decide) (fun _ _ _ h => h) (mm_ld_n hC dX11_hasBody_4 rfl (mm_la_n hC dX11_hasBody_5 rfl (mm_gr hC cl_10 (by decide) rfl wd_327 dX11_hasBody_6 (mm_gi hC cl_9 (by decide) rfl wd_121 dX11_hasBody_9 (mm_ic_ge hC (t := 19) dX11_hasBody_12 (by decide) (fun _ _ _ h => h) (mm_ic hC dX11_hasBody_15 ⟨by decide, by decide⟩ (mm_goto hC (t := 20) dX11_hasBody_16 (by decide) (fun _ _ _ h => h))))))))))), (by unfold b_X11_hasBody_19; exact (mm_ic hC dX11_hasBody_19 ⟨by decide, by decide⟩ (fun _ _ _ h => h))), (by unfold b_X11_hasBody_20; exact (mm_zr hC ⟨rfl, rfl⟩ hr dX11_hasBody_20))⟩
set_option maxRecDepth 100000 in
set_option maxHeartbeats 8000000 in
theorem pv_X11_hasBody : ∀ (av : List mm_V) (σ : mm_S) (Post : Option mm_V → mm_S → Prop), (∀ v ∈ av, mm_iv v) → (∀ a j, mm_in (σ.1 a j)) → σ.2.2 ≤ 348 → T_X11_hasBody av σ Post → ∀ Ok : Nat → mm_K, clo_X11_hasBody Ok Post σ.2.2 → Ok 0 (av ++ List.replicate (2 - av.length) (.inr none)) [] σ := by
  intro av σ Post hav hin hk hT Ok hcl
  obtain ⟨I, R0⟩ := σ
  unfold T_X11_hasBody at hT
  split at hT
  · rename_i a b
    obtain ⟨h0, hT⟩ := hT
    have h0 : R0 = mm_R0 := h0
    subst h0
    dsimp only at hT hin
    obtain ⟨c0, c19, c20⟩ := hcl
    obtain ⟨rfl, hP⟩ := hT
    obtain ⟨k0, k1, k2, k3, k4, k5, k6, k7⟩ := sh_0
    have no : ¬ (0 ≤ b ∧ b < I 2 0) → Ok 19 [.inr (some 0), .inl b] [] (I, mm_R0) := by
      intro hh
      refine c19 _ _ _ ?_
      simp only [b_X11_hasBody_19, i_xorg, i_shl, i_shr, i_ior, i_and1, i_lcg1, i_lcg2, i_ld, i_la, i_st, i_sa, i_c, i_inc, i_add, i_sub, i_mul, i_div, i_rem, i_remT, i_xor, i_dup, i_dup2, i_if, i_if2, i_sw, i_gi, i_gr, i_pi, i_pz, i_ial, i_ias, i_len, i_aal, i_gs, i_tal, i_cv, i_cs, i_ir, i_zr, i_vr, i_min, i_max, i_cpy, List.getElem?_cons_zero, List.getElem?_cons_succ, List.set_cons_zero, List.set_cons_succ, List.length_cons, List.length_nil, List.drop_succ_cons, List.drop_zero, List.take_succ_cons, List.take_zero, List.reverse_cons, List.reverse_nil, List.nil_append, List.cons_append, Option.toList_some, Option.toList_none, true_and, and_true, true_or, or_true, Nat.reduceAdd, Nat.reduceLT, Nat.reduceLeDiff, Option.some.injEq, exists_eq_left', Int.toNat_natCast, Nat.reduceSub, List.append_nil, List.replicate_succ, List.replicate_zero]
      refine c20 _ _ _ ?_
      simp only [b_X11_hasBody_20, i_xorg, i_shl, i_shr, i_ior, i_and1, i_lcg1, i_lcg2, i_ld, i_la, i_st, i_sa, i_c, i_inc, i_add, i_sub, i_mul, i_div, i_rem, i_remT, i_xor, i_dup, i_dup2, i_if, i_if2, i_sw, i_gi, i_gr, i_pi, i_pz, i_ial, i_ias, i_len, i_aal, i_gs, i_tal, i_cv, i_cs, i_ir, i_zr, i_vr, i_min, i_max, i_cpy, List.getElem?_cons_zero, List.getElem?_cons_succ, List.set_cons_zero, List.set_cons_succ, List.length_cons, List.length_nil, List.drop_succ_cons, List.drop_zero, List.take_succ_cons, List.take_zero, List.reverse_cons, List.reverse_nil, List.nil_append, List.cons_append, Option.toList_some, Option.toList_none, true_and, and_true, true_or, or_true, Nat.reduceAdd, Nat.reduceLT, Nat.reduceLeDiff, Option.some.injEq, exists_eq_left', Int.toNat_natCast, Nat.reduceSub, List.append_nil, List.replicate_succ, List.replicate_zero]
      exact hP 0 (bz_0 hh)
    refine c0 _ _ _ ?_
    simp only [b_X11_hasBody_0, i_xorg, i_shl, i_shr, i_ior, i_and1, i_lcg1, i_lcg2, i_ld, i_la, i_st, i_sa, i_c, i_inc, i_add, i_sub, i_mul, i_div, i_rem, i_remT, i_xor, i_dup, i_dup2, i_if, i_if2, i_sw, i_gi, i_gr, i_pi, i_pz, i_ial, i_ias, i_len, i_aal, i_gs, i_tal, i_cv, i_cs, i_ir, i_zr, i_vr, i_min, i_max, i_cpy, List.getElem?_cons_zero, List.getElem?_cons_succ, List.set_cons_zero, List.set_cons_succ, List.length_cons, List.length_nil, List.drop_succ_cons, List.drop_zero, List.take_succ_cons, List.take_zero, List.reverse_cons, List.reverse_nil, List.nil_append, List.cons_append, Option.toList_some, Option.toList_none, true_and, and_true, true_or, or_true, Nat.reduceAdd, Nat.reduceLT, Nat.reduceLeDiff, Option.some.injEq, exists_eq_left', Int.toNat_natCast, Nat.reduceSub, List.append_nil, List.replicate_succ, List.replicate_zero, mm_in, k0, k1, sh_2]
    refine ⟨fun z => no (by omega), fun z _ => ⟨fun y => no (by omega), fun y => ?_⟩⟩
    refine c20 _ _ _ ?_
    simp only [b_X11_hasBody_20, i_xorg, i_shl, i_shr, i_ior, i_and1, i_lcg1, i_lcg2, i_ld, i_la, i_st, i_sa, i_c, i_inc, i_add, i_sub, i_mul, i_div, i_rem, i_remT, i_xor, i_dup, i_dup2, i_if, i_if2, i_sw, i_gi, i_gr, i_pi, i_pz, i_ial, i_ias, i_len, i_aal, i_gs, i_tal, i_cv, i_cs, i_ir, i_zr, i_vr, i_min, i_max, i_cpy, List.getElem?_cons_zero, List.getElem?_cons_succ, List.set_cons_zero, List.set_cons_succ, List.length_cons, List.length_nil, List.drop_succ_cons, List.drop_zero, List.take_succ_cons, List.take_zero, List.reverse_cons, List.reverse_nil, List.nil_append, List.cons_append, Option.toList_some, Option.toList_none, true_and, and_true, true_or, or_true, Nat.reduceAdd, Nat.reduceLT, Nat.reduceLeDiff, Option.some.injEq, exists_eq_left', Int.toNat_natCast, Nat.reduceSub, List.append_nil, List.replicate_succ, List.replicate_zero]
    exact hP 1 (bz_1 ⟨by omega, by omega⟩)
  · exact hT.elim
theorem sp_X11_hasBody : mm_Sp yX11_hasBody cX11_hasBody 2 (some .boolean) rm_X11_hasBody T_X11_hasBody := mm_meth (by decide) (by
  intro av σ Post h
  unfold T_X11_hasBody at h
  split at h
  · simp
  · exact h.elim) (fun p l e s m args below meth c G av σ Post hC hr _ hav hin hk hT => pv_X11_hasBody av σ Post hav hin hk hT _ (bk_X11_hasBody hC hr))
def T_X11_hasFace : mm_T := fun av σ Post => match av with
  | [.inr (some a), .inl b, .inl f] => σ.2 = mm_R0 ∧ a = 0 ∧ ∀ z : Int, bz z ((0 ≤ b ∧ b < σ.1 2 0) ∧ 0 ≤ f ∧ f < 4) → Post (some (.inl z)) σ
  | _ => False
def rm_X11_hasFace : Room := { frames := 1, cells := 0, slots := 0, locals := 21 }
def b_X11_hasFace_0 (Ok : Nat → mm_K) (Post : Option mm_V → mm_S → Prop) (kf : Nat) : mm_K := i_la 0 (i_ld 1 (i_cv 10 1 T_X11_hasBody (i_if (fun x => x = 0) (Ok 21) (i_ld 2 (i_if (fun x => x < 0) (Ok 21) (i_ld 2 (i_c 4 (i_if2 (fun x y => y ≤ x) (Ok 21) (i_c 1 (Ok 22))))))))))
def b_X11_hasFace_21 (Ok : Nat → mm_K) (Post : Option mm_V → mm_S → Prop) (kf : Nat) : mm_K := i_c 0 (Ok 22)
def b_X11_hasFace_22 (Ok : Nat → mm_K) (Post : Option mm_V → mm_S → Prop) (kf : Nat) : mm_K := i_zr Post kf
def clo_X11_hasFace (Ok : Nat → mm_K) (Post : Option mm_V → mm_S → Prop) (kf : Nat) : Prop := mm_imp (b_X11_hasFace_0 Ok Post kf) (Ok 0) ∧ mm_imp (b_X11_hasFace_21 Ok Post kf) (Ok 21) ∧ mm_imp (b_X11_hasFace_22 Ok Post kf) (Ok 22)
set_option maxRecDepth 100000 in
set_option maxHeartbeats 4000000 in
theorem bk_X11_hasFace {p : Program} {l : Launch} {e : Env} {s : State} {m : MethodId} {args : Array Value} {below : List Frame} {meth : Method} {c : Code} {G : mm_G} {σ0 : mm_S} {Post : Option mm_V → mm_S → Prop} (hC : mm_C p G s m args meth c cX11_hasFace yX11_hasFace.cls) (hr : meth.sig.returnType = some .boolean) : clo_X11_hasFace (mm_O p l e rm_X11_hasFace s m args below meth c G σ0.2.2 (MQ below (mm_Qc G σ0 rm_X11_hasFace.cells rm_X11_hasFace.slots Post) args s rm_X11_hasFace.cells rm_X11_hasFace.slots (mm_A G))) Post σ0.2.2 := ⟨(by unfold b_X11_hasFace_0; exact (mm_la_n hC dX11_hasFace_0 rfl (mm_ld_n hC dX11_hasFace_1 rfl (mm_cv hC sp_X11_hasBody ⟨rfl, rfl⟩ cl_10 wd_546 wd_548 wd_10 wd_549 wd_65 ⟨by decide, by decide, by decide +kernel⟩ ⟨by decide, by decide⟩ dX11_hasFace_2 (mm_if_eq hC (t := 21) dX11_hasFace_5 (by decide) (fun _ _ _ h => h) (mm_ld_n hC dX11_hasFace_8 rfl (mm_if_lt hC (t := 21) dX11_hasFace_9 (by decide) (fun _ _ _ h => h) (mm_ld_n hC dX11_hasFace_12 rfl (mm_ic hC dX11_hasFace_13 ⟨by decide, by decide⟩ (mm_ic_ge hC (t := 21) dX11_hasFace_14 (by decide) (fun _ _ _ h => h) (mm_ic hC dX11_hasFace_17 ⟨by decide, by decide⟩ (mm_goto hC (t := 22) dX11_hasFace_18 (by decide) (fun _ _ _ h => h))))))))))))), (by unfold b_X11_hasFace_21; exact (mm_ic hC dX11_hasFace_21 ⟨by decide, by decide⟩ (fun _ _ _ h => h))), (by unfold b_X11_hasFace_22; exact (mm_zr hC ⟨rfl, rfl⟩ hr dX11_hasFace_22))⟩
set_option maxRecDepth 100000 in
set_option maxHeartbeats 8000000 in
theorem pv_X11_hasFace : ∀ (av : List mm_V) (σ : mm_S) (Post : Option mm_V → mm_S → Prop), (∀ v ∈ av, mm_iv v) → (∀ a j, mm_in (σ.1 a j)) → σ.2.2 ≤ 348 → T_X11_hasFace av σ Post → ∀ Ok : Nat → mm_K, clo_X11_hasFace Ok Post σ.2.2 → Ok 0 (av ++ List.replicate (3 - av.length) (.inr none)) [] σ := by
  intro av σ Post hav hin hk hT Ok hcl
  obtain ⟨I, R0⟩ := σ
  unfold T_X11_hasFace at hT
  split at hT
  · rename_i a b f
    obtain ⟨h0, hT⟩ := hT
    have h0 : R0 = mm_R0 := h0
    subst h0
    dsimp only at hT hin
    obtain ⟨c0, c21, c22⟩ := hcl
    obtain ⟨rfl, hP⟩ := hT
    have k0 := sh_0.1
    have no : ¬ ((0 ≤ b ∧ b < I 2 0) ∧ 0 ≤ f ∧ f < 4) → Ok 21 [.inr (some 0), .inl b, .inl f] [] (I, mm_R0) := by
      intro hh
      refine c21 _ _ _ ?_
      simp only [b_X11_hasFace_21, i_xorg, i_shl, i_shr, i_ior, i_and1, i_lcg1, i_lcg2, i_ld, i_la, i_st, i_sa, i_c, i_inc, i_add, i_sub, i_mul, i_div, i_rem, i_remT, i_xor, i_dup, i_dup2, i_if, i_if2, i_sw, i_gi, i_gr, i_pi, i_pz, i_ial, i_ias, i_len, i_aal, i_gs, i_tal, i_cv, i_cs, i_ir, i_zr, i_vr, i_min, i_max, i_cpy, List.getElem?_cons_zero, List.getElem?_cons_succ, List.set_cons_zero, List.set_cons_succ, List.length_cons, List.length_nil, List.drop_succ_cons, List.drop_zero, List.take_succ_cons, List.take_zero, List.reverse_cons, List.reverse_nil, List.nil_append, List.cons_append, Option.toList_some, Option.toList_none, true_and, and_true, true_or, or_true, Nat.reduceAdd, Nat.reduceLT, Nat.reduceLeDiff, Option.some.injEq, exists_eq_left', Int.toNat_natCast, Nat.reduceSub, List.append_nil, List.replicate_succ, List.replicate_zero]
      refine c22 _ _ _ ?_
      simp only [b_X11_hasFace_22, i_xorg, i_shl, i_shr, i_ior, i_and1, i_lcg1, i_lcg2, i_ld, i_la, i_st, i_sa, i_c, i_inc, i_add, i_sub, i_mul, i_div, i_rem, i_remT, i_xor, i_dup, i_dup2, i_if, i_if2, i_sw, i_gi, i_gr, i_pi, i_pz, i_ial, i_ias, i_len, i_aal, i_gs, i_tal, i_cv, i_cs, i_ir, i_zr, i_vr, i_min, i_max, i_cpy, List.getElem?_cons_zero, List.getElem?_cons_succ, List.set_cons_zero, List.set_cons_succ, List.length_cons, List.length_nil, List.drop_succ_cons, List.drop_zero, List.take_succ_cons, List.take_zero, List.reverse_cons, List.reverse_nil, List.nil_append, List.cons_append, Option.toList_some, Option.toList_none, true_and, and_true, true_or, or_true, Nat.reduceAdd, Nat.reduceLT, Nat.reduceLeDiff, Option.some.injEq, exists_eq_left', Int.toNat_natCast, Nat.reduceSub, List.append_nil, List.replicate_succ, List.replicate_zero]
      exact hP 0 (bz_0 hh)
    refine c0 _ _ _ ?_
    simp only [b_X11_hasFace_0, i_xorg, i_shl, i_shr, i_ior, i_and1, i_lcg1, i_lcg2, i_ld, i_la, i_st, i_sa, i_c, i_inc, i_add, i_sub, i_mul, i_div, i_rem, i_remT, i_xor, i_dup, i_dup2, i_if, i_if2, i_sw, i_gi, i_gr, i_pi, i_pz, i_ial, i_ias, i_len, i_aal, i_gs, i_tal, i_cv, i_cs, i_ir, i_zr, i_vr, i_min, i_max, i_cpy, List.getElem?_cons_zero, List.getElem?_cons_succ, List.set_cons_zero, List.set_cons_succ, List.length_cons, List.length_nil, List.drop_succ_cons, List.drop_zero, List.take_succ_cons, List.take_zero, List.reverse_cons, List.reverse_nil, List.nil_append, List.cons_append, Option.toList_some, Option.toList_none, true_and, and_true, true_or, or_true, Nat.reduceAdd, Nat.reduceLT, Nat.reduceLeDiff, Option.some.injEq, exists_eq_left', Int.toNat_natCast, Nat.reduceSub, List.append_nil, List.replicate_succ, List.replicate_zero, mm_in, k0, T_X11_hasBody]
    intro z hz
    refine ⟨fun q => no (fun w => ?_), fun q => ⟨fun y => no (by omega), fun y => ⟨fun x => no (by omega), fun x => ?_⟩⟩⟩
    · rcases hz with ⟨z1, z2⟩ | ⟨z1, z2⟩
      · omega
      · exact z2 w.1
    · refine c22 _ _ _ ?_
      simp only [b_X11_hasFace_22, i_xorg, i_shl, i_shr, i_ior, i_and1, i_lcg1, i_lcg2, i_ld, i_la, i_st, i_sa, i_c, i_inc, i_add, i_sub, i_mul, i_div, i_rem, i_remT, i_xor, i_dup, i_dup2, i_if, i_if2, i_sw, i_gi, i_gr, i_pi, i_pz, i_ial, i_ias, i_len, i_aal, i_gs, i_tal, i_cv, i_cs, i_ir, i_zr, i_vr, i_min, i_max, i_cpy, List.getElem?_cons_zero, List.getElem?_cons_succ, List.set_cons_zero, List.set_cons_succ, List.length_cons, List.length_nil, List.drop_succ_cons, List.drop_zero, List.take_succ_cons, List.take_zero, List.reverse_cons, List.reverse_nil, List.nil_append, List.cons_append, Option.toList_some, Option.toList_none, true_and, and_true, true_or, or_true, Nat.reduceAdd, Nat.reduceLT, Nat.reduceLeDiff, Option.some.injEq, exists_eq_left', Int.toNat_natCast, Nat.reduceSub, List.append_nil, List.replicate_succ, List.replicate_zero]
      refine hP 1 (bz_1 ⟨?_, by omega, by omega⟩)
      rcases hz with ⟨z1, z2⟩ | ⟨z1, z2⟩
      · exact z2
      · omega
  · exact hT.elim
theorem sp_X11_hasFace : mm_Sp yX11_hasFace cX11_hasFace 3 (some .boolean) rm_X11_hasFace T_X11_hasFace := mm_meth (by decide) (by
  intro av σ Post h
  unfold T_X11_hasFace at h
  split at h
  · simp
  · exact h.elim) (fun p l e s m args below meth c G av σ Post hC hr _ hav hin hk hT => pv_X11_hasFace av σ Post hav hin hk hT _ (bk_X11_hasFace hC hr))
def T_X11_hasEdge : mm_T := fun av σ Post => match av with
  | [.inr (some a), .inl b, .inl f] => σ.2 = mm_R0 ∧ a = 0 ∧ ∀ z : Int, bz z ((0 ≤ b ∧ b < σ.1 2 0) ∧ 0 ≤ f ∧ f < 6) → Post (some (.inl z)) σ
  | _ => False
def rm_X11_hasEdge : Room := { frames := 1, cells := 0, slots := 0, locals := 21 }
def b_X11_hasEdge_0 (Ok : Nat → mm_K) (Post : Option mm_V → mm_S → Prop) (kf : Nat) : mm_K := i_la 0 (i_ld 1 (i_cv 10 1 T_X11_hasBody (i_if (fun x => x = 0) (Ok 22) (i_ld 2 (i_if (fun x => x < 0) (Ok 22) (i_ld 2 (i_c 6 (i_if2 (fun x y => y ≤ x) (Ok 22) (i_c 1 (Ok 23))))))))))
def b_X11_hasEdge_22 (Ok : Nat → mm_K) (Post : Option mm_V → mm_S → Prop) (kf : Nat) : mm_K := i_c 0 (Ok 23)
def b_X11_hasEdge_23 (Ok : Nat → mm_K) (Post : Option mm_V → mm_S → Prop) (kf : Nat) : mm_K := i_zr Post kf
def clo_X11_hasEdge (Ok : Nat → mm_K) (Post : Option mm_V → mm_S → Prop) (kf : Nat) : Prop := mm_imp (b_X11_hasEdge_0 Ok Post kf) (Ok 0) ∧ mm_imp (b_X11_hasEdge_22 Ok Post kf) (Ok 22) ∧ mm_imp (b_X11_hasEdge_23 Ok Post kf) (Ok 23)
set_option maxRecDepth 100000 in
set_option maxHeartbeats 4000000 in
theorem bk_X11_hasEdge {p : Program} {l : Launch} {e : Env} {s : State} {m : MethodId} {args : Array Value} {below : List Frame} {meth : Method} {c : Code} {G : mm_G} {σ0 : mm_S} {Post : Option mm_V → mm_S → Prop} (hC : mm_C p G s m args meth c cX11_hasEdge yX11_hasEdge.cls) (hr : meth.sig.returnType = some .boolean) : clo_X11_hasEdge (mm_O p l e rm_X11_hasEdge s m args below meth c G σ0.2.2 (MQ below (mm_Qc G σ0 rm_X11_hasEdge.cells rm_X11_hasEdge.slots Post) args s rm_X11_hasEdge.cells rm_X11_hasEdge.slots (mm_A G))) Post σ0.2.2 := ⟨(by unfold b_X11_hasEdge_0; exact (mm_la_n hC dX11_hasEdge_0 rfl (mm_ld_n hC dX11_hasEdge_1 rfl (mm_cv hC sp_X11_hasBody ⟨rfl, rfl⟩ cl_10 wd_546 wd_548 wd_10 wd_549 wd_65 ⟨by decide, by decide, by decide +kernel⟩ ⟨by decide, by decide⟩ dX11_hasEdge_2 (mm_if_eq hC (t := 22) dX11_hasEdge_5 (by decide) (fun _ _ _ h => h) (mm_ld_n hC dX11_hasEdge_8 rfl (mm_if_lt hC (t := 22) dX11_hasEdge_9 (by decide) (fun _ _ _ h => h) (mm_ld_n hC dX11_hasEdge_12 rfl (mm_bp hC dX11_hasEdge_13 ⟨⟨by decide, by decide⟩, by decide⟩ (mm_ic_ge hC (t := 22) dX11_hasEdge_15 (by decide) (fun _ _ _ h => h) (mm_ic hC dX11_hasEdge_18 ⟨by decide, by decide⟩ (mm_goto hC (t := 23) dX11_hasEdge_19 (by decide) (fun _ _ _ h => h))))))))))))), (by unfold b_X11_hasEdge_22; exact (mm_ic hC dX11_hasEdge_22 ⟨by decide, by decide⟩ (fun _ _ _ h => h))), (by unfold b_X11_hasEdge_23; exact (mm_zr hC ⟨rfl, rfl⟩ hr dX11_hasEdge_23))⟩
set_option maxRecDepth 100000 in
set_option maxHeartbeats 8000000 in
theorem pv_X11_hasEdge : ∀ (av : List mm_V) (σ : mm_S) (Post : Option mm_V → mm_S → Prop), (∀ v ∈ av, mm_iv v) → (∀ a j, mm_in (σ.1 a j)) → σ.2.2 ≤ 348 → T_X11_hasEdge av σ Post → ∀ Ok : Nat → mm_K, clo_X11_hasEdge Ok Post σ.2.2 → Ok 0 (av ++ List.replicate (3 - av.length) (.inr none)) [] σ := by
  intro av σ Post hav hin hk hT Ok hcl
  obtain ⟨I, R0⟩ := σ
  unfold T_X11_hasEdge at hT
  split at hT
  · rename_i a b f
    obtain ⟨h0, hT⟩ := hT
    have h0 : R0 = mm_R0 := h0
    subst h0
    dsimp only at hT hin
    obtain ⟨c0, c22, c23⟩ := hcl
    obtain ⟨rfl, hP⟩ := hT
    have k0 := sh_0.1
    have no : ¬ ((0 ≤ b ∧ b < I 2 0) ∧ 0 ≤ f ∧ f < 6) → Ok 22 [.inr (some 0), .inl b, .inl f] [] (I, mm_R0) := by
      intro hh
      refine c22 _ _ _ ?_
      simp only [b_X11_hasEdge_22, i_xorg, i_shl, i_shr, i_ior, i_and1, i_lcg1, i_lcg2, i_ld, i_la, i_st, i_sa, i_c, i_inc, i_add, i_sub, i_mul, i_div, i_rem, i_remT, i_xor, i_dup, i_dup2, i_if, i_if2, i_sw, i_gi, i_gr, i_pi, i_pz, i_ial, i_ias, i_len, i_aal, i_gs, i_tal, i_cv, i_cs, i_ir, i_zr, i_vr, i_min, i_max, i_cpy, List.getElem?_cons_zero, List.getElem?_cons_succ, List.set_cons_zero, List.set_cons_succ, List.length_cons, List.length_nil, List.drop_succ_cons, List.drop_zero, List.take_succ_cons, List.take_zero, List.reverse_cons, List.reverse_nil, List.nil_append, List.cons_append, Option.toList_some, Option.toList_none, true_and, and_true, true_or, or_true, Nat.reduceAdd, Nat.reduceLT, Nat.reduceLeDiff, Option.some.injEq, exists_eq_left', Int.toNat_natCast, Nat.reduceSub, List.append_nil, List.replicate_succ, List.replicate_zero]
      refine c23 _ _ _ ?_
      simp only [b_X11_hasEdge_23, i_xorg, i_shl, i_shr, i_ior, i_and1, i_lcg1, i_lcg2, i_ld, i_la, i_st, i_sa, i_c, i_inc, i_add, i_sub, i_mul, i_div, i_rem, i_remT, i_xor, i_dup, i_dup2, i_if, i_if2, i_sw, i_gi, i_gr, i_pi, i_pz, i_ial, i_ias, i_len, i_aal, i_gs, i_tal, i_cv, i_cs, i_ir, i_zr, i_vr, i_min, i_max, i_cpy, List.getElem?_cons_zero, List.getElem?_cons_succ, List.set_cons_zero, List.set_cons_succ, List.length_cons, List.length_nil, List.drop_succ_cons, List.drop_zero, List.take_succ_cons, List.take_zero, List.reverse_cons, List.reverse_nil, List.nil_append, List.cons_append, Option.toList_some, Option.toList_none, true_and, and_true, true_or, or_true, Nat.reduceAdd, Nat.reduceLT, Nat.reduceLeDiff, Option.some.injEq, exists_eq_left', Int.toNat_natCast, Nat.reduceSub, List.append_nil, List.replicate_succ, List.replicate_zero]
      exact hP 0 (bz_0 hh)
    refine c0 _ _ _ ?_
    simp only [b_X11_hasEdge_0, i_xorg, i_shl, i_shr, i_ior, i_and1, i_lcg1, i_lcg2, i_ld, i_la, i_st, i_sa, i_c, i_inc, i_add, i_sub, i_mul, i_div, i_rem, i_remT, i_xor, i_dup, i_dup2, i_if, i_if2, i_sw, i_gi, i_gr, i_pi, i_pz, i_ial, i_ias, i_len, i_aal, i_gs, i_tal, i_cv, i_cs, i_ir, i_zr, i_vr, i_min, i_max, i_cpy, List.getElem?_cons_zero, List.getElem?_cons_succ, List.set_cons_zero, List.set_cons_succ, List.length_cons, List.length_nil, List.drop_succ_cons, List.drop_zero, List.take_succ_cons, List.take_zero, List.reverse_cons, List.reverse_nil, List.nil_append, List.cons_append, Option.toList_some, Option.toList_none, true_and, and_true, true_or, or_true, Nat.reduceAdd, Nat.reduceLT, Nat.reduceLeDiff, Option.some.injEq, exists_eq_left', Int.toNat_natCast, Nat.reduceSub, List.append_nil, List.replicate_succ, List.replicate_zero, mm_in, k0, T_X11_hasBody]
    intro z hz
    refine ⟨fun q => no (fun w => ?_), fun q => ⟨fun y => no (by omega), fun y => ⟨fun x => no (by omega), fun x => ?_⟩⟩⟩
    · rcases hz with ⟨z1, z2⟩ | ⟨z1, z2⟩
      · omega
      · exact z2 w.1
    · refine c23 _ _ _ ?_
      simp only [b_X11_hasEdge_23, i_xorg, i_shl, i_shr, i_ior, i_and1, i_lcg1, i_lcg2, i_ld, i_la, i_st, i_sa, i_c, i_inc, i_add, i_sub, i_mul, i_div, i_rem, i_remT, i_xor, i_dup, i_dup2, i_if, i_if2, i_sw, i_gi, i_gr, i_pi, i_pz, i_ial, i_ias, i_len, i_aal, i_gs, i_tal, i_cv, i_cs, i_ir, i_zr, i_vr, i_min, i_max, i_cpy, List.getElem?_cons_zero, List.getElem?_cons_succ, List.set_cons_zero, List.set_cons_succ, List.length_cons, List.length_nil, List.drop_succ_cons, List.drop_zero, List.take_succ_cons, List.take_zero, List.reverse_cons, List.reverse_nil, List.nil_append, List.cons_append, Option.toList_some, Option.toList_none, true_and, and_true, true_or, or_true, Nat.reduceAdd, Nat.reduceLT, Nat.reduceLeDiff, Option.some.injEq, exists_eq_left', Int.toNat_natCast, Nat.reduceSub, List.append_nil, List.replicate_succ, List.replicate_zero]
      refine hP 1 (bz_1 ⟨?_, by omega, by omega⟩)
      rcases hz with ⟨z1, z2⟩ | ⟨z1, z2⟩
      · exact z2
      · omega
  · exact hT.elim
theorem sp_X11_hasEdge : mm_Sp yX11_hasEdge cX11_hasEdge 3 (some .boolean) rm_X11_hasEdge T_X11_hasEdge := mm_meth (by decide) (by
  intro av σ Post h
  unfold T_X11_hasEdge at h
  split at h
  · simp
  · exact h.elim) (fun p l e s m args below meth c G av σ Post hC hr _ hav hin hk hT => pv_X11_hasEdge av σ Post hav hin hk hT _ (bk_X11_hasEdge hC hr))
def T_X11_hasSurface : mm_T := fun av σ Post => match av with
  | [.inr (some a), .inl b] => σ.2 = mm_R0 ∧ a = 0 ∧ ∀ z : Int, bz z (0 ≤ b ∧ b < σ.1 2 1) → Post (some (.inl z)) σ
  | _ => False
def rm_X11_hasSurface : Room := { frames := 0, cells := 0, slots := 0, locals := 0 }
def b_X11_hasSurface_0 (Ok : Nat → mm_K) (Post : Option mm_V → mm_S → Prop) (kf : Nat) : mm_K := i_ld 1 (i_if (fun x => x < 0) (Ok 19) (i_ld 1 (i_la 0 (i_gr 10 0 (i_gi 9 1 (i_if2 (fun x y => y ≤ x) (Ok 19) (i_c 1 (Ok 20))))))))
def b_X11_hasSurface_19 (Ok : Nat → mm_K) (Post : Option mm_V → mm_S → Prop) (kf : Nat) : mm_K := i_c 0 (Ok 20)
def b_X11_hasSurface_20 (Ok : Nat → mm_K) (Post : Option mm_V → mm_S → Prop) (kf : Nat) : mm_K := i_zr Post kf
def clo_X11_hasSurface (Ok : Nat → mm_K) (Post : Option mm_V → mm_S → Prop) (kf : Nat) : Prop := mm_imp (b_X11_hasSurface_0 Ok Post kf) (Ok 0) ∧ mm_imp (b_X11_hasSurface_19 Ok Post kf) (Ok 19) ∧ mm_imp (b_X11_hasSurface_20 Ok Post kf) (Ok 20)
set_option maxRecDepth 100000 in
set_option maxHeartbeats 4000000 in
theorem bk_X11_hasSurface {p : Program} {l : Launch} {e : Env} {s : State} {m : MethodId} {args : Array Value} {below : List Frame} {meth : Method} {c : Code} {G : mm_G} {σ0 : mm_S} {Post : Option mm_V → mm_S → Prop} (hC : mm_C p G s m args meth c cX11_hasSurface yX11_hasSurface.cls) (hr : meth.sig.returnType = some .boolean) : clo_X11_hasSurface (mm_O p l e rm_X11_hasSurface s m args below meth c G σ0.2.2 (MQ below (mm_Qc G σ0 rm_X11_hasSurface.cells rm_X11_hasSurface.slots Post) args s rm_X11_hasSurface.cells rm_X11_hasSurface.slots (mm_A G))) Post σ0.2.2 := ⟨(by unfold b_X11_hasSurface_0; exact (mm_ld_n hC dX11_hasSurface_0 rfl (mm_if_lt hC (t := 19) dX11_hasSurface_1 (by decide) (fun _ _ _ h => h) (mm_ld_n hC dX11_hasSurface_4 rfl (mm_la_n hC dX11_hasSurface_5 rfl (mm_gr hC cl_10 (by decide) rfl wd_327 dX11_hasSurface_6 (mm_gi hC cl_9 (by decide) rfl wd_124 dX11_hasSurface_9 (mm_ic_ge hC (t := 19) dX11_hasSurface_12 (by decide) (fun _ _ _ h => h) (mm_ic hC dX11_hasSurface_15 ⟨by decide, by decide⟩ (mm_goto hC (t := 20) dX11_hasSurface_16 (by decide) (fun _ _ _ h => h))))))))))), (by unfold b_X11_hasSurface_19; exact (mm_ic hC dX11_hasSurface_19 ⟨by decide, by decide⟩ (fun _ _ _ h => h))), (by unfold b_X11_hasSurface_20; exact (mm_zr hC ⟨rfl, rfl⟩ hr dX11_hasSurface_20))⟩
set_option maxRecDepth 100000 in
set_option maxHeartbeats 8000000 in
theorem pv_X11_hasSurface : ∀ (av : List mm_V) (σ : mm_S) (Post : Option mm_V → mm_S → Prop), (∀ v ∈ av, mm_iv v) → (∀ a j, mm_in (σ.1 a j)) → σ.2.2 ≤ 348 → T_X11_hasSurface av σ Post → ∀ Ok : Nat → mm_K, clo_X11_hasSurface Ok Post σ.2.2 → Ok 0 (av ++ List.replicate (2 - av.length) (.inr none)) [] σ := by
  intro av σ Post hav hin hk hT Ok hcl
  obtain ⟨I, R0⟩ := σ
  unfold T_X11_hasSurface at hT
  split at hT
  · rename_i a b
    obtain ⟨h0, hT⟩ := hT
    have h0 : R0 = mm_R0 := h0
    subst h0
    dsimp only at hT hin
    obtain ⟨c0, c19, c20⟩ := hcl
    obtain ⟨rfl, hP⟩ := hT
    obtain ⟨k0, k1, k2, k3, k4, k5, k6, k7⟩ := sh_0
    have no : ¬ (0 ≤ b ∧ b < I 2 1) → Ok 19 [.inr (some 0), .inl b] [] (I, mm_R0) := by
      intro hh
      refine c19 _ _ _ ?_
      simp only [b_X11_hasSurface_19, i_xorg, i_shl, i_shr, i_ior, i_and1, i_lcg1, i_lcg2, i_ld, i_la, i_st, i_sa, i_c, i_inc, i_add, i_sub, i_mul, i_div, i_rem, i_remT, i_xor, i_dup, i_dup2, i_if, i_if2, i_sw, i_gi, i_gr, i_pi, i_pz, i_ial, i_ias, i_len, i_aal, i_gs, i_tal, i_cv, i_cs, i_ir, i_zr, i_vr, i_min, i_max, i_cpy, List.getElem?_cons_zero, List.getElem?_cons_succ, List.set_cons_zero, List.set_cons_succ, List.length_cons, List.length_nil, List.drop_succ_cons, List.drop_zero, List.take_succ_cons, List.take_zero, List.reverse_cons, List.reverse_nil, List.nil_append, List.cons_append, Option.toList_some, Option.toList_none, true_and, and_true, true_or, or_true, Nat.reduceAdd, Nat.reduceLT, Nat.reduceLeDiff, Option.some.injEq, exists_eq_left', Int.toNat_natCast, Nat.reduceSub, List.append_nil, List.replicate_succ, List.replicate_zero]
      refine c20 _ _ _ ?_
      simp only [b_X11_hasSurface_20, i_xorg, i_shl, i_shr, i_ior, i_and1, i_lcg1, i_lcg2, i_ld, i_la, i_st, i_sa, i_c, i_inc, i_add, i_sub, i_mul, i_div, i_rem, i_remT, i_xor, i_dup, i_dup2, i_if, i_if2, i_sw, i_gi, i_gr, i_pi, i_pz, i_ial, i_ias, i_len, i_aal, i_gs, i_tal, i_cv, i_cs, i_ir, i_zr, i_vr, i_min, i_max, i_cpy, List.getElem?_cons_zero, List.getElem?_cons_succ, List.set_cons_zero, List.set_cons_succ, List.length_cons, List.length_nil, List.drop_succ_cons, List.drop_zero, List.take_succ_cons, List.take_zero, List.reverse_cons, List.reverse_nil, List.nil_append, List.cons_append, Option.toList_some, Option.toList_none, true_and, and_true, true_or, or_true, Nat.reduceAdd, Nat.reduceLT, Nat.reduceLeDiff, Option.some.injEq, exists_eq_left', Int.toNat_natCast, Nat.reduceSub, List.append_nil, List.replicate_succ, List.replicate_zero]
      exact hP 0 (bz_0 hh)
    refine c0 _ _ _ ?_
    simp only [b_X11_hasSurface_0, i_xorg, i_shl, i_shr, i_ior, i_and1, i_lcg1, i_lcg2, i_ld, i_la, i_st, i_sa, i_c, i_inc, i_add, i_sub, i_mul, i_div, i_rem, i_remT, i_xor, i_dup, i_dup2, i_if, i_if2, i_sw, i_gi, i_gr, i_pi, i_pz, i_ial, i_ias, i_len, i_aal, i_gs, i_tal, i_cv, i_cs, i_ir, i_zr, i_vr, i_min, i_max, i_cpy, List.getElem?_cons_zero, List.getElem?_cons_succ, List.set_cons_zero, List.set_cons_succ, List.length_cons, List.length_nil, List.drop_succ_cons, List.drop_zero, List.take_succ_cons, List.take_zero, List.reverse_cons, List.reverse_nil, List.nil_append, List.cons_append, Option.toList_some, Option.toList_none, true_and, and_true, true_or, or_true, Nat.reduceAdd, Nat.reduceLT, Nat.reduceLeDiff, Option.some.injEq, exists_eq_left', Int.toNat_natCast, Nat.reduceSub, List.append_nil, List.replicate_succ, List.replicate_zero, mm_in, k0, k1, sh_2]
    refine ⟨fun z => no (by omega), fun z _ => ⟨fun y => no (by omega), fun y => ?_⟩⟩
    refine c20 _ _ _ ?_
    simp only [b_X11_hasSurface_20, i_xorg, i_shl, i_shr, i_ior, i_and1, i_lcg1, i_lcg2, i_ld, i_la, i_st, i_sa, i_c, i_inc, i_add, i_sub, i_mul, i_div, i_rem, i_remT, i_xor, i_dup, i_dup2, i_if, i_if2, i_sw, i_gi, i_gr, i_pi, i_pz, i_ial, i_ias, i_len, i_aal, i_gs, i_tal, i_cv, i_cs, i_ir, i_zr, i_vr, i_min, i_max, i_cpy, List.getElem?_cons_zero, List.getElem?_cons_succ, List.set_cons_zero, List.set_cons_succ, List.length_cons, List.length_nil, List.drop_succ_cons, List.drop_zero, List.take_succ_cons, List.take_zero, List.reverse_cons, List.reverse_nil, List.nil_append, List.cons_append, Option.toList_some, Option.toList_none, true_and, and_true, true_or, or_true, Nat.reduceAdd, Nat.reduceLT, Nat.reduceLeDiff, Option.some.injEq, exists_eq_left', Int.toNat_natCast, Nat.reduceSub, List.append_nil, List.replicate_succ, List.replicate_zero]
    exact hP 1 (bz_1 ⟨by omega, by omega⟩)
  · exact hT.elim
theorem sp_X11_hasSurface : mm_Sp yX11_hasSurface cX11_hasSurface 2 (some .boolean) rm_X11_hasSurface T_X11_hasSurface := mm_meth (by decide) (by
  intro av σ Post h
  unfold T_X11_hasSurface at h
  split at h
  · simp
  · exact h.elim) (fun p l e s m args below meth c G av σ Post hC hr _ hav hin hk hT => pv_X11_hasSurface av σ Post hav hin hk hT _ (bk_X11_hasSurface hC hr))
def T_X11_hasImage : mm_T := fun av σ Post => match av with
  | [.inr (some a), .inl b] => σ.2 = mm_R0 ∧ a = 0 ∧ ∀ z : Int, bz z (0 ≤ b ∧ b < 2) → Post (some (.inl z)) σ
  | _ => False
def rm_X11_hasImage : Room := { frames := 0, cells := 0, slots := 0, locals := 0 }
def b_X11_hasImage_0 (Ok : Nat → mm_K) (Post : Option mm_V → mm_S → Prop) (kf : Nat) : mm_K := i_ld 1 (i_if (fun x => x < 0) (Ok 17) (i_ld 1 (i_la 0 (i_gr 10 6 (i_len (i_if2 (fun x y => y ≤ x) (Ok 17) (i_c 1 (Ok 18))))))))
def b_X11_hasImage_17 (Ok : Nat → mm_K) (Post : Option mm_V → mm_S → Prop) (kf : Nat) : mm_K := i_c 0 (Ok 18)
def b_X11_hasImage_18 (Ok : Nat → mm_K) (Post : Option mm_V → mm_S → Prop) (kf : Nat) : mm_K := i_zr Post kf
def clo_X11_hasImage (Ok : Nat → mm_K) (Post : Option mm_V → mm_S → Prop) (kf : Nat) : Prop := mm_imp (b_X11_hasImage_0 Ok Post kf) (Ok 0) ∧ mm_imp (b_X11_hasImage_17 Ok Post kf) (Ok 17) ∧ mm_imp (b_X11_hasImage_18 Ok Post kf) (Ok 18)
set_option maxRecDepth 100000 in
set_option maxHeartbeats 4000000 in
theorem bk_X11_hasImage {p : Program} {l : Launch} {e : Env} {s : State} {m : MethodId} {args : Array Value} {below : List Frame} {meth : Method} {c : Code} {G : mm_G} {σ0 : mm_S} {Post : Option mm_V → mm_S → Prop} (hC : mm_C p G s m args meth c cX11_hasImage yX11_hasImage.cls) (hr : meth.sig.returnType = some .boolean) : clo_X11_hasImage (mm_O p l e rm_X11_hasImage s m args below meth c G σ0.2.2 (MQ below (mm_Qc G σ0 rm_X11_hasImage.cells rm_X11_hasImage.slots Post) args s rm_X11_hasImage.cells rm_X11_hasImage.slots (mm_A G))) Post σ0.2.2 := ⟨(by unfold b_X11_hasImage_0; exact (mm_ld_n hC dX11_hasImage_0 rfl (mm_if_lt hC (t := 17) dX11_hasImage_1 (by decide) (fun _ _ _ h => h) (mm_ld_n hC dX11_hasImage_4 rfl (mm_la_n hC dX11_hasImage_5 rfl (mm_gr hC cl_10 (by decide) rfl wd_333 dX11_hasImage_6 (mm_len hC dX11_hasImage_9 (mm_ic_ge hC (t := 17) dX11_hasImage_10 (by decide) (fun _ _ _ h => h) (mm_ic hC dX11_hasImage_13 ⟨by decide, by decide⟩ (mm_goto hC (t := 18) dX11_hasImage_14 (by decide) (fun _ _ _ h => h))))))))))), (by unfold b_X11_hasImage_17; exact (mm_ic hC dX11_hasImage_17 ⟨by decide, by decide⟩ (fun _ _ _ h => h))), (by unfold b_X11_hasImage_18; exact (mm_zr hC ⟨rfl, rfl⟩ hr dX11_hasImage_18))⟩
set_option maxRecDepth 100000 in
set_option maxHeartbeats 8000000 in
theorem pv_X11_hasImage : ∀ (av : List mm_V) (σ : mm_S) (Post : Option mm_V → mm_S → Prop), (∀ v ∈ av, mm_iv v) → (∀ a j, mm_in (σ.1 a j)) → σ.2.2 ≤ 348 → T_X11_hasImage av σ Post → ∀ Ok : Nat → mm_K, clo_X11_hasImage Ok Post σ.2.2 → Ok 0 (av ++ List.replicate (2 - av.length) (.inr none)) [] σ := by
  intro av σ Post hav hin hk hT Ok hcl
  obtain ⟨I, R0⟩ := σ
  unfold T_X11_hasImage at hT
  split at hT
  · rename_i a b
    obtain ⟨h0, hT⟩ := hT
    have h0 : R0 = mm_R0 := h0
    subst h0
    dsimp only at hT hin
    obtain ⟨c0, c17, c18⟩ := hcl
    obtain ⟨rfl, hP⟩ := hT
    obtain ⟨k0, k1, k2, k3, k4, k5, k6, k7⟩ := sh_0
    have q := sh_299.2.2.2.2.2.2
    have no : ¬ (0 ≤ b ∧ b < 2) → Ok 17 [.inr (some 0), .inl b] [] (I, mm_R0) := by
      intro hh
      refine c17 _ _ _ ?_
      simp only [b_X11_hasImage_17, i_xorg, i_shl, i_shr, i_ior, i_and1, i_lcg1, i_lcg2, i_ld, i_la, i_st, i_sa, i_c, i_inc, i_add, i_sub, i_mul, i_div, i_rem, i_remT, i_xor, i_dup, i_dup2, i_if, i_if2, i_sw, i_gi, i_gr, i_pi, i_pz, i_ial, i_ias, i_len, i_aal, i_gs, i_tal, i_cv, i_cs, i_ir, i_zr, i_vr, i_min, i_max, i_cpy, List.getElem?_cons_zero, List.getElem?_cons_succ, List.set_cons_zero, List.set_cons_succ, List.length_cons, List.length_nil, List.drop_succ_cons, List.drop_zero, List.take_succ_cons, List.take_zero, List.reverse_cons, List.reverse_nil, List.nil_append, List.cons_append, Option.toList_some, Option.toList_none, true_and, and_true, true_or, or_true, Nat.reduceAdd, Nat.reduceLT, Nat.reduceLeDiff, Option.some.injEq, exists_eq_left', Int.toNat_natCast, Nat.reduceSub, List.append_nil, List.replicate_succ, List.replicate_zero]
      refine c18 _ _ _ ?_
      simp only [b_X11_hasImage_18, i_xorg, i_shl, i_shr, i_ior, i_and1, i_lcg1, i_lcg2, i_ld, i_la, i_st, i_sa, i_c, i_inc, i_add, i_sub, i_mul, i_div, i_rem, i_remT, i_xor, i_dup, i_dup2, i_if, i_if2, i_sw, i_gi, i_gr, i_pi, i_pz, i_ial, i_ias, i_len, i_aal, i_gs, i_tal, i_cv, i_cs, i_ir, i_zr, i_vr, i_min, i_max, i_cpy, List.getElem?_cons_zero, List.getElem?_cons_succ, List.set_cons_zero, List.set_cons_succ, List.length_cons, List.length_nil, List.drop_succ_cons, List.drop_zero, List.take_succ_cons, List.take_zero, List.reverse_cons, List.reverse_nil, List.nil_append, List.cons_append, Option.toList_some, Option.toList_none, true_and, and_true, true_or, or_true, Nat.reduceAdd, Nat.reduceLT, Nat.reduceLeDiff, Option.some.injEq, exists_eq_left', Int.toNat_natCast, Nat.reduceSub, List.append_nil, List.replicate_succ, List.replicate_zero]
      exact hP 0 (bz_0 hh)
    refine c0 _ _ _ ?_
    simp only [b_X11_hasImage_0, i_xorg, i_shl, i_shr, i_ior, i_and1, i_lcg1, i_lcg2, i_ld, i_la, i_st, i_sa, i_c, i_inc, i_add, i_sub, i_mul, i_div, i_rem, i_remT, i_xor, i_dup, i_dup2, i_if, i_if2, i_sw, i_gi, i_gr, i_pi, i_pz, i_ial, i_ias, i_len, i_aal, i_gs, i_tal, i_cv, i_cs, i_ir, i_zr, i_vr, i_min, i_max, i_cpy, List.getElem?_cons_zero, List.getElem?_cons_succ, List.set_cons_zero, List.set_cons_succ, List.length_cons, List.length_nil, List.drop_succ_cons, List.drop_zero, List.take_succ_cons, List.take_zero, List.reverse_cons, List.reverse_nil, List.nil_append, List.cons_append, Option.toList_some, Option.toList_none, true_and, and_true, true_or, or_true, Nat.reduceAdd, Nat.reduceLT, Nat.reduceLeDiff, Option.some.injEq, exists_eq_left', Int.toNat_natCast, Nat.reduceSub, List.append_nil, List.replicate_succ, List.replicate_zero, mm_in, k0, k7, q]
    refine ⟨fun z => no (by omega), fun z => ⟨fun y => no (by omega), fun y => ?_⟩⟩
    refine c18 _ _ _ ?_
    simp only [b_X11_hasImage_18, i_xorg, i_shl, i_shr, i_ior, i_and1, i_lcg1, i_lcg2, i_ld, i_la, i_st, i_sa, i_c, i_inc, i_add, i_sub, i_mul, i_div, i_rem, i_remT, i_xor, i_dup, i_dup2, i_if, i_if2, i_sw, i_gi, i_gr, i_pi, i_pz, i_ial, i_ias, i_len, i_aal, i_gs, i_tal, i_cv, i_cs, i_ir, i_zr, i_vr, i_min, i_max, i_cpy, List.getElem?_cons_zero, List.getElem?_cons_succ, List.set_cons_zero, List.set_cons_succ, List.length_cons, List.length_nil, List.drop_succ_cons, List.drop_zero, List.take_succ_cons, List.take_zero, List.reverse_cons, List.reverse_nil, List.nil_append, List.cons_append, Option.toList_some, Option.toList_none, true_and, and_true, true_or, or_true, Nat.reduceAdd, Nat.reduceLT, Nat.reduceLeDiff, Option.some.injEq, exists_eq_left', Int.toNat_natCast, Nat.reduceSub, List.append_nil, List.replicate_succ, List.replicate_zero]
    exact hP 1 (bz_1 ⟨by omega, by omega⟩)
  · exact hT.elim
theorem sp_X11_hasImage : mm_Sp yX11_hasImage cX11_hasImage 2 (some .boolean) rm_X11_hasImage T_X11_hasImage := mm_meth (by decide) (by
  intro av σ Post h
  unfold T_X11_hasImage at h
  split at h
  · simp
  · exact h.elim) (fun p l e s m args below meth c G av σ Post hC hr _ hav hin hk hT => pv_X11_hasImage av σ Post hav hin hk hT _ (bk_X11_hasImage hC hr))
def T_X11_isKind : mm_T := fun av σ Post => match av with
  | [.inl b] => σ.2 = mm_R0 ∧ ∀ z : Int, bz z (0 ≤ b ∧ b < 7) → Post (some (.inl z)) σ
  | _ => False
def rm_X11_isKind : Room := { frames := 0, cells := 0, slots := 0, locals := 0 }
def b_X11_isKind_0 (Ok : Nat → mm_K) (Post : Option mm_V → mm_S → Prop) (kf : Nat) : mm_K := i_ld 0 (i_if (fun x => x < 0) (Ok 14) (i_ld 0 (i_c 7 (i_if2 (fun x y => y ≤ x) (Ok 14) (i_c 1 (Ok 15))))))
def b_X11_isKind_14 (Ok : Nat → mm_K) (Post : Option mm_V → mm_S → Prop) (kf : Nat) : mm_K := i_c 0 (Ok 15)
def b_X11_isKind_15 (Ok : Nat → mm_K) (Post : Option mm_V → mm_S → Prop) (kf : Nat) : mm_K := i_zr Post kf
def clo_X11_isKind (Ok : Nat → mm_K) (Post : Option mm_V → mm_S → Prop) (kf : Nat) : Prop := mm_imp (b_X11_isKind_0 Ok Post kf) (Ok 0) ∧ mm_imp (b_X11_isKind_14 Ok Post kf) (Ok 14) ∧ mm_imp (b_X11_isKind_15 Ok Post kf) (Ok 15)
set_option maxRecDepth 100000 in
set_option maxHeartbeats 4000000 in
theorem bk_X11_isKind {p : Program} {l : Launch} {e : Env} {s : State} {m : MethodId} {args : Array Value} {below : List Frame} {meth : Method} {c : Code} {G : mm_G} {σ0 : mm_S} {Post : Option mm_V → mm_S → Prop} (hC : mm_C p G s m args meth c cX11_isKind yX11_isKind.cls) (hr : meth.sig.returnType = some .boolean) : clo_X11_isKind (mm_O p l e rm_X11_isKind s m args below meth c G σ0.2.2 (MQ below (mm_Qc G σ0 rm_X11_isKind.cells rm_X11_isKind.slots Post) args s rm_X11_isKind.cells rm_X11_isKind.slots (mm_A G))) Post σ0.2.2 := ⟨(by unfold b_X11_isKind_0; exact (mm_ld_n hC dX11_isKind_0 rfl (mm_if_lt hC (t := 14) dX11_isKind_1 (by decide) (fun _ _ _ h => h) (mm_ld_n hC dX11_isKind_4 rfl (mm_bp hC dX11_isKind_5 ⟨⟨by decide, by decide⟩, by decide⟩ (mm_ic_ge hC (t := 14) dX11_isKind_7 (by decide) (fun _ _ _ h => h) (mm_ic hC dX11_isKind_10 ⟨by decide, by decide⟩ (mm_goto hC (t := 15) dX11_isKind_11 (by decide) (fun _ _ _ h => h))))))))), (by unfold b_X11_isKind_14; exact (mm_ic hC dX11_isKind_14 ⟨by decide, by decide⟩ (fun _ _ _ h => h))), (by unfold b_X11_isKind_15; exact (mm_zr hC ⟨rfl, rfl⟩ hr dX11_isKind_15))⟩
set_option maxRecDepth 100000 in
set_option maxHeartbeats 8000000 in
theorem pv_X11_isKind : ∀ (av : List mm_V) (σ : mm_S) (Post : Option mm_V → mm_S → Prop), (∀ v ∈ av, mm_iv v) → (∀ a j, mm_in (σ.1 a j)) → σ.2.2 ≤ 348 → T_X11_isKind av σ Post → ∀ Ok : Nat → mm_K, clo_X11_isKind Ok Post σ.2.2 → Ok 0 (av ++ List.replicate (1 - av.length) (.inr none)) [] σ := by
  intro av σ Post hav hin hk hT Ok hcl
  obtain ⟨I, R0⟩ := σ
  unfold T_X11_isKind at hT
  split at hT
  · rename_i b
    obtain ⟨h0, hT⟩ := hT
    have h0 : R0 = mm_R0 := h0
    subst h0
    dsimp only at hT hin
    obtain ⟨c0, c14, c15⟩ := hcl
    have hP := hT
    have no : ¬ (0 ≤ b ∧ b < 7) → Ok 14 [.inl b] [] (I, mm_R0) := by
      intro hh
      refine c14 _ _ _ ?_
      simp only [b_X11_isKind_14, i_xorg, i_shl, i_shr, i_ior, i_and1, i_lcg1, i_lcg2, i_ld, i_la, i_st, i_sa, i_c, i_inc, i_add, i_sub, i_mul, i_div, i_rem, i_remT, i_xor, i_dup, i_dup2, i_if, i_if2, i_sw, i_gi, i_gr, i_pi, i_pz, i_ial, i_ias, i_len, i_aal, i_gs, i_tal, i_cv, i_cs, i_ir, i_zr, i_vr, i_min, i_max, i_cpy, List.getElem?_cons_zero, List.getElem?_cons_succ, List.set_cons_zero, List.set_cons_succ, List.length_cons, List.length_nil, List.drop_succ_cons, List.drop_zero, List.take_succ_cons, List.take_zero, List.reverse_cons, List.reverse_nil, List.nil_append, List.cons_append, Option.toList_some, Option.toList_none, true_and, and_true, true_or, or_true, Nat.reduceAdd, Nat.reduceLT, Nat.reduceLeDiff, Option.some.injEq, exists_eq_left', Int.toNat_natCast, Nat.reduceSub, List.append_nil, List.replicate_succ, List.replicate_zero]
      refine c15 _ _ _ ?_
      simp only [b_X11_isKind_15, i_xorg, i_shl, i_shr, i_ior, i_and1, i_lcg1, i_lcg2, i_ld, i_la, i_st, i_sa, i_c, i_inc, i_add, i_sub, i_mul, i_div, i_rem, i_remT, i_xor, i_dup, i_dup2, i_if, i_if2, i_sw, i_gi, i_gr, i_pi, i_pz, i_ial, i_ias, i_len, i_aal, i_gs, i_tal, i_cv, i_cs, i_ir, i_zr, i_vr, i_min, i_max, i_cpy, List.getElem?_cons_zero, List.getElem?_cons_succ, List.set_cons_zero, List.set_cons_succ, List.length_cons, List.length_nil, List.drop_succ_cons, List.drop_zero, List.take_succ_cons, List.take_zero, List.reverse_cons, List.reverse_nil, List.nil_append, List.cons_append, Option.toList_some, Option.toList_none, true_and, and_true, true_or, or_true, Nat.reduceAdd, Nat.reduceLT, Nat.reduceLeDiff, Option.some.injEq, exists_eq_left', Int.toNat_natCast, Nat.reduceSub, List.append_nil, List.replicate_succ, List.replicate_zero]
      exact hP 0 (bz_0 hh)
    refine c0 _ _ _ ?_
    simp only [b_X11_isKind_0, i_xorg, i_shl, i_shr, i_ior, i_and1, i_lcg1, i_lcg2, i_ld, i_la, i_st, i_sa, i_c, i_inc, i_add, i_sub, i_mul, i_div, i_rem, i_remT, i_xor, i_dup, i_dup2, i_if, i_if2, i_sw, i_gi, i_gr, i_pi, i_pz, i_ial, i_ias, i_len, i_aal, i_gs, i_tal, i_cv, i_cs, i_ir, i_zr, i_vr, i_min, i_max, i_cpy, List.getElem?_cons_zero, List.getElem?_cons_succ, List.set_cons_zero, List.set_cons_succ, List.length_cons, List.length_nil, List.drop_succ_cons, List.drop_zero, List.take_succ_cons, List.take_zero, List.reverse_cons, List.reverse_nil, List.nil_append, List.cons_append, Option.toList_some, Option.toList_none, true_and, and_true, true_or, or_true, Nat.reduceAdd, Nat.reduceLT, Nat.reduceLeDiff, Option.some.injEq, exists_eq_left', Int.toNat_natCast, Nat.reduceSub, List.append_nil, List.replicate_succ, List.replicate_zero, mm_in,]
    refine ⟨fun z => no (by omega), fun z => ⟨fun y => no (by omega), fun y => ?_⟩⟩
    refine c15 _ _ _ ?_
    simp only [b_X11_isKind_15, i_xorg, i_shl, i_shr, i_ior, i_and1, i_lcg1, i_lcg2, i_ld, i_la, i_st, i_sa, i_c, i_inc, i_add, i_sub, i_mul, i_div, i_rem, i_remT, i_xor, i_dup, i_dup2, i_if, i_if2, i_sw, i_gi, i_gr, i_pi, i_pz, i_ial, i_ias, i_len, i_aal, i_gs, i_tal, i_cv, i_cs, i_ir, i_zr, i_vr, i_min, i_max, i_cpy, List.getElem?_cons_zero, List.getElem?_cons_succ, List.set_cons_zero, List.set_cons_succ, List.length_cons, List.length_nil, List.drop_succ_cons, List.drop_zero, List.take_succ_cons, List.take_zero, List.reverse_cons, List.reverse_nil, List.nil_append, List.cons_append, Option.toList_some, Option.toList_none, true_and, and_true, true_or, or_true, Nat.reduceAdd, Nat.reduceLT, Nat.reduceLeDiff, Option.some.injEq, exists_eq_left', Int.toNat_natCast, Nat.reduceSub, List.append_nil, List.replicate_succ, List.replicate_zero]
    exact hP 1 (bz_1 ⟨by omega, by omega⟩)
  · exact hT.elim
theorem sp_X11_isKind : mm_Sp yX11_isKind cX11_isKind 1 (some .boolean) rm_X11_isKind T_X11_isKind := mm_meth (by decide) (by
  intro av σ Post h
  unfold T_X11_isKind at h
  split at h
  · simp
  · exact h.elim) (fun p l e s m args below meth c G av σ Post hC hr _ hav hin hk hT => pv_X11_isKind av σ Post hav hin hk hT _ (bk_X11_isKind hC hr))
theorem sheet2 {s : Nat} (h : s < 6) : (mm_sh (6 + 2 * s)).1 = 6 ∧ mm_sh (7 + 2 * s) = (100, 21) ∧ mm_Rs (6 + 2 * s) 0 = some (7 + 2 * s) := by
  obtain ⟨s0, s1, s2, s3, s4⟩ := sh_world 2 (by decide) sh_2
  obtain ⟨a, b⟩ := s4 s h
  rw [show 2 + 4 + 2 * s = 6 + 2 * s by omega] at a
  rw [show 2 + 5 + 2 * s = 7 + 2 * s by omega] at b
  have e : (mm_sh (6 + 2 * s)).1 = 6 := by rw [a]
  refine ⟨e, b, ?_⟩
  rw [Rs_sheet e, show 6 + 2 * s + 1 = 7 + 2 * s by omega]
theorem Rs_5 (j : Nat) : mm_Rs 5 j = some (6 + 2 * j) := Rs_ws sh_2 j
theorem sh_5 : mm_sh 5 = (101, 6) := by decide +kernel
def wallR (pa wy : Nat → Int) (n b f q z : Int) : Prop :=
  if ¬ ((0 ≤ b ∧ b < n) ∧ 0 ≤ f ∧ f < 4) then z = -1000000001 else if q < 0 ∨ 2 < q then z = -1000000002 else if pa (4 * b + f).toNat < 0 then z = -1
  else if q = 0 then z = pa (4 * b + f).toNat / 4 else if q = 1 then z = pa (4 * b + f).toNat % 4 else z = wy (4 * b + f).toNat
def T_X11_wall : mm_T := fun av σ Post => match av with
  | [.inr (some a), .inl b, .inl f, .inl q] => σ.2 = mm_R0 ∧ a = 0 ∧ ∃ n : Nat, gw σ.1 n ∧ ∀ z : Int, wallR (σ.1 3) (σ.1 4) n b f q z → Post (some (.inl z)) σ
  | _ => False
def rm_X11_wall : Room := { frames := 2, cells := 0, slots := 0, locals := 43 }
def b_X11_wall_0 (Ok : Nat → mm_K) (Post : Option mm_V → mm_S → Prop) (kf : Nat) : mm_K := i_la 0 (i_ld 1 (i_ld 2 (i_cv 10 2 T_X11_hasFace (i_if (fun x => ¬ x = 0) (i_ld 3 (i_if (fun x => x < 0) (Ok 21) (i_ld 3 (i_c 2 (i_if2 (fun x y => x ≤ y) (i_c 4 (i_ld 1 (i_mul (i_ld 2 (i_add (i_st 4 (i_la 0 (i_gr 10 0 (i_gr 9 2 (i_ld 4 (i_ial (i_st 5 (i_ld 5 (i_if (fun x => 0 ≤ x) (i_ld 3 (i_sw Ok 86 [(0, 76), (1, 81)])) (i_c (-1) (i_ir Post kf)))))))))))))))) (Ok 21)))))) (i_c (-1000000001) (i_ir Post kf))))))
def b_X11_wall_21 (Ok : Nat → mm_K) (Post : Option mm_V → mm_S → Prop) (kf : Nat) : mm_K := i_c (-1000000002) (i_ir Post kf)
def b_X11_wall_76 (Ok : Nat → mm_K) (Post : Option mm_V → mm_S → Prop) (kf : Nat) : mm_K := i_ld 5 (i_c 4 (i_div (i_ir Post kf)))
def b_X11_wall_81 (Ok : Nat → mm_K) (Post : Option mm_V → mm_S → Prop) (kf : Nat) : mm_K := i_ld 5 (i_c 4 (i_rem (i_ir Post kf)))
def b_X11_wall_86 (Ok : Nat → mm_K) (Post : Option mm_V → mm_S → Prop) (kf : Nat) : mm_K := i_la 0 (i_gr 10 0 (i_gr 9 3 (i_ld 4 (i_ial (i_ir Post kf)))))
def clo_X11_wall (Ok : Nat → mm_K) (Post : Option mm_V → mm_S → Prop) (kf : Nat) : Prop := mm_imp (b_X11_wall_0 Ok Post kf) (Ok 0) ∧ mm_imp (b_X11_wall_21 Ok Post kf) (Ok 21) ∧ mm_imp (b_X11_wall_76 Ok Post kf) (Ok 76) ∧ mm_imp (b_X11_wall_81 Ok Post kf) (Ok 81) ∧ mm_imp (b_X11_wall_86 Ok Post kf) (Ok 86)
set_option maxRecDepth 100000 in
set_option maxHeartbeats 4000000 in
theorem bk_X11_wall {p : Program} {l : Launch} {e : Env} {s : State} {m : MethodId} {args : Array Value} {below : List Frame} {meth : Method} {c : Code} {G : mm_G} {σ0 : mm_S} {Post : Option mm_V → mm_S → Prop} (hC : mm_C p G s m args meth c cX11_wall yX11_wall.cls) (hr : meth.sig.returnType = some .int) : clo_X11_wall (mm_O p l e rm_X11_wall s m args below meth c G σ0.2.2 (MQ below (mm_Qc G σ0 rm_X11_wall.cells rm_X11_wall.slots Post) args s rm_X11_wall.cells rm_X11_wall.slots (mm_A G))) Post σ0.2.2 := ⟨(by unfold b_X11_wall_0; exact (mm_la_n hC dX11_wall_0 rfl (mm_ld_n hC dX11_wall_1 rfl (mm_ld_n hC dX11_wall_2 rfl (mm_cv hC sp_X11_hasFace ⟨rfl, rfl⟩ cl_10 wd_542 wd_544 wd_9 wd_545 wd_65 ⟨by decide, by decide, by decide +kernel⟩ ⟨by decide, by decide⟩ dX11_wall_3 (mm_if_ne hC (t := 12) dX11_wall_6 (by decide) (mm_ld_n hC dX11_wall_12 rfl (mm_if_lt hC (t := 21) dX11_wall_13 (by decide) (fun _ _ _ h => h) (mm_ld_n hC dX11_wall_16 rfl (mm_ic hC dX11_wall_17 ⟨by decide, by decide⟩ (mm_ic_le hC (t := 24) dX11_wall_18 (by decide) (mm_ic hC dX11_wall_24 ⟨by decide, by decide⟩ (mm_ld_n hC dX11_wall_25 rfl (mm_mul hC dX11_wall_26 (mm_ld_n hC dX11_wall_27 rfl (mm_add hC dX11_wall_28 (mm_st hC dX11_wall_29 (mm_la_n hC dX11_wall_31 rfl (mm_gr hC cl_10 (by decide) rfl wd_327 dX11_wall_32 (mm_gr hC cl_9 (by decide) rfl wd_128 dX11_wall_35 (mm_ld hC dX11_wall_38 (mm_ial hC dX11_wall_40 (mm_st hC dX11_wall_41 (mm_ld hC dX11_wall_43 (mm_if_ge hC (t := 50) dX11_wall_45 (by decide) (mm_ld_n hC dX11_wall_50 rfl (mm_lsw hC dX11_wall_51 rfl (by decide) (by decide) (by decide))) (mm_ic hC dX11_wall_48 ⟨by decide, by decide⟩ (mm_ir hC ⟨rfl, rfl⟩ hr dX11_wall_49)))))))))))))))) (fun _ _ _ h => h)))))) (mm_ldc hC dX11_wall_9 ⟨by decide, by decide⟩ wd_550 (mm_ir hC ⟨rfl, rfl⟩ hr dX11_wall_11)))))))), (by unfold b_X11_wall_21; exact (mm_ldc hC dX11_wall_21 ⟨by decide, by decide⟩ wd_361 (mm_ir hC ⟨rfl, rfl⟩ hr dX11_wall_23))), (by unfold b_X11_wall_76; exact (mm_ld hC dX11_wall_76 (mm_ic hC dX11_wall_78 ⟨by decide, by decide⟩ (mm_div hC dX11_wall_79 (mm_ir hC ⟨rfl, rfl⟩ hr dX11_wall_80))))), (by unfold b_X11_wall_81; exact (mm_ld hC dX11_wall_81 (mm_ic hC dX11_wall_83 ⟨by decide, by decide⟩ (mm_rem hC dX11_wall_84 (mm_ir hC ⟨rfl, rfl⟩ hr dX11_wall_85))))), (by unfold b_X11_wall_86; exact (mm_la_n hC dX11_wall_86 rfl (mm_gr hC cl_10 (by decide) rfl wd_327 dX11_wall_87 (mm_gr hC cl_9 (by decide) rfl wd_131 dX11_wall_90 (mm_ld hC dX11_wall_93 (mm_ial hC dX11_wall_95 (mm_ir hC ⟨rfl, rfl⟩ hr dX11_wall_96)))))))⟩
set_option maxRecDepth 100000 in
set_option maxHeartbeats 8000000 in
theorem pv_X11_wall : ∀ (av : List mm_V) (σ : mm_S) (Post : Option mm_V → mm_S → Prop), (∀ v ∈ av, mm_iv v) → (∀ a j, mm_in (σ.1 a j)) → σ.2.2 ≤ 348 → T_X11_wall av σ Post → ∀ Ok : Nat → mm_K, clo_X11_wall Ok Post σ.2.2 → Ok 0 (av ++ List.replicate (6 - av.length) (.inr none)) [] σ := by
  intro av σ Post hav hin hk hT Ok hcl
  obtain ⟨I, R0⟩ := σ
  unfold T_X11_wall at hT
  split at hT
  · rename_i a b f q
    obtain ⟨h0, hT⟩ := hT
    have h0 : R0 = mm_R0 := h0
    subst h0
    dsimp only at hT hin
    obtain ⟨c0, c21, c76, c81, c86⟩ := hcl
    obtain ⟨rfl, n, ⟨hn, hn1, hn3, hg⟩, hP⟩ := hT
    obtain ⟨k0, k1, k2, k3, k4, k5, k6, k7⟩ := sh_0
    obtain ⟨w1, w2, w3, w4, w5, w6⟩ := Rs_2
    have out : ((0 ≤ b ∧ b < (n : Int)) ∧ 0 ≤ f ∧ f < 4) → (q < 0 ∨ 2 < q) → Ok 21 [.inr (some 0), .inl b, .inl f, .inl q, .inr none, .inr none] [] (I, mm_R0) := by
      intro h1 h2
      refine c21 _ _ _ ?_
      simp only [b_X11_wall_21, i_xorg, i_shl, i_shr, i_ior, i_and1, i_lcg1, i_lcg2, i_ld, i_la, i_st, i_sa, i_c, i_inc, i_add, i_sub, i_mul, i_div, i_rem, i_remT, i_xor, i_dup, i_dup2, i_if, i_if2, i_sw, i_gi, i_gr, i_pi, i_pz, i_ial, i_ias, i_len, i_aal, i_gs, i_tal, i_cv, i_cs, i_ir, i_zr, i_vr, i_min, i_max, i_cpy, List.getElem?_cons_zero, List.getElem?_cons_succ, List.set_cons_zero, List.set_cons_succ, List.length_cons, List.length_nil, List.drop_succ_cons, List.drop_zero, List.take_succ_cons, List.take_zero, List.reverse_cons, List.reverse_nil, List.nil_append, List.cons_append, Option.toList_some, Option.toList_none, true_and, and_true, true_or, or_true, Nat.reduceAdd, Nat.reduceLT, Nat.reduceLeDiff, Option.some.injEq, exists_eq_left', Int.toNat_natCast, Nat.reduceSub, List.append_nil, List.replicate_succ, List.replicate_zero]
      refine hP _ ?_
      unfold wallR
      rw [if_neg (fun w => w h1), if_pos h2]
    refine c0 _ _ _ ?_
    simp only [b_X11_wall_0, i_xorg, i_shl, i_shr, i_ior, i_and1, i_lcg1, i_lcg2, i_ld, i_la, i_st, i_sa, i_c, i_inc, i_add, i_sub, i_mul, i_div, i_rem, i_remT, i_xor, i_dup, i_dup2, i_if, i_if2, i_sw, i_gi, i_gr, i_pi, i_pz, i_ial, i_ias, i_len, i_aal, i_gs, i_tal, i_cv, i_cs, i_ir, i_zr, i_vr, i_min, i_max, i_cpy, List.getElem?_cons_zero, List.getElem?_cons_succ, List.set_cons_zero, List.set_cons_succ, List.length_cons, List.length_nil, List.drop_succ_cons, List.drop_zero, List.take_succ_cons, List.take_zero, List.reverse_cons, List.reverse_nil, List.nil_append, List.cons_append, Option.toList_some, Option.toList_none, true_and, and_true, true_or, or_true, Nat.reduceAdd, Nat.reduceLT, Nat.reduceLeDiff, Option.some.injEq, exists_eq_left', Int.toNat_natCast, Nat.reduceSub, List.append_nil, List.replicate_succ, List.replicate_zero, mm_in, k0, k1, T_X11_hasFace, w1, w4, w5, hn]
    intro z hz
    refine ⟨fun y => ?_, fun y => ?_⟩
    · have h1 : (0 ≤ b ∧ b < (n : Int)) ∧ 0 ≤ f ∧ f < 4 := by
        rcases hz with ⟨z1, z2⟩ | ⟨z1, z2⟩
        · exact z2
        · omega
      refine ⟨fun x => out h1 (Or.inl x), fun x => ⟨fun x2 => ⟨⟨by omega, by omega⟩, ⟨by omega, by omega⟩, ⟨by omega, by omega⟩, fun _ => ⟨fun x3 => ⟨fun x4 => ?_, fun x4 => ⟨fun x5 => ?_, fun x5 => ?_⟩⟩, fun x3 => ?_⟩⟩, fun x2 => out h1 (Or.inr (by omega))⟩⟩
      · refine c76 _ _ _ ?_
        simp only [b_X11_wall_76, i_xorg, i_shl, i_shr, i_ior, i_and1, i_lcg1, i_lcg2, i_ld, i_la, i_st, i_sa, i_c, i_inc, i_add, i_sub, i_mul, i_div, i_rem, i_remT, i_xor, i_dup, i_dup2, i_if, i_if2, i_sw, i_gi, i_gr, i_pi, i_pz, i_ial, i_ias, i_len, i_aal, i_gs, i_tal, i_cv, i_cs, i_ir, i_zr, i_vr, i_min, i_max, i_cpy, List.getElem?_cons_zero, List.getElem?_cons_succ, List.set_cons_zero, List.set_cons_succ, List.length_cons, List.length_nil, List.drop_succ_cons, List.drop_zero, List.take_succ_cons, List.take_zero, List.reverse_cons, List.reverse_nil, List.nil_append, List.cons_append, Option.toList_some, Option.toList_none, true_and, and_true, true_or, or_true, Nat.reduceAdd, Nat.reduceLT, Nat.reduceLeDiff, Option.some.injEq, exists_eq_left', Int.toNat_natCast, Nat.reduceSub, List.append_nil, List.replicate_succ, List.replicate_zero, mm_in,]
        refine ⟨⟨by omega, by omega⟩, hP _ ?_⟩
        unfold wallR
        rw [if_neg (fun w => w h1), if_neg (by omega), if_neg (by omega), if_pos x4]
      · refine c81 _ _ _ ?_
        simp only [b_X11_wall_81, i_xorg, i_shl, i_shr, i_ior, i_and1, i_lcg1, i_lcg2, i_ld, i_la, i_st, i_sa, i_c, i_inc, i_add, i_sub, i_mul, i_div, i_rem, i_remT, i_xor, i_dup, i_dup2, i_if, i_if2, i_sw, i_gi, i_gr, i_pi, i_pz, i_ial, i_ias, i_len, i_aal, i_gs, i_tal, i_cv, i_cs, i_ir, i_zr, i_vr, i_min, i_max, i_cpy, List.getElem?_cons_zero, List.getElem?_cons_succ, List.set_cons_zero, List.set_cons_succ, List.length_cons, List.length_nil, List.drop_succ_cons, List.drop_zero, List.take_succ_cons, List.take_zero, List.reverse_cons, List.reverse_nil, List.nil_append, List.cons_append, Option.toList_some, Option.toList_none, true_and, and_true, true_or, or_true, Nat.reduceAdd, Nat.reduceLT, Nat.reduceLeDiff, Option.some.injEq, exists_eq_left', Int.toNat_natCast, Nat.reduceSub, List.append_nil, List.replicate_succ, List.replicate_zero, mm_in,]
        refine ⟨⟨by omega, by omega⟩, hP _ ?_⟩
        unfold wallR
        rw [if_neg (fun w => w h1), if_neg (by omega), if_neg (by omega), if_neg x4, if_pos x5]
      · refine c86 _ _ _ ?_
        simp only [b_X11_wall_86, i_xorg, i_shl, i_shr, i_ior, i_and1, i_lcg1, i_lcg2, i_ld, i_la, i_st, i_sa, i_c, i_inc, i_add, i_sub, i_mul, i_div, i_rem, i_remT, i_xor, i_dup, i_dup2, i_if, i_if2, i_sw, i_gi, i_gr, i_pi, i_pz, i_ial, i_ias, i_len, i_aal, i_gs, i_tal, i_cv, i_cs, i_ir, i_zr, i_vr, i_min, i_max, i_cpy, List.getElem?_cons_zero, List.getElem?_cons_succ, List.set_cons_zero, List.set_cons_succ, List.length_cons, List.length_nil, List.drop_succ_cons, List.drop_zero, List.take_succ_cons, List.take_zero, List.reverse_cons, List.reverse_nil, List.nil_append, List.cons_append, Option.toList_some, Option.toList_none, true_and, and_true, true_or, or_true, Nat.reduceAdd, Nat.reduceLT, Nat.reduceLeDiff, Option.some.injEq, exists_eq_left', Int.toNat_natCast, Nat.reduceSub, List.append_nil, List.replicate_succ, List.replicate_zero, mm_in, k0, k1, w2, w4, w6]
        refine ⟨⟨by omega, by omega⟩, fun _ => hP _ ?_⟩
        unfold wallR
        rw [if_neg (fun w => w h1), if_neg (by omega), if_neg (by omega), if_neg x4, if_neg x5]
      · refine hP _ ?_
        unfold wallR
        rw [if_neg (fun w => w h1), if_neg (by omega), if_pos (by omega)]
    · refine hP _ ?_
      unfold wallR
      rw [if_pos (fun w => ?_)]
      rcases hz with ⟨z1, z2⟩ | ⟨z1, z2⟩
      · omega
      · exact z2 w
  · exact hT.elim
theorem sp_X11_wall : mm_Sp yX11_wall cX11_wall 6 (some .int) rm_X11_wall T_X11_wall := mm_meth (by decide) (by
  intro av σ Post h
  unfold T_X11_wall at h
  split at h
  · simp
  · exact h.elim) (fun p l e s m args below meth c G av σ Post hC hr _ hav hin hk hT => pv_X11_wall av σ Post hav hin hk hT _ (bk_X11_wall hC hr))
def cornerR (n : Nat) (pa wy : Nat → Int) (b v q z : Int) : Prop :=
  if ¬ ((0 ≤ b ∧ b < n) ∧ 0 ≤ v ∧ v < 4) then z = -1000000001 else if q < 0 ∨ 4 < q then z = -1000000002
  else if q = 0 then z = nr (skel n pa wy).1 ((skel n pa wy).1 (4 * b + v).toNat) else z = acr pa wy (4 * b + q - 1).toNat v.toNat
def T_X11_corner : mm_T := fun av σ Post => match av with
  | [.inr (some a), .inl b, .inl f, .inl q] => σ.2 = mm_R0 ∧ a = 0 ∧ ∃ n : Nat, gw σ.1 n ∧ ∀ (I' : Nat → Nat → Int) (z : Int), scr I' σ.1 → cornerR n (σ.1 3) (σ.1 4) b f q z → Post (some (.inl z)) (I', mm_R0)
  | _ => False
def rm_X11_corner : Room := { frames := 5, cells := 0, slots := 0, locals := 119 }
def b_X11_corner_0 (Ok : Nat → mm_K) (Post : Option mm_V → mm_S → Prop) (kf : Nat) : mm_K := i_la 0 (i_ld 1 (i_ld 2 (i_cv 10 2 T_X11_hasFace (i_if (fun x => ¬ x = 0) (i_ld 3 (i_if (fun x => x < 0) (Ok 21) (i_ld 3 (i_c 4 (i_if2 (fun x y => x ≤ y) (i_ld 3 (i_if (fun x => x ≤ 0) (i_la 0 (i_gr 10 1 (i_la 0 (i_gr 10 0 (i_cv 7 1 T_X8_read (i_la 0 (i_gr 10 1 (i_gr 7 3 (i_c 4 (i_ld 1 (i_mul (i_ld 2 (i_add (i_ial (i_ir Post kf))))))))))))))) (i_la 0 (i_gr 10 0 (i_c 4 (i_ld 1 (i_mul (i_ld 3 (i_add (i_c 1 (i_sub (i_ld 2 (i_cv 9 2 T_X10_across (i_ir Post kf)))))))))))))) (Ok 21)))))) (i_c (-1000000001) (i_ir Post kf))))))
def b_X11_corner_21 (Ok : Nat → mm_K) (Post : Option mm_V → mm_S → Prop) (kf : Nat) : mm_K := i_c (-1000000002) (i_ir Post kf)
def clo_X11_corner (Ok : Nat → mm_K) (Post : Option mm_V → mm_S → Prop) (kf : Nat) : Prop := mm_imp (b_X11_corner_0 Ok Post kf) (Ok 0) ∧ mm_imp (b_X11_corner_21 Ok Post kf) (Ok 21)
set_option maxRecDepth 100000 in
set_option maxHeartbeats 4000000 in
theorem bk_X11_corner {p : Program} {l : Launch} {e : Env} {s : State} {m : MethodId} {args : Array Value} {below : List Frame} {meth : Method} {c : Code} {G : mm_G} {σ0 : mm_S} {Post : Option mm_V → mm_S → Prop} (hC : mm_C p G s m args meth c cX11_corner yX11_corner.cls) (hr : meth.sig.returnType = some .int) : clo_X11_corner (mm_O p l e rm_X11_corner s m args below meth c G σ0.2.2 (MQ below (mm_Qc G σ0 rm_X11_corner.cells rm_X11_corner.slots Post) args s rm_X11_corner.cells rm_X11_corner.slots (mm_A G))) Post σ0.2.2 := ⟨(by unfold b_X11_corner_0; exact (mm_la_n hC dX11_corner_0 rfl (mm_ld_n hC dX11_corner_1 rfl (mm_ld_n hC dX11_corner_2 rfl (mm_cv hC sp_X11_hasFace ⟨rfl, rfl⟩ cl_10 wd_542 wd_544 wd_9 wd_545 wd_65 ⟨by decide, by decide, by decide +kernel⟩ ⟨by decide, by decide⟩ dX11_corner_3 (mm_if_ne hC (t := 12) dX11_corner_6 (by decide) (mm_ld_n hC dX11_corner_12 rfl (mm_if_lt hC (t := 21) dX11_corner_13 (by decide) (fun _ _ _ h => h) (mm_ld_n hC dX11_corner_16 rfl (mm_ic hC dX11_corner_17 ⟨by decide, by decide⟩ (mm_ic_le hC (t := 24) dX11_corner_18 (by decide) (mm_ld_n hC dX11_corner_24 rfl (mm_if_le hC (t := 44) dX11_corner_25 (by decide) (mm_la_n hC dX11_corner_44 rfl (mm_gr hC cl_10 (by decide) rfl wd_328 dX11_corner_45 (mm_la_n hC dX11_corner_48 rfl (mm_gr hC cl_10 (by decide) rfl wd_327 dX11_corner_49 (mm_cv hC sp_X8_read ⟨rfl, rfl⟩ cl_7 wd_362 wd_363 wd_364 wd_365 wd_70 ⟨by decide, by decide, by decide +kernel⟩ ⟨by decide, by decide⟩ dX11_corner_52 (mm_la_n hC dX11_corner_55 rfl (mm_gr hC cl_10 (by decide) rfl wd_328 dX11_corner_56 (mm_gr hC cl_7 (by decide) rfl wd_169 dX11_corner_59 (mm_ic hC dX11_corner_62 ⟨by decide, by decide⟩ (mm_ld_n hC dX11_corner_63 rfl (mm_mul hC dX11_corner_64 (mm_ld_n hC dX11_corner_65 rfl (mm_add hC dX11_corner_66 (mm_ial hC dX11_corner_67 (mm_ir hC ⟨rfl, rfl⟩ hr dX11_corner_68))))))))))))))) (mm_la_n hC dX11_corner_28 rfl (mm_gr hC cl_10 (by decide) rfl wd_327 dX11_corner_29 (mm_ic hC dX11_corner_32 ⟨by decide, by decide⟩ (mm_ld_n hC dX11_corner_33 rfl (mm_mul hC dX11_corner_34 (mm_ld_n hC dX11_corner_35 rfl (mm_add hC dX11_corner_36 (mm_ic hC dX11_corner_37 ⟨by decide, by decide⟩ (mm_sub hC dX11_corner_38 (mm_ld_n hC dX11_corner_39 rfl (mm_cv hC sp_X10_across ⟨rfl, rfl⟩ cl_9 wd_555 wd_383 wd_384 wd_385 wd_67 ⟨by decide, by decide, by decide +kernel⟩ ⟨by decide, by decide⟩ dX11_corner_40 (mm_ir hC ⟨rfl, rfl⟩ hr dX11_corner_43)))))))))))))) (fun _ _ _ h => h)))))) (mm_ldc hC dX11_corner_9 ⟨by decide, by decide⟩ wd_550 (mm_ir hC ⟨rfl, rfl⟩ hr dX11_corner_11)))))))), (by unfold b_X11_corner_21; exact (mm_ldc hC dX11_corner_21 ⟨by decide, by decide⟩ wd_361 (mm_ir hC ⟨rfl, rfl⟩ hr dX11_corner_23)))⟩
set_option maxRecDepth 100000 in
set_option maxHeartbeats 8000000 in
theorem pv_X11_corner : ∀ (av : List mm_V) (σ : mm_S) (Post : Option mm_V → mm_S → Prop), (∀ v ∈ av, mm_iv v) → (∀ a j, mm_in (σ.1 a j)) → σ.2.2 ≤ 348 → T_X11_corner av σ Post → ∀ Ok : Nat → mm_K, clo_X11_corner Ok Post σ.2.2 → Ok 0 (av ++ List.replicate (4 - av.length) (.inr none)) [] σ := by
  intro av σ Post hav hin hk hT Ok hcl
  obtain ⟨I, R0⟩ := σ
  unfold T_X11_corner at hT
  split at hT
  · rename_i a b f q
    obtain ⟨h0, hT⟩ := hT
    have h0 : R0 = mm_R0 := h0
    subst h0
    dsimp only at hT hin
    obtain ⟨c0, c21⟩ := hcl
    obtain ⟨rfl, n, hgw, hP⟩ := hT
    obtain ⟨hn, hn1, hn3, hg⟩ := id hgw
    obtain ⟨k0, k1, k2, k3, k4, k5, k6, k7⟩ := sh_0
    obtain ⟨p0, p1, p2, p3, p4, p5, p6⟩ := Rs_18
    obtain ⟨s0, s1, s2, s3, s4, s5, s6, s7, s8, s9, s10⟩ := sh_18
    obtain ⟨w1, w2, w3, w4, w5, w6⟩ := Rs_2
    have out : ((0 ≤ b ∧ b < (n : Int)) ∧ 0 ≤ f ∧ f < 4) → (q < 0 ∨ 4 < q) → Ok 21 [.inr (some 0), .inl b, .inl f, .inl q] [] (I, mm_R0) := by
      intro h1 h2
      refine c21 _ _ _ ?_
      simp only [b_X11_corner_21, i_xorg, i_shl, i_shr, i_ior, i_and1, i_lcg1, i_lcg2, i_ld, i_la, i_st, i_sa, i_c, i_inc, i_add, i_sub, i_mul, i_div, i_rem, i_remT, i_xor, i_dup, i_dup2, i_if, i_if2, i_sw, i_gi, i_gr, i_pi, i_pz, i_ial, i_ias, i_len, i_aal, i_gs, i_tal, i_cv, i_cs, i_ir, i_zr, i_vr, i_min, i_max, i_cpy, List.getElem?_cons_zero, List.getElem?_cons_succ, List.set_cons_zero, List.set_cons_succ, List.length_cons, List.length_nil, List.drop_succ_cons, List.drop_zero, List.take_succ_cons, List.take_zero, List.reverse_cons, List.reverse_nil, List.nil_append, List.cons_append, Option.toList_some, Option.toList_none, true_and, and_true, true_or, or_true, Nat.reduceAdd, Nat.reduceLT, Nat.reduceLeDiff, Option.some.injEq, exists_eq_left', Int.toNat_natCast, Nat.reduceSub, List.append_nil, List.replicate_succ, List.replicate_zero]
      refine hP I _ (scr_rf I) ?_
      unfold cornerR
      rw [if_neg (fun w => w h1), if_pos h2]
    refine c0 _ _ _ ?_
    simp only [b_X11_corner_0, i_xorg, i_shl, i_shr, i_ior, i_and1, i_lcg1, i_lcg2, i_ld, i_la, i_st, i_sa, i_c, i_inc, i_add, i_sub, i_mul, i_div, i_rem, i_remT, i_xor, i_dup, i_dup2, i_if, i_if2, i_sw, i_gi, i_gr, i_pi, i_pz, i_ial, i_ias, i_len, i_aal, i_gs, i_tal, i_cv, i_cs, i_ir, i_zr, i_vr, i_min, i_max, i_cpy, List.getElem?_cons_zero, List.getElem?_cons_succ, List.set_cons_zero, List.set_cons_succ, List.length_cons, List.length_nil, List.drop_succ_cons, List.drop_zero, List.take_succ_cons, List.take_zero, List.reverse_cons, List.reverse_nil, List.nil_append, List.cons_append, Option.toList_some, Option.toList_none, true_and, and_true, true_or, or_true, Nat.reduceAdd, Nat.reduceLT, Nat.reduceLeDiff, Option.some.injEq, exists_eq_left', Int.toNat_natCast, Nat.reduceSub, List.append_nil, List.replicate_succ, List.replicate_zero, mm_in, k0, k1, k2, T_X11_hasFace, w4, hn, s0, s7, p3, T_X8_read, T_X10_across]
    intro z hz
    refine ⟨fun y => ?_, fun y => ?_⟩
    · have h1 : (0 ≤ b ∧ b < (n : Int)) ∧ 0 ≤ f ∧ f < 4 := by
        rcases hz with ⟨z1, z2⟩ | ⟨z1, z2⟩
        · exact z2
        · omega
      refine ⟨fun x => out h1 (Or.inl x), fun x => ⟨fun x2 => ⟨fun x3 => ?_, fun x3 => ?_⟩, fun x2 => out h1 (Or.inr (by omega))⟩⟩
      · refine ⟨n, hgw, fun I' f1 hS => ⟨⟨by omega, by omega⟩, ⟨by omega, by omega⟩, ⟨by omega, by omega⟩, fun _ => hP I' _ (fun c z1 z2 => f1 c (by omega)) ?_⟩⟩
        unfold cornerR
        rw [if_neg (fun w => w h1), if_neg (by omega), if_pos (by omega)]
        exact hS.2.2.1 _ (by omega)
      · refine ⟨⟨by omega, by omega⟩, ⟨by omega, by omega⟩, ⟨by omega, by omega⟩, (4 * b + q - 1).toNat, f.toNat, by omega, by omega, by omega, by omega, fun w => ?_, hP I _ (scr_rf I) ?_⟩
        · rcases hg (4 * b + q - 1).toNat (by omega) with e | e <;> omega
        · unfold cornerR
          rw [if_neg (fun w => w h1), if_neg (by omega), if_neg (by omega)]
    · refine hP I _ (scr_rf I) ?_
      unfold cornerR
      rw [if_pos (fun w => ?_)]
      rcases hz with ⟨z1, z2⟩ | ⟨z1, z2⟩
      · omega
      · exact z2 w
  · exact hT.elim
theorem sp_X11_corner : mm_Sp yX11_corner cX11_corner 4 (some .int) rm_X11_corner T_X11_corner := mm_meth (by decide) (by
  intro av σ Post h
  unfold T_X11_corner at h
  split at h
  · simp
  · exact h.elim) (fun p l e s m args below meth c G av σ Post hC hr _ hav hin hk hT => pv_X11_corner av σ Post hav hin hk hT _ (bk_X11_corner hC hr))
def edgeR (n : Nat) (L : LT) (b e q z : Int) : Prop :=
  if ¬ ((0 ≤ b ∧ b < n) ∧ 0 ≤ e ∧ e < 6) then z = -1000000001 else if q < 0 ∨ 2 < q then z = -1000000002
  else if q = 0 then z = nr L.2.1 (L.2.1 (6 * b + e).toNat) else if q = 1 then z = sm (fun k => if L.2.1 k = L.2.1 (6 * b + e).toNat then 1 else 0) (6 * n) else bz z (rv L.2.2 (L.2.1 (6 * b + e).toNat))
def T_X11_edge : mm_T := fun av σ Post => match av with
  | [.inr (some a), .inl b, .inl f, .inl q] => σ.2 = mm_R0 ∧ a = 0 ∧ ∃ n : Nat, gw σ.1 n ∧ ∀ (I' : Nat → Nat → Int) (z : Int), scr I' σ.1 → edgeR n (skel n (σ.1 3) (σ.1 4)) b f q z → Post (some (.inl z)) (I', mm_R0)
  | _ => False
def rm_X11_edge : Room := { frames := 5, cells := 0, slots := 0, locals := 119 }
def b_X11_edge_0 (Ok : Nat → mm_K) (Post : Option mm_V → mm_S → Prop) (kf : Nat) : mm_K := i_la 0 (i_ld 1 (i_ld 2 (i_cv 10 2 T_X11_hasEdge (i_if (fun x => ¬ x = 0) (i_ld 3 (i_if (fun x => x < 0) (Ok 21) (i_ld 3 (i_c 2 (i_if2 (fun x y => x ≤ y) (i_la 0 (i_gr 10 1 (i_la 0 (i_gr 10 0 (i_cv 7 1 T_X8_read (i_la 0 (i_gr 10 1 (i_gr 7 4 (i_c 6 (i_ld 1 (i_mul (i_ld 2 (i_add (i_ial (i_st 4 (i_ld 3 (i_sw Ok 94 [(0, 80), (1, 83)]))))))))))))))))) (Ok 21)))))) (i_c (-1000000001) (i_ir Post kf))))))
def b_X11_edge_21 (Ok : Nat → mm_K) (Post : Option mm_V → mm_S → Prop) (kf : Nat) : mm_K := i_c (-1000000002) (i_ir Post kf)
def b_X11_edge_80 (Ok : Nat → mm_K) (Post : Option mm_V → mm_S → Prop) (kf : Nat) : mm_K := i_ld 4 (i_ir Post kf)
def b_X11_edge_83 (Ok : Nat → mm_K) (Post : Option mm_V → mm_S → Prop) (kf : Nat) : mm_K := i_la 0 (i_gr 10 1 (i_gr 7 5 (i_ld 4 (i_ial (i_ir Post kf)))))
def b_X11_edge_94 (Ok : Nat → mm_K) (Post : Option mm_V → mm_S → Prop) (kf : Nat) : mm_K := i_la 0 (i_gr 10 1 (i_ld 4 (i_cv 7 1 T_X8_isReversed (i_if (fun x => x = 0) (i_c 0 (Ok 111)) (i_c 1 (Ok 111))))))
def b_X11_edge_111 (Ok : Nat → mm_K) (Post : Option mm_V → mm_S → Prop) (kf : Nat) : mm_K := i_ir Post kf
def clo_X11_edge (Ok : Nat → mm_K) (Post : Option mm_V → mm_S → Prop) (kf : Nat) : Prop := mm_imp (b_X11_edge_0 Ok Post kf) (Ok 0) ∧ mm_imp (b_X11_edge_21 Ok Post kf) (Ok 21) ∧ mm_imp (b_X11_edge_80 Ok Post kf) (Ok 80) ∧ mm_imp (b_X11_edge_83 Ok Post kf) (Ok 83) ∧ mm_imp (b_X11_edge_94 Ok Post kf) (Ok 94) ∧ mm_imp (b_X11_edge_111 Ok Post kf) (Ok 111)
set_option maxRecDepth 100000 in
set_option maxHeartbeats 4000000 in
theorem bk_X11_edge {p : Program} {l : Launch} {e : Env} {s : State} {m : MethodId} {args : Array Value} {below : List Frame} {meth : Method} {c : Code} {G : mm_G} {σ0 : mm_S} {Post : Option mm_V → mm_S → Prop} (hC : mm_C p G s m args meth c cX11_edge yX11_edge.cls) (hr : meth.sig.returnType = some .int) : clo_X11_edge (mm_O p l e rm_X11_edge s m args below meth c G σ0.2.2 (MQ below (mm_Qc G σ0 rm_X11_edge.cells rm_X11_edge.slots Post) args s rm_X11_edge.cells rm_X11_edge.slots (mm_A G))) Post σ0.2.2 := ⟨(by unfold b_X11_edge_0; exact (mm_la_n hC dX11_edge_0 rfl (mm_ld_n hC dX11_edge_1 rfl (mm_ld_n hC dX11_edge_2 rfl (mm_cv hC sp_X11_hasEdge ⟨rfl, rfl⟩ cl_10 wd_560 wd_562 wd_11 wd_563 wd_65 ⟨by decide, by decide, by decide +kernel⟩ ⟨by decide, by decide⟩ dX11_edge_3 (mm_if_ne hC (t := 12) dX11_edge_6 (by decide) (mm_ld_n hC dX11_edge_12 rfl (mm_if_lt hC (t := 21) dX11_edge_13 (by decide) (fun _ _ _ h => h) (mm_ld_n hC dX11_edge_16 rfl (mm_ic hC dX11_edge_17 ⟨by decide, by decide⟩ (mm_ic_le hC (t := 24) dX11_edge_18 (by decide) (mm_la_n hC dX11_edge_24 rfl (mm_gr hC cl_10 (by decide) rfl wd_328 dX11_edge_25 (mm_la_n hC dX11_edge_28 rfl (mm_gr hC cl_10 (by decide) rfl wd_327 dX11_edge_29 (mm_cv hC sp_X8_read ⟨rfl, rfl⟩ cl_7 wd_362 wd_363 wd_364 wd_365 wd_70 ⟨by decide, by decide, by decide +kernel⟩ ⟨by decide, by decide⟩ dX11_edge_32 (mm_la_n hC dX11_edge_35 rfl (mm_gr hC cl_10 (by decide) rfl wd_328 dX11_edge_36 (mm_gr hC cl_7 (by decide) rfl wd_172 dX11_edge_39 (mm_bp hC dX11_edge_42 ⟨⟨by decide, by decide⟩, by decide⟩ (mm_ld_n hC dX11_edge_44 rfl (mm_mul hC dX11_edge_45 (mm_ld_n hC dX11_edge_46 rfl (mm_add hC dX11_edge_47 (mm_ial hC dX11_edge_48 (mm_st hC dX11_edge_49 (mm_ld_n hC dX11_edge_51 rfl (mm_lsw hC dX11_edge_52 rfl (by decide) (by decide) (by decide)))))))))))))))))) (fun _ _ _ h => h)))))) (mm_ldc hC dX11_edge_9 ⟨by decide, by decide⟩ wd_550 (mm_ir hC ⟨rfl, rfl⟩ hr dX11_edge_11)))))))), (by unfold b_X11_edge_21; exact (mm_ldc hC dX11_edge_21 ⟨by decide, by decide⟩ wd_361 (mm_ir hC ⟨rfl, rfl⟩ hr dX11_edge_23))), (by unfold b_X11_edge_80; exact (mm_ld hC dX11_edge_80 (mm_ir hC ⟨rfl, rfl⟩ hr dX11_edge_82))), (by unfold b_X11_edge_83; exact (mm_la_n hC dX11_edge_83 rfl (mm_gr hC cl_10 (by decide) rfl wd_328 dX11_edge_84 (mm_gr hC cl_7 (by decide) rfl wd_174 dX11_edge_87 (mm_ld hC dX11_edge_90 (mm_ial hC dX11_edge_92 (mm_ir hC ⟨rfl, rfl⟩ hr dX11_edge_93))))))), (by unfold b_X11_edge_94; exact (mm_la_n hC dX11_edge_94 rfl (mm_gr hC cl_10 (by decide) rfl wd_328 dX11_edge_95 (mm_ld hC dX11_edge_98 (mm_cv hC sp_X8_isReversed ⟨rfl, rfl⟩ cl_7 wd_564 wd_419 wd_420 wd_421 wd_70 ⟨by decide, by decide, by decide +kernel⟩ ⟨by decide, by decide⟩ dX11_edge_100 (mm_if_eq hC (t := 110) dX11_edge_103 (by decide) (mm_ic hC dX11_edge_110 ⟨by decide, by decide⟩ (fun _ _ _ h => h)) (mm_ic hC dX11_edge_106 ⟨by decide, by decide⟩ (mm_goto hC (t := 111) dX11_edge_107 (by decide) (fun _ _ _ h => h))))))))), (by unfold b_X11_edge_111; exact (mm_ir hC ⟨rfl, rfl⟩ hr dX11_edge_111))⟩
set_option maxRecDepth 100000 in
set_option maxHeartbeats 8000000 in
theorem pv_X11_edge : ∀ (av : List mm_V) (σ : mm_S) (Post : Option mm_V → mm_S → Prop), (∀ v ∈ av, mm_iv v) → (∀ a j, mm_in (σ.1 a j)) → σ.2.2 ≤ 348 → T_X11_edge av σ Post → ∀ Ok : Nat → mm_K, clo_X11_edge Ok Post σ.2.2 → Ok 0 (av ++ List.replicate (5 - av.length) (.inr none)) [] σ := by
  intro av σ Post hav hin hk hT Ok hcl
  obtain ⟨I, R0⟩ := σ
  unfold T_X11_edge at hT
  split at hT
  · rename_i a b f q
    obtain ⟨h0, hT⟩ := hT
    have h0 : R0 = mm_R0 := h0
    subst h0
    dsimp only at hT hin
    obtain ⟨c0, c21, c80, c83, c94, c111⟩ := hcl
    obtain ⟨rfl, n, hgw, hP⟩ := hT
    obtain ⟨hn, hn1, hn3, hg⟩ := id hgw
    obtain ⟨k0, k1, k2, k3, k4, k5, k6, k7⟩ := sh_0
    obtain ⟨p0, p1, p2, p3, p4, p5, p6⟩ := Rs_18
    obtain ⟨s0, s1, s2, s3, s4, s5, s6, s7, s8, s9, s10⟩ := sh_18
    have out : ((0 ≤ b ∧ b < (n : Int)) ∧ 0 ≤ f ∧ f < 6) → (q < 0 ∨ 2 < q) → Ok 21 [.inr (some 0), .inl b, .inl f, .inl q, .inr none] [] (I, mm_R0) := by
      intro h1 h2
      refine c21 _ _ _ ?_
      simp only [b_X11_edge_21, i_xorg, i_shl, i_shr, i_ior, i_and1, i_lcg1, i_lcg2, i_ld, i_la, i_st, i_sa, i_c, i_inc, i_add, i_sub, i_mul, i_div, i_rem, i_remT, i_xor, i_dup, i_dup2, i_if, i_if2, i_sw, i_gi, i_gr, i_pi, i_pz, i_ial, i_ias, i_len, i_aal, i_gs, i_tal, i_cv, i_cs, i_ir, i_zr, i_vr, i_min, i_max, i_cpy, List.getElem?_cons_zero, List.getElem?_cons_succ, List.set_cons_zero, List.set_cons_succ, List.length_cons, List.length_nil, List.drop_succ_cons, List.drop_zero, List.take_succ_cons, List.take_zero, List.reverse_cons, List.reverse_nil, List.nil_append, List.cons_append, Option.toList_some, Option.toList_none, true_and, and_true, true_or, or_true, Nat.reduceAdd, Nat.reduceLT, Nat.reduceLeDiff, Option.some.injEq, exists_eq_left', Int.toNat_natCast, Nat.reduceSub, List.append_nil, List.replicate_succ, List.replicate_zero]
      refine hP I _ (scr_rf I) ?_
      unfold edgeR
      rw [if_neg (fun w => w h1), if_pos h2]
    refine c0 _ _ _ ?_
    simp only [b_X11_edge_0, i_xorg, i_shl, i_shr, i_ior, i_and1, i_lcg1, i_lcg2, i_ld, i_la, i_st, i_sa, i_c, i_inc, i_add, i_sub, i_mul, i_div, i_rem, i_remT, i_xor, i_dup, i_dup2, i_if, i_if2, i_sw, i_gi, i_gr, i_pi, i_pz, i_ial, i_ias, i_len, i_aal, i_gs, i_tal, i_cv, i_cs, i_ir, i_zr, i_vr, i_min, i_max, i_cpy, List.getElem?_cons_zero, List.getElem?_cons_succ, List.set_cons_zero, List.set_cons_succ, List.length_cons, List.length_nil, List.drop_succ_cons, List.drop_zero, List.take_succ_cons, List.take_zero, List.reverse_cons, List.reverse_nil, List.nil_append, List.cons_append, Option.toList_some, Option.toList_none, true_and, and_true, true_or, or_true, Nat.reduceAdd, Nat.reduceLT, Nat.reduceLeDiff, Option.some.injEq, exists_eq_left', Int.toNat_natCast, Nat.reduceSub, List.append_nil, List.replicate_succ, List.replicate_zero, mm_in, k0, k1, k2, T_X11_hasEdge, hn, s0, s8, p4, T_X8_read]
    intro z hz
    refine ⟨fun y => ?_, fun y => ?_⟩
    · have h1 : (0 ≤ b ∧ b < (n : Int)) ∧ 0 ≤ f ∧ f < 6 := by
        rcases hz with ⟨z1, z2⟩ | ⟨z1, z2⟩
        · exact z2
        · omega
      refine ⟨fun x => out h1 (Or.inl x), fun x => ⟨fun x2 => ?_, fun x2 => out h1 (Or.inr (by omega))⟩⟩
      refine ⟨n, hgw, fun I' f1 hS => ⟨⟨by omega, by omega⟩, ⟨by omega, by omega⟩, ⟨by omega, by omega⟩, fun _ => ?_⟩⟩
      obtain ⟨L, hL⟩ : ∃ L, skel n (I 3) (I 4) = L := ⟨_, rfl⟩
      rw [hL] at hS hP
      obtain ⟨t, ht⟩ : ∃ t, (6 * b + f).toNat = t := ⟨_, rfl⟩
      have htn : t < 6 * n := by omega
      have hLe : L.2.1 t ≤ t := by rw [← hL]; exact (skel_E n (I 3) (I 4)).1 t
      have hfr : scr I' I := fun c z1 z2 => f1 c (by omega)
      have e26 := hS.2.2.2.1 t htn
      have nb1 := nr_b L.2.1 (L.2.1 t)
      obtain ⟨l, hl⟩ := Int.eq_ofNat_of_zero_le nb1.1
      have hl18 : l < 18 := by omega
      rw [ht, e26, hl]
      have e27 := hS.2.2.2.2.1 t htn
      have e28 := hS.2.2.2.2.2.1 t htn
      rw [hl, Int.toNat_natCast] at e27 e28
      refine ⟨fun x3 => ?_, fun x3 => ⟨fun x4 => ?_, fun x4 => ?_⟩⟩
      · refine c80 _ _ _ ?_
        simp only [b_X11_edge_80, i_xorg, i_shl, i_shr, i_ior, i_and1, i_lcg1, i_lcg2, i_ld, i_la, i_st, i_sa, i_c, i_inc, i_add, i_sub, i_mul, i_div, i_rem, i_remT, i_xor, i_dup, i_dup2, i_if, i_if2, i_sw, i_gi, i_gr, i_pi, i_pz, i_ial, i_ias, i_len, i_aal, i_gs, i_tal, i_cv, i_cs, i_ir, i_zr, i_vr, i_min, i_max, i_cpy, List.getElem?_cons_zero, List.getElem?_cons_succ, List.set_cons_zero, List.set_cons_succ, List.length_cons, List.length_nil, List.drop_succ_cons, List.drop_zero, List.take_succ_cons, List.take_zero, List.reverse_cons, List.reverse_nil, List.nil_append, List.cons_append, Option.toList_some, Option.toList_none, true_and, and_true, true_or, or_true, Nat.reduceAdd, Nat.reduceLT, Nat.reduceLeDiff, Option.some.injEq, exists_eq_left', Int.toNat_natCast, Nat.reduceSub, List.append_nil, List.replicate_succ, List.replicate_zero]
        refine hP I' _ hfr ?_
        unfold edgeR
        rw [if_neg (fun w => w h1), if_neg (by omega), if_pos x3, ht, hl]
      · refine c83 _ _ _ ?_
        simp only [b_X11_edge_83, i_xorg, i_shl, i_shr, i_ior, i_and1, i_lcg1, i_lcg2, i_ld, i_la, i_st, i_sa, i_c, i_inc, i_add, i_sub, i_mul, i_div, i_rem, i_remT, i_xor, i_dup, i_dup2, i_if, i_if2, i_sw, i_gi, i_gr, i_pi, i_pz, i_ial, i_ias, i_len, i_aal, i_gs, i_tal, i_cv, i_cs, i_ir, i_zr, i_vr, i_min, i_max, i_cpy, List.getElem?_cons_zero, List.getElem?_cons_succ, List.set_cons_zero, List.set_cons_succ, List.length_cons, List.length_nil, List.drop_succ_cons, List.drop_zero, List.take_succ_cons, List.take_zero, List.reverse_cons, List.reverse_nil, List.nil_append, List.cons_append, Option.toList_some, Option.toList_none, true_and, and_true, true_or, or_true, Nat.reduceAdd, Nat.reduceLT, Nat.reduceLeDiff, Option.some.injEq, exists_eq_left', Int.toNat_natCast, Nat.reduceSub, List.append_nil, List.replicate_succ, List.replicate_zero, mm_in, k0, k2, s0, p5, s9]
        refine ⟨⟨by omega, by omega⟩, fun _ => hP I' _ hfr ?_⟩
        unfold edgeR
        rw [if_neg (fun w => w h1), if_neg (by omega), if_neg x3, if_pos x4, ht]
        exact e27
      · refine c94 _ _ _ ?_
        simp only [b_X11_edge_94, i_xorg, i_shl, i_shr, i_ior, i_and1, i_lcg1, i_lcg2, i_ld, i_la, i_st, i_sa, i_c, i_inc, i_add, i_sub, i_mul, i_div, i_rem, i_remT, i_xor, i_dup, i_dup2, i_if, i_if2, i_sw, i_gi, i_gr, i_pi, i_pz, i_ial, i_ias, i_len, i_aal, i_gs, i_tal, i_cv, i_cs, i_ir, i_zr, i_vr, i_min, i_max, i_cpy, List.getElem?_cons_zero, List.getElem?_cons_succ, List.set_cons_zero, List.set_cons_succ, List.length_cons, List.length_nil, List.drop_succ_cons, List.drop_zero, List.take_succ_cons, List.take_zero, List.reverse_cons, List.reverse_nil, List.nil_append, List.cons_append, Option.toList_some, Option.toList_none, true_and, and_true, true_or, or_true, Nat.reduceAdd, Nat.reduceLT, Nat.reduceLeDiff, Option.some.injEq, exists_eq_left', Int.toNat_natCast, Nat.reduceSub, List.append_nil, List.replicate_succ, List.replicate_zero, mm_in, k0, k2, s0, T_X8_isReversed]
        refine ⟨l, L.2.1 t, n, rfl, hl18, hn3, by omega, e28, hS.2.2.2.2.2.2.1, hS.2.2.2.2.2.2.2.1, fun I2 z f2 u2 m2 hz2 => ?_⟩
        have hA := hS.2.2.2.2.2.2.2.2
        have hrv : rv (rt (fi I' 24)) (L.2.1 t) ↔ rv L.2.2 (L.2.1 t) := by
          obtain ⟨l1, l2, l3, l4, l5⟩ := elo_b (L.2.1 t % 6) (by omega)
          unfold rv
          rw [hA _ (by omega), hA _ (by omega)]
        have fin : ∀ y : Int, bz y (rv L.2.2 (L.2.1 t)) → Ok 111 [.inr (some 0), .inl b, .inl f, .inl q, .inl (l : Int)] [.inl y] (I2, mm_R0) := by
          intro y hy
          refine c111 _ _ _ ?_
          simp only [b_X11_edge_111, i_xorg, i_shl, i_shr, i_ior, i_and1, i_lcg1, i_lcg2, i_ld, i_la, i_st, i_sa, i_c, i_inc, i_add, i_sub, i_mul, i_div, i_rem, i_remT, i_xor, i_dup, i_dup2, i_if, i_if2, i_sw, i_gi, i_gr, i_pi, i_pz, i_ial, i_ias, i_len, i_aal, i_gs, i_tal, i_cv, i_cs, i_ir, i_zr, i_vr, i_min, i_max, i_cpy, List.getElem?_cons_zero, List.getElem?_cons_succ, List.set_cons_zero, List.set_cons_succ, List.length_cons, List.length_nil, List.drop_succ_cons, List.drop_zero, List.take_succ_cons, List.take_zero, List.reverse_cons, List.reverse_nil, List.nil_append, List.cons_append, Option.toList_some, Option.toList_none, true_and, and_true, true_or, or_true, Nat.reduceAdd, Nat.reduceLT, Nat.reduceLeDiff, Option.some.injEq, exists_eq_left', Int.toNat_natCast, Nat.reduceSub, List.append_nil, List.replicate_succ, List.replicate_zero]
          refine hP I2 _ (fun c z1 z2 => by rw [f2 c (by omega)]; exact hfr c z1 z2) ?_
          unfold edgeR
          rw [if_neg (fun w => w h1), if_neg (by omega), if_neg x3, if_neg x4, ht]
          exact hy
        refine ⟨fun w => fin 0 (bz_0 (fun v => ?_)), fun w => fin 1 (bz_1 ?_)⟩
        · rcases hz2 with ⟨z1, z2⟩ | ⟨z1, z2⟩
          · omega
          · exact z2 (hrv.mpr v)
        · rcases hz2 with ⟨z1, z2⟩ | ⟨z1, z2⟩
          · exact hrv.mp z2
          · omega
    · refine hP I _ (scr_rf I) ?_
      unfold edgeR
      rw [if_pos (fun w => ?_)]
      rcases hz with ⟨z1, z2⟩ | ⟨z1, z2⟩
      · omega
      · exact z2 w
  · exact hT.elim
theorem sp_X11_edge : mm_Sp yX11_edge cX11_edge 5 (some .int) rm_X11_edge T_X11_edge := mm_meth (by decide) (by
  intro av σ Post h
  unfold T_X11_edge at h
  split at h
  · simp
  · exact h.elim) (fun p l e s m args below meth c G av σ Post hC hr _ hav hin hk hT => pv_X11_edge av σ Post hav hin hk hT _ (bk_X11_edge hC hr))
