/-! PieceSurfaces$Classes -/
def T_X1_least : mm_T := fun av σ Post => match av with
  | [.inr (some a), .inl x] => σ.2 = mm_R0 ∧ (mm_sh a).1 = 1 ∧ 0 ≤ x ∧ x < σ.1 a 1 ∧ σ.1 a 1 ≤ (mm_sh (a + 1)).2 ∧ ufi σ.1 (a + 1) (σ.1 a 1).toNat ∧
    ∀ I', (∀ b, b ≠ a + 1 → I' b = σ.1 b) → ufi I' (a + 1) (σ.1 a 1).toNat → (∀ y, y < (σ.1 a 1).toNat → rt (fi I' (a + 1)) y = rt (fi σ.1 (a + 1)) y) → Post (some (.inl (rt (fi σ.1 (a + 1)) x.toNat))) (I', mm_R0)
  | _ => False
def rm_X1_least : Room := { frames := 0, cells := 0, slots := 0, locals := 0 }
def b_X1_least_0 (Ok : Nat → mm_K) (Post : Option mm_V → mm_S → Prop) (kf : Nat) : mm_K := i_ld 1 (i_st 2 (i_c 0 (i_st 3 (Ok 4))))
def b_X1_least_4 (Ok : Nat → mm_K) (Post : Option mm_V → mm_S → Prop) (kf : Nat) : mm_K := i_ld 3 (i_la 0 (i_gi 1 1 (i_if2 (fun x y => y ≤ x) (Ok 52) (i_la 0 (i_gr 1 0 (i_ld 2 (i_ial (i_ld 2 (i_if2 (fun x y => x = y) (Ok 52) (i_la 0 (i_gr 1 0 (i_ld 2 (i_la 0 (i_gr 1 0 (i_la 0 (i_gr 1 0 (i_ld 2 (i_ial (i_ial (i_ias (i_la 0 (i_gr 1 0 (i_ld 2 (i_ial (i_st 2 (i_inc 3 1 (Ok 4)))))))))))))))))))))))))))
def b_X1_least_52 (Ok : Nat → mm_K) (Post : Option mm_V → mm_S → Prop) (kf : Nat) : mm_K := i_ld 2 (i_ir Post kf)
def clo_X1_least (Ok : Nat → mm_K) (Post : Option mm_V → mm_S → Prop) (kf : Nat) : Prop := mm_imp (b_X1_least_0 Ok Post kf) (Ok 0) ∧ mm_imp (b_X1_least_4 Ok Post kf) (Ok 4) ∧ mm_imp (b_X1_least_52 Ok Post kf) (Ok 52)
set_option maxRecDepth 100000 in
set_option maxHeartbeats 4000000 in
theorem bk_X1_least {p : Program} {l : Launch} {e : Env} {s : State} {m : MethodId} {args : Array Value} {below : List Frame} {meth : Method} {c : Code} {G : mm_G} {σ0 : mm_S} {Post : Option mm_V → mm_S → Prop} (hC : mm_C p G s m args meth c cX1_least yX1_least.cls) (hr : meth.sig.returnType = some .int) : clo_X1_least (mm_O p l e rm_X1_least s m args below meth c G σ0.2.2 (MQ below (mm_Qc G σ0 rm_X1_least.cells rm_X1_least.slots Post) args s rm_X1_least.cells rm_X1_least.slots (mm_A G))) Post σ0.2.2 := ⟨(by unfold b_X1_least_0; exact (mm_ld_n hC dX1_least_0 rfl (mm_st_n hC dX1_least_1 rfl (mm_ic hC dX1_least_2 ⟨by decide, by decide⟩ (mm_st_n hC dX1_least_3 rfl (fun _ _ _ h => h)))))), (by unfold b_X1_least_4; exact (mm_ld_n hC dX1_least_4 rfl (mm_la_n hC dX1_least_5 rfl (mm_gi hC cl_1 (by decide) rfl wd_159 dX1_least_6 (mm_ic_ge hC (t := 52) dX1_least_9 (by decide) (fun _ _ _ h => h) (mm_la_n hC dX1_least_12 rfl (mm_gr hC cl_1 (by decide) rfl wd_158 dX1_least_13 (mm_ld_n hC dX1_least_16 rfl (mm_ial hC dX1_least_17 (mm_ld_n hC dX1_least_18 rfl (mm_ic_eq hC (t := 52) dX1_least_19 (by decide) (fun _ _ _ h => h) (mm_la_n hC dX1_least_22 rfl (mm_gr hC cl_1 (by decide) rfl wd_158 dX1_least_23 (mm_ld_n hC dX1_least_26 rfl (mm_la_n hC dX1_least_27 rfl (mm_gr hC cl_1 (by decide) rfl wd_158 dX1_least_28 (mm_la_n hC dX1_least_31 rfl (mm_gr hC cl_1 (by decide) rfl wd_158 dX1_least_32 (mm_ld_n hC dX1_least_35 rfl (mm_ial hC dX1_least_36 (mm_ial hC dX1_least_37 (mm_ias hC dX1_least_38 (mm_la_n hC dX1_least_39 rfl (mm_gr hC cl_1 (by decide) rfl wd_158 dX1_least_40 (mm_ld_n hC dX1_least_43 rfl (mm_ial hC dX1_least_44 (mm_st_n hC dX1_least_45 rfl (mm_inc hC dX1_least_46 (mm_goto hC (t := 4) dX1_least_49 (by decide) (fun _ _ _ h => h)))))))))))))))))))))))))))))), (by unfold b_X1_least_52; exact (mm_ld_n hC dX1_least_52 rfl (mm_ir hC ⟨rfl, rfl⟩ hr dX1_least_53)))⟩
set_option maxHeartbeats 4000000 in
theorem pv_X1_least : ∀ (av : List mm_V) (σ : mm_S) (Post : Option mm_V → mm_S → Prop), (∀ v ∈ av, mm_iv v) → (∀ a j, mm_in (σ.1 a j)) → σ.2.2 ≤ 348 → T_X1_least av σ Post → ∀ Ok : Nat → mm_K, clo_X1_least Ok Post σ.2.2 → Ok 0 (av ++ List.replicate (4 - av.length) (.inr none)) [] σ := by
  intro av σ Post hav hin hk hT Ok hcl
  obtain ⟨I, R0⟩ := σ
  unfold T_X1_least at hT
  split at hT
  · rename_i a x
    obtain ⟨h0, h1, h2, h3, h4, h5, hP⟩ := hT
    have h0 : R0 = mm_R0 := h0
    subst h0
    obtain ⟨c0, c4, c52⟩ := hcl
    have loop : ∀ (n : Nat) (t i : Nat) (I' : Nat → Nat → Int), t ≤ n → t + i ≤ x.toNat → (∀ b, b ≠ a + 1 → I' b = I b) → ufi I' (a + 1) (I a 1).toNat → (∀ y, y < (I a 1).toNat → rt (fi I' (a + 1)) y = rt (fi I (a + 1)) y) → rt (fi I (a + 1)) t = rt (fi I (a + 1)) x.toNat → Ok 4 [.inr (some a), .inl x, .inl (t : Int), .inl (i : Int)] [] (I', mm_R0) := by
      intro n
      induction n with
      | zero => sorry
      | succ n ih =>
        intro t i I' ht hti hI hu hr hrt
        refine c4 _ _ _ ?_
        simp only [b_X1_least_4, i_ld, i_la, i_st, i_sa, i_c, i_inc, i_add, i_sub, i_mul, i_div, i_rem, i_remT, i_xor, i_dup, i_dup2, i_if, i_if2, i_sw, i_gi, i_gr, i_pi, i_pz, i_ial, i_ias, i_len, i_aal, i_gs, i_tal, i_cv, i_cs, i_ir, i_zr, i_vr, i_min, i_max, i_cpy, List.getElem?_cons_zero, List.getElem?_cons_succ, List.set_cons_zero, List.set_cons_succ, List.length_cons, List.length_nil, List.drop_succ_cons, List.drop_zero, List.take_succ_cons, List.take_zero, List.reverse_cons, List.reverse_nil, List.nil_append, List.cons_append, Option.toList_some, Option.toList_none, true_and, and_true, Nat.reduceAdd, Nat.reduceLT, Nat.reduceLeDiff]
        trace_state
        sorry
    refine c0 _ _ _ ?_
    simp only [b_X1_least_0, i_ld, i_la, i_st, i_sa, i_c, i_inc, i_add, i_sub, i_mul, i_div, i_rem, i_remT, i_xor, i_dup, i_dup2, i_if, i_if2, i_sw, i_gi, i_gr, i_pi, i_pz, i_ial, i_ias, i_len, i_aal, i_gs, i_tal, i_cv, i_cs, i_ir, i_zr, i_vr, i_min, i_max, i_cpy, List.getElem?_cons_zero, List.getElem?_cons_succ, List.set_cons_zero, List.set_cons_succ, List.length_cons, List.length_nil, List.drop_succ_cons, List.drop_zero, List.take_succ_cons, List.take_zero, List.reverse_cons, List.reverse_nil, List.nil_append, List.cons_append, Option.toList_some, Option.toList_none, true_and, and_true, Nat.reduceAdd, Nat.reduceLT, Nat.reduceLeDiff]
    trace_state
    sorry
  · exact hT.elim
theorem sp_X1_least : mm_Sp yX1_least cX1_least 4 (some .int) rm_X1_least T_X1_least := mm_meth (by decide) (by
  intro av σ Post h
  unfold T_X1_least at h
  split at h
  · simp
  · exact h.elim) (fun p l e s m args below meth c G av σ Post hC hr _ hav hin hk hT => pv_X1_least av σ Post hav hin hk hT _ (bk_X1_least hC hr))
