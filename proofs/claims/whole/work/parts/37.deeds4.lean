/-! PieceSurfaces: undo, write, tear, seed, keep, goBack
-/
def undF (S : Nat → Nat → Int) (k : Int) : (Nat → Nat → Int) × Int :=
  if ¬ (1 ≤ k ∧ k ≤ 16) then (S, -1000000002) else if S 19 0 < k then (S, -1000000003) else (upM (upW S (S (1 + (S 19 0 - k).toNat))) 0 (S 19 0 - k), S (1 + (S 19 0 - k).toNat) 1)
def T_X11_undo : mm_T := fun av σ Post => match av with
  | [.inr (some a), .inl k] => dT (fun S => undF S k) a σ Post
  | _ => False
def rm_X11_undo : Room := { frames := 4, cells := 0, slots := 0, locals := 93 }
def b_X11_undo_0 (Ok : Nat → mm_K) (Post : Option mm_V → mm_S → Prop) (kf : Nat) : mm_K := i_ld 1 (i_c 1 (i_if2 (fun x y => x < y) (Ok 11) (i_ld 1 (i_c 16 (i_if2 (fun x y => x ≤ y) (i_ld 1 (i_la 0 (i_gr 10 3 (i_gi 5 2 (i_if2 (fun x y => x ≤ y) (i_la 0 (i_gr 10 3 (i_ld 1 (i_la 0 (i_gr 10 0 (i_cv 5 2 T_X5_restore (i_la 0 (i_gr 10 0 (i_gi 9 1 (i_ir Post kf)))))))))) (i_c (-1000000003) (i_ir Post kf))))))) (Ok 11))))))
def b_X11_undo_11 (Ok : Nat → mm_K) (Post : Option mm_V → mm_S → Prop) (kf : Nat) : mm_K := i_c (-1000000002) (i_ir Post kf)
def clo_X11_undo (Ok : Nat → mm_K) (Post : Option mm_V → mm_S → Prop) (kf : Nat) : Prop := mm_imp (b_X11_undo_0 Ok Post kf) (Ok 0) ∧ mm_imp (b_X11_undo_11 Ok Post kf) (Ok 11)
set_option maxRecDepth 100000 in
set_option maxHeartbeats 4000000 in
theorem bk_X11_undo {p : Program} {l : Launch} {e : Env} {s : State} {m : MethodId} {args : Array Value} {below : List Frame} {meth : Method} {c : Code} {G : mm_G} {σ0 : mm_S} {Post : Option mm_V → mm_S → Prop} (hC : mm_C p G s m args meth c cX11_undo yX11_undo.cls) (hr : meth.sig.returnType = some .int) : clo_X11_undo (mm_O p l e rm_X11_undo s m args below meth c G σ0.2.2 (MQ below (mm_Qc G σ0 rm_X11_undo.cells rm_X11_undo.slots Post) args s rm_X11_undo.cells rm_X11_undo.slots (mm_A G))) Post σ0.2.2 := ⟨(by unfold b_X11_undo_0; exact (mm_ld_n hC dX11_undo_0 rfl (mm_ic hC dX11_undo_1 ⟨by decide, by decide⟩ (mm_ic_lt hC (t := 11) dX11_undo_2 (by decide) (fun _ _ _ h => h) (mm_ld_n hC dX11_undo_5 rfl (mm_bp hC dX11_undo_6 ⟨⟨by decide, by decide⟩, by decide⟩ (mm_ic_le hC (t := 14) dX11_undo_8 (by decide) (mm_ld_n hC dX11_undo_14 rfl (mm_la_n hC dX11_undo_15 rfl (mm_gr hC cl_10 (by decide) rfl wd_330 dX11_undo_16 (mm_gi hC cl_5 (by decide) rfl wd_270 dX11_undo_19 (mm_ic_le hC (t := 28) dX11_undo_22 (by decide) (mm_la_n hC dX11_undo_28 rfl (mm_gr hC cl_10 (by decide) rfl wd_330 dX11_undo_29 (mm_ld_n hC dX11_undo_32 rfl (mm_la_n hC dX11_undo_33 rfl (mm_gr hC cl_10 (by decide) rfl wd_327 dX11_undo_34 (mm_cv hC sp_X5_restore ⟨rfl, rfl⟩ cl_5 wd_731 wd_732 wd_733 wd_734 wd_73 ⟨by decide, by decide, by decide +kernel⟩ ⟨by decide, by decide⟩ dX11_undo_37 (mm_la_n hC dX11_undo_40 rfl (mm_gr hC cl_10 (by decide) rfl wd_327 dX11_undo_41 (mm_gi hC cl_9 (by decide) rfl wd_124 dX11_undo_44 (mm_ir hC ⟨rfl, rfl⟩ hr dX11_undo_47)))))))))) (mm_ldc hC dX11_undo_25 ⟨by decide, by decide⟩ wd_650 (mm_ir hC ⟨rfl, rfl⟩ hr dX11_undo_27))))))) (fun _ _ _ h => h)))))))), (by unfold b_X11_undo_11; exact (mm_ldc hC dX11_undo_11 ⟨by decide, by decide⟩ wd_361 (mm_ir hC ⟨rfl, rfl⟩ hr dX11_undo_13)))⟩
set_option maxRecDepth 100000 in
set_option maxHeartbeats 8000000 in
theorem pv_X11_undo : ∀ (av : List mm_V) (σ : mm_S) (Post : Option mm_V → mm_S → Prop), (∀ v ∈ av, mm_iv v) → (∀ a j, mm_in (σ.1 a j)) → σ.2.2 ≤ 348 → T_X11_undo av σ Post → ∀ Ok : Nat → mm_K, clo_X11_undo Ok Post σ.2.2 → Ok 0 (av ++ List.replicate (2 - av.length) (.inr none)) [] σ := by
  intro av σ Post hav hin hk hT Ok hcl
  obtain ⟨I, R0⟩ := σ
  unfold T_X11_undo at hT
  split at hT
  · rename_i a k
    obtain ⟨h0, hT⟩ := hT
    have h0 : R0 = mm_R0 := h0
    subst h0
    dsimp only at hT hin
    obtain ⟨c0, c11⟩ := hcl
    obtain ⟨rfl, S, hS, ok, hP⟩ := hT
    obtain ⟨k0, k1, k2, k3, k4, k5, k6, k7⟩ := sh_0
    have w4 := sh_2
    have p5 := Rs_41
    have out : ¬ (1 ≤ k ∧ k ≤ 16) → Ok 11 [.inr (some 0), .inl k] [] (I, mm_R0) := by
      intro h1
      refine c11 _ _ _ ?_
      simp only [b_X11_undo_11, i_xorg, i_shl, i_shr, i_ior, i_and1, i_lcg1, i_lcg2, i_ld, i_la, i_st, i_sa, i_c, i_inc, i_add, i_sub, i_mul, i_div, i_rem, i_remT, i_xor, i_dup, i_dup2, i_if, i_if2, i_sw, i_gi, i_gr, i_pi, i_pz, i_ial, i_ias, i_len, i_aal, i_gs, i_tal, i_cv, i_cs, i_ir, i_zr, i_vr, i_min, i_max, i_cpy, List.getElem?_cons_zero, List.getElem?_cons_succ, List.set_cons_zero, List.set_cons_succ, List.length_cons, List.length_nil, List.drop_succ_cons, List.drop_zero, List.take_succ_cons, List.take_zero, List.reverse_cons, List.reverse_nil, List.nil_append, List.cons_append, Option.toList_some, Option.toList_none, true_and, and_true, true_or, or_true, Nat.reduceAdd, Nat.reduceLT, Nat.reduceLeDiff, Option.some.injEq, exists_eq_left', Int.toNat_natCast, Nat.reduceSub, List.append_nil, List.replicate_succ, List.replicate_zero]
      have e : undF S k = (S, -1000000002) := if_pos h1
      simp only [e] at hP
      exact hP I (hiF_rf I) hS
    obtain ⟨a, ⟨nx, ct, b1, b2, b3, b4, b5, b6⟩, c, d, e, g⟩ := id hS
    obtain ⟨o1, o2, o3, o4, o5, o6, o7⟩ := id ok
    refine c0 _ _ _ ?_
    simp only [b_X11_undo_0, i_xorg, i_shl, i_shr, i_ior, i_and1, i_lcg1, i_lcg2, i_ld, i_la, i_st, i_sa, i_c, i_inc, i_add, i_sub, i_mul, i_div, i_rem, i_remT, i_xor, i_dup, i_dup2, i_if, i_if2, i_sw, i_gi, i_gr, i_pi, i_pz, i_ial, i_ias, i_len, i_aal, i_gs, i_tal, i_cv, i_cs, i_ir, i_zr, i_vr, i_min, i_max, i_cpy, List.getElem?_cons_zero, List.getElem?_cons_succ, List.set_cons_zero, List.set_cons_succ, List.length_cons, List.length_nil, List.drop_succ_cons, List.drop_zero, List.take_succ_cons, List.take_zero, List.reverse_cons, List.reverse_nil, List.nil_append, List.cons_append, Option.toList_some, Option.toList_none, true_and, and_true, true_or, or_true, Nat.reduceAdd, Nat.reduceLT, Nat.reduceLeDiff, Option.some.injEq, exists_eq_left', Int.toNat_natCast, Nat.reduceSub, List.append_nil, List.replicate_succ, List.replicate_zero, mm_in, k0, k1, k4, p5, w4, T_X5_restore, b4]
    refine ⟨fun x => out (by omega), fun x => ⟨fun x2 => ⟨by omega, fun x3 => ?_⟩, fun x2 => out (by omega)⟩⟩
    sorry
  · exact hT.elim
theorem sp_X11_undo : mm_Sp yX11_undo cX11_undo 2 (some .int) rm_X11_undo T_X11_undo := mm_meth (by decide) (by
  intro av σ Post h
  unfold T_X11_undo at h
  split at h
  · simp
  · exact h.elim) (fun p l e s m args below meth c G av σ Post hC hr _ hav hin hk hT => pv_X11_undo av σ Post hav hin hk hT _ (bk_X11_undo hC hr))
