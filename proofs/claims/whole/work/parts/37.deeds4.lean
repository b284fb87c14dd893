/-! PieceSurfaces: undo, write, tear, seed, keep, goBack
-/
def undF (S : Nat → Nat → Int) (k : Int) : (Nat → Nat → Int) × Int :=
  if ¬ (1 ≤ k ∧ k ≤ 16) then (S, -1000000002) else if S 19 0 < k then (S, -1000000003) else (upM (upW S (S (1 + (S 19 0 - k).toNat))) 0 (S 19 0 - k), S (1 + (S 19 0 - k).toNat) 1)
def T_X11_undo : mm_T := fun av σ Post => match av with
  | [.inr (some a), .inl k] => dT (fun S => undF S k) a σ Post
  | _ => False
def rm_X11_undo : Room := { frames := 4, cells := 0, slots := 0, locals := 93 }
def b_X11_undo_0 (Ok : Nat → mm_K) (Post : Option mm_V → mm_S → Prop) (kf : Nat) : mm_K := i_ld 1 (i_c 1 (i_if2 (fun x y => x < y) (Ok 11) (i_ld 1 (i_c 16 (i_if2 (fun x y => x ≤ y) (i_ld 1 (i_la 0 (i_gr 10 3 (i_gi 5 2 (i_if2 (fun x y => x ≤ y) (i_la 0 (i_gr 10 3 (i_ld 1 (i_la 0 (i_gr 10 0 (i_cv 5 2 T_X5_restore (i_la 0 (i_gr 10 0 (i_gi 9 1 (i_ir Post kf)))))))))) (i_c (-1000000003) (i_ir Post kf))))))) (Ok 11))))))
def b_X11_undo_11 (Ok : Nat → mm_K) (Post : Option mm_V → mm_S → Prop) (kf : Nat) : mm_K := i_c (-1000000002) (i_ir Post kf)
def clo_X11_undo (Ok : Nat → mm_K) (Post : Option mm_V → mm_S → Prop) (kf : Nat) : Prop := mm_imp (b_X11_undo_0 Ok Post kf) (Ok 0) ∧ mm_imp (b_X11_undo_11 Ok Post kf) (Ok 11)
set_option maxRecDepth 100000 in
set_option maxHeartbeats 4000000 in
theorem bk_X11_undo {p : Program} {l : Launch} {e : Env} {s : State} {m : MethodId} {args : Array Value} {below : List Frame} {meth : Method} {c : Code} {G : mm_G} {σ0 : mm_S} {Post : Option mm_V → mm_S → Prop} (hC : mm_C p G s m args meth c cX11_undo yX11_undo.cls) (hr : meth.sig.returnType = some .int) : clo_X11_undo (mm_O p l e rm_X11_undo s m args below meth c G σ0.2.2 (MQ below (mm_Qc G σ0 rm_X11_undo.cells rm_X11_undo.slots Post) args s rm_X11_undo.cells rm_X11_undo.slots (mm_A G))) Post σ0.2.2 := ⟨(by unfold b_X11_undo_0; exact (mm_ld_n hC dX11_undo_0 rfl (mm_ic hC dX11_undo_1 ⟨by decide, by decide⟩ (mm_ic_lt hC (t := 11) dX11_undo_2 (by decide) (fun _ _ _ h => h) (mm_ld_n hC dX11_undo_5 rfl (mm_bp hC dX11_undo_6 ⟨⟨by decide, by decide⟩, by decide⟩ (mm_ic_le hC (t := 14) dX11_undo_8 (by decide) (mm_ld_n hC dX11_undo_14 rfl (mm_la_n hC dX11_undo_15 rfl (mm_gr hC cl_10 (by decide) rfl wd_330 dX11_undo_16 (mm_gi hC cl_5 (by decide) rfl wd_270 dX11_undo_19 (mm_ic_le hC (t := 28) dX11_undo_22 (by decide) (mm_la_n hC dX11_undo_28 rfl (mm_gr hC cl_10 (by decide) rfl wd_330 dX11_undo_29 (mm_ld_n hC dX11_undo_32 rfl (mm_la_n hC dX11_undo_33 rfl (mm_gr hC cl_10 (by decide) rfl wd_327 dX11_undo_34 (mm_cv hC sp_X5_restore ⟨rfl, rfl⟩ cl_5 wd_731 wd_732 wd_733 wd_734 wd_73 ⟨by decide, by decide, by decide +kernel⟩ ⟨by decide, by decide⟩ dX11_undo_37 (mm_la_n hC dX11_undo_40 rfl (mm_gr hC cl_10 (by decide) rfl wd_327 dX11_undo_41 (mm_gi hC cl_9 (by decide) rfl wd_124 dX11_undo_44 (mm_ir hC ⟨rfl, rfl⟩ hr dX11_undo_47)))))))))) (mm_ldc hC dX11_undo_25 ⟨by decide, by decide⟩ wd_650 (mm_ir hC ⟨rfl, rfl⟩ hr dX11_undo_27))))))) (fun _ _ _ h => h)))))))), (by unfold b_X11_undo_11; exact (mm_ldc hC dX11_undo_11 ⟨by decide, by decide⟩ wd_361 (mm_ir hC ⟨rfl, rfl⟩ hr dX11_undo_13)))⟩
set_option maxRecDepth 100000 in
set_option maxHeartbeats 8000000 in
theorem pv_X11_undo : ∀ (av : List mm_V) (σ : mm_S) (Post : Option mm_V → mm_S → Prop), (∀ v ∈ av, mm_iv v) → (∀ a j, mm_in (σ.1 a j)) → σ.2.2 ≤ 348 → T_X11_undo av σ Post → ∀ Ok : Nat → mm_K, clo_X11_undo Ok Post σ.2.2 → Ok 0 (av ++ List.replicate (2 - av.length) (.inr none)) [] σ := by
  intro av σ Post hav hin hk hT Ok hcl
  obtain ⟨I, R0⟩ := σ
  unfold T_X11_undo at hT
  split at hT
  · rename_i a k
    obtain ⟨h0, hT⟩ := hT
    have h0 : R0 = mm_R0 := h0
    subst h0
    dsimp only at hT hin
    obtain ⟨c0, c11⟩ := hcl
    obtain ⟨rfl, S, hS, ok, hP⟩ := hT
    obtain ⟨k0, k1, k2, k3, k4, k5, k6, k7⟩ := sh_0
    have w4 := sh_2
    have p5 := Rs_41
    have out : ¬ (1 ≤ k ∧ k ≤ 16) → Ok 11 [.inr (some 0), .inl k] [] (I, mm_R0) := by
      intro h1
      refine c11 _ _ _ ?_
      simp only [b_X11_undo_11, i_xorg, i_shl, i_shr, i_ior, i_and1, i_lcg1, i_lcg2, i_ld, i_la, i_st, i_sa, i_c, i_inc, i_add, i_sub, i_mul, i_div, i_rem, i_remT, i_xor, i_dup, i_dup2, i_if, i_if2, i_sw, i_gi, i_gr, i_pi, i_pz, i_ial, i_ias, i_len, i_aal, i_gs, i_tal, i_cv, i_cs, i_ir, i_zr, i_vr, i_min, i_max, i_cpy, List.getElem?_cons_zero, List.getElem?_cons_succ, List.set_cons_zero, List.set_cons_succ, List.length_cons, List.length_nil, List.drop_succ_cons, List.drop_zero, List.take_succ_cons, List.take_zero, List.reverse_cons, List.reverse_nil, List.nil_append, List.cons_append, Option.toList_some, Option.toList_none, true_and, and_true, true_or, or_true, Nat.reduceAdd, Nat.reduceLT, Nat.reduceLeDiff, Option.some.injEq, exists_eq_left', Int.toNat_natCast, Nat.reduceSub, List.append_nil, List.replicate_succ, List.replicate_zero]
      have e : undF S k = (S, -1000000002) := if_pos h1
      simp only [e] at hP
      exact hP I (hiF_rf I) hS
    obtain ⟨a, ⟨nx, ct, b1, b2, b3, b4, b5, b6⟩, c, d, e, g⟩ := id hS
    obtain ⟨o1, o2, o3, o4, o5, o6, o7⟩ := id ok
    refine c0 _ _ _ ?_
    simp only [b_X11_undo_0, i_xorg, i_shl, i_shr, i_ior, i_and1, i_lcg1, i_lcg2, i_ld, i_la, i_st, i_sa, i_c, i_inc, i_add, i_sub, i_mul, i_div, i_rem, i_remT, i_xor, i_dup, i_dup2, i_if, i_if2, i_sw, i_gi, i_gr, i_pi, i_pz, i_ial, i_ias, i_len, i_aal, i_gs, i_tal, i_cv, i_cs, i_ir, i_zr, i_vr, i_min, i_max, i_cpy, List.getElem?_cons_zero, List.getElem?_cons_succ, List.set_cons_zero, List.set_cons_succ, List.length_cons, List.length_nil, List.drop_succ_cons, List.drop_zero, List.take_succ_cons, List.take_zero, List.reverse_cons, List.reverse_nil, List.nil_append, List.cons_append, Option.toList_some, Option.toList_none, true_and, and_true, true_or, or_true, Nat.reduceAdd, Nat.reduceLT, Nat.reduceLeDiff, Option.some.injEq, exists_eq_left', Int.toNat_natCast, Nat.reduceSub, List.append_nil, List.replicate_succ, List.replicate_zero, mm_in, k0, k1, k4, p5, w4, T_X5_restore, b4]
    refine ⟨fun x => out (by omega), fun x => ⟨fun x2 => fun _ => ⟨fun x3 => ?_, fun x3 => ?_⟩, fun x2 => out (by omega)⟩⟩
    · obtain ⟨t, ht⟩ : ∃ t : Nat, t + k.toNat = ct := ⟨ct - k.toNat, by omega⟩
      have hW := b6 t (by omega)
      obtain ⟨n', m, q1, q2, q3, q4, q5, q6⟩ := o2 t (by omega)
      have ei : (nx + 16 - ct + t) % 16 = (nx + 16 - k.toNat) % 16 := by omega
      rw [ei] at hW
      have e : undF S k = (upM (upW S (S (1 + t))) 0 (t : Int), S (1 + t) 1) := by
        unfold undF
        rw [if_neg (by omega), if_neg (by omega), show S 19 0 - k = (t : Int) by omega, Int.toNat_natCast]
      simp only [e] at hP
      refine ⟨nx, ct, k.toNat, m, by omega, b3, rfl, b1, b2, by omega, by omega, by rw [hW.2.1]; exact q2, by omega, fun I2 f1 g1 g2 g3 _ => ?_⟩
      have hcw := wcp_cW g3 hW q2
      rw [hcw.2.1]
      refine hP I2 (fun b hb => f1 b (by omega) (by omega)) ⟨by rw [upM_o _ _ _ (by omega), upW_0]; exact hcw, ⟨(nx + 16 - k.toNat) % 16, t, by omega, by omega, g1, by rw [g2]; omega, upM_y _ _ _, fun t' ht' => ?_⟩, ?_, fun i hi => ?_, ?_, fun i hi => ?_⟩
      · rw [upM_o _ _ _ (by omega), upW_o _ _ (by omega), show ((nx + 16 - k.toNat) % 16 + 16 - t + t') % 16 = (nx + 16 - ct + t') % 16 by omega]
        exact cW_fr (b6 t' (by omega)) (okW_m (o2 t' (by omega))) (fun b h1 h2 => f1 b (by omega) (by omega))
      · rw [upM_n _ _ _ (by omega), upW_o _ _ (by omega), f1 302 (by omega) (by omega)]
        exact c
      · rw [upM_n _ _ _ (by omega), upM_n _ _ _ (by omega), upM_o _ _ _ (by omega), upW_o _ _ (by omega), upW_o _ _ (by omega), f1 _ (by omega) (by omega)]
        exact ⟨(d i hi).1, fun hk => ⟨((d i hi).2 hk).1, cW_fr ((d i hi).2 hk).2 (okW_m ((o5 i hi).2 hk).2) (fun b h1 h2 => f1 b (by omega) (by omega))⟩⟩
      · rw [upM_n _ _ _ (by omega), upW_o _ _ (by omega), f1 299 (by omega) (by omega)]
        assumption
      · rw [upM_n _ _ _ (by omega), upW_o _ _ (by omega)] at hi
        rw [upM_o _ _ _ (by omega), upM_o _ _ _ (by omega), upW_o _ _ (by omega), upW_o _ _ (by omega), f1 300 (by omega) (by omega), f1 301 (by omega) (by omega)]
        exact g i hi
    · have e : undF S k = (S, -1000000003) := by
        unfold undF
        rw [if_neg (by omega), if_pos (by omega)]
      simp only [e] at hP
      exact hP I (hiF_rf I) hS
  · exact hT.elim
theorem sp_X11_undo : mm_Sp yX11_undo cX11_undo 2 (some .int) rm_X11_undo T_X11_undo := mm_meth (by decide) (by
  intro av σ Post h
  unfold T_X11_undo at h
  split at h
  · simp
  · exact h.elim) (fun p l e s m args below meth c G av σ Post hC hr _ hav hin hk hT => pv_X11_undo av σ Post hav hin hk hT _ (bk_X11_undo hC hr))
def wriS (S : Nat → Nat → Int) (s v : Int) : Nat → Nat → Int := fun c i => if c = 19 ∧ i = 6 then S 19 6 + 1 else if c = 20 ∧ i = (S 19 6).toNat then s else if c = 21 ∧ i = (S 19 6).toNat then v else S c i
def wriF (S : Nat → Nat → Int) (s v : Int) : (Nat → Nat → Int) × Int := if ¬ (0 ≤ s ∧ s < S 0 1) then (S, -1000000001) else if 20 ≤ S 19 6 then (S, -1000000004) else (wriS S s v, S 19 6 + 1)
theorem wriS_o (S : Nat → Nat → Int) (s v : Int) {c : Nat} (h : c < 19) : wriS S s v c = S c := by
  funext i
  unfold wriS
  rw [if_neg (by omega), if_neg (by omega), if_neg (by omega)]
theorem wriS_n (S : Nat → Nat → Int) (s v : Int) {i : Nat} (h : i ≠ 6) : wriS S s v 19 i = S 19 i := by
  unfold wriS
  rw [if_neg (by omega), if_neg (by omega), if_neg (by omega)]
theorem wriS_6 (S : Nat → Nat → Int) (s v : Int) : wriS S s v 19 6 = S 19 6 + 1 := by
  unfold wriS
  rw [if_pos ⟨rfl, rfl⟩]
theorem wriS_20 (S : Nat → Nat → Int) (s v : Int) (i : Nat) : wriS S s v 20 i = if i = (S 19 6).toNat then s else S 20 i := by
  unfold wriS
  rw [if_neg (by omega)]
  by_cases q : i = (S 19 6).toNat
  · rw [if_pos ⟨rfl, q⟩, if_pos q]
  · rw [if_neg (fun w => q w.2), if_neg (by omega), if_neg q]
theorem wriS_21 (S : Nat → Nat → Int) (s v : Int) (i : Nat) : wriS S s v 21 i = if i = (S 19 6).toNat then v else S 21 i := by
  unfold wriS
  rw [if_neg (by omega), if_neg (by omega)]
  by_cases q : i = (S 19 6).toNat
  · rw [if_pos ⟨rfl, q⟩, if_pos q]
  · rw [if_neg (fun w => q w.2), if_neg q]
def T_X11_write : mm_T := fun av σ Post => match av with
  | [.inr (some a), .inl s, .inl v] => dT (fun S => wriF S s v) a σ Post
  | _ => False
def rm_X11_write : Room := { frames := 1, cells := 0, slots := 0, locals := 22 }
def b_X11_write_0 (Ok : Nat → mm_K) (Post : Option mm_V → mm_S → Prop) (kf : Nat) : mm_K := i_la 0 (i_ld 1 (i_cv 10 1 T_X11_hasSurface (i_if (fun x => ¬ x = 0) (i_la 0 (i_gr 10 4 (i_cv 0 0 T_X0_isFull (i_if (fun x => x = 0) (i_la 0 (i_gr 10 4 (i_ld 1 (i_ld 2 (i_cv 0 2 T_X0_enter (i_la 0 (i_gr 10 4 (i_gi 0 2 (i_ir Post kf))))))))) (i_c (-1000000004) (i_ir Post kf)))))) (i_c (-1000000001) (i_ir Post kf)))))
def clo_X11_write (Ok : Nat → mm_K) (Post : Option mm_V → mm_S → Prop) (kf : Nat) : Prop := mm_imp (b_X11_write_0 Ok Post kf) (Ok 0)
set_option maxRecDepth 100000 in
set_option maxHeartbeats 4000000 in
theorem bk_X11_write {p : Program} {l : Launch} {e : Env} {s : State} {m : MethodId} {args : Array Value} {below : List Frame} {meth : Method} {c : Code} {G : mm_G} {σ0 : mm_S} {Post : Option mm_V → mm_S → Prop} (hC : mm_C p G s m args meth c cX11_write yX11_write.cls) (hr : meth.sig.returnType = some .int) : clo_X11_write (mm_O p l e rm_X11_write s m args below meth c G σ0.2.2 (MQ below (mm_Qc G σ0 rm_X11_write.cells rm_X11_write.slots Post) args s rm_X11_write.cells rm_X11_write.slots (mm_A G))) Post σ0.2.2 := (by unfold clo_X11_write b_X11_write_0; exact (mm_la_n hC dX11_write_0 rfl (mm_ld_n hC dX11_write_1 rfl (mm_cv hC sp_X11_hasSurface ⟨rfl, rfl⟩ cl_10 wd_569 wd_571 wd_12 wd_572 wd_65 ⟨by decide, by decide, by decide +kernel⟩ ⟨by decide, by decide⟩ dX11_write_2 (mm_if_ne hC (t := 11) dX11_write_5 (by decide) (mm_la_n hC dX11_write_11 rfl (mm_gr hC cl_10 (by decide) rfl wd_331 dX11_write_12 (mm_cv hC sp_X0_isFull ⟨rfl, rfl⟩ cl_0 wd_742 wd_743 wd_744 wd_745 wd_74 ⟨by decide, by decide, by decide +kernel⟩ ⟨by decide, by decide⟩ dX11_write_15 (mm_if_eq hC (t := 24) dX11_write_18 (by decide) (mm_la_n hC dX11_write_24 rfl (mm_gr hC cl_10 (by decide) rfl wd_331 dX11_write_25 (mm_ld_n hC dX11_write_28 rfl (mm_ld_n hC dX11_write_29 rfl (mm_cv hC sp_X0_enter ⟨rfl, rfl⟩ cl_0 wd_746 wd_747 wd_748 wd_749 wd_74 ⟨by decide, by decide, by decide +kernel⟩ ⟨by decide, by decide⟩ dX11_write_30 (mm_la_n hC dX11_write_33 rfl (mm_gr hC cl_10 (by decide) rfl wd_331 dX11_write_34 (mm_gi hC cl_0 (by decide) rfl wd_287 dX11_write_37 (mm_ir hC ⟨rfl, rfl⟩ hr dX11_write_40))))))))) (mm_ldc hC dX11_write_21 ⟨by decide, by decide⟩ wd_673 (mm_ir hC ⟨rfl, rfl⟩ hr dX11_write_23)))))) (mm_ldc hC dX11_write_8 ⟨by decide, by decide⟩ wd_550 (mm_ir hC ⟨rfl, rfl⟩ hr dX11_write_10)))))))
set_option maxRecDepth 100000 in
set_option maxHeartbeats 8000000 in
theorem pv_X11_write : ∀ (av : List mm_V) (σ : mm_S) (Post : Option mm_V → mm_S → Prop), (∀ v ∈ av, mm_iv v) → (∀ a j, mm_in (σ.1 a j)) → σ.2.2 ≤ 348 → T_X11_write av σ Post → ∀ Ok : Nat → mm_K, clo_X11_write Ok Post σ.2.2 → Ok 0 (av ++ List.replicate (3 - av.length) (.inr none)) [] σ := by
  intro av σ Post hav hin hk hT Ok hcl
  obtain ⟨I, R0⟩ := σ
  unfold T_X11_write at hT
  split at hT
  · rename_i a s v
    obtain ⟨h0, hT⟩ := hT
    have h0 : R0 = mm_R0 := h0
    subst h0
    dsimp only at hT hin
    have c0 := hcl
    unfold clo_X11_write at c0
    obtain ⟨rfl, S, hS, ok, hP⟩ := hT
    obtain ⟨k0, k1, k2, k3, k4, k5, k6, k7⟩ := sh_0
    have c1 := sh_299.1
    obtain ⟨a, ⟨nx, ct, b1, b2, b3, b4, b5, b6⟩, c, d, e, g⟩ := id hS
    obtain ⟨o1, o2, o3, o4, o5, o6, o7⟩ := id ok
    obtain ⟨B, hB⟩ := Int.eq_ofNat_of_zero_le o6.1
    refine c0 _ _ _ ?_
    simp only [b_X11_write_0, i_xorg, i_shl, i_shr, i_ior, i_and1, i_lcg1, i_lcg2, i_ld, i_la, i_st, i_sa, i_c, i_inc, i_add, i_sub, i_mul, i_div, i_rem, i_remT, i_xor, i_dup, i_dup2, i_if, i_if2, i_sw, i_gi, i_gr, i_pi, i_pz, i_ial, i_ias, i_len, i_aal, i_gs, i_tal, i_cv, i_cs, i_ir, i_zr, i_vr, i_min, i_max, i_cpy, List.getElem?_cons_zero, List.getElem?_cons_succ, List.set_cons_zero, List.set_cons_succ, List.length_cons, List.length_nil, List.drop_succ_cons, List.drop_zero, List.take_succ_cons, List.take_zero, List.reverse_cons, List.reverse_nil, List.nil_append, List.cons_append, Option.toList_some, Option.toList_none, true_and, and_true, true_or, or_true, Nat.reduceAdd, Nat.reduceLT, Nat.reduceLeDiff, Option.some.injEq, exists_eq_left', Int.toNat_natCast, Nat.reduceSub, List.append_nil, List.replicate_succ, List.replicate_zero, mm_in, k0, k1, k5, c1, T_X11_hasSurface, T_X0_isFull, T_X0_enter]
    rw [a.2.1, e]
    intro z hz
    refine ⟨fun x => ?_, fun x => ?_⟩
    · have h1 := bz_t hz x
      intro z2 hz2
      refine ⟨fun x2 => ?_, fun x2 => ?_⟩
      · have h2 := bz_f hz2 x2
        have e : wriF S s v = (wriS S s v, (B : Int) + 1) := by
          unfold wriF
          rw [if_neg (fun w => w h1), if_neg h2, hB]
        simp only [e] at hP
        refine ⟨B, hB, by omega, ?_⟩
        rw [mset_eq]
        intro _
        have fr : ∀ b, b ≠ 299 → b ≠ 300 → b ≠ 301 → mm_set (mm_set (mm_set I 300 B s) 301 B v) 299 2 ((B + 1 : Nat) : Int) b = I b := fun b z1 z2 z3 => by rw [mset_ne z1, mset_ne z3, mset_ne z2]
        rw [Int.natCast_add] at fr ⊢
        refine hP _ (fun b hb => fr b (by omega) (by omega) (by omega)) ⟨by rw [wriS_o _ _ _ (by omega)]; exact cW_fr a (okW_m o1) (fun b h1 h2 => fr b (by omega) (by omega) (by omega)), ⟨nx, ct, b1, b2, by rw [fr 41 (by omega) (by omega) (by omega)]; exact b3, by rw [fr 41 (by omega) (by omega) (by omega)]; exact b4, by rw [wriS_n _ _ _ (by omega)]; exact b5, fun t ht => by rw [wriS_o _ _ _ (by omega)]; exact cW_fr (b6 t ht) (okW_m (o2 t (by omega))) (fun b h1 h2 => fr b (by omega) (by omega) (by omega))⟩, by rw [wriS_n _ _ _ (by omega), fr 302 (by omega) (by omega) (by omega)]; exact c, fun i hi => ?_, by rw [wriS_6, mset_eq, hB]; rfl, fun i hi => ?_⟩
        · rw [wriS_n _ _ _ (by omega), wriS_n _ _ _ (by omega), wriS_o _ _ _ (by omega), fr _ (by omega) (by omega) (by omega)]
          exact ⟨(d i hi).1, fun hk => ⟨((d i hi).2 hk).1, cW_fr ((d i hi).2 hk).2 (okW_m ((o5 i hi).2 hk).2) (fun b h1 h2 => fr b (by omega) (by omega) (by omega))⟩⟩
        · rw [wriS_6, hB] at hi
          have h300 : ∀ x, mm_set (mm_set (mm_set I 300 B s) 301 B v) 299 2 x 300 i = if i = B then s else I 300 i := by
            intro x
            rw [mset_ne (a := 299) (by omega), mset_ne (a := 301) (by omega)]
            by_cases q : i = B
            · rw [if_pos q, q, mset_eq]
            · rw [if_neg q, mset_n2 q]
          have h301 : ∀ x, mm_set (mm_set (mm_set I 300 B s) 301 B v) 299 2 x 301 i = if i = B then v else I 301 i := by
            intro x
            rw [mset_ne (a := 299) (by omega)]
            by_cases q : i = B
            · rw [if_pos q, q, mset_eq]
            · rw [if_neg q, mset_n2 q, mset_ne (by omega)]
          rw [wriS_20, wriS_21, hB, Int.toNat_natCast, h300, h301]
          by_cases q : i = B
          · rw [if_pos q, if_pos q, if_pos q, if_pos q]
            exact ⟨rfl, rfl⟩
          · rw [if_neg q, if_neg q, if_neg q, if_neg q]
            exact g i (by omega)
      · have h2 := bz_t hz2 (by omega)
        have e : wriF S s v = (S, -1000000004) := by
          unfold wriF
          rw [if_neg (fun w => w h1), if_pos h2]
        simp only [e] at hP
        exact hP I (hiF_rf I) hS
    · have e : wriF S s v = (S, -1000000001) := if_pos (bz_f hz (by omega))
      simp only [e] at hP
      exact hP I (hiF_rf I) hS
  · exact hT.elim
theorem sp_X11_write : mm_Sp yX11_write cX11_write 3 (some .int) rm_X11_write T_X11_write := mm_meth (by decide) (by
  intro av σ Post h
  unfold T_X11_write at h
  split at h
  · simp
  · exact h.elim) (fun p l e s m args below meth c G av σ Post hC hr _ hav hin hk hT => pv_X11_write av σ Post hav hin hk hT _ (bk_X11_write hC hr))
def teaF (S : Nat → Nat → Int) : (Nat → Nat → Int) × Int := (upM S 6 0, S 19 6)
def T_X11_tear : mm_T := fun av σ Post => match av with
  | [.inr (some a)] => dT teaF a σ Post
  | _ => False
def rm_X11_tear : Room := { frames := 0, cells := 0, slots := 0, locals := 0 }
def b_X11_tear_0 (Ok : Nat → mm_K) (Post : Option mm_V → mm_S → Prop) (kf : Nat) : mm_K := i_la 0 (i_gr 10 4 (i_gi 0 2 (i_st 1 (i_la 0 (i_gr 10 4 (i_c 0 (i_pi 0 2 (i_ld 1 (i_ir Post kf)))))))))
def clo_X11_tear (Ok : Nat → mm_K) (Post : Option mm_V → mm_S → Prop) (kf : Nat) : Prop := mm_imp (b_X11_tear_0 Ok Post kf) (Ok 0)
set_option maxRecDepth 100000 in
set_option maxHeartbeats 4000000 in
theorem bk_X11_tear {p : Program} {l : Launch} {e : Env} {s : State} {m : MethodId} {args : Array Value} {below : List Frame} {meth : Method} {c : Code} {G : mm_G} {σ0 : mm_S} {Post : Option mm_V → mm_S → Prop} (hC : mm_C p G s m args meth c cX11_tear yX11_tear.cls) (hr : meth.sig.returnType = some .int) : clo_X11_tear (mm_O p l e rm_X11_tear s m args below meth c G σ0.2.2 (MQ below (mm_Qc G σ0 rm_X11_tear.cells rm_X11_tear.slots Post) args s rm_X11_tear.cells rm_X11_tear.slots (mm_A G))) Post σ0.2.2 := (by unfold clo_X11_tear b_X11_tear_0; exact (mm_la_n hC dX11_tear_0 rfl (mm_gr hC cl_10 (by decide) rfl wd_331 dX11_tear_1 (mm_gi hC cl_0 (by decide) rfl wd_287 dX11_tear_4 (mm_st_n hC dX11_tear_7 rfl (mm_la_n hC dX11_tear_8 rfl (mm_gr hC cl_10 (by decide) rfl wd_331 dX11_tear_9 (mm_ic hC dX11_tear_12 ⟨by decide, by decide⟩ (mm_pi hC cl_0 (by decide) rfl rfl rfl wd_287 dX11_tear_13 (mm_ld_n hC dX11_tear_16 rfl (mm_ir hC ⟨rfl, rfl⟩ hr dX11_tear_17)))))))))))
set_option maxRecDepth 100000 in
set_option maxHeartbeats 8000000 in
theorem pv_X11_tear : ∀ (av : List mm_V) (σ : mm_S) (Post : Option mm_V → mm_S → Prop), (∀ v ∈ av, mm_iv v) → (∀ a j, mm_in (σ.1 a j)) → σ.2.2 ≤ 348 → T_X11_tear av σ Post → ∀ Ok : Nat → mm_K, clo_X11_tear Ok Post σ.2.2 → Ok 0 (av ++ List.replicate (2 - av.length) (.inr none)) [] σ := by
  intro av σ Post hav hin hk hT Ok hcl
  obtain ⟨I, R0⟩ := σ
  unfold T_X11_tear at hT
  split at hT
  · rename_i a
    obtain ⟨h0, hT⟩ := hT
    have h0 : R0 = mm_R0 := h0
    subst h0
    dsimp only at hT hin
    have c0 := hcl
    unfold clo_X11_tear at c0
    obtain ⟨rfl, S, hS, ok, hP⟩ := hT
    obtain ⟨k0, k1, k2, k3, k4, k5, k6, k7⟩ := sh_0
    have c1 := sh_299.1
    obtain ⟨a, ⟨nx, ct, b1, b2, b3, b4, b5, b6⟩, c, d, e, g⟩ := id hS
    obtain ⟨o1, o2, o3, o4, o5, o6, o7⟩ := id ok
    refine c0 _ _ _ ?_
    simp only [b_X11_tear_0, i_xorg, i_shl, i_shr, i_ior, i_and1, i_lcg1, i_lcg2, i_ld, i_la, i_st, i_sa, i_c, i_inc, i_add, i_sub, i_mul, i_div, i_rem, i_remT, i_xor, i_dup, i_dup2, i_if, i_if2, i_sw, i_gi, i_gr, i_pi, i_pz, i_ial, i_ias, i_len, i_aal, i_gs, i_tal, i_cv, i_cs, i_ir, i_zr, i_vr, i_min, i_max, i_cpy, List.getElem?_cons_zero, List.getElem?_cons_succ, List.set_cons_zero, List.set_cons_succ, List.length_cons, List.length_nil, List.drop_succ_cons, List.drop_zero, List.take_succ_cons, List.take_zero, List.reverse_cons, List.reverse_nil, List.nil_append, List.cons_append, Option.toList_some, Option.toList_none, true_and, and_true, true_or, or_true, Nat.reduceAdd, Nat.reduceLT, Nat.reduceLeDiff, Option.some.injEq, exists_eq_left', Int.toNat_natCast, Nat.reduceSub, List.append_nil, List.replicate_succ, List.replicate_zero, mm_in, k0, k5, c1]
    rw [e]
    intro _
    have fr : ∀ b, b ≠ 299 → mm_set I 299 2 0 b = I b := fun b z1 => mset_ne z1
    refine hP _ (fun b hb => fr b (by omega)) ⟨by show cW _ _ (upM S 6 0 0); rw [upM_o _ _ _ (by omega)]; exact cW_fr a (okW_m o1) (fun b h1 h2 => fr b (by omega)), ⟨nx, ct, b1, b2, by rw [fr 41 (by omega)]; exact b3, by rw [fr 41 (by omega)]; exact b4, b5, fun t ht => ?_⟩, by rw [fr 302 (by omega)]; exact c, fun i hi => ?_, by rw [mset_eq]; exact (upM_y S 6 0).symm, fun i hi => ?_⟩
    · show cW _ _ (upM S 6 0 (1 + t))
      rw [upM_o _ _ _ (by omega)]
      exact cW_fr (b6 t ht) (okW_m (o2 t (by omega))) (fun b h1 h2 => fr b (by omega))
    · show _ = upM S 6 0 19 (2 + i) ∧ (upM S 6 0 19 (2 + i) ≠ 0 → _ = upM S 6 0 19 (4 + i) ∧ cW _ _ (upM S 6 0 (17 + i)))
      rw [upM_n _ _ _ (by omega), upM_n _ _ _ (by omega), upM_o _ _ _ (by omega), fr _ (by omega)]
      exact ⟨(d i hi).1, fun hk => ⟨((d i hi).2 hk).1, cW_fr ((d i hi).2 hk).2 (okW_m ((o5 i hi).2 hk).2) (fun b h1 h2 => fr b (by omega))⟩⟩
    · have hi' : (i : Int) < upM S 6 0 19 6 := hi
      rw [upM_y] at hi'
      omega
  · exact hT.elim
theorem sp_X11_tear : mm_Sp yX11_tear cX11_tear 2 (some .int) rm_X11_tear T_X11_tear := mm_meth (by decide) (by
  intro av σ Post h
  unfold T_X11_tear at h
  split at h
  · simp
  · exact h.elim) (fun p l e s m args below meth c G av σ Post hC hr _ hav hin hk hT => pv_X11_tear av σ Post hav hin hk hT _ (bk_X11_tear hC hr))
def seeF (S : Nat → Nat → Int) (v : Int) : (Nat → Nat → Int) × Int := if 0 ≤ v then (upM S 1 v, S 19 1) else (S, -1000000002)
def T_X11_seed : mm_T := fun av σ Post => match av with
  | [.inr (some a), .inl v] => dT (fun S => seeF S v) a σ Post
  | _ => False
def rm_X11_seed : Room := { frames := 0, cells := 0, slots := 0, locals := 0 }
def b_X11_seed_0 (Ok : Nat → mm_K) (Post : Option mm_V → mm_S → Prop) (kf : Nat) : mm_K := i_ld 1 (i_if (fun x => 0 ≤ x) (i_la 0 (i_gr 10 5 (i_gi 2 0 (i_st 2 (i_la 0 (i_gr 10 5 (i_ld 1 (i_pi 2 0 (i_ld 2 (i_ir Post kf)))))))))) (i_c (-1000000002) (i_ir Post kf)))
def clo_X11_seed (Ok : Nat → mm_K) (Post : Option mm_V → mm_S → Prop) (kf : Nat) : Prop := mm_imp (b_X11_seed_0 Ok Post kf) (Ok 0)
set_option maxRecDepth 100000 in
set_option maxHeartbeats 4000000 in
theorem bk_X11_seed {p : Program} {l : Launch} {e : Env} {s : State} {m : MethodId} {args : Array Value} {below : List Frame} {meth : Method} {c : Code} {G : mm_G} {σ0 : mm_S} {Post : Option mm_V → mm_S → Prop} (hC : mm_C p G s m args meth c cX11_seed yX11_seed.cls) (hr : meth.sig.returnType = some .int) : clo_X11_seed (mm_O p l e rm_X11_seed s m args below meth c G σ0.2.2 (MQ below (mm_Qc G σ0 rm_X11_seed.cells rm_X11_seed.slots Post) args s rm_X11_seed.cells rm_X11_seed.slots (mm_A G))) Post σ0.2.2 := (by unfold clo_X11_seed b_X11_seed_0; exact (mm_ld_n hC dX11_seed_0 rfl (mm_if_ge hC (t := 7) dX11_seed_1 (by decide) (mm_la_n hC dX11_seed_7 rfl (mm_gr hC cl_10 (by decide) rfl wd_332 dX11_seed_8 (mm_gi hC cl_2 (by decide) rfl wd_303 dX11_seed_11 (mm_st_n hC dX11_seed_14 rfl (mm_la_n hC dX11_seed_15 rfl (mm_gr hC cl_10 (by decide) rfl wd_332 dX11_seed_16 (mm_ld_n hC dX11_seed_19 rfl (mm_pi hC cl_2 (by decide) rfl rfl rfl wd_303 dX11_seed_20 (mm_ld_n hC dX11_seed_23 rfl (mm_ir hC ⟨rfl, rfl⟩ hr dX11_seed_24)))))))))) (mm_ldc hC dX11_seed_4 ⟨by decide, by decide⟩ wd_361 (mm_ir hC ⟨rfl, rfl⟩ hr dX11_seed_6)))))
set_option maxRecDepth 100000 in
set_option maxHeartbeats 8000000 in
theorem pv_X11_seed : ∀ (av : List mm_V) (σ : mm_S) (Post : Option mm_V → mm_S → Prop), (∀ v ∈ av, mm_iv v) → (∀ a j, mm_in (σ.1 a j)) → σ.2.2 ≤ 348 → T_X11_seed av σ Post → ∀ Ok : Nat → mm_K, clo_X11_seed Ok Post σ.2.2 → Ok 0 (av ++ List.replicate (3 - av.length) (.inr none)) [] σ := by
  intro av σ Post hav hin hk hT Ok hcl
  obtain ⟨I, R0⟩ := σ
  unfold T_X11_seed at hT
  split at hT
  · rename_i a v
    obtain ⟨h0, hT⟩ := hT
    have h0 : R0 = mm_R0 := h0
    subst h0
    dsimp only at hT hin
    have c0 := hcl
    unfold clo_X11_seed at c0
    obtain ⟨rfl, S, hS, ok, hP⟩ := hT
    obtain ⟨k0, k1, k2, k3, k4, k5, k6, k7⟩ := sh_0
    have c6 := sh_299.2.2.2.2.2.1
    refine c0 _ _ _ ?_
    simp only [b_X11_seed_0, i_xorg, i_shl, i_shr, i_ior, i_and1, i_lcg1, i_lcg2, i_ld, i_la, i_st, i_sa, i_c, i_inc, i_add, i_sub, i_mul, i_div, i_rem, i_remT, i_xor, i_dup, i_dup2, i_if, i_if2, i_sw, i_gi, i_gr, i_pi, i_pz, i_ial, i_ias, i_len, i_aal, i_gs, i_tal, i_cv, i_cs, i_ir, i_zr, i_vr, i_min, i_max, i_cpy, List.getElem?_cons_zero, List.getElem?_cons_succ, List.set_cons_zero, List.set_cons_succ, List.length_cons, List.length_nil, List.drop_succ_cons, List.drop_zero, List.take_succ_cons, List.take_zero, List.reverse_cons, List.reverse_nil, List.nil_append, List.cons_append, Option.toList_some, Option.toList_none, true_and, and_true, true_or, or_true, Nat.reduceAdd, Nat.reduceLT, Nat.reduceLeDiff, Option.some.injEq, exists_eq_left', Int.toNat_natCast, Nat.reduceSub, List.append_nil, List.replicate_succ, List.replicate_zero, mm_in, k0, k6, c6]
    refine ⟨fun x => ?_, fun x => ?_⟩
    · have e : seeF S v = (upM S 1 v, S 19 1) := if_pos x
      simp only [e] at hP
      rw [hS.2.2.1]
      intro _
      exact hP _ (fun b hb => mset_ne (by omega)) (cSt_m1 hS ok (fun b hb _ => mset_ne hb) mset_eq)
    · have e : seeF S v = (S, -1000000002) := if_neg x
      simp only [e] at hP
      exact hP I (hiF_rf I) hS
  · exact hT.elim
theorem sp_X11_seed : mm_Sp yX11_seed cX11_seed 3 (some .int) rm_X11_seed T_X11_seed := mm_meth (by decide) (by
  intro av σ Post h
  unfold T_X11_seed at h
  split at h
  · simp
  · exact h.elim) (fun p l e s m args below meth c G av σ Post hC hr _ hav hin hk hT => pv_X11_seed av σ Post hav hin hk hT _ (bk_X11_seed hC hr))
def kepS (S : Nat → Nat → Int) (i : Nat) : Nat → Nat → Int := fun c j => if c = 17 + i then S 0 j else if c = 19 ∧ j = 2 + i then 1 else if c = 19 ∧ j = 4 + i then S 19 1 else if c = 19 ∧ j = 0 then 0 else S c j
def kepF (S : Nat → Nat → Int) (i : Int) : (Nat → Nat → Int) × Int := if ¬ (0 ≤ i ∧ i < 2) then (S, -1000000001) else (kepS S i.toNat, 1)
theorem kepS_0 (S : Nat → Nat → Int) {i c : Nat} (h : c ≠ 17 + i) (h2 : c ≠ 19) : kepS S i c = S c := by
  funext j
  unfold kepS
  rw [if_neg (by omega), if_neg (by omega), if_neg (by omega), if_neg (by omega)]
theorem kepS_i (S : Nat → Nat → Int) (i : Nat) : kepS S i (17 + i) = S 0 := by
  funext j
  unfold kepS
  rw [if_pos rfl]
theorem kepS_19 (S : Nat → Nat → Int) {i j : Nat} (hi : i < 2) : kepS S i 19 j = if j = 2 + i then 1 else if j = 4 + i then S 19 1 else if j = 0 then 0 else S 19 j := by
  unfold kepS
  rw [if_neg (by omega)]
  simp only [true_and]
def T_X11_keep : mm_T := fun av σ Post => match av with
  | [.inr (some a), .inl i] => dT (fun S => kepF S i) a σ Post
  | _ => False
theorem sh_304 : ∀ i, i < 2 → (mm_sh (304 + 17 * i)).1 = 3 := by decide +kernel
theorem Rs_303 (j : Nat) : mm_Rs 303 j = some (304 + 17 * j) := by
  unfold mm_Rs
  rfl
def rm_X11_keep : Room := { frames := 4, cells := 0, slots := 0, locals := 93 }
def b_X11_keep_0 (Ok : Nat → mm_K) (Post : Option mm_V → mm_S → Prop) (kf : Nat) : mm_K := i_la 0 (i_ld 1 (i_cv 10 1 T_X11_hasImage (i_if (fun x => ¬ x = 0) (i_la 0 (i_gr 10 6 (i_ld 1 (i_aal 103 (i_la 0 (i_gr 10 0 (i_la 0 (i_gr 10 5 (i_cv 3 2 T_X3_save (i_la 0 (i_gr 10 3 (i_c 0 (i_pi 5 2 (i_c 1 (i_ir Post kf))))))))))))))) (i_c (-1000000001) (i_ir Post kf)))))
def clo_X11_keep (Ok : Nat → mm_K) (Post : Option mm_V → mm_S → Prop) (kf : Nat) : Prop := mm_imp (b_X11_keep_0 Ok Post kf) (Ok 0)
set_option maxRecDepth 100000 in
set_option maxHeartbeats 4000000 in
theorem bk_X11_keep {p : Program} {l : Launch} {e : Env} {s : State} {m : MethodId} {args : Array Value} {below : List Frame} {meth : Method} {c : Code} {G : mm_G} {σ0 : mm_S} {Post : Option mm_V → mm_S → Prop} (hC : mm_C p G s m args meth c cX11_keep yX11_keep.cls) (hr : meth.sig.returnType = some .int) : clo_X11_keep (mm_O p l e rm_X11_keep s m args below meth c G σ0.2.2 (MQ below (mm_Qc G σ0 rm_X11_keep.cells rm_X11_keep.slots Post) args s rm_X11_keep.cells rm_X11_keep.slots (mm_A G))) Post σ0.2.2 := (by unfold clo_X11_keep b_X11_keep_0; exact (mm_la_n hC dX11_keep_0 rfl (mm_ld_n hC dX11_keep_1 rfl (mm_cv hC sp_X11_hasImage ⟨rfl, rfl⟩ cl_10 wd_762 wd_764 wd_18 wd_765 wd_65 ⟨by decide, by decide, by decide +kernel⟩ ⟨by decide, by decide⟩ dX11_keep_2 (mm_if_ne hC (t := 11) dX11_keep_5 (by decide) (mm_la_n hC dX11_keep_11 rfl (mm_gr hC cl_10 (by decide) rfl wd_333 dX11_keep_12 (mm_ld_n hC dX11_keep_15 rfl (mm_aal hC (t := 3) (by decide) rfl dX11_keep_16 (mm_la_n hC dX11_keep_17 rfl (mm_gr hC cl_10 (by decide) rfl wd_327 dX11_keep_18 (mm_la_n hC dX11_keep_21 rfl (mm_gr hC cl_10 (by decide) rfl wd_332 dX11_keep_22 (mm_cv hC sp_X3_save ⟨rfl, rfl⟩ cl_3 wd_766 wd_767 wd_768 wd_769 wd_76 ⟨by decide, by decide, by decide +kernel⟩ ⟨by decide, by decide⟩ dX11_keep_25 (mm_la_n hC dX11_keep_28 rfl (mm_gr hC cl_10 (by decide) rfl wd_330 dX11_keep_29 (mm_ic hC dX11_keep_32 ⟨by decide, by decide⟩ (mm_pi hC cl_5 (by decide) rfl rfl rfl wd_270 dX11_keep_33 (mm_ic hC dX11_keep_36 ⟨by decide, by decide⟩ (mm_ir hC ⟨rfl, rfl⟩ hr dX11_keep_37))))))))))))))) (mm_ldc hC dX11_keep_8 ⟨by decide, by decide⟩ wd_550 (mm_ir hC ⟨rfl, rfl⟩ hr dX11_keep_10)))))))
set_option maxRecDepth 100000 in
set_option maxHeartbeats 8000000 in
theorem pv_X11_keep : ∀ (av : List mm_V) (σ : mm_S) (Post : Option mm_V → mm_S → Prop), (∀ v ∈ av, mm_iv v) → (∀ a j, mm_in (σ.1 a j)) → σ.2.2 ≤ 348 → T_X11_keep av σ Post → ∀ Ok : Nat → mm_K, clo_X11_keep Ok Post σ.2.2 → Ok 0 (av ++ List.replicate (2 - av.length) (.inr none)) [] σ := by
  intro av σ Post hav hin hk hT Ok hcl
  obtain ⟨I, R0⟩ := σ
  unfold T_X11_keep at hT
  split at hT
  · rename_i a i
    obtain ⟨h0, hT⟩ := hT
    have h0 : R0 = mm_R0 := h0
    subst h0
    dsimp only at hT hin
    have c0 := hcl
    unfold clo_X11_keep at c0
    obtain ⟨rfl, S, hS, ok, hP⟩ := hT
    obtain ⟨k0, k1, k2, k3, k4, k5, k6, k7⟩ := sh_0
    obtain ⟨c1, c2, c3, c4, c5, c6, c7⟩ := sh_299
    have w4 := sh_2
    have p5 := Rs_41
    obtain ⟨a, ⟨nx, ct, b1, b2, b3, b4, b5, b6⟩, c, d, e, g⟩ := id hS
    obtain ⟨o1, o2, o3, o4, o5, o6, o7⟩ := id ok
    refine c0 _ _ _ ?_
    simp only [b_X11_keep_0, i_xorg, i_shl, i_shr, i_ior, i_and1, i_lcg1, i_lcg2, i_ld, i_la, i_st, i_sa, i_c, i_inc, i_add, i_sub, i_mul, i_div, i_rem, i_remT, i_xor, i_dup, i_dup2, i_if, i_if2, i_sw, i_gi, i_gr, i_pi, i_pz, i_ial, i_ias, i_len, i_aal, i_gs, i_tal, i_cv, i_cs, i_ir, i_zr, i_vr, i_min, i_max, i_cpy, List.getElem?_cons_zero, List.getElem?_cons_succ, List.set_cons_zero, List.set_cons_succ, List.length_cons, List.length_nil, List.drop_succ_cons, List.drop_zero, List.take_succ_cons, List.take_zero, List.reverse_cons, List.reverse_nil, List.nil_append, List.cons_append, Option.toList_some, Option.toList_none, true_and, and_true, true_or, or_true, Nat.reduceAdd, Nat.reduceLT, Nat.reduceLeDiff, Option.some.injEq, exists_eq_left', Int.toNat_natCast, Nat.reduceSub, List.append_nil, List.replicate_succ, List.replicate_zero, mm_in, k0, k1, k4, k6, k7, c7, p5, Rs_303, T_X11_hasImage]
    intro z hz
    refine ⟨fun x => ?_, fun x => ?_⟩
    · have h1 := bz_t hz x
      obtain ⟨t, ht⟩ := Int.eq_ofNat_of_zero_le h1.1
      subst ht
      have ht2 : t < 2 := by omega
      have s3 := sh_304 t ht2
      obtain ⟨n', m, q1, q2, q3, q4, q5, q6⟩ := id o1
      have e : kepF S (t : Int) = (kepS S t, 1) := by
        unfold kepF
        rw [if_neg (fun w => w h1), Int.toNat_natCast]
      simp only [e] at hP
      simp only [Int.toNat_natCast, s3, T_X3_save, i_xorg, i_shl, i_shr, i_ior, i_and1, i_lcg1, i_lcg2, i_ld, i_la, i_st, i_sa, i_c, i_inc, i_add, i_sub, i_mul, i_div, i_rem, i_remT, i_xor, i_dup, i_dup2, i_if, i_if2, i_sw, i_gi, i_gr, i_pi, i_pz, i_ial, i_ias, i_len, i_aal, i_gs, i_tal, i_cv, i_cs, i_ir, i_zr, i_vr, i_min, i_max, i_cpy, List.getElem?_cons_zero, List.getElem?_cons_succ, List.set_cons_zero, List.set_cons_succ, List.length_cons, List.length_nil, List.drop_succ_cons, List.drop_zero, List.take_succ_cons, List.take_zero, List.reverse_cons, List.reverse_nil, List.nil_append, List.cons_append, Option.toList_some, Option.toList_none, true_and, and_true, true_or, or_true, Nat.reduceAdd, Nat.reduceLT, Nat.reduceLeDiff, Option.some.injEq, exists_eq_left', Int.toNat_natCast, Nat.reduceSub, List.append_nil, List.replicate_succ, List.replicate_zero]
      repeat' first | refine And.intro ?_ ?_ | refine fun (_ : _ ≤ _ ∧ _ < _) => ?_
      all_goals try omega
      refine ⟨t, m, ht2, rfl, by rw [a.2.1]; exact q2, by omega, fun I2 f1 g1 g2 g3 => ?_⟩
      have hcw := wcp_cW g3 a q2
      rw [show 304 + 17 * t + 1 = 305 + 17 * t by omega] at hcw
      have fr : ∀ b, b ≠ 41 → mm_set I2 41 2 0 b = I2 b := fun b hb => mset_ne hb
      have f2 : ∀ b, b ≠ 41 → b < 304 + 17 * t ∨ 304 + 17 * t + 17 ≤ b → mm_set I2 41 2 0 b = I b := fun b z1 z2 => by rw [fr b z1, f1 b z2]
      refine ⟨41, k4, ⟨by omega, p5⟩, hP _ (fun b hb => f2 b (by omega) (by omega)) ⟨by rw [kepS_0 _ (by omega) (by omega)]; exact cW_fr a (okW_m o1) (fun b h1 h2 => f2 b (by omega) (by omega)), ⟨nx, 0, b1, by omega, by rw [mset_n2 (by omega), f1 41 (by omega)]; exact b3, by rw [mset_eq]; rfl, by rw [kepS_19 _ ht2, if_neg (by omega), if_neg (by omega), if_pos rfl]; rfl, fun t' ht' => by omega⟩, ?_, fun j hj => ?_, ?_, fun j hj => ?_⟩⟩
      · rw [kepS_19 _ ht2, if_neg (by omega), if_neg (by omega), if_neg (by omega), f2 302 (by omega) (by omega)]
        exact c
      · by_cases q : j = t
        · subst q
          rw [kepS_19 _ ht2, if_pos rfl, kepS_19 _ ht2, if_neg (by omega), if_pos rfl, kepS_i, fr _ (by omega)]
          refine ⟨g2, fun _ => ⟨by rw [g1]; exact c, cW_fr hcw (okW_m o1) (fun b h1 h2 => fr b (by omega))⟩⟩
        · rw [kepS_19 _ ht2, if_neg (by omega), if_neg (by omega), if_neg (by omega), kepS_19 _ ht2, if_neg (by omega), if_neg (by omega), if_neg (by omega), kepS_0 _ (by omega) (by omega), f2 _ (by omega) (by omega)]
          exact ⟨(d j hj).1, fun hk => ⟨((d j hj).2 hk).1, cW_fr ((d j hj).2 hk).2 (okW_m ((o5 j hj).2 hk).2) (fun b h1 h2 => f2 b (by omega) (by omega))⟩⟩
      · rw [kepS_19 _ ht2, if_neg (by omega), if_neg (by omega), if_neg (by omega), f2 299 (by omega) (by omega)]
        assumption
      · rw [kepS_19 _ ht2, if_neg (by omega), if_neg (by omega), if_neg (by omega)] at hj
        rw [kepS_0 _ (by omega) (by omega), kepS_0 _ (by omega) (by omega), f2 300 (by omega) (by omega), f2 301 (by omega) (by omega)]
        exact g j hj
    · have e : kepF S i = (S, -1000000001) := if_pos (bz_f hz (by omega))
      simp only [e] at hP
      exact hP I (hiF_rf I) hS
  · exact hT.elim
theorem sp_X11_keep : mm_Sp yX11_keep cX11_keep 2 (some .int) rm_X11_keep T_X11_keep := mm_meth (by decide) (by
  intro av σ Post h
  unfold T_X11_keep at h
  split at h
  · simp
  · exact h.elim) (fun p l e s m args below meth c G av σ Post hC hr _ hav hin hk hT => pv_X11_keep av σ Post hav hin hk hT _ (bk_X11_keep hC hr))
def bacF (S : Nat → Nat → Int) (i : Int) : (Nat → Nat → Int) × Int := if ¬ (0 ≤ i ∧ i < 2) then (S, -1000000001) else if S 19 (2 + i.toNat) = 0 then (S, -1000000003) else (upM (upM (upW S (S (17 + i.toNat))) 1 (S 19 (4 + i.toNat))) 0 0, 1)
def T_X11_goBack : mm_T := fun av σ Post => match av with
  | [.inr (some a), .inl i] => dT (fun S => bacF S i) a σ Post
  | _ => False
def rm_X11_goBack : Room := { frames := 4, cells := 0, slots := 0, locals := 93 }
def b_X11_goBack_0 (Ok : Nat → mm_K) (Post : Option mm_V → mm_S → Prop) (kf : Nat) : mm_K := i_la 0 (i_ld 1 (i_cv 10 1 T_X11_hasImage (i_if (fun x => ¬ x = 0) (i_la 0 (i_gr 10 6 (i_ld 1 (i_aal 103 (i_gi 3 2 (i_if (fun x => ¬ x = 0) (i_la 0 (i_gr 10 6 (i_ld 1 (i_aal 103 (i_la 0 (i_gr 10 0 (i_la 0 (i_gr 10 5 (i_cv 3 2 T_X3_load (i_la 0 (i_gr 10 3 (i_c 0 (i_pi 5 2 (i_c 1 (i_ir Post kf))))))))))))))) (i_c (-1000000003) (i_ir Post kf)))))))) (i_c (-1000000001) (i_ir Post kf)))))
def clo_X11_goBack (Ok : Nat → mm_K) (Post : Option mm_V → mm_S → Prop) (kf : Nat) : Prop := mm_imp (b_X11_goBack_0 Ok Post kf) (Ok 0)
set_option maxRecDepth 100000 in
set_option maxHeartbeats 4000000 in
theorem bk_X11_goBack {p : Program} {l : Launch} {e : Env} {s : State} {m : MethodId} {args : Array Value} {below : List Frame} {meth : Method} {c : Code} {G : mm_G} {σ0 : mm_S} {Post : Option mm_V → mm_S → Prop} (hC : mm_C p G s m args meth c cX11_goBack yX11_goBack.cls) (hr : meth.sig.returnType = some .int) : clo_X11_goBack (mm_O p l e rm_X11_goBack s m args below meth c G σ0.2.2 (MQ below (mm_Qc G σ0 rm_X11_goBack.cells rm_X11_goBack.slots Post) args s rm_X11_goBack.cells rm_X11_goBack.slots (mm_A G))) Post σ0.2.2 := (by unfold clo_X11_goBack b_X11_goBack_0; exact (mm_la_n hC dX11_goBack_0 rfl (mm_ld_n hC dX11_goBack_1 rfl (mm_cv hC sp_X11_hasImage ⟨rfl, rfl⟩ cl_10 wd_762 wd_764 wd_18 wd_765 wd_65 ⟨by decide, by decide, by decide +kernel⟩ ⟨by decide, by decide⟩ dX11_goBack_2 (mm_if_ne hC (t := 11) dX11_goBack_5 (by decide) (mm_la_n hC dX11_goBack_11 rfl (mm_gr hC cl_10 (by decide) rfl wd_333 dX11_goBack_12 (mm_ld_n hC dX11_goBack_15 rfl (mm_aal hC (t := 3) (by decide) rfl dX11_goBack_16 (mm_gi hC cl_3 (by decide) rfl wd_319 dX11_goBack_17 (mm_if_ne hC (t := 26) dX11_goBack_20 (by decide) (mm_la_n hC dX11_goBack_26 rfl (mm_gr hC cl_10 (by decide) rfl wd_333 dX11_goBack_27 (mm_ld_n hC dX11_goBack_30 rfl (mm_aal hC (t := 3) (by decide) rfl dX11_goBack_31 (mm_la_n hC dX11_goBack_32 rfl (mm_gr hC cl_10 (by decide) rfl wd_327 dX11_goBack_33 (mm_la_n hC dX11_goBack_36 rfl (mm_gr hC cl_10 (by decide) rfl wd_332 dX11_goBack_37 (mm_cv hC sp_X3_load ⟨rfl, rfl⟩ cl_3 wd_775 wd_776 wd_777 wd_778 wd_76 ⟨by decide, by decide, by decide +kernel⟩ ⟨by decide, by decide⟩ dX11_goBack_40 (mm_la_n hC dX11_goBack_43 rfl (mm_gr hC cl_10 (by decide) rfl wd_330 dX11_goBack_44 (mm_ic hC dX11_goBack_47 ⟨by decide, by decide⟩ (mm_pi hC cl_5 (by decide) rfl rfl rfl wd_270 dX11_goBack_48 (mm_ic hC dX11_goBack_51 ⟨by decide, by decide⟩ (mm_ir hC ⟨rfl, rfl⟩ hr dX11_goBack_52))))))))))))))) (mm_ldc hC dX11_goBack_23 ⟨by decide, by decide⟩ wd_650 (mm_ir hC ⟨rfl, rfl⟩ hr dX11_goBack_25)))))))) (mm_ldc hC dX11_goBack_8 ⟨by decide, by decide⟩ wd_550 (mm_ir hC ⟨rfl, rfl⟩ hr dX11_goBack_10)))))))
set_option maxRecDepth 100000 in
set_option maxHeartbeats 8000000 in
theorem pv_X11_goBack : ∀ (av : List mm_V) (σ : mm_S) (Post : Option mm_V → mm_S → Prop), (∀ v ∈ av, mm_iv v) → (∀ a j, mm_in (σ.1 a j)) → σ.2.2 ≤ 348 → T_X11_goBack av σ Post → ∀ Ok : Nat → mm_K, clo_X11_goBack Ok Post σ.2.2 → Ok 0 (av ++ List.replicate (2 - av.length) (.inr none)) [] σ := by
  intro av σ Post hav hin hk hT Ok hcl
  obtain ⟨I, R0⟩ := σ
  unfold T_X11_goBack at hT
  split at hT
  · rename_i a i
    obtain ⟨h0, hT⟩ := hT
    have h0 : R0 = mm_R0 := h0
    subst h0
    dsimp only at hT hin
    have c0 := hcl
    unfold clo_X11_goBack at c0
    obtain ⟨rfl, S, hS, ok, hP⟩ := hT
    obtain ⟨k0, k1, k2, k3, k4, k5, k6, k7⟩ := sh_0
    obtain ⟨c1, c2, c3, c4, c5, c6, c7⟩ := sh_299
    have w4 := sh_2
    have p5 := Rs_41
    obtain ⟨a, ⟨nx, ct, b1, b2, b3, b4, b5, b6⟩, c, d, e, g⟩ := id hS
    obtain ⟨o1, o2, o3, o4, o5, o6, o7⟩ := id ok
    refine c0 _ _ _ ?_
    simp only [b_X11_goBack_0, i_xorg, i_shl, i_shr, i_ior, i_and1, i_lcg1, i_lcg2, i_ld, i_la, i_st, i_sa, i_c, i_inc, i_add, i_sub, i_mul, i_div, i_rem, i_remT, i_xor, i_dup, i_dup2, i_if, i_if2, i_sw, i_gi, i_gr, i_pi, i_pz, i_ial, i_ias, i_len, i_aal, i_gs, i_tal, i_cv, i_cs, i_ir, i_zr, i_vr, i_min, i_max, i_cpy, List.getElem?_cons_zero, List.getElem?_cons_succ, List.set_cons_zero, List.set_cons_succ, List.length_cons, List.length_nil, List.drop_succ_cons, List.drop_zero, List.take_succ_cons, List.take_zero, List.reverse_cons, List.reverse_nil, List.nil_append, List.cons_append, Option.toList_some, Option.toList_none, true_and, and_true, true_or, or_true, Nat.reduceAdd, Nat.reduceLT, Nat.reduceLeDiff, Option.some.injEq, exists_eq_left', Int.toNat_natCast, Nat.reduceSub, List.append_nil, List.replicate_succ, List.replicate_zero, mm_in, k0, k1, k4, k6, k7, c7, p5, Rs_303, T_X11_hasImage]
    intro z hz
    refine ⟨fun x => ?_, fun x => ?_⟩
    · have h1 := bz_t hz x
      obtain ⟨t, ht⟩ := Int.eq_ofNat_of_zero_le h1.1
      subst ht
      have ht2 : t < 2 := by omega
      have s3 := sh_304 t ht2
      have hd := d t ht2
      have eF : bacF S (t : Int) = if S 19 (2 + t) = 0 then (S, -1000000003) else (upM (upM (upW S (S (17 + t))) 1 (S 19 (4 + t))) 0 0, 1) := by
        unfold bacF
        rw [if_neg (fun w => w h1), Int.toNat_natCast]
      simp only [Int.toNat_natCast, s3, hd.1, T_X3_load, i_xorg, i_shl, i_shr, i_ior, i_and1, i_lcg1, i_lcg2, i_ld, i_la, i_st, i_sa, i_c, i_inc, i_add, i_sub, i_mul, i_div, i_rem, i_remT, i_xor, i_dup, i_dup2, i_if, i_if2, i_sw, i_gi, i_gr, i_pi, i_pz, i_ial, i_ias, i_len, i_aal, i_gs, i_tal, i_cv, i_cs, i_ir, i_zr, i_vr, i_min, i_max, i_cpy, List.getElem?_cons_zero, List.getElem?_cons_succ, List.set_cons_zero, List.set_cons_succ, List.length_cons, List.length_nil, List.drop_succ_cons, List.drop_zero, List.take_succ_cons, List.take_zero, List.reverse_cons, List.reverse_nil, List.nil_append, List.cons_append, Option.toList_some, Option.toList_none, true_and, and_true, true_or, or_true, Nat.reduceAdd, Nat.reduceLT, Nat.reduceLeDiff, Option.some.injEq, exists_eq_left', Int.toNat_natCast, Nat.reduceSub, List.append_nil, List.replicate_succ, List.replicate_zero]
      repeat' first | refine And.intro ?_ ?_ | refine fun (_ : _ ≤ _ ∧ _ < _) => ?_
      all_goals try omega
      · intro x2
        rw [if_neg x2] at eF
        simp only [eF] at hP
        obtain ⟨y1, y2⟩ := (o5 t ht2).2 x2
        obtain ⟨z1, z2⟩ := hd.2 x2
        obtain ⟨n', m, q1, q2, q3, q4, q5, q6⟩ := id y2
        repeat' first | refine And.intro ?_ ?_ | refine fun (_ : _ ≤ _ ∧ _ < _) => ?_
        all_goals try omega
        refine ⟨t, m, ht2, rfl, by rw [show 304 + 17 * t + 1 = 305 + 17 * t by omega, z2.2.1]; exact q2, by omega, fun I2 f1 g1 g2 => ?_⟩
        rw [show 304 + 17 * t + 1 = 305 + 17 * t by omega] at g2
        have hcw := wcp_cW g2 z2 q2
        have fr : ∀ b, b ≠ 41 → mm_set I2 41 2 0 b = I2 b := fun b hb => mset_ne hb
        have f2 : ∀ b, b ≠ 41 → b ≠ 302 → 18 ≤ b → mm_set I2 41 2 0 b = I b := fun b z1 z2 z3 => by rw [fr b z1, f1 b z2 (by omega)]
        refine ⟨41, k4, ⟨by omega, p5⟩, hP _ (fun b hb => f2 b (by omega) (by omega) (by omega)) ⟨by rw [upM_o _ _ _ (by omega), upM_o _ _ _ (by omega), upW_0]; exact cW_fr hcw (by omega) (fun b h1 h2 => fr b (by omega)), ⟨nx, 0, b1, by omega, by rw [mset_n2 (by omega), f1 41 (by omega) (by omega)]; exact b3, by rw [mset_eq]; rfl, by rw [upM_y]; rfl, fun t' ht' => by omega⟩, ?_, fun j hj => ?_, ?_, fun j hj => ?_⟩⟩
        · rw [upM_n _ _ _ (by omega), upM_y, fr 302 (by omega), g1]
          exact z1
        · rw [upM_n _ _ _ (by omega), upM_n _ _ _ (by omega), upM_n _ _ _ (by omega), upM_n _ _ _ (by omega), upM_o _ _ _ (by omega), upM_o _ _ _ (by omega), upW_o _ _ (by omega), upW_o _ _ (by omega), f2 _ (by omega) (by omega) (by omega)]
          exact ⟨(d j hj).1, fun hk => ⟨((d j hj).2 hk).1, cW_fr ((d j hj).2 hk).2 (okW_m ((o5 j hj).2 hk).2) (fun b h1 h2 => f2 b (by omega) (by omega) (by omega))⟩⟩
        · rw [upM_n _ _ _ (by omega), upM_n _ _ _ (by omega), upW_o _ _ (by omega), f2 299 (by omega) (by omega) (by omega)]
          assumption
        · rw [upM_n _ _ _ (by omega), upM_n _ _ _ (by omega), upW_o _ _ (by omega)] at hj
          rw [upM_o _ _ _ (by omega), upM_o _ _ _ (by omega), upM_o _ _ _ (by omega), upM_o _ _ _ (by omega), upW_o _ _ (by omega), upW_o _ _ (by omega), f2 300 (by omega) (by omega) (by omega), f2 301 (by omega) (by omega) (by omega)]
          exact g j hj
      · intro x2
        rw [if_pos (by omega)] at eF
        simp only [eF] at hP
        exact hP I (hiF_rf I) hS
    · have e : bacF S i = (S, -1000000001) := if_pos (bz_f hz (by omega))
      simp only [e] at hP
      exact hP I (hiF_rf I) hS
  · exact hT.elim
theorem sp_X11_goBack : mm_Sp yX11_goBack cX11_goBack 2 (some .int) rm_X11_goBack T_X11_goBack := mm_meth (by decide) (by
  intro av σ Post h
  unfold T_X11_goBack at h
  split at h
  · simp
  · exact h.elim) (fun p l e s m args below meth c G av σ Post hC hr _ hav hin hk hT => pv_X11_goBack av σ Post hav hin hk hT _ (bk_X11_goBack hC hr))
