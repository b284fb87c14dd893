/-! PieceSurfaces: the queries of surfaces and of the whole
-/
theorem bz_t {z : Int} {P : Prop} (h : bz z P) (hz : ¬ z = 0) : P := by
  rcases h with ⟨_, b⟩ | ⟨a, _⟩
  · exact b
  · exact absurd a hz
theorem bz_f {z : Int} {P : Prop} (h : bz z P) (hz : z = 0) : ¬ P := by
  rcases h with ⟨a, _⟩ | ⟨_, b⟩
  · omega
  · exact b
def piecesR (I : Nat → Nat → Int) (s b k z : Int) : Prop :=
  if ¬ ((0 ≤ s ∧ s < I 2 1) ∧ (0 ≤ b ∧ b < I 2 0)) then z = -1000000001 else if ¬ (0 ≤ k ∧ k < 7) then z = -1000000002 else z = I (7 + 2 * s.toNat) (7 * b + k).toNat
def T_X11_pieces : mm_T := fun av σ Post => match av with
  | [.inr (some a), .inl s, .inl b, .inl k] => σ.2 = mm_R0 ∧ a = 0 ∧ (∃ n : Nat, gw σ.1 n) ∧ shs σ.1 ∧ ∀ z : Int, piecesR σ.1 s b k z → Post (some (.inl z)) σ
  | _ => False
def rm_X11_pieces : Room := { frames := 1, cells := 0, slots := 0, locals := 21 }
def b_X11_pieces_0 (Ok : Nat → mm_K) (Post : Option mm_V → mm_S → Prop) (kf : Nat) : mm_K := i_la 0 (i_ld 1 (i_cv 10 1 T_X11_hasSurface (i_if (fun x => x = 0) (Ok 16) (i_la 0 (i_ld 2 (i_cv 10 1 T_X11_hasBody (i_if (fun x => ¬ x = 0) (i_ld 3 (i_cs 1 T_X11_isKind (i_if (fun x => ¬ x = 0) (i_la 0 (i_gr 10 0 (i_gr 9 4 (i_ld 1 (i_aal 101 (i_gr 6 0 (i_c 7 (i_ld 2 (i_mul (i_ld 3 (i_add (i_ial (i_ir Post kf))))))))))))) (i_c (-1000000002) (i_ir Post kf))))) (Ok 16))))))))
def b_X11_pieces_16 (Ok : Nat → mm_K) (Post : Option mm_V → mm_S → Prop) (kf : Nat) : mm_K := i_c (-1000000001) (i_ir Post kf)
def clo_X11_pieces (Ok : Nat → mm_K) (Post : Option mm_V → mm_S → Prop) (kf : Nat) : Prop := mm_imp (b_X11_pieces_0 Ok Post kf) (Ok 0) ∧ mm_imp (b_X11_pieces_16 Ok Post kf) (Ok 16)
set_option maxRecDepth 100000 in
set_option maxHeartbeats 4000000 in
theorem bk_X11_pieces {p : Program} {l : Launch} {e : Env} {s : State} {m : MethodId} {args : Array Value} {below : List Frame} {meth : Method} {c : Code} {G : mm_G} {σ0 : mm_S} {Post : Option mm_V → mm_S → Prop} (hC : mm_C p G s m args meth c cX11_pieces yX11_pieces.cls) (hr : meth.sig.returnType = some .int) : clo_X11_pieces (mm_O p l e rm_X11_pieces s m args below meth c G σ0.2.2 (MQ below (mm_Qc G σ0 rm_X11_pieces.cells rm_X11_pieces.slots Post) args s rm_X11_pieces.cells rm_X11_pieces.slots (mm_A G))) Post σ0.2.2 := ⟨(by unfold b_X11_pieces_0; exact (mm_la_n hC dX11_pieces_0 rfl (mm_ld_n hC dX11_pieces_1 rfl (mm_cv hC sp_X11_hasSurface ⟨rfl, rfl⟩ cl_10 wd_569 wd_571 wd_12 wd_572 wd_65 ⟨by decide, by decide, by decide +kernel⟩ ⟨by decide, by decide⟩ dX11_pieces_2 (mm_if_eq hC (t := 16) dX11_pieces_5 (by decide) (fun _ _ _ h => h) (mm_la_n hC dX11_pieces_8 rfl (mm_ld_n hC dX11_pieces_9 rfl (mm_cv hC sp_X11_hasBody ⟨rfl, rfl⟩ cl_10 wd_546 wd_548 wd_10 wd_549 wd_65 ⟨by decide, by decide, by decide +kernel⟩ ⟨by decide, by decide⟩ dX11_pieces_10 (mm_if_ne hC (t := 19) dX11_pieces_13 (by decide) (mm_ld_n hC dX11_pieces_19 rfl (mm_cs hC sp_X11_isKind ⟨rfl, rfl⟩ wd_573 wd_574 wd_575 wd_65 ⟨by decide, by decide, by decide +kernel⟩ ⟨by decide, by decide⟩ dX11_pieces_20 (mm_if_ne hC (t := 29) dX11_pieces_23 (by decide) (mm_la_n hC dX11_pieces_29 rfl (mm_gr hC cl_10 (by decide) rfl wd_327 dX11_pieces_30 (mm_gr hC cl_9 (by decide) rfl wd_134 dX11_pieces_33 (mm_ld_n hC dX11_pieces_36 rfl (mm_aal hC (t := 1) (by decide) rfl dX11_pieces_37 (mm_gr hC cl_6 (by decide) rfl wd_110 dX11_pieces_38 (mm_bp hC dX11_pieces_41 ⟨⟨by decide, by decide⟩, by decide⟩ (mm_ld_n hC dX11_pieces_43 rfl (mm_mul hC dX11_pieces_44 (mm_ld_n hC dX11_pieces_45 rfl (mm_add hC dX11_pieces_46 (mm_ial hC dX11_pieces_47 (mm_ir hC ⟨rfl, rfl⟩ hr dX11_pieces_48))))))))))))) (mm_ldc hC dX11_pieces_26 ⟨by decide, by decide⟩ wd_361 (mm_ir hC ⟨rfl, rfl⟩ hr dX11_pieces_28))))) (fun _ _ _ h => h)))))))))), (by unfold b_X11_pieces_16; exact (mm_ldc hC dX11_pieces_16 ⟨by decide, by decide⟩ wd_550 (mm_ir hC ⟨rfl, rfl⟩ hr dX11_pieces_18)))⟩
set_option maxRecDepth 100000 in
set_option maxHeartbeats 8000000 in
theorem pv_X11_pieces : ∀ (av : List mm_V) (σ : mm_S) (Post : Option mm_V → mm_S → Prop), (∀ v ∈ av, mm_iv v) → (∀ a j, mm_in (σ.1 a j)) → σ.2.2 ≤ 348 → T_X11_pieces av σ Post → ∀ Ok : Nat → mm_K, clo_X11_pieces Ok Post σ.2.2 → Ok 0 (av ++ List.replicate (4 - av.length) (.inr none)) [] σ := by
  intro av σ Post hav hin hk hT Ok hcl
  obtain ⟨I, R0⟩ := σ
  unfold T_X11_pieces at hT
  split at hT
  · rename_i a s b k
    obtain ⟨h0, hT⟩ := hT
    have h0 : R0 = mm_R0 := h0
    subst h0
    dsimp only at hT hin
    obtain ⟨c0, c16⟩ := hcl
    obtain ⟨rfl, ⟨n, hn, hn1, hn3, hg⟩, ⟨q1, q2, q3⟩, hP⟩ := hT
    obtain ⟨k0, k1, k2, k3, k4, k5, k6, k7⟩ := sh_0
    obtain ⟨w1, w2, w3, w4, w5, w6⟩ := Rs_2
    have out : ¬ ((0 ≤ s ∧ s < I 2 1) ∧ (0 ≤ b ∧ b < I 2 0)) → Ok 16 [.inr (some 0), .inl s, .inl b, .inl k] [] (I, mm_R0) := by
      intro h1
      refine c16 _ _ _ ?_
      simp only [b_X11_pieces_16, i_xorg, i_shl, i_shr, i_ior, i_and1, i_lcg1, i_lcg2, i_ld, i_la, i_st, i_sa, i_c, i_inc, i_add, i_sub, i_mul, i_div, i_rem, i_remT, i_xor, i_dup, i_dup2, i_if, i_if2, i_sw, i_gi, i_gr, i_pi, i_pz, i_ial, i_ias, i_len, i_aal, i_gs, i_tal, i_cv, i_cs, i_ir, i_zr, i_vr, i_min, i_max, i_cpy, List.getElem?_cons_zero, List.getElem?_cons_succ, List.set_cons_zero, List.set_cons_succ, List.length_cons, List.length_nil, List.drop_succ_cons, List.drop_zero, List.take_succ_cons, List.take_zero, List.reverse_cons, List.reverse_nil, List.nil_append, List.cons_append, Option.toList_some, Option.toList_none, true_and, and_true, true_or, or_true, Nat.reduceAdd, Nat.reduceLT, Nat.reduceLeDiff, Option.some.injEq, exists_eq_left', Int.toNat_natCast, Nat.reduceSub, List.append_nil, List.replicate_succ, List.replicate_zero]
      refine hP _ ?_
      unfold piecesR
      rw [if_pos h1]
    refine c0 _ _ _ ?_
    simp only [b_X11_pieces_0, i_xorg, i_shl, i_shr, i_ior, i_and1, i_lcg1, i_lcg2, i_ld, i_la, i_st, i_sa, i_c, i_inc, i_add, i_sub, i_mul, i_div, i_rem, i_remT, i_xor, i_dup, i_dup2, i_if, i_if2, i_sw, i_gi, i_gr, i_pi, i_pz, i_ial, i_ias, i_len, i_aal, i_gs, i_tal, i_cv, i_cs, i_ir, i_zr, i_vr, i_min, i_max, i_cpy, List.getElem?_cons_zero, List.getElem?_cons_succ, List.set_cons_zero, List.set_cons_succ, List.length_cons, List.length_nil, List.drop_succ_cons, List.drop_zero, List.take_succ_cons, List.take_zero, List.reverse_cons, List.reverse_nil, List.nil_append, List.cons_append, Option.toList_some, Option.toList_none, true_and, and_true, true_or, or_true, Nat.reduceAdd, Nat.reduceLT, Nat.reduceLeDiff, Option.some.injEq, exists_eq_left', Int.toNat_natCast, Nat.reduceSub, List.append_nil, List.replicate_succ, List.replicate_zero, mm_in, k0, k1, T_X11_hasSurface, T_X11_hasBody, T_X11_isKind, w3, w4, sh_5, Rs_5]
    intro z hz
    refine ⟨fun y => out (fun w => bz_f hz y w.1), fun y z2 hz2 => ⟨fun y2 => ?_, fun y2 => out (fun w => bz_f hz2 (by omega) w.2)⟩⟩
    have h1 := bz_t hz y
    have h2 := bz_t hz2 y2
    obtain ⟨t, ht⟩ := Int.eq_ofNat_of_zero_le h1.1
    subst ht
    have ht6 : t < 6 := by omega
    obtain ⟨a1, a2, a3⟩ := sheet2 ht6
    intro z3 hz3
    refine ⟨fun y3 => ?_, fun y3 => hP _ ?_⟩
    · have h3 := bz_t hz3 y3
      refine ⟨⟨by omega, by omega⟩, ?_⟩
      simp only [Int.toNat_natCast, a1, a2, a3, i_xorg, i_shl, i_shr, i_ior, i_and1, i_lcg1, i_lcg2, i_ld, i_la, i_st, i_sa, i_c, i_inc, i_add, i_sub, i_mul, i_div, i_rem, i_remT, i_xor, i_dup, i_dup2, i_if, i_if2, i_sw, i_gi, i_gr, i_pi, i_pz, i_ial, i_ias, i_len, i_aal, i_gs, i_tal, i_cv, i_cs, i_ir, i_zr, i_vr, i_min, i_max, i_cpy, List.getElem?_cons_zero, List.getElem?_cons_succ, List.set_cons_zero, List.set_cons_succ, List.length_cons, List.length_nil, List.drop_succ_cons, List.drop_zero, List.take_succ_cons, List.take_zero, List.reverse_cons, List.reverse_nil, List.nil_append, List.cons_append, Option.toList_some, Option.toList_none, true_and, and_true, true_or, or_true, Nat.reduceAdd, Nat.reduceLT, Nat.reduceLeDiff, Option.some.injEq, exists_eq_left', Int.toNat_natCast, Nat.reduceSub, List.append_nil, List.replicate_succ, List.replicate_zero]
      refine ⟨by omega, ⟨by omega, by omega⟩, ⟨by omega, by omega⟩, ⟨by omega, by omega⟩, ?_⟩
      intro _
      refine hP _ ?_
      unfold piecesR
      rw [if_neg (fun w => w ⟨h1, h2⟩), if_neg (fun w => w h3), Int.toNat_natCast]
    · unfold piecesR
      rw [if_neg (fun w => w ⟨h1, h2⟩), if_pos (bz_f hz3 (by omega))]
  · exact hT.elim
theorem sp_X11_pieces : mm_Sp yX11_pieces cX11_pieces 4 (some .int) rm_X11_pieces T_X11_pieces := mm_meth (by decide) (by
  intro av σ Post h
  unfold T_X11_pieces at h
  split at h
  · simp
  · exact h.elim) (fun p l e s m args below meth c G av σ Post hC hr _ hav hin hk hT => pv_X11_pieces av σ Post hav hin hk hT _ (bk_X11_pieces hC hr))
def weightR (I : Nat → Nat → Int) (s b e z : Int) : Prop :=
  if ¬ ((0 ≤ s ∧ s < I 2 1) ∧ (0 ≤ b ∧ b < I 2 0) ∧ 0 ≤ e ∧ e < 6) then z = -1000000001 else z = wt (I (7 + 2 * s.toNat)) b.toNat e.toNat
def T_X11_weight : mm_T := fun av σ Post => match av with
  | [.inr (some a), .inl s, .inl b, .inl k] => σ.2 = mm_R0 ∧ a = 0 ∧ (∃ n : Nat, gw σ.1 n) ∧ shs σ.1 ∧ ∀ z : Int, weightR σ.1 s b k z → Post (some (.inl z)) σ
  | _ => False
def rm_X11_weight : Room := { frames := 2, cells := 0, slots := 0, locals := 47 }
def b_X11_weight_0 (Ok : Nat → mm_K) (Post : Option mm_V → mm_S → Prop) (kf : Nat) : mm_K := i_la 0 (i_ld 1 (i_cv 10 1 T_X11_hasSurface (i_if (fun x => x = 0) (Ok 17) (i_la 0 (i_ld 2 (i_ld 3 (i_cv 10 2 T_X11_hasEdge (i_if (fun x => ¬ x = 0) (i_la 0 (i_gr 10 0 (i_gr 9 4 (i_ld 1 (i_aal 101 (i_ld 2 (i_ld 3 (i_cv 6 2 T_X7_weightOn (i_ir Post kf))))))))) (Ok 17)))))))))
def b_X11_weight_17 (Ok : Nat → mm_K) (Post : Option mm_V → mm_S → Prop) (kf : Nat) : mm_K := i_c (-1000000001) (i_ir Post kf)
def clo_X11_weight (Ok : Nat → mm_K) (Post : Option mm_V → mm_S → Prop) (kf : Nat) : Prop := mm_imp (b_X11_weight_0 Ok Post kf) (Ok 0) ∧ mm_imp (b_X11_weight_17 Ok Post kf) (Ok 17)
set_option maxRecDepth 100000 in
set_option maxHeartbeats 4000000 in
theorem bk_X11_weight {p : Program} {l : Launch} {e : Env} {s : State} {m : MethodId} {args : Array Value} {below : List Frame} {meth : Method} {c : Code} {G : mm_G} {σ0 : mm_S} {Post : Option mm_V → mm_S → Prop} (hC : mm_C p G s m args meth c cX11_weight yX11_weight.cls) (hr : meth.sig.returnType = some .int) : clo_X11_weight (mm_O p l e rm_X11_weight s m args below meth c G σ0.2.2 (MQ below (mm_Qc G σ0 rm_X11_weight.cells rm_X11_weight.slots Post) args s rm_X11_weight.cells rm_X11_weight.slots (mm_A G))) Post σ0.2.2 := ⟨(by unfold b_X11_weight_0; exact (mm_la_n hC dX11_weight_0 rfl (mm_ld_n hC dX11_weight_1 rfl (mm_cv hC sp_X11_hasSurface ⟨rfl, rfl⟩ cl_10 wd_569 wd_571 wd_12 wd_572 wd_65 ⟨by decide, by decide, by decide +kernel⟩ ⟨by decide, by decide⟩ dX11_weight_2 (mm_if_eq hC (t := 17) dX11_weight_5 (by decide) (fun _ _ _ h => h) (mm_la_n hC dX11_weight_8 rfl (mm_ld_n hC dX11_weight_9 rfl (mm_ld_n hC dX11_weight_10 rfl (mm_cv hC sp_X11_hasEdge ⟨rfl, rfl⟩ cl_10 wd_560 wd_562 wd_11 wd_563 wd_65 ⟨by decide, by decide, by decide +kernel⟩ ⟨by decide, by decide⟩ dX11_weight_11 (mm_if_ne hC (t := 20) dX11_weight_14 (by decide) (mm_la_n hC dX11_weight_20 rfl (mm_gr hC cl_10 (by decide) rfl wd_327 dX11_weight_21 (mm_gr hC cl_9 (by decide) rfl wd_134 dX11_weight_24 (mm_ld_n hC dX11_weight_27 rfl (mm_aal hC (t := 1) (by decide) rfl dX11_weight_28 (mm_ld_n hC dX11_weight_29 rfl (mm_ld_n hC dX11_weight_30 rfl (mm_cv hC sp_X7_weightOn ⟨rfl, rfl⟩ cl_6 wd_611 wd_491 wd_492 wd_493 wd_68 ⟨by decide, by decide, by decide +kernel⟩ ⟨by decide, by decide⟩ dX11_weight_31 (mm_ir hC ⟨rfl, rfl⟩ hr dX11_weight_34))))))))) (fun _ _ _ h => h))))))))))), (by unfold b_X11_weight_17; exact (mm_ldc hC dX11_weight_17 ⟨by decide, by decide⟩ wd_550 (mm_ir hC ⟨rfl, rfl⟩ hr dX11_weight_19)))⟩
set_option maxRecDepth 100000 in
set_option maxHeartbeats 8000000 in
theorem pv_X11_weight : ∀ (av : List mm_V) (σ : mm_S) (Post : Option mm_V → mm_S → Prop), (∀ v ∈ av, mm_iv v) → (∀ a j, mm_in (σ.1 a j)) → σ.2.2 ≤ 348 → T_X11_weight av σ Post → ∀ Ok : Nat → mm_K, clo_X11_weight Ok Post σ.2.2 → Ok 0 (av ++ List.replicate (4 - av.length) (.inr none)) [] σ := by
  intro av σ Post hav hin hk hT Ok hcl
  obtain ⟨I, R0⟩ := σ
  unfold T_X11_weight at hT
  split at hT
  · rename_i a s b k
    obtain ⟨h0, hT⟩ := hT
    have h0 : R0 = mm_R0 := h0
    subst h0
    dsimp only at hT hin
    obtain ⟨c0, c17⟩ := hcl
    obtain ⟨rfl, ⟨n, hn, hn1, hn3, hg⟩, ⟨q1, q2, q3⟩, hP⟩ := hT
    obtain ⟨k0, k1, k2, k3, k4, k5, k6, k7⟩ := sh_0
    obtain ⟨w1, w2, w3, w4, w5, w6⟩ := Rs_2
    have out : ¬ ((0 ≤ s ∧ s < I 2 1) ∧ (0 ≤ b ∧ b < I 2 0) ∧ 0 ≤ k ∧ k < 6) → Ok 17 [.inr (some 0), .inl s, .inl b, .inl k] [] (I, mm_R0) := by
      intro h1
      refine c17 _ _ _ ?_
      simp only [b_X11_weight_17, i_xorg, i_shl, i_shr, i_ior, i_and1, i_lcg1, i_lcg2, i_ld, i_la, i_st, i_sa, i_c, i_inc, i_add, i_sub, i_mul, i_div, i_rem, i_remT, i_xor, i_dup, i_dup2, i_if, i_if2, i_sw, i_gi, i_gr, i_pi, i_pz, i_ial, i_ias, i_len, i_aal, i_gs, i_tal, i_cv, i_cs, i_ir, i_zr, i_vr, i_min, i_max, i_cpy, List.getElem?_cons_zero, List.getElem?_cons_succ, List.set_cons_zero, List.set_cons_succ, List.length_cons, List.length_nil, List.drop_succ_cons, List.drop_zero, List.take_succ_cons, List.take_zero, List.reverse_cons, List.reverse_nil, List.nil_append, List.cons_append, Option.toList_some, Option.toList_none, true_and, and_true, true_or, or_true, Nat.reduceAdd, Nat.reduceLT, Nat.reduceLeDiff, Option.some.injEq, exists_eq_left', Int.toNat_natCast, Nat.reduceSub, List.append_nil, List.replicate_succ, List.replicate_zero]
      refine hP _ ?_
      unfold weightR
      rw [if_pos h1]
    refine c0 _ _ _ ?_
    simp only [b_X11_weight_0, i_xorg, i_shl, i_shr, i_ior, i_and1, i_lcg1, i_lcg2, i_ld, i_la, i_st, i_sa, i_c, i_inc, i_add, i_sub, i_mul, i_div, i_rem, i_remT, i_xor, i_dup, i_dup2, i_if, i_if2, i_sw, i_gi, i_gr, i_pi, i_pz, i_ial, i_ias, i_len, i_aal, i_gs, i_tal, i_cv, i_cs, i_ir, i_zr, i_vr, i_min, i_max, i_cpy, List.getElem?_cons_zero, List.getElem?_cons_succ, List.set_cons_zero, List.set_cons_succ, List.length_cons, List.length_nil, List.drop_succ_cons, List.drop_zero, List.take_succ_cons, List.take_zero, List.reverse_cons, List.reverse_nil, List.nil_append, List.cons_append, Option.toList_some, Option.toList_none, true_and, and_true, true_or, or_true, Nat.reduceAdd, Nat.reduceLT, Nat.reduceLeDiff, Option.some.injEq, exists_eq_left', Int.toNat_natCast, Nat.reduceSub, List.append_nil, List.replicate_succ, List.replicate_zero, mm_in, k0, k1, T_X11_hasSurface, T_X11_hasEdge, w3, w4, sh_5, Rs_5]
    intro z hz
    refine ⟨fun y => out (fun w => bz_f hz y w.1), fun y z2 hz2 => ⟨fun y2 => ?_, fun y2 => out (fun w => bz_f hz2 (by omega) w.2)⟩⟩
    have h1 := bz_t hz y
    have h2 := bz_t hz2 y2
    obtain ⟨t, ht⟩ := Int.eq_ofNat_of_zero_le h1.1
    subst ht
    have ht6 : t < 6 := by omega
    obtain ⟨a1, a2, a3⟩ := sheet2 ht6
    refine ⟨⟨by omega, by omega⟩, ?_⟩
    simp only [Int.toNat_natCast, a1, a2, a3, T_X7_weightOn, i_xorg, i_shl, i_shr, i_ior, i_and1, i_lcg1, i_lcg2, i_ld, i_la, i_st, i_sa, i_c, i_inc, i_add, i_sub, i_mul, i_div, i_rem, i_remT, i_xor, i_dup, i_dup2, i_if, i_if2, i_sw, i_gi, i_gr, i_pi, i_pz, i_ial, i_ias, i_len, i_aal, i_gs, i_tal, i_cv, i_cs, i_ir, i_zr, i_vr, i_min, i_max, i_cpy, List.getElem?_cons_zero, List.getElem?_cons_succ, List.set_cons_zero, List.set_cons_succ, List.length_cons, List.length_nil, List.drop_succ_cons, List.drop_zero, List.take_succ_cons, List.take_zero, List.reverse_cons, List.reverse_nil, List.nil_append, List.cons_append, Option.toList_some, Option.toList_none, true_and, and_true, true_or, or_true, Nat.reduceAdd, Nat.reduceLT, Nat.reduceLeDiff, Option.some.injEq, exists_eq_left', Int.toNat_natCast, Nat.reduceSub, List.append_nil, List.replicate_succ, List.replicate_zero]
    have e7 : 6 + 2 * t + 1 = 7 + 2 * t := by omega
    rw [e7]
    refine ⟨by omega, b.toNat, k.toNat, by omega, by omega, by omega, by omega, b20_bd (q3 t (by omega)), hP _ ?_⟩
    unfold weightR
    rw [if_neg (fun w => w ⟨h1, h2⟩), Int.toNat_natCast]
  · exact hT.elim
theorem sp_X11_weight : mm_Sp yX11_weight cX11_weight 4 (some .int) rm_X11_weight T_X11_weight := mm_meth (by decide) (by
  intro av σ Post h
  unfold T_X11_weight at h
  split at h
  · simp
  · exact h.elim) (fun p l e s m args below meth c G av σ Post hC hr _ hav hin hk hT => pv_X11_weight av σ Post hav hin hk hT _ (bk_X11_weight hC hr))
def arcsR (I : Nat → Nat → Int) (s b f v z : Int) : Prop :=
  if ¬ ((0 ≤ s ∧ s < I 2 1) ∧ ((0 ≤ b ∧ b < I 2 0) ∧ 0 ≤ f ∧ f < 4) ∧ (0 ≤ v ∧ v < 4) ∧ v ≠ f) then z = -1000000001 else z = ac (I (7 + 2 * s.toNat)) b.toNat f.toNat v.toNat
def T_X11_arcs : mm_T := fun av σ Post => match av with
  | [.inr (some a), .inl s, .inl b, .inl f, .inl v] => σ.2 = mm_R0 ∧ a = 0 ∧ (∃ n : Nat, gw σ.1 n) ∧ shs σ.1 ∧ ∀ z : Int, arcsR σ.1 s b f v z → Post (some (.inl z)) σ
  | _ => False
def rm_X11_arcs : Room := { frames := 2, cells := 0, slots := 0, locals := 44 }
def b_X11_arcs_0 (Ok : Nat → mm_K) (Post : Option mm_V → mm_S → Prop) (kf : Nat) : mm_K := i_la 0 (i_ld 1 (i_cv 10 1 T_X11_hasSurface (i_if (fun x => x = 0) (Ok 33) (i_la 0 (i_ld 2 (i_ld 3 (i_cv 10 2 T_X11_hasFace (i_if (fun x => x = 0) (Ok 33) (i_la 0 (i_ld 2 (i_ld 4 (i_cv 10 2 T_X11_hasFace (i_if (fun x => x = 0) (Ok 33) (i_ld 4 (i_ld 3 (i_if2 (fun x y => ¬ x = y) (i_la 0 (i_gr 10 0 (i_gr 9 4 (i_ld 1 (i_aal 101 (i_ld 2 (i_ld 3 (i_ld 4 (i_cv 6 3 T_X7_arcsAt (i_ir Post kf)))))))))) (Ok 33)))))))))))))))))
def b_X11_arcs_33 (Ok : Nat → mm_K) (Post : Option mm_V → mm_S → Prop) (kf : Nat) : mm_K := i_c (-1000000001) (i_ir Post kf)
def clo_X11_arcs (Ok : Nat → mm_K) (Post : Option mm_V → mm_S → Prop) (kf : Nat) : Prop := mm_imp (b_X11_arcs_0 Ok Post kf) (Ok 0) ∧ mm_imp (b_X11_arcs_33 Ok Post kf) (Ok 33)
set_option maxRecDepth 100000 in
set_option maxHeartbeats 4000000 in
theorem bk_X11_arcs {p : Program} {l : Launch} {e : Env} {s : State} {m : MethodId} {args : Array Value} {below : List Frame} {meth : Method} {c : Code} {G : mm_G} {σ0 : mm_S} {Post : Option mm_V → mm_S → Prop} (hC : mm_C p G s m args meth c cX11_arcs yX11_arcs.cls) (hr : meth.sig.returnType = some .int) : clo_X11_arcs (mm_O p l e rm_X11_arcs s m args below meth c G σ0.2.2 (MQ below (mm_Qc G σ0 rm_X11_arcs.cells rm_X11_arcs.slots Post) args s rm_X11_arcs.cells rm_X11_arcs.slots (mm_A G))) Post σ0.2.2 := ⟨(by unfold b_X11_arcs_0; exact (mm_la_n hC dX11_arcs_0 rfl (mm_ld_n hC dX11_arcs_1 rfl (mm_cv hC sp_X11_hasSurface ⟨rfl, rfl⟩ cl_10 wd_569 wd_571 wd_12 wd_572 wd_65 ⟨by decide, by decide, by decide +kernel⟩ ⟨by decide, by decide⟩ dX11_arcs_2 (mm_if_eq hC (t := 33) dX11_arcs_5 (by decide) (fun _ _ _ h => h) (mm_la_n hC dX11_arcs_8 rfl (mm_ld_n hC dX11_arcs_9 rfl (mm_ld_n hC dX11_arcs_10 rfl (mm_cv hC sp_X11_hasFace ⟨rfl, rfl⟩ cl_10 wd_542 wd_544 wd_9 wd_545 wd_65 ⟨by decide, by decide, by decide +kernel⟩ ⟨by decide, by decide⟩ dX11_arcs_11 (mm_if_eq hC (t := 33) dX11_arcs_14 (by decide) (fun _ _ _ h => h) (mm_la_n hC dX11_arcs_17 rfl (mm_ld_n hC dX11_arcs_18 rfl (mm_ld hC dX11_arcs_19 (mm_cv hC sp_X11_hasFace ⟨rfl, rfl⟩ cl_10 wd_542 wd_544 wd_9 wd_545 wd_65 ⟨by decide, by decide, by decide +kernel⟩ ⟨by decide, by decide⟩ dX11_arcs_21 (mm_if_eq hC (t := 33) dX11_arcs_24 (by decide) (fun _ _ _ h => h) (mm_ld hC dX11_arcs_27 (mm_ld_n hC dX11_arcs_29 rfl (mm_ic_ne hC (t := 36) dX11_arcs_30 (by decide) (mm_la_n hC dX11_arcs_36 rfl (mm_gr hC cl_10 (by decide) rfl wd_327 dX11_arcs_37 (mm_gr hC cl_9 (by decide) rfl wd_134 dX11_arcs_40 (mm_ld_n hC dX11_arcs_43 rfl (mm_aal hC (t := 1) (by decide) rfl dX11_arcs_44 (mm_ld_n hC dX11_arcs_45 rfl (mm_ld_n hC dX11_arcs_46 rfl (mm_ld hC dX11_arcs_47 (mm_cv hC sp_X7_arcsAt ⟨rfl, rfl⟩ cl_6 wd_616 wd_457 wd_458 wd_459 wd_68 ⟨by decide, by decide, by decide +kernel⟩ ⟨by decide, by decide⟩ dX11_arcs_49 (mm_ir hC ⟨rfl, rfl⟩ hr dX11_arcs_52)))))))))) (fun _ _ _ h => h))))))))))))))))))), (by unfold b_X11_arcs_33; exact (mm_ldc hC dX11_arcs_33 ⟨by decide, by decide⟩ wd_550 (mm_ir hC ⟨rfl, rfl⟩ hr dX11_arcs_35)))⟩
set_option maxRecDepth 100000 in
set_option maxHeartbeats 8000000 in
theorem pv_X11_arcs : ∀ (av : List mm_V) (σ : mm_S) (Post : Option mm_V → mm_S → Prop), (∀ v ∈ av, mm_iv v) → (∀ a j, mm_in (σ.1 a j)) → σ.2.2 ≤ 348 → T_X11_arcs av σ Post → ∀ Ok : Nat → mm_K, clo_X11_arcs Ok Post σ.2.2 → Ok 0 (av ++ List.replicate (5 - av.length) (.inr none)) [] σ := by
  intro av σ Post hav hin hk hT Ok hcl
  obtain ⟨I, R0⟩ := σ
  unfold T_X11_arcs at hT
  split at hT
  · rename_i a s b f v
    obtain ⟨h0, hT⟩ := hT
    have h0 : R0 = mm_R0 := h0
    subst h0
    dsimp only at hT hin
    obtain ⟨c0, c33⟩ := hcl
    obtain ⟨rfl, ⟨n, hn, hn1, hn3, hg⟩, ⟨q1, q2, q3⟩, hP⟩ := hT
    obtain ⟨k0, k1, k2, k3, k4, k5, k6, k7⟩ := sh_0
    obtain ⟨w1, w2, w3, w4, w5, w6⟩ := Rs_2
    have out : ¬ ((0 ≤ s ∧ s < I 2 1) ∧ ((0 ≤ b ∧ b < I 2 0) ∧ 0 ≤ f ∧ f < 4) ∧ (0 ≤ v ∧ v < 4) ∧ v ≠ f) → Ok 33 [.inr (some 0), .inl s, .inl b, .inl f, .inl v] [] (I, mm_R0) := by
      intro h1
      refine c33 _ _ _ ?_
      simp only [b_X11_arcs_33, i_xorg, i_shl, i_shr, i_ior, i_and1, i_lcg1, i_lcg2, i_ld, i_la, i_st, i_sa, i_c, i_inc, i_add, i_sub, i_mul, i_div, i_rem, i_remT, i_xor, i_dup, i_dup2, i_if, i_if2, i_sw, i_gi, i_gr, i_pi, i_pz, i_ial, i_ias, i_len, i_aal, i_gs, i_tal, i_cv, i_cs, i_ir, i_zr, i_vr, i_min, i_max, i_cpy, List.getElem?_cons_zero, List.getElem?_cons_succ, List.set_cons_zero, List.set_cons_succ, List.length_cons, List.length_nil, List.drop_succ_cons, List.drop_zero, List.take_succ_cons, List.take_zero, List.reverse_cons, List.reverse_nil, List.nil_append, List.cons_append, Option.toList_some, Option.toList_none, true_and, and_true, true_or, or_true, Nat.reduceAdd, Nat.reduceLT, Nat.reduceLeDiff, Option.some.injEq, exists_eq_left', Int.toNat_natCast, Nat.reduceSub, List.append_nil, List.replicate_succ, List.replicate_zero]
      refine hP _ ?_
      unfold arcsR
      rw [if_pos h1]
    refine c0 _ _ _ ?_
    simp only [b_X11_arcs_0, i_xorg, i_shl, i_shr, i_ior, i_and1, i_lcg1, i_lcg2, i_ld, i_la, i_st, i_sa, i_c, i_inc, i_add, i_sub, i_mul, i_div, i_rem, i_remT, i_xor, i_dup, i_dup2, i_if, i_if2, i_sw, i_gi, i_gr, i_pi, i_pz, i_ial, i_ias, i_len, i_aal, i_gs, i_tal, i_cv, i_cs, i_ir, i_zr, i_vr, i_min, i_max, i_cpy, List.getElem?_cons_zero, List.getElem?_cons_succ, List.set_cons_zero, List.set_cons_succ, List.length_cons, List.length_nil, List.drop_succ_cons, List.drop_zero, List.take_succ_cons, List.take_zero, List.reverse_cons, List.reverse_nil, List.nil_append, List.cons_append, Option.toList_some, Option.toList_none, true_and, and_true, true_or, or_true, Nat.reduceAdd, Nat.reduceLT, Nat.reduceLeDiff, Option.some.injEq, exists_eq_left', Int.toNat_natCast, Nat.reduceSub, List.append_nil, List.replicate_succ, List.replicate_zero, mm_in, k0, k1, T_X11_hasSurface, T_X11_hasFace, w3, w4, sh_5, Rs_5]
    intro z hz
    refine ⟨fun y => out (fun w => bz_f hz y w.1), fun y z2 hz2 => ⟨fun y2 => out (fun w => bz_f hz2 (by omega) w.2.1), fun y2 z3 hz3 => ⟨fun y3 => out (fun w => bz_f hz3 (by omega) ⟨w.2.1.1, w.2.2.1⟩), fun y3 => ⟨fun y4 => ?_, fun y4 => out (fun w => w.2.2.2 (by omega))⟩⟩⟩⟩
    have h1 := bz_t hz y
    have h2 := bz_t hz2 y2
    have h3 := bz_t hz3 y3
    obtain ⟨t, ht⟩ := Int.eq_ofNat_of_zero_le h1.1
    subst ht
    have ht6 : t < 6 := by omega
    obtain ⟨a1, a2, a3⟩ := sheet2 ht6
    refine ⟨⟨by omega, by omega⟩, ?_⟩
    simp only [Int.toNat_natCast, a1, a2, a3, T_X7_arcsAt, i_xorg, i_shl, i_shr, i_ior, i_and1, i_lcg1, i_lcg2, i_ld, i_la, i_st, i_sa, i_c, i_inc, i_add, i_sub, i_mul, i_div, i_rem, i_remT, i_xor, i_dup, i_dup2, i_if, i_if2, i_sw, i_gi, i_gr, i_pi, i_pz, i_ial, i_ias, i_len, i_aal, i_gs, i_tal, i_cv, i_cs, i_ir, i_zr, i_vr, i_min, i_max, i_cpy, List.getElem?_cons_zero, List.getElem?_cons_succ, List.set_cons_zero, List.set_cons_succ, List.length_cons, List.length_nil, List.drop_succ_cons, List.drop_zero, List.take_succ_cons, List.take_zero, List.reverse_cons, List.reverse_nil, List.nil_append, List.cons_append, Option.toList_some, Option.toList_none, true_and, and_true, true_or, or_true, Nat.reduceAdd, Nat.reduceLT, Nat.reduceLeDiff, Option.some.injEq, exists_eq_left', Int.toNat_natCast, Nat.reduceSub, List.append_nil, List.replicate_succ, List.replicate_zero]
    have e7 : 6 + 2 * t + 1 = 7 + 2 * t := by omega
    rw [e7]
    refine ⟨by omega, b.toNat, f.toNat, v.toNat, by omega, by omega, by omega, by omega, by omega, by omega, b20_bd (q3 t (by omega)), hP _ ?_⟩
    unfold arcsR
    rw [if_neg (fun w => w ⟨h1, h2, h3.2, y4⟩), Int.toNat_natCast]
  · exact hT.elim
theorem sp_X11_arcs : mm_Sp yX11_arcs cX11_arcs 5 (some .int) rm_X11_arcs T_X11_arcs := mm_meth (by decide) (by
  intro av σ Post h
  unfold T_X11_arcs at h
  split at h
  · simp
  · exact h.elim) (fun p l e s m args below meth c G av σ Post hC hr _ hav hin hk hT => pv_X11_arcs av σ Post hav hin hk hT _ (bk_X11_arcs hC hr))
def surfR (I : Nat → Nat → Int) (n : Nat) (s q z : Int) : Prop :=
  if ¬ (0 ≤ s ∧ s < I 2 1) then z = -1000000001 else if q < 0 ∨ 8 < q then z = -1000000002
  else if q = 0 then bz z (mt n (I 3) (I 4) (I (7 + 2 * s.toNat))) else if q = 1 then bz z (crs (I (7 + 2 * s.toNat)) 3) else if q = 2 then z = sm (I (7 + 2 * s.toNat)) 21
  else (¬ crs (I (7 + 2 * s.toNat)) 3 ∧ mt n (I 3) (I 4) (I (7 + 2 * s.toNat)) → ofN n (I 3) (I 4) (I (7 + 2 * s.toNat)) (skel n (I 3) (I 4)).2.1 q z) ∧ (¬ (¬ crs (I (7 + 2 * s.toNat)) 3 ∧ mt n (I 3) (I 4) (I (7 + 2 * s.toNat))) → z = -1)
def T_X11_surface : mm_T := fun av σ Post => match av with
  | [.inr (some a), .inl s, .inl q] => σ.2 = mm_R0 ∧ a = 0 ∧ ∃ n : Nat, gw σ.1 n ∧ shs σ.1 ∧ ∀ (I' : Nat → Nat → Int) (z : Int), scr I' σ.1 → surfR σ.1 n s q z → Post (some (.inl z)) (I', mm_R0)
  | _ => False
def rm_X11_surface : Room := { frames := 6, cells := 0, slots := 0, locals := 144 }
def b_X11_surface_0 (Ok : Nat → mm_K) (Post : Option mm_V → mm_S → Prop) (kf : Nat) : mm_K := i_la 0 (i_ld 1 (i_cv 10 1 T_X11_hasSurface (i_if (fun x => ¬ x = 0) (i_ld 2 (i_if (fun x => x < 0) (Ok 21) (i_ld 2 (i_c 8 (i_if2 (fun x y => x ≤ y) (i_la 0 (i_gr 10 0 (i_gr 9 4 (i_ld 1 (i_aal 101 (i_sa 3 (i_ld 2 (i_sw Ok 95 [(0, 60), (1, 77), (2, 90)])))))))) (Ok 21)))))) (i_c (-1000000001) (i_ir Post kf)))))
def b_X11_surface_21 (Ok : Nat → mm_K) (Post : Option mm_V → mm_S → Prop) (kf : Nat) : mm_K := i_c (-1000000002) (i_ir Post kf)
def b_X11_surface_60 (Ok : Nat → mm_K) (Post : Option mm_V → mm_S → Prop) (kf : Nat) : mm_K := i_la 0 (i_gr 10 2 (i_la 3 (i_cv 8 1 T_X9_matches (i_if (fun x => x = 0) (i_c 0 (Ok 76)) (i_c 1 (Ok 76))))))
def b_X11_surface_76 (Ok : Nat → mm_K) (Post : Option mm_V → mm_S → Prop) (kf : Nat) : mm_K := i_ir Post kf
def b_X11_surface_77 (Ok : Nat → mm_K) (Post : Option mm_V → mm_S → Prop) (kf : Nat) : mm_K := i_la 3 (i_cv 6 0 T_X7_crosses (i_if (fun x => x = 0) (i_c 0 (Ok 89)) (i_c 1 (Ok 89))))
def b_X11_surface_89 (Ok : Nat → mm_K) (Post : Option mm_V → mm_S → Prop) (kf : Nat) : mm_K := i_ir Post kf
def b_X11_surface_90 (Ok : Nat → mm_K) (Post : Option mm_V → mm_S → Prop) (kf : Nat) : mm_K := i_la 3 (i_cv 6 0 T_X7_total (i_ir Post kf))
def b_X11_surface_95 (Ok : Nat → mm_K) (Post : Option mm_V → mm_S → Prop) (kf : Nat) : mm_K := i_la 0 (i_gr 10 2 (i_la 3 (i_cv 8 1 T_X9_isNormal (i_if (fun x => ¬ x = 0) (i_la 0 (i_gr 10 1 (i_la 0 (i_gr 10 0 (i_cv 7 1 T_X8_read (i_la 0 (i_gr 10 2 (i_la 3 (i_ld 2 (i_cv 8 2 T_X9_ofNormal (i_ir Post kf))))))))))) (i_c (-1) (i_ir Post kf))))))
def clo_X11_surface (Ok : Nat → mm_K) (Post : Option mm_V → mm_S → Prop) (kf : Nat) : Prop := mm_imp (b_X11_surface_0 Ok Post kf) (Ok 0) ∧ mm_imp (b_X11_surface_21 Ok Post kf) (Ok 21) ∧ mm_imp (b_X11_surface_60 Ok Post kf) (Ok 60) ∧ mm_imp (b_X11_surface_76 Ok Post kf) (Ok 76) ∧ mm_imp (b_X11_surface_77 Ok Post kf) (Ok 77) ∧ mm_imp (b_X11_surface_89 Ok Post kf) (Ok 89) ∧ mm_imp (b_X11_surface_90 Ok Post kf) (Ok 90) ∧ mm_imp (b_X11_surface_95 Ok Post kf) (Ok 95)
set_option maxRecDepth 100000 in
set_option maxHeartbeats 4000000 in
theorem bk_X11_surface {p : Program} {l : Launch} {e : Env} {s : State} {m : MethodId} {args : Array Value} {below : List Frame} {meth : Method} {c : Code} {G : mm_G} {σ0 : mm_S} {Post : Option mm_V → mm_S → Prop} (hC : mm_C p G s m args meth c cX11_surface yX11_surface.cls) (hr : meth.sig.returnType = some .int) : clo_X11_surface (mm_O p l e rm_X11_surface s m args below meth c G σ0.2.2 (MQ below (mm_Qc G σ0 rm_X11_surface.cells rm_X11_surface.slots Post) args s rm_X11_surface.cells rm_X11_surface.slots (mm_A G))) Post σ0.2.2 := ⟨(by unfold b_X11_surface_0; exact (mm_la_n hC dX11_surface_0 rfl (mm_ld_n hC dX11_surface_1 rfl (mm_cv hC sp_X11_hasSurface ⟨rfl, rfl⟩ cl_10 wd_569 wd_571 wd_12 wd_572 wd_65 ⟨by decide, by decide, by decide +kernel⟩ ⟨by decide, by decide⟩ dX11_surface_2 (mm_if_ne hC (t := 11) dX11_surface_5 (by decide) (mm_ld_n hC dX11_surface_11 rfl (mm_if_lt hC (t := 21) dX11_surface_12 (by decide) (fun _ _ _ h => h) (mm_ld_n hC dX11_surface_15 rfl (mm_bp hC dX11_surface_16 ⟨⟨by decide, by decide⟩, by decide⟩ (mm_ic_le hC (t := 24) dX11_surface_18 (by decide) (mm_la_n hC dX11_surface_24 rfl (mm_gr hC cl_10 (by decide) rfl wd_327 dX11_surface_25 (mm_gr hC cl_9 (by decide) rfl wd_134 dX11_surface_28 (mm_ld_n hC dX11_surface_31 rfl (mm_aal hC (t := 1) (by decide) rfl dX11_surface_32 (mm_sa_n hC dX11_surface_33 rfl (mm_ld_n hC dX11_surface_34 rfl (mm_tsw hC dX11_surface_35 rfl (by decide) (by decide) (by decide))))))))) (fun _ _ _ h => h)))))) (mm_ldc hC dX11_surface_8 ⟨by decide, by decide⟩ wd_550 (mm_ir hC ⟨rfl, rfl⟩ hr dX11_surface_10))))))), (by unfold b_X11_surface_21; exact (mm_ldc hC dX11_surface_21 ⟨by decide, by decide⟩ wd_361 (mm_ir hC ⟨rfl, rfl⟩ hr dX11_surface_23))), (by unfold b_X11_surface_60; exact (mm_la_n hC dX11_surface_60 rfl (mm_gr hC cl_10 (by decide) rfl wd_329 dX11_surface_61 (mm_la_n hC dX11_surface_64 rfl (mm_cv hC sp_X9_matches ⟨rfl, rfl⟩ cl_8 wd_580 wd_518 wd_519 wd_520 wd_66 ⟨by decide, by decide, by decide +kernel⟩ ⟨by decide, by decide⟩ dX11_surface_65 (mm_if_eq hC (t := 75) dX11_surface_68 (by decide) (mm_ic hC dX11_surface_75 ⟨by decide, by decide⟩ (fun _ _ _ h => h)) (mm_ic hC dX11_surface_71 ⟨by decide, by decide⟩ (mm_goto hC (t := 76) dX11_surface_72 (by decide) (fun _ _ _ h => h))))))))), (by unfold b_X11_surface_76; exact (mm_ir hC ⟨rfl, rfl⟩ hr dX11_surface_76)), (by unfold b_X11_surface_77; exact (mm_la_n hC dX11_surface_77 rfl (mm_cv hC sp_X7_crosses ⟨rfl, rfl⟩ cl_6 wd_581 wd_514 wd_515 wd_516 wd_68 ⟨by decide, by decide, by decide +kernel⟩ ⟨by decide, by decide⟩ dX11_surface_78 (mm_if_eq hC (t := 88) dX11_surface_81 (by decide) (mm_ic hC dX11_surface_88 ⟨by decide, by decide⟩ (fun _ _ _ h => h)) (mm_ic hC dX11_surface_84 ⟨by decide, by decide⟩ (mm_goto hC (t := 89) dX11_surface_85 (by decide) (fun _ _ _ h => h))))))), (by unfold b_X11_surface_89; exact (mm_ir hC ⟨rfl, rfl⟩ hr dX11_surface_89)), (by unfold b_X11_surface_90; exact (mm_la_n hC dX11_surface_90 rfl (mm_cv hC sp_X7_total ⟨rfl, rfl⟩ cl_6 wd_582 wd_487 wd_488 wd_489 wd_68 ⟨by decide, by decide, by decide +kernel⟩ ⟨by decide, by decide⟩ dX11_surface_91 (mm_ir hC ⟨rfl, rfl⟩ hr dX11_surface_94)))), (by unfold b_X11_surface_95; exact (mm_la_n hC dX11_surface_95 rfl (mm_gr hC cl_10 (by decide) rfl wd_329 dX11_surface_96 (mm_la_n hC dX11_surface_99 rfl (mm_cv hC sp_X9_isNormal ⟨rfl, rfl⟩ cl_8 wd_583 wd_510 wd_511 wd_512 wd_66 ⟨by decide, by decide, by decide +kernel⟩ ⟨by decide, by decide⟩ dX11_surface_100 (mm_if_ne hC (t := 108) dX11_surface_103 (by decide) (mm_la_n hC dX11_surface_108 rfl (mm_gr hC cl_10 (by decide) rfl wd_328 dX11_surface_109 (mm_la_n hC dX11_surface_112 rfl (mm_gr hC cl_10 (by decide) rfl wd_327 dX11_surface_113 (mm_cv hC sp_X8_read ⟨rfl, rfl⟩ cl_7 wd_362 wd_363 wd_364 wd_365 wd_70 ⟨by decide, by decide, by decide +kernel⟩ ⟨by decide, by decide⟩ dX11_surface_116 (mm_la_n hC dX11_surface_119 rfl (mm_gr hC cl_10 (by decide) rfl wd_329 dX11_surface_120 (mm_la_n hC dX11_surface_123 rfl (mm_ld_n hC dX11_surface_124 rfl (mm_cv hC sp_X9_ofNormal ⟨rfl, rfl⟩ cl_8 wd_584 wd_585 wd_586 wd_587 wd_66 ⟨by decide, by decide, by decide +kernel⟩ ⟨by decide, by decide⟩ dX11_surface_125 (mm_ir hC ⟨rfl, rfl⟩ hr dX11_surface_128))))))))))) (mm_ic hC dX11_surface_106 ⟨by decide, by decide⟩ (mm_ir hC ⟨rfl, rfl⟩ hr dX11_surface_107))))))))⟩
set_option maxRecDepth 100000 in
set_option maxHeartbeats 8000000 in
theorem pv_X11_surface : ∀ (av : List mm_V) (σ : mm_S) (Post : Option mm_V → mm_S → Prop), (∀ v ∈ av, mm_iv v) → (∀ a j, mm_in (σ.1 a j)) → σ.2.2 ≤ 348 → T_X11_surface av σ Post → ∀ Ok : Nat → mm_K, clo_X11_surface Ok Post σ.2.2 → Ok 0 (av ++ List.replicate (4 - av.length) (.inr none)) [] σ := by
  intro av σ Post hav hin hk hT Ok hcl
  obtain ⟨I, R0⟩ := σ
  unfold T_X11_surface at hT
  split at hT
  · rename_i a s q
    obtain ⟨h0, hT⟩ := hT
    have h0 : R0 = mm_R0 := h0
    subst h0
    dsimp only at hT hin
    obtain ⟨c0, c21, c60, c76, c77, c89, c90, c95⟩ := hcl
    obtain ⟨rfl, n, hgw, ⟨q1, q2, q3⟩, hP⟩ := hT
    obtain ⟨hn, hn1, hn3, hg⟩ := id hgw
    obtain ⟨k0, k1, k2, k3, k4, k5, k6, k7⟩ := sh_0
    obtain ⟨w1, w2, w3, w4, w5, w6⟩ := Rs_2
    have v1 := Rs_1.2.2.2.2.2.2.2.2.2
    have s0 := sh_18.1
    have out : (0 ≤ s ∧ s < I 2 1) → (q < 0 ∨ 8 < q) → Ok 21 [.inr (some 0), .inl s, .inl q, .inr none] [] (I, mm_R0) := by
      intro h1 h2
      refine c21 _ _ _ ?_
      simp only [b_X11_surface_21, i_xorg, i_shl, i_shr, i_ior, i_and1, i_lcg1, i_lcg2, i_ld, i_la, i_st, i_sa, i_c, i_inc, i_add, i_sub, i_mul, i_div, i_rem, i_remT, i_xor, i_dup, i_dup2, i_if, i_if2, i_sw, i_gi, i_gr, i_pi, i_pz, i_ial, i_ias, i_len, i_aal, i_gs, i_tal, i_cv, i_cs, i_ir, i_zr, i_vr, i_min, i_max, i_cpy, List.getElem?_cons_zero, List.getElem?_cons_succ, List.set_cons_zero, List.set_cons_succ, List.length_cons, List.length_nil, List.drop_succ_cons, List.drop_zero, List.take_succ_cons, List.take_zero, List.reverse_cons, List.reverse_nil, List.nil_append, List.cons_append, Option.toList_some, Option.toList_none, true_and, and_true, true_or, or_true, Nat.reduceAdd, Nat.reduceLT, Nat.reduceLeDiff, Option.some.injEq, exists_eq_left', Int.toNat_natCast, Nat.reduceSub, List.append_nil, List.replicate_succ, List.replicate_zero]
      refine hP I _ (scr_rf I) ?_
      unfold surfR
      rw [if_neg (fun w => w h1), if_pos h2]
    refine c0 _ _ _ ?_
    simp only [b_X11_surface_0, i_xorg, i_shl, i_shr, i_ior, i_and1, i_lcg1, i_lcg2, i_ld, i_la, i_st, i_sa, i_c, i_inc, i_add, i_sub, i_mul, i_div, i_rem, i_remT, i_xor, i_dup, i_dup2, i_if, i_if2, i_sw, i_gi, i_gr, i_pi, i_pz, i_ial, i_ias, i_len, i_aal, i_gs, i_tal, i_cv, i_cs, i_ir, i_zr, i_vr, i_min, i_max, i_cpy, List.getElem?_cons_zero, List.getElem?_cons_succ, List.set_cons_zero, List.set_cons_succ, List.length_cons, List.length_nil, List.drop_succ_cons, List.drop_zero, List.take_succ_cons, List.take_zero, List.reverse_cons, List.reverse_nil, List.nil_append, List.cons_append, Option.toList_some, Option.toList_none, true_and, and_true, true_or, or_true, Nat.reduceAdd, Nat.reduceLT, Nat.reduceLeDiff, Option.some.injEq, exists_eq_left', Int.toNat_natCast, Nat.reduceSub, List.append_nil, List.replicate_succ, List.replicate_zero, mm_in, k0, k1, T_X11_hasSurface, w3, w4, sh_5, Rs_5]
    intro z hz
    refine ⟨fun y => ?_, fun y => ?_⟩
    · have h1 := bz_t hz y
      obtain ⟨t, ht⟩ := Int.eq_ofNat_of_zero_le h1.1
      subst ht
      have ht6 : t < 6 := by omega
      obtain ⟨a1, a2, a3⟩ := sheet2 ht6
      have hb := q3 t (by omega)
      have e7 : 6 + 2 * t + 1 = 7 + 2 * t := by omega
      have e8 : 6 + 2 * t < 348 := by omega
      refine ⟨fun x => out h1 (Or.inl x), fun x => ⟨fun x2 => ⟨⟨by omega, by omega⟩, ?_⟩, fun x2 => out h1 (Or.inr (by omega))⟩⟩
      rw [Int.toNat_natCast]
      refine ⟨fun x3 => ?_, fun x3 => ⟨fun x4 => ?_, fun x4 => ⟨fun x5 => ?_, fun x5 => ?_⟩⟩⟩
      · refine c60 _ _ _ ?_
        simp only [b_X11_surface_60, i_xorg, i_shl, i_shr, i_ior, i_and1, i_lcg1, i_lcg2, i_ld, i_la, i_st, i_sa, i_c, i_inc, i_add, i_sub, i_mul, i_div, i_rem, i_remT, i_xor, i_dup, i_dup2, i_if, i_if2, i_sw, i_gi, i_gr, i_pi, i_pz, i_ial, i_ias, i_len, i_aal, i_gs, i_tal, i_cv, i_cs, i_ir, i_zr, i_vr, i_min, i_max, i_cpy, List.getElem?_cons_zero, List.getElem?_cons_succ, List.set_cons_zero, List.set_cons_succ, List.length_cons, List.length_nil, List.drop_succ_cons, List.drop_zero, List.take_succ_cons, List.take_zero, List.reverse_cons, List.reverse_nil, List.nil_append, List.cons_append, Option.toList_some, Option.toList_none, true_and, and_true, true_or, or_true, Nat.reduceAdd, Nat.reduceLT, Nat.reduceLeDiff, Option.some.injEq, exists_eq_left', Int.toNat_natCast, Nat.reduceSub, List.append_nil, List.replicate_succ, List.replicate_zero, mm_in, k0, k3, v1, T_X9_matches, a1, e7]
        refine ⟨n, hgw, b20_bd hb, fun I' z1 f1 hz1 => ?_⟩
        have fin : ∀ y : Int, bz y (mt n (I 3) (I 4) (I (7 + 2 * t))) → Ok 76 [.inr (some 0), .inl (t : Int), .inl q, .inr (some (6 + 2 * t))] [.inl y] (I', mm_R0) := by
          intro y hy
          refine c76 _ _ _ ?_
          simp only [b_X11_surface_76, i_xorg, i_shl, i_shr, i_ior, i_and1, i_lcg1, i_lcg2, i_ld, i_la, i_st, i_sa, i_c, i_inc, i_add, i_sub, i_mul, i_div, i_rem, i_remT, i_xor, i_dup, i_dup2, i_if, i_if2, i_sw, i_gi, i_gr, i_pi, i_pz, i_ial, i_ias, i_len, i_aal, i_gs, i_tal, i_cv, i_cs, i_ir, i_zr, i_vr, i_min, i_max, i_cpy, List.getElem?_cons_zero, List.getElem?_cons_succ, List.set_cons_zero, List.set_cons_succ, List.length_cons, List.length_nil, List.drop_succ_cons, List.drop_zero, List.take_succ_cons, List.take_zero, List.reverse_cons, List.reverse_nil, List.nil_append, List.cons_append, Option.toList_some, Option.toList_none, true_and, and_true, true_or, or_true, Nat.reduceAdd, Nat.reduceLT, Nat.reduceLeDiff, Option.some.injEq, exists_eq_left', Int.toNat_natCast, Nat.reduceSub, List.append_nil, List.replicate_succ, List.replicate_zero]
          refine hP I' _ (fun c z1 z2 => f1 c (by omega) (by omega)) ?_
          unfold surfR
          rw [if_neg (fun w => w h1), if_neg (by omega), if_pos x3, Int.toNat_natCast]
          exact hy
        exact ⟨fun w => fin 0 (bz_0 (bz_f hz1 w)), fun w => fin 1 (bz_1 (bz_t hz1 w))⟩
      · refine c77 _ _ _ ?_
        simp only [b_X11_surface_77, i_xorg, i_shl, i_shr, i_ior, i_and1, i_lcg1, i_lcg2, i_ld, i_la, i_st, i_sa, i_c, i_inc, i_add, i_sub, i_mul, i_div, i_rem, i_remT, i_xor, i_dup, i_dup2, i_if, i_if2, i_sw, i_gi, i_gr, i_pi, i_pz, i_ial, i_ias, i_len, i_aal, i_gs, i_tal, i_cv, i_cs, i_ir, i_zr, i_vr, i_min, i_max, i_cpy, List.getElem?_cons_zero, List.getElem?_cons_succ, List.set_cons_zero, List.set_cons_succ, List.length_cons, List.length_nil, List.drop_succ_cons, List.drop_zero, List.take_succ_cons, List.take_zero, List.reverse_cons, List.reverse_nil, List.nil_append, List.cons_append, Option.toList_some, Option.toList_none, true_and, and_true, true_or, or_true, Nat.reduceAdd, Nat.reduceLT, Nat.reduceLeDiff, Option.some.injEq, exists_eq_left', Int.toNat_natCast, Nat.reduceSub, List.append_nil, List.replicate_succ, List.replicate_zero, mm_in, k0, k2, T_X7_crosses, a1, e7, e8]
        intro z1 hz1
        have fin : ∀ y : Int, bz y (crs (I (7 + 2 * t)) 3) → Ok 89 [.inr (some 0), .inl (t : Int), .inl q, .inr (some (6 + 2 * t))] [.inl y] (I, mm_R0) := by
          intro y hy
          refine c89 _ _ _ ?_
          simp only [b_X11_surface_89, i_xorg, i_shl, i_shr, i_ior, i_and1, i_lcg1, i_lcg2, i_ld, i_la, i_st, i_sa, i_c, i_inc, i_add, i_sub, i_mul, i_div, i_rem, i_remT, i_xor, i_dup, i_dup2, i_if, i_if2, i_sw, i_gi, i_gr, i_pi, i_pz, i_ial, i_ias, i_len, i_aal, i_gs, i_tal, i_cv, i_cs, i_ir, i_zr, i_vr, i_min, i_max, i_cpy, List.getElem?_cons_zero, List.getElem?_cons_succ, List.set_cons_zero, List.set_cons_succ, List.length_cons, List.length_nil, List.drop_succ_cons, List.drop_zero, List.take_succ_cons, List.take_zero, List.reverse_cons, List.reverse_nil, List.nil_append, List.cons_append, Option.toList_some, Option.toList_none, true_and, and_true, true_or, or_true, Nat.reduceAdd, Nat.reduceLT, Nat.reduceLeDiff, Option.some.injEq, exists_eq_left', Int.toNat_natCast, Nat.reduceSub, List.append_nil, List.replicate_succ, List.replicate_zero]
          refine hP I _ (scr_rf I) ?_
          unfold surfR
          rw [if_neg (fun w => w h1), if_neg (by omega), if_neg x3, if_pos x4, Int.toNat_natCast]
          exact hy
        exact ⟨fun w => fin 0 (bz_0 (bz_f hz1 w)), fun w => fin 1 (bz_1 (bz_t hz1 w))⟩
      · refine c90 _ _ _ ?_
        simp only [b_X11_surface_90, i_xorg, i_shl, i_shr, i_ior, i_and1, i_lcg1, i_lcg2, i_ld, i_la, i_st, i_sa, i_c, i_inc, i_add, i_sub, i_mul, i_div, i_rem, i_remT, i_xor, i_dup, i_dup2, i_if, i_if2, i_sw, i_gi, i_gr, i_pi, i_pz, i_ial, i_ias, i_len, i_aal, i_gs, i_tal, i_cv, i_cs, i_ir, i_zr, i_vr, i_min, i_max, i_cpy, List.getElem?_cons_zero, List.getElem?_cons_succ, List.set_cons_zero, List.set_cons_succ, List.length_cons, List.length_nil, List.drop_succ_cons, List.drop_zero, List.take_succ_cons, List.take_zero, List.reverse_cons, List.reverse_nil, List.nil_append, List.cons_append, Option.toList_some, Option.toList_none, true_and, and_true, true_or, or_true, Nat.reduceAdd, Nat.reduceLT, Nat.reduceLeDiff, Option.some.injEq, exists_eq_left', Int.toNat_natCast, Nat.reduceSub, List.append_nil, List.replicate_succ, List.replicate_zero, mm_in, k0, k2, T_X7_total, a1, e7, e8]
        refine ⟨b20_bd hb, hP I _ (scr_rf I) ?_⟩
        unfold surfR
        rw [if_neg (fun w => w h1), if_neg (by omega), if_neg x3, if_neg x4, if_pos x5, Int.toNat_natCast]
      · refine c95 _ _ _ ?_
        simp only [b_X11_surface_95, i_xorg, i_shl, i_shr, i_ior, i_and1, i_lcg1, i_lcg2, i_ld, i_la, i_st, i_sa, i_c, i_inc, i_add, i_sub, i_mul, i_div, i_rem, i_remT, i_xor, i_dup, i_dup2, i_if, i_if2, i_sw, i_gi, i_gr, i_pi, i_pz, i_ial, i_ias, i_len, i_aal, i_gs, i_tal, i_cv, i_cs, i_ir, i_zr, i_vr, i_min, i_max, i_cpy, List.getElem?_cons_zero, List.getElem?_cons_succ, List.set_cons_zero, List.set_cons_succ, List.length_cons, List.length_nil, List.drop_succ_cons, List.drop_zero, List.take_succ_cons, List.take_zero, List.reverse_cons, List.reverse_nil, List.nil_append, List.cons_append, Option.toList_some, Option.toList_none, true_and, and_true, true_or, or_true, Nat.reduceAdd, Nat.reduceLT, Nat.reduceLeDiff, Option.some.injEq, exists_eq_left', Int.toNat_natCast, Nat.reduceSub, List.append_nil, List.replicate_succ, List.replicate_zero, mm_in, k0, k1, k2, k3, v1, s0, T_X9_isNormal, T_X8_read, T_X9_ofNormal, a1, e7]
        refine ⟨n, hgw, b20_bd hb, fun I1 z1 f1 hz1 => ⟨fun w => ?_, fun w => ?_⟩⟩
        · have hg1 : gw I1 n := gw_frame hgw (by rw [f1 2 (by omega) (by omega)]) (f1 3 (by omega) (by omega)) (f1 4 (by omega) (by omega))
          refine ⟨n, hg1, fun I2 f2 hS => ?_⟩
          have g2 : ∀ c, c < 18 → I2 c = I c := fun c hc => by rw [f2 c (by omega), f1 c (by omega) (by omega)]
          have hg2 : gw I2 n := gw_frame hgw (by rw [g2 2 (by omega)]) (g2 3 (by omega)) (g2 4 (by omega))
          rw [f1 3 (by omega) (by omega), f1 4 (by omega) (by omega)] at hS
          refine ⟨by omega, by omega, by omega, n, _, hg2, hS, by rw [g2 _ (by omega)]; exact hb, ?_, fun I3 z3 f3 hz3 => hP I3 z3 (fun c z1 z2 => ?_) ?_⟩
          · rw [g2 3 (by omega), g2 4 (by omega), g2 _ (by omega)]
            exact (bz_t hz1 w).2
          · rw [f3 c z1 (by omega), f2 c (by omega), f1 c (by omega) (by omega)]
          · unfold surfR
            rw [if_neg (fun w => w h1), if_neg (by omega), if_neg x3, if_neg x4, if_neg x5, Int.toNat_natCast]
            rw [g2 3 (by omega), g2 4 (by omega), g2 _ (by omega)] at hz3
            exact ⟨fun _ => hz3, fun h => absurd (bz_t hz1 w) h⟩
        · refine hP I1 _ (fun c z1 z2 => f1 c (by omega) (by omega)) ?_
          unfold surfR
          rw [if_neg (fun w => w h1), if_neg (by omega), if_neg x3, if_neg x4, if_neg x5, Int.toNat_natCast]
          exact ⟨fun h => absurd h (bz_f hz1 (by omega)), fun _ => rfl⟩
    · refine hP I _ (scr_rf I) ?_
      unfold surfR
      rw [if_pos (bz_f hz (by omega))]
  · exact hT.elim
theorem sp_X11_surface : mm_Sp yX11_surface cX11_surface 4 (some .int) rm_X11_surface T_X11_surface := mm_meth (by decide) (by
  intro av σ Post h
  unfold T_X11_surface at h
  split at h
  · simp
  · exact h.elim) (fun p l e s m args below meth c G av σ Post hC hr _ hav hin hk hT => pv_X11_surface av σ Post hav hin hk hT _ (bk_X11_surface hC hr))
theorem lk_cg {n : Nat} {V V' : Nat → Int} (h : ∀ c, c < 4 * n → V c = V' c) (p : Int) (k : Nat) : lk n V p k = lk n V' p k := by
  unfold lk
  by_cases q : k % 7 < 4 ∧ k / 7 < n
  · rw [h _ (by omega)]
  · rw [if_neg (fun w => q ⟨w.1, w.2.1⟩), if_neg (fun w => q ⟨w.1, w.2.1⟩)]
theorem ngood_cg {n : Nat} {pa wy V V' : Nat → Int} {N : Nat} {z : Int} (h : ∀ c, c < 4 * n → V c = V' c) (hz : ngood n pa wy V N z) : ngood n pa wy V' N z := by
  obtain ⟨g, h1, h2⟩ := hz
  refine ⟨g, fun p hp => ?_, h2⟩
  obtain ⟨nb, a, b⟩ := h1 p hp
  exact ⟨nb, fun k hk => by rw [a k hk, lk_cg h], b⟩
def vno (L : LT) : Nat → Int := fun c => nr L.1 (L.1 c)
def ngd (n : Nat) (pa wy : Nat → Int) (z : Int) : Prop := ngood n pa wy (vno (skel n pa wy)) (nr (skel n pa wy).1 (4 * n)).toNat z
def toldR (I : Nat → Nat → Int) (n : Nat) (q z : Int) : Prop :=
  if q < 0 ∨ 11 < q then z = -1000000002 else if q = 0 then z = I 2 0 else if q = 1 then z = frn (I 3) (4 * n) else if q = 2 then z = nr (skel n (I 3) (I 4)).1 (4 * n) else if q = 3 then z = nr (skel n (I 3) (I 4)).2.1 (6 * n)
  else if q = 4 then nrev (skel n (I 3) (I 4)) n z else if q = 5 then ngd n (I 3) (I 4) z
  else if q = 6 then ∃ a, nrev (skel n (I 3) (I 4)) n a ∧ (a ≠ 0 ∧ z = 0 ∨ a = 0 ∧ ∃ g, ngd n (I 3) (I 4) g ∧ bz z (g = nr (skel n (I 3) (I 4)).1 (4 * n)))
  else if q = 7 then z = I 2 1 else if q = 8 then z = nr (skel n (I 3) (I 4)).1 (4 * n) - nr (skel n (I 3) (I 4)).2.1 (6 * n) + (4 * n + frn (I 3) (4 * n)) / 2 - n + 100 else if q = 9 then z = I 299 2
  else if q = 10 then fwrong (btrue I n (skel n (I 3) (I 4)).2.1) (I 299 2).toNat z else z = I 41 2
def bkk (I : Nat → Nat → Int) : Prop := 0 ≤ I 299 2 ∧ I 299 2 ≤ 20 ∧ ∀ i : Nat, (i : Int) < I 299 2 → 0 ≤ I 300 i
def T_X11_told : mm_T := fun av σ Post => match av with
  | [.inr (some a), .inl q] => σ.2 = mm_R0 ∧ a = 0 ∧ ∃ n : Nat, gw σ.1 n ∧ shs σ.1 ∧ bkk σ.1 ∧ ∀ (I' : Nat → Nat → Int) (z : Int), scr I' σ.1 → toldR σ.1 n q z → Post (some (.inl z)) (I', mm_R0)
  | _ => False
theorem shs_fr {I I' : Nat → Nat → Int} (h : shs I) (f : ∀ b, b < 18 → I' b = I b) : shs I' := by
  obtain ⟨a, b, c⟩ := h
  refine ⟨by rw [f 2 (by omega)]; exact a, by rw [f 2 (by omega)]; exact b, fun s hs => ?_⟩
  rw [f 2 (by omega)] at hs
  rw [f _ (by omega)]
  exact c s hs
theorem gw_fr {I I' : Nat → Nat → Int} {n : Nat} (h : gw I n) (f : ∀ b, b < 18 → I' b = I b) : gw I' n := gw_frame h (by rw [f 2 (by omega)]) (f 3 (by omega)) (f 4 (by omega))
theorem btrue_fr {I I' : Nat → Nat → Int} {n : Nat} {Le : Nat → Nat} {i : Nat} (hs : shs I) (f : ∀ b, b < 18 ∨ 40 < b → I' b = I b) (h0 : 0 ≤ I 300 i) : btrue I' n Le i ↔ btrue I n Le i := by
  unfold btrue
  rw [f 300 (by omega), f 2 (by omega), f 3 (by omega), f 4 (by omega), f 301 (by omega)]
  by_cases q : I 300 i < I 2 1
  · have := hs.2.1
    rw [f (7 + 2 * (I 300 i).toNat) (by omega)]
  · exact ⟨fun w => absurd w.1 q, fun w => absurd w.1 q⟩
theorem fwrong_cg {P Q : Nat → Prop} {ct : Nat} {z : Int} (h : ∀ i, i < ct → (P i ↔ Q i)) (hz : fwrong P ct z) : fwrong Q ct z := by
  rcases hz with ⟨a, b⟩ | ⟨i, a, b, c, d⟩
  · exact Or.inl ⟨a, fun i hi => (h i hi).mp (b i hi)⟩
  · exact Or.inr ⟨i, a, b, fun w => c ((h i a).mpr w), fun j hj => (h j (by omega)).mp (d j hj)⟩
def rm_X11_told : Room := { frames := 7, cells := 0, slots := 0, locals := 164 }
def b_X11_told_0 (Ok : Nat → mm_K) (Post : Option mm_V → mm_S → Prop) (kf : Nat) : mm_K := i_ld 1 (i_sw Ok 104 [(0, 64), (1, 72), (2, 104), (3, 104), (4, 104), (5, 104), (6, 104), (7, 80), (8, 104), (9, 88), (10, 104), (11, 96)])
def b_X11_told_64 (Ok : Nat → mm_K) (Post : Option mm_V → mm_S → Prop) (kf : Nat) : mm_K := i_la 0 (i_gr 10 0 (i_gi 9 0 (i_ir Post kf)))
def b_X11_told_72 (Ok : Nat → mm_K) (Post : Option mm_V → mm_S → Prop) (kf : Nat) : mm_K := i_la 0 (i_gr 10 0 (i_cv 9 0 T_X10_freeFaces (i_ir Post kf)))
def b_X11_told_80 (Ok : Nat → mm_K) (Post : Option mm_V → mm_S → Prop) (kf : Nat) : mm_K := i_la 0 (i_gr 10 0 (i_gi 9 1 (i_ir Post kf)))
def b_X11_told_88 (Ok : Nat → mm_K) (Post : Option mm_V → mm_S → Prop) (kf : Nat) : mm_K := i_la 0 (i_gr 10 4 (i_gi 0 2 (i_ir Post kf)))
def b_X11_told_96 (Ok : Nat → mm_K) (Post : Option mm_V → mm_S → Prop) (kf : Nat) : mm_K := i_la 0 (i_gr 10 3 (i_gi 5 2 (i_ir Post kf)))
def b_X11_told_104 (Ok : Nat → mm_K) (Post : Option mm_V → mm_S → Prop) (kf : Nat) : mm_K := i_ld 1 (i_if (fun x => x < 0) (Ok 114) (i_ld 1 (i_c 11 (i_if2 (fun x y => x ≤ y) (i_la 0 (i_gr 10 1 (i_la 0 (i_gr 10 0 (i_cv 7 1 T_X8_read (i_ld 1 (i_sw Ok 248 [(2, 172), (3, 180), (4, 188), (5, 196), (6, 204), (7, 248), (8, 237)]))))))) (Ok 114)))))
def b_X11_told_114 (Ok : Nat → mm_K) (Post : Option mm_V → mm_S → Prop) (kf : Nat) : mm_K := i_c (-1000000002) (i_ir Post kf)
def b_X11_told_172 (Ok : Nat → mm_K) (Post : Option mm_V → mm_S → Prop) (kf : Nat) : mm_K := i_la 0 (i_gr 10 1 (i_gi 7 7 (i_ir Post kf)))
def b_X11_told_180 (Ok : Nat → mm_K) (Post : Option mm_V → mm_S → Prop) (kf : Nat) : mm_K := i_la 0 (i_gr 10 1 (i_gi 7 8 (i_ir Post kf)))
def b_X11_told_188 (Ok : Nat → mm_K) (Post : Option mm_V → mm_S → Prop) (kf : Nat) : mm_K := i_la 0 (i_gr 10 1 (i_cv 7 0 T_X8_reversedLines (i_ir Post kf)))
def b_X11_told_196 (Ok : Nat → mm_K) (Post : Option mm_V → mm_S → Prop) (kf : Nat) : mm_K := i_la 0 (i_gr 10 2 (i_cv 8 0 T_X9_goodVertices (i_ir Post kf)))
def b_X11_told_204 (Ok : Nat → mm_K) (Post : Option mm_V → mm_S → Prop) (kf : Nat) : mm_K := i_la 0 (i_gr 10 1 (i_cv 7 0 T_X8_reversedLines (i_if (fun x => ¬ x = 0) (Ok 235) (i_la 0 (i_gr 10 2 (i_cv 8 0 T_X9_goodVertices (i_la 0 (i_gr 10 1 (i_gi 7 7 (i_if2 (fun x y => ¬ x = y) (Ok 235) (i_c 1 (Ok 236))))))))))))
def b_X11_told_235 (Ok : Nat → mm_K) (Post : Option mm_V → mm_S → Prop) (kf : Nat) : mm_K := i_c 0 (Ok 236)
def b_X11_told_236 (Ok : Nat → mm_K) (Post : Option mm_V → mm_S → Prop) (kf : Nat) : mm_K := i_ir Post kf
def b_X11_told_237 (Ok : Nat → mm_K) (Post : Option mm_V → mm_S → Prop) (kf : Nat) : mm_K := i_la 0 (i_gr 10 2 (i_cv 8 0 T_X9_wholeCharacteristic (i_c 100 (i_add (i_ir Post kf)))))
def b_X11_told_248 (Ok : Nat → mm_K) (Post : Option mm_V → mm_S → Prop) (kf : Nat) : mm_K := i_la 0 (i_gr 10 4 (i_la 0 (i_gr 10 0 (i_la 0 (i_gr 10 2 (i_cv 0 2 T_X0_firstWrong (i_ir Post kf)))))))
def clo_X11_told (Ok : Nat → mm_K) (Post : Option mm_V → mm_S → Prop) (kf : Nat) : Prop := mm_imp (b_X11_told_0 Ok Post kf) (Ok 0) ∧ mm_imp (b_X11_told_64 Ok Post kf) (Ok 64) ∧ mm_imp (b_X11_told_72 Ok Post kf) (Ok 72) ∧ mm_imp (b_X11_told_80 Ok Post kf) (Ok 80) ∧ mm_imp (b_X11_told_88 Ok Post kf) (Ok 88) ∧ mm_imp (b_X11_told_96 Ok Post kf) (Ok 96) ∧ mm_imp (b_X11_told_104 Ok Post kf) (Ok 104) ∧ mm_imp (b_X11_told_114 Ok Post kf) (Ok 114) ∧ mm_imp (b_X11_told_172 Ok Post kf) (Ok 172) ∧ mm_imp (b_X11_told_180 Ok Post kf) (Ok 180) ∧ mm_imp (b_X11_told_188 Ok Post kf) (Ok 188) ∧ mm_imp (b_X11_told_196 Ok Post kf) (Ok 196) ∧ mm_imp (b_X11_told_204 Ok Post kf) (Ok 204) ∧ mm_imp (b_X11_told_235 Ok Post kf) (Ok 235) ∧ mm_imp (b_X11_told_236 Ok Post kf) (Ok 236) ∧ mm_imp (b_X11_told_237 Ok Post kf) (Ok 237) ∧ mm_imp (b_X11_told_248 Ok Post kf) (Ok 248)
set_option maxRecDepth 100000 in
set_option maxHeartbeats 4000000 in
theorem bk_X11_told {p : Program} {l : Launch} {e : Env} {s : State} {m : MethodId} {args : Array Value} {below : List Frame} {meth : Method} {c : Code} {G : mm_G} {σ0 : mm_S} {Post : Option mm_V → mm_S → Prop} (hC : mm_C p G s m args meth c cX11_told yX11_told.cls) (hr : meth.sig.returnType = some .int) : clo_X11_told (mm_O p l e rm_X11_told s m args below meth c G σ0.2.2 (MQ below (mm_Qc G σ0 rm_X11_told.cells rm_X11_told.slots Post) args s rm_X11_told.cells rm_X11_told.slots (mm_A G))) Post σ0.2.2 := ⟨(by unfold b_X11_told_0; exact (mm_ld_n hC dX11_told_0 rfl (mm_tsw hC dX11_told_1 rfl (by decide) (by decide) (by decide)))), (by unfold b_X11_told_64; exact (mm_la_n hC dX11_told_64 rfl (mm_gr hC cl_10 (by decide) rfl wd_327 dX11_told_65 (mm_gi hC cl_9 (by decide) rfl wd_121 dX11_told_68 (mm_ir hC ⟨rfl, rfl⟩ hr dX11_told_71))))), (by unfold b_X11_told_72; exact (mm_la_n hC dX11_told_72 rfl (mm_gr hC cl_10 (by decide) rfl wd_327 dX11_told_73 (mm_cv hC sp_X10_freeFaces ⟨rfl, rfl⟩ cl_9 wd_353 wd_354 wd_355 wd_356 wd_67 ⟨by decide, by decide, by decide +kernel⟩ ⟨by decide, by decide⟩ dX11_told_76 (mm_ir hC ⟨rfl, rfl⟩ hr dX11_told_79))))), (by unfold b_X11_told_80; exact (mm_la_n hC dX11_told_80 rfl (mm_gr hC cl_10 (by decide) rfl wd_327 dX11_told_81 (mm_gi hC cl_9 (by decide) rfl wd_124 dX11_told_84 (mm_ir hC ⟨rfl, rfl⟩ hr dX11_told_87))))), (by unfold b_X11_told_88; exact (mm_la_n hC dX11_told_88 rfl (mm_gr hC cl_10 (by decide) rfl wd_331 dX11_told_89 (mm_gi hC cl_0 (by decide) rfl wd_287 dX11_told_92 (mm_ir hC ⟨rfl, rfl⟩ hr dX11_told_95))))), (by unfold b_X11_told_96; exact (mm_la_n hC dX11_told_96 rfl (mm_gr hC cl_10 (by decide) rfl wd_330 dX11_told_97 (mm_gi hC cl_5 (by decide) rfl wd_270 dX11_told_100 (mm_ir hC ⟨rfl, rfl⟩ hr dX11_told_103))))), (by unfold b_X11_told_104; exact (mm_ld_n hC dX11_told_104 rfl (mm_if_lt hC (t := 114) dX11_told_105 (by decide) (fun _ _ _ h => h) (mm_ld_n hC dX11_told_108 rfl (mm_bp hC dX11_told_109 ⟨⟨by decide, by decide⟩, by decide⟩ (mm_ic_le hC (t := 117) dX11_told_111 (by decide) (mm_la_n hC dX11_told_117 rfl (mm_gr hC cl_10 (by decide) rfl wd_328 dX11_told_118 (mm_la_n hC dX11_told_121 rfl (mm_gr hC cl_10 (by decide) rfl wd_327 dX11_told_122 (mm_cv hC sp_X8_read ⟨rfl, rfl⟩ cl_7 wd_362 wd_363 wd_364 wd_365 wd_70 ⟨by decide, by decide, by decide +kernel⟩ ⟨by decide, by decide⟩ dX11_told_125 (mm_ld_n hC dX11_told_128 rfl (mm_tsw hC dX11_told_129 rfl (by decide) (by decide) (by decide)))))))) (fun _ _ _ h => h))))))), (by unfold b_X11_told_114; exact (mm_ldc hC dX11_told_114 ⟨by decide, by decide⟩ wd_361 (mm_ir hC ⟨rfl, rfl⟩ hr dX11_told_116))), (by unfold b_X11_told_172; exact (mm_la_n hC dX11_told_172 rfl (mm_gr hC cl_10 (by decide) rfl wd_328 dX11_told_173 (mm_gi hC cl_7 (by decide) rfl wd_178 dX11_told_176 (mm_ir hC ⟨rfl, rfl⟩ hr dX11_told_179))))), (by unfold b_X11_told_180; exact (mm_la_n hC dX11_told_180 rfl (mm_gr hC cl_10 (by decide) rfl wd_328 dX11_told_181 (mm_gi hC cl_7 (by decide) rfl wd_181 dX11_told_184 (mm_ir hC ⟨rfl, rfl⟩ hr dX11_told_187))))), (by unfold b_X11_told_188; exact (mm_la_n hC dX11_told_188 rfl (mm_gr hC cl_10 (by decide) rfl wd_328 dX11_told_189 (mm_cv hC sp_X8_reversedLines ⟨rfl, rfl⟩ cl_7 wd_414 wd_415 wd_416 wd_417 wd_70 ⟨by decide, by decide, by decide +kernel⟩ ⟨by decide, by decide⟩ dX11_told_192 (mm_ir hC ⟨rfl, rfl⟩ hr dX11_told_195))))), (by unfold b_X11_told_196; exact (mm_la_n hC dX11_told_196 rfl (mm_gr hC cl_10 (by decide) rfl wd_329 dX11_told_197 (mm_cv hC sp_X9_goodVertices ⟨rfl, rfl⟩ cl_8 wd_427 wd_428 wd_429 wd_430 wd_66 ⟨by decide, by decide, by decide +kernel⟩ ⟨by decide, by decide⟩ dX11_told_200 (mm_ir hC ⟨rfl, rfl⟩ hr dX11_told_203))))), (by unfold b_X11_told_204; exact (mm_la_n hC dX11_told_204 rfl (mm_gr hC cl_10 (by decide) rfl wd_328 dX11_told_205 (mm_cv hC sp_X8_reversedLines ⟨rfl, rfl⟩ cl_7 wd_414 wd_415 wd_416 wd_417 wd_70 ⟨by decide, by decide, by decide +kernel⟩ ⟨by decide, by decide⟩ dX11_told_208 (mm_if_ne hC (t := 235) dX11_told_211 (by decide) (fun _ _ _ h => h) (mm_la_n hC dX11_told_214 rfl (mm_gr hC cl_10 (by decide) rfl wd_329 dX11_told_215 (mm_cv hC sp_X9_goodVertices ⟨rfl, rfl⟩ cl_8 wd_427 wd_428 wd_429 wd_430 wd_66 ⟨by decide, by decide, by decide +kernel⟩ ⟨by decide, by decide⟩ dX11_told_218 (mm_la_n hC dX11_told_221 rfl (mm_gr hC cl_10 (by decide) rfl wd_328 dX11_told_222 (mm_gi hC cl_7 (by decide) rfl wd_178 dX11_told_225 (mm_ic_ne hC (t := 235) dX11_told_228 (by decide) (fun _ _ _ h => h) (mm_ic hC dX11_told_231 ⟨by decide, by decide⟩ (mm_goto hC (t := 236) dX11_told_232 (by decide) (fun _ _ _ h => h))))))))))))))), (by unfold b_X11_told_235; exact (mm_ic hC dX11_told_235 ⟨by decide, by decide⟩ (fun _ _ _ h => h))), (by unfold b_X11_told_236; exact (mm_ir hC ⟨rfl, rfl⟩ hr dX11_told_236)), (by unfold b_X11_told_237; exact (mm_la_n hC dX11_told_237 rfl (mm_gr hC cl_10 (by decide) rfl wd_329 dX11_told_238 (mm_cv hC sp_X9_wholeCharacteristic ⟨rfl, rfl⟩ cl_8 wd_496 wd_497 wd_498 wd_499 wd_66 ⟨by decide, by decide, by decide +kernel⟩ ⟨by decide, by decide⟩ dX11_told_241 (mm_bp hC dX11_told_244 ⟨⟨by decide, by decide⟩, by decide⟩ (mm_add hC dX11_told_246 (mm_ir hC ⟨rfl, rfl⟩ hr dX11_told_247))))))), (by unfold b_X11_told_248; exact (mm_la_n hC dX11_told_248 rfl (mm_gr hC cl_10 (by decide) rfl wd_331 dX11_told_249 (mm_la_n hC dX11_told_252 rfl (mm_gr hC cl_10 (by decide) rfl wd_327 dX11_told_253 (mm_la_n hC dX11_told_256 rfl (mm_gr hC cl_10 (by decide) rfl wd_329 dX11_told_257 (mm_cv hC sp_X0_firstWrong ⟨rfl, rfl⟩ cl_0 wd_501 wd_502 wd_503 wd_504 wd_74 ⟨by decide, by decide, by decide +kernel⟩ ⟨by decide, by decide⟩ dX11_told_260 (mm_ir hC ⟨rfl, rfl⟩ hr dX11_told_263)))))))))⟩
set_option maxRecDepth 100000 in
set_option maxHeartbeats 8000000 in
theorem pv_X11_told : ∀ (av : List mm_V) (σ : mm_S) (Post : Option mm_V → mm_S → Prop), (∀ v ∈ av, mm_iv v) → (∀ a j, mm_in (σ.1 a j)) → σ.2.2 ≤ 348 → T_X11_told av σ Post → ∀ Ok : Nat → mm_K, clo_X11_told Ok Post σ.2.2 → Ok 0 (av ++ List.replicate (2 - av.length) (.inr none)) [] σ := by
  intro av σ Post hav hin hk hT Ok hcl
  obtain ⟨I, R0⟩ := σ
  unfold T_X11_told at hT
  split at hT
  · rename_i a q
    obtain ⟨h0, hT⟩ := hT
    have h0 : R0 = mm_R0 := h0
    subst h0
    dsimp only at hT hin
    obtain ⟨c0, c64, c72, c80, c88, c96, c104, c114, c172, c180, c188, c196, c204, c235, c236, c237, c248⟩ := hcl
    obtain ⟨rfl, n, hgw, hsh, ⟨b1, b2, b3⟩, hP⟩ := hT
    obtain ⟨hn, hn1, hn3, hg⟩ := id hgw
    obtain ⟨k0, k1, k2, k3, k4, k5, k6, k7⟩ := sh_0
    obtain ⟨w1, w2, w3, w4, w5, w6⟩ := Rs_2
    obtain ⟨c1, c2, c3, c4, c5, c6, c7⟩ := sh_299
    have v1 := Rs_1.2.2.2.2.2.2.2.2.2
    have s0 := sh_18.1
    have p5 := sh_41.1
    obtain ⟨ct, hct⟩ := Int.eq_ofNat_of_zero_le b1
    have big : q ≠ 0 → q ≠ 1 → q ≠ 7 → q ≠ 9 → q ≠ 11 → Ok 104 [.inr (some 0), .inl q] [] (I, mm_R0) := by
      intro z0 z1 z7 z9 z11
      have out : (q < 0 ∨ 11 < q) → Ok 114 [.inr (some 0), .inl q] [] (I, mm_R0) := by
        intro h2
        refine c114 _ _ _ ?_
        simp only [b_X11_told_114, i_xorg, i_shl, i_shr, i_ior, i_and1, i_lcg1, i_lcg2, i_ld, i_la, i_st, i_sa, i_c, i_inc, i_add, i_sub, i_mul, i_div, i_rem, i_remT, i_xor, i_dup, i_dup2, i_if, i_if2, i_sw, i_gi, i_gr, i_pi, i_pz, i_ial, i_ias, i_len, i_aal, i_gs, i_tal, i_cv, i_cs, i_ir, i_zr, i_vr, i_min, i_max, i_cpy, List.getElem?_cons_zero, List.getElem?_cons_succ, List.set_cons_zero, List.set_cons_succ, List.length_cons, List.length_nil, List.drop_succ_cons, List.drop_zero, List.take_succ_cons, List.take_zero, List.reverse_cons, List.reverse_nil, List.nil_append, List.cons_append, Option.toList_some, Option.toList_none, true_and, and_true, true_or, or_true, Nat.reduceAdd, Nat.reduceLT, Nat.reduceLeDiff, Option.some.injEq, exists_eq_left', Int.toNat_natCast, Nat.reduceSub, List.append_nil, List.replicate_succ, List.replicate_zero]
        refine hP I _ (scr_rf I) ?_
        unfold toldR
        rw [if_pos h2]
      refine c104 _ _ _ ?_
      simp only [b_X11_told_104, i_xorg, i_shl, i_shr, i_ior, i_and1, i_lcg1, i_lcg2, i_ld, i_la, i_st, i_sa, i_c, i_inc, i_add, i_sub, i_mul, i_div, i_rem, i_remT, i_xor, i_dup, i_dup2, i_if, i_if2, i_sw, i_gi, i_gr, i_pi, i_pz, i_ial, i_ias, i_len, i_aal, i_gs, i_tal, i_cv, i_cs, i_ir, i_zr, i_vr, i_min, i_max, i_cpy, List.getElem?_cons_zero, List.getElem?_cons_succ, List.set_cons_zero, List.set_cons_succ, List.length_cons, List.length_nil, List.drop_succ_cons, List.drop_zero, List.take_succ_cons, List.take_zero, List.reverse_cons, List.reverse_nil, List.nil_append, List.cons_append, Option.toList_some, Option.toList_none, true_and, and_true, true_or, or_true, Nat.reduceAdd, Nat.reduceLT, Nat.reduceLeDiff, Option.some.injEq, exists_eq_left', Int.toNat_natCast, Nat.reduceSub, List.append_nil, List.replicate_succ, List.replicate_zero, mm_in, k0, k1, k2, s0, T_X8_read]
      refine ⟨fun x => out (Or.inl x), fun x => ⟨fun x2 => ⟨n, hgw, fun I1 f1 hS => ?_⟩, fun x2 => out (Or.inr (by omega))⟩⟩
      have g1 : ∀ b, b < 18 → I1 b = I b := fun b hb => f1 b (by omega)
      have hg1 := gw_fr hgw g1
      have hfr : scr I1 I := fun c z1 z2 => f1 c (by omega)
      have hV : ∀ c, c < 4 * n → I1 25 c = vno (skel n (I 3) (I 4)) c := fun c hc => hS.2.2.1 c hc
      refine ⟨fun x3 => ?_, fun y3 => ⟨fun x3 => ?_, fun y4 => ⟨fun x3 => ?_, fun y5 => ⟨fun x3 => ?_, fun y6 => ⟨fun x3 => ?_, fun y7 => ⟨fun x3 => ?_, fun y8 => ⟨fun x3 => ?_, fun y9 => ?_⟩⟩⟩⟩⟩⟩⟩
      · refine c172 _ _ _ ?_
        simp only [b_X11_told_172, i_xorg, i_shl, i_shr, i_ior, i_and1, i_lcg1, i_lcg2, i_ld, i_la, i_st, i_sa, i_c, i_inc, i_add, i_sub, i_mul, i_div, i_rem, i_remT, i_xor, i_dup, i_dup2, i_if, i_if2, i_sw, i_gi, i_gr, i_pi, i_pz, i_ial, i_ias, i_len, i_aal, i_gs, i_tal, i_cv, i_cs, i_ir, i_zr, i_vr, i_min, i_max, i_cpy, List.getElem?_cons_zero, List.getElem?_cons_succ, List.set_cons_zero, List.set_cons_succ, List.length_cons, List.length_nil, List.drop_succ_cons, List.drop_zero, List.take_succ_cons, List.take_zero, List.reverse_cons, List.reverse_nil, List.nil_append, List.cons_append, Option.toList_some, Option.toList_none, true_and, and_true, true_or, or_true, Nat.reduceAdd, Nat.reduceLT, Nat.reduceLeDiff, Option.some.injEq, exists_eq_left', Int.toNat_natCast, Nat.reduceSub, List.append_nil, List.replicate_succ, List.replicate_zero, mm_in, k0, k2, s0]
        refine fun _ => hP I1 _ hfr ?_
        unfold toldR
        rw [if_neg (by omega), if_neg (by omega), if_neg (by omega), if_pos (by omega)]
        exact hS.1
      · refine c180 _ _ _ ?_
        simp only [b_X11_told_180, i_xorg, i_shl, i_shr, i_ior, i_and1, i_lcg1, i_lcg2, i_ld, i_la, i_st, i_sa, i_c, i_inc, i_add, i_sub, i_mul, i_div, i_rem, i_remT, i_xor, i_dup, i_dup2, i_if, i_if2, i_sw, i_gi, i_gr, i_pi, i_pz, i_ial, i_ias, i_len, i_aal, i_gs, i_tal, i_cv, i_cs, i_ir, i_zr, i_vr, i_min, i_max, i_cpy, List.getElem?_cons_zero, List.getElem?_cons_succ, List.set_cons_zero, List.set_cons_succ, List.length_cons, List.length_nil, List.drop_succ_cons, List.drop_zero, List.take_succ_cons, List.take_zero, List.reverse_cons, List.reverse_nil, List.nil_append, List.cons_append, Option.toList_some, Option.toList_none, true_and, and_true, true_or, or_true, Nat.reduceAdd, Nat.reduceLT, Nat.reduceLeDiff, Option.some.injEq, exists_eq_left', Int.toNat_natCast, Nat.reduceSub, List.append_nil, List.replicate_succ, List.replicate_zero, mm_in, k0, k2, s0]
        refine fun _ => hP I1 _ hfr ?_
        unfold toldR
        rw [if_neg (by omega), if_neg (by omega), if_neg (by omega), if_neg (by omega), if_pos (by omega)]
        exact hS.2.1
      · refine c188 _ _ _ ?_
        simp only [b_X11_told_188, i_xorg, i_shl, i_shr, i_ior, i_and1, i_lcg1, i_lcg2, i_ld, i_la, i_st, i_sa, i_c, i_inc, i_add, i_sub, i_mul, i_div, i_rem, i_remT, i_xor, i_dup, i_dup2, i_if, i_if2, i_sw, i_gi, i_gr, i_pi, i_pz, i_ial, i_ias, i_len, i_aal, i_gs, i_tal, i_cv, i_cs, i_ir, i_zr, i_vr, i_min, i_max, i_cpy, List.getElem?_cons_zero, List.getElem?_cons_succ, List.set_cons_zero, List.set_cons_succ, List.length_cons, List.length_nil, List.drop_succ_cons, List.drop_zero, List.take_succ_cons, List.take_zero, List.reverse_cons, List.reverse_nil, List.nil_append, List.cons_append, Option.toList_some, Option.toList_none, true_and, and_true, true_or, or_true, Nat.reduceAdd, Nat.reduceLT, Nat.reduceLeDiff, Option.some.injEq, exists_eq_left', Int.toNat_natCast, Nat.reduceSub, List.append_nil, List.replicate_succ, List.replicate_zero, mm_in, k0, k2, s0, T_X8_reversedLines]
        refine ⟨n, _, hn3, hS, fun I2 z f2 hS2 hz => hP I2 z (fun c z1 z2 => by rw [f2 c (by omega)]; exact hfr c z1 z2) ?_⟩
        unfold toldR
        rw [if_neg (by omega), if_neg (by omega), if_neg (by omega), if_neg (by omega), if_neg (by omega), if_pos (by omega)]
        exact hz
      · refine c196 _ _ _ ?_
        simp only [b_X11_told_196, i_xorg, i_shl, i_shr, i_ior, i_and1, i_lcg1, i_lcg2, i_ld, i_la, i_st, i_sa, i_c, i_inc, i_add, i_sub, i_mul, i_div, i_rem, i_remT, i_xor, i_dup, i_dup2, i_if, i_if2, i_sw, i_gi, i_gr, i_pi, i_pz, i_ial, i_ias, i_len, i_aal, i_gs, i_tal, i_cv, i_cs, i_ir, i_zr, i_vr, i_min, i_max, i_cpy, List.getElem?_cons_zero, List.getElem?_cons_succ, List.set_cons_zero, List.set_cons_succ, List.length_cons, List.length_nil, List.drop_succ_cons, List.drop_zero, List.take_succ_cons, List.take_zero, List.reverse_cons, List.reverse_nil, List.nil_append, List.cons_append, Option.toList_some, Option.toList_none, true_and, and_true, true_or, or_true, Nat.reduceAdd, Nat.reduceLT, Nat.reduceLeDiff, Option.some.injEq, exists_eq_left', Int.toNat_natCast, Nat.reduceSub, List.append_nil, List.replicate_succ, List.replicate_zero, mm_in, k0, k3, v1, T_X9_goodVertices]
        rw [g1 3 (by omega), g1 4 (by omega)]
        refine ⟨n, hg1, hS, fun I2 z f2 hz1 hz => hP I2 z (fun c z1 z2 => by rw [f2 c (by omega) (by omega)]; exact hfr c z1 z2) ?_⟩
        unfold toldR
        rw [if_neg (by omega), if_neg (by omega), if_neg (by omega), if_neg (by omega), if_neg (by omega), if_neg (by omega), if_pos (by omega)]
        exact ngood_cg hV hz
      · have fin : ∀ (I' : Nat → Nat → Int) (y : Int), scr I' I → toldR I n q y → Ok 236 [.inr (some 0), .inl q] [.inl y] (I', mm_R0) := by
          intro I' y h1 h2
          refine c236 _ _ _ ?_
          simp only [b_X11_told_236, i_xorg, i_shl, i_shr, i_ior, i_and1, i_lcg1, i_lcg2, i_ld, i_la, i_st, i_sa, i_c, i_inc, i_add, i_sub, i_mul, i_div, i_rem, i_remT, i_xor, i_dup, i_dup2, i_if, i_if2, i_sw, i_gi, i_gr, i_pi, i_pz, i_ial, i_ias, i_len, i_aal, i_gs, i_tal, i_cv, i_cs, i_ir, i_zr, i_vr, i_min, i_max, i_cpy, List.getElem?_cons_zero, List.getElem?_cons_succ, List.set_cons_zero, List.set_cons_succ, List.length_cons, List.length_nil, List.drop_succ_cons, List.drop_zero, List.take_succ_cons, List.take_zero, List.reverse_cons, List.reverse_nil, List.nil_append, List.cons_append, Option.toList_some, Option.toList_none, true_and, and_true, true_or, or_true, Nat.reduceAdd, Nat.reduceLT, Nat.reduceLeDiff, Option.some.injEq, exists_eq_left', Int.toNat_natCast, Nat.reduceSub, List.append_nil, List.replicate_succ, List.replicate_zero]
          exact hP I' y h1 h2
        have no : ∀ (I' : Nat → Nat → Int), scr I' I → toldR I n q 0 → Ok 235 [.inr (some 0), .inl q] [] (I', mm_R0) := by
          intro I' h1 h2
          refine c235 _ _ _ ?_
          simp only [b_X11_told_235, i_xorg, i_shl, i_shr, i_ior, i_and1, i_lcg1, i_lcg2, i_ld, i_la, i_st, i_sa, i_c, i_inc, i_add, i_sub, i_mul, i_div, i_rem, i_remT, i_xor, i_dup, i_dup2, i_if, i_if2, i_sw, i_gi, i_gr, i_pi, i_pz, i_ial, i_ias, i_len, i_aal, i_gs, i_tal, i_cv, i_cs, i_ir, i_zr, i_vr, i_min, i_max, i_cpy, List.getElem?_cons_zero, List.getElem?_cons_succ, List.set_cons_zero, List.set_cons_succ, List.length_cons, List.length_nil, List.drop_succ_cons, List.drop_zero, List.take_succ_cons, List.take_zero, List.reverse_cons, List.reverse_nil, List.nil_append, List.cons_append, Option.toList_some, Option.toList_none, true_and, and_true, true_or, or_true, Nat.reduceAdd, Nat.reduceLT, Nat.reduceLeDiff, Option.some.injEq, exists_eq_left', Int.toNat_natCast, Nat.reduceSub, List.append_nil, List.replicate_succ, List.replicate_zero]
          exact fin I' 0 h1 h2
        refine c204 _ _ _ ?_
        simp only [b_X11_told_204, i_xorg, i_shl, i_shr, i_ior, i_and1, i_lcg1, i_lcg2, i_ld, i_la, i_st, i_sa, i_c, i_inc, i_add, i_sub, i_mul, i_div, i_rem, i_remT, i_xor, i_dup, i_dup2, i_if, i_if2, i_sw, i_gi, i_gr, i_pi, i_pz, i_ial, i_ias, i_len, i_aal, i_gs, i_tal, i_cv, i_cs, i_ir, i_zr, i_vr, i_min, i_max, i_cpy, List.getElem?_cons_zero, List.getElem?_cons_succ, List.set_cons_zero, List.set_cons_succ, List.length_cons, List.length_nil, List.drop_succ_cons, List.drop_zero, List.take_succ_cons, List.take_zero, List.reverse_cons, List.reverse_nil, List.nil_append, List.cons_append, Option.toList_some, Option.toList_none, true_and, and_true, true_or, or_true, Nat.reduceAdd, Nat.reduceLT, Nat.reduceLeDiff, Option.some.injEq, exists_eq_left', Int.toNat_natCast, Nat.reduceSub, List.append_nil, List.replicate_succ, List.replicate_zero, mm_in, k0, k2, k3, s0, v1, T_X8_reversedLines, T_X9_goodVertices]
        refine ⟨n, _, hn3, hS, fun I2 z f2 hS2 hz => ⟨fun y => no I2 (fun c z1 z2 => by rw [f2 c (by omega)]; exact hfr c z1 z2) ?_, fun y => ?_⟩⟩
        · unfold toldR
          rw [if_neg (by omega), if_neg (by omega), if_neg (by omega), if_neg (by omega), if_neg (by omega), if_neg (by omega), if_neg (by omega), if_pos (by omega)]
          exact ⟨z, hz, Or.inl ⟨y, rfl⟩⟩
        · have g2 : ∀ b, b < 18 → I2 b = I b := fun b hb => by rw [f2 b (by omega), g1 b hb]
          rw [g2 3 (by omega), g2 4 (by omega)]
          refine ⟨n, gw_fr hgw g2, hS2, fun I3 z3 f3 hz1 hz3 _ => ?_⟩
          have h3 : scr I3 I := fun c z1 z2 => by rw [f3 c (by omega) (by omega), f2 c (by omega)]; exact hfr c z1 z2
          have hz4 : ngd n (I 3) (I 4) z3 := ngood_cg (fun c hc => hS2.2.2.1 c hc) hz3
          have e7 : I3 18 7 = nr (skel n (I 3) (I 4)).1 (4 * n) := by rw [f3 18 (by omega) (by omega)]; exact hS2.1
          have key : ∀ v, bz v (z3 = nr (skel n (I 3) (I 4)).1 (4 * n)) → toldR I n q v := by
            intro v hv
            unfold toldR
            rw [if_neg (by omega), if_neg (by omega), if_neg (by omega), if_neg (by omega), if_neg (by omega), if_neg (by omega), if_neg (by omega), if_pos (by omega)]
            exact ⟨z, hz, Or.inr ⟨by omega, z3, hz4, hv⟩⟩
          refine ⟨fun y2 => no I3 h3 (key 0 (bz_0 (by omega))), fun y2 => fin I3 1 h3 (key 1 (bz_1 (by omega)))⟩
      · omega
      · refine c237 _ _ _ ?_
        simp only [b_X11_told_237, i_xorg, i_shl, i_shr, i_ior, i_and1, i_lcg1, i_lcg2, i_ld, i_la, i_st, i_sa, i_c, i_inc, i_add, i_sub, i_mul, i_div, i_rem, i_remT, i_xor, i_dup, i_dup2, i_if, i_if2, i_sw, i_gi, i_gr, i_pi, i_pz, i_ial, i_ias, i_len, i_aal, i_gs, i_tal, i_cv, i_cs, i_ir, i_zr, i_vr, i_min, i_max, i_cpy, List.getElem?_cons_zero, List.getElem?_cons_succ, List.set_cons_zero, List.set_cons_succ, List.length_cons, List.length_nil, List.drop_succ_cons, List.drop_zero, List.take_succ_cons, List.take_zero, List.reverse_cons, List.reverse_nil, List.nil_append, List.cons_append, Option.toList_some, Option.toList_none, true_and, and_true, true_or, or_true, Nat.reduceAdd, Nat.reduceLT, Nat.reduceLeDiff, Option.some.injEq, exists_eq_left', Int.toNat_natCast, Nat.reduceSub, List.append_nil, List.replicate_succ, List.replicate_zero, mm_in, k0, k3, v1, T_X9_wholeCharacteristic]
        refine ⟨n, _, hg1, hS, ?_⟩
        rw [g1 3 (by omega)]
        have := nr_b (skel n (I 3) (I 4)).1 (4 * n)
        have := nr_b (skel n (I 3) (I 4)).2.1 (6 * n)
        have := frn_b (I 3) (4 * n)
        refine ⟨⟨by omega, by omega⟩, hP I1 _ hfr ?_⟩
        unfold toldR
        rw [if_neg (by omega), if_neg (by omega), if_neg (by omega), if_neg (by omega), if_neg (by omega), if_neg (by omega), if_neg (by omega), if_neg (by omega), if_neg (by omega), if_pos (by omega)]
      · refine c248 _ _ _ ?_
        simp only [b_X11_told_248, i_xorg, i_shl, i_shr, i_ior, i_and1, i_lcg1, i_lcg2, i_ld, i_la, i_st, i_sa, i_c, i_inc, i_add, i_sub, i_mul, i_div, i_rem, i_remT, i_xor, i_dup, i_dup2, i_if, i_if2, i_sw, i_gi, i_gr, i_pi, i_pz, i_ial, i_ias, i_len, i_aal, i_gs, i_tal, i_cv, i_cs, i_ir, i_zr, i_vr, i_min, i_max, i_cpy, List.getElem?_cons_zero, List.getElem?_cons_succ, List.set_cons_zero, List.set_cons_succ, List.length_cons, List.length_nil, List.drop_succ_cons, List.drop_zero, List.take_succ_cons, List.take_zero, List.reverse_cons, List.reverse_nil, List.nil_append, List.cons_append, Option.toList_some, Option.toList_none, true_and, and_true, true_or, or_true, Nat.reduceAdd, Nat.reduceLT, Nat.reduceLeDiff, Option.some.injEq, exists_eq_left', Int.toNat_natCast, Nat.reduceSub, List.append_nil, List.replicate_succ, List.replicate_zero, mm_in, k0, k1, k3, k5, c1, T_X0_firstWrong]
        rw [f1 299 (by omega), hct]
        refine ⟨ct, n, _, rfl, by omega, fun i hi => by rw [f1 300 (by omega)]; exact b3 i (by omega), hg1, hS, shs_fr hsh g1, fun I2 z f2 hz => hP I2 z (fun c z1 z2 => by rw [f2 c (by omega) (by omega)]; exact hfr c z1 z2) ?_⟩
        unfold toldR
        rw [if_neg (by omega), if_neg (by omega), if_neg (by omega), if_neg (by omega), if_neg (by omega), if_neg (by omega), if_neg (by omega), if_neg (by omega), if_neg (by omega), if_neg (by omega), if_neg (by omega), if_pos (by omega), hct, Int.toNat_natCast]
        exact fwrong_cg (fun i hi => btrue_fr hsh (fun b hb => f1 b (by omega)) (b3 i (by omega))) hz
    refine c0 _ _ _ ?_
    simp only [b_X11_told_0, i_xorg, i_shl, i_shr, i_ior, i_and1, i_lcg1, i_lcg2, i_ld, i_la, i_st, i_sa, i_c, i_inc, i_add, i_sub, i_mul, i_div, i_rem, i_remT, i_xor, i_dup, i_dup2, i_if, i_if2, i_sw, i_gi, i_gr, i_pi, i_pz, i_ial, i_ias, i_len, i_aal, i_gs, i_tal, i_cv, i_cs, i_ir, i_zr, i_vr, i_min, i_max, i_cpy, List.getElem?_cons_zero, List.getElem?_cons_succ, List.set_cons_zero, List.set_cons_succ, List.length_cons, List.length_nil, List.drop_succ_cons, List.drop_zero, List.take_succ_cons, List.take_zero, List.reverse_cons, List.reverse_nil, List.nil_append, List.cons_append, Option.toList_some, Option.toList_none, true_and, and_true, true_or, or_true, Nat.reduceAdd, Nat.reduceLT, Nat.reduceLeDiff, Option.some.injEq, exists_eq_left', Int.toNat_natCast, Nat.reduceSub, List.append_nil, List.replicate_succ, List.replicate_zero]
    refine ⟨fun x0 => ?_, fun y0 => ⟨fun x0 => ?_, fun y1 => ⟨fun x0 => ?_, fun y2 => ⟨fun x0 => ?_, fun y3 => ⟨fun x0 => ?_, fun y4 => ⟨fun x0 => ?_, fun y5 => ⟨fun x0 => ?_, fun y6 => ⟨fun x0 => ?_, fun y7 => ⟨fun x0 => ?_, fun y8 => ⟨fun x0 => ?_, fun y9 => ⟨fun x0 => ?_, fun y10 => ⟨fun x0 => ?_, fun y11 => ?_⟩⟩⟩⟩⟩⟩⟩⟩⟩⟩⟩⟩
    · refine c64 _ _ _ ?_
      simp only [b_X11_told_64, i_xorg, i_shl, i_shr, i_ior, i_and1, i_lcg1, i_lcg2, i_ld, i_la, i_st, i_sa, i_c, i_inc, i_add, i_sub, i_mul, i_div, i_rem, i_remT, i_xor, i_dup, i_dup2, i_if, i_if2, i_sw, i_gi, i_gr, i_pi, i_pz, i_ial, i_ias, i_len, i_aal, i_gs, i_tal, i_cv, i_cs, i_ir, i_zr, i_vr, i_min, i_max, i_cpy, List.getElem?_cons_zero, List.getElem?_cons_succ, List.set_cons_zero, List.set_cons_succ, List.length_cons, List.length_nil, List.drop_succ_cons, List.drop_zero, List.take_succ_cons, List.take_zero, List.reverse_cons, List.reverse_nil, List.nil_append, List.cons_append, Option.toList_some, Option.toList_none, true_and, and_true, true_or, or_true, Nat.reduceAdd, Nat.reduceLT, Nat.reduceLeDiff, Option.some.injEq, exists_eq_left', Int.toNat_natCast, Nat.reduceSub, List.append_nil, List.replicate_succ, List.replicate_zero, mm_in, k0, k1, w4]
      refine fun _ => hP I _ (scr_rf I) ?_
      unfold toldR
      rw [if_neg (by omega), if_pos (by omega)]
    · refine c72 _ _ _ ?_
      simp only [b_X11_told_72, i_xorg, i_shl, i_shr, i_ior, i_and1, i_lcg1, i_lcg2, i_ld, i_la, i_st, i_sa, i_c, i_inc, i_add, i_sub, i_mul, i_div, i_rem, i_remT, i_xor, i_dup, i_dup2, i_if, i_if2, i_sw, i_gi, i_gr, i_pi, i_pz, i_ial, i_ias, i_len, i_aal, i_gs, i_tal, i_cv, i_cs, i_ir, i_zr, i_vr, i_min, i_max, i_cpy, List.getElem?_cons_zero, List.getElem?_cons_succ, List.set_cons_zero, List.set_cons_succ, List.length_cons, List.length_nil, List.drop_succ_cons, List.drop_zero, List.take_succ_cons, List.take_zero, List.reverse_cons, List.reverse_nil, List.nil_append, List.cons_append, Option.toList_some, Option.toList_none, true_and, and_true, true_or, or_true, Nat.reduceAdd, Nat.reduceLT, Nat.reduceLeDiff, Option.some.injEq, exists_eq_left', Int.toNat_natCast, Nat.reduceSub, List.append_nil, List.replicate_succ, List.replicate_zero, mm_in, k0, k1, w4, T_X10_freeFaces]
      refine ⟨n, hn, hn3, hP I _ (scr_rf I) ?_⟩
      unfold toldR
      rw [if_neg (by omega), if_neg (by omega), if_pos (by omega)]
    · exact big (by omega) (by omega) (by omega) (by omega) (by omega)
    · exact big (by omega) (by omega) (by omega) (by omega) (by omega)
    · exact big (by omega) (by omega) (by omega) (by omega) (by omega)
    · exact big (by omega) (by omega) (by omega) (by omega) (by omega)
    · exact big (by omega) (by omega) (by omega) (by omega) (by omega)
    · refine c80 _ _ _ ?_
      simp only [b_X11_told_80, i_xorg, i_shl, i_shr, i_ior, i_and1, i_lcg1, i_lcg2, i_ld, i_la, i_st, i_sa, i_c, i_inc, i_add, i_sub, i_mul, i_div, i_rem, i_remT, i_xor, i_dup, i_dup2, i_if, i_if2, i_sw, i_gi, i_gr, i_pi, i_pz, i_ial, i_ias, i_len, i_aal, i_gs, i_tal, i_cv, i_cs, i_ir, i_zr, i_vr, i_min, i_max, i_cpy, List.getElem?_cons_zero, List.getElem?_cons_succ, List.set_cons_zero, List.set_cons_succ, List.length_cons, List.length_nil, List.drop_succ_cons, List.drop_zero, List.take_succ_cons, List.take_zero, List.reverse_cons, List.reverse_nil, List.nil_append, List.cons_append, Option.toList_some, Option.toList_none, true_and, and_true, true_or, or_true, Nat.reduceAdd, Nat.reduceLT, Nat.reduceLeDiff, Option.some.injEq, exists_eq_left', Int.toNat_natCast, Nat.reduceSub, List.append_nil, List.replicate_succ, List.replicate_zero, mm_in, k0, k1, w4]
      refine fun _ => hP I _ (scr_rf I) ?_
      unfold toldR
      rw [if_neg (by omega), if_neg (by omega), if_neg (by omega), if_neg (by omega), if_neg (by omega), if_neg (by omega), if_neg (by omega), if_neg (by omega), if_pos (by omega)]
    · exact big (by omega) (by omega) (by omega) (by omega) (by omega)
    · refine c88 _ _ _ ?_
      simp only [b_X11_told_88, i_xorg, i_shl, i_shr, i_ior, i_and1, i_lcg1, i_lcg2, i_ld, i_la, i_st, i_sa, i_c, i_inc, i_add, i_sub, i_mul, i_div, i_rem, i_remT, i_xor, i_dup, i_dup2, i_if, i_if2, i_sw, i_gi, i_gr, i_pi, i_pz, i_ial, i_ias, i_len, i_aal, i_gs, i_tal, i_cv, i_cs, i_ir, i_zr, i_vr, i_min, i_max, i_cpy, List.getElem?_cons_zero, List.getElem?_cons_succ, List.set_cons_zero, List.set_cons_succ, List.length_cons, List.length_nil, List.drop_succ_cons, List.drop_zero, List.take_succ_cons, List.take_zero, List.reverse_cons, List.reverse_nil, List.nil_append, List.cons_append, Option.toList_some, Option.toList_none, true_and, and_true, true_or, or_true, Nat.reduceAdd, Nat.reduceLT, Nat.reduceLeDiff, Option.some.injEq, exists_eq_left', Int.toNat_natCast, Nat.reduceSub, List.append_nil, List.replicate_succ, List.replicate_zero, mm_in, k0, k5, c1]
      refine fun _ => hP I _ (scr_rf I) ?_
      unfold toldR
      rw [if_neg (by omega), if_neg (by omega), if_neg (by omega), if_neg (by omega), if_neg (by omega), if_neg (by omega), if_neg (by omega), if_neg (by omega), if_neg (by omega), if_neg (by omega), if_pos (by omega)]
    · exact big (by omega) (by omega) (by omega) (by omega) (by omega)
    · refine c96 _ _ _ ?_
      simp only [b_X11_told_96, i_xorg, i_shl, i_shr, i_ior, i_and1, i_lcg1, i_lcg2, i_ld, i_la, i_st, i_sa, i_c, i_inc, i_add, i_sub, i_mul, i_div, i_rem, i_remT, i_xor, i_dup, i_dup2, i_if, i_if2, i_sw, i_gi, i_gr, i_pi, i_pz, i_ial, i_ias, i_len, i_aal, i_gs, i_tal, i_cv, i_cs, i_ir, i_zr, i_vr, i_min, i_max, i_cpy, List.getElem?_cons_zero, List.getElem?_cons_succ, List.set_cons_zero, List.set_cons_succ, List.length_cons, List.length_nil, List.drop_succ_cons, List.drop_zero, List.take_succ_cons, List.take_zero, List.reverse_cons, List.reverse_nil, List.nil_append, List.cons_append, Option.toList_some, Option.toList_none, true_and, and_true, true_or, or_true, Nat.reduceAdd, Nat.reduceLT, Nat.reduceLeDiff, Option.some.injEq, exists_eq_left', Int.toNat_natCast, Nat.reduceSub, List.append_nil, List.replicate_succ, List.replicate_zero, mm_in, k0, k4, p5]
      refine fun _ => hP I _ (scr_rf I) ?_
      unfold toldR
      rw [if_neg (by omega), if_neg (by omega), if_neg (by omega), if_neg (by omega), if_neg (by omega), if_neg (by omega), if_neg (by omega), if_neg (by omega), if_neg (by omega), if_neg (by omega), if_neg (by omega), if_neg (by omega)]
    · exact big (by omega) (by omega) (by omega) (by omega) (by omega)
  · exact hT.elim
theorem sp_X11_told : mm_Sp yX11_told cX11_told 2 (some .int) rm_X11_told T_X11_told := mm_meth (by decide) (by
  intro av σ Post h
  unfold T_X11_told at h
  split at h
  · simp
  · exact h.elim) (fun p l e s m args below meth c G av σ Post hC hr _ hav hin hk hT => pv_X11_told av σ Post hav hin hk hT _ (bk_X11_told hC hr))
