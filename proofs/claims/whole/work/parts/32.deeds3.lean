/-! PieceSurfaces: piece, take, about, add
-/
def wPie (W : Nat → Int) (p : Nat) (v : Int) : Nat → Int := fun i => if i = 26 + p then v else W i
def pieF (S : Nat → Nat → Int) (s b k v : Int) : (Nat → Nat → Int) × Int :=
  if ¬ ((0 ≤ s ∧ s < S 0 1) ∧ (0 ≤ b ∧ b < S 0 0)) then (S, -1000000001) else if ¬ ((0 ≤ k ∧ k < 7) ∧ 0 ≤ v ∧ v ≤ 20) then (S, -1000000002)
  else (upW (recS S) (wPie (S 0) (21 * s + 7 * b + k).toNat v), S 0 (26 + (21 * s + 7 * b + k).toNat))
def T_X11_piece : mm_T := fun av σ Post => match av with
  | [.inr (some a), .inl s, .inl b, .inl k, .inl v] => dT (fun S => pieF S s b k v) a σ Post
  | _ => False
def rm_X11_piece : Room := { frames := 4, cells := 0, slots := 0, locals := 92 }
def b_X11_piece_0 (Ok : Nat → mm_K) (Post : Option mm_V → mm_S → Prop) (kf : Nat) : mm_K := i_la 0 (i_ld 1 (i_cv 10 1 T_X11_hasSurface (i_if (fun x => x = 0) (Ok 16) (i_la 0 (i_ld 2 (i_cv 10 1 T_X11_hasBody (i_if (fun x => ¬ x = 0) (i_ld 3 (i_cs 1 T_X11_isKind (i_if (fun x => x = 0) (Ok 38) (i_ld 4 (i_if (fun x => x < 0) (Ok 38) (i_ld 4 (i_c 20 (i_if2 (fun x y => x ≤ y) (i_la 0 (i_gr 10 3 (i_la 0 (i_gr 10 0 (i_cv 5 1 T_X5_record (i_la 0 (i_gr 10 0 (i_gr 9 4 (i_ld 1 (i_aal 101 (i_gr 6 0 (i_sa 5 (i_la 5 (i_c 7 (i_ld 2 (i_mul (i_ld 3 (i_add (i_ial (i_st 6 (i_la 5 (i_c 7 (i_ld 2 (i_mul (i_ld 3 (i_add (i_ld 4 (i_ias (i_ld 6 (i_ir Post kf)))))))))))))))))))))))))))))) (Ok 38))))))))) (Ok 16))))))))
def b_X11_piece_16 (Ok : Nat → mm_K) (Post : Option mm_V → mm_S → Prop) (kf : Nat) : mm_K := i_c (-1000000001) (i_ir Post kf)
def b_X11_piece_38 (Ok : Nat → mm_K) (Post : Option mm_V → mm_S → Prop) (kf : Nat) : mm_K := i_c (-1000000002) (i_ir Post kf)
def clo_X11_piece (Ok : Nat → mm_K) (Post : Option mm_V → mm_S → Prop) (kf : Nat) : Prop := mm_imp (b_X11_piece_0 Ok Post kf) (Ok 0) ∧ mm_imp (b_X11_piece_16 Ok Post kf) (Ok 16) ∧ mm_imp (b_X11_piece_38 Ok Post kf) (Ok 38)
set_option maxRecDepth 100000 in
set_option maxHeartbeats 4000000 in
theorem bk_X11_piece {p : Program} {l : Launch} {e : Env} {s : State} {m : MethodId} {args : Array Value} {below : List Frame} {meth : Method} {c : Code} {G : mm_G} {σ0 : mm_S} {Post : Option mm_V → mm_S → Prop} (hC : mm_C p G s m args meth c cX11_piece yX11_piece.cls) (hr : meth.sig.returnType = some .int) : clo_X11_piece (mm_O p l e rm_X11_piece s m args below meth c G σ0.2.2 (MQ below (mm_Qc G σ0 rm_X11_piece.cells rm_X11_piece.slots Post) args s rm_X11_piece.cells rm_X11_piece.slots (mm_A G))) Post σ0.2.2 := ⟨(by unfold b_X11_piece_0; exact (mm_la_n hC dX11_piece_0 rfl (mm_ld_n hC dX11_piece_1 rfl (mm_cv hC sp_X11_hasSurface ⟨rfl, rfl⟩ cl_10 wd_569 wd_571 wd_12 wd_572 wd_65 ⟨by decide, by decide, by decide +kernel⟩ ⟨by decide, by decide⟩ dX11_piece_2 (mm_if_eq hC (t := 16) dX11_piece_5 (by decide) (fun _ _ _ h => h) (mm_la_n hC dX11_piece_8 rfl (mm_ld_n hC dX11_piece_9 rfl (mm_cv hC sp_X11_hasBody ⟨rfl, rfl⟩ cl_10 wd_546 wd_548 wd_10 wd_549 wd_65 ⟨by decide, by decide, by decide +kernel⟩ ⟨by decide, by decide⟩ dX11_piece_10 (mm_if_ne hC (t := 19) dX11_piece_13 (by decide) (mm_ld_n hC dX11_piece_19 rfl (mm_cs hC sp_X11_isKind ⟨rfl, rfl⟩ wd_573 wd_574 wd_575 wd_65 ⟨by decide, by decide, by decide +kernel⟩ ⟨by decide, by decide⟩ dX11_piece_20 (mm_if_eq hC (t := 38) dX11_piece_23 (by decide) (fun _ _ _ h => h) (mm_ld hC dX11_piece_26 (mm_if_lt hC (t := 38) dX11_piece_28 (by decide) (fun _ _ _ h => h) (mm_ld hC dX11_piece_31 (mm_bp hC dX11_piece_33 ⟨⟨by decide, by decide⟩, by decide⟩ (mm_ic_le hC (t := 41) dX11_piece_35 (by decide) (mm_la_n hC dX11_piece_41 rfl (mm_gr hC cl_10 (by decide) rfl wd_330 dX11_piece_42 (mm_la_n hC dX11_piece_45 rfl (mm_gr hC cl_10 (by decide) rfl wd_327 dX11_piece_46 (mm_cv hC sp_X5_record ⟨rfl, rfl⟩ cl_5 wd_621 wd_622 wd_623 wd_624 wd_73 ⟨by decide, by decide, by decide +kernel⟩ ⟨by decide, by decide⟩ dX11_piece_49 (mm_la_n hC dX11_piece_52 rfl (mm_gr hC cl_10 (by decide) rfl wd_327 dX11_piece_53 (mm_gr hC cl_9 (by decide) rfl wd_134 dX11_piece_56 (mm_ld_n hC dX11_piece_59 rfl (mm_aal hC (t := 1) (by decide) rfl dX11_piece_60 (mm_gr hC cl_6 (by decide) rfl wd_110 dX11_piece_61 (mm_sa hC dX11_piece_64 (mm_la hC dX11_piece_66 (mm_bp hC dX11_piece_68 ⟨⟨by decide, by decide⟩, by decide⟩ (mm_ld_n hC dX11_piece_70 rfl (mm_mul hC dX11_piece_71 (mm_ld_n hC dX11_piece_72 rfl (mm_add hC dX11_piece_73 (mm_ial hC dX11_piece_74 (mm_st hC dX11_piece_75 (mm_la hC dX11_piece_77 (mm_bp hC dX11_piece_79 ⟨⟨by decide, by decide⟩, by decide⟩ (mm_ld_n hC dX11_piece_81 rfl (mm_mul hC dX11_piece_82 (mm_ld_n hC dX11_piece_83 rfl (mm_add hC dX11_piece_84 (mm_ld hC dX11_piece_85 (mm_ias hC dX11_piece_87 (mm_ld hC dX11_piece_88 (mm_ir hC ⟨rfl, rfl⟩ hr dX11_piece_90)))))))))))))))))))))))))))))) (fun _ _ _ h => h))))))))) (fun _ _ _ h => h)))))))))), (by unfold b_X11_piece_16; exact (mm_ldc hC dX11_piece_16 ⟨by decide, by decide⟩ wd_550 (mm_ir hC ⟨rfl, rfl⟩ hr dX11_piece_18))), (by unfold b_X11_piece_38; exact (mm_ldc hC dX11_piece_38 ⟨by decide, by decide⟩ wd_361 (mm_ir hC ⟨rfl, rfl⟩ hr dX11_piece_40)))⟩
set_option maxRecDepth 100000 in
set_option maxHeartbeats 8000000 in
theorem pv_X11_piece : ∀ (av : List mm_V) (σ : mm_S) (Post : Option mm_V → mm_S → Prop), (∀ v ∈ av, mm_iv v) → (∀ a j, mm_in (σ.1 a j)) → σ.2.2 ≤ 348 → T_X11_piece av σ Post → ∀ Ok : Nat → mm_K, clo_X11_piece Ok Post σ.2.2 → Ok 0 (av ++ List.replicate (7 - av.length) (.inr none)) [] σ := by
  intro av σ Post hav hin hk hT Ok hcl
  obtain ⟨I, R0⟩ := σ
  unfold T_X11_piece at hT
  split at hT
  · rename_i a s b k v
    obtain ⟨h0, hT⟩ := hT
    have h0 : R0 = mm_R0 := h0
    subst h0
    dsimp only at hT hin
    obtain ⟨c0, c16, c38⟩ := hcl
    obtain ⟨rfl, S, hS, ok, hP⟩ := hT
    obtain ⟨k0, k1, k2, k3, k4, k5, k6, k7⟩ := sh_0
    obtain ⟨w1, w2, w3, w4, w5, w6⟩ := Rs_2
    have p5 := Rs_41
    have hW0 : I 2 0 = S 0 0 := hS.1.1
    have hW1 : I 2 1 = S 0 1 := hS.1.2.1
    have out1 : ¬ ((0 ≤ s ∧ s < S 0 1) ∧ (0 ≤ b ∧ b < S 0 0)) → Ok 16 [.inr (some 0), .inl s, .inl b, .inl k, .inl v, .inr none, .inr none] [] (I, mm_R0) := by
      intro h1
      refine c16 _ _ _ ?_
      simp only [b_X11_piece_16, i_xorg, i_shl, i_shr, i_ior, i_and1, i_lcg1, i_lcg2, i_ld, i_la, i_st, i_sa, i_c, i_inc, i_add, i_sub, i_mul, i_div, i_rem, i_remT, i_xor, i_dup, i_dup2, i_if, i_if2, i_sw, i_gi, i_gr, i_pi, i_pz, i_ial, i_ias, i_len, i_aal, i_gs, i_tal, i_cv, i_cs, i_ir, i_zr, i_vr, i_min, i_max, i_cpy, List.getElem?_cons_zero, List.getElem?_cons_succ, List.set_cons_zero, List.set_cons_succ, List.length_cons, List.length_nil, List.drop_succ_cons, List.drop_zero, List.take_succ_cons, List.take_zero, List.reverse_cons, List.reverse_nil, List.nil_append, List.cons_append, Option.toList_some, Option.toList_none, true_and, and_true, true_or, or_true, Nat.reduceAdd, Nat.reduceLT, Nat.reduceLeDiff, Option.some.injEq, exists_eq_left', Int.toNat_natCast, Nat.reduceSub, List.append_nil, List.replicate_succ, List.replicate_zero]
      have e : pieF S s b k v = (S, -1000000001) := if_pos h1
      simp only [e] at hP
      exact hP I (hiF_rf I) hS
    have out2 : ((0 ≤ s ∧ s < S 0 1) ∧ (0 ≤ b ∧ b < S 0 0)) → ¬ ((0 ≤ k ∧ k < 7) ∧ 0 ≤ v ∧ v ≤ 20) → Ok 38 [.inr (some 0), .inl s, .inl b, .inl k, .inl v, .inr none, .inr none] [] (I, mm_R0) := by
      intro h1 h2
      refine c38 _ _ _ ?_
      simp only [b_X11_piece_38, i_xorg, i_shl, i_shr, i_ior, i_and1, i_lcg1, i_lcg2, i_ld, i_la, i_st, i_sa, i_c, i_inc, i_add, i_sub, i_mul, i_div, i_rem, i_remT, i_xor, i_dup, i_dup2, i_if, i_if2, i_sw, i_gi, i_gr, i_pi, i_pz, i_ial, i_ias, i_len, i_aal, i_gs, i_tal, i_cv, i_cs, i_ir, i_zr, i_vr, i_min, i_max, i_cpy, List.getElem?_cons_zero, List.getElem?_cons_succ, List.set_cons_zero, List.set_cons_succ, List.length_cons, List.length_nil, List.drop_succ_cons, List.drop_zero, List.take_succ_cons, List.take_zero, List.reverse_cons, List.reverse_nil, List.nil_append, List.cons_append, Option.toList_some, Option.toList_none, true_and, and_true, true_or, or_true, Nat.reduceAdd, Nat.reduceLT, Nat.reduceLeDiff, Option.some.injEq, exists_eq_left', Int.toNat_natCast, Nat.reduceSub, List.append_nil, List.replicate_succ, List.replicate_zero]
      have e : pieF S s b k v = (S, -1000000002) := by unfold pieF; rw [if_neg (fun w => w h1), if_pos h2]
      simp only [e] at hP
      exact hP I (hiF_rf I) hS
    refine c0 _ _ _ ?_
    simp only [b_X11_piece_0, i_xorg, i_shl, i_shr, i_ior, i_and1, i_lcg1, i_lcg2, i_ld, i_la, i_st, i_sa, i_c, i_inc, i_add, i_sub, i_mul, i_div, i_rem, i_remT, i_xor, i_dup, i_dup2, i_if, i_if2, i_sw, i_gi, i_gr, i_pi, i_pz, i_ial, i_ias, i_len, i_aal, i_gs, i_tal, i_cv, i_cs, i_ir, i_zr, i_vr, i_min, i_max, i_cpy, List.getElem?_cons_zero, List.getElem?_cons_succ, List.set_cons_zero, List.set_cons_succ, List.length_cons, List.length_nil, List.drop_succ_cons, List.drop_zero, List.take_succ_cons, List.take_zero, List.reverse_cons, List.reverse_nil, List.nil_append, List.cons_append, Option.toList_some, Option.toList_none, true_and, and_true, true_or, or_true, Nat.reduceAdd, Nat.reduceLT, Nat.reduceLeDiff, Option.some.injEq, exists_eq_left', Int.toNat_natCast, Nat.reduceSub, List.append_nil, List.replicate_succ, List.replicate_zero, mm_in, k0, k1, k4, p5, T_X11_hasSurface, T_X11_hasBody, T_X11_isKind]
    rw [hW1, hW0]
    intro z hz
    refine ⟨fun x => out1 (fun w => bz_f hz x w.1), fun x z2 hz2 => ⟨fun x2 z3 hz3 => ?_, fun x2 => out1 (fun w => bz_f hz2 (by omega) w.2)⟩⟩
    have h1 := bz_t hz x
    have h2 := bz_t hz2 x2
    refine ⟨fun x3 => out2 ⟨h1, h2⟩ (fun w => bz_f hz3 x3 w.1), fun x3 => ?_⟩
    have h3 := bz_t hz3 x3
    refine ⟨fun x4 => out2 ⟨h1, h2⟩ (by omega), fun x4 => ⟨fun x5 => recall hS ok (fun I1 f1 f2 f3 f4 g0 => ?_), fun x5 => out2 ⟨h1, h2⟩ (by omega)⟩⟩
    have e : pieF S s b k v = (upW (recS S) (wPie (S 0) (21 * s + 7 * b + k).toNat v), S 0 (26 + (21 * s + 7 * b + k).toNat)) := by
      unfold pieF
      rw [if_neg (fun w => w ⟨h1, h2⟩), if_neg (fun w => w ⟨h3, by omega, by omega⟩)]
    simp only [e] at hP
    obtain ⟨n, m, q1, q2, q3, q4, q5, q6⟩ := ok.1
    obtain ⟨t, ht⟩ := Int.eq_ofNat_of_zero_le h1.1
    subst ht
    have ht6 : t < 6 := by omega
    obtain ⟨b1, b2, b3⟩ := sheet2 ht6
    simp only [mm_in, k0, k1, k4, p5, w3, w4, sh_5, Rs_5, Int.toNat_natCast, b1, b2, b3, i_xorg, i_shl, i_shr, i_ior, i_and1, i_lcg1, i_lcg2, i_ld, i_la, i_st, i_sa, i_c, i_inc, i_add, i_sub, i_mul, i_div, i_rem, i_remT, i_xor, i_dup, i_dup2, i_if, i_if2, i_sw, i_gi, i_gr, i_pi, i_pz, i_ial, i_ias, i_len, i_aal, i_gs, i_tal, i_cv, i_cs, i_ir, i_zr, i_vr, i_min, i_max, i_cpy, List.getElem?_cons_zero, List.getElem?_cons_succ, List.set_cons_zero, List.set_cons_succ, List.length_cons, List.length_nil, List.drop_succ_cons, List.drop_zero, List.take_succ_cons, List.take_zero, List.reverse_cons, List.reverse_nil, List.nil_append, List.cons_append, Option.toList_some, Option.toList_none, true_and, and_true, true_or, or_true, Nat.reduceAdd, Nat.reduceLT, Nat.reduceLeDiff, Option.some.injEq, exists_eq_left', Int.toNat_natCast, Nat.reduceSub, List.append_nil, List.replicate_succ, List.replicate_zero]
    obtain ⟨p, hp⟩ : ∃ p, (7 * b + k).toNat = p := ⟨_, rfl⟩
    have hp21 : p < 21 := by omega
    repeat' first | refine And.intro ?_ ?_ | refine fun (_ : _ ≤ _ ∧ _ < _) => ?_
    all_goals try omega
    rw [hp]
    have eq1 : I1 (7 + 2 * t) p = S 0 (26 + (21 * (t : Int) + 7 * b + k).toNat) := by
      rw [f2 _ (by omega)]
      have := hS.1.2.2.2.2 t h1.2 p hp21
      rw [show (2 : Nat) + 5 = 7 by omega] at this
      rw [this, show (21 * (t : Int) + 7 * b + k).toNat = 21 * t + p by omega]
      unfold nw
      rw [Nat.add_assoc]
    rw [eq1]
    have fr : ∀ b, b ≠ 7 + 2 * t → mm_set I1 (7 + 2 * t) p v b = I1 b := fun b hb => mset_ne hb
    refine hP _ (fun b hb => by rw [fr b (by omega)]; exact f1 b hb) (cSt_up g0 (okS_rec ok) (fun b hb => fr b (by omega)) ?_)
    obtain ⟨a1, a2, a3, a4, a5⟩ := hS.1
    have eW : ∀ i, i < 26 → wPie (S 0) (21 * (t : Int) + 7 * b + k).toNat v i = S 0 i := fun i hi => by unfold wPie; rw [if_neg (by omega)]
    refine ⟨by rw [eW 0 (by omega), fr 2 (by omega), f2 2 (by omega)]; exact a1, by rw [eW 1 (by omega), fr 2 (by omega), f2 2 (by omega)]; exact a2, fun j hj => ?_, fun j hj h => ?_, fun s' hs i hi => ?_⟩
    · rw [fr _ (by omega), f2 _ (by omega)]
      unfold pw
      rw [eW _ (by omega)]
      exact a3 j hj
    · unfold pw at h
      rw [eW _ (by omega)] at h
      rw [fr _ (by omega), f2 _ (by omega)]
      unfold ww
      rw [eW _ (by omega)]
      exact a4 j hj h
    · rw [eW 1 (by omega)] at hs
      have h5 := a5 s' hs i hi
      rw [show (2 : Nat) + 5 = 7 by omega] at h5 ⊢
      unfold nw wPie mm_set
      by_cases r : s' = t ∧ i = p
      · rw [if_pos (by omega), if_pos (by omega)]
      · rw [if_neg (by omega), if_neg (by omega), f2 _ (by omega)]
        exact h5
  · exact hT.elim
theorem sp_X11_piece : mm_Sp yX11_piece cX11_piece 7 (some .int) rm_X11_piece T_X11_piece := mm_meth (by decide) (by
  intro av σ Post h
  unfold T_X11_piece at h
  split at h
  · simp
  · exact h.elim) (fun p l e s m args below meth c G av σ Post hC hr _ hav hin hk hT => pv_X11_piece av σ Post hav hin hk hT _ (bk_X11_piece hC hr))
def wTak (W : Nat → Int) (s : Nat) : Nat → Int := fun i => if i = 1 then W 1 - 1 else if 26 + 21 * s ≤ i ∧ (i : Int) < 26 + 21 * (W 1 - 1) then W (i + 21) else W i
def takF (S : Nat → Nat → Int) (s : Int) : (Nat → Nat → Int) × Int := if ¬ (0 ≤ s ∧ s < S 0 1) then (S, -1000000001) else (upW (recS S) (wTak (S 0) s.toNat), S 0 1 - 1)
def T_X11_take : mm_T := fun av σ Post => match av with
  | [.inr (some a), .inl s] => dT (fun S => takF S s) a σ Post
  | _ => False
def rm_X11_take : Room := { frames := 4, cells := 0, slots := 0, locals := 92 }
def b_X11_take_0 (Ok : Nat → mm_K) (Post : Option mm_V → mm_S → Prop) (kf : Nat) : mm_K := i_la 0 (i_ld 1 (i_cv 10 1 T_X11_hasSurface (i_if (fun x => ¬ x = 0) (i_la 0 (i_gr 10 3 (i_la 0 (i_gr 10 0 (i_cv 5 1 T_X5_record (i_la 0 (i_gr 10 0 (i_ld 1 (i_cv 9 1 T_X10_dropSheet (i_la 0 (i_gr 10 0 (i_gi 9 1 (i_ir Post kf))))))))))))) (i_c (-1000000001) (i_ir Post kf)))))
def clo_X11_take (Ok : Nat → mm_K) (Post : Option mm_V → mm_S → Prop) (kf : Nat) : Prop := mm_imp (b_X11_take_0 Ok Post kf) (Ok 0)
set_option maxRecDepth 100000 in
set_option maxHeartbeats 4000000 in
theorem bk_X11_take {p : Program} {l : Launch} {e : Env} {s : State} {m : MethodId} {args : Array Value} {below : List Frame} {meth : Method} {c : Code} {G : mm_G} {σ0 : mm_S} {Post : Option mm_V → mm_S → Prop} (hC : mm_C p G s m args meth c cX11_take yX11_take.cls) (hr : meth.sig.returnType = some .int) : clo_X11_take (mm_O p l e rm_X11_take s m args below meth c G σ0.2.2 (MQ below (mm_Qc G σ0 rm_X11_take.cells rm_X11_take.slots Post) args s rm_X11_take.cells rm_X11_take.slots (mm_A G))) Post σ0.2.2 := (by unfold clo_X11_take b_X11_take_0; exact (mm_la_n hC dX11_take_0 rfl (mm_ld_n hC dX11_take_1 rfl (mm_cv hC sp_X11_hasSurface ⟨rfl, rfl⟩ cl_10 wd_569 wd_571 wd_12 wd_572 wd_65 ⟨by decide, by decide, by decide +kernel⟩ ⟨by decide, by decide⟩ dX11_take_2 (mm_if_ne hC (t := 11) dX11_take_5 (by decide) (mm_la_n hC dX11_take_11 rfl (mm_gr hC cl_10 (by decide) rfl wd_330 dX11_take_12 (mm_la_n hC dX11_take_15 rfl (mm_gr hC cl_10 (by decide) rfl wd_327 dX11_take_16 (mm_cv hC sp_X5_record ⟨rfl, rfl⟩ cl_5 wd_621 wd_622 wd_623 wd_624 wd_73 ⟨by decide, by decide, by decide +kernel⟩ ⟨by decide, by decide⟩ dX11_take_19 (mm_la_n hC dX11_take_22 rfl (mm_gr hC cl_10 (by decide) rfl wd_327 dX11_take_23 (mm_ld_n hC dX11_take_26 rfl (mm_cv hC sp_X10_dropSheet ⟨rfl, rfl⟩ cl_9 wd_707 wd_708 wd_709 wd_710 wd_67 ⟨by decide, by decide, by decide +kernel⟩ ⟨by decide, by decide⟩ dX11_take_27 (mm_la_n hC dX11_take_30 rfl (mm_gr hC cl_10 (by decide) rfl wd_327 dX11_take_31 (mm_gi hC cl_9 (by decide) rfl wd_124 dX11_take_34 (mm_ir hC ⟨rfl, rfl⟩ hr dX11_take_37))))))))))))) (mm_ldc hC dX11_take_8 ⟨by decide, by decide⟩ wd_550 (mm_ir hC ⟨rfl, rfl⟩ hr dX11_take_10)))))))
set_option maxRecDepth 100000 in
set_option maxHeartbeats 8000000 in
theorem pv_X11_take : ∀ (av : List mm_V) (σ : mm_S) (Post : Option mm_V → mm_S → Prop), (∀ v ∈ av, mm_iv v) → (∀ a j, mm_in (σ.1 a j)) → σ.2.2 ≤ 348 → T_X11_take av σ Post → ∀ Ok : Nat → mm_K, clo_X11_take Ok Post σ.2.2 → Ok 0 (av ++ List.replicate (2 - av.length) (.inr none)) [] σ := by
  intro av σ Post hav hin hk hT Ok hcl
  obtain ⟨I, R0⟩ := σ
  unfold T_X11_take at hT
  split at hT
  · rename_i a s
    obtain ⟨h0, hT⟩ := hT
    have h0 : R0 = mm_R0 := h0
    subst h0
    dsimp only at hT hin
    have c0 := hcl
    unfold clo_X11_take at c0
    obtain ⟨rfl, S, hS, ok, hP⟩ := hT
    obtain ⟨k0, k1, k2, k3, k4, k5, k6, k7⟩ := sh_0
    obtain ⟨w1, w2, w3, w4, w5, w6⟩ := Rs_2
    have p5 := Rs_41
    have hW1 : I 2 1 = S 0 1 := hS.1.2.1
    refine c0 _ _ _ ?_
    simp only [b_X11_take_0, i_xorg, i_shl, i_shr, i_ior, i_and1, i_lcg1, i_lcg2, i_ld, i_la, i_st, i_sa, i_c, i_inc, i_add, i_sub, i_mul, i_div, i_rem, i_remT, i_xor, i_dup, i_dup2, i_if, i_if2, i_sw, i_gi, i_gr, i_pi, i_pz, i_ial, i_ias, i_len, i_aal, i_gs, i_tal, i_cv, i_cs, i_ir, i_zr, i_vr, i_min, i_max, i_cpy, List.getElem?_cons_zero, List.getElem?_cons_succ, List.set_cons_zero, List.set_cons_succ, List.length_cons, List.length_nil, List.drop_succ_cons, List.drop_zero, List.take_succ_cons, List.take_zero, List.reverse_cons, List.reverse_nil, List.nil_append, List.cons_append, Option.toList_some, Option.toList_none, true_and, and_true, true_or, or_true, Nat.reduceAdd, Nat.reduceLT, Nat.reduceLeDiff, Option.some.injEq, exists_eq_left', Int.toNat_natCast, Nat.reduceSub, List.append_nil, List.replicate_succ, List.replicate_zero, mm_in, k0, k1, k4, p5, T_X11_hasSurface]
    rw [hW1]
    intro z hz
    refine ⟨fun x => recall hS ok (fun I1 f1 f2 f3 f4 g0 => ?_), fun x => ?_⟩
    · have h1 := bz_t hz x
      have e : takF S s = (upW (recS S) (wTak (S 0) s.toNat), S 0 1 - 1) := if_neg (fun w => w h1)
      simp only [e] at hP
      obtain ⟨n, m, q1, q2, q3, q4, q5, q6⟩ := ok.1
      obtain ⟨t, ht⟩ := Int.eq_ofNat_of_zero_le h1.1
      subst ht
      have e1 : I1 2 1 = (m : Int) := by rw [f2 2 (by omega), hW1, q2]
      simp only [mm_in, k0, k1, k4, p5, w4, T_X10_dropSheet, i_xorg, i_shl, i_shr, i_ior, i_and1, i_lcg1, i_lcg2, i_ld, i_la, i_st, i_sa, i_c, i_inc, i_add, i_sub, i_mul, i_div, i_rem, i_remT, i_xor, i_dup, i_dup2, i_if, i_if2, i_sw, i_gi, i_gr, i_pi, i_pz, i_ial, i_ias, i_len, i_aal, i_gs, i_tal, i_cv, i_cs, i_ir, i_zr, i_vr, i_min, i_max, i_cpy, List.getElem?_cons_zero, List.getElem?_cons_succ, List.set_cons_zero, List.set_cons_succ, List.length_cons, List.length_nil, List.drop_succ_cons, List.drop_zero, List.take_succ_cons, List.take_zero, List.reverse_cons, List.reverse_nil, List.nil_append, List.cons_append, Option.toList_some, Option.toList_none, true_and, and_true, true_or, or_true, Nat.reduceAdd, Nat.reduceLT, Nat.reduceLeDiff, Option.some.injEq, exists_eq_left', Int.toNat_natCast, Nat.reduceSub, List.append_nil, List.replicate_succ, List.replicate_zero]
      refine ⟨t, m, rfl, e1, by omega, by omega, fun I2 g1 g2 g3 g4 _ => ?_⟩
      rw [g3, e1, ← q2]
      refine hP I2 (fun b hb => by rw [g1 b (by omega) (by omega)]; exact f1 b hb) (cSt_up g0 (okS_rec ok) (fun b hb => g1 b (by omega) (by omega)) ?_)
      obtain ⟨a1, a2, a3, a4, a5⟩ := hS.1
      have eW : ∀ i, i < 26 → i ≠ 1 → wTak (S 0) t i = S 0 i := fun i hi h1 => by unfold wTak; rw [if_neg h1, if_neg (by omega)]
      have eW1 : wTak (S 0) t 1 = S 0 1 - 1 := by unfold wTak; rw [if_pos rfl]
      rw [Int.toNat_natCast]
      refine ⟨by rw [eW 0 (by omega) (by omega), g2, f2 2 (by omega)]; exact a1, by rw [eW1, g3, e1, q2], fun j hj => ?_, fun j hj h => ?_, fun s' hs i hi => ?_⟩
      · rw [g1 _ (by omega) (by omega), f2 _ (by omega)]
        unfold pw
        rw [eW _ (by omega) (by omega)]
        exact a3 j hj
      · unfold pw at h
        rw [eW _ (by omega) (by omega)] at h
        rw [g1 _ (by omega) (by omega), f2 _ (by omega)]
        unfold ww
        rw [eW _ (by omega) (by omega)]
        exact a4 j hj h
      · rw [eW1] at hs
        rw [g4 s' (by omega) i hi]
        unfold nw wTak
        rw [if_neg (by omega : ¬ 26 + 21 * s' + i = 1)]
        by_cases r : s' < t
        · rw [if_pos r, if_neg (by omega), f2 _ (by omega)]
          exact a5 s' (by omega) i hi
        · rw [if_neg r, if_pos (by omega), f2 _ (by omega), a5 (s' + 1) (by omega) i hi]
          unfold nw
          congr 1
          omega
    · have e : takF S s = (S, -1000000001) := if_pos (bz_f hz (by omega))
      simp only [e] at hP
      exact hP I (hiF_rf I) hS
  · exact hT.elim
theorem sp_X11_take : mm_Sp yX11_take cX11_take 2 (some .int) rm_X11_take T_X11_take := mm_meth (by decide) (by
  intro av σ Post h
  unfold T_X11_take at h
  split at h
  · simp
  · exact h.elim) (fun p l e s m args below meth c G av σ Post hC hr _ hav hin hk hT => pv_X11_take av σ Post hav hin hk hT _ (bk_X11_take hC hr))
