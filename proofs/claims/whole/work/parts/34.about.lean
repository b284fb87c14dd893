/-! PieceSurfaces: about
-/
/-- the surface about a vertex -/
def aboF (S : Nat → Nat → Int) (p : Int) : (Nat → Nat → Int) × Int :=
  if ¬ (0 ≤ p ∧ p < nr (skel (S 0 0).toNat (pw (S 0)) (ww (S 0))).1 (4 * (S 0 0).toNat)) then (S, -1000000001) else if 6 ≤ S 0 1 then (S, -1000000004)
  else (upW (recS S) (wNew (S 0) (lk (S 0 0).toNat (vno (skel (S 0 0).toNat (pw (S 0)) (ww (S 0)))) p)), S 0 1)
def T_X11_about : mm_T := fun av σ Post => match av with
  | [.inr (some a), .inl p] => dT (fun S => aboF S p) a σ Post
  | _ => False
def rm_X11_about : Room := { frames := 5, cells := 0, slots := 0, locals := 119 }
def b_X11_about_0 (Ok : Nat → mm_K) (Post : Option mm_V → mm_S → Prop) (kf : Nat) : mm_K := i_la 0 (i_gr 10 1 (i_la 0 (i_gr 10 0 (i_cv 7 1 T_X8_read (i_ld 1 (i_if (fun x => x < 0) (Ok 26) (i_ld 1 (i_la 0 (i_gr 10 1 (i_gi 7 7 (i_if2 (fun x y => x < y) (i_la 0 (i_gr 10 0 (i_cv 9 0 T_X10_isFull (i_if (fun x => x = 0) (i_la 0 (i_gr 10 3 (i_la 0 (i_gr 10 0 (i_cv 5 1 T_X5_record (i_la 0 (i_gr 10 2 (i_ld 1 (i_la 0 (i_gr 10 0 (i_gr 9 4 (i_la 0 (i_gr 10 0 (i_gi 9 1 (i_aal 101 (i_cv 8 2 T_X9_fillLink (i_la 0 (i_gr 10 0 (i_cv 9 0 T_X10_lastGrown (i_ir Post kf)))))))))))))))))))) (i_c (-1000000004) (i_ir Post kf)))))) (Ok 26))))))))))))
def b_X11_about_26 (Ok : Nat → mm_K) (Post : Option mm_V → mm_S → Prop) (kf : Nat) : mm_K := i_c (-1000000001) (i_ir Post kf)
def clo_X11_about (Ok : Nat → mm_K) (Post : Option mm_V → mm_S → Prop) (kf : Nat) : Prop := mm_imp (b_X11_about_0 Ok Post kf) (Ok 0) ∧ mm_imp (b_X11_about_26 Ok Post kf) (Ok 26)
set_option maxRecDepth 100000 in
set_option maxHeartbeats 4000000 in
theorem bk_X11_about {p : Program} {l : Launch} {e : Env} {s : State} {m : MethodId} {args : Array Value} {below : List Frame} {meth : Method} {c : Code} {G : mm_G} {σ0 : mm_S} {Post : Option mm_V → mm_S → Prop} (hC : mm_C p G s m args meth c cX11_about yX11_about.cls) (hr : meth.sig.returnType = some .int) : clo_X11_about (mm_O p l e rm_X11_about s m args below meth c G σ0.2.2 (MQ below (mm_Qc G σ0 rm_X11_about.cells rm_X11_about.slots Post) args s rm_X11_about.cells rm_X11_about.slots (mm_A G))) Post σ0.2.2 := ⟨(by unfold b_X11_about_0; exact (mm_la_n hC dX11_about_0 rfl (mm_gr hC cl_10 (by decide) rfl wd_328 dX11_about_1 (mm_la_n hC dX11_about_4 rfl (mm_gr hC cl_10 (by decide) rfl wd_327 dX11_about_5 (mm_cv hC sp_X8_read ⟨rfl, rfl⟩ cl_7 wd_362 wd_363 wd_364 wd_365 wd_70 ⟨by decide, by decide, by decide +kernel⟩ ⟨by decide, by decide⟩ dX11_about_8 (mm_ld_n hC dX11_about_11 rfl (mm_if_lt hC (t := 26) dX11_about_12 (by decide) (fun _ _ _ h => h) (mm_ld_n hC dX11_about_15 rfl (mm_la_n hC dX11_about_16 rfl (mm_gr hC cl_10 (by decide) rfl wd_328 dX11_about_17 (mm_gi hC cl_7 (by decide) rfl wd_178 dX11_about_20 (mm_ic_lt hC (t := 29) dX11_about_23 (by decide) (mm_la_n hC dX11_about_29 rfl (mm_gr hC cl_10 (by decide) rfl wd_327 dX11_about_30 (mm_cv hC sp_X10_isFull ⟨rfl, rfl⟩ cl_9 wd_669 wd_670 wd_671 wd_672 wd_67 ⟨by decide, by decide, by decide +kernel⟩ ⟨by decide, by decide⟩ dX11_about_33 (mm_if_eq hC (t := 42) dX11_about_36 (by decide) (mm_la_n hC dX11_about_42 rfl (mm_gr hC cl_10 (by decide) rfl wd_330 dX11_about_43 (mm_la_n hC dX11_about_46 rfl (mm_gr hC cl_10 (by decide) rfl wd_327 dX11_about_47 (mm_cv hC sp_X5_record ⟨rfl, rfl⟩ cl_5 wd_621 wd_622 wd_623 wd_624 wd_73 ⟨by decide, by decide, by decide +kernel⟩ ⟨by decide, by decide⟩ dX11_about_50 (mm_la_n hC dX11_about_53 rfl (mm_gr hC cl_10 (by decide) rfl wd_329 dX11_about_54 (mm_ld_n hC dX11_about_57 rfl (mm_la_n hC dX11_about_58 rfl (mm_gr hC cl_10 (by decide) rfl wd_327 dX11_about_59 (mm_gr hC cl_9 (by decide) rfl wd_134 dX11_about_62 (mm_la_n hC dX11_about_65 rfl (mm_gr hC cl_10 (by decide) rfl wd_327 dX11_about_66 (mm_gi hC cl_9 (by decide) rfl wd_124 dX11_about_69 (mm_aal hC (t := 1) (by decide) rfl dX11_about_72 (mm_cv hC sp_X9_fillLink ⟨rfl, rfl⟩ cl_8 wd_687 wd_436 wd_437 wd_438 wd_66 ⟨by decide, by decide, by decide +kernel⟩ ⟨by decide, by decide⟩ dX11_about_73 (mm_la_n hC dX11_about_76 rfl (mm_gr hC cl_10 (by decide) rfl wd_327 dX11_about_77 (mm_cv hC sp_X10_lastGrown ⟨rfl, rfl⟩ cl_9 wd_675 wd_676 wd_677 wd_678 wd_67 ⟨by decide, by decide, by decide +kernel⟩ ⟨by decide, by decide⟩ dX11_about_80 (mm_ir hC ⟨rfl, rfl⟩ hr dX11_about_83)))))))))))))))))))) (mm_ldc hC dX11_about_39 ⟨by decide, by decide⟩ wd_673 (mm_ir hC ⟨rfl, rfl⟩ hr dX11_about_41)))))) (fun _ _ _ h => h)))))))))))))), (by unfold b_X11_about_26; exact (mm_ldc hC dX11_about_26 ⟨by decide, by decide⟩ wd_550 (mm_ir hC ⟨rfl, rfl⟩ hr dX11_about_28)))⟩
set_option maxRecDepth 100000 in
set_option maxHeartbeats 8000000 in
theorem pv_X11_about : ∀ (av : List mm_V) (σ : mm_S) (Post : Option mm_V → mm_S → Prop), (∀ v ∈ av, mm_iv v) → (∀ a j, mm_in (σ.1 a j)) → σ.2.2 ≤ 348 → T_X11_about av σ Post → ∀ Ok : Nat → mm_K, clo_X11_about Ok Post σ.2.2 → Ok 0 (av ++ List.replicate (2 - av.length) (.inr none)) [] σ := by
  intro av σ Post hav hin hk hT Ok hcl
  obtain ⟨I, R0⟩ := σ
  unfold T_X11_about at hT
  split at hT
  · rename_i a p
    obtain ⟨h0, hT⟩ := hT
    have h0 : R0 = mm_R0 := h0
    subst h0
    dsimp only at hT hin
    obtain ⟨c0, c26⟩ := hcl
    obtain ⟨rfl, S, hS, ok, hP⟩ := hT
    obtain ⟨k0, k1, k2, k3, k4, k5, k6, k7⟩ := sh_0
    obtain ⟨w1, w2, w3, w4, w5, w6⟩ := Rs_2
    have p5 := Rs_41
    have s0 := sh_18.1
    have v1 := Rs_1.2.2.2.2.2.2.2.2.2
    have hW1 : I 2 1 = S 0 1 := hS.1.2.1
    obtain ⟨n, hn, hgw, hsh, hbk⟩ := cSt_gw hS ok
    have hn3 := hgw.2.2.1
    have esk : skel n (I 3) (I 4) = skel n (pw (S 0)) (ww (S 0)) := skel_cg (agW_I hS.1) hn3
    have eF : aboF S p = if ¬ (0 ≤ p ∧ p < nr (skel n (pw (S 0)) (ww (S 0))).1 (4 * n)) then (S, -1000000001) else if 6 ≤ S 0 1 then (S, -1000000004) else (upW (recS S) (wNew (S 0) (lk n (vno (skel n (pw (S 0)) (ww (S 0)))) p)), S 0 1) := by
      unfold aboF
      rw [hn, Int.toNat_natCast]
    obtain ⟨L, hL⟩ : ∃ L, skel n (pw (S 0)) (ww (S 0)) = L := ⟨_, rfl⟩
    rw [hL] at eF esk
    refine c0 _ _ _ ?_
    simp only [b_X11_about_0, i_xorg, i_shl, i_shr, i_ior, i_and1, i_lcg1, i_lcg2, i_ld, i_la, i_st, i_sa, i_c, i_inc, i_add, i_sub, i_mul, i_div, i_rem, i_remT, i_xor, i_dup, i_dup2, i_if, i_if2, i_sw, i_gi, i_gr, i_pi, i_pz, i_ial, i_ias, i_len, i_aal, i_gs, i_tal, i_cv, i_cs, i_ir, i_zr, i_vr, i_min, i_max, i_cpy, List.getElem?_cons_zero, List.getElem?_cons_succ, List.set_cons_zero, List.set_cons_succ, List.length_cons, List.length_nil, List.drop_succ_cons, List.drop_zero, List.take_succ_cons, List.take_zero, List.reverse_cons, List.reverse_nil, List.nil_append, List.cons_append, Option.toList_some, Option.toList_none, true_and, and_true, true_or, or_true, Nat.reduceAdd, Nat.reduceLT, Nat.reduceLeDiff, Option.some.injEq, exists_eq_left', Int.toNat_natCast, Nat.reduceSub, List.append_nil, List.replicate_succ, List.replicate_zero, mm_in, k0, k1, k2, k4, p5, s0, w4, T_X8_read, T_X10_isFull]
    refine ⟨n, hgw, fun I1 f1 hK => ?_⟩
    rw [esk] at hK
    have hS1 : cSt I1 S := cSt_fr hS ok (fun b hb => f1 b (by omega))
    have hW1' : I1 2 1 = S 0 1 := hS1.1.2.1
    have out1 : ¬ (0 ≤ p ∧ p < nr L.1 (4 * n)) → Ok 26 [.inr (some 0), .inl p] [] (I1, mm_R0) := by
      intro h1
      refine c26 _ _ _ ?_
      simp only [b_X11_about_26, i_xorg, i_shl, i_shr, i_ior, i_and1, i_lcg1, i_lcg2, i_ld, i_la, i_st, i_sa, i_c, i_inc, i_add, i_sub, i_mul, i_div, i_rem, i_remT, i_xor, i_dup, i_dup2, i_if, i_if2, i_sw, i_gi, i_gr, i_pi, i_pz, i_ial, i_ias, i_len, i_aal, i_gs, i_tal, i_cv, i_cs, i_ir, i_zr, i_vr, i_min, i_max, i_cpy, List.getElem?_cons_zero, List.getElem?_cons_succ, List.set_cons_zero, List.set_cons_succ, List.length_cons, List.length_nil, List.drop_succ_cons, List.drop_zero, List.take_succ_cons, List.take_zero, List.reverse_cons, List.reverse_nil, List.nil_append, List.cons_append, Option.toList_some, Option.toList_none, true_and, and_true, true_or, or_true, Nat.reduceAdd, Nat.reduceLT, Nat.reduceLeDiff, Option.some.injEq, exists_eq_left', Int.toNat_natCast, Nat.reduceSub, List.append_nil, List.replicate_succ, List.replicate_zero]
      rw [if_pos h1] at eF
      simp only [eF] at hP
      exact hP I1 (fun b hb => f1 b (by omega)) hS1
    rw [hK.1]
    refine ⟨fun x => out1 (by omega), fun x => fun _ => ⟨fun x2 => ?_, fun x2 => out1 (by omega)⟩⟩
    rw [if_neg (by omega)] at eF
    rw [hW1']
    intro z hz
    refine ⟨fun x3 => recall hS1 ok (fun I2 f2 g2 f3 f4 h2 => ?_), fun x3 => ?_⟩
    · have hlt := bz_f hz x3
      rw [if_neg (by omega)] at eF
      simp only [eF] at hP
      obtain ⟨n', m, q1, q2, q3⟩ := ok.1
      have e1 : I2 2 1 = (m : Int) := by rw [g2 2 (by omega), hW1', q2]
      have hm6 : m < 6 := by omega
      obtain ⟨b1, b2, b3⟩ := sheet2 hm6
      simp only [mm_in, k0, k1, k3, k4, p5, v1, w3, w4, sh_5, Rs_5, e1, Int.toNat_natCast, b1, T_X9_fillLink, T_X10_lastGrown, i_xorg, i_shl, i_shr, i_ior, i_and1, i_lcg1, i_lcg2, i_ld, i_la, i_st, i_sa, i_c, i_inc, i_add, i_sub, i_mul, i_div, i_rem, i_remT, i_xor, i_dup, i_dup2, i_if, i_if2, i_sw, i_gi, i_gr, i_pi, i_pz, i_ial, i_ias, i_len, i_aal, i_gs, i_tal, i_cv, i_cs, i_ir, i_zr, i_vr, i_min, i_max, i_cpy, List.getElem?_cons_zero, List.getElem?_cons_succ, List.set_cons_zero, List.set_cons_succ, List.length_cons, List.length_nil, List.drop_succ_cons, List.drop_zero, List.take_succ_cons, List.take_zero, List.reverse_cons, List.reverse_nil, List.nil_append, List.cons_append, Option.toList_some, Option.toList_none, true_and, and_true, true_or, or_true, Nat.reduceAdd, Nat.reduceLT, Nat.reduceLeDiff, Option.some.injEq, exists_eq_left', Int.toNat_natCast, Nat.reduceSub, List.append_nil, List.replicate_succ, List.replicate_zero]
      have e20 : I2 2 0 = (n : Int) := by rw [g2 2 (by omega), hS1.1.1]; exact hn
      repeat' first | refine And.intro ?_ ?_ | refine fun (_ : _ ≤ _ ∧ _ < _) => ?_
      all_goals try omega
      refine ⟨n, e20, hn3, fun I3 g3 g4 => ?_⟩
      have e2 : I3 2 1 = (m : Int) := by rw [g3 2 (by omega)]; exact e1
      rw [e2]
      refine ⟨by omega, by omega, ?_⟩
      rw [← q2]
      have fr : ∀ b, b ≠ 2 → b ≠ 7 + 2 * m → mm_set I3 2 1 (S 0 1 + 1) b = I2 b := fun b h1 h2 => by rw [mset_ne h1, g3 b (by omega)]
      refine hP _ (fun b hb => by rw [fr b (by omega) (by omega), f2 b hb]; exact f1 b (by omega)) (cSt_up h2 (okS_rec ok) (fun b hb => fr b (by omega) (by omega)) ?_)
      refine cW_new (m := m) hS1.1 q2 ?_ ?_ ?_ ?_ ?_ ?_
      · rw [mset_n2 (by omega), g3 2 (by omega), g2 2 (by omega)]
      · rw [mset_eq, hW1']
      · rw [fr 3 (by omega) (by omega), g2 3 (by omega)]
      · rw [fr 4 (by omega) (by omega), g2 4 (by omega)]
      · intro s hs
        rw [fr _ (by omega) (by omega), g2 _ (by omega)]
      · intro i hi
        rw [mset_ne (by omega), show 7 + 2 * m = 6 + 2 * m + 1 by omega, g4 i hi, g2 25 (by omega)]
        exact lk_cg (fun c hc => hK.2.2.1 c hc) p i
    · have hlt := bz_t hz (by omega)
      rw [if_pos (by omega)] at eF
      simp only [eF] at hP
      exact hP I1 (fun b hb => f1 b (by omega)) hS1
  · exact hT.elim
theorem sp_X11_about : mm_Sp yX11_about cX11_about 2 (some .int) rm_X11_about T_X11_about := mm_meth (by decide) (by
  intro av σ Post h
  unfold T_X11_about at h
  split at h
  · simp
  · exact h.elim) (fun p l e s m args below meth c G av σ Post hC hr _ hav hin hk hT => pv_X11_about av σ Post hav hin hk hT _ (bk_X11_about hC hr))
