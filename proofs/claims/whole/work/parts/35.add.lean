/-! PieceSurfaces: add
-/
/-- the sum of two surfaces -/
def sumW (W : Nat → Int) (s u : Int) : Nat → Int := fun i => nw W s.toNat i + nw W u.toNat i
def addF (S : Nat → Nat → Int) (s u : Int) : (Nat → Nat → Int) × Int :=
  if ¬ ((0 ≤ s ∧ s < S 0 1) ∧ (0 ≤ u ∧ u < S 0 1)) then (S, -1000000001) else if 6 ≤ S 0 1 then (S, -1000000004)
  else if (1 < us (sumW (S 0) s u) 0 ∨ 1 < us (sumW (S 0) s u) 1 ∨ 1 < us (sumW (S 0) s u) 2) ∨ ¬ (∀ i, i < 21 → sumW (S 0) s u i ≤ 20) then (S, -1000000003) else (upW (recS S) (wNew (S 0) (sumW (S 0) s u)), S 0 1)
def T_X11_add : mm_T := fun av σ Post => match av with
  | [.inr (some a), .inl s, .inl u] => dT (fun S => addF S s u) a σ Post
  | _ => False
def rm_X11_add : Room := { frames := 4, cells := 0, slots := 0, locals := 92 }
def b_X11_add_0 (Ok : Nat → mm_K) (Post : Option mm_V → mm_S → Prop) (kf : Nat) : mm_K := i_la 0 (i_ld 1 (i_cv 10 1 T_X11_hasSurface (i_if (fun x => x = 0) (Ok 16) (i_la 0 (i_ld 2 (i_cv 10 1 T_X11_hasSurface (i_if (fun x => ¬ x = 0) (i_la 0 (i_gr 10 0 (i_cv 9 0 T_X10_isFull (i_if (fun x => x = 0) (i_la 0 (i_gr 10 0 (i_gr 9 4 (i_la 0 (i_gr 10 0 (i_gi 9 1 (i_aal 101 (i_sa 3 (i_la 3 (i_la 0 (i_gr 10 0 (i_gr 9 4 (i_ld 1 (i_aal 101 (i_la 0 (i_gr 10 0 (i_gr 9 4 (i_ld 2 (i_aal 101 (i_cv 6 2 T_X7_fillSum (i_la 3 (i_cv 6 0 T_X7_crosses (i_if (fun x => ¬ x = 0) (Ok 86) (i_la 3 (i_cv 6 0 T_X7_most (i_c 20 (i_if2 (fun x y => x ≤ y) (i_la 0 (i_gr 10 3 (i_la 0 (i_gr 10 0 (i_cv 5 1 T_X5_record (i_la 0 (i_gr 10 0 (i_cv 9 0 T_X10_lastGrown (i_ir Post kf))))))))) (Ok 86)))))))))))))))))))))))))))) (i_c (-1000000004) (i_ir Post kf)))))) (Ok 16))))))))
def b_X11_add_16 (Ok : Nat → mm_K) (Post : Option mm_V → mm_S → Prop) (kf : Nat) : mm_K := i_c (-1000000001) (i_ir Post kf)
def b_X11_add_86 (Ok : Nat → mm_K) (Post : Option mm_V → mm_S → Prop) (kf : Nat) : mm_K := i_c (-1000000003) (i_ir Post kf)
def clo_X11_add (Ok : Nat → mm_K) (Post : Option mm_V → mm_S → Prop) (kf : Nat) : Prop := mm_imp (b_X11_add_0 Ok Post kf) (Ok 0) ∧ mm_imp (b_X11_add_16 Ok Post kf) (Ok 16) ∧ mm_imp (b_X11_add_86 Ok Post kf) (Ok 86)
set_option maxRecDepth 100000 in
set_option maxHeartbeats 4000000 in
theorem bk_X11_add {p : Program} {l : Launch} {e : Env} {s : State} {m : MethodId} {args : Array Value} {below : List Frame} {meth : Method} {c : Code} {G : mm_G} {σ0 : mm_S} {Post : Option mm_V → mm_S → Prop} (hC : mm_C p G s m args meth c cX11_add yX11_add.cls) (hr : meth.sig.returnType = some .int) : clo_X11_add (mm_O p l e rm_X11_add s m args below meth c G σ0.2.2 (MQ below (mm_Qc G σ0 rm_X11_add.cells rm_X11_add.slots Post) args s rm_X11_add.cells rm_X11_add.slots (mm_A G))) Post σ0.2.2 := ⟨(by unfold b_X11_add_0; exact (mm_la_n hC dX11_add_0 rfl (mm_ld_n hC dX11_add_1 rfl (mm_cv hC sp_X11_hasSurface ⟨rfl, rfl⟩ cl_10 wd_569 wd_571 wd_12 wd_572 wd_65 ⟨by decide, by decide, by decide +kernel⟩ ⟨by decide, by decide⟩ dX11_add_2 (mm_if_eq hC (t := 16) dX11_add_5 (by decide) (fun _ _ _ h => h) (mm_la_n hC dX11_add_8 rfl (mm_ld_n hC dX11_add_9 rfl (mm_cv hC sp_X11_hasSurface ⟨rfl, rfl⟩ cl_10 wd_569 wd_571 wd_12 wd_572 wd_65 ⟨by decide, by decide, by decide +kernel⟩ ⟨by decide, by decide⟩ dX11_add_10 (mm_if_ne hC (t := 19) dX11_add_13 (by decide) (mm_la_n hC dX11_add_19 rfl (mm_gr hC cl_10 (by decide) rfl wd_327 dX11_add_20 (mm_cv hC sp_X10_isFull ⟨rfl, rfl⟩ cl_9 wd_669 wd_670 wd_671 wd_672 wd_67 ⟨by decide, by decide, by decide +kernel⟩ ⟨by decide, by decide⟩ dX11_add_23 (mm_if_eq hC (t := 32) dX11_add_26 (by decide) (mm_la_n hC dX11_add_32 rfl (mm_gr hC cl_10 (by decide) rfl wd_327 dX11_add_33 (mm_gr hC cl_9 (by decide) rfl wd_134 dX11_add_36 (mm_la_n hC dX11_add_39 rfl (mm_gr hC cl_10 (by decide) rfl wd_327 dX11_add_40 (mm_gi hC cl_9 (by decide) rfl wd_124 dX11_add_43 (mm_aal hC (t := 1) (by decide) rfl dX11_add_46 (mm_sa_n hC dX11_add_47 rfl (mm_la_n hC dX11_add_48 rfl (mm_la_n hC dX11_add_49 rfl (mm_gr hC cl_10 (by decide) rfl wd_327 dX11_add_50 (mm_gr hC cl_9 (by decide) rfl wd_134 dX11_add_53 (mm_ld_n hC dX11_add_56 rfl (mm_aal hC (t := 1) (by decide) rfl dX11_add_57 (mm_la_n hC dX11_add_58 rfl (mm_gr hC cl_10 (by decide) rfl wd_327 dX11_add_59 (mm_gr hC cl_9 (by decide) rfl wd_134 dX11_add_62 (mm_ld_n hC dX11_add_65 rfl (mm_aal hC (t := 1) (by decide) rfl dX11_add_66 (mm_cv hC sp_X7_fillSum ⟨rfl, rfl⟩ cl_6 wd_692 wd_693 wd_694 wd_695 wd_68 ⟨by decide, by decide, by decide +kernel⟩ ⟨by decide, by decide⟩ dX11_add_67 (mm_la_n hC dX11_add_70 rfl (mm_cv hC sp_X7_crosses ⟨rfl, rfl⟩ cl_6 wd_581 wd_514 wd_515 wd_516 wd_68 ⟨by decide, by decide, by decide +kernel⟩ ⟨by decide, by decide⟩ dX11_add_71 (mm_if_ne hC (t := 86) dX11_add_74 (by decide) (fun _ _ _ h => h) (mm_la_n hC dX11_add_77 rfl (mm_cv hC sp_X7_most ⟨rfl, rfl⟩ cl_6 wd_696 wd_697 wd_698 wd_699 wd_68 ⟨by decide, by decide, by decide +kernel⟩ ⟨by decide, by decide⟩ dX11_add_78 (mm_bp hC dX11_add_81 ⟨⟨by decide, by decide⟩, by decide⟩ (mm_ic_le hC (t := 89) dX11_add_83 (by decide) (mm_la_n hC dX11_add_89 rfl (mm_gr hC cl_10 (by decide) rfl wd_330 dX11_add_90 (mm_la_n hC dX11_add_93 rfl (mm_gr hC cl_10 (by decide) rfl wd_327 dX11_add_94 (mm_cv hC sp_X5_record ⟨rfl, rfl⟩ cl_5 wd_621 wd_622 wd_623 wd_624 wd_73 ⟨by decide, by decide, by decide +kernel⟩ ⟨by decide, by decide⟩ dX11_add_97 (mm_la_n hC dX11_add_100 rfl (mm_gr hC cl_10 (by decide) rfl wd_327 dX11_add_101 (mm_cv hC sp_X10_lastGrown ⟨rfl, rfl⟩ cl_9 wd_675 wd_676 wd_677 wd_678 wd_67 ⟨by decide, by decide, by decide +kernel⟩ ⟨by decide, by decide⟩ dX11_add_104 (mm_ir hC ⟨rfl, rfl⟩ hr dX11_add_107))))))))) (fun _ _ _ h => h)))))))))))))))))))))))))))) (mm_ldc hC dX11_add_29 ⟨by decide, by decide⟩ wd_673 (mm_ir hC ⟨rfl, rfl⟩ hr dX11_add_31)))))) (fun _ _ _ h => h)))))))))), (by unfold b_X11_add_16; exact (mm_ldc hC dX11_add_16 ⟨by decide, by decide⟩ wd_550 (mm_ir hC ⟨rfl, rfl⟩ hr dX11_add_18))), (by unfold b_X11_add_86; exact (mm_ldc hC dX11_add_86 ⟨by decide, by decide⟩ wd_650 (mm_ir hC ⟨rfl, rfl⟩ hr dX11_add_88)))⟩
set_option maxRecDepth 100000 in
set_option maxHeartbeats 8000000 in
theorem pv_X11_add : ∀ (av : List mm_V) (σ : mm_S) (Post : Option mm_V → mm_S → Prop), (∀ v ∈ av, mm_iv v) → (∀ a j, mm_in (σ.1 a j)) → σ.2.2 ≤ 348 → T_X11_add av σ Post → ∀ Ok : Nat → mm_K, clo_X11_add Ok Post σ.2.2 → Ok 0 (av ++ List.replicate (4 - av.length) (.inr none)) [] σ := by
  intro av σ Post hav hin hk hT Ok hcl
  obtain ⟨I, R0⟩ := σ
  unfold T_X11_add at hT
  split at hT
  · rename_i a s u
    obtain ⟨h0, hT⟩ := hT
    have h0 : R0 = mm_R0 := h0
    subst h0
    dsimp only at hT hin
    obtain ⟨c0, c16, c86⟩ := hcl
    obtain ⟨rfl, S, hS, ok, hP⟩ := hT
    obtain ⟨k0, k1, k2, k3, k4, k5, k6, k7⟩ := sh_0
    obtain ⟨w1, w2, w3, w4, w5, w6⟩ := Rs_2
    have p5 := Rs_41
    have hW1 : I 2 1 = S 0 1 := hS.1.2.1
    obtain ⟨n', m, q1, q2, q3, q4, q5, q6, q7⟩ := id ok.1
    have eF : addF S s u = if ¬ ((0 ≤ s ∧ s < S 0 1) ∧ (0 ≤ u ∧ u < S 0 1)) then (S, -1000000001) else if 6 ≤ S 0 1 then (S, -1000000004) else if (1 < us (sumW (S 0) s u) 0 ∨ 1 < us (sumW (S 0) s u) 1 ∨ 1 < us (sumW (S 0) s u) 2) ∨ ¬ (∀ i, i < 21 → sumW (S 0) s u i ≤ 20) then (S, -1000000003) else (upW (recS S) (wNew (S 0) (sumW (S 0) s u)), S 0 1) := rfl
    have out1 : ¬ ((0 ≤ s ∧ s < S 0 1) ∧ (0 ≤ u ∧ u < S 0 1)) → Ok 16 [.inr (some 0), .inl s, .inl u, .inr none] [] (I, mm_R0) := by
      intro h1
      refine c16 _ _ _ ?_
      simp only [b_X11_add_16, i_xorg, i_shl, i_shr, i_ior, i_and1, i_lcg1, i_lcg2, i_ld, i_la, i_st, i_sa, i_c, i_inc, i_add, i_sub, i_mul, i_div, i_rem, i_remT, i_xor, i_dup, i_dup2, i_if, i_if2, i_sw, i_gi, i_gr, i_pi, i_pz, i_ial, i_ias, i_len, i_aal, i_gs, i_tal, i_cv, i_cs, i_ir, i_zr, i_vr, i_min, i_max, i_cpy, List.getElem?_cons_zero, List.getElem?_cons_succ, List.set_cons_zero, List.set_cons_succ, List.length_cons, List.length_nil, List.drop_succ_cons, List.drop_zero, List.take_succ_cons, List.take_zero, List.reverse_cons, List.reverse_nil, List.nil_append, List.cons_append, Option.toList_some, Option.toList_none, true_and, and_true, true_or, or_true, Nat.reduceAdd, Nat.reduceLT, Nat.reduceLeDiff, Option.some.injEq, exists_eq_left', Int.toNat_natCast, Nat.reduceSub, List.append_nil, List.replicate_succ, List.replicate_zero]
      rw [if_pos h1] at eF
      simp only [eF] at hP
      exact hP I (hiF_rf I) hS
    refine c0 _ _ _ ?_
    simp only [b_X11_add_0, i_xorg, i_shl, i_shr, i_ior, i_and1, i_lcg1, i_lcg2, i_ld, i_la, i_st, i_sa, i_c, i_inc, i_add, i_sub, i_mul, i_div, i_rem, i_remT, i_xor, i_dup, i_dup2, i_if, i_if2, i_sw, i_gi, i_gr, i_pi, i_pz, i_ial, i_ias, i_len, i_aal, i_gs, i_tal, i_cv, i_cs, i_ir, i_zr, i_vr, i_min, i_max, i_cpy, List.getElem?_cons_zero, List.getElem?_cons_succ, List.set_cons_zero, List.set_cons_succ, List.length_cons, List.length_nil, List.drop_succ_cons, List.drop_zero, List.take_succ_cons, List.take_zero, List.reverse_cons, List.reverse_nil, List.nil_append, List.cons_append, Option.toList_some, Option.toList_none, true_and, and_true, true_or, or_true, Nat.reduceAdd, Nat.reduceLT, Nat.reduceLeDiff, Option.some.injEq, exists_eq_left', Int.toNat_natCast, Nat.reduceSub, List.append_nil, List.replicate_succ, List.replicate_zero, mm_in, k0, k1, w4, T_X11_hasSurface, T_X10_isFull]
    rw [hW1]
    intro z hz
    refine ⟨fun x => out1 (fun w => bz_f hz x w.1), fun x z2 hz2 => ⟨fun x2 z3 hz3 => ?_, fun x2 => out1 (fun w => bz_f hz2 (by omega) w.2)⟩⟩
    have h1 := bz_t hz x
    have h2 := bz_t hz2 x2
    rw [if_neg (fun w => w ⟨h1, h2⟩)] at eF
    refine ⟨fun x3 => ?_, fun x3 => ?_⟩
    · have hlt := bz_f hz3 x3
      rw [if_neg (by omega)] at eF
      obtain ⟨s1, hs1⟩ := Int.eq_ofNat_of_zero_le h1.1
      obtain ⟨u1, hu1⟩ := Int.eq_ofNat_of_zero_le h2.1
      subst hs1
      subst hu1
      have hm6 : m < 6 := by omega
      obtain ⟨b1, b2, b3⟩ := sheet2 hm6
      obtain ⟨c1, c2, c3⟩ := sheet2 (show s1 < 6 by omega)
      obtain ⟨d1, d2, d3⟩ := sheet2 (show u1 < 6 by omega)
      have nS : ∀ t : Nat, (t : Int) < S 0 1 → ∀ i, i < 21 → I (6 + 2 * t + 1) i = nw (S 0) t i := by
        intro t ht i hi
        rw [show 6 + 2 * t + 1 = 2 + 5 + 2 * t by omega]
        exact hS.1.2.2.2.2 t ht i hi
      simp only [mm_in, k0, k1, k4, p5, w3, w4, sh_5, Rs_5, q2, Int.toNat_natCast, b1, c1, d1, T_X7_fillSum, T_X7_crosses, T_X7_most, i_xorg, i_shl, i_shr, i_ior, i_and1, i_lcg1, i_lcg2, i_ld, i_la, i_st, i_sa, i_c, i_inc, i_add, i_sub, i_mul, i_div, i_rem, i_remT, i_xor, i_dup, i_dup2, i_if, i_if2, i_sw, i_gi, i_gr, i_pi, i_pz, i_ial, i_ias, i_len, i_aal, i_gs, i_tal, i_cv, i_cs, i_ir, i_zr, i_vr, i_min, i_max, i_cpy, List.getElem?_cons_zero, List.getElem?_cons_succ, List.set_cons_zero, List.set_cons_succ, List.length_cons, List.length_nil, List.drop_succ_cons, List.drop_zero, List.take_succ_cons, List.take_zero, List.reverse_cons, List.reverse_nil, List.nil_append, List.cons_append, Option.toList_some, Option.toList_none, true_and, and_true, true_or, or_true, Nat.reduceAdd, Nat.reduceLT, Nat.reduceLeDiff, Option.some.injEq, exists_eq_left', Int.toNat_natCast, Nat.reduceSub, List.append_nil, List.replicate_succ, List.replicate_zero]
      repeat' first | refine And.intro ?_ ?_ | refine fun (_ : _ ≤ _ ∧ _ < _) => ?_
      all_goals try omega
      · intro i hi
        rw [nS s1 h1.2 i hi]
        have := q7 s1 (by omega) i hi
        omega
      · intro i hi
        rw [nS u1 h2.2 i hi]
        have := q7 u1 (by omega) i hi
        omega
      intro I1 f1 g1
      have g2 : ∀ i, i < 21 → I1 (7 + 2 * m) i = sumW (S 0) s1 u1 i := by
        intro i hi
        rw [show 7 + 2 * m = 6 + 2 * m + 1 by omega, g1 i hi, nS s1 h1.2 i hi, nS u1 h2.2 i hi]
        unfold sumW
        rw [Int.toNat_natCast, Int.toNat_natCast]
      have hS1 : cSt I1 S := by
        have hc := cSt_up (W := S 0) hS ok (I' := I1) (fun b hb => f1 b (by omega)) ?_
        · have : upW S (S 0) = S := by
            funext c
            unfold upW
            split
            · rename_i q
              rw [q]
            · rfl
          rw [this] at hc
          exact hc
        · obtain ⟨a1, a2, a3, a4, a5⟩ := hS.1
          refine ⟨by rw [f1 2 (by omega)]; exact a1, by rw [f1 2 (by omega)]; exact a2, fun j hj => by rw [f1 _ (by omega)]; exact a3 j hj, fun j hj h => by rw [f1 _ (by omega)]; exact a4 j hj h, fun t ht i hi => ?_⟩
          rw [f1 _ (by omega)]
          exact a5 t ht i hi
      have hhi : hiF I1 I := fun b hb => f1 b (by omega)
      have out2 : ((1 < us (sumW (S 0) s1 u1) 0 ∨ 1 < us (sumW (S 0) s1 u1) 1 ∨ 1 < us (sumW (S 0) s1 u1) 2) ∨ ¬ (∀ i, i < 21 → sumW (S 0) s1 u1 i ≤ 20)) → Ok 86 [.inr (some 0), .inl (s1 : Int), .inl (u1 : Int), .inr (some (6 + 2 * m))] [] (I1, mm_R0) := by
        intro h1
        refine c86 _ _ _ ?_
        simp only [b_X11_add_86, i_xorg, i_shl, i_shr, i_ior, i_and1, i_lcg1, i_lcg2, i_ld, i_la, i_st, i_sa, i_c, i_inc, i_add, i_sub, i_mul, i_div, i_rem, i_remT, i_xor, i_dup, i_dup2, i_if, i_if2, i_sw, i_gi, i_gr, i_pi, i_pz, i_ial, i_ias, i_len, i_aal, i_gs, i_tal, i_cv, i_cs, i_ir, i_zr, i_vr, i_min, i_max, i_cpy, List.getElem?_cons_zero, List.getElem?_cons_succ, List.set_cons_zero, List.set_cons_succ, List.length_cons, List.length_nil, List.drop_succ_cons, List.drop_zero, List.take_succ_cons, List.take_zero, List.reverse_cons, List.reverse_nil, List.nil_append, List.cons_append, Option.toList_some, Option.toList_none, true_and, and_true, true_or, or_true, Nat.reduceAdd, Nat.reduceLT, Nat.reduceLeDiff, Option.some.injEq, exists_eq_left', Int.toNat_natCast, Nat.reduceSub, List.append_nil, List.replicate_succ, List.replicate_zero]
        rw [if_pos h1] at eF
        simp only [eF] at hP
        exact hP I1 hhi hS1
      have hcr : crs (I1 (6 + 2 * m + 1)) 3 ↔ (1 < us (sumW (S 0) s1 u1) 0 ∨ 1 < us (sumW (S 0) s1 u1) 1 ∨ 1 < us (sumW (S 0) s1 u1) 2) := by
        rw [crs_3, show 6 + 2 * m + 1 = 7 + 2 * m by omega, us_cg g2 (by omega), us_cg g2 (by omega), us_cg g2 (by omega)]
      refine ⟨by omega, fun z4 hz4 => ?_⟩
      refine ⟨fun x4 => out2 (Or.inl (hcr.mp (bz_t hz4 x4))), fun x4 => ⟨by omega, fun i hi => ?_, fun z5 hz5 => ⟨fun x5 => recall hS1 ok (fun I2 f2 g3 f3 f4 h3 => ?_), fun x5 => out2 (Or.inr (fun w => ?_))⟩⟩⟩
      · rw [show 6 + 2 * m + 1 = 7 + 2 * m by omega, g2 i hi]
        unfold sumW
        have := q7 s1 (by omega) i hi
        have := q7 u1 (by omega) i hi
        rw [Int.toNat_natCast, Int.toNat_natCast]
        omega
      · have hno := bz_f hz4 (by omega)
        have hle : ∀ i, i < 21 → sumW (S 0) s1 u1 i ≤ 20 := by
          intro i hi
          rw [← g2 i hi, show 7 + 2 * m = 6 + 2 * m + 1 by omega]
          exact (hz5 20 (by omega)).mp x5 i hi
        rw [if_neg (fun w => w.elim (fun q => hno (hcr.mpr q)) (fun q => q hle))] at eF
        simp only [eF] at hP
        have e1 : I2 2 1 = (m : Int) := by rw [g3 2 (by omega), f1 2 (by omega), hW1, q2]
        simp only [mm_in, k0, k1, w4, T_X10_lastGrown, e1, i_xorg, i_shl, i_shr, i_ior, i_and1, i_lcg1, i_lcg2, i_ld, i_la, i_st, i_sa, i_c, i_inc, i_add, i_sub, i_mul, i_div, i_rem, i_remT, i_xor, i_dup, i_dup2, i_if, i_if2, i_sw, i_gi, i_gr, i_pi, i_pz, i_ial, i_ias, i_len, i_aal, i_gs, i_tal, i_cv, i_cs, i_ir, i_zr, i_vr, i_min, i_max, i_cpy, List.getElem?_cons_zero, List.getElem?_cons_succ, List.set_cons_zero, List.set_cons_succ, List.length_cons, List.length_nil, List.drop_succ_cons, List.drop_zero, List.take_succ_cons, List.take_zero, List.reverse_cons, List.reverse_nil, List.nil_append, List.cons_append, Option.toList_some, Option.toList_none, true_and, and_true, true_or, or_true, Nat.reduceAdd, Nat.reduceLT, Nat.reduceLeDiff, Option.some.injEq, exists_eq_left', Int.toNat_natCast, Nat.reduceSub, List.append_nil, List.replicate_succ, List.replicate_zero]
        refine ⟨by omega, by omega, ?_⟩
        rw [← q2]
        have fr : ∀ b, b ≠ 2 → mm_set I2 2 1 (S 0 1 + 1) b = I2 b := fun b h1 => mset_ne h1
        refine hP _ (fun b hb => by rw [fr b (by omega), f2 b hb]; exact hhi b hb) (cSt_up h3 (okS_rec ok) (fun b hb => fr b (by omega)) ?_)
        refine cW_new (m := m) hS1.1 q2 ?_ ?_ ?_ ?_ ?_ ?_
        · rw [mset_n2 (by omega), g3 2 (by omega)]
        · rw [mset_eq, hS1.1.2.1]
        · rw [fr 3 (by omega), g3 3 (by omega)]
        · rw [fr 4 (by omega), g3 4 (by omega)]
        · intro s hs
          rw [fr _ (by omega), g3 _ (by omega)]
        · intro i hi
          rw [fr _ (by omega), g3 _ (by omega)]
          exact g2 i hi
      · refine x5 ((hz5 20 (by omega)).mpr (fun i hi => ?_))
        rw [show 6 + 2 * m + 1 = 7 + 2 * m by omega, g2 i hi]
        exact w i hi
    · have hlt := bz_t hz3 (by omega)
      rw [if_pos (by omega)] at eF
      simp only [eF] at hP
      exact hP I (hiF_rf I) hS
  · exact hT.elim
theorem sp_X11_add : mm_Sp yX11_add cX11_add 4 (some .int) rm_X11_add T_X11_add := mm_meth (by decide) (by
  intro av σ Post h
  unfold T_X11_add at h
  split at h
  · simp
  · exact h.elim) (fun p l e s m args below meth c G av σ Post hC hr _ hav hin hk hT => pv_X11_add av σ Post hav hin hk hT _ (bk_X11_add hC hr))
