/-! PieceSurfaces: drift
-/
theorem tb1_inv : ∀ k, k < 6 → (0 ≤ mm_tb 1 k ∧ mm_tb 1 k < 6) ∧ mm_tb 1 (mm_tb 1 k).toNat = (k : Int) := by decide +kernel
theorem okW_glu {W : Nat → Int} {x y : Nat} {k : Int} (h : okW W) (hx : (x : Int) < 4 * W 0) (hy : (y : Int) < 4 * W 0) (hc : canG W x y) (k0 : 0 ≤ k) (k6 : k < 6) : okW (wGlu W x y k) := by
  obtain ⟨n, m, q1, q2, q3, q4, q5, hg, q7⟩ := h
  obtain ⟨c1, c2, c3⟩ := hc
  have hx12 : x < 12 := by omega
  have hy12 : y < 12 := by omega
  obtain ⟨K, hK⟩ := Int.eq_ofNat_of_zero_le k0
  subst hK
  obtain ⟨t1, t2⟩ := tb1_inv K (by omega)
  refine ⟨n, 0, by rw [wGlu_0]; exact q1, by rw [wGlu_1]; rfl, q3, q4, by omega, fun f hf => ?_, fun s hs => by omega⟩
  rw [pw_glu W x y K hf, ww_glu W K hx12 hy12]
  by_cases r : f = x
  · subst r
    rw [if_pos rfl, if_pos rfl]
    refine Or.inr ⟨by omega, by omega, by omega, by omega, ?_, by omega, by omega, ?_⟩
    · rw [Int.toNat_natCast, pw_glu W f y K hy12, if_neg (fun w => c1 w.symm), if_pos rfl]
    · rw [Int.toNat_natCast, ww_glu W K hx12 hy12, if_neg (fun w => c1 w.symm), if_pos rfl, Int.toNat_natCast]
  · rw [if_neg r, if_neg r]
    by_cases r2 : f = y
    · subst r2
      rw [if_pos rfl, if_pos rfl, Int.toNat_natCast]
      refine Or.inr ⟨by omega, by omega, by omega, by omega, ?_, t1.1, t1.2, ?_⟩
      · rw [pw_glu W x f K hx12, if_pos rfl]
      · rw [ww_glu W K hx12 hy12, if_pos rfl, Int.toNat_natCast, t2]
    · rw [if_neg r2, if_neg r2]
      rcases hg f hf with e | ⟨e1, e2, e3, e4, e5, e6, e7, e8⟩
      · exact Or.inl e
      · have h1 : (pw W f).toNat ≠ x := by
          intro w
          rw [w] at e5
          omega
        have h2 : (pw W f).toNat ≠ y := by
          intro w
          rw [w] at e5
          omega
        refine Or.inr ⟨e1, e2, e3, e4, ?_, e6, e7, ?_⟩
        · rw [pw_glu W x y K (by omega), if_neg h1, if_neg h2]
          exact e5
        · rw [ww_glu W K hx12 hy12, if_neg h1, if_neg h2]
          exact e8
theorem okS_m1 {S : Nat → Nat → Int} {v : Int} (ok : okS S) (h1 : 0 ≤ v) (h2 : v < 2147483648) : okS (upM S 1 v) := by
  obtain ⟨o1, o2, o3, o4, o5, o6, o7⟩ := ok
  refine ⟨by rw [upM_o _ _ _ (by omega)]; exact o1, fun t ht => ?_, by rw [upM_n _ _ _ (by omega)]; exact o3, by rw [upM_y]; exact ⟨h1, h2⟩, fun i hi => by rw [upM_n _ _ _ (by omega), upM_n _ _ _ (by omega), upM_o _ _ _ (by omega)]; exact o5 i hi, by rw [upM_n _ _ _ (by omega)]; exact o6, fun i hi => ?_⟩
  · rw [upM_n _ _ _ (by omega)] at ht
    by_cases q : 1 + t = 19
    · omega
    · rw [upM_o _ _ _ q]
      exact o2 t ht
  · rw [upM_n _ _ _ (by omega)] at hi
    rw [upM_o _ _ _ (by omega)]
    exact o7 i hi
theorem cSt_m1 {I I' S : Nat → Nat → Int} {v : Int} (h : cSt I S) (ok : okS S) (f : ∀ b, b ≠ 302 → (2 ≤ b ∧ b < 18) ∨ (41 ≤ b ∧ b < 338) → I' b = I b) (hv : I' 302 0 = v) : cSt I' (upM S 1 v) := by
  obtain ⟨a, ⟨nx, ct, b1, b2, b3, b4, b5, b6⟩, c, d, e, g⟩ := h
  obtain ⟨o1, o2, o3, o4, o5, o6, o7⟩ := ok
  refine ⟨by rw [upM_o _ _ _ (by omega)]; exact cW_fr a (okW_m o1) (fun b h1 h2 => f b (by omega) (by omega)), ⟨nx, ct, b1, b2, by rw [f 41 (by omega) (by omega)]; exact b3, by rw [f 41 (by omega) (by omega)]; exact b4, by rw [upM_n _ _ _ (by omega)]; exact b5, fun t ht => by rw [upM_o _ _ _ (by omega)]; exact cW_fr (b6 t ht) (okW_m (o2 t (by omega))) (fun b h1 h2 => f b (by omega) (by omega))⟩, by rw [upM_y]; exact hv, fun i hi => ?_, by rw [upM_n _ _ _ (by omega), f 299 (by omega) (by omega)]; exact e, fun i hi => ?_⟩
  · rw [f _ (by omega) (by omega), upM_n _ _ _ (by omega), upM_n _ _ _ (by omega), upM_o _ _ _ (by omega)]
    exact ⟨(d i hi).1, fun hk => ⟨((d i hi).2 hk).1, cW_fr ((d i hi).2 hk).2 (okW_m ((o5 i hi).2 hk).2) (fun b h1 h2 => f b (by omega) (by omega))⟩⟩
  · rw [upM_n _ _ _ (by omega)] at hi
    rw [f 300 (by omega) (by omega), f 301 (by omega) (by omega), upM_o _ _ _ (by omega), upM_o _ _ _ (by omega)]
    exact g i hi
/-- the k-th draw after x -/
def dr : Nat → Int → Int
  | 0, x => x
  | k + 1, x => lcg (dr k x)
def drX (n x : Int) : Nat := (4 * (dr 1 x / 65536 % n) + dr 2 x / 65536 % 4).toNat
def drY (n x : Int) : Nat := (4 * (dr 3 x / 65536 % n) + dr 4 x / 65536 % 4).toNat
def dOnce (S : Nat → Nat → Int) : Nat → Nat → Int := upM (if canG (S 0) (drX (S 0 0) (S 19 1)) (drY (S 0 0) (S 19 1)) then upW S (wGlu (S 0) (drX (S 0 0) (S 19 1)) (drY (S 0 0) (S 19 1)) (dr 5 (S 19 1) / 65536 % 6)) else S) 1 (dr 5 (S 19 1))
theorem dr_b (k : Nat) {x : Int} (h : 0 ≤ x ∧ x < 2147483648) : 0 ≤ dr k x ∧ dr k x < 2147483648 := by
  cases k with
  | zero => exact h
  | succ k => exact lcg_b _
theorem drX_b {n x : Int} (h1 : 1 ≤ n) : (drX n x : Int) < 4 * n ∧ (drY n x : Int) < 4 * n ∧ (drX n x : Int) = 4 * (dr 1 x / 65536 % n) + dr 2 x / 65536 % 4 ∧ (drY n x : Int) = 4 * (dr 3 x / 65536 % n) + dr 4 x / 65536 % 4 := by
  have e1 := Int.emod_nonneg (dr 1 x / 65536) (show n ≠ 0 by omega)
  have e2 := Int.emod_lt_of_pos (dr 1 x / 65536) (show 0 < n by omega)
  have e3 := Int.emod_nonneg (dr 3 x / 65536) (show n ≠ 0 by omega)
  have e4 := Int.emod_lt_of_pos (dr 3 x / 65536) (show 0 < n by omega)
  unfold drX drY
  omega
theorem okS_dOnce {S : Nat → Nat → Int} (ok : okS S) : okS (dOnce S) := by
  unfold dOnce
  obtain ⟨n, m, q1, q2, q3, q4, q5⟩ := id ok.1
  obtain ⟨b1, b2, b3, b4⟩ := drX_b (n := S 0 0) (x := S 19 1) (by omega)
  have b5 := dr_b 5 ok.2.2.2.1
  refine okS_m1 ?_ b5.1 b5.2
  split
  · rename_i hc
    exact okS_up ok (okW_glu ok.1 b1 b2 hc (by omega) (by omega))
  · exact ok
def T_X11_driftOnce : mm_T := fun av σ Post => match av with
  | [.inr (some a)] => σ.2 = mm_R0 ∧ a = 0 ∧ ∃ S, cSt σ.1 S ∧ okS S ∧ ∀ I', hiF I' σ.1 → cSt I' (dOnce S) → Post none (I', mm_R0)
  | _ => False
def rm_X11_driftOnce : Room := { frames := 1, cells := 0, slots := 0, locals := 23 }
def b_X11_driftOnce_0 (Ok : Nat → mm_K) (Post : Option mm_V → mm_S → Prop) (kf : Nat) : mm_K := i_la 0 (i_gr 10 5 (i_la 0 (i_gr 10 0 (i_gi 9 0 (i_cv 2 1 T_X2_below (i_st 1 (i_la 0 (i_gr 10 5 (i_c 4 (i_cv 2 1 T_X2_below (i_st 2 (i_la 0 (i_gr 10 5 (i_la 0 (i_gr 10 0 (i_gi 9 0 (i_cv 2 1 T_X2_below (i_st 3 (i_la 0 (i_gr 10 5 (i_c 4 (i_cv 2 1 T_X2_below (i_st 4 (i_la 0 (i_gr 10 5 (i_c 6 (i_cv 2 1 T_X2_below (i_st 5 (i_la 0 (i_gr 10 0 (i_c 4 (i_ld 1 (i_mul (i_ld 2 (i_add (i_c 4 (i_ld 3 (i_mul (i_ld 4 (i_add (i_cv 9 2 T_X10_canFasten (i_if (fun x => x = 0) (Ok 101) (i_la 0 (i_gr 10 0 (i_c 4 (i_ld 1 (i_mul (i_ld 2 (i_add (i_c 4 (i_ld 3 (i_mul (i_ld 4 (i_add (i_ld 5 (i_cv 9 3 T_X10_fasten (Ok 101)))))))))))))))))))))))))))))))))))))))))))))))))))))))))
def b_X11_driftOnce_101 (Ok : Nat → mm_K) (Post : Option mm_V → mm_S → Prop) (kf : Nat) : mm_K := i_vr Post kf
def clo_X11_driftOnce (Ok : Nat → mm_K) (Post : Option mm_V → mm_S → Prop) (kf : Nat) : Prop := mm_imp (b_X11_driftOnce_0 Ok Post kf) (Ok 0) ∧ mm_imp (b_X11_driftOnce_101 Ok Post kf) (Ok 101)
set_option maxRecDepth 100000 in
set_option maxHeartbeats 4000000 in
theorem bk_X11_driftOnce {p : Program} {l : Launch} {e : Env} {s : State} {m : MethodId} {args : Array Value} {below : List Frame} {meth : Method} {c : Code} {G : mm_G} {σ0 : mm_S} {Post : Option mm_V → mm_S → Prop} (hC : mm_C p G s m args meth c cX11_driftOnce yX11_driftOnce.cls) (hr : meth.sig.returnType = none) : clo_X11_driftOnce (mm_O p l e rm_X11_driftOnce s m args below meth c G σ0.2.2 (MQ below (mm_Qc G σ0 rm_X11_driftOnce.cells rm_X11_driftOnce.slots Post) args s rm_X11_driftOnce.cells rm_X11_driftOnce.slots (mm_A G))) Post σ0.2.2 := ⟨(by unfold b_X11_driftOnce_0; exact (mm_la_n hC dX11_driftOnce_0 rfl (mm_gr hC cl_10 (by decide) rfl wd_332 dX11_driftOnce_1 (mm_la_n hC dX11_driftOnce_4 rfl (mm_gr hC cl_10 (by decide) rfl wd_327 dX11_driftOnce_5 (mm_gi hC cl_9 (by decide) rfl wd_121 dX11_driftOnce_8 (mm_cv hC sp_X2_below ⟨rfl, rfl⟩ cl_2 wd_719 wd_720 wd_721 wd_722 wd_75 ⟨by decide, by decide, by decide +kernel⟩ ⟨by decide, by decide⟩ dX11_driftOnce_11 (mm_st_n hC dX11_driftOnce_14 rfl (mm_la_n hC dX11_driftOnce_15 rfl (mm_gr hC cl_10 (by decide) rfl wd_332 dX11_driftOnce_16 (mm_ic hC dX11_driftOnce_19 ⟨by decide, by decide⟩ (mm_cv hC sp_X2_below ⟨rfl, rfl⟩ cl_2 wd_719 wd_720 wd_721 wd_722 wd_75 ⟨by decide, by decide, by decide +kernel⟩ ⟨by decide, by decide⟩ dX11_driftOnce_20 (mm_st_n hC dX11_driftOnce_23 rfl (mm_la_n hC dX11_driftOnce_24 rfl (mm_gr hC cl_10 (by decide) rfl wd_332 dX11_driftOnce_25 (mm_la_n hC dX11_driftOnce_28 rfl (mm_gr hC cl_10 (by decide) rfl wd_327 dX11_driftOnce_29 (mm_gi hC cl_9 (by decide) rfl wd_121 dX11_driftOnce_32 (mm_cv hC sp_X2_below ⟨rfl, rfl⟩ cl_2 wd_719 wd_720 wd_721 wd_722 wd_75 ⟨by decide, by decide, by decide +kernel⟩ ⟨by decide, by decide⟩ dX11_driftOnce_35 (mm_st_n hC dX11_driftOnce_38 rfl (mm_la_n hC dX11_driftOnce_39 rfl (mm_gr hC cl_10 (by decide) rfl wd_332 dX11_driftOnce_40 (mm_ic hC dX11_driftOnce_43 ⟨by decide, by decide⟩ (mm_cv hC sp_X2_below ⟨rfl, rfl⟩ cl_2 wd_719 wd_720 wd_721 wd_722 wd_75 ⟨by decide, by decide, by decide +kernel⟩ ⟨by decide, by decide⟩ dX11_driftOnce_44 (mm_st hC dX11_driftOnce_47 (mm_la_n hC dX11_driftOnce_49 rfl (mm_gr hC cl_10 (by decide) rfl wd_332 dX11_driftOnce_50 (mm_bp hC dX11_driftOnce_53 ⟨⟨by decide, by decide⟩, by decide⟩ (mm_cv hC sp_X2_below ⟨rfl, rfl⟩ cl_2 wd_719 wd_720 wd_721 wd_722 wd_75 ⟨by decide, by decide, by decide +kernel⟩ ⟨by decide, by decide⟩ dX11_driftOnce_55 (mm_st hC dX11_driftOnce_58 (mm_la_n hC dX11_driftOnce_60 rfl (mm_gr hC cl_10 (by decide) rfl wd_327 dX11_driftOnce_61 (mm_ic hC dX11_driftOnce_64 ⟨by decide, by decide⟩ (mm_ld_n hC dX11_driftOnce_65 rfl (mm_mul hC dX11_driftOnce_66 (mm_ld_n hC dX11_driftOnce_67 rfl (mm_add hC dX11_driftOnce_68 (mm_ic hC dX11_driftOnce_69 ⟨by decide, by decide⟩ (mm_ld_n hC dX11_driftOnce_70 rfl (mm_mul hC dX11_driftOnce_71 (mm_ld hC dX11_driftOnce_72 (mm_add hC dX11_driftOnce_74 (mm_cv hC sp_X10_canFasten ⟨rfl, rfl⟩ cl_9 wd_646 wd_647 wd_648 wd_649 wd_67 ⟨by decide, by decide, by decide +kernel⟩ ⟨by decide, by decide⟩ dX11_driftOnce_75 (mm_if_eq hC (t := 101) dX11_driftOnce_78 (by decide) (fun _ _ _ h => h) (mm_la_n hC dX11_driftOnce_81 rfl (mm_gr hC cl_10 (by decide) rfl wd_327 dX11_driftOnce_82 (mm_ic hC dX11_driftOnce_85 ⟨by decide, by decide⟩ (mm_ld_n hC dX11_driftOnce_86 rfl (mm_mul hC dX11_driftOnce_87 (mm_ld_n hC dX11_driftOnce_88 rfl (mm_add hC dX11_driftOnce_89 (mm_ic hC dX11_driftOnce_90 ⟨by decide, by decide⟩ (mm_ld_n hC dX11_driftOnce_91 rfl (mm_mul hC dX11_driftOnce_92 (mm_ld hC dX11_driftOnce_93 (mm_add hC dX11_driftOnce_95 (mm_ld hC dX11_driftOnce_96 (mm_cv hC sp_X10_fasten ⟨rfl, rfl⟩ cl_9 wd_651 wd_652 wd_653 wd_654 wd_67 ⟨by decide, by decide, by decide +kernel⟩ ⟨by decide, by decide⟩ dX11_driftOnce_98 (fun _ _ _ h => h))))))))))))))))))))))))))))))))))))))))))))))))))))))))))), (by unfold b_X11_driftOnce_101; exact (mm_vr hC ⟨rfl, rfl⟩ hr dX11_driftOnce_101))⟩
set_option maxRecDepth 100000 in
set_option maxHeartbeats 8000000 in
theorem pv_X11_driftOnce : ∀ (av : List mm_V) (σ : mm_S) (Post : Option mm_V → mm_S → Prop), (∀ v ∈ av, mm_iv v) → (∀ a j, mm_in (σ.1 a j)) → σ.2.2 ≤ 348 → T_X11_driftOnce av σ Post → ∀ Ok : Nat → mm_K, clo_X11_driftOnce Ok Post σ.2.2 → Ok 0 (av ++ List.replicate (6 - av.length) (.inr none)) [] σ := by
  intro av σ Post hav hin hk hT Ok hcl
  obtain ⟨I, R0⟩ := σ
  unfold T_X11_driftOnce at hT
  split at hT
  · rename_i a
    obtain ⟨h0, hT⟩ := hT
    have h0 : R0 = mm_R0 := h0
    subst h0
    dsimp only at hT hin
    obtain ⟨c0, c101⟩ := hcl
    obtain ⟨rfl, S, hS, ok, hP⟩ := hT
    obtain ⟨k0, k1, k2, k3, k4, k5, k6, k7⟩ := sh_0
    obtain ⟨w1, w2, w3, w4, w5, w6⟩ := Rs_2
    have c6 := sh_299.2.2.2.2.2.1
    obtain ⟨n, hn, ⟨hn0, hn1, hn3, hgk⟩, hsh, hbk⟩ := cSt_gw hS ok
    have hx := ok.2.2.2.1
    have hx0 : I 302 0 = S 19 1 := hS.2.2.1
    obtain ⟨x, hxe⟩ : ∃ x, S 19 1 = x := ⟨_, rfl⟩
    rw [hxe] at hx hx0
    have d1 := dr_b 1 hx
    have d2 := dr_b 2 hx
    have d3 := dr_b 3 hx
    have d4 := dr_b 4 hx
    have d5 := dr_b 5 hx
    obtain ⟨b1, b2, b3, b4⟩ := drX_b (n := (n : Int)) (x := x) (by omega)
    have m1 := Int.emod_nonneg (dr 1 x / 65536) (show (n : Int) ≠ 0 by omega)
    have m2 := Int.emod_lt_of_pos (dr 1 x / 65536) (show 0 < (n : Int) by omega)
    have m3 := Int.emod_nonneg (dr 3 x / 65536) (show (n : Int) ≠ 0 by omega)
    have m4 := Int.emod_lt_of_pos (dr 3 x / 65536) (show 0 < (n : Int) by omega)
    have l1 : lcg x = dr 1 x := rfl
    have l2 : lcg (dr 1 x) = dr 2 x := rfl
    have l3 : lcg (dr 2 x) = dr 3 x := rfl
    have l4 : lcg (dr 3 x) = dr 4 x := rfl
    have l5 : lcg (dr 4 x) = dr 5 x := rfl
    have r0 : ∀ (J : Nat → Nat → Int) (v : Int) (i : Nat), mm_set J 302 0 v 2 i = J 2 i := fun J v i => by rw [mset_ne (by omega)]
    refine c0 _ _ _ ?_
    simp only [b_X11_driftOnce_0, i_xorg, i_shl, i_shr, i_ior, i_and1, i_lcg1, i_lcg2, i_ld, i_la, i_st, i_sa, i_c, i_inc, i_add, i_sub, i_mul, i_div, i_rem, i_remT, i_xor, i_dup, i_dup2, i_if, i_if2, i_sw, i_gi, i_gr, i_pi, i_pz, i_ial, i_ias, i_len, i_aal, i_gs, i_tal, i_cv, i_cs, i_ir, i_zr, i_vr, i_min, i_max, i_cpy, List.getElem?_cons_zero, List.getElem?_cons_succ, List.set_cons_zero, List.set_cons_succ, List.length_cons, List.length_nil, List.drop_succ_cons, List.drop_zero, List.take_succ_cons, List.take_zero, List.reverse_cons, List.reverse_nil, List.nil_append, List.cons_append, Option.toList_some, Option.toList_none, true_and, and_true, true_or, or_true, Nat.reduceAdd, Nat.reduceLT, Nat.reduceLeDiff, Option.some.injEq, exists_eq_left', Int.toNat_natCast, Nat.reduceSub, List.append_nil, List.replicate_succ, List.replicate_zero, mm_in, k0, k1, k6, c6, w4, T_X2_below, mset_eq, r0, hn0, hx0, l1, l2, l3, l4, l5, T_X10_canFasten]
    have e : dOnce S = upM (if canG (S 0) (drX n x) (drY n x) then upW S (wGlu (S 0) (drX n x) (drY n x) (dr 5 x / 65536 % 6)) else S) 1 (dr 5 x) := by unfold dOnce; rw [hxe, hn]
    simp only [e] at hP
    obtain ⟨X, hX⟩ : ∃ X, drX (n : Int) x = X := ⟨_, rfl⟩
    obtain ⟨Y, hY⟩ : ∃ Y, drY (n : Int) x = Y := ⟨_, rfl⟩
    rw [hX, hY] at hP
    rw [hX] at b1 b3
    rw [hY] at b2 b4
    have hX12 : X < 12 := by omega
    have hY12 : Y < 12 := by omega
    repeat' first | refine And.intro ?_ ?_ | refine fun (_ : _ ≤ _ ∧ _ < _) => ?_
    all_goals try omega
    obtain ⟨I1, hI1⟩ : ∃ I1, mm_set (mm_set (mm_set (mm_set (mm_set I 302 0 (dr 1 x)) 302 0 (dr 2 x)) 302 0 (dr 3 x)) 302 0 (dr 4 x)) 302 0 (dr 5 x) = I1 := ⟨_, rfl⟩
    have fr : ∀ b, b ≠ 302 → I1 b = I b := fun b hb => by rw [← hI1, mset_ne hb, mset_ne hb, mset_ne hb, mset_ne hb, mset_ne hb]
    have f5 : I1 302 0 = dr 5 x := by rw [← hI1, mset_eq]
    rw [hI1]
    have hpX : I1 3 X = pw (S 0) X := by rw [fr 3 (by omega)]; exact hS.1.2.2.1 X hX12
    have hpY : I1 3 Y = pw (S 0) Y := by rw [fr 3 (by omega)]; exact hS.1.2.2.1 Y hY12
    have fin : ∀ I2 : Nat → Nat → Int, hiF I2 I → cSt I2 (upM (if canG (S 0) X Y then upW S (wGlu (S 0) X Y (dr 5 x / 65536 % 6)) else S) 1 (dr 5 x)) → Ok 101 [.inr (some 0), .inl (dr 1 x / 65536 % n), .inl (dr 2 x / 65536 % 4), .inl (dr 3 x / 65536 % n), .inl (dr 4 x / 65536 % 4), .inl (dr 5 x / 65536 % 6)] [] (I2, mm_R0) := by
      intro I2 h1 h2
      refine c101 _ _ _ ?_
      simp only [b_X11_driftOnce_101, i_xorg, i_shl, i_shr, i_ior, i_and1, i_lcg1, i_lcg2, i_ld, i_la, i_st, i_sa, i_c, i_inc, i_add, i_sub, i_mul, i_div, i_rem, i_remT, i_xor, i_dup, i_dup2, i_if, i_if2, i_sw, i_gi, i_gr, i_pi, i_pz, i_ial, i_ias, i_len, i_aal, i_gs, i_tal, i_cv, i_cs, i_ir, i_zr, i_vr, i_min, i_max, i_cpy, List.getElem?_cons_zero, List.getElem?_cons_succ, List.set_cons_zero, List.set_cons_succ, List.length_cons, List.length_nil, List.drop_succ_cons, List.drop_zero, List.take_succ_cons, List.take_zero, List.reverse_cons, List.reverse_nil, List.nil_append, List.cons_append, Option.toList_some, Option.toList_none, true_and, and_true, true_or, or_true, Nat.reduceAdd, Nat.reduceLT, Nat.reduceLeDiff, Option.some.injEq, exists_eq_left', Int.toNat_natCast, Nat.reduceSub, List.append_nil, List.replicate_succ, List.replicate_zero]
      exact hP I2 h1 h2
    refine ⟨X, Y, b3.symm, b4.symm, hX12, hY12, fun z hz => ?_⟩
    rw [hpX, hpY] at hz
    refine ⟨fun y => fin I1 (fun b hb => fr b (by omega)) ?_, fun y => ?_⟩
    · rw [if_neg (bz_f hz y)]
      exact cSt_m1 hS ok (fun b hb _ => fr b hb) f5
    · have hc := bz_t hz y
      rw [if_pos hc] at fin
      simp only [T_X10_fasten, i_xorg, i_shl, i_shr, i_ior, i_and1, i_lcg1, i_lcg2, i_ld, i_la, i_st, i_sa, i_c, i_inc, i_add, i_sub, i_mul, i_div, i_rem, i_remT, i_xor, i_dup, i_dup2, i_if, i_if2, i_sw, i_gi, i_gr, i_pi, i_pz, i_ial, i_ias, i_len, i_aal, i_gs, i_tal, i_cv, i_cs, i_ir, i_zr, i_vr, i_min, i_max, i_cpy, List.getElem?_cons_zero, List.getElem?_cons_succ, List.set_cons_zero, List.set_cons_succ, List.length_cons, List.length_nil, List.drop_succ_cons, List.drop_zero, List.take_succ_cons, List.take_zero, List.reverse_cons, List.reverse_nil, List.nil_append, List.cons_append, Option.toList_some, Option.toList_none, true_and, and_true, true_or, or_true, Nat.reduceAdd, Nat.reduceLT, Nat.reduceLeDiff, Option.some.injEq, exists_eq_left', Int.toNat_natCast, Nat.reduceSub, List.append_nil, List.replicate_succ, List.replicate_zero]
      obtain ⟨K, hK⟩ := Int.eq_ofNat_of_zero_le (show 0 ≤ dr 5 x / 65536 % 6 by omega)
      repeat' first | refine And.intro ?_ ?_ | refine fun (_ : _ ≤ _ ∧ _ < _) => ?_
      all_goals try omega
      refine ⟨X, Y, K, b3.symm, b4.symm, hK, hX12, hY12, by omega, hc.1, fun I2 g1 g2 g3 g4 g5 => ?_⟩
      refine fin I2 (fun b hb => by rw [g1 b (by omega) (by omega) (by omega)]; exact fr b (by omega)) ?_
      have hcw : cW I2 2 (wGlu (S 0) X Y (dr 5 x / 65536 % 6)) := by
        rw [hK]
        exact cW_glu (I := I) (I2 := I2) hX12 hY12 hc.1 hS.1 (by rw [g2, fr 2 (by omega)]) g3 (fun j => by rw [← fr 3 (by omega)]; exact g4 j) (fun j => by rw [← fr 4 (by omega)]; exact g5 j)
      have hK1 := cSt_m1 (v := dr 5 x) (I' := I1) hS ok (fun b hb _ => fr b hb) f5
      have ok1 := okS_m1 (v := dr 5 x) ok d5.1 d5.2
      have := cSt_up (I' := I2) hK1 ok1 (fun b hb => g1 b (by omega) (by omega) (by omega)) hcw
      have eq : upW (upM S 1 (dr 5 x)) (wGlu (S 0) X Y (dr 5 x / 65536 % 6)) = upM (upW S (wGlu (S 0) X Y (dr 5 x / 65536 % 6))) 1 (dr 5 x) := by
        funext c i
        unfold upW upM
        by_cases q : c = 0
        · rw [if_pos q, if_neg (by omega)]
          exact (congrFun (if_pos q) i).symm
        · rw [if_neg q]
          by_cases r : c = 19 ∧ i = 1
          · rw [if_pos r, if_pos r]
          · rw [if_neg r, if_neg r]
            exact (congrFun (if_neg q) i).symm
      rw [eq] at this
      exact this
  · exact hT.elim
theorem sp_X11_driftOnce : mm_Sp yX11_driftOnce cX11_driftOnce 6 none rm_X11_driftOnce T_X11_driftOnce := mm_meth (by decide) (by
  intro av σ Post h
  unfold T_X11_driftOnce at h
  split at h
  · simp
  · exact h.elim) (fun p l e s m args below meth c G av σ Post hC hr _ hav hin hk hT => pv_X11_driftOnce av σ Post hav hin hk hT _ (bk_X11_driftOnce hC hr))
def chS (S : Nat → Nat → Int) : Nat → Nat → Int := dOnce (recS S)
def itS : Nat → (Nat → Nat → Int) → Nat → Nat → Int
  | 0, S => S
  | k + 1, S => chS (itS k S)
theorem okS_it (k : Nat) {S : Nat → Nat → Int} (ok : okS S) : okS (itS k S) := by
  induction k with
  | zero => exact ok
  | succ k ih => exact okS_dOnce (okS_rec ih)
def driF (S : Nat → Nat → Int) (k : Int) : (Nat → Nat → Int) × Int := if ¬ (1 ≤ k ∧ k ≤ 12) then (S, -1000000002) else (itS k.toNat S, frn (pw (itS k.toNat S 0)) (4 * (itS k.toNat S 0 0).toNat))
def T_X11_drift : mm_T := fun av σ Post => match av with
  | [.inr (some a), .inl k] => dT (fun S => driF S k) a σ Post
  | _ => False
def rm_X11_drift : Room := { frames := 4, cells := 0, slots := 0, locals := 92 }
def b_X11_drift_0 (Ok : Nat → mm_K) (Post : Option mm_V → mm_S → Prop) (kf : Nat) : mm_K := i_ld 1 (i_c 1 (i_if2 (fun x y => x < y) (Ok 11) (i_ld 1 (i_c 12 (i_if2 (fun x y => x ≤ y) (i_c 0 (i_st 2 (Ok 16))) (Ok 11))))))
def b_X11_drift_11 (Ok : Nat → mm_K) (Post : Option mm_V → mm_S → Prop) (kf : Nat) : mm_K := i_c (-1000000002) (i_ir Post kf)
def b_X11_drift_16 (Ok : Nat → mm_K) (Post : Option mm_V → mm_S → Prop) (kf : Nat) : mm_K := i_ld 2 (i_ld 1 (i_if2 (fun x y => y ≤ x) (i_la 0 (i_gr 10 0 (i_cv 9 0 T_X10_freeFaces (i_ir Post kf)))) (i_la 0 (i_gr 10 3 (i_la 0 (i_gr 10 0 (i_cv 5 1 T_X5_record (i_la 0 (i_cv 10 0 T_X11_driftOnce (i_inc 2 1 (Ok 16)))))))))))
def clo_X11_drift (Ok : Nat → mm_K) (Post : Option mm_V → mm_S → Prop) (kf : Nat) : Prop := mm_imp (b_X11_drift_0 Ok Post kf) (Ok 0) ∧ mm_imp (b_X11_drift_11 Ok Post kf) (Ok 11) ∧ mm_imp (b_X11_drift_16 Ok Post kf) (Ok 16)
set_option maxRecDepth 100000 in
set_option maxHeartbeats 4000000 in
theorem bk_X11_drift {p : Program} {l : Launch} {e : Env} {s : State} {m : MethodId} {args : Array Value} {below : List Frame} {meth : Method} {c : Code} {G : mm_G} {σ0 : mm_S} {Post : Option mm_V → mm_S → Prop} (hC : mm_C p G s m args meth c cX11_drift yX11_drift.cls) (hr : meth.sig.returnType = some .int) : clo_X11_drift (mm_O p l e rm_X11_drift s m args below meth c G σ0.2.2 (MQ below (mm_Qc G σ0 rm_X11_drift.cells rm_X11_drift.slots Post) args s rm_X11_drift.cells rm_X11_drift.slots (mm_A G))) Post σ0.2.2 := ⟨(by unfold b_X11_drift_0; exact (mm_ld_n hC dX11_drift_0 rfl (mm_ic hC dX11_drift_1 ⟨by decide, by decide⟩ (mm_ic_lt hC (t := 11) dX11_drift_2 (by decide) (fun _ _ _ h => h) (mm_ld_n hC dX11_drift_5 rfl (mm_bp hC dX11_drift_6 ⟨⟨by decide, by decide⟩, by decide⟩ (mm_ic_le hC (t := 14) dX11_drift_8 (by decide) (mm_ic hC dX11_drift_14 ⟨by decide, by decide⟩ (mm_st_n hC dX11_drift_15 rfl (fun _ _ _ h => h))) (fun _ _ _ h => h)))))))), (by unfold b_X11_drift_11; exact (mm_ldc hC dX11_drift_11 ⟨by decide, by decide⟩ wd_361 (mm_ir hC ⟨rfl, rfl⟩ hr dX11_drift_13))), (by unfold b_X11_drift_16; exact (mm_ld_n hC dX11_drift_16 rfl (mm_ld_n hC dX11_drift_17 rfl (mm_ic_ge hC (t := 42) dX11_drift_18 (by decide) (mm_la_n hC dX11_drift_42 rfl (mm_gr hC cl_10 (by decide) rfl wd_327 dX11_drift_43 (mm_cv hC sp_X10_freeFaces ⟨rfl, rfl⟩ cl_9 wd_353 wd_354 wd_355 wd_356 wd_67 ⟨by decide, by decide, by decide +kernel⟩ ⟨by decide, by decide⟩ dX11_drift_46 (mm_ir hC ⟨rfl, rfl⟩ hr dX11_drift_49)))) (mm_la_n hC dX11_drift_21 rfl (mm_gr hC cl_10 (by decide) rfl wd_330 dX11_drift_22 (mm_la_n hC dX11_drift_25 rfl (mm_gr hC cl_10 (by decide) rfl wd_327 dX11_drift_26 (mm_cv hC sp_X5_record ⟨rfl, rfl⟩ cl_5 wd_621 wd_622 wd_623 wd_624 wd_73 ⟨by decide, by decide, by decide +kernel⟩ ⟨by decide, by decide⟩ dX11_drift_29 (mm_la_n hC dX11_drift_32 rfl (mm_cv hC sp_X11_driftOnce ⟨rfl, rfl⟩ cl_10 wd_715 wd_717 wd_17 wd_718 wd_65 ⟨by decide, by decide, by decide +kernel⟩ ⟨by decide, by decide⟩ dX11_drift_33 (mm_inc hC dX11_drift_36 (mm_goto hC (t := 16) dX11_drift_39 (by decide) (fun _ _ _ h => h))))))))))))))⟩
set_option maxRecDepth 100000 in
set_option maxHeartbeats 8000000 in
theorem pv_X11_drift : ∀ (av : List mm_V) (σ : mm_S) (Post : Option mm_V → mm_S → Prop), (∀ v ∈ av, mm_iv v) → (∀ a j, mm_in (σ.1 a j)) → σ.2.2 ≤ 348 → T_X11_drift av σ Post → ∀ Ok : Nat → mm_K, clo_X11_drift Ok Post σ.2.2 → Ok 0 (av ++ List.replicate (3 - av.length) (.inr none)) [] σ := by
  intro av σ Post hav hin hk hT Ok hcl
  obtain ⟨I, R0⟩ := σ
  unfold T_X11_drift at hT
  split at hT
  · rename_i a k
    obtain ⟨h0, hT⟩ := hT
    have h0 : R0 = mm_R0 := h0
    subst h0
    dsimp only at hT hin
    obtain ⟨c0, c11, c16⟩ := hcl
    obtain ⟨rfl, S, hS, ok, hP⟩ := hT
    obtain ⟨k0, k1, k2, k3, k4, k5, k6, k7⟩ := sh_0
    have w4 := sh_2
    have p5 := Rs_41
    have out : ¬ (1 ≤ k ∧ k ≤ 12) → ∀ u : mm_V, Ok 11 [.inr (some 0), .inl k, u] [] (I, mm_R0) := by
      intro h1 u
      refine c11 _ _ _ ?_
      simp only [b_X11_drift_11, i_xorg, i_shl, i_shr, i_ior, i_and1, i_lcg1, i_lcg2, i_ld, i_la, i_st, i_sa, i_c, i_inc, i_add, i_sub, i_mul, i_div, i_rem, i_remT, i_xor, i_dup, i_dup2, i_if, i_if2, i_sw, i_gi, i_gr, i_pi, i_pz, i_ial, i_ias, i_len, i_aal, i_gs, i_tal, i_cv, i_cs, i_ir, i_zr, i_vr, i_min, i_max, i_cpy, List.getElem?_cons_zero, List.getElem?_cons_succ, List.set_cons_zero, List.set_cons_succ, List.length_cons, List.length_nil, List.drop_succ_cons, List.drop_zero, List.take_succ_cons, List.take_zero, List.reverse_cons, List.reverse_nil, List.nil_append, List.cons_append, Option.toList_some, Option.toList_none, true_and, and_true, true_or, or_true, Nat.reduceAdd, Nat.reduceLT, Nat.reduceLeDiff, Option.some.injEq, exists_eq_left', Int.toNat_natCast, Nat.reduceSub, List.append_nil, List.replicate_succ, List.replicate_zero]
      have e : driF S k = (S, -1000000002) := if_pos h1
      simp only [e] at hP
      exact hP I (hiF_rf I) hS
    have loop : (1 ≤ k ∧ k ≤ 12) → ∀ (d t : Nat) (I1 : Nat → Nat → Int), t + d = k.toNat → hiF I1 I → cSt I1 (itS t S) → Ok 16 [.inr (some 0), .inl k, .inl (t : Int)] [] (I1, mm_R0) := by
      intro hk d
      induction d with
      | zero =>
        intro t I1 ht hh h1
        obtain ⟨n, hn, ⟨hn0, hn1, hn3, hgk⟩, hsh, hbk⟩ := cSt_gw h1 (okS_it t ok)
        refine c16 _ _ _ ?_
        simp only [b_X11_drift_16, i_xorg, i_shl, i_shr, i_ior, i_and1, i_lcg1, i_lcg2, i_ld, i_la, i_st, i_sa, i_c, i_inc, i_add, i_sub, i_mul, i_div, i_rem, i_remT, i_xor, i_dup, i_dup2, i_if, i_if2, i_sw, i_gi, i_gr, i_pi, i_pz, i_ial, i_ias, i_len, i_aal, i_gs, i_tal, i_cv, i_cs, i_ir, i_zr, i_vr, i_min, i_max, i_cpy, List.getElem?_cons_zero, List.getElem?_cons_succ, List.set_cons_zero, List.set_cons_succ, List.length_cons, List.length_nil, List.drop_succ_cons, List.drop_zero, List.take_succ_cons, List.take_zero, List.reverse_cons, List.reverse_nil, List.nil_append, List.cons_append, Option.toList_some, Option.toList_none, true_and, and_true, true_or, or_true, Nat.reduceAdd, Nat.reduceLT, Nat.reduceLeDiff, Option.some.injEq, exists_eq_left', Int.toNat_natCast, Nat.reduceSub, List.append_nil, List.replicate_succ, List.replicate_zero, mm_in, k0, k1, k4, p5, w4, T_X10_freeFaces]
        refine ⟨fun x => ⟨n, hn0, hn3, ?_⟩, fun x => by omega⟩
        have e : driF S k = (itS t S, frn (pw (itS t S 0)) (4 * n)) := by
          unfold driF
          rw [if_neg (fun w => w hk), show k.toNat = t by omega, hn, Int.toNat_natCast]
        simp only [e] at hP
        rw [frn_cg (q := pw (itS t S 0)) (fun j hj => h1.1.2.2.1 j (by omega))]
        exact hP I1 hh h1
      | succ d ih =>
        intro t I1 ht hh h1
        refine c16 _ _ _ ?_
        simp only [b_X11_drift_16, i_xorg, i_shl, i_shr, i_ior, i_and1, i_lcg1, i_lcg2, i_ld, i_la, i_st, i_sa, i_c, i_inc, i_add, i_sub, i_mul, i_div, i_rem, i_remT, i_xor, i_dup, i_dup2, i_if, i_if2, i_sw, i_gi, i_gr, i_pi, i_pz, i_ial, i_ias, i_len, i_aal, i_gs, i_tal, i_cv, i_cs, i_ir, i_zr, i_vr, i_min, i_max, i_cpy, List.getElem?_cons_zero, List.getElem?_cons_succ, List.set_cons_zero, List.set_cons_succ, List.length_cons, List.length_nil, List.drop_succ_cons, List.drop_zero, List.take_succ_cons, List.take_zero, List.reverse_cons, List.reverse_nil, List.nil_append, List.cons_append, Option.toList_some, Option.toList_none, true_and, and_true, true_or, or_true, Nat.reduceAdd, Nat.reduceLT, Nat.reduceLeDiff, Option.some.injEq, exists_eq_left', Int.toNat_natCast, Nat.reduceSub, List.append_nil, List.replicate_succ, List.replicate_zero, mm_in, k0, k1, k4, p5, w4]
        refine ⟨fun x => by omega, fun x => recall h1 (okS_it t ok) (fun I2 f1 f2 f3 f4 h2 => ?_)⟩
        simp only [mm_in, k0, T_X11_driftOnce, i_xorg, i_shl, i_shr, i_ior, i_and1, i_lcg1, i_lcg2, i_ld, i_la, i_st, i_sa, i_c, i_inc, i_add, i_sub, i_mul, i_div, i_rem, i_remT, i_xor, i_dup, i_dup2, i_if, i_if2, i_sw, i_gi, i_gr, i_pi, i_pz, i_ial, i_ias, i_len, i_aal, i_gs, i_tal, i_cv, i_cs, i_ir, i_zr, i_vr, i_min, i_max, i_cpy, List.getElem?_cons_zero, List.getElem?_cons_succ, List.set_cons_zero, List.set_cons_succ, List.length_cons, List.length_nil, List.drop_succ_cons, List.drop_zero, List.take_succ_cons, List.take_zero, List.reverse_cons, List.reverse_nil, List.nil_append, List.cons_append, Option.toList_some, Option.toList_none, true_and, and_true, true_or, or_true, Nat.reduceAdd, Nat.reduceLT, Nat.reduceLeDiff, Option.some.injEq, exists_eq_left', Int.toNat_natCast, Nat.reduceSub, List.append_nil, List.replicate_succ, List.replicate_zero]
        refine ⟨recS (itS t S), h2, okS_rec (okS_it t ok), fun I3 f5 h3 => ?_⟩
        repeat' first | refine And.intro ?_ ?_ | refine fun (_ : _ ≤ _ ∧ _ < _) => ?_
        all_goals try omega
        have := ih (t + 1) I3 (by omega) (fun b hb => by rw [f5 b hb, f1 b hb, hh b hb]) h3
        rw [Int.natCast_add] at this
        exact this
    refine c0 _ _ _ ?_
    simp only [b_X11_drift_0, i_xorg, i_shl, i_shr, i_ior, i_and1, i_lcg1, i_lcg2, i_ld, i_la, i_st, i_sa, i_c, i_inc, i_add, i_sub, i_mul, i_div, i_rem, i_remT, i_xor, i_dup, i_dup2, i_if, i_if2, i_sw, i_gi, i_gr, i_pi, i_pz, i_ial, i_ias, i_len, i_aal, i_gs, i_tal, i_cv, i_cs, i_ir, i_zr, i_vr, i_min, i_max, i_cpy, List.getElem?_cons_zero, List.getElem?_cons_succ, List.set_cons_zero, List.set_cons_succ, List.length_cons, List.length_nil, List.drop_succ_cons, List.drop_zero, List.take_succ_cons, List.take_zero, List.reverse_cons, List.reverse_nil, List.nil_append, List.cons_append, Option.toList_some, Option.toList_none, true_and, and_true, true_or, or_true, Nat.reduceAdd, Nat.reduceLT, Nat.reduceLeDiff, Option.some.injEq, exists_eq_left', Int.toNat_natCast, Nat.reduceSub, List.append_nil, List.replicate_succ, List.replicate_zero, mm_in,]
    refine ⟨fun x => out (by omega) _, fun x => ⟨fun x2 => ?_, fun x2 => out (by omega) _⟩⟩
    exact loop (by omega) k.toNat 0 I (by omega) (hiF_rf I) hS
  · exact hT.elim
theorem sp_X11_drift : mm_Sp yX11_drift cX11_drift 3 (some .int) rm_X11_drift T_X11_drift := mm_meth (by decide) (by
  intro av σ Post h
  unfold T_X11_drift at h
  split at h
  · simp
  · exact h.elim) (fun p l e s m args below meth c G av σ Post hC hr _ hav hin hk hT => pv_X11_drift av σ Post hav hin hk hT _ (bk_X11_drift hC hr))
