/-! the other program: pieces joined
-/
theorem sd_side {nb : Nat → Int} (h : b20 nb) {f v i : Nat} (hf : f < 12) (hv : v < 4) (hne : v ≠ f % 4) (hi : (i : Int) < ac nb (f / 4) (f % 4) v) : sdM nb f v i / 2 < 420 ∧ ((sdM nb f v i / 2 / 20 % 7 < 4 ∨ v = 0 ∨ (v : Int) = ((sdM nb f v i / 2 / 20 % 7 : Nat) : Int) - 3) ∧ sdM nb f v i = 2 * (sdM nb f v i / 2) ∨ ¬ (sdM nb f v i / 2 / 20 % 7 < 4 ∨ v = 0 ∨ (v : Int) = ((sdM nb f v i / 2 / 20 % 7 : Nat) : Int) - 3) ∧ sdM nb f v i = 2 * (sdM nb f v i / 2) + 1) := by
  have hr := (tg_tab v hv (f % 4) (by omega) hne).2
  have wf := wf_tab v hv (f % 4) (by omega) hne
  have h3 := h (7 * (f / 4) + v) (by omega)
  have h4 := h (7 * (f / 4) + tg v (f % 4)) (by omega)
  unfold ac at hi
  unfold sdM
  obtain ⟨q, hq⟩ : ∃ q, tg v (f % 4) = q := ⟨_, rfl⟩
  rw [hq] at hr wf h4 hi ⊢
  by_cases c : i < (nb (7 * (f / 4) + v)).toNat
  · rw [if_pos c]
    have e : 2 * (20 * (7 * (f / 4) + v) + i) / 2 / 20 % 7 = v := by omega
    rw [e]
    omega
  · rw [if_neg c]
    by_cases c2 : v = 0 ∨ f % 4 = 0
    · rw [if_pos c2]
      have e : 2 * (20 * (7 * (f / 4) + q) + (i - (nb (7 * (f / 4) + v)).toNat)) / 2 / 20 % 7 = q := by omega
      rw [e]
      omega
    · rw [if_neg c2]
      have e : (2 * (20 * (7 * (f / 4) + q) + (nb (7 * (f / 4) + q)).toNat - 1 - (i - (nb (7 * (f / 4) + v)).toNat)) + 1) / 2 / 20 % 7 = q := by omega
      rw [e]
      omega
def kI (pa wy nb : Nat → Int) (f v i : Nat) (L : L2) : L2 := (mg L.1 (sdM nb f v i / 2) (sdM nb (pa f).toNat ((acr pa wy f v).toNat % 4) i / 2), mg (mg L.2 (sdM nb f v i) (sdM nb (pa f).toNat ((acr pa wy f v).toNat % 4) i)) (sdM nb f v i ^^^ 1) (sdM nb (pa f).toNat ((acr pa wy f v).toNat % 4) i ^^^ 1))
def kV (pa wy nb : Nat → Int) (f v : Nat) (L : L2) : L2 := if 0 ≤ acr pa wy f v then fo (kI pa wy nb f v) (ac nb (f / 4) (f % 4) v).toNat L else L
def kF (pa wy nb : Nat → Int) (f : Nat) (L : L2) : L2 := if (f : Int) < pa f then fo (kV pa wy nb f) 4 L else L
def joi (n : Nat) (pa wy nb : Nat → Int) : L2 := fo (kF pa wy nb) (4 * n) (id, id)
def agJ (I : Nat → Nat → Int) (L : L2) : Prop := (∀ k, k < 420 → I 346 k = L.1 k ∧ L.1 k ≤ k) ∧ ∀ k, k < 840 → I 347 k = L.2 k ∧ L.2 k ≤ k
def T_X12_joinArcs : mm_T := fun av σ Post => match av with
  | [.inr (some a), .inl s, .inl x, .inl y] => σ.2 = mm_R0 ∧ a = 338 ∧ ∃ (o f v n : Nat) (L : L2), s = o ∧ x = f ∧ y = v ∧ o ≤ 2888 ∧ gM σ.1 n ∧ f < 4 * n ∧ v < 4 ∧ v ≠ f % 4 ∧ 0 ≤ MP σ.1 f ∧ b20 (MN σ.1 o) ∧ mc (MP σ.1) (MY σ.1) (MN σ.1 o) f v ∧ agJ σ.1 L ∧
    ∀ I' : Nat → Nat → Int, (∀ b, b < 346 → I' b = σ.1 b) → agJ I' (kV (MP σ.1) (MY σ.1) (MN σ.1 o) f v L) → Post none (I', mm_R0)
  | _ => False
def rm_X12_joinArcs : Room := { frames := 2, cells := 0, slots := 0, locals := 50 }
def b_X12_joinArcs_0 (Ok : Nat → mm_K) (Post : Option mm_V → mm_S → Prop) (kf : Nat) : mm_K := i_la 0 (i_gr 11 0 (i_c 2 (i_ld 2 (i_add (i_ial (i_st 4 (i_la 0 (i_ld 2 (i_ld 3 (i_cv 11 2 T_X12_goesTo (i_c 4 (i_rem (i_st 5 (i_la 0 (i_ld 1 (i_ld 2 (i_ld 3 (i_cv 11 3 T_X12_arcsOf (i_st 6 (i_c 0 (i_st 7 (Ok 32))))))))))))))))))))))
def b_X12_joinArcs_32 (Ok : Nat → mm_K) (Post : Option mm_V → mm_S → Prop) (kf : Nat) : mm_K := i_ld 7 (i_ld 6 (i_if2 (fun x y => y ≤ x) (i_vr Post kf) (i_la 0 (i_ld 1 (i_ld 2 (i_ld 3 (i_ld 7 (i_cv 11 4 T_X12_pieceAt (i_st 8 (i_la 0 (i_ld 1 (i_ld 4 (i_ld 5 (i_ld 7 (i_cv 11 4 T_X12_pieceAt (i_st 9 (i_ld 8 (i_ld 3 (i_cs 2 T_X12_sideTo (i_st 10 (i_ld 9 (i_ld 5 (i_cs 2 T_X12_sideTo (i_st 11 (i_la 0 (i_gr 11 11 (i_c 420 (i_ld 8 (i_ld 9 (i_cs 4 T_X12_alike (i_la 0 (i_gr 11 12 (i_c 840 (i_ld 10 (i_ld 11 (i_cs 4 T_X12_alike (i_la 0 (i_gr 11 12 (i_c 840 (i_ld 10 (i_c 1 (i_xor (i_ld 11 (i_c 1 (i_xor (i_cs 4 T_X12_alike (i_inc 7 1 (Ok 32))))))))))))))))))))))))))))))))))))))))))))))))
def clo_X12_joinArcs (Ok : Nat → mm_K) (Post : Option mm_V → mm_S → Prop) (kf : Nat) : Prop := mm_imp (b_X12_joinArcs_0 Ok Post kf) (Ok 0) ∧ mm_imp (b_X12_joinArcs_32 Ok Post kf) (Ok 32)
set_option maxRecDepth 100000 in
set_option maxHeartbeats 4000000 in
theorem bk_X12_joinArcs {p : Program} {l : Launch} {e : Env} {s : State} {m : MethodId} {args : Array Value} {below : List Frame} {meth : Method} {c : Code} {G : mm_G} {σ0 : mm_S} {Post : Option mm_V → mm_S → Prop} (hC : mm_C p G s m args meth c cX12_joinArcs yX12_joinArcs.cls) (hr : meth.sig.returnType = none) : clo_X12_joinArcs (mm_O p l e rm_X12_joinArcs s m args below meth c G σ0.2.2 (MQ below (mm_Qc G σ0 rm_X12_joinArcs.cells rm_X12_joinArcs.slots Post) args s rm_X12_joinArcs.cells rm_X12_joinArcs.slots (mm_A G))) Post σ0.2.2 := ⟨(by unfold b_X12_joinArcs_0; exact (mm_la_n hC dX12_joinArcs_0 rfl (mm_gr hC cl_11 (by decide) rfl wd_789 dX12_joinArcs_1 (mm_ic hC dX12_joinArcs_4 ⟨by decide, by decide⟩ (mm_ld_n hC dX12_joinArcs_5 rfl (mm_add hC dX12_joinArcs_6 (mm_ial hC dX12_joinArcs_7 (mm_st hC dX12_joinArcs_8 (mm_la_n hC dX12_joinArcs_10 rfl (mm_ld_n hC dX12_joinArcs_11 rfl (mm_ld_n hC dX12_joinArcs_12 rfl (mm_cv hC sp_X12_goesTo ⟨rfl, rfl⟩ cl_11 wd_857 wd_859 wd_26 wd_860 wd_77 ⟨by decide, by decide, by decide +kernel⟩ ⟨by decide, by decide⟩ dX12_joinArcs_13 (mm_ic hC dX12_joinArcs_16 ⟨by decide, by decide⟩ (mm_rem hC dX12_joinArcs_17 (mm_st hC dX12_joinArcs_18 (mm_la_n hC dX12_joinArcs_20 rfl (mm_ld_n hC dX12_joinArcs_21 rfl (mm_ld_n hC dX12_joinArcs_22 rfl (mm_ld_n hC dX12_joinArcs_23 rfl (mm_cv hC sp_X12_arcsOf ⟨rfl, rfl⟩ cl_11 wd_913 wd_915 wd_37 wd_916 wd_77 ⟨by decide, by decide, by decide +kernel⟩ ⟨by decide, by decide⟩ dX12_joinArcs_24 (mm_st hC dX12_joinArcs_27 (mm_ic hC dX12_joinArcs_29 ⟨by decide, by decide⟩ (mm_st hC dX12_joinArcs_30 (fun _ _ _ h => h)))))))))))))))))))))))), (by unfold b_X12_joinArcs_32; exact (mm_ld hC dX12_joinArcs_32 (mm_ld hC dX12_joinArcs_34 (mm_ic_ge hC (t := 132) dX12_joinArcs_36 (by decide) (mm_vr hC ⟨rfl, rfl⟩ hr dX12_joinArcs_132) (mm_la_n hC dX12_joinArcs_39 rfl (mm_ld_n hC dX12_joinArcs_40 rfl (mm_ld_n hC dX12_joinArcs_41 rfl (mm_ld_n hC dX12_joinArcs_42 rfl (mm_ld hC dX12_joinArcs_43 (mm_cv hC sp_X12_pieceAt ⟨rfl, rfl⟩ cl_11 wd_920 wd_922 wd_38 wd_923 wd_77 ⟨by decide, by decide, by decide +kernel⟩ ⟨by decide, by decide⟩ dX12_joinArcs_45 (mm_st hC dX12_joinArcs_48 (mm_la_n hC dX12_joinArcs_50 rfl (mm_ld_n hC dX12_joinArcs_51 rfl (mm_ld hC dX12_joinArcs_52 (mm_ld hC dX12_joinArcs_54 (mm_ld hC dX12_joinArcs_56 (mm_cv hC sp_X12_pieceAt ⟨rfl, rfl⟩ cl_11 wd_920 wd_922 wd_38 wd_923 wd_77 ⟨by decide, by decide, by decide +kernel⟩ ⟨by decide, by decide⟩ dX12_joinArcs_58 (mm_st hC dX12_joinArcs_61 (mm_ld hC dX12_joinArcs_63 (mm_ld_n hC dX12_joinArcs_65 rfl (mm_cs hC sp_X12_sideTo ⟨rfl, rfl⟩ wd_927 wd_928 wd_929 wd_77 ⟨by decide, by decide, by decide +kernel⟩ ⟨by decide, by decide⟩ dX12_joinArcs_66 (mm_st hC dX12_joinArcs_69 (mm_ld hC dX12_joinArcs_71 (mm_ld hC dX12_joinArcs_73 (mm_cs hC sp_X12_sideTo ⟨rfl, rfl⟩ wd_927 wd_928 wd_929 wd_77 ⟨by decide, by decide, by decide +kernel⟩ ⟨by decide, by decide⟩ dX12_joinArcs_75 (mm_st hC dX12_joinArcs_78 (mm_la_n hC dX12_joinArcs_80 rfl (mm_gr hC cl_11 (by decide) rfl wd_800 dX12_joinArcs_81 (mm_sp hC dX12_joinArcs_84 ⟨⟨by decide, by decide⟩, by decide⟩ (mm_ld hC dX12_joinArcs_87 (mm_ld hC dX12_joinArcs_89 (mm_cs hC sp_X12_alike ⟨rfl, rfl⟩ wd_864 wd_865 wd_866 wd_77 ⟨by decide, by decide, by decide +kernel⟩ ⟨by decide, by decide⟩ dX12_joinArcs_91 (mm_la_n hC dX12_joinArcs_94 rfl (mm_gr hC cl_11 (by decide) rfl wd_801 dX12_joinArcs_95 (mm_sp hC dX12_joinArcs_98 ⟨⟨by decide, by decide⟩, by decide⟩ (mm_ld hC dX12_joinArcs_101 (mm_ld hC dX12_joinArcs_103 (mm_cs hC sp_X12_alike ⟨rfl, rfl⟩ wd_864 wd_865 wd_866 wd_77 ⟨by decide, by decide, by decide +kernel⟩ ⟨by decide, by decide⟩ dX12_joinArcs_105 (mm_la_n hC dX12_joinArcs_108 rfl (mm_gr hC cl_11 (by decide) rfl wd_801 dX12_joinArcs_109 (mm_sp hC dX12_joinArcs_112 ⟨⟨by decide, by decide⟩, by decide⟩ (mm_ld hC dX12_joinArcs_115 (mm_ic hC dX12_joinArcs_117 ⟨by decide, by decide⟩ (mm_xor hC dX12_joinArcs_118 (mm_ld hC dX12_joinArcs_119 (mm_ic hC dX12_joinArcs_121 ⟨by decide, by decide⟩ (mm_xor hC dX12_joinArcs_122 (mm_cs hC sp_X12_alike ⟨rfl, rfl⟩ wd_864 wd_865 wd_866 wd_77 ⟨by decide, by decide, by decide +kernel⟩ ⟨by decide, by decide⟩ dX12_joinArcs_123 (mm_inc hC dX12_joinArcs_126 (mm_goto hC (t := 32) dX12_joinArcs_129 (by decide) (fun _ _ _ h => h)))))))))))))))))))))))))))))))))))))))))))))))))))⟩
set_option maxRecDepth 100000 in
set_option maxHeartbeats 8000000 in
theorem pv_X12_joinArcs : ∀ (av : List mm_V) (σ : mm_S) (Post : Option mm_V → mm_S → Prop), (∀ v ∈ av, mm_iv v) → (∀ a j, mm_in (σ.1 a j)) → σ.2.2 ≤ 348 → T_X12_joinArcs av σ Post → ∀ Ok : Nat → mm_K, clo_X12_joinArcs Ok Post σ.2.2 → Ok 0 (av ++ List.replicate (12 - av.length) (.inr none)) [] σ := by
  intro av σ Post hav hin hk hT Ok hcl
  obtain ⟨I, R0⟩ := σ
  unfold T_X12_joinArcs at hT
  split at hT
  · rename_i a s x y
    obtain ⟨h0, hT⟩ := hT
    have h0 : R0 = mm_R0 := h0
    subst h0
    dsimp only at hT hin
    obtain ⟨c0, c32⟩ := hcl
    obtain ⟨rfl, o, f, v, n, L, rfl, rfl, rfl, ho, ⟨hn, hn1, hn3, hg⟩, hf, hv, hne, hpf, hb, hmc, hag, hP⟩ := hT
    have w0 := m0
    have w1 := m1
    have w2 := m2
    obtain ⟨r0, r1, r2, r3, r4, r5, r6, r7, r8⟩ := Rs_338
    obtain ⟨s0, s1, s2, s3, s4, s5, s6, s7, s8, s9⟩ := sh_338
    obtain ⟨q1, q2, q3, q4, q5, q6, q7, q8⟩ : f < 4 * n ∧ 0 ≤ MP I f ∧ MP I f < 4 * n ∧ MP I f ≠ f ∧ MP I (MP I f).toNat = f ∧ 0 ≤ MY I f ∧ MY I f < 6 ∧ MY I (MP I f).toNat = mm_tb 1 (MY I f).toNat := by
      rcases hg f (by omega) with e | e
      · omega
      · exact e
    obtain ⟨p, hp⟩ := Int.eq_ofNat_of_zero_le q2
    obtain ⟨k, hk⟩ := Int.eq_ofNat_of_zero_le q6
    have hp' : I 339 (2 + f) = (p : Int) := hp
    have av := acN_b (o := p) (k := k) (f := f) (v := v) (by omega) (by omega) (by omega) hne
    have ea : acr (MP I) (MY I) f v = (acN p k f v : Int) := acr_N hp hk hne
    obtain ⟨V, hV⟩ : ∃ V, acN p k f v % 4 = V := ⟨_, rfl⟩
    obtain ⟨N, hN⟩ : ∃ N, (ac (MN I o) (f / 4) (f % 4) v).toNat = N := ⟨_, rfl⟩
    have hNb := ac_b (b20_bd hb) (b := f / 4) (f := f % 4) (v := v) (by omega) (by omega) hv
    have hmc2 : ac (MN I o) (f / 4) (f % 4) v = ac (MN I o) (p / 4) (p % 4) V := by
      unfold mc at hmc
      rw [hp, hk, Int.toNat_natCast, Int.toNat_natCast, hV] at hmc
      exact hmc
    have ek : kV (MP I) (MY I) (MN I o) f v L = fo (kI (MP I) (MY I) (MN I o) f v) N L := by
      unfold kV
      rw [if_pos (by rw [ea]; omega), hN]
    have eI : ∀ i M, kI (MP I) (MY I) (MN I o) f v i M = (mg M.1 (sdM (MN I o) f v i / 2) (sdM (MN I o) p V i / 2), mg (mg M.2 (sdM (MN I o) f v i) (sdM (MN I o) p V i)) (sdM (MN I o) f v i ^^^ 1) (sdM (MN I o) p V i ^^^ 1)) := by
      intro i M
      unfold kI
      rw [ea, hp, Int.toNat_natCast, Int.toNat_natCast, hV]
    rw [ek] at hP
    have eV : (acN p k f v : Int) % 4 = (V : Int) := by omega
    have loop : ∀ (d i : Nat) (I1 : Nat → Nat → Int), i + d = N → (∀ b, b < 346 → I1 b = I b) → agJ I1 (fo (kI (MP I) (MY I) (MN I o) f v) i L) → ∀ u8 u9 u10 u11 : mm_V, Ok 32 [.inr (some 338), .inl (o : Int), .inl (f : Int), .inl (v : Int), .inl (p : Int), .inl (V : Int), .inl (N : Int), .inl (i : Int), u8, u9, u10, u11] [] (I1, mm_R0) := by
      intro d
      induction d with
      | zero =>
        intro i I1 hd h1 h2 u8 u9 u10 u11
        refine c32 _ _ _ ?_
        simp only [b_X12_joinArcs_32, i_xorg, i_shl, i_shr, i_ior, i_and1, i_lcg1, i_lcg2, i_ld, i_la, i_st, i_sa, i_c, i_inc, i_add, i_sub, i_mul, i_div, i_rem, i_remT, i_xor, i_dup, i_dup2, i_if, i_if2, i_sw, i_gi, i_gr, i_pi, i_pz, i_ial, i_ias, i_len, i_aal, i_gs, i_tal, i_cv, i_cs, i_ir, i_zr, i_vr, i_min, i_max, i_cpy, List.getElem?_cons_zero, List.getElem?_cons_succ, List.set_cons_zero, List.set_cons_succ, List.length_cons, List.length_nil, List.drop_succ_cons, List.drop_zero, List.take_succ_cons, List.take_zero, List.reverse_cons, List.reverse_nil, List.nil_append, List.cons_append, Option.toList_some, Option.toList_none, true_and, and_true, true_or, or_true, Nat.reduceAdd, Nat.reduceLT, Nat.reduceLeDiff, Option.some.injEq, exists_eq_left', Int.toNat_natCast, Nat.reduceSub, List.append_nil, List.replicate_succ, List.replicate_zero, mm_in,]
        refine ⟨fun _ => hP I1 h1 ?_, fun q => by omega⟩
        rw [show i = N by omega] at h2
        exact h2
      | succ d ih =>
        intro i I1 hd h1 h2 u8 u9 u10 u11
        obtain ⟨M, hM⟩ : ∃ M, fo (kI (MP I) (MY I) (MN I o) f v) i L = M := ⟨_, rfl⟩
        rw [hM] at h2
        have eN : MN I1 o = MN I o := by funext j; unfold MN; rw [h1 339 (by omega)]
        have sA := sd_side hb (f := f) (v := v) (i := i) (by omega) hv hne (by omega)
        have sB := sd_side hb (f := p) (v := V) (i := i) (by omega) (by omega) (by omega) (by omega)
        obtain ⟨A, hA⟩ : ∃ A, sdM (MN I o) f v i = A := ⟨_, rfl⟩
        obtain ⟨B, hB⟩ : ∃ B, sdM (MN I o) p V i = B := ⟨_, rfl⟩
        rw [hA] at sA
        rw [hB] at sB
        refine c32 _ _ _ ?_
        simp only [b_X12_joinArcs_32, i_xorg, i_shl, i_shr, i_ior, i_and1, i_lcg1, i_lcg2, i_ld, i_la, i_st, i_sa, i_c, i_inc, i_add, i_sub, i_mul, i_div, i_rem, i_remT, i_xor, i_dup, i_dup2, i_if, i_if2, i_sw, i_gi, i_gr, i_pi, i_pz, i_ial, i_ias, i_len, i_aal, i_gs, i_tal, i_cv, i_cs, i_ir, i_zr, i_vr, i_min, i_max, i_cpy, List.getElem?_cons_zero, List.getElem?_cons_succ, List.set_cons_zero, List.set_cons_succ, List.length_cons, List.length_nil, List.drop_succ_cons, List.drop_zero, List.take_succ_cons, List.take_zero, List.reverse_cons, List.reverse_nil, List.nil_append, List.cons_append, Option.toList_some, Option.toList_none, true_and, and_true, true_or, or_true, Nat.reduceAdd, Nat.reduceLT, Nat.reduceLeDiff, Option.some.injEq, exists_eq_left', Int.toNat_natCast, Nat.reduceSub, List.append_nil, List.replicate_succ, List.replicate_zero, mm_in, w0, T_X12_pieceAt, T_X12_sideTo, r7]
        refine ⟨fun q => by omega, fun q => ⟨o, f, v, i, rfl, rfl, rfl, rfl, ho, by omega, hv, hne, by rw [eN]; exact hb, by rw [eN]; omega, ?_⟩⟩
        refine ⟨o, p, V, i, rfl, rfl, rfl, rfl, ho, by omega, by omega, by omega, by rw [eN]; exact hb, by rw [eN]; omega, ?_⟩
        rw [eN, hA, hB]
        refine ⟨A / 2, v, rfl, rfl, sA.1, hv, fun z1 hz1 => ⟨B / 2, V, rfl, rfl, sB.1, by omega, fun z2 hz2 => ?_⟩⟩
        have ez1 : z1 = (A : Int) := by omega
        have ez2 : z2 = (B : Int) := by omega
        rw [ez1, ez2]
        have xA := xor1 A (by omega)
        have xB := xor1 B (by omega)
        have bA : A ^^^ 1 < 840 := by rw [xA]; split <;> omega
        have bB : B ^^^ 1 < 840 := by rw [xB]; split <;> omega
        refine al_call s8 (by omega) h2.1 rfl rfl sA.1 sB.1 (fun I2 f1 f2 => ?_)
        have h3 := h2.2
        rw [← f1 347 (by omega)] at h3
        simp only [mm_in, w0, r8, i_xorg, i_shl, i_shr, i_ior, i_and1, i_lcg1, i_lcg2, i_ld, i_la, i_st, i_sa, i_c, i_inc, i_add, i_sub, i_mul, i_div, i_rem, i_remT, i_xor, i_dup, i_dup2, i_if, i_if2, i_sw, i_gi, i_gr, i_pi, i_pz, i_ial, i_ias, i_len, i_aal, i_gs, i_tal, i_cv, i_cs, i_ir, i_zr, i_vr, i_min, i_max, i_cpy, List.getElem?_cons_zero, List.getElem?_cons_succ, List.set_cons_zero, List.set_cons_succ, List.length_cons, List.length_nil, List.drop_succ_cons, List.drop_zero, List.take_succ_cons, List.take_zero, List.reverse_cons, List.reverse_nil, List.nil_append, List.cons_append, Option.toList_some, Option.toList_none, true_and, and_true, true_or, or_true, Nat.reduceAdd, Nat.reduceLT, Nat.reduceLeDiff, Option.some.injEq, exists_eq_left', Int.toNat_natCast, Nat.reduceSub, List.append_nil, List.replicate_succ, List.replicate_zero]
        refine al_call s9 (by omega) h3 rfl rfl (by omega) (by omega) (fun I3 f3 f4 => ?_)
        simp only [mm_in, w0, r8, Int.toNat_natCast, t1, i_xorg, i_shl, i_shr, i_ior, i_and1, i_lcg1, i_lcg2, i_ld, i_la, i_st, i_sa, i_c, i_inc, i_add, i_sub, i_mul, i_div, i_rem, i_remT, i_xor, i_dup, i_dup2, i_if, i_if2, i_sw, i_gi, i_gr, i_pi, i_pz, i_ial, i_ias, i_len, i_aal, i_gs, i_tal, i_cv, i_cs, i_ir, i_zr, i_vr, i_min, i_max, i_cpy, List.getElem?_cons_zero, List.getElem?_cons_succ, List.set_cons_zero, List.set_cons_succ, List.length_cons, List.length_nil, List.drop_succ_cons, List.drop_zero, List.take_succ_cons, List.take_zero, List.reverse_cons, List.reverse_nil, List.nil_append, List.cons_append, Option.toList_some, Option.toList_none, true_and, and_true, true_or, or_true, Nat.reduceAdd, Nat.reduceLT, Nat.reduceLeDiff, Option.some.injEq, exists_eq_left', Int.toNat_natCast, Nat.reduceSub, List.append_nil, List.replicate_succ, List.replicate_zero]
        refine ⟨⟨by omega, by omega⟩, ⟨by omega, by omega⟩, al_call s9 (by omega) f4 rfl rfl bA bB (fun I4 f5 f6 => ?_)⟩
        have := ih (i + 1) I4 (by omega) (fun b hb => by rw [f5 b (by omega), f3 b (by omega), f1 b (by omega)]; exact h1 b hb) (by
          show agJ I4 (kI (MP I) (MY I) (MN I o) f v i (fo (kI (MP I) (MY I) (MN I o) f v) i L))
          rw [hM, eI, hA, hB]
          refine ⟨?_, f6⟩
          rw [f5 346 (by omega), f3 346 (by omega)]
          exact f2) (.inl ((A / 2 : Nat) : Int)) (.inl ((B / 2 : Nat) : Int)) (.inl (A : Int)) (.inl (B : Int))
        rw [Int.natCast_add] at this
        simp only [mm_in, i_xorg, i_shl, i_shr, i_ior, i_and1, i_lcg1, i_lcg2, i_ld, i_la, i_st, i_sa, i_c, i_inc, i_add, i_sub, i_mul, i_div, i_rem, i_remT, i_xor, i_dup, i_dup2, i_if, i_if2, i_sw, i_gi, i_gr, i_pi, i_pz, i_ial, i_ias, i_len, i_aal, i_gs, i_tal, i_cv, i_cs, i_ir, i_zr, i_vr, i_min, i_max, i_cpy, List.getElem?_cons_zero, List.getElem?_cons_succ, List.set_cons_zero, List.set_cons_succ, List.length_cons, List.length_nil, List.drop_succ_cons, List.drop_zero, List.take_succ_cons, List.take_zero, List.reverse_cons, List.reverse_nil, List.nil_append, List.cons_append, Option.toList_some, Option.toList_none, true_and, and_true, true_or, or_true, Nat.reduceAdd, Nat.reduceLT, Nat.reduceLeDiff, Option.some.injEq, exists_eq_left', Int.toNat_natCast, Nat.reduceSub, List.append_nil, List.replicate_succ, List.replicate_zero]
        exact ⟨⟨by omega, by omega⟩, this⟩
    refine c0 _ _ _ ?_
    simp only [b_X12_joinArcs_0, i_xorg, i_shl, i_shr, i_ior, i_and1, i_lcg1, i_lcg2, i_ld, i_la, i_st, i_sa, i_c, i_inc, i_add, i_sub, i_mul, i_div, i_rem, i_remT, i_xor, i_dup, i_dup2, i_if, i_if2, i_sw, i_gi, i_gr, i_pi, i_pz, i_ial, i_ias, i_len, i_aal, i_gs, i_tal, i_cv, i_cs, i_ir, i_zr, i_vr, i_min, i_max, i_cpy, List.getElem?_cons_zero, List.getElem?_cons_succ, List.set_cons_zero, List.set_cons_succ, List.length_cons, List.length_nil, List.drop_succ_cons, List.drop_zero, List.take_succ_cons, List.take_zero, List.reverse_cons, List.reverse_nil, List.nil_append, List.cons_append, Option.toList_some, Option.toList_none, true_and, and_true, true_or, or_true, Nat.reduceAdd, Nat.reduceLT, Nat.reduceLeDiff, Option.some.injEq, exists_eq_left', Int.toNat_natCast, Nat.reduceSub, List.append_nil, List.replicate_succ, List.replicate_zero, mm_in, w0, w1, w2, t2, T_X12_goesTo, T_X12_arcsOf, hp']
    repeat' first | refine And.intro ?_ ?_ | refine fun (_ : _ ≤ _ ∧ _ < _) => ?_
    all_goals try omega
    refine ⟨f, v, p, k, rfl, rfl, by omega, hv, hne, hp', by omega, hk, by omega, ?_⟩
    rw [eV]
    repeat' first | refine And.intro ?_ ?_ | refine fun (_ : _ ≤ _ ∧ _ < _) => ?_
    all_goals try omega
    refine ⟨o, f, v, rfl, rfl, rfl, ho, by omega, hv, hne, b20_bd hb, ?_⟩
    have := loop N 0 I (by omega) (fun _ _ => rfl) hag (.inr none) (.inr none) (.inr none) (.inr none)
    rw [show (N : Int) = ac (MN I o) (f / 4) (f % 4) v by omega] at this
    exact this
  · exact hT.elim
theorem sp_X12_joinArcs : mm_Sp yX12_joinArcs cX12_joinArcs 12 none rm_X12_joinArcs T_X12_joinArcs := mm_meth (by decide) (by
  intro av σ Post h
  unfold T_X12_joinArcs at h
  split at h
  · simp
  · exact h.elim) (fun p l e s m args below meth c G av σ Post hC hr _ hav hin hk hT => pv_X12_joinArcs av σ Post hav hin hk hT _ (bk_X12_joinArcs hC hr))
