/-! constructors: Classes, Matching, Book, Dice
-/
theorem acc_endB {a' k cn : Nat} {X : Nat → Prop} {A B : Nat → Nat → Int} {R S : Nat → Nat → Option Nat} (h' : acc a' X k A B R S) (hX : ∀ b', a' < b' → b' < a' + cn → ¬ X b') (hk : k = a' + cn) (h0 : ∀ j, ini a' j = 0) (hr : ∀ j, rel a' j → S a' j = mm_Rs a' j) : (∀ b', b' < a' → B b' = A b' ∧ S b' = R b') ∧ ∀ b', a' ≤ b' → b' < a' + cn → dn (B, S, a' + cn) b' := acc_end (τ := (B, S, a' + cn)) h' hX hk h0 hr
def T_X1_init (n : Nat) : mm_T := fun av σ Post => match av with
  | [.inr (some a'), .inl z] => z = n ∧ (mm_sh (a' + 1)).2 = n ∧ cT 1 2 a' σ Post
  | _ => False
def rm_X1_init (n : Nat) : Room := { frames := 1, cells := 1, slots := n, locals := 16 }
def b_X1_init_0 (n : Nat) (Ok : Nat → mm_K) (Post : Option mm_V → mm_S → Prop) (k0 kf : Nat) : mm_K := i_la 0 (i_oi (i_la 0 (i_ld 1 (i_newa k0 (rm_X1_init n).cells (rm_X1_init n).slots 100 (i_pr 1 0 (i_vr Post kf))))))
def clo_X1_init (n : Nat) (Ok : Nat → mm_K) (Post : Option mm_V → mm_S → Prop) (k0 kf : Nat) : Prop := mm_imp (b_X1_init_0 n Ok Post k0 kf) (Ok 0)
set_option maxRecDepth 100000 in
set_option maxHeartbeats 4000000 in
theorem bk_X1_init (n : Nat) {p : Program} {l : Launch} {e : Env} {s : State} {m : MethodId} {args : Array Value} {below : List Frame} {meth : Method} {c : Code} {G : mm_G} {σ0 : mm_S} {Post : Option mm_V → mm_S → Prop} {kf : Nat} (hC : mm_C p G s m args meth c cX1_init yX1_init.cls) (hX : mm_X s) (hr : meth.sig.returnType = none) (hin : meth.name = "<init>") (hkf : kf = σ0.2.2 + (rm_X1_init n).cells ∧ mm_ss kf = mm_ss σ0.2.2 + (rm_X1_init n).slots) : clo_X1_init n (mm_O p l e (rm_X1_init n) s m args below meth c G σ0.2.2 (MQ below (mm_Qc G σ0 (rm_X1_init n).cells (rm_X1_init n).slots Post) args s (rm_X1_init n).cells (rm_X1_init n).slots (mm_A G))) Post σ0.2.2 kf := (by unfold clo_X1_init b_X1_init_0; exact (mm_la_n hC dX1_init_0 rfl (mm_objI hC wd_157 wd_87 wd_88 ⟨Nat.le_refl 1, Nat.le_refl 16⟩ dX1_init_1 (mm_la_n hC dX1_init_4 rfl (mm_ld_n hC dX1_init_5 rfl (mm_newi hC wd_115 dX1_init_6 (mm_prF hC cl_1 (by decide) rfl rfl (fun _ => ⟨rfl, rfl⟩) hin rfl wd_158 dX1_init_8 (mm_vr hC hkf hr dX1_init_11))))))))
theorem ss_X1_init (n : Nat) : ∀ (av : List mm_V) (σ : mm_S) (Post : Option mm_V → mm_S → Prop), T_X1_init n av σ Post → mm_ss (σ.2.2 + (rm_X1_init n).cells) = mm_ss σ.2.2 + (rm_X1_init n).slots := by
  intro av σ Post h'
  unfold T_X1_init at h'
  split at h'
  · rename_i a' z
    obtain ⟨g1, g2, h1, h2, h3, _⟩ := h'
    show mm_ss (σ.2.2 + 1) = _
    rw [ss_1, h1, g2]
    rfl
  · exact h'.elim
set_option maxRecDepth 100000 in
set_option maxHeartbeats 8000000 in
theorem pv_X1_init (n : Nat) : ∀ (av : List mm_V) (σ : mm_S) (Post : Option mm_V → mm_S → Prop), (∀ v ∈ av, mm_iv v) → (∀ a j, mm_in (σ.1 a j)) → σ.2.2 ≤ 348 → T_X1_init n av σ Post → ∀ (Ok : Nat → mm_K) (kf : Nat), kf = σ.2.2 + (rm_X1_init n).cells → clo_X1_init n Ok Post σ.2.2 kf → Ok 0 (av ++ List.replicate (2 - av.length) (.inr none)) [] σ := by
  intro av σ Post hav hin hk hT Ok kf hkf hcl
  obtain ⟨I, R, k⟩ := σ
  unfold T_X1_init at hT
  split at hT
  · rename_i a' z
    dsimp only at hkf hin hk hcl
    have c0 := hcl
    unfold clo_X1_init at c0
    obtain ⟨g1, g2, h1, h2, h3, h4, hP⟩ := hT
    dsimp only at h1 h4
    subst h1
    subst g1
    obtain ⟨t1, t2, t3', t4'⟩ := tb_c1 a' (by omega) h3
    have hs := ss_1 (a' + 1)
    rw [g2] at hs
    have e1' : mm_sh (a' + 1) = (100, n) := by rw [← t4', ← g2]
    refine c0 _ _ _ ?_
    simp only [b_X1_init_0, i_new, i_newa, i_pr, i_aas, i_oi, i_ci, i_fix, i_xorg, i_shl, i_shr, i_ior, i_and1, i_lcg1, i_lcg2, i_ld, i_la, i_st, i_sa, i_c, i_inc, i_add, i_sub, i_mul, i_div, i_rem, i_remT, i_xor, i_dup, i_dup2, i_if, i_if2, i_sw, i_gi, i_gr, i_pi, i_pz, i_ial, i_ias, i_len, i_aal, i_gs, i_tal, i_cv, i_cs, i_ir, i_zr, i_vr, i_min, i_max, i_cpy, List.getElem?_cons_zero, List.getElem?_cons_succ, List.set_cons_zero, List.set_cons_succ, List.length_cons, List.length_nil, List.drop_succ_cons, List.drop_zero, List.take_succ_cons, List.take_zero, List.reverse_cons, List.reverse_nil, List.nil_append, List.cons_append, Option.toList_some, Option.toList_none, true_and, and_true, true_or, or_true, Nat.reduceAdd, Nat.reduceLT, Nat.reduceLeDiff, Option.some.injEq, exists_eq_left', Int.toNat_natCast, Nat.reduceSub, List.append_nil, List.replicate_succ, List.replicate_zero, rm_X1_init, new_k, e1', h3, hs]
    refine ⟨⟨by omega, by omega, Nat.le_refl _, Nat.le_refl _⟩, by omega, by rw [hkf]; rfl, ?_⟩
    have ac := acc_set (y := a') (j := 0) (z := some (a' + 1)) (acc_arr (acc_0 (X := fun _ => False) (R := R) h4) (by omega) t4' (by rw [Nat.add_sub_cancel, t3']; decide)) (Or.inl rfl)
    have en := acc_end (τ := ((mm_new (I, R, a' + 1)).1, mm_setR (mm_new (I, R, a' + 1)).2.1 a' 0 (some (a' + 1)), a' + 2)) (cn := 2) ac (fun _ _ _ w' => w') rfl (ini_0 (by omega) (Or.inr t2)) (fun j hj => ?_)
    · exact hP _ rfl en.1 en.2
    · unfold rel at hj
      rw [t3'] at hj
      have : j = 0 := by
        have hj1 := hj.1
        rcases hj.2 with w' | w'
        · have w2' := w'.2
          simp [mm_rf] at w2'
          exact w2'
        · omega
      subst this
      rw [Rs_cl h3]
      show mm_setR _ a' 0 _ a' 0 = _
      rw [set_i, if_pos rfl]
  · exact hT.elim
theorem sp_X1_init (n : Nat) : mm_SpX yX1_init cX1_init 2 (rm_X1_init n) (T_X1_init n) := mm_methX (by decide) (by
  intro av σ Post h
  unfold T_X1_init at h
  split at h
  · simp
  · exact h.elim) (fun p l e s m args below meth c G av σ Post hC hX hr hnm hav hin hk hT => pv_X1_init n av σ Post hav hin hk hT _ _ rfl (bk_X1_init n hC hX hr hnm ⟨rfl, ss_X1_init n av σ Post hT⟩))
theorem tb_c4 : ∀ a', a' < 348 → (mm_sh a').1 = 4 → a' + 2 ≤ 348 ∧ (mm_sh (a' - 1)).1 ≠ 9 ∧ mm_sh a' = (4, 2) ∧ mm_sh (a' + 1) = (100, 72) ∧ mm_Rs a' 0 = some (a' + 1) := by decide +kernel
def T_X4_init : mm_T := fun av σ Post => match av with
  | [.inr (some a')] => cT 4 2 a' σ Post
  | _ => False
def rm_X4_init : Room := { frames := 1, cells := 1, slots := 72, locals := 16 }
def b_X4_init_0 (Ok : Nat → mm_K) (Post : Option mm_V → mm_S → Prop) (k0 kf : Nat) : mm_K := i_la 0 (i_oi (i_la 0 (i_c 72 (i_newa k0 rm_X4_init.cells rm_X4_init.slots 100 (i_pr 4 0 (i_vr Post kf))))))
def clo_X4_init (Ok : Nat → mm_K) (Post : Option mm_V → mm_S → Prop) (k0 kf : Nat) : Prop := mm_imp (b_X4_init_0 Ok Post k0 kf) (Ok 0)
set_option maxRecDepth 100000 in
set_option maxHeartbeats 4000000 in
theorem bk_X4_init {p : Program} {l : Launch} {e : Env} {s : State} {m : MethodId} {args : Array Value} {below : List Frame} {meth : Method} {c : Code} {G : mm_G} {σ0 : mm_S} {Post : Option mm_V → mm_S → Prop} {kf : Nat} (hC : mm_C p G s m args meth c cX4_init yX4_init.cls) (hX : mm_X s) (hr : meth.sig.returnType = none) (hin : meth.name = "<init>") (hkf : kf = σ0.2.2 + rm_X4_init.cells ∧ mm_ss kf = mm_ss σ0.2.2 + rm_X4_init.slots) : clo_X4_init (mm_O p l e rm_X4_init s m args below meth c G σ0.2.2 (MQ below (mm_Qc G σ0 rm_X4_init.cells rm_X4_init.slots Post) args s rm_X4_init.cells rm_X4_init.slots (mm_A G))) Post σ0.2.2 kf := (by unfold clo_X4_init b_X4_init_0; exact (mm_la_n hC dX4_init_0 rfl (mm_objI hC wd_207 wd_87 wd_88 ⟨by decide, by decide⟩ dX4_init_1 (mm_la_n hC dX4_init_4 rfl (mm_bp hC dX4_init_5 ⟨⟨by decide, by decide⟩, by decide⟩ (mm_newi hC wd_115 dX4_init_7 (mm_prF hC cl_4 (by decide) rfl rfl (fun _ => ⟨rfl, rfl⟩) hin rfl wd_208 dX4_init_9 (mm_vr hC hkf hr dX4_init_12))))))))
theorem ss_X4_init : ∀ (av : List mm_V) (σ : mm_S) (Post : Option mm_V → mm_S → Prop), T_X4_init av σ Post → mm_ss (σ.2.2 + rm_X4_init.cells) = mm_ss σ.2.2 + rm_X4_init.slots := by
  intro av σ Post h'
  unfold T_X4_init at h'
  split at h'
  · rename_i a'
    obtain ⟨h1, h2, h3, _⟩ := h'
    have t' := tb_c4 a' (by omega) h3
    show mm_ss (σ.2.2 + 1) = _
    rw [ss_1, h1, t'.2.2.2.1]
    rfl
  · exact h'.elim
set_option maxRecDepth 100000 in
set_option maxHeartbeats 8000000 in
theorem pv_X4_init : ∀ (av : List mm_V) (σ : mm_S) (Post : Option mm_V → mm_S → Prop), (∀ v ∈ av, mm_iv v) → (∀ a j, mm_in (σ.1 a j)) → σ.2.2 ≤ 348 → T_X4_init av σ Post → ∀ (Ok : Nat → mm_K) (kf : Nat), kf = σ.2.2 + rm_X4_init.cells → clo_X4_init Ok Post σ.2.2 kf → Ok 0 (av ++ List.replicate (1 - av.length) (.inr none)) [] σ := by
  intro av σ Post hav hin hk hT Ok kf hkf hcl
  obtain ⟨I, R, k⟩ := σ
  unfold T_X4_init at hT
  split at hT
  · rename_i a'
    dsimp only at hkf hin hk hcl
    have c0 := hcl
    unfold clo_X4_init at c0
    obtain ⟨h1, h2, h3, h4, hP⟩ := hT
    dsimp only at h1 h4
    subst h1
    obtain ⟨t1, t2, t3', t4', t5'⟩ := tb_c4 a' (by omega) h3
    have hs := ss_1 (a' + 1)
    rw [t4'] at hs
    dsimp only at hs
    refine c0 _ _ _ ?_
    simp only [b_X4_init_0, i_new, i_newa, i_pr, i_aas, i_oi, i_ci, i_fix, i_xorg, i_shl, i_shr, i_ior, i_and1, i_lcg1, i_lcg2, i_ld, i_la, i_st, i_sa, i_c, i_inc, i_add, i_sub, i_mul, i_div, i_rem, i_remT, i_xor, i_dup, i_dup2, i_if, i_if2, i_sw, i_gi, i_gr, i_pi, i_pz, i_ial, i_ias, i_len, i_aal, i_gs, i_tal, i_cv, i_cs, i_ir, i_zr, i_vr, i_min, i_max, i_cpy, List.getElem?_cons_zero, List.getElem?_cons_succ, List.set_cons_zero, List.set_cons_succ, List.length_cons, List.length_nil, List.drop_succ_cons, List.drop_zero, List.take_succ_cons, List.take_zero, List.reverse_cons, List.reverse_nil, List.nil_append, List.cons_append, Option.toList_some, Option.toList_none, true_and, and_true, true_or, or_true, Nat.reduceAdd, Nat.reduceLT, Nat.reduceLeDiff, Option.some.injEq, exists_eq_left', Int.toNat_natCast, Nat.reduceSub, List.append_nil, List.replicate_succ, List.replicate_zero, rm_X4_init, new_k, t4', h3, hs]
    refine ⟨⟨rfl, by omega, by omega, Nat.le_refl _, Nat.le_refl _⟩, by omega, by rw [hkf]; rfl, ?_⟩
    have ac := acc_set (y := a') (j := 0) (z := some (a' + 1)) (acc_arr (acc_0 (X := fun _ => False) (R := R) h4) (by omega) (by rw [t4']) (by rw [Nat.add_sub_cancel, t3']; decide)) (Or.inl rfl)
    have en := acc_end (τ := ((mm_new (I, R, a' + 1)).1, mm_setR (mm_new (I, R, a' + 1)).2.1 a' 0 (some (a' + 1)), a' + 2)) (cn := 2) ac (fun _ _ _ w' => w') rfl (ini_0 (by omega) (Or.inr t2)) (fun j hj => ?_)
    · exact hP _ rfl en.1 en.2
    · unfold rel at hj
      rw [t3'] at hj
      have : j = 0 := by
        rcases hj.2 with w' | w'
        · have w2' := w'.2
          simp [mm_rf] at w2'
          exact w2'
        · omega
      subst this
      rw [t5']
      show mm_setR _ a' 0 _ a' 0 = _
      rw [set_i, if_pos rfl]
  · exact hT.elim
theorem sp_X4_init : mm_SpX yX4_init cX4_init 1 rm_X4_init (T_X4_init) := mm_methX (by decide) (by
  intro av σ Post h
  unfold T_X4_init at h
  split at h
  · simp
  · exact h.elim) (fun p l e s m args below meth c G av σ Post hC hX hr hnm hav hin hk hT => pv_X4_init av σ Post hav hin hk hT _ _ rfl (bk_X4_init hC hX hr hnm ⟨rfl, ss_X4_init av σ Post hT⟩))
theorem tb_c2 : ∀ a', a' < 348 → (mm_sh a').1 = 2 → (mm_sh (a' - 1)).1 ≠ 9 ∧ mm_sh a' = (2, 1) := by decide +kernel
def T_X2_init : mm_T := fun av σ Post => match av with
  | [.inr (some a')] => cT 2 1 a' σ Post
  | _ => False
def rm_X2_init : Room := { frames := 1, cells := 0, slots := 0, locals := 16 }
def b_X2_init_0 (Ok : Nat → mm_K) (Post : Option mm_V → mm_S → Prop) (k0 kf : Nat) : mm_K := i_la 0 (i_oi (i_vr Post kf))
def clo_X2_init (Ok : Nat → mm_K) (Post : Option mm_V → mm_S → Prop) (k0 kf : Nat) : Prop := mm_imp (b_X2_init_0 Ok Post k0 kf) (Ok 0)
set_option maxRecDepth 100000 in
set_option maxHeartbeats 4000000 in
theorem bk_X2_init {p : Program} {l : Launch} {e : Env} {s : State} {m : MethodId} {args : Array Value} {below : List Frame} {meth : Method} {c : Code} {G : mm_G} {σ0 : mm_S} {Post : Option mm_V → mm_S → Prop} {kf : Nat} (hC : mm_C p G s m args meth c cX2_init yX2_init.cls) (hX : mm_X s) (hr : meth.sig.returnType = none) (hin : meth.name = "<init>") (hkf : kf = σ0.2.2 + rm_X2_init.cells ∧ mm_ss kf = mm_ss σ0.2.2 + rm_X2_init.slots) : clo_X2_init (mm_O p l e rm_X2_init s m args below meth c G σ0.2.2 (MQ below (mm_Qc G σ0 rm_X2_init.cells rm_X2_init.slots Post) args s rm_X2_init.cells rm_X2_init.slots (mm_A G))) Post σ0.2.2 kf := (by unfold clo_X2_init b_X2_init_0; exact (mm_la_n hC dX2_init_0 rfl (mm_objI hC wd_300 wd_87 wd_88 ⟨by decide, by decide⟩ dX2_init_1 (mm_vr hC hkf hr dX2_init_4))))
theorem ss_X2_init : ∀ (av : List mm_V) (σ : mm_S) (Post : Option mm_V → mm_S → Prop), T_X2_init av σ Post → mm_ss (σ.2.2 + rm_X2_init.cells) = mm_ss σ.2.2 + rm_X2_init.slots := fun _ _ _ _ => rfl
set_option maxRecDepth 100000 in
set_option maxHeartbeats 8000000 in
theorem pv_X2_init : ∀ (av : List mm_V) (σ : mm_S) (Post : Option mm_V → mm_S → Prop), (∀ v ∈ av, mm_iv v) → (∀ a j, mm_in (σ.1 a j)) → σ.2.2 ≤ 348 → T_X2_init av σ Post → ∀ (Ok : Nat → mm_K) (kf : Nat), kf = σ.2.2 + rm_X2_init.cells → clo_X2_init Ok Post σ.2.2 kf → Ok 0 (av ++ List.replicate (1 - av.length) (.inr none)) [] σ := by
  intro av σ Post hav hin hk hT Ok kf hkf hcl
  obtain ⟨I, R, k⟩ := σ
  unfold T_X2_init at hT
  split at hT
  · rename_i a'
    dsimp only at hkf hin hk hcl
    have c0 := hcl
    unfold clo_X2_init at c0
    obtain ⟨h1, h2, h3, h4, hP⟩ := hT
    dsimp only at h1 h4
    subst h1
    obtain ⟨t2, t3'⟩ := tb_c2 a' (by omega) h3
    refine c0 _ _ _ ?_
    simp only [b_X2_init_0, i_new, i_newa, i_pr, i_aas, i_oi, i_ci, i_fix, i_xorg, i_shl, i_shr, i_ior, i_and1, i_lcg1, i_lcg2, i_ld, i_la, i_st, i_sa, i_c, i_inc, i_add, i_sub, i_mul, i_div, i_rem, i_remT, i_xor, i_dup, i_dup2, i_if, i_if2, i_sw, i_gi, i_gr, i_pi, i_pz, i_ial, i_ias, i_len, i_aal, i_gs, i_tal, i_cv, i_cs, i_ir, i_zr, i_vr, i_min, i_max, i_cpy, List.getElem?_cons_zero, List.getElem?_cons_succ, List.set_cons_zero, List.set_cons_succ, List.length_cons, List.length_nil, List.drop_succ_cons, List.drop_zero, List.take_succ_cons, List.take_zero, List.reverse_cons, List.reverse_nil, List.nil_append, List.cons_append, Option.toList_some, Option.toList_none, true_and, and_true, true_or, or_true, Nat.reduceAdd, Nat.reduceLT, Nat.reduceLeDiff, Option.some.injEq, exists_eq_left', Int.toNat_natCast, Nat.reduceSub, List.append_nil, List.replicate_succ, List.replicate_zero, rm_X2_init]
    refine ⟨by rw [hkf]; rfl, ?_⟩
    have en := acc_end (τ := (I, R, a' + 1)) (cn := 1) (acc_0 (X := fun _ => False) (R := R) h4) (fun _ _ _ w' => w') rfl (ini_0 (by omega) (Or.inr t2)) (fun j hj => ?_)
    · exact hP _ rfl en.1 en.2
    · unfold rel at hj
      rw [t3'] at hj
      rcases hj.2 with w' | w'
      · have w2' := w'.2
        simp [mm_rf] at w2'
      · omega
  · exact hT.elim
theorem sp_X2_init : mm_SpX yX2_init cX2_init 1 rm_X2_init (T_X2_init) := mm_methX (by decide) (by
  intro av σ Post h
  unfold T_X2_init at h
  split at h
  · simp
  · exact h.elim) (fun p l e s m args below meth c G av σ Post hC hX hr hnm hav hin hk hT => pv_X2_init av σ Post hav hin hk hT _ _ rfl (bk_X2_init hC hX hr hnm ⟨rfl, ss_X2_init av σ Post hT⟩))
theorem tb_c0 : ∀ a', a' < 348 → (mm_sh a').1 = 0 → a' + 3 ≤ 348 ∧ (mm_sh (a' - 1)).1 ≠ 9 ∧ mm_sh a' = (0, 3) ∧ mm_sh (a' + 1) = (100, 20) ∧ mm_sh (a' + 2) = (100, 20) ∧ mm_Rs a' 0 = some (a' + 1) ∧ mm_Rs a' 1 = some (a' + 2) := by decide +kernel
def T_X0_init : mm_T := fun av σ Post => match av with
  | [.inr (some a')] => cT 0 3 a' σ Post
  | _ => False
def rm_X0_init : Room := { frames := 1, cells := 2, slots := 40, locals := 16 }
def b_X0_init_0 (Ok : Nat → mm_K) (Post : Option mm_V → mm_S → Prop) (k0 kf : Nat) : mm_K := i_la 0 (i_oi (i_la 0 (i_c 20 (i_newa k0 rm_X0_init.cells rm_X0_init.slots 100 (i_pr 0 0 (i_la 0 (i_c 20 (i_newa k0 rm_X0_init.cells rm_X0_init.slots 100 (i_pr 0 1 (i_vr Post kf))))))))))
def clo_X0_init (Ok : Nat → mm_K) (Post : Option mm_V → mm_S → Prop) (k0 kf : Nat) : Prop := mm_imp (b_X0_init_0 Ok Post k0 kf) (Ok 0)
set_option maxRecDepth 100000 in
set_option maxHeartbeats 4000000 in
theorem bk_X0_init {p : Program} {l : Launch} {e : Env} {s : State} {m : MethodId} {args : Array Value} {below : List Frame} {meth : Method} {c : Code} {G : mm_G} {σ0 : mm_S} {Post : Option mm_V → mm_S → Prop} {kf : Nat} (hC : mm_C p G s m args meth c cX0_init yX0_init.cls) (hX : mm_X s) (hr : meth.sig.returnType = none) (hin : meth.name = "<init>") (hkf : kf = σ0.2.2 + rm_X0_init.cells ∧ mm_ss kf = mm_ss σ0.2.2 + rm_X0_init.slots) : clo_X0_init (mm_O p l e rm_X0_init s m args below meth c G σ0.2.2 (MQ below (mm_Qc G σ0 rm_X0_init.cells rm_X0_init.slots Post) args s rm_X0_init.cells rm_X0_init.slots (mm_A G))) Post σ0.2.2 kf := (by unfold clo_X0_init b_X0_init_0; exact (mm_la_n hC dX0_init_0 rfl (mm_objI hC wd_283 wd_87 wd_88 ⟨by decide, by decide⟩ dX0_init_1 (mm_la_n hC dX0_init_4 rfl (mm_bp hC dX0_init_5 ⟨⟨by decide, by decide⟩, by decide⟩ (mm_newi hC wd_115 dX0_init_7 (mm_prF hC cl_0 (by decide) rfl rfl (fun _ => ⟨rfl, rfl⟩) hin rfl wd_284 dX0_init_9 (mm_la_n hC dX0_init_12 rfl (mm_bp hC dX0_init_13 ⟨⟨by decide, by decide⟩, by decide⟩ (mm_newi hC wd_115 dX0_init_15 (mm_prF hC cl_0 (by decide) rfl rfl (fun _ => ⟨rfl, rfl⟩) hin rfl wd_285 dX0_init_17 (mm_vr hC hkf hr dX0_init_20))))))))))))
theorem ss_X0_init : ∀ (av : List mm_V) (σ : mm_S) (Post : Option mm_V → mm_S → Prop), T_X0_init av σ Post → mm_ss (σ.2.2 + rm_X0_init.cells) = mm_ss σ.2.2 + rm_X0_init.slots := by
  intro av σ Post h'
  unfold T_X0_init at h'
  split at h'
  · rename_i a'
    obtain ⟨h1, h2, h3, _⟩ := h'
    obtain ⟨t1, t2, t3', t4', t5', t6, t7⟩ := tb_c0 a' (by omega) h3
    show mm_ss (σ.2.2 + 1 + 1) = _
    rw [ss_1, ss_1, h1, t4', t5']
    rfl
  · exact h'.elim
set_option maxRecDepth 100000 in
set_option maxHeartbeats 8000000 in
theorem pv_X0_init : ∀ (av : List mm_V) (σ : mm_S) (Post : Option mm_V → mm_S → Prop), (∀ v ∈ av, mm_iv v) → (∀ a j, mm_in (σ.1 a j)) → σ.2.2 ≤ 348 → T_X0_init av σ Post → ∀ (Ok : Nat → mm_K) (kf : Nat), kf = σ.2.2 + rm_X0_init.cells → clo_X0_init Ok Post σ.2.2 kf → Ok 0 (av ++ List.replicate (1 - av.length) (.inr none)) [] σ := by
  intro av σ Post hav hin hk hT Ok kf hkf hcl
  obtain ⟨I, R, k⟩ := σ
  unfold T_X0_init at hT
  split at hT
  · rename_i a'
    dsimp only at hkf hin hk hcl
    have c0 := hcl
    unfold clo_X0_init at c0
    obtain ⟨h1, h2, h3, h4, hP⟩ := hT
    dsimp only at h1 h4
    subst h1
    obtain ⟨t1, t2, t3', t4', t5', t6, t7⟩ := tb_c0 a' (by omega) h3
    have hs := ss_1 (a' + 1)
    have hs2 := ss_1 (a' + 2)
    rw [t4'] at hs
    rw [t5'] at hs2
    dsimp only at hs hs2
    refine c0 _ _ _ ?_
    simp only [b_X0_init_0, i_new, i_newa, i_pr, i_aas, i_oi, i_ci, i_fix, i_xorg, i_shl, i_shr, i_ior, i_and1, i_lcg1, i_lcg2, i_ld, i_la, i_st, i_sa, i_c, i_inc, i_add, i_sub, i_mul, i_div, i_rem, i_remT, i_xor, i_dup, i_dup2, i_if, i_if2, i_sw, i_gi, i_gr, i_pi, i_pz, i_ial, i_ias, i_len, i_aal, i_gs, i_tal, i_cv, i_cs, i_ir, i_zr, i_vr, i_min, i_max, i_cpy, List.getElem?_cons_zero, List.getElem?_cons_succ, List.set_cons_zero, List.set_cons_succ, List.length_cons, List.length_nil, List.drop_succ_cons, List.drop_zero, List.take_succ_cons, List.take_zero, List.reverse_cons, List.reverse_nil, List.nil_append, List.cons_append, Option.toList_some, Option.toList_none, true_and, and_true, true_or, or_true, Nat.reduceAdd, Nat.reduceLT, Nat.reduceLeDiff, Option.some.injEq, exists_eq_left', Int.toNat_natCast, Nat.reduceSub, List.append_nil, List.replicate_succ, List.replicate_zero, rm_X0_init, new_k, t4', h3, hs]
    refine ⟨⟨rfl, by omega, by omega, by omega, by omega⟩, by omega, ⟨by rw [show a' + 1 + 1 = a' + 2 by omega, t5']; rfl, by omega, by omega, by omega, ?_⟩, by omega, by rw [hkf]; rfl, ?_⟩
    · rw [show a' + 1 + 1 + 1 = a' + 2 + 1 by omega, hs2, show a' + 2 = a' + 1 + 1 by omega, hs]
      omega
    have ac := acc_set (y := a') (j := 0) (z := some (a' + 1)) (acc_arr (acc_0 (X := fun _ => False) (R := R) h4) (by omega) (by rw [t4']) (by rw [Nat.add_sub_cancel, t3']; decide)) (Or.inl rfl)
    have ac2 := acc_set (y := a') (j := 1) (z := some (a' + 2)) (acc_arr ac (by omega) (by rw [show a' + 1 + 1 = a' + 2 by omega, t5']) (by rw [show a' + 1 + 1 - 1 = a' + 1 by omega, t4']; decide)) (Or.inl rfl)
    have en := acc_endB (cn := 3) ac2 (fun _ _ _ w' => w') (by omega) (ini_0 (by omega) (Or.inr t2)) (fun j hj => ?_)
    · exact hP (_, _, a' + 3) rfl en.1 en.2
    · unfold rel at hj
      rw [t3'] at hj
      have : j = 0 ∨ j = 1 := by
        rcases hj.2 with w' | w'
        · have w2' := w'.2
          simp [mm_rf] at w2'
          omega
        · omega
      rcases this with rfl | rfl
      · rw [t6]
        rw [set_i, if_neg (by omega), new_a (by omega), set_i, if_pos rfl]
      · rw [t7]
        rw [set_i, if_pos rfl]
  · exact hT.elim
theorem sp_X0_init : mm_SpX yX0_init cX0_init 1 rm_X0_init (T_X0_init) := mm_methX (by decide) (by
  intro av σ Post h
  unfold T_X0_init at h
  split at h
  · simp
  · exact h.elim) (fun p l e s m args below meth c G av σ Post hC hX hr hnm hav hin hk hT => pv_X0_init av σ Post hav hin hk hT _ _ rfl (bk_X0_init hC hX hr hnm ⟨rfl, ss_X0_init av σ Post hT⟩))
