/-! constructors: rows filled, small objects
-/
def T_J7_fillG : mm_T := fun av σ Post => match av with
  | [.inr (some u'), .inl v'] => u' < σ.2.2 ∧ (mm_sh u').1 = 100 ∧
    ∀ I' : Nat → Nat → Int, (∀ b', b' ≠ u' → I' b' = σ.1 b') → (∀ i', i' < (mm_sh u').2 → I' u' i' = v') → (∀ i', (mm_sh u').2 ≤ i' → I' u' i' = σ.1 u' i') → Post none (I', σ.2)
  | _ => False
set_option maxRecDepth 100000 in
set_option maxHeartbeats 8000000 in
theorem pv_J7_fillG : ∀ (av : List mm_V) (σ : mm_S) (Post : Option mm_V → mm_S → Prop), (∀ v' ∈ av, mm_iv v') → (∀ a' j, mm_in (σ.1 a' j)) → σ.2.2 ≤ 348 → T_J7_fillG av σ Post → ∀ Ok : Nat → mm_K, clo_J7_fill_53178 Ok Post σ.2.2 → Ok 0 (av ++ List.replicate (4 - av.length) (.inr none)) [] σ := by
  intro av σ Post hav hin hk hT Ok hcl
  obtain ⟨I, R, k'⟩ := σ
  unfold T_J7_fillG at hT
  split at hT
  · rename_i u' v'
    obtain ⟨hu, h1, hP⟩ := hT
    dsimp only at hu hP hk hcl hin
    have hu8 := sh_lt h1 (by decide)
    have hle := (mm_shOk u' hu8).1
    obtain ⟨n', hn⟩ : ∃ n', (mm_sh u').2 = n' := ⟨_, rfl⟩
    rw [hn] at hP hle
    obtain ⟨ca, cb⟩ := hcl
    have loop' : ∀ (d' i' : Nat) (J' : Nat → Nat → Int), i' + d' = n' → (∀ b', b' ≠ u' → J' b' = I b') → (∀ j, j < i' → J' u' j = v') → (∀ j, i' ≤ j → J' u' j = I u' j) → Ok 5 [.inr (some u'), .inl v', .inl (i' : Int), .inl (n' : Int)] [] (J', R, k') := by
      intro d'
      induction d' with
      | zero =>
        intro i' J' hd' hI hi' hj
        refine cb _ _ _ ?_
        simp only [b_J7_fill_53178_5, hu, h1, hn, i_xorg, i_shl, i_shr, i_ior, i_and1, i_lcg1, i_lcg2, i_ld, i_la, i_st, i_sa, i_c, i_inc, i_add, i_sub, i_mul, i_div, i_rem, i_remT, i_xor, i_dup, i_dup2, i_if, i_if2, i_sw, i_gi, i_gr, i_pi, i_pz, i_ial, i_ias, i_len, i_aal, i_gs, i_tal, i_cv, i_cs, i_ir, i_zr, i_vr, i_min, i_max, i_cpy, List.getElem?_cons_zero, List.getElem?_cons_succ, List.set_cons_zero, List.set_cons_succ, List.length_cons, List.length_nil, List.drop_succ_cons, List.drop_zero, List.take_succ_cons, List.take_zero, List.reverse_cons, List.reverse_nil, List.nil_append, List.cons_append, Option.toList_some, Option.toList_none, true_and, and_true, true_or, or_true, Nat.reduceAdd, Nat.reduceLT, Nat.reduceLeDiff, Option.some.injEq, exists_eq_left', Int.toNat_natCast, Nat.reduceSub, List.append_nil, List.replicate_succ, List.replicate_zero]
        refine ⟨fun q' => hP J' hI (fun j hj => hi' j (by omega)) (fun j hj2 => hj j (by omega)), fun q' => by omega⟩
      | succ d' ih =>
        intro i' J' hd' hI hi' hj
        refine cb _ _ _ ?_
        simp only [b_J7_fill_53178_5, hu, h1, hn, i_xorg, i_shl, i_shr, i_ior, i_and1, i_lcg1, i_lcg2, i_ld, i_la, i_st, i_sa, i_c, i_inc, i_add, i_sub, i_mul, i_div, i_rem, i_remT, i_xor, i_dup, i_dup2, i_if, i_if2, i_sw, i_gi, i_gr, i_pi, i_pz, i_ial, i_ias, i_len, i_aal, i_gs, i_tal, i_cv, i_cs, i_ir, i_zr, i_vr, i_min, i_max, i_cpy, List.getElem?_cons_zero, List.getElem?_cons_succ, List.set_cons_zero, List.set_cons_succ, List.length_cons, List.length_nil, List.drop_succ_cons, List.drop_zero, List.take_succ_cons, List.take_zero, List.reverse_cons, List.reverse_nil, List.nil_append, List.cons_append, Option.toList_some, Option.toList_none, true_and, and_true, true_or, or_true, Nat.reduceAdd, Nat.reduceLT, Nat.reduceLeDiff, Option.some.injEq, exists_eq_left', Int.toNat_natCast, Nat.reduceSub, List.append_nil, List.replicate_succ, List.replicate_zero]
        refine ⟨fun q' => by omega, fun q' => ⟨⟨by omega, by omega⟩, ⟨by omega, by omega⟩, ?_⟩⟩
        refine ih (i' + 1) _ (by omega) (fun b' hb' => by rw [mset_ne hb']; exact hI b' hb') (fun j hj2 => ?_) (fun j hj2 => by rw [mset_n2 (by omega)]; exact hj j (by omega))
        by_cases e' : j = i'
        · rw [e', mset_eq]
        · rw [mset_n2 (by omega)]
          exact hi' j (by omega)
    refine ca _ _ _ ?_
    simp only [b_J7_fill_53178_0, hu, h1, hn, i_xorg, i_shl, i_shr, i_ior, i_and1, i_lcg1, i_lcg2, i_ld, i_la, i_st, i_sa, i_c, i_inc, i_add, i_sub, i_mul, i_div, i_rem, i_remT, i_xor, i_dup, i_dup2, i_if, i_if2, i_sw, i_gi, i_gr, i_pi, i_pz, i_ial, i_ias, i_len, i_aal, i_gs, i_tal, i_cv, i_cs, i_ir, i_zr, i_vr, i_min, i_max, i_cpy, List.getElem?_cons_zero, List.getElem?_cons_succ, List.set_cons_zero, List.set_cons_succ, List.length_cons, List.length_nil, List.drop_succ_cons, List.drop_zero, List.take_succ_cons, List.take_zero, List.reverse_cons, List.reverse_nil, List.nil_append, List.cons_append, Option.toList_some, Option.toList_none, true_and, and_true, true_or, or_true, Nat.reduceAdd, Nat.reduceLT, Nat.reduceLeDiff, Option.some.injEq, exists_eq_left', Int.toNat_natCast, Nat.reduceSub, List.append_nil, List.replicate_succ, List.replicate_zero]
    exact loop' n' 0 I (by omega) (fun _ _ => rfl) (fun j hj => by omega) (fun _ _ => rfl)
  · exact hT.elim
theorem sp_J7_fillG : mm_Sp yJ7_fill_53178 cJ7_fill_53178 4 none rm_J7_fill_53178 T_J7_fillG := mm_methF (by decide +kernel) (by
  intro av σ Post h'
  unfold T_J7_fillG at h'
  split at h'
  · simp
  · exact h'.elim) (fun p' l e' s' m' args' below' meth' c' G' av σ Post hC hr _ hav hin hk hT => pv_J7_fillG av σ Post hav hin hk hT _ (bk_J7_fill_53178 hC hr))
/-! what is made so far -/
def acc (a' : Nat) (X : Nat → Prop) (k' : Nat) (A B : Nat → Nat → Int) (R S : Nat → Nat → Option Nat) : Prop := (∀ b', b' < a' → B b' = A b' ∧ S b' = R b') ∧ (∀ j, B a' j = 0) ∧ ∀ b', a' < b' → b' < k' → ¬ X b' → (∀ j, B b' j = ini b' j) ∧ ∀ j, rel b' j → S b' j = mm_Rs b' j
theorem ini_0 {b' : Nat} (h' : (mm_sh b').1 ≠ 9) (h2 : b' = 0 ∨ (mm_sh (b' - 1)).1 ≠ 9) (j : Nat) : ini b' j = 0 := by
  unfold ini
  rw [if_neg (by omega), if_neg (by omega)]
theorem acc_0 {a' : Nat} {X : Nat → Prop} {I : Nat → Nat → Int} {R : Nat → Nat → Option Nat} (h' : ∀ j, I a' j = 0) : acc a' X (a' + 1) I I R R := ⟨fun _ _ => ⟨rfl, rfl⟩, h', fun b' h1 h2 => by omega⟩
theorem acc_new {a' k' : Nat} {X : Nat → Prop} {A B : Nat → Nat → Int} {R S : Nat → Nat → Option Nat} (h' : acc a' X k' A B R S) (hk : a' < k') (hi' : X k' ∨ ((∀ j, ini k' j = 0) ∧ ∀ j, ¬ rel k' j)) : acc a' X (k' + 1) A (mm_new (B, S, k')).1 R (mm_new (B, S, k')).2.1 := by
  obtain ⟨h1, h2, h3⟩ := h'
  have e1' : ∀ b', b' ≠ k' → (mm_new (B, S, k')).1 b' = B b' := fun b' hb' => by funext i'; simp [mm_new, hb']
  have e2' : ∀ b', b' ≠ k' → (mm_new (B, S, k')).2.1 b' = S b' := fun b' hb' => by funext i'; simp [mm_new, hb']
  refine ⟨fun b' hb' => by rw [e1' b' (by omega), e2' b' (by omega)]; exact h1 b' hb', fun j => by rw [e1' a' (by omega)]; exact h2 j, fun b' hb' hb2 hbx => ?_⟩
  by_cases q' : b' = k'
  · subst q'
    rcases hi' with hi' | hi'
    · exact absurd hi' hbx
    · exact ⟨fun j => by rw [hi'.1 j]; simp [mm_new], fun j hj => absurd hj (hi'.2 j)⟩
  · rw [e1' b' q', e2' b' q']
    exact h3 b' hb' (by omega) hbx
theorem acc_call {a' k' cn : Nat} {X : Nat → Prop} {A B : Nat → Nat → Int} {R S : Nat → Nat → Option Nat} {τ : mm_S} (h' : acc a' X k' A B R S) (hk : a' < k') (f : ∀ b', b' < k' → τ.1 b' = (mm_new (B, S, k')).1 b' ∧ τ.2.1 b' = (mm_new (B, S, k')).2.1 b') (g : ∀ b', k' ≤ b' → b' < k' + cn → dn τ b') : acc a' X (k' + cn) A τ.1 R τ.2.1 ∧ ∀ b', b' < k' → τ.1 b' = B b' ∧ τ.2.1 b' = S b' := by
  obtain ⟨h1, h2, h3⟩ := h'
  have e1' : ∀ b', b' < k' → τ.1 b' = B b' ∧ τ.2.1 b' = S b' := fun b' hb' => by
    rw [(f b' hb').1, (f b' hb').2]
    exact ⟨by funext i'; simp [mm_new, show b' ≠ k' by omega], by funext i'; simp [mm_new, show b' ≠ k' by omega]⟩
  refine ⟨⟨fun b' hb' => by rw [(e1' b' (by omega)).1, (e1' b' (by omega)).2]; exact h1 b' hb', fun j => by rw [(e1' a' hk).1]; exact h2 j, fun b' hb' hb2 hbx => ?_⟩, e1'⟩
  by_cases q' : b' < k'
  · rw [(e1' b' q').1, (e1' b' q').2]
    exact h3 b' hb' q' hbx
  · exact g b' (by omega) hb2
theorem acc_set {a' k' y j : Nat} {X : Nat → Prop} {z : Option Nat} {A B : Nat → Nat → Int} {R S : Nat → Nat → Option Nat} (h' : acc a' X k' A B R S) (hy : y = a' ∨ X y ∧ a' < y) : acc a' X k' A B R (mm_setR S y j z) := by
  obtain ⟨h1, h2, h3⟩ := h'
  have e2' : ∀ b', b' ≠ y → mm_setR S y j z b' = S b' := fun b' hb' => by funext i'; simp [mm_setR, hb']
  refine ⟨fun b' hb' => by rw [e2' b' (by omega)]; exact h1 b' hb', h2, fun b' hb' hb2 hbx => ?_⟩
  have hby : b' ≠ y := by
    intro w'
    rcases hy with q' | q'
    · omega
    · rw [w'] at hbx
      exact hbx q'.1
  rw [e2' b' hby]
  exact h3 b' hb' hb2 hbx
theorem set_i {S : Nat → Nat → Option Nat} {y j : Nat} {z : Option Nat} (i' : Nat) : mm_setR S y j z y i' = if i' = j then z else S y i' := by
  unfold mm_setR
  by_cases q' : i' = j
  · rw [if_pos ⟨rfl, q'⟩, if_pos q']
  · rw [if_neg (fun w' => q' w'.2), if_neg q']
theorem new_a {B : Nat → Nat → Int} {S : Nat → Nat → Option Nat} {k' b' : Nat} (h' : b' ≠ k') : (mm_new (B, S, k')).2.1 b' = S b' := by funext i'; simp [mm_new, h']
theorem new_k {B : Nat → Nat → Int} {S : Nat → Nat → Option Nat} {k' : Nat} : (mm_new (B, S, k')).2.2 = k' + 1 := rfl
theorem new_kn {B : Nat → Nat → Int} {S : Nat → Nat → Option Nat} {k' : Nat} (j : Nat) : (mm_new (B, S, k')).2.1 k' j = none ∧ (mm_new (B, S, k')).1 k' j = 0 := by simp [mm_new]
theorem rel_100 {b' : Nat} (h' : (mm_sh b').1 = 100) (j : Nat) : ¬ rel b' j := by
  unfold rel
  omega
theorem acc_end {a' k' cn : Nat} {X : Nat → Prop} {A : Nat → Nat → Int} {R : Nat → Nat → Option Nat} {τ : mm_S} (h' : acc a' X k' A τ.1 R τ.2.1) (hX : ∀ b', a' < b' → b' < a' + cn → ¬ X b') (hk : k' = a' + cn) (h0 : ∀ j, ini a' j = 0) (hr : ∀ j, rel a' j → τ.2.1 a' j = mm_Rs a' j) : (∀ b', b' < a' → τ.1 b' = A b' ∧ τ.2.1 b' = R b') ∧ ∀ b', a' ≤ b' → b' < a' + cn → dn τ b' := by
  obtain ⟨h1, h2, h3⟩ := h'
  refine ⟨h1, fun b' hb' hb2 => ?_⟩
  by_cases q' : b' = a'
  · subst q'
    exact ⟨fun j => by rw [h2 j, h0 j], hr⟩
  · exact h3 b' (by omega) (by omega) (hX b' (by omega) hb2)
theorem acc_arr {a' k' : Nat} {X : Nat → Prop} {A B : Nat → Nat → Int} {R S : Nat → Nat → Option Nat} (h' : acc a' X k' A B R S) (hk : a' < k') (h1 : (mm_sh k').1 = 100) (h2 : (mm_sh (k' - 1)).1 ≠ 9) : acc a' X (k' + 1) A (mm_new (B, S, k')).1 R (mm_new (B, S, k')).2.1 := acc_new h' hk (Or.inr ⟨ini_0 (by omega) (Or.inr h2), rel_100 h1⟩)
theorem tb_6 : ∀ a', a' < 348 → (mm_sh a').1 = 6 → a' + 2 ≤ 348 ∧ (mm_sh (a' - 1)).1 ≠ 9 ∧ mm_sh a' = (6, 1) ∧ mm_sh (a' + 1) = (100, 21) := by decide +kernel
theorem tb_c1 : ∀ a', a' < 348 → (mm_sh a').1 = 1 → a' + 2 ≤ 348 ∧ (mm_sh (a' - 1)).1 ≠ 9 ∧ mm_sh a' = (1, 2) ∧ (mm_sh (a' + 1)).1 = 100 := by decide +kernel
def T_X7_init : mm_T := fun av σ Post => match av with
  | [.inr (some a')] => cT 6 2 a' σ Post
  | _ => False
theorem ss_1 (k' : Nat) : mm_ss (k' + 1) = mm_ss k' + (mm_sh k').2 := rfl
def rm_X7_init : Room := { frames := 1, cells := 1, slots := 21, locals := 16 }
def b_X7_init_0 (Ok : Nat → mm_K) (Post : Option mm_V → mm_S → Prop) (k0 kf : Nat) : mm_K := i_la 0 (i_oi (i_la 0 (i_c 21 (i_newa k0 rm_X7_init.cells rm_X7_init.slots 100 (i_pr 6 0 (i_vr Post kf))))))
def clo_X7_init (Ok : Nat → mm_K) (Post : Option mm_V → mm_S → Prop) (k0 kf : Nat) : Prop := mm_imp (b_X7_init_0 Ok Post k0 kf) (Ok 0)
set_option maxRecDepth 100000 in
set_option maxHeartbeats 4000000 in
theorem bk_X7_init {p : Program} {l : Launch} {e : Env} {s : State} {m : MethodId} {args : Array Value} {below : List Frame} {meth : Method} {c : Code} {G : mm_G} {σ0 : mm_S} {Post : Option mm_V → mm_S → Prop} {kf : Nat} (hC : mm_C p G s m args meth c cX7_init yX7_init.cls) (hX : mm_X s) (hr : meth.sig.returnType = none) (hin : meth.name = "<init>") (hkf : kf = σ0.2.2 + rm_X7_init.cells ∧ mm_ss kf = mm_ss σ0.2.2 + rm_X7_init.slots) : clo_X7_init (mm_O p l e rm_X7_init s m args below meth c G σ0.2.2 (MQ below (mm_Qc G σ0 rm_X7_init.cells rm_X7_init.slots Post) args s rm_X7_init.cells rm_X7_init.slots (mm_A G))) Post σ0.2.2 kf := (by unfold clo_X7_init b_X7_init_0; exact (mm_la_n hC dX7_init_0 rfl (mm_objI hC wd_107 wd_87 wd_88 ⟨by decide, by decide⟩ dX7_init_1 (mm_la_n hC dX7_init_4 rfl (mm_bp hC dX7_init_5 ⟨⟨by decide, by decide⟩, by decide⟩ (mm_newi hC wd_115 dX7_init_7 (mm_prF hC cl_6 (by decide) rfl rfl (fun _ => ⟨rfl, rfl⟩) hin rfl wd_108 dX7_init_9 (mm_vr hC hkf hr dX7_init_12))))))))
theorem ss_X7_init : ∀ (av : List mm_V) (σ : mm_S) (Post : Option mm_V → mm_S → Prop), T_X7_init av σ Post → mm_ss (σ.2.2 + rm_X7_init.cells) = mm_ss σ.2.2 + rm_X7_init.slots := by
  intro av σ Post h'
  unfold T_X7_init at h'
  split at h'
  · rename_i a'
    obtain ⟨h1, h2, h3, _⟩ := h'
    have t' := tb_6 a' (by omega) h3
    show mm_ss (σ.2.2 + 1) = _
    rw [ss_1, h1, t'.2.2.2]
    rfl
  · exact h'.elim
set_option maxRecDepth 100000 in
set_option maxHeartbeats 8000000 in
theorem pv_X7_init : ∀ (av : List mm_V) (σ : mm_S) (Post : Option mm_V → mm_S → Prop), (∀ v ∈ av, mm_iv v) → (∀ a j, mm_in (σ.1 a j)) → σ.2.2 ≤ 348 → T_X7_init av σ Post → ∀ (Ok : Nat → mm_K) (kf : Nat), kf = σ.2.2 + rm_X7_init.cells → clo_X7_init Ok Post σ.2.2 kf → Ok 0 (av ++ List.replicate (1 - av.length) (.inr none)) [] σ := by
  intro av σ Post hav hin hk hT Ok kf hkf hcl
  obtain ⟨I, R, k⟩ := σ
  unfold T_X7_init at hT
  split at hT
  · rename_i a'
    dsimp only at hkf hin hk hcl
    have c0 := hcl
    unfold clo_X7_init at c0
    obtain ⟨h1, h2, h3, h4, hP⟩ := hT
    dsimp only at h1 h4
    subst h1
    obtain ⟨t1, t2, t3', t4'⟩ := tb_6 a' (by omega) h3
    have hs := ss_1 (a' + 1)
    rw [t4'] at hs
    dsimp only at hs
    refine c0 _ _ _ ?_
    simp only [b_X7_init_0, i_new, i_newa, i_pr, i_aas, i_oi, i_ci, i_fix, i_xorg, i_shl, i_shr, i_ior, i_and1, i_lcg1, i_lcg2, i_ld, i_la, i_st, i_sa, i_c, i_inc, i_add, i_sub, i_mul, i_div, i_rem, i_remT, i_xor, i_dup, i_dup2, i_if, i_if2, i_sw, i_gi, i_gr, i_pi, i_pz, i_ial, i_ias, i_len, i_aal, i_gs, i_tal, i_cv, i_cs, i_ir, i_zr, i_vr, i_min, i_max, i_cpy, List.getElem?_cons_zero, List.getElem?_cons_succ, List.set_cons_zero, List.set_cons_succ, List.length_cons, List.length_nil, List.drop_succ_cons, List.drop_zero, List.take_succ_cons, List.take_zero, List.reverse_cons, List.reverse_nil, List.nil_append, List.cons_append, Option.toList_some, Option.toList_none, true_and, and_true, true_or, or_true, Nat.reduceAdd, Nat.reduceLT, Nat.reduceLeDiff, Option.some.injEq, exists_eq_left', Int.toNat_natCast, Nat.reduceSub, List.append_nil, List.replicate_succ, List.replicate_zero, rm_X7_init, new_k, t4', h3, hs]
    refine ⟨⟨rfl, by omega, by omega, Nat.le_refl _, Nat.le_refl _⟩, by omega, by rw [hkf]; rfl, hP ((mm_new (I, R, a' + 1)).1, mm_setR (mm_new (I, R, a' + 1)).2.1 a' 0 (some (a' + 1)), a' + 2) rfl ?_ ?_⟩
    all_goals
      have ac := acc_set (y := a') (j := 0) (z := some (a' + 1)) (acc_arr (acc_0 (X := fun _ => False) (R := R) h4) (by omega) (by rw [t4']) (by rw [Nat.add_sub_cancel, t3']; decide)) (Or.inl rfl)
      have en := acc_end (τ := ((mm_new (I, R, a' + 1)).1, mm_setR (mm_new (I, R, a' + 1)).2.1 a' 0 (some (a' + 1)), a' + 2)) (cn := 2) ac (fun _ _ _ w' => w') rfl (ini_0 (by omega) (Or.inr t2)) (fun j hj => ?_)
    · exact en.1
    · unfold rel at hj
      rw [t3'] at hj
      have : j = 0 := by omega
      subst this
      rw [Rs_sheet h3]
      show mm_setR _ a' 0 _ a' 0 = _
      rw [set_i, if_pos rfl]
    · exact en.2
    · unfold rel at hj
      rw [t3'] at hj
      have : j = 0 := by omega
      subst this
      rw [Rs_sheet h3]
      show mm_setR _ a' 0 _ a' 0 = _
      rw [set_i, if_pos rfl]
  · exact hT.elim
theorem sp_X7_init : mm_SpX yX7_init cX7_init 1 rm_X7_init (T_X7_init) := mm_methX (by decide) (by
  intro av σ Post h
  unfold T_X7_init at h
  split at h
  · simp
  · exact h.elim) (fun p l e s m args below meth c G av σ Post hC hX hr hnm hav hin hk hT => pv_X7_init av σ Post hav hin hk hT _ _ rfl (bk_X7_init hC hX hr hnm ⟨rfl, ss_X7_init av σ Post hT⟩))
