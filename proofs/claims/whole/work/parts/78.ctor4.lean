/-! constructors: Skeleton, Survey
-/
def acL (a : Nat) (X : Nat → Prop) (L : List Nat) (k : Nat) (A B : Nat → Nat → Int) (R S : Nat → Nat → Option Nat) : Prop := acc a X k A B R S ∧ ∀ j', j' ∈ L → S a j' = mm_Rs a j'
theorem k_0 {a : Nat} {X : Nat → Prop} {I : Nat → Nat → Int} {R : Nat → Nat → Option Nat} (h' : ∀ j', I a j' = 0) : acL a X [] (a + 1) I I R R := ⟨acc_0 h', fun j' hj => absurd hj List.not_mem_nil⟩
theorem k_arr {a k : Nat} {X : Nat → Prop} {L : List Nat} {A B : Nat → Nat → Int} {R S : Nat → Nat → Option Nat} (h' : acL a X L k A B R S) (hk : a < k) (h1 : (mm_sh k).1 = 100 ∧ (mm_sh (k - 1)).1 ≠ 9) : acL a X L (k + 1) A (mm_new (B, S, k)).1 R (mm_new (B, S, k)).2.1 := ⟨acc_arr h'.1 hk h1.1 h1.2, fun j' hj => by rw [new_a (by omega)]; exact h'.2 j' hj⟩
theorem k_new {a k : Nat} {X : Nat → Prop} {L : List Nat} {A B : Nat → Nat → Int} {R S : Nat → Nat → Option Nat} (h' : acL a X L k A B R S) (hk : a < k) (h1 : X k) : acL a X L (k + 1) A (mm_new (B, S, k)).1 R (mm_new (B, S, k)).2.1 := ⟨acc_new h'.1 hk (Or.inl h1), fun j' hj => by rw [new_a (by omega)]; exact h'.2 j' hj⟩
theorem k_call {a k cn : Nat} {X : Nat → Prop} {L : List Nat} {A B B1 : Nat → Nat → Int} {R S S1 : Nat → Nat → Option Nat} {k1' : Nat} (h' : acL a X L k A B R S) (hk : a < k) (f : ∀ b', b' < k → B1 b' = (mm_new (B, S, k)).1 b' ∧ S1 b' = (mm_new (B, S, k)).2.1 b') (g : ∀ b', k ≤ b' → b' < k + cn → dn (B1, S1, k1') b') : acL a X L (k + cn) A B1 R S1 := by
  have := acc_call (cn := cn) (τ := (B1, S1, k1')) h'.1 hk f g
  exact ⟨this.1, fun j' hj => by rw [show S1 a = S a from (this.2 a hk).2]; exact h'.2 j' hj⟩
theorem k_set {a k i : Nat} {X : Nat → Prop} {L : List Nat} {z : Option Nat} {A B : Nat → Nat → Int} {R S : Nat → Nat → Option Nat} (h' : acL a X L k A B R S) (hz : mm_Rs a i = z) : acL a X (i :: L) k A B R (mm_setR S a i z) := by
  refine ⟨acc_set h'.1 (Or.inl rfl), fun j' hj => ?_⟩
  rw [set_i]
  by_cases q' : j' = i
  · rw [if_pos q', q', hz]
  · rw [if_neg q']
    exact h'.2 j' (List.mem_of_ne_of_mem q' hj)
theorem k_end {a k cn : Nat} {X : Nat → Prop} {L : List Nat} {A B : Nat → Nat → Int} {R S : Nat → Nat → Option Nat} (h' : acL a X L k A B R S) (hX : ∀ b', a < b' → b' < a + cn → ¬ X b') (hk : k = a + cn) (h0 : (mm_sh a).1 ≠ 9 ∧ (a = 0 ∨ (mm_sh (a - 1)).1 ≠ 9)) (hr : ∀ j', j' < (mm_sh a).2 → mm_rf (mm_sh a).1 j' = true → j' ∈ L) (hc : (mm_sh a).1 < 100) : (∀ b', b' < a → B b' = A b' ∧ S b' = R b') ∧ ∀ b', a ≤ b' → b' < a + cn → dn (B, S, a + cn) b' := by
  refine acc_endB h'.1 hX hk (ini_0 h0.1 h0.2) (fun j' hj => h'.2 j' ?_)
  rcases hj.2 with w' | w'
  · exact hr j' hj.1 w'.2
  · omega
def T_X8_init : mm_T := fun av σ Post => match av with
  | [.inr (some a)] => a = 18 ∧ cT 7 11 18 σ Post
  | _ => False
def rm_X8_init : Room := { frames := 2, cells := 10, slots := 150, locals := 37 }
def b_X8_init_0 (Ok : Nat → mm_K) (Post : Option mm_V → mm_S → Prop) (k0 kf : Nat) : mm_K := i_la 0 (i_oi (i_la 0 (i_new k0 rm_X8_init.cells rm_X8_init.slots 1 (i_dup (i_c 12 (i_ci k0 rm_X8_init.cells rm_X8_init.slots (rm_X1_init 12).cells (rm_X1_init 12).slots 1 (T_X1_init 12) (i_pr 7 0 (i_la 0 (i_new k0 rm_X8_init.cells rm_X8_init.slots 1 (i_dup (i_c 18 (i_ci k0 rm_X8_init.cells rm_X8_init.slots (rm_X1_init 18).cells (rm_X1_init 18).slots 1 (T_X1_init 18) (i_pr 7 1 (i_la 0 (i_new k0 rm_X8_init.cells rm_X8_init.slots 1 (i_dup (i_c 48 (i_ci k0 rm_X8_init.cells rm_X8_init.slots (rm_X1_init 48).cells (rm_X1_init 48).slots 1 (T_X1_init 48) (i_pr 7 2 (i_la 0 (i_c 12 (i_newa k0 rm_X8_init.cells rm_X8_init.slots 100 (i_pr 7 3 (i_la 0 (i_c 18 (i_newa k0 rm_X8_init.cells rm_X8_init.slots 100 (i_pr 7 4 (i_la 0 (i_c 18 (i_newa k0 rm_X8_init.cells rm_X8_init.slots 100 (i_pr 7 5 (i_la 0 (i_c 18 (i_newa k0 rm_X8_init.cells rm_X8_init.slots 100 (i_pr 7 6 (i_vr Post kf))))))))))))))))))))))))))))))))))))
def clo_X8_init (Ok : Nat → mm_K) (Post : Option mm_V → mm_S → Prop) (k0 kf : Nat) : Prop := mm_imp (b_X8_init_0 Ok Post k0 kf) (Ok 0)
set_option maxRecDepth 100000 in
set_option maxHeartbeats 4000000 in
theorem bk_X8_init {p : Program} {l : Launch} {e : Env} {s : State} {m : MethodId} {args : Array Value} {below : List Frame} {meth : Method} {c : Code} {G : mm_G} {σ0 : mm_S} {Post : Option mm_V → mm_S → Prop} {kf : Nat} (hC : mm_C p G s m args meth c cX8_init yX8_init.cls) (hX : mm_X s) (hr : meth.sig.returnType = none) (hin : meth.name = "<init>") (hkf : kf = σ0.2.2 + rm_X8_init.cells ∧ mm_ss kf = mm_ss σ0.2.2 + rm_X8_init.slots) : clo_X8_init (mm_O p l e rm_X8_init s m args below meth c G σ0.2.2 (MQ below (mm_Qc G σ0 rm_X8_init.cells rm_X8_init.slots Post) args s rm_X8_init.cells rm_X8_init.slots (mm_A G))) Post σ0.2.2 kf := (by unfold clo_X8_init b_X8_init_0; exact (mm_la_n hC dX8_init_0 rfl (mm_objI hC wd_151 wd_87 wd_88 ⟨by decide, by decide⟩ dX8_init_1 (mm_la_n hC dX8_init_4 rfl (mm_newo hC cl_1 wd_152 wd_153 wd_71 (by decide) (by decide +kernel) dX8_init_5 (mm_dup hC dX8_init_8 (mm_bp hC dX8_init_9 ⟨⟨by decide, by decide⟩, by decide⟩ (mm_ciX hC hX (sp_X1_init 12) rfl wd_154 wd_155 wd_156 wd_71 ⟨by decide, by decide, by decide +kernel⟩ ⟨by decide, by decide⟩ dX8_init_11 (mm_prF hC cl_7 (by decide) rfl rfl (fun _ => ⟨rfl, rfl⟩) hin rfl wd_165 dX8_init_14 (mm_la_n hC dX8_init_17 rfl (mm_newo hC cl_1 wd_152 wd_153 wd_71 (by decide) (by decide +kernel) dX8_init_18 (mm_dup hC dX8_init_21 (mm_bp hC dX8_init_22 ⟨⟨by decide, by decide⟩, by decide⟩ (mm_ciX hC hX (sp_X1_init 18) rfl wd_154 wd_155 wd_156 wd_71 ⟨by decide, by decide, by decide +kernel⟩ ⟨by decide, by decide⟩ dX8_init_24 (mm_prF hC cl_7 (by decide) rfl rfl (fun _ => ⟨rfl, rfl⟩) hin rfl wd_166 dX8_init_27 (mm_la_n hC dX8_init_30 rfl (mm_newo hC cl_1 wd_152 wd_153 wd_71 (by decide) (by decide +kernel) dX8_init_31 (mm_dup hC dX8_init_34 (mm_bp hC dX8_init_35 ⟨⟨by decide, by decide⟩, by decide⟩ (mm_ciX hC hX (sp_X1_init 48) rfl wd_154 wd_155 wd_156 wd_71 ⟨by decide, by decide, by decide +kernel⟩ ⟨by decide, by decide⟩ dX8_init_37 (mm_prF hC cl_7 (by decide) rfl rfl (fun _ => ⟨rfl, rfl⟩) hin rfl wd_167 dX8_init_40 (mm_la_n hC dX8_init_43 rfl (mm_bp hC dX8_init_44 ⟨⟨by decide, by decide⟩, by decide⟩ (mm_newi hC wd_115 dX8_init_46 (mm_prF hC cl_7 (by decide) rfl rfl (fun _ => ⟨rfl, rfl⟩) hin rfl wd_168 dX8_init_48 (mm_la_n hC dX8_init_51 rfl (mm_bp hC dX8_init_52 ⟨⟨by decide, by decide⟩, by decide⟩ (mm_newi hC wd_115 dX8_init_54 (mm_prF hC cl_7 (by decide) rfl rfl (fun _ => ⟨rfl, rfl⟩) hin rfl wd_171 dX8_init_56 (mm_la_n hC dX8_init_59 rfl (mm_bp hC dX8_init_60 ⟨⟨by decide, by decide⟩, by decide⟩ (mm_newi hC wd_115 dX8_init_62 (mm_prF hC cl_7 (by decide) rfl rfl (fun _ => ⟨rfl, rfl⟩) hin rfl wd_173 dX8_init_64 (mm_la_n hC dX8_init_67 rfl (mm_bp hC dX8_init_68 ⟨⟨by decide, by decide⟩, by decide⟩ (mm_newi hC wd_115 dX8_init_70 (mm_prF hC cl_7 (by decide) rfl rfl (fun _ => ⟨rfl, rfl⟩) hin rfl wd_175 dX8_init_72 (mm_vr hC hkf hr dX8_init_75))))))))))))))))))))))))))))))))))))))
theorem ss_X8_init : ∀ (av : List mm_V) (σ : mm_S) (Post : Option mm_V → mm_S → Prop), T_X8_init av σ Post → mm_ss (σ.2.2 + rm_X8_init.cells) = mm_ss σ.2.2 + rm_X8_init.slots := by
  intro av σ Post h'
  unfold T_X8_init at h'
  split at h'
  · obtain ⟨_, h1, _⟩ := h'
    rw [h1]
    decide +kernel
  · exact h'.elim
theorem sh_18a : (mm_sh 18).1 = 7 := by decide +kernel
set_option maxRecDepth 100000 in
set_option maxHeartbeats 8000000 in
theorem pv_X8_init : ∀ (av : List mm_V) (σ : mm_S) (Post : Option mm_V → mm_S → Prop), (∀ v ∈ av, mm_iv v) → (∀ a j, mm_in (σ.1 a j)) → σ.2.2 ≤ 348 → T_X8_init av σ Post → ∀ (Ok : Nat → mm_K) (kf : Nat), kf = σ.2.2 + rm_X8_init.cells → clo_X8_init Ok Post σ.2.2 kf → Ok 0 (av ++ List.replicate (1 - av.length) (.inr none)) [] σ := by
  intro av σ Post hav hin hk hT Ok kf hkf hcl
  obtain ⟨I, R, k⟩ := σ
  unfold T_X8_init at hT
  split at hT
  · rename_i a
    dsimp only at hkf hin hk hcl
    have c0 := hcl
    unfold clo_X8_init at c0
    obtain ⟨rfl, h1, h2, h3, h4, hP⟩ := hT
    dsimp only at h1 h4
    subst h1
    have X0 := k_0 (X := fun _ => False) (R := R) h4
    refine c0 _ _ _ ?_
    simp only [b_X8_init_0, i_new, i_newa, i_pr, i_aas, i_oi, i_ci, i_fix, i_xorg, i_shl, i_shr, i_ior, i_and1, i_lcg1, i_lcg2, i_ld, i_la, i_st, i_sa, i_c, i_inc, i_add, i_sub, i_mul, i_div, i_rem, i_remT, i_xor, i_dup, i_dup2, i_if, i_if2, i_sw, i_gi, i_gr, i_pi, i_pz, i_ial, i_ias, i_len, i_aal, i_gs, i_tal, i_cv, i_cs, i_ir, i_zr, i_vr, i_min, i_max, i_cpy, List.getElem?_cons_zero, List.getElem?_cons_succ, List.set_cons_zero, List.set_cons_succ, List.length_cons, List.length_nil, List.drop_succ_cons, List.drop_zero, List.take_succ_cons, List.take_zero, List.reverse_cons, List.reverse_nil, List.nil_append, List.cons_append, Option.toList_some, Option.toList_none, true_and, and_true, true_or, or_true, Nat.reduceAdd, Nat.reduceLT, Nat.reduceLeDiff, Option.some.injEq, exists_eq_left', Int.toNat_natCast, Nat.reduceSub, List.append_nil, List.replicate_succ, List.replicate_zero, rm_X8_init, rm_X1_init, new_k, sh_18a, T_X1_init, cT]
    repeat' refine And.intro ?_ ?_
    all_goals try first | rfl | omega | decide +kernel
    · exact fun j' => (new_kn j').2
    intro τ e1' e2' e3'
    obtain ⟨B1, S1, k1'⟩ := τ
    dsimp only at e1' e2' ⊢
    subst e1'
    have X1 := k_set (i := 0) (z := some 19) (k_call (cn := 2) X0 (by omega) e2' e3') (by decide +kernel)
    repeat' refine And.intro ?_ ?_
    all_goals try first | rfl | omega | decide +kernel
    · exact fun j' => (new_kn j').2
    intro τ f1' f2' f3'
    obtain ⟨B2, S2, k2'⟩ := τ
    dsimp only at f1' f2' ⊢
    subst f1'
    have X2 := k_set (i := 1) (z := some 21) (k_call (cn := 2) X1 (by omega) f2' f3') (by decide +kernel)
    repeat' refine And.intro ?_ ?_
    all_goals try first | rfl | omega | decide +kernel
    · exact fun j' => (new_kn j').2
    intro τ g1 g2 g3'
    obtain ⟨B3, S3, k3'⟩ := τ
    dsimp only at g1 g2 ⊢
    subst g1
    have X3 := k_set (i := 2) (z := some 23) (k_call (cn := 2) X2 (by omega) g2 g3') (by decide +kernel)
    have X4 := k_set (i := 3) (z := some 25) (k_arr X3 (by omega) (by decide +kernel)) (by decide +kernel)
    have X5 := k_set (i := 4) (z := some 26) (k_arr X4 (by omega) (by decide +kernel)) (by decide +kernel)
    have X6 := k_set (i := 5) (z := some 27) (k_arr X5 (by omega) (by decide +kernel)) (by decide +kernel)
    have X7 := k_set (i := 6) (z := some 28) (k_arr X6 (by omega) (by decide +kernel)) (by decide +kernel)
    have en := k_end (cn := 11) X7 (fun _ _ _ w' => w') (by omega) (by decide +kernel) (by decide +kernel) (by decide +kernel)
    repeat' refine And.intro ?_ ?_
    all_goals try first | rfl | omega | decide +kernel
    · rw [hkf]
      rfl
    exact hP (_, _, 29) rfl en.1 en.2
  · exact hT.elim
theorem sp_X8_init : mm_SpX yX8_init cX8_init 1 rm_X8_init (T_X8_init) := mm_methX (by decide) (by
  intro av σ Post h
  unfold T_X8_init at h
  split at h
  · simp
  · exact h.elim) (fun p l e s m args below meth c G av σ Post hC hX hr hnm hav hin hk hT => pv_X8_init av σ Post hav hin hk hT _ _ rfl (bk_X8_init hC hX hr hnm ⟨rfl, ss_X8_init av σ Post hT⟩))
def T_X9_init : mm_T := fun av σ Post => match av with
  | [.inr (some a)] => a = 1 ∧ cT 8 40 1 σ Post
  | _ => False
def rm_X9_init : Room := { frames := 3, cells := 39, slots := 1750, locals := 57 }
def b_X9_init_0 (Ok : Nat → mm_K) (Post : Option mm_V → mm_S → Prop) (k0 kf : Nat) : mm_K := i_la 0 (i_oi (i_la 0 (i_new k0 rm_X9_init.cells rm_X9_init.slots 9 (i_dup (i_ci k0 rm_X9_init.cells rm_X9_init.slots rm_X10_init.cells rm_X10_init.slots 0 T_X10_init (i_pr 8 0 (i_la 0 (i_new k0 rm_X9_init.cells rm_X9_init.slots 7 (i_dup (i_ci k0 rm_X9_init.cells rm_X9_init.slots rm_X8_init.cells rm_X8_init.slots 0 T_X8_init (i_pr 8 1 (i_la 0 (i_new k0 rm_X9_init.cells rm_X9_init.slots 4 (i_dup (i_ci k0 rm_X9_init.cells rm_X9_init.slots rm_X4_init.cells rm_X4_init.slots 0 T_X4_init (i_pr 8 2 (i_la 0 (i_new k0 rm_X9_init.cells rm_X9_init.slots 1 (i_dup (i_c 420 (i_ci k0 rm_X9_init.cells rm_X9_init.slots (rm_X1_init 420).cells (rm_X1_init 420).slots 1 (T_X1_init 420) (i_pr 8 3 (i_la 0 (i_new k0 rm_X9_init.cells rm_X9_init.slots 1 (i_dup (i_c 840 (i_ci k0 rm_X9_init.cells rm_X9_init.slots (rm_X1_init 840).cells (rm_X1_init 840).slots 1 (T_X1_init 840) (i_pr 8 4 (i_la 0 (i_c 21 (i_newa k0 rm_X9_init.cells rm_X9_init.slots 100 (i_pr 8 5 (i_la 0 (i_new k0 rm_X9_init.cells rm_X9_init.slots 6 (i_dup (i_ci k0 rm_X9_init.cells rm_X9_init.slots rm_X7_init.cells rm_X7_init.slots 0 T_X7_init (i_pr 8 6 (i_la 0 (i_new k0 rm_X9_init.cells rm_X9_init.slots 6 (i_dup (i_ci k0 rm_X9_init.cells rm_X9_init.slots rm_X7_init.cells rm_X7_init.slots 0 T_X7_init (i_pr 8 7 (i_la 0 (i_c 21 (i_newa k0 rm_X9_init.cells rm_X9_init.slots 100 (i_pr 8 8 (i_vr Post kf)))))))))))))))))))))))))))))))))))))))))))))))
def clo_X9_init (Ok : Nat → mm_K) (Post : Option mm_V → mm_S → Prop) (k0 kf : Nat) : Prop := mm_imp (b_X9_init_0 Ok Post k0 kf) (Ok 0)
set_option maxRecDepth 100000 in
set_option maxHeartbeats 4000000 in
theorem bk_X9_init {p : Program} {l : Launch} {e : Env} {s : State} {m : MethodId} {args : Array Value} {below : List Frame} {meth : Method} {c : Code} {G : mm_G} {σ0 : mm_S} {Post : Option mm_V → mm_S → Prop} {kf : Nat} (hC : mm_C p G s m args meth c cX9_init yX9_init.cls) (hX : mm_X s) (hr : meth.sig.returnType = none) (hin : meth.name = "<init>") (hkf : kf = σ0.2.2 + rm_X9_init.cells ∧ mm_ss kf = mm_ss σ0.2.2 + rm_X9_init.slots) : clo_X9_init (mm_O p l e rm_X9_init s m args below meth c G σ0.2.2 (MQ below (mm_Qc G σ0 rm_X9_init.cells rm_X9_init.slots Post) args s rm_X9_init.cells rm_X9_init.slots (mm_A G))) Post σ0.2.2 kf := (by unfold clo_X9_init b_X9_init_0; exact (mm_la_n hC dX9_init_0 rfl (mm_objI hC wd_94 wd_87 wd_88 ⟨by decide, by decide⟩ dX9_init_1 (mm_la_n hC dX9_init_4 rfl (mm_newo hC cl_9 wd_95 wd_96 wd_67 (by decide) (by decide +kernel) dX9_init_5 (mm_dup hC dX9_init_8 (mm_ciX hC hX sp_X10_init rfl wd_97 wd_98 wd_99 wd_67 ⟨by decide, by decide, by decide +kernel⟩ ⟨by decide, by decide⟩ dX9_init_9 (mm_prF hC cl_8 (by decide) rfl rfl (fun _ => ⟨rfl, rfl⟩) hin rfl wd_219 dX9_init_12 (mm_la_n hC dX9_init_15 rfl (mm_newo hC cl_7 wd_146 wd_147 wd_70 (by decide) (by decide +kernel) dX9_init_16 (mm_dup hC dX9_init_19 (mm_ciX hC hX sp_X8_init rfl wd_148 wd_149 wd_150 wd_70 ⟨by decide, by decide, by decide +kernel⟩ ⟨by decide, by decide⟩ dX9_init_20 (mm_prF hC cl_8 (by decide) rfl rfl (fun _ => ⟨rfl, rfl⟩) hin rfl wd_221 dX9_init_23 (mm_la_n hC dX9_init_26 rfl (mm_newo hC cl_4 wd_202 wd_203 wd_72 (by decide) (by decide +kernel) dX9_init_27 (mm_dup hC dX9_init_30 (mm_ciX hC hX sp_X4_init rfl wd_204 wd_205 wd_206 wd_72 ⟨by decide, by decide, by decide +kernel⟩ ⟨by decide, by decide⟩ dX9_init_31 (mm_prF hC cl_8 (by decide) rfl rfl (fun _ => ⟨rfl, rfl⟩) hin rfl wd_223 dX9_init_34 (mm_la_n hC dX9_init_37 rfl (mm_newo hC cl_1 wd_215 wd_153 wd_71 (by decide) (by decide +kernel) dX9_init_38 (mm_dup hC dX9_init_41 (mm_sp hC dX9_init_42 ⟨⟨by decide, by decide⟩, by decide⟩ (mm_ciX hC hX (sp_X1_init 420) rfl wd_216 wd_155 wd_156 wd_71 ⟨by decide, by decide, by decide +kernel⟩ ⟨by decide, by decide⟩ dX9_init_45 (mm_prF hC cl_8 (by decide) rfl rfl (fun _ => ⟨rfl, rfl⟩) hin rfl wd_224 dX9_init_48 (mm_la_n hC dX9_init_51 rfl (mm_newo hC cl_1 wd_215 wd_153 wd_71 (by decide) (by decide +kernel) dX9_init_52 (mm_dup hC dX9_init_55 (mm_sp hC dX9_init_56 ⟨⟨by decide, by decide⟩, by decide⟩ (mm_ciX hC hX (sp_X1_init 840) rfl wd_216 wd_155 wd_156 wd_71 ⟨by decide, by decide, by decide +kernel⟩ ⟨by decide, by decide⟩ dX9_init_59 (mm_prF hC cl_8 (by decide) rfl rfl (fun _ => ⟨rfl, rfl⟩) hin rfl wd_225 dX9_init_62 (mm_la_n hC dX9_init_65 rfl (mm_bp hC dX9_init_66 ⟨⟨by decide, by decide⟩, by decide⟩ (mm_newi hC wd_115 dX9_init_68 (mm_prF hC cl_8 (by decide) rfl rfl (fun _ => ⟨rfl, rfl⟩) hin rfl wd_226 dX9_init_70 (mm_la_n hC dX9_init_73 rfl (mm_newo hC cl_6 wd_217 wd_103 wd_68 (by decide) (by decide +kernel) dX9_init_74 (mm_dup hC dX9_init_77 (mm_ciX hC hX sp_X7_init rfl wd_218 wd_105 wd_106 wd_68 ⟨by decide, by decide, by decide +kernel⟩ ⟨by decide, by decide⟩ dX9_init_78 (mm_prF hC cl_8 (by decide) rfl rfl (fun _ => ⟨rfl, rfl⟩) hin rfl wd_227 dX9_init_81 (mm_la_n hC dX9_init_84 rfl (mm_newo hC cl_6 wd_217 wd_103 wd_68 (by decide) (by decide +kernel) dX9_init_85 (mm_dup hC dX9_init_88 (mm_ciX hC hX sp_X7_init rfl wd_218 wd_105 wd_106 wd_68 ⟨by decide, by decide, by decide +kernel⟩ ⟨by decide, by decide⟩ dX9_init_89 (mm_prF hC cl_8 (by decide) rfl rfl (fun _ => ⟨rfl, rfl⟩) hin rfl wd_228 dX9_init_92 (mm_la_n hC dX9_init_95 rfl (mm_bp hC dX9_init_96 ⟨⟨by decide, by decide⟩, by decide⟩ (mm_newi hC wd_115 dX9_init_98 (mm_prF hC cl_8 (by decide) rfl rfl (fun _ => ⟨rfl, rfl⟩) hin rfl wd_229 dX9_init_100 (mm_vr hC hkf hr dX9_init_103)))))))))))))))))))))))))))))))))))))))))))))))))
theorem ss_X9_init : ∀ (av : List mm_V) (σ : mm_S) (Post : Option mm_V → mm_S → Prop), T_X9_init av σ Post → mm_ss (σ.2.2 + rm_X9_init.cells) = mm_ss σ.2.2 + rm_X9_init.slots := by
  intro av σ Post h'
  unfold T_X9_init at h'
  split at h'
  · obtain ⟨_, h1, _⟩ := h'
    rw [h1]
    decide +kernel
  · exact h'.elim
theorem sh_1a : (mm_sh 1).1 = 8 := by decide +kernel
set_option maxRecDepth 100000 in
set_option maxHeartbeats 8000000 in
theorem pv_X9_init : ∀ (av : List mm_V) (σ : mm_S) (Post : Option mm_V → mm_S → Prop), (∀ v ∈ av, mm_iv v) → (∀ a j, mm_in (σ.1 a j)) → σ.2.2 ≤ 348 → T_X9_init av σ Post → ∀ (Ok : Nat → mm_K) (kf : Nat), kf = σ.2.2 + rm_X9_init.cells → clo_X9_init Ok Post σ.2.2 kf → Ok 0 (av ++ List.replicate (1 - av.length) (.inr none)) [] σ := by
  intro av σ Post hav hin hk hT Ok kf hkf hcl
  obtain ⟨I, R, k⟩ := σ
  unfold T_X9_init at hT
  split at hT
  · rename_i a
    dsimp only at hkf hin hk hcl
    have c0 := hcl
    unfold clo_X9_init at c0
    obtain ⟨rfl, h1, h2, h3, h4, hP⟩ := hT
    dsimp only at h1 h4
    subst h1
    have X0 := k_0 (X := fun _ => False) (R := R) h4
    refine c0 _ _ _ ?_
    simp only [b_X9_init_0, i_new, i_newa, i_pr, i_aas, i_oi, i_ci, i_fix, i_xorg, i_shl, i_shr, i_ior, i_and1, i_lcg1, i_lcg2, i_ld, i_la, i_st, i_sa, i_c, i_inc, i_add, i_sub, i_mul, i_div, i_rem, i_remT, i_xor, i_dup, i_dup2, i_if, i_if2, i_sw, i_gi, i_gr, i_pi, i_pz, i_ial, i_ias, i_len, i_aal, i_gs, i_tal, i_cv, i_cs, i_ir, i_zr, i_vr, i_min, i_max, i_cpy, List.getElem?_cons_zero, List.getElem?_cons_succ, List.set_cons_zero, List.set_cons_succ, List.length_cons, List.length_nil, List.drop_succ_cons, List.drop_zero, List.take_succ_cons, List.take_zero, List.reverse_cons, List.reverse_nil, List.nil_append, List.cons_append, Option.toList_some, Option.toList_none, true_and, and_true, true_or, or_true, Nat.reduceAdd, Nat.reduceLT, Nat.reduceLeDiff, Option.some.injEq, exists_eq_left', Int.toNat_natCast, Nat.reduceSub, List.append_nil, List.replicate_succ, List.replicate_zero, rm_X9_init, rm_X10_init, rm_X8_init, rm_X4_init, rm_X1_init, rm_X7_init, new_k, sh_1a, T_X10_init, T_X8_init, T_X4_init, T_X1_init, T_X7_init, cT]
    repeat' refine And.intro ?_ ?_
    all_goals try first | rfl | omega | decide +kernel
    · exact fun j' => (new_kn j').2
    intro τ e1' e2' e3'
    obtain ⟨B1, S1, k1'⟩ := τ
    dsimp only at e1' e2' ⊢
    subst e1'
    have X1 := k_set (i := 0) (z := some 2) (k_call (cn := 16) X0 (by omega) e2' e3') (by decide +kernel)
    repeat' refine And.intro ?_ ?_
    all_goals try first | rfl | omega | decide +kernel
    · exact fun j' => (new_kn j').2
    intro τ f1' f2' f3'
    obtain ⟨B2, S2, k2'⟩ := τ
    dsimp only at f1' f2' ⊢
    subst f1'
    have X2 := k_set (i := 1) (z := some 18) (k_call (cn := 11) X1 (by omega) f2' f3') (by decide +kernel)
    repeat' refine And.intro ?_ ?_
    all_goals try first | rfl | omega | decide +kernel
    · exact fun j' => (new_kn j').2
    intro τ g1 g2 g3'
    obtain ⟨B3, S3, k3'⟩ := τ
    dsimp only at g1 g2 ⊢
    subst g1
    have X3 := k_set (i := 2) (z := some 29) (k_call (cn := 2) X2 (by omega) g2 g3') (by decide +kernel)
    repeat' refine And.intro ?_ ?_
    all_goals try first | rfl | omega | decide +kernel
    · exact fun j' => (new_kn j').2
    intro τ i1' i2' i3'
    obtain ⟨B4, S4, k4'⟩ := τ
    dsimp only at i1' i2' ⊢
    subst i1'
    have X4 := k_set (i := 3) (z := some 31) (k_call (cn := 2) X3 (by omega) i2' i3') (by decide +kernel)
    repeat' refine And.intro ?_ ?_
    all_goals try first | rfl | omega | decide +kernel
    · exact fun j' => (new_kn j').2
    intro τ j1 j2' j3'
    obtain ⟨B5, S5, k5'⟩ := τ
    dsimp only at j1 j2' ⊢
    subst j1
    have X5 := k_set (i := 4) (z := some 33) (k_call (cn := 2) X4 (by omega) j2' j3') (by decide +kernel)
    have X6 := k_set (i := 5) (z := some 35) (k_arr X5 (by omega) (by decide +kernel)) (by decide +kernel)
    repeat' refine And.intro ?_ ?_
    all_goals try first | rfl | omega | decide +kernel
    · exact fun j' => (new_kn j').2
    intro τ l1 l2 l3
    obtain ⟨B7, S7, k7'⟩ := τ
    dsimp only at l1 l2 ⊢
    subst l1
    have X7 := k_set (i := 6) (z := some 36) (k_call (cn := 2) X6 (by omega) l2 l3) (by decide +kernel)
    repeat' refine And.intro ?_ ?_
    all_goals try first | rfl | omega | decide +kernel
    · exact fun j' => (new_kn j').2
    intro τ m1 m2 m3'
    obtain ⟨B8, S8, k8'⟩ := τ
    dsimp only at m1 m2 ⊢
    subst m1
    have X8 := k_set (i := 7) (z := some 38) (k_call (cn := 2) X7 (by omega) m2 m3') (by decide +kernel)
    have X9 := k_set (i := 8) (z := some 40) (k_arr X8 (by omega) (by decide +kernel)) (by decide +kernel)
    have en := k_end (cn := 40) X9 (fun _ _ _ w' => w') (by omega) (by decide +kernel) (by decide +kernel) (by decide +kernel)
    repeat' refine And.intro ?_ ?_
    all_goals try first | rfl | omega | decide +kernel
    · rw [hkf]
      rfl
    exact hP (_, _, 41) rfl en.1 en.2
  · exact hT.elim
theorem sp_X9_init : mm_SpX yX9_init cX9_init 1 rm_X9_init (T_X9_init) := mm_methX (by decide) (by
  intro av σ Post h
  unfold T_X9_init at h
  split at h
  · simp
  · exact h.elim) (fun p l e s m args below meth c G av σ Post hC hX hr hnm hav hin hk hT => pv_X9_init av σ Post hav hin hk hT _ _ rfl (bk_X9_init hC hX hr hnm ⟨rfl, ss_X9_init av σ Post hT⟩))
