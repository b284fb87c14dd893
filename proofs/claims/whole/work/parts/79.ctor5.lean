/-! constructors: Past, PieceSurfaces, the other program
-/
theorem k_fin {a k : Nat} {X : Nat → Prop} {L : List Nat} {A B' : Nat → Nat → Int} {R S' : Nat → Nat → Option Nat} (h' : acL a X L k A B' R S') (hd' : ∀ b', a < b' → b' < k → X b' → (∀ j', B' b' j' = ini b' j') ∧ ∀ j', rel b' j' → S' b' j' = mm_Rs b' j') : acL a (fun _ => False) L k A B' R S' := by
  obtain ⟨⟨h1, h2, h3⟩, h4⟩ := h'
  refine ⟨⟨h1, h2, fun b' hb' hb2 _ => ?_⟩, h4⟩
  by_cases q' : X b'
  · exact hd' b' hb' hb2 q'
  · exact h3 b' hb' hb2 q'
theorem k_setx {a k y i : Nat} {X : Nat → Prop} {L : List Nat} {z : Option Nat} {A B' : Nat → Nat → Int} {R S' : Nat → Nat → Option Nat} (h' : acL a X L k A B' R S') (hy : X y ∧ a < y) : acL a X L k A B' R (mm_setR S' y i z) := by
  refine ⟨acc_set h'.1 (Or.inr hy), fun j' hj => ?_⟩
  show (if _ then _ else S' a j') = _
  rw [if_neg (by omega)]
  exact h'.2 j' hj
theorem k_eq {a k cn : Nat} {X : Nat → Prop} {L : List Nat} {A B' B1 : Nat → Nat → Int} {R S' S1 : Nat → Nat → Option Nat} {k1' : Nat} (h' : acL a X L k A B' R S') (hk : a < k) (f : ∀ b', b' < k → B1 b' = (mm_new (B', S', k)).1 b' ∧ S1 b' = (mm_new (B', S', k)).2.1 b') (g : ∀ b', k ≤ b' → b' < k + cn → dn (B1, S1, k1') b') : ∀ b', b' < k → B1 b' = B' b' ∧ S1 b' = S' b' := (acc_call (cn := cn) (τ := (B1, S1, k1')) h'.1 hk f g).2
theorem sh_ring : ∀ i, i < 16 → mm_sh (43 + 16 * i) = (9, 5) := by decide +kernel
theorem ss_ring : ∀ i, i < 17 → mm_ss (43 + 16 * i) = mm_ss 42 + 16 + 167 * i := by decide +kernel
theorem Rs_ring : ∀ i, i < 16 → mm_Rs 42 i = some (43 + 16 * i) := by decide +kernel
theorem sh_41b : (mm_sh 41).1 = 5 ∧ mm_sh 42 = (102, 16) ∧ mm_Rs 41 0 = some 42 := by decide +kernel
def T_X5_init : mm_T := fun av σ Post => match av with
  | [.inr (some a)] => a = 41 ∧ cT 5 258 41 σ Post
  | _ => False
def rm_X5_init : Room := { frames := 3, cells := 257, slots := 2688, locals := 57 }
def b_X5_init_0 (Ok : Nat → mm_K) (Post : Option mm_V → mm_S → Prop) (k0 kf : Nat) : mm_K := i_la 0 (i_oi (i_la 0 (i_c 16 (i_newa k0 rm_X5_init.cells rm_X5_init.slots 102 (i_pr 5 0 (i_c 0 (i_st 1 (Ok 15))))))))
def b_X5_init_15 (Ok : Nat → mm_K) (Post : Option mm_V → mm_S → Prop) (k0 kf : Nat) : mm_K := i_ld 1 (i_la 0 (i_gr 5 0 (i_len (i_if2 (fun x y => y ≤ x) (i_vr Post kf) (i_la 0 (i_gr 5 0 (i_ld 1 (i_new k0 rm_X5_init.cells rm_X5_init.slots 9 (i_dup (i_ci k0 rm_X5_init.cells rm_X5_init.slots rm_X10_init.cells rm_X10_init.slots 0 T_X10_init (i_aas 102 9 (i_inc 1 1 (Ok 15)))))))))))))
def clo_X5_init (Ok : Nat → mm_K) (Post : Option mm_V → mm_S → Prop) (k0 kf : Nat) : Prop := mm_imp (b_X5_init_0 Ok Post k0 kf) (Ok 0) ∧ mm_imp (b_X5_init_15 Ok Post k0 kf) (Ok 15)
set_option maxRecDepth 100000 in
set_option maxHeartbeats 4000000 in
theorem bk_X5_init {p : Program} {l : Launch} {e : Env} {s : State} {m : MethodId} {args : Array Value} {below : List Frame} {meth : Method} {c : Code} {G : mm_G} {σ0 : mm_S} {Post : Option mm_V → mm_S → Prop} {kf : Nat} (hC : mm_C p G s m args meth c cX5_init yX5_init.cls) (hX : mm_X s) (hr : meth.sig.returnType = none) (hin : meth.name = "<init>") (hkf : kf = σ0.2.2 + rm_X5_init.cells ∧ mm_ss kf = mm_ss σ0.2.2 + rm_X5_init.slots) : clo_X5_init (mm_O p l e rm_X5_init s m args below meth c G σ0.2.2 (MQ below (mm_Qc G σ0 rm_X5_init.cells rm_X5_init.slots Post) args s rm_X5_init.cells rm_X5_init.slots (mm_A G))) Post σ0.2.2 kf := ⟨(by unfold b_X5_init_0; exact (mm_la_n hC dX5_init_0 rfl (mm_objI hC wd_263 wd_87 wd_88 ⟨by decide, by decide⟩ dX5_init_1 (mm_la_n hC dX5_init_4 rfl (mm_bp hC dX5_init_5 ⟨⟨by decide, by decide⟩, by decide⟩ (mm_newr hC (t := 2) (by decide) rfl wd_264 hX.2.1 dX5_init_7 (mm_prF hC cl_5 (by decide) rfl rfl (fun _ => ⟨rfl, rfl⟩) hin rfl wd_267 dX5_init_10 (mm_ic hC dX5_init_13 ⟨by decide, by decide⟩ (mm_st_n hC dX5_init_14 rfl (fun _ _ _ h => h)))))))))), (by unfold b_X5_init_15; exact (mm_ld_n hC dX5_init_15 rfl (mm_la_n hC dX5_init_16 rfl (mm_gr hC cl_5 (by decide) rfl wd_267 dX5_init_17 (mm_len hC dX5_init_20 (mm_ic_ge hC (t := 43) dX5_init_21 (by decide) (mm_vr hC hkf hr dX5_init_43) (mm_la_n hC dX5_init_24 rfl (mm_gr hC cl_5 (by decide) rfl wd_267 dX5_init_25 (mm_ld_n hC dX5_init_28 rfl (mm_newo hC cl_9 wd_264 wd_96 wd_67 (by decide) (by decide +kernel) dX5_init_29 (mm_dup hC dX5_init_32 (mm_ciX hC hX sp_X10_init rfl wd_266 wd_98 wd_99 wd_67 ⟨by decide, by decide, by decide +kernel⟩ ⟨by decide, by decide⟩ dX5_init_33 (mm_aas hC (t := 2) cl_9 (by decide) rfl dX5_init_36 (mm_inc hC dX5_init_37 (mm_goto hC (t := 15) dX5_init_40 (by decide) (fun _ _ _ h => h))))))))))))))))⟩
theorem ss_X5_init : ∀ (av : List mm_V) (σ : mm_S) (Post : Option mm_V → mm_S → Prop), T_X5_init av σ Post → mm_ss (σ.2.2 + rm_X5_init.cells) = mm_ss σ.2.2 + rm_X5_init.slots := by
  intro av σ Post h'
  unfold T_X5_init at h'
  split at h'
  · obtain ⟨_, h1, _⟩ := h'
    rw [h1]
    decide +kernel
  · exact h'.elim
set_option maxRecDepth 100000 in
set_option maxHeartbeats 8000000 in
theorem pv_X5_init : ∀ (av : List mm_V) (σ : mm_S) (Post : Option mm_V → mm_S → Prop), (∀ v ∈ av, mm_iv v) → (∀ a j, mm_in (σ.1 a j)) → σ.2.2 ≤ 348 → T_X5_init av σ Post → ∀ (Ok : Nat → mm_K) (kf : Nat), kf = σ.2.2 + rm_X5_init.cells → clo_X5_init Ok Post σ.2.2 kf → Ok 0 (av ++ List.replicate (2 - av.length) (.inr none)) [] σ := by
  intro av σ Post hav hin hk hT Ok kf hkf hcl
  obtain ⟨I, R, k⟩ := σ
  unfold T_X5_init at hT
  split at hT
  · rename_i a
    dsimp only at hkf hin hk hcl
    obtain ⟨c0, c15⟩ := hcl
    obtain ⟨rfl, h1, h2, h3, h4, hP⟩ := hT
    dsimp only at h1 h4
    subst h1
    obtain ⟨s1', s2', s3'⟩ := sh_41b
    have loop' : ∀ (d' i : Nat) (B' : Nat → Nat → Int) (S' : Nat → Nat → Option Nat) (kk : Nat), i + d' = 16 → kk = 43 + 16 * i → acL 41 (fun b' => b' = 42) [0] kk I B' R S' → (∀ j', B' 42 j' = 0) → (∀ j', j' < i → S' 42 j' = mm_Rs 42 j') → Ok 15 [.inr (some 41), .inl (i : Int)] [] (B', S', kk) := by
      intro d'
      induction d' with
      | zero =>
        intro i B' S' kk hd' hkk hac hB' hS'
        have r4 : S' 41 0 = some 42 := by rw [hac.2 0 List.mem_cons_self, s3']
        refine c15 _ _ _ ?_
        simp only [b_X5_init_15, i_new, i_newa, i_pr, i_aas, i_oi, i_ci, i_fix, i_xorg, i_shl, i_shr, i_ior, i_and1, i_lcg1, i_lcg2, i_ld, i_la, i_st, i_sa, i_c, i_inc, i_add, i_sub, i_mul, i_div, i_rem, i_remT, i_xor, i_dup, i_dup2, i_if, i_if2, i_sw, i_gi, i_gr, i_pi, i_pz, i_ial, i_ias, i_len, i_aal, i_gs, i_tal, i_cv, i_cs, i_ir, i_zr, i_vr, i_min, i_max, i_cpy, List.getElem?_cons_zero, List.getElem?_cons_succ, List.set_cons_zero, List.set_cons_succ, List.length_cons, List.length_nil, List.drop_succ_cons, List.drop_zero, List.take_succ_cons, List.take_zero, List.reverse_cons, List.reverse_nil, List.nil_append, List.cons_append, Option.toList_some, Option.toList_none, true_and, and_true, true_or, or_true, Nat.reduceAdd, Nat.reduceLT, Nat.reduceLeDiff, Option.some.injEq, exists_eq_left', Int.toNat_natCast, Nat.reduceSub, List.append_nil, List.replicate_succ, List.replicate_zero, s1', s2', r4]
        have en := k_end (cn := 258) (k_fin hac (fun b' hb' hb2 hx => ?_)) (fun _ _ _ w' => w') (by omega) (by decide +kernel) (by decide +kernel) (by decide +kernel)
        · refine ⟨by omega, by omega, fun _ => ⟨by rw [hkf, hkk, show i = 16 by omega]; rfl, hP (B', S', kk) (by show kk = _; omega) en.1 en.2⟩, fun q' => by omega⟩
        · have hx : b' = 42 := hx
          subst hx
          refine ⟨fun j' => by rw [hB' j', ini_0 (by decide +kernel) (Or.inr (by decide +kernel))], fun j' hj => ?_⟩
          have := hj.1
          rw [s2'] at this
          exact hS' j' (by omega)
      | succ d' ih =>
        intro i B' S' kk hd' hkk hac hB' hS'
        have r4 : S' 41 0 = some 42 := by rw [hac.2 0 List.mem_cons_self, s3']
        have k9 := sh_ring i (by omega)
        have sk := ss_ring i (by omega)
        rw [← hkk] at k9 sk
        have sk1 := ss_1 kk
        rw [k9] at sk1
        dsimp only at sk1
        have k0' := ss_1 42
        refine c15 _ _ _ ?_
        simp only [b_X5_init_15, i_new, i_newa, i_pr, i_aas, i_oi, i_ci, i_fix, i_xorg, i_shl, i_shr, i_ior, i_and1, i_lcg1, i_lcg2, i_ld, i_la, i_st, i_sa, i_c, i_inc, i_add, i_sub, i_mul, i_div, i_rem, i_remT, i_xor, i_dup, i_dup2, i_if, i_if2, i_sw, i_gi, i_gr, i_pi, i_pz, i_ial, i_ias, i_len, i_aal, i_gs, i_tal, i_cv, i_cs, i_ir, i_zr, i_vr, i_min, i_max, i_cpy, List.getElem?_cons_zero, List.getElem?_cons_succ, List.set_cons_zero, List.set_cons_succ, List.length_cons, List.length_nil, List.drop_succ_cons, List.drop_zero, List.take_succ_cons, List.take_zero, List.reverse_cons, List.reverse_nil, List.nil_append, List.cons_append, Option.toList_some, Option.toList_none, true_and, and_true, true_or, or_true, Nat.reduceAdd, Nat.reduceLT, Nat.reduceLeDiff, Option.some.injEq, exists_eq_left', Int.toNat_natCast, Nat.reduceSub, List.append_nil, List.replicate_succ, List.replicate_zero, mm_in, s1', s2', r4, k9, new_k, T_X10_init, cT, rm_X5_init, rm_X10_init]
        refine ⟨by omega, by omega, fun q' => by omega, fun q' => ⟨by omega, ⟨by omega, by omega, by omega⟩, ⟨by omega, by omega, by omega⟩, by omega, fun j' => (new_kn j').2, fun τ e1' e2' e3' => ?_⟩⟩
        obtain ⟨B1, S1, k1'⟩ := τ
        dsimp only at e1' e2' ⊢
        subst e1'
        have ac := k_call (cn := 16) hac (by omega) e2' e3'
        have eqs := k_eq (cn := 16) hac (by omega) e2' e3'
        refine ⟨⟨⟨by omega, by omega, by omega⟩, by omega⟩, ⟨by omega, by omega⟩, ?_⟩
        have := ih (i + 1) B1 (mm_setR S1 42 i (some kk)) (kk + 16) (by omega) (by omega) (k_setx ac ⟨rfl, by omega⟩) (fun j' => by rw [(eqs 42 (by omega)).1]; exact hB' j') (fun j' hj => ?_)
        · rw [Int.natCast_add] at this
          exact this
        · rw [set_i]
          by_cases c' : j' = i
          · rw [if_pos c', hkk, c', Rs_ring i (by omega)]
          · rw [if_neg c', (eqs 42 (by omega)).2]
            exact hS' j' (by omega)
    have X0 := k_0 (X := fun b' => b' = 42) (R := R) h4
    have X1 := k_set (i := 0) (z := some 42) (k_new X0 (by omega) rfl) s3'
    refine c0 _ _ _ ?_
    simp only [b_X5_init_0, i_new, i_newa, i_pr, i_aas, i_oi, i_ci, i_fix, i_xorg, i_shl, i_shr, i_ior, i_and1, i_lcg1, i_lcg2, i_ld, i_la, i_st, i_sa, i_c, i_inc, i_add, i_sub, i_mul, i_div, i_rem, i_remT, i_xor, i_dup, i_dup2, i_if, i_if2, i_sw, i_gi, i_gr, i_pi, i_pz, i_ial, i_ias, i_len, i_aal, i_gs, i_tal, i_cv, i_cs, i_ir, i_zr, i_vr, i_min, i_max, i_cpy, List.getElem?_cons_zero, List.getElem?_cons_succ, List.set_cons_zero, List.set_cons_succ, List.length_cons, List.length_nil, List.drop_succ_cons, List.drop_zero, List.take_succ_cons, List.take_zero, List.reverse_cons, List.reverse_nil, List.nil_append, List.cons_append, Option.toList_some, Option.toList_none, true_and, and_true, true_or, or_true, Nat.reduceAdd, Nat.reduceLT, Nat.reduceLeDiff, Option.some.injEq, exists_eq_left', Int.toNat_natCast, Nat.reduceSub, List.append_nil, List.replicate_succ, List.replicate_zero, rm_X5_init, new_k, s1', s2']
    repeat' refine And.intro ?_ ?_
    all_goals try first | rfl | omega | decide +kernel
    refine loop' 16 0 _ _ _ (by omega) (by omega) X1 (fun j' => ?_) (fun j' hj => by omega)
    simp [mm_new]
  · exact hT.elim
theorem sp_X5_init : mm_SpX yX5_init cX5_init 2 rm_X5_init (T_X5_init) := mm_methX (by decide) (by
  intro av σ Post h
  unfold T_X5_init at h
  split at h
  · simp
  · exact h.elim) (fun p l e s m args below meth c G av σ Post hC hX hr hnm hav hin hk hT => pv_X5_init av σ Post hav hin hk hT _ _ rfl (bk_X5_init hC hX hr hnm ⟨rfl, ss_X5_init av σ Post hT⟩))
theorem sh_im : ∀ i, i < 2 → mm_sh (304 + 17 * i) = (3, 3) := by decide +kernel
theorem ss_im : ∀ i, i < 3 → mm_ss (304 + 17 * i) = mm_ss 303 + 2 + 170 * i := by decide +kernel
theorem Rs_im : ∀ i, i < 2 → mm_Rs 303 i = some (304 + 17 * i) := by decide +kernel
theorem sh_0b : (mm_sh 0).1 = 10 ∧ mm_sh 303 = (103, 2) ∧ mm_Rs 0 6 = some 303 ∧ (mm_sh 1).1 = 8 ∧ mm_Rs 0 2 = some 1 := by decide +kernel
theorem ss_303 : mm_ss 303 = mm_ss 1 + 4497 ∧ mm_ss 304 = mm_ss 1 + 4499 := by decide +kernel
def T_X11_init : mm_T := fun av σ Post => match av with
  | [.inr (some a)] => a = 0 ∧ cT 10 338 0 σ Post
  | _ => False
def rm_X11_init : Room := { frames := 4, cells := 337, slots := 4839, locals := 78 }
def b_X11_init_0 (Ok : Nat → mm_K) (Post : Option mm_V → mm_S → Prop) (k0 kf : Nat) : mm_K := i_la 0 (i_oi (i_la 0 (i_new k0 rm_X11_init.cells rm_X11_init.slots 8 (i_dup (i_ci k0 rm_X11_init.cells rm_X11_init.slots rm_X9_init.cells rm_X9_init.slots 0 T_X9_init (i_pr 10 2 (i_la 0 (i_la 0 (i_gr 10 2 (i_gr 8 0 (i_pr 10 0 (i_la 0 (i_la 0 (i_gr 10 2 (i_gr 8 1 (i_pr 10 1 (i_la 0 (i_new k0 rm_X11_init.cells rm_X11_init.slots 5 (i_dup (i_ci k0 rm_X11_init.cells rm_X11_init.slots rm_X5_init.cells rm_X5_init.slots 0 T_X5_init (i_pr 10 3 (i_la 0 (i_new k0 rm_X11_init.cells rm_X11_init.slots 0 (i_dup (i_ci k0 rm_X11_init.cells rm_X11_init.slots rm_X0_init.cells rm_X0_init.slots 0 T_X0_init (i_pr 10 4 (i_la 0 (i_new k0 rm_X11_init.cells rm_X11_init.slots 2 (i_dup (i_ci k0 rm_X11_init.cells rm_X11_init.slots rm_X2_init.cells rm_X2_init.slots 0 T_X2_init (i_pr 10 5 (i_la 0 (i_c 2 (i_newa k0 rm_X11_init.cells rm_X11_init.slots 103 (i_pr 10 6 (i_c 0 (i_st 1 (Ok 80))))))))))))))))))))))))))))))))))))))
def b_X11_init_80 (Ok : Nat → mm_K) (Post : Option mm_V → mm_S → Prop) (k0 kf : Nat) : mm_K := i_ld 1 (i_la 0 (i_gr 10 6 (i_len (i_if2 (fun x y => y ≤ x) (i_vr Post kf) (i_la 0 (i_gr 10 6 (i_ld 1 (i_new k0 rm_X11_init.cells rm_X11_init.slots 3 (i_dup (i_ci k0 rm_X11_init.cells rm_X11_init.slots rm_X3_init.cells rm_X3_init.slots 0 T_X3_init (i_aas 103 3 (i_inc 1 1 (Ok 80)))))))))))))
def clo_X11_init (Ok : Nat → mm_K) (Post : Option mm_V → mm_S → Prop) (k0 kf : Nat) : Prop := mm_imp (b_X11_init_0 Ok Post k0 kf) (Ok 0) ∧ mm_imp (b_X11_init_80 Ok Post k0 kf) (Ok 80)
set_option maxRecDepth 100000 in
set_option maxHeartbeats 4000000 in
theorem bk_X11_init {p : Program} {l : Launch} {e : Env} {s : State} {m : MethodId} {args : Array Value} {below : List Frame} {meth : Method} {c : Code} {G : mm_G} {σ0 : mm_S} {Post : Option mm_V → mm_S → Prop} {kf : Nat} (hC : mm_C p G s m args meth c cX11_init yX11_init.cls) (hX : mm_X s) (hr : meth.sig.returnType = none) (hin : meth.name = "<init>") (hkf : kf = σ0.2.2 + rm_X11_init.cells ∧ mm_ss kf = mm_ss σ0.2.2 + rm_X11_init.slots) : clo_X11_init (mm_O p l e rm_X11_init s m args below meth c G σ0.2.2 (MQ below (mm_Qc G σ0 rm_X11_init.cells rm_X11_init.slots Post) args s rm_X11_init.cells rm_X11_init.slots (mm_A G))) Post σ0.2.2 kf := ⟨(by unfold b_X11_init_0; exact (mm_la_n hC dX11_init_0 rfl (mm_objI hC wd_86 wd_87 wd_88 ⟨by decide, by decide⟩ dX11_init_1 (mm_la_n hC dX11_init_4 rfl (mm_newo hC cl_8 wd_89 wd_90 wd_66 (by decide) (by decide +kernel) dX11_init_5 (mm_dup hC dX11_init_8 (mm_ciX hC hX sp_X9_init rfl wd_91 wd_92 wd_93 wd_66 ⟨by decide, by decide, by decide +kernel⟩ ⟨by decide, by decide⟩ dX11_init_9 (mm_prF hC cl_10 (by decide) rfl rfl (fun _ => ⟨rfl, rfl⟩) hin rfl wd_329 dX11_init_12 (mm_la_n hC dX11_init_15 rfl (mm_la_n hC dX11_init_16 rfl (mm_gr hC cl_10 (by decide) rfl wd_329 dX11_init_17 (mm_gr hC cl_8 (by decide) rfl wd_220 dX11_init_20 (mm_prF hC cl_10 (by decide) rfl rfl (fun _ => ⟨rfl, rfl⟩) hin rfl wd_327 dX11_init_23 (mm_la_n hC dX11_init_26 rfl (mm_la_n hC dX11_init_27 rfl (mm_gr hC cl_10 (by decide) rfl wd_329 dX11_init_28 (mm_gr hC cl_8 (by decide) rfl wd_222 dX11_init_31 (mm_prF hC cl_10 (by decide) rfl rfl (fun _ => ⟨rfl, rfl⟩) hin rfl wd_328 dX11_init_34 (mm_la_n hC dX11_init_37 rfl (mm_newo hC cl_5 wd_258 wd_259 wd_73 (by decide) (by decide +kernel) dX11_init_38 (mm_dup hC dX11_init_41 (mm_ciX hC hX sp_X5_init rfl wd_260 wd_261 wd_262 wd_73 ⟨by decide, by decide, by decide +kernel⟩ ⟨by decide, by decide⟩ dX11_init_42 (mm_prF hC cl_10 (by decide) rfl rfl (fun _ => ⟨rfl, rfl⟩) hin rfl wd_330 dX11_init_45 (mm_la_n hC dX11_init_48 rfl (mm_newo hC cl_0 wd_278 wd_279 wd_74 (by decide) (by decide +kernel) dX11_init_49 (mm_dup hC dX11_init_52 (mm_ciX hC hX sp_X0_init rfl wd_280 wd_281 wd_282 wd_74 ⟨by decide, by decide, by decide +kernel⟩ ⟨by decide, by decide⟩ dX11_init_53 (mm_prF hC cl_10 (by decide) rfl rfl (fun _ => ⟨rfl, rfl⟩) hin rfl wd_331 dX11_init_56 (mm_la_n hC dX11_init_59 rfl (mm_newo hC cl_2 wd_295 wd_296 wd_75 (by decide) (by decide +kernel) dX11_init_60 (mm_dup hC dX11_init_63 (mm_ciN hC hX sp_X2_init rfl hX.2.2.2 wd_298 wd_299 wd_75 ⟨by decide, by decide, by decide +kernel⟩ ⟨by decide, by decide⟩ dX11_init_64 (mm_prF hC cl_10 (by decide) rfl rfl (fun _ => ⟨rfl, rfl⟩) hin rfl wd_332 dX11_init_67 (mm_la_n hC dX11_init_70 rfl (mm_ic hC dX11_init_71 ⟨by decide, by decide⟩ (mm_newr hC (t := 3) (by decide) rfl wd_307 hX.2.2.1 dX11_init_72 (mm_prF hC cl_10 (by decide) rfl rfl (fun _ => ⟨rfl, rfl⟩) hin rfl wd_333 dX11_init_75 (mm_ic hC dX11_init_78 ⟨by decide, by decide⟩ (mm_st_n hC dX11_init_79 rfl (fun _ _ _ h => h)))))))))))))))))))))))))))))))))))))))), (by unfold b_X11_init_80; exact (mm_ld_n hC dX11_init_80 rfl (mm_la_n hC dX11_init_81 rfl (mm_gr hC cl_10 (by decide) rfl wd_333 dX11_init_82 (mm_len hC dX11_init_85 (mm_ic_ge hC (t := 108) dX11_init_86 (by decide) (mm_vr hC hkf hr dX11_init_108) (mm_la_n hC dX11_init_89 rfl (mm_gr hC cl_10 (by decide) rfl wd_333 dX11_init_90 (mm_ld_n hC dX11_init_93 rfl (mm_newo hC cl_3 wd_307 wd_309 wd_76 (by decide) (by decide +kernel) dX11_init_94 (mm_dup hC dX11_init_97 (mm_ciX hC hX sp_X3_init rfl wd_310 wd_311 wd_312 wd_76 ⟨by decide, by decide, by decide +kernel⟩ ⟨by decide, by decide⟩ dX11_init_98 (mm_aas hC (t := 3) cl_3 (by decide) rfl dX11_init_101 (mm_inc hC dX11_init_102 (mm_goto hC (t := 80) dX11_init_105 (by decide) (fun _ _ _ h => h))))))))))))))))⟩
theorem ss_X11_init : ∀ (av : List mm_V) (σ : mm_S) (Post : Option mm_V → mm_S → Prop), T_X11_init av σ Post → mm_ss (σ.2.2 + rm_X11_init.cells) = mm_ss σ.2.2 + rm_X11_init.slots := by
  intro av σ Post h'
  unfold T_X11_init at h'
  split at h'
  · obtain ⟨_, h1, _⟩ := h'
    rw [h1]
    decide +kernel
  · exact h'.elim
set_option maxRecDepth 100000 in
set_option maxHeartbeats 8000000 in
theorem pv_X11_init : ∀ (av : List mm_V) (σ : mm_S) (Post : Option mm_V → mm_S → Prop), (∀ v ∈ av, mm_iv v) → (∀ a j, mm_in (σ.1 a j)) → σ.2.2 ≤ 348 → T_X11_init av σ Post → ∀ (Ok : Nat → mm_K) (kf : Nat), kf = σ.2.2 + rm_X11_init.cells → clo_X11_init Ok Post σ.2.2 kf → Ok 0 (av ++ List.replicate (2 - av.length) (.inr none)) [] σ := by
  intro av σ Post hav hin hk hT Ok kf hkf hcl
  obtain ⟨I, R, k⟩ := σ
  unfold T_X11_init at hT
  split at hT
  · rename_i a
    dsimp only at hkf hin hk hcl
    obtain ⟨c0, c80⟩ := hcl
    obtain ⟨rfl, h1, h2, h3, h4, hP⟩ := hT
    dsimp only at h1 h4
    subst h1
    obtain ⟨s1', s2', s3', s4', s5⟩ := sh_0b
    have loop' : ∀ (d' i : Nat) (B' : Nat → Nat → Int) (S' : Nat → Nat → Option Nat) (kk : Nat), i + d' = 2 → kk = 304 + 17 * i → acL 0 (fun b' => b' = 303) [6, 5, 4, 3, 1, 0, 2] kk I B' R S' → (∀ j', B' 303 j' = 0) → (∀ j', j' < i → S' 303 j' = mm_Rs 303 j') → Ok 80 [.inr (some 0), .inl (i : Int)] [] (B', S', kk) := by
      intro d'
      induction d' with
      | zero =>
        intro i B' S' kk hd' hkk hac hB' hS'
        have r4 : S' 0 6 = some 303 := by rw [hac.2 6 List.mem_cons_self, s3']
        refine c80 _ _ _ ?_
        simp only [b_X11_init_80, i_new, i_newa, i_pr, i_aas, i_oi, i_ci, i_fix, i_xorg, i_shl, i_shr, i_ior, i_and1, i_lcg1, i_lcg2, i_ld, i_la, i_st, i_sa, i_c, i_inc, i_add, i_sub, i_mul, i_div, i_rem, i_remT, i_xor, i_dup, i_dup2, i_if, i_if2, i_sw, i_gi, i_gr, i_pi, i_pz, i_ial, i_ias, i_len, i_aal, i_gs, i_tal, i_cv, i_cs, i_ir, i_zr, i_vr, i_min, i_max, i_cpy, List.getElem?_cons_zero, List.getElem?_cons_succ, List.set_cons_zero, List.set_cons_succ, List.length_cons, List.length_nil, List.drop_succ_cons, List.drop_zero, List.take_succ_cons, List.take_zero, List.reverse_cons, List.reverse_nil, List.nil_append, List.cons_append, Option.toList_some, Option.toList_none, true_and, and_true, true_or, or_true, Nat.reduceAdd, Nat.reduceLT, Nat.reduceLeDiff, Option.some.injEq, exists_eq_left', Int.toNat_natCast, Nat.reduceSub, List.append_nil, List.replicate_succ, List.replicate_zero, s1', s2', r4]
        have en := k_end (cn := 338) (k_fin hac (fun b' hb' hb2 hx => ?_)) (fun _ _ _ w' => w') (by omega) (by decide +kernel) (by decide +kernel) (by decide +kernel)
        · refine ⟨by omega, by omega, fun _ => ⟨by rw [hkf, hkk, show i = 2 by omega]; rfl, hP (B', S', kk) (by show kk = _; omega) en.1 en.2⟩, fun q' => by omega⟩
        · have hx : b' = 303 := hx
          subst hx
          refine ⟨fun j' => by rw [hB' j', ini_0 (by decide +kernel) (Or.inr (by decide +kernel))], fun j' hj => ?_⟩
          have := hj.1
          rw [s2'] at this
          exact hS' j' (by omega)
      | succ d' ih =>
        intro i B' S' kk hd' hkk hac hB' hS'
        have r4 : S' 0 6 = some 303 := by rw [hac.2 6 List.mem_cons_self, s3']
        have k9 := sh_im i (by omega)
        have sk := ss_im i (by omega)
        rw [← hkk] at k9 sk
        have sk1 := ss_1 kk
        rw [k9] at sk1
        dsimp only at sk1
        have sk3 := ss_303.1
        refine c80 _ _ _ ?_
        simp only [b_X11_init_80, i_new, i_newa, i_pr, i_aas, i_oi, i_ci, i_fix, i_xorg, i_shl, i_shr, i_ior, i_and1, i_lcg1, i_lcg2, i_ld, i_la, i_st, i_sa, i_c, i_inc, i_add, i_sub, i_mul, i_div, i_rem, i_remT, i_xor, i_dup, i_dup2, i_if, i_if2, i_sw, i_gi, i_gr, i_pi, i_pz, i_ial, i_ias, i_len, i_aal, i_gs, i_tal, i_cv, i_cs, i_ir, i_zr, i_vr, i_min, i_max, i_cpy, List.getElem?_cons_zero, List.getElem?_cons_succ, List.set_cons_zero, List.set_cons_succ, List.length_cons, List.length_nil, List.drop_succ_cons, List.drop_zero, List.take_succ_cons, List.take_zero, List.reverse_cons, List.reverse_nil, List.nil_append, List.cons_append, Option.toList_some, Option.toList_none, true_and, and_true, true_or, or_true, Nat.reduceAdd, Nat.reduceLT, Nat.reduceLeDiff, Option.some.injEq, exists_eq_left', Int.toNat_natCast, Nat.reduceSub, List.append_nil, List.replicate_succ, List.replicate_zero, mm_in, s1', s2', r4, k9, new_k, T_X3_init, cT, rm_X11_init, rm_X3_init]
        refine ⟨by omega, by omega, fun q' => by omega, fun q' => ⟨by omega, ⟨by omega, by omega, by omega⟩, ⟨by omega, by omega, by omega⟩, by omega, fun j' => (new_kn j').2, fun τ e1' e2' e3' => ?_⟩⟩
        obtain ⟨B1, S1, k1'⟩ := τ
        dsimp only at e1' e2' ⊢
        subst e1'
        have ac := k_call (cn := 17) hac (by omega) e2' e3'
        have eqs := k_eq (cn := 17) hac (by omega) e2' e3'
        refine ⟨⟨⟨by omega, by omega, by omega⟩, by omega⟩, ⟨by omega, by omega⟩, ?_⟩
        have := ih (i + 1) B1 (mm_setR S1 303 i (some kk)) (kk + 17) (by omega) (by omega) (k_setx ac ⟨rfl, by omega⟩) (fun j' => by rw [(eqs 303 (by omega)).1]; exact hB' j') (fun j' hj => ?_)
        · rw [Int.natCast_add] at this
          exact this
        · rw [set_i]
          by_cases c' : j' = i
          · rw [if_pos c', hkk, c', Rs_im i (by omega)]
          · rw [if_neg c', (eqs 303 (by omega)).2]
            exact hS' j' (by omega)
    have X0 := k_0 (X := fun b' => b' = 303) (R := R) h4
    refine c0 _ _ _ ?_
    simp only [b_X11_init_0, i_new, i_newa, i_pr, i_aas, i_oi, i_ci, i_fix, i_xorg, i_shl, i_shr, i_ior, i_and1, i_lcg1, i_lcg2, i_ld, i_la, i_st, i_sa, i_c, i_inc, i_add, i_sub, i_mul, i_div, i_rem, i_remT, i_xor, i_dup, i_dup2, i_if, i_if2, i_sw, i_gi, i_gr, i_pi, i_pz, i_ial, i_ias, i_len, i_aal, i_gs, i_tal, i_cv, i_cs, i_ir, i_zr, i_vr, i_min, i_max, i_cpy, List.getElem?_cons_zero, List.getElem?_cons_succ, List.set_cons_zero, List.set_cons_succ, List.length_cons, List.length_nil, List.drop_succ_cons, List.drop_zero, List.take_succ_cons, List.take_zero, List.reverse_cons, List.reverse_nil, List.nil_append, List.cons_append, Option.toList_some, Option.toList_none, true_and, and_true, true_or, or_true, Nat.reduceAdd, Nat.reduceLT, Nat.reduceLeDiff, Option.some.injEq, exists_eq_left', Int.toNat_natCast, Nat.reduceSub, List.append_nil, List.replicate_succ, List.replicate_zero, rm_X11_init, rm_X9_init, rm_X5_init, rm_X0_init, rm_X2_init, new_k, s1', s4', T_X9_init, T_X5_init, T_X0_init, T_X2_init, cT]
    repeat' refine And.intro ?_ ?_
    all_goals try first | rfl | omega | decide +kernel
    · exact fun j' => (new_kn j').2
    intro τ e1' e2' e3'
    obtain ⟨B1, S1, k1'⟩ := τ
    dsimp only at e1' e2' ⊢
    subst e1'
    have X1 := k_set (i := 2) (z := some 1) (k_call (cn := 40) X0 (by omega) e2' e3') (by decide +kernel)
    have q0 : S1 1 0 = some 2 := ((e3' 1 (by omega) (by omega)).2 0 ⟨by decide +kernel, Or.inl (by decide +kernel)⟩).trans (by decide +kernel)
    have q1' : S1 1 1 = some 18 := ((e3' 1 (by omega) (by omega)).2 1 ⟨by decide +kernel, Or.inl (by decide +kernel)⟩).trans (by decide +kernel)
    have X2 := k_set (i := 0) (z := some 2) X1 (by decide +kernel)
    have X3 := k_set (i := 1) (z := some 18) X2 (by decide +kernel)
    refine ⟨by omega, by omega, 1, by rw [set_i, if_pos rfl], by omega, 2, ?_, by omega, by omega, 1, ?_, by omega, 18, ?_, ?_⟩
    · rw [show mm_setR S1 0 2 (some 1) 1 0 = S1 1 0 by unfold mm_setR; rw [if_neg (by omega)]]
      exact q0
    · rw [set_i, if_neg (by omega), set_i, if_pos rfl]
    · rw [show mm_setR (mm_setR S1 0 2 (some 1)) 0 0 (some 2) 1 1 = S1 1 1 by unfold mm_setR; rw [if_neg (by omega), if_neg (by omega)]]
      exact q1'
    repeat' refine And.intro ?_ ?_
    all_goals try first | rfl | omega | decide +kernel
    · exact fun j' => (new_kn j').2
    intro τ f1' f2' f3'
    obtain ⟨B2, S2, k2'⟩ := τ
    dsimp only at f1' f2' ⊢
    subst f1'
    have X4 := k_set (i := 3) (z := some 41) (k_call (cn := 258) X3 (by omega) f2' f3') (by decide +kernel)
    repeat' refine And.intro ?_ ?_
    all_goals try first | rfl | omega | decide +kernel
    · exact fun j' => (new_kn j').2
    intro τ g1 g2 g3'
    obtain ⟨B3, S3, k3'⟩ := τ
    dsimp only at g1 g2 ⊢
    subst g1
    have X5 := k_set (i := 4) (z := some 299) (k_call (cn := 3) X4 (by omega) g2 g3') (by decide +kernel)
    repeat' refine And.intro ?_ ?_
    all_goals try first | rfl | omega | decide +kernel
    · exact fun j' => (new_kn j').2
    intro τ i1' i2' i3'
    obtain ⟨B4, S4, k4'⟩ := τ
    dsimp only at i1' i2' ⊢
    subst i1'
    have X6 := k_set (i := 5) (z := some 302) (k_call (cn := 1) X5 (by omega) i2' i3') (by decide +kernel)
    have X7 := k_set (i := 6) (z := some 303) (k_new X6 (by omega) rfl) (by decide +kernel)
    repeat' refine And.intro ?_ ?_
    all_goals try first | rfl | omega | decide +kernel
    refine loop' 2 0 _ _ _ (by omega) (by omega) X7 (fun j' => ?_) (fun j' hj => by omega)
    simp [mm_new]
  · exact hT.elim
theorem sp_X11_init : mm_SpX yX11_init cX11_init 2 rm_X11_init (T_X11_init) := mm_methX (by decide) (by
  intro av σ Post h
  unfold T_X11_init at h
  split at h
  · simp
  · exact h.elim) (fun p l e s m args below meth c G av σ Post hC hX hr hnm hav hin hk hT => pv_X11_init av σ Post hav hin hk hT _ _ rfl (bk_X11_init hC hX hr hnm ⟨rfl, ss_X11_init av σ Post hT⟩))
