/-! the other program's constructor
-/
def nwI (B : Nat → Nat → Int) (k' : Nat) : Nat → Nat → Int := fun b' i => if b' = k' then 0 else B b' i
def nwR (S : Nat → Nat → Option Nat) (k' : Nat) : Nat → Nat → Option Nat := fun b' i => if b' = k' then none else S b' i
theorem new_1 {B : Nat → Nat → Int} {S : Nat → Nat → Option Nat} {k' : Nat} : (mm_new (B, S, k')).1 = nwI B k' := rfl
theorem new_2 {B : Nat → Nat → Int} {S : Nat → Nat → Option Nat} {k' : Nat} : (mm_new (B, S, k')).2.1 = nwR S k' := rfl
theorem k_arn {a k' : Nat} {X : Nat → Prop} {L : List Nat} {A B : Nat → Nat → Int} {R S : Nat → Nat → Option Nat} (h' : acL a X L k' A B R S) (hk : a < k') (h1 : (mm_sh k').1 = 100 ∧ (mm_sh (k' - 1)).1 ≠ 9) : acL a X L (k' + 1) A (nwI B k') R (nwR S k') := k_arr h' hk h1
def T_X12_init : mm_T := fun av σ Post => match av with
  | [.inr (some a)] => a = 338 ∧ σ.2.2 = 339 ∧ (∀ j', σ.1 338 j' = 0) ∧ (∀ b', b' < 338 → ∀ j', rel b' j' → σ.2.1 b' j' = mm_Rs b' j') ∧
    ∀ J' : Nat → Nat → Int, (∀ b', b' < 338 → J' b' = σ.1 b') → (∀ j', J' 338 j' = 0) → J' 339 0 = 1 → (∀ i, i = 1 ∨ 26 ≤ i → J' 339 i = 0) → (∀ k', k' < 12 → J' 339 (2 + k') = -1) → Post none (J', mm_R0)
  | _ => False
def rm_X12_init : Room := { frames := 1, cells := 9, slots := 4277, locals := 21 }
def b_X12_init_0 (Ok : Nat → mm_K) (Post : Option mm_V → mm_S → Prop) (k0 kf : Nat) : mm_K := i_la 0 (i_oi (i_la 0 (i_c 2909 (i_newa k0 rm_X12_init.cells rm_X12_init.slots 100 (i_pr 11 0 (i_la 0 (i_c 2 (i_newa k0 rm_X12_init.cells rm_X12_init.slots 100 (i_pr 11 4 (i_la 0 (i_c 20 (i_newa k0 rm_X12_init.cells rm_X12_init.slots 100 (i_pr 11 5 (i_la 0 (i_c 20 (i_newa k0 rm_X12_init.cells rm_X12_init.slots 100 (i_pr 11 6 (i_la 0 (i_c 12 (i_newa k0 rm_X12_init.cells rm_X12_init.slots 100 (i_pr 11 8 (i_la 0 (i_c 18 (i_newa k0 rm_X12_init.cells rm_X12_init.slots 100 (i_pr 11 9 (i_la 0 (i_c 36 (i_newa k0 rm_X12_init.cells rm_X12_init.slots 100 (i_pr 11 10 (i_la 0 (i_c 420 (i_newa k0 rm_X12_init.cells rm_X12_init.slots 100 (i_pr 11 11 (i_la 0 (i_c 840 (i_newa k0 rm_X12_init.cells rm_X12_init.slots 100 (i_pr 11 12 (i_fix (i_la 0 (i_gr 11 0 (i_c 0 (i_c 1 (i_ias (i_la 0 (i_cv 11 0 T_X12_unglueAll (i_vr Post kf))))))))))))))))))))))))))))))))))))))))))))))
def clo_X12_init (Ok : Nat → mm_K) (Post : Option mm_V → mm_S → Prop) (k0 kf : Nat) : Prop := mm_imp (b_X12_init_0 Ok Post k0 kf) (Ok 0)
set_option maxRecDepth 100000 in
set_option maxHeartbeats 4000000 in
theorem bk_X12_init {p : Program} {l : Launch} {e : Env} {s : State} {m : MethodId} {args : Array Value} {below : List Frame} {meth : Method} {c : Code} {G : mm_G} {σ0 : mm_S} {Post : Option mm_V → mm_S → Prop} {kf : Nat} (hC : mm_C p G s m args meth c cX12_init yX12_init.cls) (hX : mm_X s) (hr : meth.sig.returnType = none) (hin : meth.name = "<init>") (hkf : kf = σ0.2.2 + rm_X12_init.cells ∧ mm_ss kf = mm_ss σ0.2.2 + rm_X12_init.slots) : clo_X12_init (mm_O p l e rm_X12_init s m args below meth c G σ0.2.2 (MQ below (mm_Qc G σ0 rm_X12_init.cells rm_X12_init.slots Post) args s rm_X12_init.cells rm_X12_init.slots (mm_A G))) Post σ0.2.2 kf := (by unfold clo_X12_init b_X12_init_0; exact (mm_la_n hC dX12_init_0 rfl (mm_objI hC wd_784 wd_87 wd_88 ⟨by decide, by decide⟩ dX12_init_1 (mm_la_n hC dX12_init_4 rfl (mm_sp hC dX12_init_5 ⟨⟨by decide, by decide⟩, by decide⟩ (mm_newi hC wd_115 dX12_init_8 (mm_prF hC cl_11 (by decide) rfl rfl (fun _ => ⟨rfl, rfl⟩) hin rfl wd_789 dX12_init_10 (mm_la_n hC dX12_init_13 rfl (mm_ic hC dX12_init_14 ⟨by decide, by decide⟩ (mm_newi hC wd_115 dX12_init_15 (mm_prF hC cl_11 (by decide) rfl rfl (fun _ => ⟨rfl, rfl⟩) hin rfl wd_793 dX12_init_17 (mm_la_n hC dX12_init_20 rfl (mm_bp hC dX12_init_21 ⟨⟨by decide, by decide⟩, by decide⟩ (mm_newi hC wd_115 dX12_init_23 (mm_prF hC cl_11 (by decide) rfl rfl (fun _ => ⟨rfl, rfl⟩) hin rfl wd_794 dX12_init_25 (mm_la_n hC dX12_init_28 rfl (mm_bp hC dX12_init_29 ⟨⟨by decide, by decide⟩, by decide⟩ (mm_newi hC wd_115 dX12_init_31 (mm_prF hC cl_11 (by decide) rfl rfl (fun _ => ⟨rfl, rfl⟩) hin rfl wd_795 dX12_init_33 (mm_la_n hC dX12_init_36 rfl (mm_bp hC dX12_init_37 ⟨⟨by decide, by decide⟩, by decide⟩ (mm_newi hC wd_115 dX12_init_39 (mm_prF hC cl_11 (by decide) rfl rfl (fun _ => ⟨rfl, rfl⟩) hin rfl wd_797 dX12_init_41 (mm_la_n hC dX12_init_44 rfl (mm_bp hC dX12_init_45 ⟨⟨by decide, by decide⟩, by decide⟩ (mm_newi hC wd_115 dX12_init_47 (mm_prF hC cl_11 (by decide) rfl rfl (fun _ => ⟨rfl, rfl⟩) hin rfl wd_798 dX12_init_49 (mm_la_n hC dX12_init_52 rfl (mm_bp hC dX12_init_53 ⟨⟨by decide, by decide⟩, by decide⟩ (mm_newi hC wd_115 dX12_init_55 (mm_prF hC cl_11 (by decide) rfl rfl (fun _ => ⟨rfl, rfl⟩) hin rfl wd_799 dX12_init_57 (mm_la_n hC dX12_init_60 rfl (mm_sp hC dX12_init_61 ⟨⟨by decide, by decide⟩, by decide⟩ (mm_newi hC wd_115 dX12_init_64 (mm_prF hC cl_11 (by decide) rfl rfl (fun _ => ⟨rfl, rfl⟩) hin rfl wd_800 dX12_init_66 (mm_la_n hC dX12_init_69 rfl (mm_sp hC dX12_init_70 ⟨⟨by decide, by decide⟩, by decide⟩ (mm_newi hC wd_115 dX12_init_73 (mm_prF hC cl_11 (by decide) rfl rfl (fun _ => ⟨rfl, rfl⟩) hin rfl wd_801 dX12_init_75 (mm_fix (mm_la_n hC dX12_init_78 rfl (mm_gr hC cl_11 (by decide) rfl wd_789 dX12_init_79 (mm_ic hC dX12_init_82 ⟨by decide, by decide⟩ (mm_ic hC dX12_init_83 ⟨by decide, by decide⟩ (mm_ias hC dX12_init_84 (mm_la_n hC dX12_init_85 rfl (mm_cv hC sp_X12_unglueAll ⟨rfl, rfl⟩ cl_11 wd_785 wd_787 wd_19 wd_788 wd_77 ⟨by decide, by decide, by decide +kernel⟩ ⟨by decide, by decide⟩ dX12_init_86 (mm_vr hC hkf hr dX12_init_89))))))))))))))))))))))))))))))))))))))))))))))))
theorem ss_X12_init : ∀ (av : List mm_V) (σ : mm_S) (Post : Option mm_V → mm_S → Prop), T_X12_init av σ Post → mm_ss (σ.2.2 + rm_X12_init.cells) = mm_ss σ.2.2 + rm_X12_init.slots := by
  intro av σ Post h'
  unfold T_X12_init at h'
  split at h'
  · obtain ⟨_, h1, _⟩ := h'
    rw [h1]
    decide +kernel
  · exact h'.elim
set_option maxRecDepth 100000 in
set_option maxHeartbeats 8000000 in
theorem pv_X12_init : ∀ (av : List mm_V) (σ : mm_S) (Post : Option mm_V → mm_S → Prop), (∀ v ∈ av, mm_iv v) → (∀ a j, mm_in (σ.1 a j)) → σ.2.2 ≤ 348 → T_X12_init av σ Post → ∀ (Ok : Nat → mm_K) (kf : Nat), kf = σ.2.2 + rm_X12_init.cells → clo_X12_init Ok Post σ.2.2 kf → Ok 0 (av ++ List.replicate (1 - av.length) (.inr none)) [] σ := by
  intro av σ Post hav hin hk hT Ok kf hkf hcl
  obtain ⟨I, R, k⟩ := σ
  unfold T_X12_init at hT
  split at hT
  · rename_i a
    dsimp only at hkf hin hk hcl
    have c0 := hcl
    unfold clo_X12_init at c0
    obtain ⟨rfl, h1, h4, hR, hP⟩ := hT
    dsimp only at h1 h4 hR hP
    subst h1
    have w0' := m0
    have w1' := m1
    have w2' := m2
    have X0 : acL 338 (fun _ => False) [] 339 I I R R := k_0 h4
    have X1 := k_set (i := 0) (z := some 339) (k_arn X0 (by omega) (by decide +kernel)) (by decide +kernel)
    have X2 := k_set (i := 4) (z := some 340) (k_arn X1 (by omega) (by decide +kernel)) (by decide +kernel)
    have X3 := k_set (i := 5) (z := some 341) (k_arn X2 (by omega) (by decide +kernel)) (by decide +kernel)
    have X4 := k_set (i := 6) (z := some 342) (k_arn X3 (by omega) (by decide +kernel)) (by decide +kernel)
    have X5 := k_set (i := 8) (z := some 343) (k_arn X4 (by omega) (by decide +kernel)) (by decide +kernel)
    have X6 := k_set (i := 9) (z := some 344) (k_arn X5 (by omega) (by decide +kernel)) (by decide +kernel)
    have X7 := k_set (i := 10) (z := some 345) (k_arn X6 (by omega) (by decide +kernel)) (by decide +kernel)
    have X8 := k_set (i := 11) (z := some 346) (k_arn X7 (by omega) (by decide +kernel)) (by decide +kernel)
    have X9 := k_set (i := 12) (z := some 347) (k_arn X8 (by omega) (by decide +kernel)) (by decide +kernel)
    obtain ⟨BB, hBB⟩ : ∃ BB, nwI (nwI (nwI (nwI (nwI (nwI (nwI (nwI (nwI I 339) 340) 341) 342) 343) 344) 345) 346) 347 = BB := ⟨_, rfl⟩
    have en := k_end (cn := 10) X9 (fun _ _ _ w' => w') (by omega) (by decide +kernel) (by decide +kernel) (by decide +kernel)
    refine c0 _ _ _ ?_
    simp only [b_X12_init_0, i_new, i_newa, i_pr, i_aas, i_oi, i_ci, i_fix, i_xorg, i_shl, i_shr, i_ior, i_and1, i_lcg1, i_lcg2, i_ld, i_la, i_st, i_sa, i_c, i_inc, i_add, i_sub, i_mul, i_div, i_rem, i_remT, i_xor, i_dup, i_dup2, i_if, i_if2, i_sw, i_gi, i_gr, i_pi, i_pz, i_ial, i_ias, i_len, i_aal, i_gs, i_tal, i_cv, i_cs, i_ir, i_zr, i_vr, i_min, i_max, i_cpy, List.getElem?_cons_zero, List.getElem?_cons_succ, List.set_cons_zero, List.set_cons_succ, List.length_cons, List.length_nil, List.drop_succ_cons, List.drop_zero, List.take_succ_cons, List.take_zero, List.reverse_cons, List.reverse_nil, List.nil_append, List.cons_append, Option.toList_some, Option.toList_none, true_and, and_true, true_or, or_true, Nat.reduceAdd, Nat.reduceLT, Nat.reduceLeDiff, Option.some.injEq, exists_eq_left', Int.toNat_natCast, Nat.reduceSub, List.append_nil, List.replicate_succ, List.replicate_zero, rm_X12_init, new_1, new_2, new_k, w0', w1', w2', t0, T_X12_unglueAll]
    repeat' refine And.intro ?_ ?_
    all_goals try first | rfl | omega | decide +kernel
    · intro b' hb' j' hj
      by_cases q' : b' < 338
      · rw [show _ = _ from congrFun (en.1 b' q').2 j']
        exact hR b' q' j' hj
      · exact (en.2 b' (by omega) (by omega)).2 j' hj
    · rw [hBB]
      intro J' f1' f2' f3'
      have eI : ∀ b', 338 ≤ b' → b' < 348 → ∀ j', BB b' j' = ini b' j' := fun b' h1 h2 j' => by rw [← hBB]; exact (en.2 b' h1 (by omega)).1 j'
      refine ⟨by rw [hkf]; rfl, hP J' (fun b' hb' => ?_) (fun j' => ?_) ?_ (fun i hi' => ?_) (fun k' hk => (f3' k' hk).1)⟩
      · rw [f1' b' (by omega), mset_ne (by omega), ← hBB]
        exact (en.1 b' hb').1
      · rw [f1' 338 (by omega), mset_ne (by omega), eI 338 (by omega) (by omega) j', ini_0 (by decide +kernel) (Or.inr (by decide +kernel))]
      · rw [f2' 0 (by omega), mset_eq]
      · rw [f2' i (by omega), mset_n2 (by omega), eI 339 (by omega) (by omega) i, ini_0 (by decide +kernel) (Or.inr (by decide +kernel))]
  · exact hT.elim
theorem sp_X12_init : mm_SpX yX12_init cX12_init 1 rm_X12_init (T_X12_init) := mm_methX (by decide) (by
  intro av σ Post h
  unfold T_X12_init at h
  split at h
  · simp
  · exact h.elim) (fun p l e s m args below meth c G av σ Post hC hX hr hnm hav hin hk hT => pv_X12_init av σ Post hav hin hk hT _ _ rfl (bk_X12_init hC hX hr hnm ⟨rfl, ss_X12_init av σ Post hT⟩))
