/-! constructors: World, Image
-/
theorem tb_c9 : ∀ a, a < 348 → (mm_sh a).1 = 9 → (mm_sh (a - 1)).1 ≠ 9 ∧ mm_sh a = (9, 5) := by decide +kernel
theorem ssw {a : Nat} (ha : a < 348) (h' : (mm_sh a).1 = 9) : mm_ss (a + 2) = mm_ss (a + 1) + 12 ∧ mm_ss (a + 3) = mm_ss (a + 1) + 24 ∧ ∀ i', i' ≤ 6 → mm_ss (a + 4 + 2 * i') = mm_ss (a + 1) + 30 + 22 * i' := by
  obtain ⟨w1', w2', w3', w4', w5⟩ := sh_world a ha h'
  have e1' := ss_1 (a + 1)
  have e2' := ss_1 (a + 2)
  have e3' := ss_1 (a + 3)
  rw [w2'] at e1'
  rw [w3'] at e2'
  rw [w4'] at e3'
  dsimp only at e1' e2' e3'
  refine ⟨e1', by rw [show a + 3 = a + 2 + 1 by omega, e2', show a + 2 = a + 1 + 1 by omega, e1'], fun i' => ?_⟩
  induction i' with
  | zero =>
    intro _
    show mm_ss (a + 3 + 1) = _
    rw [e3', show a + 3 = a + 2 + 1 by omega, e2', show a + 2 = a + 1 + 1 by omega, e1']
  | succ i' ih =>
    intro hi'
    have f1' := ss_1 (a + 4 + 2 * i')
    have f2' := ss_1 (a + 5 + 2 * i')
    rw [(w5 i' (by omega)).1] at f1'
    rw [(w5 i' (by omega)).2] at f2'
    dsimp only at f1' f2'
    rw [show a + 4 + 2 * (i' + 1) = a + 5 + 2 * i' + 1 by omega, f2', show a + 5 + 2 * i' = a + 4 + 2 * i' + 1 by omega, f1', ih (by omega)]
    omega
def T_X10_init : mm_T := fun av σ Post => match av with
  | [.inr (some a)] => cT 9 16 a σ Post
  | _ => False
def rm_X10_init : Room := { frames := 2, cells := 15, slots := 162, locals := 36 }
def b_X10_init_0 (Ok : Nat → mm_K) (Post : Option mm_V → mm_S → Prop) (k0 kf : Nat) : mm_K := i_la 0 (i_oi (i_la 0 (i_c 12 (i_newa k0 rm_X10_init.cells rm_X10_init.slots 100 (i_pr 9 2 (i_la 0 (i_c 12 (i_newa k0 rm_X10_init.cells rm_X10_init.slots 100 (i_pr 9 3 (i_la 0 (i_c 6 (i_newa k0 rm_X10_init.cells rm_X10_init.slots 101 (i_pr 9 4 (i_c 0 (i_st 1 (Ok 31))))))))))))))))
def b_X10_init_31 (Ok : Nat → mm_K) (Post : Option mm_V → mm_S → Prop) (k0 kf : Nat) : mm_K := i_ld 1 (i_la 0 (i_gr 9 4 (i_len (i_if2 (fun x y => y ≤ x) (i_la 0 (i_c 1 (i_pi 9 0 (i_la 0 (i_gr 9 2 (i_c (-1) (i_cs 2 T_J7_fillG (i_vr Post kf)))))))) (i_la 0 (i_gr 9 4 (i_ld 1 (i_new k0 rm_X10_init.cells rm_X10_init.slots 6 (i_dup (i_ci k0 rm_X10_init.cells rm_X10_init.slots rm_X7_init.cells rm_X7_init.slots 0 T_X7_init (i_aas 101 6 (i_inc 1 1 (Ok 31)))))))))))))
def clo_X10_init (Ok : Nat → mm_K) (Post : Option mm_V → mm_S → Prop) (k0 kf : Nat) : Prop := mm_imp (b_X10_init_0 Ok Post k0 kf) (Ok 0) ∧ mm_imp (b_X10_init_31 Ok Post k0 kf) (Ok 31)
set_option maxRecDepth 100000 in
set_option maxHeartbeats 4000000 in
theorem bk_X10_init {p : Program} {l : Launch} {e : Env} {s : State} {m : MethodId} {args : Array Value} {below : List Frame} {meth : Method} {c : Code} {G : mm_G} {σ0 : mm_S} {Post : Option mm_V → mm_S → Prop} {kf : Nat} (hC : mm_C p G s m args meth c cX10_init yX10_init.cls) (hX : mm_X s) (hr : meth.sig.returnType = none) (hin : meth.name = "<init>") (hkf : kf = σ0.2.2 + rm_X10_init.cells ∧ mm_ss kf = mm_ss σ0.2.2 + rm_X10_init.slots) : clo_X10_init (mm_O p l e rm_X10_init s m args below meth c G σ0.2.2 (MQ below (mm_Qc G σ0 rm_X10_init.cells rm_X10_init.slots Post) args s rm_X10_init.cells rm_X10_init.slots (mm_A G))) Post σ0.2.2 kf := ⟨(by unfold b_X10_init_0; exact (mm_la_n hC dX10_init_0 rfl (mm_objI hC wd_100 wd_87 wd_88 ⟨by decide, by decide⟩ dX10_init_1 (mm_la_n hC dX10_init_4 rfl (mm_bp hC dX10_init_5 ⟨⟨by decide, by decide⟩, by decide⟩ (mm_newi hC wd_115 dX10_init_7 (mm_prF hC cl_9 (by decide) rfl rfl (fun _ => ⟨rfl, rfl⟩) hin rfl wd_126 dX10_init_9 (mm_la_n hC dX10_init_12 rfl (mm_bp hC dX10_init_13 ⟨⟨by decide, by decide⟩, by decide⟩ (mm_newi hC wd_115 dX10_init_15 (mm_prF hC cl_9 (by decide) rfl rfl (fun _ => ⟨rfl, rfl⟩) hin rfl wd_130 dX10_init_17 (mm_la_n hC dX10_init_20 rfl (mm_bp hC dX10_init_21 ⟨⟨by decide, by decide⟩, by decide⟩ (mm_newr hC (t := 1) (by decide) rfl wd_101 hX.1 dX10_init_23 (mm_prF hC cl_9 (by decide) rfl rfl (fun _ => ⟨rfl, rfl⟩) hin rfl wd_132 dX10_init_26 (mm_ic hC dX10_init_29 ⟨by decide, by decide⟩ (mm_st_n hC dX10_init_30 rfl (fun _ _ _ h => h)))))))))))))))))), (by unfold b_X10_init_31; exact (mm_ld_n hC dX10_init_31 rfl (mm_la_n hC dX10_init_32 rfl (mm_gr hC cl_9 (by decide) rfl wd_132 dX10_init_33 (mm_len hC dX10_init_36 (mm_ic_ge hC (t := 59) dX10_init_37 (by decide) (mm_la_n hC dX10_init_59 rfl (mm_ic hC dX10_init_60 ⟨by decide, by decide⟩ (mm_pi hC cl_9 (by decide) rfl rfl rfl wd_119 dX10_init_61 (mm_la_n hC dX10_init_64 rfl (mm_gr hC cl_9 (by decide) rfl wd_126 dX10_init_65 (mm_ic hC dX10_init_68 ⟨by decide, by decide⟩ (mm_cs hC sp_J7_fillG ⟨rfl, rfl⟩ wd_116 wd_117 wd_118 wd_69 ⟨by decide, by decide, by decide +kernel⟩ ⟨by decide, by decide⟩ dX10_init_69 (mm_vr hC hkf hr dX10_init_72)))))))) (mm_la_n hC dX10_init_40 rfl (mm_gr hC cl_9 (by decide) rfl wd_132 dX10_init_41 (mm_ld_n hC dX10_init_44 rfl (mm_newo hC cl_6 wd_101 wd_103 wd_68 (by decide) (by decide +kernel) dX10_init_45 (mm_dup hC dX10_init_48 (mm_ciX hC hX sp_X7_init rfl wd_104 wd_105 wd_106 wd_68 ⟨by decide, by decide, by decide +kernel⟩ ⟨by decide, by decide⟩ dX10_init_49 (mm_aas hC (t := 1) cl_6 (by decide) rfl dX10_init_52 (mm_inc hC dX10_init_53 (mm_goto hC (t := 31) dX10_init_56 (by decide) (fun _ _ _ h => h))))))))))))))))⟩
theorem ss_X10_init : ∀ (av : List mm_V) (σ : mm_S) (Post : Option mm_V → mm_S → Prop), T_X10_init av σ Post → mm_ss (σ.2.2 + rm_X10_init.cells) = mm_ss σ.2.2 + rm_X10_init.slots := by
  intro av σ Post h'
  unfold T_X10_init at h'
  split at h'
  · rename_i a
    obtain ⟨h1, h2, h3, _⟩ := h'
    have t' := (ssw (a := a) (by omega) h3).2.2 6 (by omega)
    show mm_ss (σ.2.2 + 15) = mm_ss σ.2.2 + 162
    rw [h1, show a + 1 + 15 = a + 4 + 2 * 6 by omega, t']
  · exact h'.elim
set_option maxRecDepth 100000 in
set_option maxHeartbeats 8000000 in
theorem pv_X10_init : ∀ (av : List mm_V) (σ : mm_S) (Post : Option mm_V → mm_S → Prop), (∀ v ∈ av, mm_iv v) → (∀ a j, mm_in (σ.1 a j)) → σ.2.2 ≤ 348 → T_X10_init av σ Post → ∀ (Ok : Nat → mm_K) (kf : Nat), kf = σ.2.2 + rm_X10_init.cells → clo_X10_init Ok Post σ.2.2 kf → Ok 0 (av ++ List.replicate (2 - av.length) (.inr none)) [] σ := by
  intro av σ Post hav hin hk hT Ok kf hkf hcl
  obtain ⟨I, R, k⟩ := σ
  unfold T_X10_init at hT
  split at hT
  · rename_i a
    dsimp only at hkf hin hk hcl
    obtain ⟨c0, c31⟩ := hcl
    obtain ⟨h1, h2, h3, h4, hP⟩ := hT
    dsimp only at h1 h4
    subst h1
    obtain ⟨t1, t2⟩ := tb_c9 a (by omega) h3
    obtain ⟨s1', s2', s3'⟩ := ssw (a := a) (by omega) h3
    obtain ⟨w1', w2', w3', w4', w5⟩ := sh_world a (by omega) h3
    have loop' : ∀ (d' i' : Nat) (B' : Nat → Nat → Int) (S' : Nat → Nat → Option Nat) (kk : Nat), i' + d' = 6 → kk = a + 4 + 2 * i' → acc a (fun b' => b' = a + 1 ∨ b' = a + 3) kk I B' R S' → S' a 2 = some (a + 1) → S' a 3 = some (a + 2) → S' a 4 = some (a + 3) → (∀ j, B' (a + 1) j = 0) → (∀ j, B' (a + 3) j = 0) → (∀ j, j < i' → S' (a + 3) j = some (a + 4 + 2 * j)) → Ok 31 [.inr (some a), .inl (i' : Int)] [] (B', S', kk) := by
      intro d'
      induction d' with
      | zero =>
        intro i' B' S' kk hd' hkk hac r2 r3 r4 z1 z3 hS'
        have hi' : i' = 6 := by omega
        subst hi'
        refine c31 _ _ _ ?_
        simp only [b_X10_init_31, i_new, i_newa, i_pr, i_aas, i_oi, i_ci, i_fix, i_xorg, i_shl, i_shr, i_ior, i_and1, i_lcg1, i_lcg2, i_ld, i_la, i_st, i_sa, i_c, i_inc, i_add, i_sub, i_mul, i_div, i_rem, i_remT, i_xor, i_dup, i_dup2, i_if, i_if2, i_sw, i_gi, i_gr, i_pi, i_pz, i_ial, i_ias, i_len, i_aal, i_gs, i_tal, i_cv, i_cs, i_ir, i_zr, i_vr, i_min, i_max, i_cpy, List.getElem?_cons_zero, List.getElem?_cons_succ, List.set_cons_zero, List.set_cons_succ, List.length_cons, List.length_nil, List.drop_succ_cons, List.drop_zero, List.take_succ_cons, List.take_zero, List.reverse_cons, List.reverse_nil, List.nil_append, List.cons_append, Option.toList_some, Option.toList_none, true_and, and_true, true_or, or_true, Nat.reduceAdd, Nat.reduceLT, Nat.reduceLeDiff, Option.some.injEq, exists_eq_left', Int.toNat_natCast, Nat.reduceSub, List.append_nil, List.replicate_succ, List.replicate_zero, mm_in, h3, r4, r2, w4', w2', T_J7_fillG]
        refine ⟨by omega, by omega, fun _ => ⟨by omega, by omega, by omega, fun I2' f1' f2' f3' => ⟨by rw [hkf, hkk]; rfl, ?_⟩⟩, fun q' => by omega⟩
        obtain ⟨a1', a2, a3⟩ := hac
        refine hP (I2', S', kk) (by show kk = _; omega) (fun b' hb' => ?_) (fun b' hb' hb2 => ?_)
        · refine ⟨?_, (a1' b' hb').2⟩
          show I2' b' = _
          rw [f1' b' (by omega), mset_ne (by omega)]
          exact (a1' b' hb').1
        · by_cases q0 : b' = a
          · subst q0
            refine ⟨fun j => ?_, fun j hj => ?_⟩
            · show I2' b' j = _
              rw [f1' b' (by omega), mset_i]
              unfold ini
              by_cases q' : j = 0
              · rw [if_pos q', if_pos ⟨h3, q'⟩]
              · rw [if_neg q', if_neg (fun w' => q' w'.2), if_neg (fun w' => t1 w'.2.1)]
                exact a2 j
            · unfold rel at hj
              rw [t2] at hj
              have hj3 : 2 ≤ j := by
                rcases hj.2 with w' | w'
                · have := w'.2
                  simp [mm_rf] at this
                  exact this
                · omega
              show S' b' j = _
              rw [Rs_world h3]
              have hj5 : j < 5 := hj.1
              rcases (show j = 2 ∨ j = 3 ∨ j = 4 by omega) with rfl | rfl | rfl
              · exact r2
              · exact r3
              · exact r4
          · by_cases q1' : b' = a + 1
            · subst q1'
              refine ⟨fun j => ?_, fun j hj => absurd hj (rel_100 (by rw [w2']) j)⟩
              show I2' (a + 1) j = _
              unfold ini
              rw [w2', Nat.add_sub_cancel]
              by_cases q' : j < 12
              · rw [f2' j q', if_neg (by omega), if_pos ⟨by omega, h3, q'⟩]
              · rw [f3' j (by omega), mset_ne (by omega), if_neg (by omega), if_neg (fun w' => q' w'.2.2)]
                exact z1 j
            · by_cases q3' : b' = a + 3
              · subst q3'
                refine ⟨fun j => ?_, fun j hj => ?_⟩
                · show I2' (a + 3) j = _
                  rw [f1' _ (by omega), mset_ne (by omega), ini_0 (by rw [w4']; decide) (Or.inr (by rw [show a + 3 - 1 = a + 2 by omega, w3']; decide))]
                  exact z3 j
                · unfold rel at hj
                  rw [w4'] at hj
                  show S' (a + 3) j = _
                  rw [Rs_sheets (by rw [w4']), hS' j hj.1]
              · have := a3 b' (by omega) (by omega) (by omega)
                refine ⟨fun j => ?_, this.2⟩
                show I2' b' j = _
                rw [f1' b' (by omega), mset_ne q0]
                exact this.1 j
      | succ d' ih =>
        intro i' B' S' kk hd' hkk hac r2 r3 r4 z1 z3 hS'
        have k6' := (w5 i' (by omega)).1
        rw [← hkk] at k6'
        have sk := s3' i' (by omega)
        rw [← hkk] at sk
        have sk1 := ss_1 kk
        rw [k6'] at sk1
        dsimp only at sk1
        have r4n : (mm_new (B', S', kk)).2.1 a 4 = some (a + 3) := by rw [new_a (by omega)]; exact r4
        refine c31 _ _ _ ?_
        simp only [b_X10_init_31, i_new, i_newa, i_pr, i_aas, i_oi, i_ci, i_fix, i_xorg, i_shl, i_shr, i_ior, i_and1, i_lcg1, i_lcg2, i_ld, i_la, i_st, i_sa, i_c, i_inc, i_add, i_sub, i_mul, i_div, i_rem, i_remT, i_xor, i_dup, i_dup2, i_if, i_if2, i_sw, i_gi, i_gr, i_pi, i_pz, i_ial, i_ias, i_len, i_aal, i_gs, i_tal, i_cv, i_cs, i_ir, i_zr, i_vr, i_min, i_max, i_cpy, List.getElem?_cons_zero, List.getElem?_cons_succ, List.set_cons_zero, List.set_cons_succ, List.length_cons, List.length_nil, List.drop_succ_cons, List.drop_zero, List.take_succ_cons, List.take_zero, List.reverse_cons, List.reverse_nil, List.nil_append, List.cons_append, Option.toList_some, Option.toList_none, true_and, and_true, true_or, or_true, Nat.reduceAdd, Nat.reduceLT, Nat.reduceLeDiff, Option.some.injEq, exists_eq_left', Int.toNat_natCast, Nat.reduceSub, List.append_nil, List.replicate_succ, List.replicate_zero, mm_in, h3, r4, r4n, w4', k6', new_k, T_X7_init, cT, rm_X10_init, rm_X7_init]
        refine ⟨by omega, by omega, fun q' => by omega, fun q' => ⟨by omega, ⟨by omega, by omega, by omega⟩, ⟨by omega, by omega, by omega⟩, by omega, fun j => (new_kn j).2, fun τ e1' e2' e3' => ?_⟩⟩
        obtain ⟨ac, eq⟩ := acc_call (cn := 2) hac (by omega) (fun b' hb' => ⟨(e2' b' hb').1, (e2' b' hb').2⟩) e3'
        rw [e1']
        refine ⟨⟨⟨by omega, by omega, by omega⟩, by omega⟩, ⟨by omega, by omega⟩, ?_⟩
        have := ih (i' + 1) τ.1 (mm_setR τ.2.1 (a + 3) i' (some kk)) (kk + 2) (by omega) (by omega) (acc_set ac (Or.inr ⟨Or.inr rfl, by omega⟩)) ?_ ?_ ?_ (fun j => by rw [(eq (a + 1) (by omega)).1]; exact z1 j) (fun j => by rw [(eq (a + 3) (by omega)).1]; exact z3 j) (fun j hj => ?_)
        · rw [Int.natCast_add] at this
          exact this
        · show (if _ then _ else τ.2.1 a 2) = _
          rw [if_neg (by omega), (eq a (by omega)).2]
          exact r2
        · show (if _ then _ else τ.2.1 a 3) = _
          rw [if_neg (by omega), (eq a (by omega)).2]
          exact r3
        · show (if _ then _ else τ.2.1 a 4) = _
          rw [if_neg (by omega), (eq a (by omega)).2]
          exact r4
        · rw [set_i]
          by_cases c' : j = i'
          · rw [if_pos c', hkk, c']
          · rw [if_neg c', (eq (a + 3) (by omega)).2]
            exact hS' j (by omega)
    have k2' : a + 1 + 1 = a + 2 := by omega
    have k3' : a + 1 + 1 + 1 = a + 3 := by omega
    have e4' : mm_ss (a + 1 + 1 + 1 + 1) = mm_ss (a + 1) + 30 := s3' 0 (by omega)
    have X1 : acc a (fun b' => b' = a + 1 ∨ b' = a + 3) (a + 1) I I R R := acc_0 h4
    have X2 := acc_set (y := a) (j := 2) (z := some (a + 1)) (acc_new X1 (by omega) (Or.inl (Or.inl rfl))) (Or.inl rfl)
    have X3 := acc_set (y := a) (j := 3) (z := some (a + 1 + 1)) (acc_arr X2 (by omega) (by rw [k2', w3']) (by rw [Nat.add_sub_cancel, w2']; decide)) (Or.inl rfl)
    have X4 := acc_set (y := a) (j := 4) (z := some (a + 1 + 1 + 1)) (acc_new X3 (by omega) (Or.inl (Or.inr k3'))) (Or.inl rfl)
    refine c0 _ _ _ ?_
    simp only [b_X10_init_0, i_new, i_newa, i_pr, i_aas, i_oi, i_ci, i_fix, i_xorg, i_shl, i_shr, i_ior, i_and1, i_lcg1, i_lcg2, i_ld, i_la, i_st, i_sa, i_c, i_inc, i_add, i_sub, i_mul, i_div, i_rem, i_remT, i_xor, i_dup, i_dup2, i_if, i_if2, i_sw, i_gi, i_gr, i_pi, i_pz, i_ial, i_ias, i_len, i_aal, i_gs, i_tal, i_cv, i_cs, i_ir, i_zr, i_vr, i_min, i_max, i_cpy, List.getElem?_cons_zero, List.getElem?_cons_succ, List.set_cons_zero, List.set_cons_succ, List.length_cons, List.length_nil, List.drop_succ_cons, List.drop_zero, List.take_succ_cons, List.take_zero, List.reverse_cons, List.reverse_nil, List.nil_append, List.cons_append, Option.toList_some, Option.toList_none, true_and, and_true, true_or, or_true, Nat.reduceAdd, Nat.reduceLT, Nat.reduceLeDiff, Option.some.injEq, exists_eq_left', Int.toNat_natCast, Nat.reduceSub, List.append_nil, List.replicate_succ, List.replicate_zero, rm_X10_init, new_k, h3]
    refine ⟨⟨by rw [w2']; rfl, by omega, by omega, by omega, by rw [k2', s1']; omega⟩, by omega, ⟨by rw [k2', w3']; rfl, by omega, by omega, by omega, by rw [k3', s2']; omega⟩, by omega, ⟨by rw [k3', w4']; rfl, by omega, by omega, by omega, by rw [e4']; omega⟩, by omega, ?_⟩
    refine loop' 6 0 _ _ _ (by omega) (by omega) X4 ?_ ?_ ?_ (fun j => ?_) (fun j => ?_) (fun j hj => by omega)
    · rw [set_i, if_neg (by omega), new_a (by omega), set_i, if_neg (by omega), new_a (by omega), set_i, if_pos rfl]
    · rw [set_i, if_neg (by omega), new_a (by omega), set_i, if_pos rfl]
    · rw [set_i, if_pos rfl]
    · simp [mm_new]
    · simp [mm_new]
  · exact hT.elim
theorem sp_X10_init : mm_SpX yX10_init cX10_init 2 rm_X10_init (T_X10_init) := mm_methX (by decide) (by
  intro av σ Post h
  unfold T_X10_init at h
  split at h
  · simp
  · exact h.elim) (fun p l e s m args below meth c G av σ Post hC hX hr hnm hav hin hk hT => pv_X10_init av σ Post hav hin hk hT _ _ rfl (bk_X10_init hC hX hr hnm ⟨rfl, ss_X10_init av σ Post hT⟩))
theorem tb_c3 : ∀ a, a < 348 → (mm_sh a).1 = 3 → (mm_sh (a - 1)).1 ≠ 9 ∧ mm_sh a = (3, 3) ∧ (mm_sh (a + 1)).1 = 9 ∧ mm_sh (a + 1) = (9, 5) ∧ mm_Rs a 0 = some (a + 1) := by decide +kernel
def T_X3_init : mm_T := fun av σ Post => match av with
  | [.inr (some a)] => cT 3 17 a σ Post
  | _ => False
def rm_X3_init : Room := { frames := 3, cells := 16, slots := 167, locals := 57 }
def b_X3_init_0 (Ok : Nat → mm_K) (Post : Option mm_V → mm_S → Prop) (k0 kf : Nat) : mm_K := i_la 0 (i_oi (i_la 0 (i_new k0 rm_X3_init.cells rm_X3_init.slots 9 (i_dup (i_ci k0 rm_X3_init.cells rm_X3_init.slots rm_X10_init.cells rm_X10_init.slots 0 T_X10_init (i_pr 3 0 (i_vr Post kf)))))))
def clo_X3_init (Ok : Nat → mm_K) (Post : Option mm_V → mm_S → Prop) (k0 kf : Nat) : Prop := mm_imp (b_X3_init_0 Ok Post k0 kf) (Ok 0)
set_option maxRecDepth 100000 in
set_option maxHeartbeats 4000000 in
theorem bk_X3_init {p : Program} {l : Launch} {e : Env} {s : State} {m : MethodId} {args : Array Value} {below : List Frame} {meth : Method} {c : Code} {G : mm_G} {σ0 : mm_S} {Post : Option mm_V → mm_S → Prop} {kf : Nat} (hC : mm_C p G s m args meth c cX3_init yX3_init.cls) (hX : mm_X s) (hr : meth.sig.returnType = none) (hin : meth.name = "<init>") (hkf : kf = σ0.2.2 + rm_X3_init.cells ∧ mm_ss kf = mm_ss σ0.2.2 + rm_X3_init.slots) : clo_X3_init (mm_O p l e rm_X3_init s m args below meth c G σ0.2.2 (MQ below (mm_Qc G σ0 rm_X3_init.cells rm_X3_init.slots Post) args s rm_X3_init.cells rm_X3_init.slots (mm_A G))) Post σ0.2.2 kf := (by unfold clo_X3_init b_X3_init_0; exact (mm_la_n hC dX3_init_0 rfl (mm_objI hC wd_313 wd_87 wd_88 ⟨by decide, by decide⟩ dX3_init_1 (mm_la_n hC dX3_init_4 rfl (mm_newo hC cl_9 wd_314 wd_96 wd_67 (by decide) (by decide +kernel) dX3_init_5 (mm_dup hC dX3_init_8 (mm_ciX hC hX sp_X10_init rfl wd_315 wd_98 wd_99 wd_67 ⟨by decide, by decide, by decide +kernel⟩ ⟨by decide, by decide⟩ dX3_init_9 (mm_prF hC cl_3 (by decide) rfl rfl (fun _ => ⟨rfl, rfl⟩) hin rfl wd_316 dX3_init_12 (mm_vr hC hkf hr dX3_init_15)))))))))
theorem ss_X3_init : ∀ (av : List mm_V) (σ : mm_S) (Post : Option mm_V → mm_S → Prop), T_X3_init av σ Post → mm_ss (σ.2.2 + rm_X3_init.cells) = mm_ss σ.2.2 + rm_X3_init.slots := by
  intro av σ Post h'
  unfold T_X3_init at h'
  split at h'
  · rename_i a
    obtain ⟨h1, h2, h3, _⟩ := h'
    obtain ⟨t1, t2, t3', t4', t5'⟩ := tb_c3 a (by omega) h3
    have t' := (ssw (a := a + 1) (by omega) t3').2.2 6 (by omega)
    have e1' := ss_1 (a + 1)
    rw [t4'] at e1'
    dsimp only at e1'
    show mm_ss (σ.2.2 + 16) = mm_ss σ.2.2 + 167
    rw [h1, show a + 1 + 16 = a + 1 + 4 + 2 * 6 by omega, t', e1']
  · exact h'.elim
set_option maxRecDepth 100000 in
set_option maxHeartbeats 8000000 in
theorem pv_X3_init : ∀ (av : List mm_V) (σ : mm_S) (Post : Option mm_V → mm_S → Prop), (∀ v ∈ av, mm_iv v) → (∀ a j, mm_in (σ.1 a j)) → σ.2.2 ≤ 348 → T_X3_init av σ Post → ∀ (Ok : Nat → mm_K) (kf : Nat), kf = σ.2.2 + rm_X3_init.cells → clo_X3_init Ok Post σ.2.2 kf → Ok 0 (av ++ List.replicate (1 - av.length) (.inr none)) [] σ := by
  intro av σ Post hav hin hk hT Ok kf hkf hcl
  obtain ⟨I, R, k⟩ := σ
  unfold T_X3_init at hT
  split at hT
  · rename_i a
    dsimp only at hkf hin hk hcl
    have c0 := hcl
    unfold clo_X3_init at c0
    obtain ⟨h1, h2, h3, h4, hP⟩ := hT
    dsimp only at h1 h4
    subst h1
    obtain ⟨t1, t2, t3', t4', t5'⟩ := tb_c3 a (by omega) h3
    have e1' := ss_1 (a + 1)
    rw [t4'] at e1'
    dsimp only at e1'
    refine c0 _ _ _ ?_
    simp only [b_X3_init_0, i_new, i_newa, i_pr, i_aas, i_oi, i_ci, i_fix, i_xorg, i_shl, i_shr, i_ior, i_and1, i_lcg1, i_lcg2, i_ld, i_la, i_st, i_sa, i_c, i_inc, i_add, i_sub, i_mul, i_div, i_rem, i_remT, i_xor, i_dup, i_dup2, i_if, i_if2, i_sw, i_gi, i_gr, i_pi, i_pz, i_ial, i_ias, i_len, i_aal, i_gs, i_tal, i_cv, i_cs, i_ir, i_zr, i_vr, i_min, i_max, i_cpy, List.getElem?_cons_zero, List.getElem?_cons_succ, List.set_cons_zero, List.set_cons_succ, List.length_cons, List.length_nil, List.drop_succ_cons, List.drop_zero, List.take_succ_cons, List.take_zero, List.reverse_cons, List.reverse_nil, List.nil_append, List.cons_append, Option.toList_some, Option.toList_none, true_and, and_true, true_or, or_true, Nat.reduceAdd, Nat.reduceLT, Nat.reduceLeDiff, Option.some.injEq, exists_eq_left', Int.toNat_natCast, Nat.reduceSub, List.append_nil, List.replicate_succ, List.replicate_zero, rm_X3_init, rm_X10_init, new_k, h3, t3', T_X10_init, cT]
    refine ⟨⟨by omega, by omega, by omega⟩, ⟨by omega, by omega, by omega⟩, by omega, fun j => (new_kn j).2, fun τ e2' e3' e4' => ?_⟩
    obtain ⟨ac, eq⟩ := acc_call (cn := 16) (acc_0 (X := fun _ => False) (R := R) h4) (by omega) (fun b' hb' => ⟨(e3' b' hb').1, (e3' b' hb').2⟩) e4'
    rw [e2']
    refine ⟨by omega, by rw [hkf]; rfl, ?_⟩
    have en := acc_endB (cn := 17) (acc_set (y := a) (j := 0) (z := some (a + 1)) ac (Or.inl rfl)) (fun _ _ _ w' => w') (by omega) (ini_0 (by omega) (Or.inr t1)) (fun j hj => ?_)
    · exact hP (_, _, a + 17) rfl en.1 en.2
    · unfold rel at hj
      rw [t2] at hj
      have : j = 0 := by
        rcases hj.2 with w' | w'
        · have w2' := w'.2
          simp [mm_rf] at w2'
          exact w2'
        · omega
      subst this
      rw [t5', set_i, if_pos rfl]
  · exact hT.elim
theorem sp_X3_init : mm_SpX yX3_init cX3_init 1 rm_X3_init (T_X3_init) := mm_methX (by decide) (by
  intro av σ Post h
  unfold T_X3_init at h
  split at h
  · simp
  · exact h.elim) (fun p l e s m args below meth c G av σ Post hC hX hr hnm hav hin hk hT => pv_X3_init av σ Post hav hin hk hT _ _ rfl (bk_X3_init hC hX hr hnm ⟨rfl, ss_X3_init av σ Post hT⟩))
