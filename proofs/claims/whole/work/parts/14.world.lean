/-! PieceSurfaces$World -/
def T_X10_faces : mm_T := fun av σ Post => match av with
  | [.inr (some w)] => σ.2 = mm_R0 ∧ (mm_sh w).1 = 9 ∧ 0 ≤ σ.1 w 0 ∧ σ.1 w 0 ≤ 3 ∧ Post (some (.inl (4 * σ.1 w 0))) σ
  | _ => False
def rm_X10_faces : Room := { frames := 0, cells := 0, slots := 0, locals := 0 }
def b_X10_faces_0 (Ok : Nat → mm_K) (Post : Option mm_V → mm_S → Prop) (kf : Nat) : mm_K := i_c 4 (i_la 0 (i_gi 9 0 (i_mul (i_ir Post kf))))
def clo_X10_faces (Ok : Nat → mm_K) (Post : Option mm_V → mm_S → Prop) (kf : Nat) : Prop := mm_imp (b_X10_faces_0 Ok Post kf) (Ok 0)
set_option maxRecDepth 100000 in
set_option maxHeartbeats 4000000 in
theorem bk_X10_faces {p : Program} {l : Launch} {e : Env} {s : State} {m : MethodId} {args : Array Value} {below : List Frame} {meth : Method} {c : Code} {G : mm_G} {σ0 : mm_S} {Post : Option mm_V → mm_S → Prop} (hC : mm_C p G s m args meth c cX10_faces yX10_faces.cls) (hr : meth.sig.returnType = some .int) : clo_X10_faces (mm_O p l e rm_X10_faces s m args below meth c G σ0.2.2 (MQ below (mm_Qc G σ0 rm_X10_faces.cells rm_X10_faces.slots Post) args s rm_X10_faces.cells rm_X10_faces.slots (mm_A G))) Post σ0.2.2 := (by unfold clo_X10_faces b_X10_faces_0; exact (mm_ic hC dX10_faces_0 ⟨by decide, by decide⟩ (mm_la_n hC dX10_faces_1 rfl (mm_gi hC cl_9 (by decide) rfl wd_119 dX10_faces_2 (mm_mul hC dX10_faces_5 (mm_ir hC ⟨rfl, rfl⟩ hr dX10_faces_6))))))
set_option maxRecDepth 100000 in
set_option maxHeartbeats 8000000 in
theorem pv_X10_faces : ∀ (av : List mm_V) (σ : mm_S) (Post : Option mm_V → mm_S → Prop), (∀ v ∈ av, mm_iv v) → (∀ a j, mm_in (σ.1 a j)) → σ.2.2 ≤ 348 → T_X10_faces av σ Post → ∀ Ok : Nat → mm_K, clo_X10_faces Ok Post σ.2.2 → Ok 0 (av ++ List.replicate (1 - av.length) (.inr none)) [] σ := by
  intro av σ Post hav hin hk hT Ok hcl
  obtain ⟨I, R0⟩ := σ
  unfold T_X10_faces at hT
  split at hT
  · rename_i w
    obtain ⟨h0, hT⟩ := hT
    have h0 : R0 = mm_R0 := h0
    subst h0
    dsimp only at hT hin
    have c0 := hcl
    unfold clo_X10_faces at c0
    obtain ⟨h1, h2, h3, hP⟩ := hT
    have hw := sh_lt h1 (by decide)
    refine c0 _ _ _ ?_
    simp only [b_X10_faces_0, i_ld, i_la, i_st, i_sa, i_c, i_inc, i_add, i_sub, i_mul, i_div, i_rem, i_remT, i_xor, i_dup, i_dup2, i_if, i_if2, i_sw, i_gi, i_gr, i_pi, i_pz, i_ial, i_ias, i_len, i_aal, i_gs, i_tal, i_cv, i_cs, i_ir, i_zr, i_vr, i_min, i_max, i_cpy, List.getElem?_cons_zero, List.getElem?_cons_succ, List.set_cons_zero, List.set_cons_succ, List.length_cons, List.length_nil, List.drop_succ_cons, List.drop_zero, List.take_succ_cons, List.take_zero, List.reverse_cons, List.reverse_nil, List.nil_append, List.cons_append, Option.toList_some, Option.toList_none, true_and, and_true, true_or, or_true, Nat.reduceAdd, Nat.reduceLT, Nat.reduceLeDiff, Option.some.injEq, exists_eq_left', Int.toNat_natCast, Nat.reduceSub, List.append_nil, List.replicate_succ, List.replicate_zero, hw, h1]
    exact fun _ => ⟨⟨by omega, by omega⟩, hP⟩
  · exact hT.elim
theorem sp_X10_faces : mm_Sp yX10_faces cX10_faces 1 (some .int) rm_X10_faces T_X10_faces := mm_meth (by decide) (by
  intro av σ Post h
  unfold T_X10_faces at h
  split at h
  · simp
  · exact h.elim) (fun p l e s m args below meth c G av σ Post hC hr _ hav hin hk hT => pv_X10_faces av σ Post hav hin hk hT _ (bk_X10_faces hC hr))
/-- how many of the first n faces are free -/
def frn (pa : Nat → Int) (n : Nat) : Int := sm (fun j => if pa j < 0 then 1 else 0) n
theorem frn_b (pa : Nat → Int) (n : Nat) : 0 ≤ frn pa n ∧ frn pa n ≤ n := by
  have := sm_bound (f := fun k => if pa k < 0 then (1 : Int) else 0) (n := n) (c := 1) (fun k _ => by split <;> omega)
  unfold frn
  omega
def T_X10_freeFaces : mm_T := fun av σ Post => match av with
  | [.inr (some w)] => σ.2 = mm_R0 ∧ (mm_sh w).1 = 9 ∧ ∃ n : Nat, σ.1 w 0 = n ∧ n ≤ 3 ∧ Post (some (.inl (frn (σ.1 (w + 1)) (4 * n)))) σ
  | _ => False
def rm_X10_freeFaces : Room := { frames := 1, cells := 0, slots := 0, locals := 20 }
def b_X10_freeFaces_0 (Ok : Nat → mm_K) (Post : Option mm_V → mm_S → Prop) (kf : Nat) : mm_K := i_c 0 (i_st 1 (i_c 0 (i_st 2 (Ok 4))))
def b_X10_freeFaces_4 (Ok : Nat → mm_K) (Post : Option mm_V → mm_S → Prop) (kf : Nat) : mm_K := i_ld 2 (i_la 0 (i_cv 9 0 T_X10_faces (i_if2 (fun x y => y ≤ x) (i_ld 1 (i_ir Post kf)) (i_ld 1 (i_la 0 (i_gr 9 2 (i_ld 2 (i_ial (i_if (fun x => 0 ≤ x) (i_c 0 (Ok 27)) (i_c 1 (Ok 27)))))))))))
def b_X10_freeFaces_27 (Ok : Nat → mm_K) (Post : Option mm_V → mm_S → Prop) (kf : Nat) : mm_K := i_add (i_st 1 (i_inc 2 1 (Ok 4)))
def clo_X10_freeFaces (Ok : Nat → mm_K) (Post : Option mm_V → mm_S → Prop) (kf : Nat) : Prop := mm_imp (b_X10_freeFaces_0 Ok Post kf) (Ok 0) ∧ mm_imp (b_X10_freeFaces_4 Ok Post kf) (Ok 4) ∧ mm_imp (b_X10_freeFaces_27 Ok Post kf) (Ok 27)
set_option maxRecDepth 100000 in
set_option maxHeartbeats 4000000 in
theorem bk_X10_freeFaces {p : Program} {l : Launch} {e : Env} {s : State} {m : MethodId} {args : Array Value} {below : List Frame} {meth : Method} {c : Code} {G : mm_G} {σ0 : mm_S} {Post : Option mm_V → mm_S → Prop} (hC : mm_C p G s m args meth c cX10_freeFaces yX10_freeFaces.cls) (hr : meth.sig.returnType = some .int) : clo_X10_freeFaces (mm_O p l e rm_X10_freeFaces s m args below meth c G σ0.2.2 (MQ below (mm_Qc G σ0 rm_X10_freeFaces.cells rm_X10_freeFaces.slots Post) args s rm_X10_freeFaces.cells rm_X10_freeFaces.slots (mm_A G))) Post σ0.2.2 := ⟨(by unfold b_X10_freeFaces_0; exact (mm_ic hC dX10_freeFaces_0 ⟨by decide, by decide⟩ (mm_st_n hC dX10_freeFaces_1 rfl (mm_ic hC dX10_freeFaces_2 ⟨by decide, by decide⟩ (mm_st_n hC dX10_freeFaces_3 rfl (fun _ _ _ h => h)))))), (by unfold b_X10_freeFaces_4; exact (mm_ld_n hC dX10_freeFaces_4 rfl (mm_la_n hC dX10_freeFaces_5 rfl (mm_cv hC sp_X10_faces ⟨rfl, rfl⟩ cl_9 wd_357 wd_358 wd_359 wd_360 wd_67 ⟨by decide, by decide, by decide +kernel⟩ ⟨by decide, by decide⟩ dX10_freeFaces_6 (mm_ic_ge hC (t := 35) dX10_freeFaces_9 (by decide) (mm_ld_n hC dX10_freeFaces_35 rfl (mm_ir hC ⟨rfl, rfl⟩ hr dX10_freeFaces_36)) (mm_ld_n hC dX10_freeFaces_12 rfl (mm_la_n hC dX10_freeFaces_13 rfl (mm_gr hC cl_9 (by decide) rfl wd_126 dX10_freeFaces_14 (mm_ld_n hC dX10_freeFaces_17 rfl (mm_ial hC dX10_freeFaces_18 (mm_if_ge hC (t := 26) dX10_freeFaces_19 (by decide) (mm_ic hC dX10_freeFaces_26 ⟨by decide, by decide⟩ (fun _ _ _ h => h)) (mm_ic hC dX10_freeFaces_22 ⟨by decide, by decide⟩ (mm_goto hC (t := 27) dX10_freeFaces_23 (by decide) (fun _ _ _ h => h)))))))))))))), (by unfold b_X10_freeFaces_27; exact (mm_add hC dX10_freeFaces_27 (mm_st_n hC dX10_freeFaces_28 rfl (mm_inc hC dX10_freeFaces_29 (mm_goto hC (t := 4) dX10_freeFaces_32 (by decide) (fun _ _ _ h => h))))))⟩
set_option maxRecDepth 100000 in
set_option maxHeartbeats 8000000 in
theorem pv_X10_freeFaces : ∀ (av : List mm_V) (σ : mm_S) (Post : Option mm_V → mm_S → Prop), (∀ v ∈ av, mm_iv v) → (∀ a j, mm_in (σ.1 a j)) → σ.2.2 ≤ 348 → T_X10_freeFaces av σ Post → ∀ Ok : Nat → mm_K, clo_X10_freeFaces Ok Post σ.2.2 → Ok 0 (av ++ List.replicate (3 - av.length) (.inr none)) [] σ := by
  intro av σ Post hav hin hk hT Ok hcl
  obtain ⟨I, R0⟩ := σ
  unfold T_X10_freeFaces at hT
  split at hT
  · rename_i w
    obtain ⟨h0, hT⟩ := hT
    have h0 : R0 = mm_R0 := h0
    subst h0
    dsimp only at hT hin
    obtain ⟨c0, c4, c27⟩ := hcl
    obtain ⟨h1, n, hn, h3, hP⟩ := hT
    have hw := sh_lt h1 (by decide)
    obtain ⟨s0, s1, s2, s3, s4⟩ := sh_world w hw h1
    have hR : ∀ j, mm_Rs w j = some (w + (j - 1)) := fun j => Rs_world h1
    have w1 : w + 1 < 348 := by omega
    have loop : ∀ (d i : Nat), i + d = 4 * n → Ok 4 [.inr (some w), .inl (frn (I (w + 1)) i), .inl (i : Int)] [] (I, mm_R0) := by
      intro d
      induction d with
      | zero =>
        intro i hd
        refine c4 _ _ _ ?_
        simp only [b_X10_freeFaces_4, i_ld, i_la, i_st, i_sa, i_c, i_inc, i_add, i_sub, i_mul, i_div, i_rem, i_remT, i_xor, i_dup, i_dup2, i_if, i_if2, i_sw, i_gi, i_gr, i_pi, i_pz, i_ial, i_ias, i_len, i_aal, i_gs, i_tal, i_cv, i_cs, i_ir, i_zr, i_vr, i_min, i_max, i_cpy, List.getElem?_cons_zero, List.getElem?_cons_succ, List.set_cons_zero, List.set_cons_succ, List.length_cons, List.length_nil, List.drop_succ_cons, List.drop_zero, List.take_succ_cons, List.take_zero, List.reverse_cons, List.reverse_nil, List.nil_append, List.cons_append, Option.toList_some, Option.toList_none, true_and, and_true, true_or, or_true, Nat.reduceAdd, Nat.reduceLT, Nat.reduceLeDiff, Option.some.injEq, exists_eq_left', Int.toNat_natCast, Nat.reduceSub, List.append_nil, List.replicate_succ, List.replicate_zero, hw, h1, T_X10_faces, hn]
        refine ⟨by omega, by omega, fun q => ?_, fun q => by omega⟩
        rw [show i = 4 * n by omega]
        exact hP
      | succ d ih =>
        intro i hd
        have hb := frn_b (I (w + 1)) i
        have hs : frn (I (w + 1)) (i + 1) = frn (I (w + 1)) i + if I (w + 1) i < 0 then 1 else 0 := rfl
        have go := ih (i + 1) (by omega)
        rw [hs] at go
        refine c4 _ _ _ ?_
        simp only [b_X10_freeFaces_4, i_ld, i_la, i_st, i_sa, i_c, i_inc, i_add, i_sub, i_mul, i_div, i_rem, i_remT, i_xor, i_dup, i_dup2, i_if, i_if2, i_sw, i_gi, i_gr, i_pi, i_pz, i_ial, i_ias, i_len, i_aal, i_gs, i_tal, i_cv, i_cs, i_ir, i_zr, i_vr, i_min, i_max, i_cpy, List.getElem?_cons_zero, List.getElem?_cons_succ, List.set_cons_zero, List.set_cons_succ, List.length_cons, List.length_nil, List.drop_succ_cons, List.drop_zero, List.take_succ_cons, List.take_zero, List.reverse_cons, List.reverse_nil, List.nil_append, List.cons_append, Option.toList_some, Option.toList_none, true_and, and_true, true_or, or_true, Nat.reduceAdd, Nat.reduceLT, Nat.reduceLeDiff, Option.some.injEq, exists_eq_left', Int.toNat_natCast, Nat.reduceSub, List.append_nil, List.replicate_succ, List.replicate_zero, hw, h1, T_X10_faces, hn, hR, s1, w1]
        refine ⟨by omega, by omega, fun q => by omega, fun q => ⟨⟨by omega, by omega⟩, fun _ => ⟨fun z => ?_, fun z => ?_⟩⟩⟩
        · refine c27 _ _ _ ?_
          simp only [b_X10_freeFaces_27, i_ld, i_la, i_st, i_sa, i_c, i_inc, i_add, i_sub, i_mul, i_div, i_rem, i_remT, i_xor, i_dup, i_dup2, i_if, i_if2, i_sw, i_gi, i_gr, i_pi, i_pz, i_ial, i_ias, i_len, i_aal, i_gs, i_tal, i_cv, i_cs, i_ir, i_zr, i_vr, i_min, i_max, i_cpy, List.getElem?_cons_zero, List.getElem?_cons_succ, List.set_cons_zero, List.set_cons_succ, List.length_cons, List.length_nil, List.drop_succ_cons, List.drop_zero, List.take_succ_cons, List.take_zero, List.reverse_cons, List.reverse_nil, List.nil_append, List.cons_append, Option.toList_some, Option.toList_none, true_and, and_true, true_or, or_true, Nat.reduceAdd, Nat.reduceLT, Nat.reduceLeDiff, Option.some.injEq, exists_eq_left', Int.toNat_natCast, Nat.reduceSub, List.append_nil, List.replicate_succ, List.replicate_zero]
          rw [if_neg (by omega)] at go
          exact ⟨⟨by omega, by omega⟩, ⟨by omega, by omega⟩, go⟩
        · refine c27 _ _ _ ?_
          simp only [b_X10_freeFaces_27, i_ld, i_la, i_st, i_sa, i_c, i_inc, i_add, i_sub, i_mul, i_div, i_rem, i_remT, i_xor, i_dup, i_dup2, i_if, i_if2, i_sw, i_gi, i_gr, i_pi, i_pz, i_ial, i_ias, i_len, i_aal, i_gs, i_tal, i_cv, i_cs, i_ir, i_zr, i_vr, i_min, i_max, i_cpy, List.getElem?_cons_zero, List.getElem?_cons_succ, List.set_cons_zero, List.set_cons_succ, List.length_cons, List.length_nil, List.drop_succ_cons, List.drop_zero, List.take_succ_cons, List.take_zero, List.reverse_cons, List.reverse_nil, List.nil_append, List.cons_append, Option.toList_some, Option.toList_none, true_and, and_true, true_or, or_true, Nat.reduceAdd, Nat.reduceLT, Nat.reduceLeDiff, Option.some.injEq, exists_eq_left', Int.toNat_natCast, Nat.reduceSub, List.append_nil, List.replicate_succ, List.replicate_zero]
          rw [if_pos (by omega)] at go
          exact ⟨⟨by omega, by omega⟩, ⟨by omega, by omega⟩, go⟩
    refine c0 _ _ _ ?_
    simp only [b_X10_freeFaces_0, i_ld, i_la, i_st, i_sa, i_c, i_inc, i_add, i_sub, i_mul, i_div, i_rem, i_remT, i_xor, i_dup, i_dup2, i_if, i_if2, i_sw, i_gi, i_gr, i_pi, i_pz, i_ial, i_ias, i_len, i_aal, i_gs, i_tal, i_cv, i_cs, i_ir, i_zr, i_vr, i_min, i_max, i_cpy, List.getElem?_cons_zero, List.getElem?_cons_succ, List.set_cons_zero, List.set_cons_succ, List.length_cons, List.length_nil, List.drop_succ_cons, List.drop_zero, List.take_succ_cons, List.take_zero, List.reverse_cons, List.reverse_nil, List.nil_append, List.cons_append, Option.toList_some, Option.toList_none, true_and, and_true, true_or, or_true, Nat.reduceAdd, Nat.reduceLT, Nat.reduceLeDiff, Option.some.injEq, exists_eq_left', Int.toNat_natCast, Nat.reduceSub, List.append_nil, List.replicate_succ, List.replicate_zero]
    exact loop (4 * n) 0 (by omega)
  · exact hT.elim
theorem sp_X10_freeFaces : mm_Sp yX10_freeFaces cX10_freeFaces 3 (some .int) rm_X10_freeFaces T_X10_freeFaces := mm_meth (by decide) (by
  intro av σ Post h
  unfold T_X10_freeFaces at h
  split at h
  · simp
  · exact h.elim) (fun p l e s m args below meth c G av σ Post hC hr _ hav hin hk hT => pv_X10_freeFaces av σ Post hav hin hk hT _ (bk_X10_freeFaces hC hr))
def T_X10_canFasten : mm_T := fun av σ Post => match av with
  | [.inr (some w), .inl x, .inl y] => σ.2 = mm_R0 ∧ (mm_sh w).1 = 9 ∧ ∃ f g : Nat, x = f ∧ y = g ∧ f < 12 ∧ g < 12 ∧ ∀ z : Int, bz z (f ≠ g ∧ σ.1 (w + 1) f < 0 ∧ σ.1 (w + 1) g < 0) → Post (some (.inl z)) σ
  | _ => False
def rm_X10_canFasten : Room := { frames := 0, cells := 0, slots := 0, locals := 0 }
def b_X10_canFasten_0 (Ok : Nat → mm_K) (Post : Option mm_V → mm_S → Prop) (kf : Nat) : mm_K := i_ld 1 (i_ld 2 (i_if2 (fun x y => x = y) (Ok 27) (i_la 0 (i_gr 9 2 (i_ld 1 (i_ial (i_if (fun x => 0 ≤ x) (Ok 27) (i_la 0 (i_gr 9 2 (i_ld 2 (i_ial (i_if (fun x => 0 ≤ x) (Ok 27) (i_c 1 (Ok 28))))))))))))))
def b_X10_canFasten_27 (Ok : Nat → mm_K) (Post : Option mm_V → mm_S → Prop) (kf : Nat) : mm_K := i_c 0 (Ok 28)
def b_X10_canFasten_28 (Ok : Nat → mm_K) (Post : Option mm_V → mm_S → Prop) (kf : Nat) : mm_K := i_zr Post kf
def clo_X10_canFasten (Ok : Nat → mm_K) (Post : Option mm_V → mm_S → Prop) (kf : Nat) : Prop := mm_imp (b_X10_canFasten_0 Ok Post kf) (Ok 0) ∧ mm_imp (b_X10_canFasten_27 Ok Post kf) (Ok 27) ∧ mm_imp (b_X10_canFasten_28 Ok Post kf) (Ok 28)
set_option maxRecDepth 100000 in
set_option maxHeartbeats 4000000 in
theorem bk_X10_canFasten {p : Program} {l : Launch} {e : Env} {s : State} {m : MethodId} {args : Array Value} {below : List Frame} {meth : Method} {c : Code} {G : mm_G} {σ0 : mm_S} {Post : Option mm_V → mm_S → Prop} (hC : mm_C p G s m args meth c cX10_canFasten yX10_canFasten.cls) (hr : meth.sig.returnType = some .boolean) : clo_X10_canFasten (mm_O p l e rm_X10_canFasten s m args below meth c G σ0.2.2 (MQ below (mm_Qc G σ0 rm_X10_canFasten.cells rm_X10_canFasten.slots Post) args s rm_X10_canFasten.cells rm_X10_canFasten.slots (mm_A G))) Post σ0.2.2 := ⟨(by unfold b_X10_canFasten_0; exact (mm_ld_n hC dX10_canFasten_0 rfl (mm_ld_n hC dX10_canFasten_1 rfl (mm_ic_eq hC (t := 27) dX10_canFasten_2 (by decide) (fun _ _ _ h => h) (mm_la_n hC dX10_canFasten_5 rfl (mm_gr hC cl_9 (by decide) rfl wd_126 dX10_canFasten_6 (mm_ld_n hC dX10_canFasten_9 rfl (mm_ial hC dX10_canFasten_10 (mm_if_ge hC (t := 27) dX10_canFasten_11 (by decide) (fun _ _ _ h => h) (mm_la_n hC dX10_canFasten_14 rfl (mm_gr hC cl_9 (by decide) rfl wd_126 dX10_canFasten_15 (mm_ld_n hC dX10_canFasten_18 rfl (mm_ial hC dX10_canFasten_19 (mm_if_ge hC (t := 27) dX10_canFasten_20 (by decide) (fun _ _ _ h => h) (mm_ic hC dX10_canFasten_23 ⟨by decide, by decide⟩ (mm_goto hC (t := 28) dX10_canFasten_24 (by decide) (fun _ _ _ h => h))))))))))))))))), (by unfold b_X10_canFasten_27; exact (mm_ic hC dX10_canFasten_27 ⟨by decide, by decide⟩ (fun _ _ _ h => h))), (by unfold b_X10_canFasten_28; exact (mm_zr hC ⟨rfl, rfl⟩ hr dX10_canFasten_28))⟩
set_option maxRecDepth 100000 in
set_option maxHeartbeats 8000000 in
theorem pv_X10_canFasten : ∀ (av : List mm_V) (σ : mm_S) (Post : Option mm_V → mm_S → Prop), (∀ v ∈ av, mm_iv v) → (∀ a j, mm_in (σ.1 a j)) → σ.2.2 ≤ 348 → T_X10_canFasten av σ Post → ∀ Ok : Nat → mm_K, clo_X10_canFasten Ok Post σ.2.2 → Ok 0 (av ++ List.replicate (3 - av.length) (.inr none)) [] σ := by
  intro av σ Post hav hin hk hT Ok hcl
  obtain ⟨I, R0⟩ := σ
  unfold T_X10_canFasten at hT
  split at hT
  · rename_i w x y
    obtain ⟨h0, hT⟩ := hT
    have h0 : R0 = mm_R0 := h0
    subst h0
    dsimp only at hT hin
    obtain ⟨c0, c27, c28⟩ := hcl
    obtain ⟨h1, f, g, rfl, rfl, h2, h3, hP⟩ := hT
    have hw := sh_lt h1 (by decide)
    obtain ⟨s0, s1, s2, s3, s4⟩ := sh_world w hw h1
    have hR : ∀ j, mm_Rs w j = some (w + (j - 1)) := fun j => Rs_world h1
    have w1 : w + 1 < 348 := by omega
    have no : ¬ (f ≠ g ∧ I (w + 1) f < 0 ∧ I (w + 1) g < 0) → Ok 27 [.inr (some w), .inl (f : Int), .inl (g : Int)] [] (I, mm_R0) := by
      intro h
      refine c27 _ _ _ ?_
      simp only [b_X10_canFasten_27, i_ld, i_la, i_st, i_sa, i_c, i_inc, i_add, i_sub, i_mul, i_div, i_rem, i_remT, i_xor, i_dup, i_dup2, i_if, i_if2, i_sw, i_gi, i_gr, i_pi, i_pz, i_ial, i_ias, i_len, i_aal, i_gs, i_tal, i_cv, i_cs, i_ir, i_zr, i_vr, i_min, i_max, i_cpy, List.getElem?_cons_zero, List.getElem?_cons_succ, List.set_cons_zero, List.set_cons_succ, List.length_cons, List.length_nil, List.drop_succ_cons, List.drop_zero, List.take_succ_cons, List.take_zero, List.reverse_cons, List.reverse_nil, List.nil_append, List.cons_append, Option.toList_some, Option.toList_none, true_and, and_true, true_or, or_true, Nat.reduceAdd, Nat.reduceLT, Nat.reduceLeDiff, Option.some.injEq, exists_eq_left', Int.toNat_natCast, Nat.reduceSub, List.append_nil, List.replicate_succ, List.replicate_zero]
      refine c28 _ _ _ ?_
      simp only [b_X10_canFasten_28, i_ld, i_la, i_st, i_sa, i_c, i_inc, i_add, i_sub, i_mul, i_div, i_rem, i_remT, i_xor, i_dup, i_dup2, i_if, i_if2, i_sw, i_gi, i_gr, i_pi, i_pz, i_ial, i_ias, i_len, i_aal, i_gs, i_tal, i_cv, i_cs, i_ir, i_zr, i_vr, i_min, i_max, i_cpy, List.getElem?_cons_zero, List.getElem?_cons_succ, List.set_cons_zero, List.set_cons_succ, List.length_cons, List.length_nil, List.drop_succ_cons, List.drop_zero, List.take_succ_cons, List.take_zero, List.reverse_cons, List.reverse_nil, List.nil_append, List.cons_append, Option.toList_some, Option.toList_none, true_and, and_true, true_or, or_true, Nat.reduceAdd, Nat.reduceLT, Nat.reduceLeDiff, Option.some.injEq, exists_eq_left', Int.toNat_natCast, Nat.reduceSub, List.append_nil, List.replicate_succ, List.replicate_zero]
      exact hP 0 (bz_0 h)
    refine c0 _ _ _ ?_
    simp only [b_X10_canFasten_0, i_ld, i_la, i_st, i_sa, i_c, i_inc, i_add, i_sub, i_mul, i_div, i_rem, i_remT, i_xor, i_dup, i_dup2, i_if, i_if2, i_sw, i_gi, i_gr, i_pi, i_pz, i_ial, i_ias, i_len, i_aal, i_gs, i_tal, i_cv, i_cs, i_ir, i_zr, i_vr, i_min, i_max, i_cpy, List.getElem?_cons_zero, List.getElem?_cons_succ, List.set_cons_zero, List.set_cons_succ, List.length_cons, List.length_nil, List.drop_succ_cons, List.drop_zero, List.take_succ_cons, List.take_zero, List.reverse_cons, List.reverse_nil, List.nil_append, List.cons_append, Option.toList_some, Option.toList_none, true_and, and_true, true_or, or_true, Nat.reduceAdd, Nat.reduceLT, Nat.reduceLeDiff, Option.some.injEq, exists_eq_left', Int.toNat_natCast, Nat.reduceSub, List.append_nil, List.replicate_succ, List.replicate_zero, hw, h1, hR, s1, w1]
    refine ⟨fun q => no (fun z => by omega), fun q => ⟨⟨by omega, by omega⟩, fun _ => ⟨fun q2 => no (fun z => by omega), fun q2 => ⟨⟨by omega, by omega⟩, fun _ => ⟨fun q3 => no (fun z => by omega), fun q3 => ?_⟩⟩⟩⟩⟩
    refine c28 _ _ _ ?_
    simp only [b_X10_canFasten_28, i_ld, i_la, i_st, i_sa, i_c, i_inc, i_add, i_sub, i_mul, i_div, i_rem, i_remT, i_xor, i_dup, i_dup2, i_if, i_if2, i_sw, i_gi, i_gr, i_pi, i_pz, i_ial, i_ias, i_len, i_aal, i_gs, i_tal, i_cv, i_cs, i_ir, i_zr, i_vr, i_min, i_max, i_cpy, List.getElem?_cons_zero, List.getElem?_cons_succ, List.set_cons_zero, List.set_cons_succ, List.length_cons, List.length_nil, List.drop_succ_cons, List.drop_zero, List.take_succ_cons, List.take_zero, List.reverse_cons, List.reverse_nil, List.nil_append, List.cons_append, Option.toList_some, Option.toList_none, true_and, and_true, true_or, or_true, Nat.reduceAdd, Nat.reduceLT, Nat.reduceLeDiff, Option.some.injEq, exists_eq_left', Int.toNat_natCast, Nat.reduceSub, List.append_nil, List.replicate_succ, List.replicate_zero]
    exact hP 1 (bz_1 ⟨by omega, by omega, by omega⟩)
  · exact hT.elim
theorem sp_X10_canFasten : mm_Sp yX10_canFasten cX10_canFasten 3 (some .boolean) rm_X10_canFasten T_X10_canFasten := mm_meth (by decide) (by
  intro av σ Post h
  unfold T_X10_canFasten at h
  split at h
  · simp
  · exact h.elim) (fun p l e s m args below meth c G av σ Post hC hr _ hav hin hk hT => pv_X10_canFasten av σ Post hav hin hk hT _ (bk_X10_canFasten hC hr))
def T_X10_fasten : mm_T := fun av σ Post => match av with
  | [.inr (some w), .inl x, .inl y, .inl h] => σ.2 = mm_R0 ∧ (mm_sh w).1 = 9 ∧ ∃ f g k : Nat, x = f ∧ y = g ∧ h = k ∧ f < 12 ∧ g < 12 ∧ k < 6 ∧ f ≠ g ∧
    ∀ I' : Nat → Nat → Int, (∀ b, b ≠ w → b ≠ w + 1 → b ≠ w + 2 → I' b = σ.1 b) → I' w 0 = σ.1 w 0 → I' w 1 = 0 → (∀ j, I' (w + 1) j = if j = f then (g : Int) else if j = g then (f : Int) else σ.1 (w + 1) j) →
      (∀ j, I' (w + 2) j = if j = f then (k : Int) else if j = g then mm_tb 1 k else σ.1 (w + 2) j) → Post none (I', mm_R0)
  | _ => False
def rm_X10_fasten : Room := { frames := 0, cells := 0, slots := 0, locals := 0 }
def b_X10_fasten_0 (Ok : Nat → mm_K) (Post : Option mm_V → mm_S → Prop) (kf : Nat) : mm_K := i_la 0 (i_gr 9 2 (i_ld 1 (i_ld 2 (i_ias (i_la 0 (i_gr 9 2 (i_ld 2 (i_ld 1 (i_ias (i_la 0 (i_gr 9 3 (i_ld 1 (i_ld 3 (i_ias (i_la 0 (i_gr 9 3 (i_ld 2 (i_gs 1 (i_ld 3 (i_tal 1 (i_ias (i_la 0 (i_c 0 (i_pi 9 1 (i_vr Post kf)))))))))))))))))))))))))
def clo_X10_fasten (Ok : Nat → mm_K) (Post : Option mm_V → mm_S → Prop) (kf : Nat) : Prop := mm_imp (b_X10_fasten_0 Ok Post kf) (Ok 0)
set_option maxRecDepth 100000 in
set_option maxHeartbeats 4000000 in
theorem bk_X10_fasten {p : Program} {l : Launch} {e : Env} {s : State} {m : MethodId} {args : Array Value} {below : List Frame} {meth : Method} {c : Code} {G : mm_G} {σ0 : mm_S} {Post : Option mm_V → mm_S → Prop} (hC : mm_C p G s m args meth c cX10_fasten yX10_fasten.cls) (hr : meth.sig.returnType = none) : clo_X10_fasten (mm_O p l e rm_X10_fasten s m args below meth c G σ0.2.2 (MQ below (mm_Qc G σ0 rm_X10_fasten.cells rm_X10_fasten.slots Post) args s rm_X10_fasten.cells rm_X10_fasten.slots (mm_A G))) Post σ0.2.2 := (by unfold clo_X10_fasten b_X10_fasten_0; exact (mm_la_n hC dX10_fasten_0 rfl (mm_gr hC cl_9 (by decide) rfl wd_126 dX10_fasten_1 (mm_ld_n hC dX10_fasten_4 rfl (mm_ld_n hC dX10_fasten_5 rfl (mm_ias hC dX10_fasten_6 (mm_la_n hC dX10_fasten_7 rfl (mm_gr hC cl_9 (by decide) rfl wd_126 dX10_fasten_8 (mm_ld_n hC dX10_fasten_11 rfl (mm_ld_n hC dX10_fasten_12 rfl (mm_ias hC dX10_fasten_13 (mm_la_n hC dX10_fasten_14 rfl (mm_gr hC cl_9 (by decide) rfl wd_130 dX10_fasten_15 (mm_ld_n hC dX10_fasten_18 rfl (mm_ld_n hC dX10_fasten_19 rfl (mm_ias hC dX10_fasten_20 (mm_la_n hC dX10_fasten_21 rfl (mm_gr hC cl_9 (by decide) rfl wd_130 dX10_fasten_22 (mm_ld_n hC dX10_fasten_25 rfl (mm_gs hC (by decide) wd_655 dX10_fasten_26 (mm_ld_n hC dX10_fasten_29 rfl (mm_tal hC (by decide) (mm_tbin _) dX10_fasten_30 (mm_ias hC dX10_fasten_31 (mm_la_n hC dX10_fasten_32 rfl (mm_ic hC dX10_fasten_33 ⟨by decide, by decide⟩ (mm_pi hC cl_9 (by decide) rfl rfl rfl wd_123 dX10_fasten_34 (mm_vr hC ⟨rfl, rfl⟩ hr dX10_fasten_37)))))))))))))))))))))))))))
set_option maxRecDepth 100000 in
set_option maxHeartbeats 8000000 in
theorem pv_X10_fasten : ∀ (av : List mm_V) (σ : mm_S) (Post : Option mm_V → mm_S → Prop), (∀ v ∈ av, mm_iv v) → (∀ a j, mm_in (σ.1 a j)) → σ.2.2 ≤ 348 → T_X10_fasten av σ Post → ∀ Ok : Nat → mm_K, clo_X10_fasten Ok Post σ.2.2 → Ok 0 (av ++ List.replicate (4 - av.length) (.inr none)) [] σ := by
  intro av σ Post hav hin hk hT Ok hcl
  obtain ⟨I, R0⟩ := σ
  unfold T_X10_fasten at hT
  split at hT
  · rename_i w x y h
    obtain ⟨h0, hT⟩ := hT
    have h0 : R0 = mm_R0 := h0
    subst h0
    dsimp only at hT hin
    have c0 := hcl
    unfold clo_X10_fasten at c0
    obtain ⟨h1, f, g, k, rfl, rfl, rfl, h2, h3, h4, h5, hP⟩ := hT
    have hw := sh_lt h1 (by decide)
    obtain ⟨s0, s1, s2, s3, s4⟩ := sh_world w hw h1
    have hR : ∀ j, mm_Rs w j = some (w + (j - 1)) := fun j => Rs_world h1
    have w1 : w + 1 < 348 := by omega
    have w2 : w + 2 < 348 := by omega
    have l1 : (mm_tl 1).length = 6 := rfl
    refine c0 _ _ _ ?_
    simp only [b_X10_fasten_0, i_ld, i_la, i_st, i_sa, i_c, i_inc, i_add, i_sub, i_mul, i_div, i_rem, i_remT, i_xor, i_dup, i_dup2, i_if, i_if2, i_sw, i_gi, i_gr, i_pi, i_pz, i_ial, i_ias, i_len, i_aal, i_gs, i_tal, i_cv, i_cs, i_ir, i_zr, i_vr, i_min, i_max, i_cpy, List.getElem?_cons_zero, List.getElem?_cons_succ, List.set_cons_zero, List.set_cons_succ, List.length_cons, List.length_nil, List.drop_succ_cons, List.drop_zero, List.take_succ_cons, List.take_zero, List.reverse_cons, List.reverse_nil, List.nil_append, List.cons_append, Option.toList_some, Option.toList_none, true_and, and_true, true_or, or_true, Nat.reduceAdd, Nat.reduceLT, Nat.reduceLeDiff, Option.some.injEq, exists_eq_left', Int.toNat_natCast, Nat.reduceSub, List.append_nil, List.replicate_succ, List.replicate_zero, hw, h1, hR, s1, s2, w1, w2, l1]
    refine ⟨⟨by omega, by omega⟩, ⟨by omega, by omega⟩, ⟨by omega, by omega⟩, ⟨by omega, by omega⟩, ⟨by omega, by omega⟩, ?_⟩
    refine hP _ (fun b q1 q2 q3 => ?_) ?_ ?_ (fun j => ?_) (fun j => ?_)
    · funext j; simp [mm_set, q1, q2, q3]
    · simp [mm_set]
    · simp [mm_set]
    · by_cases e1 : j = f
      · subst e1; simp [mm_set, h5]
      · by_cases e2 : j = g
        · subst e2; simp [mm_set, e1]
        · simp [mm_set, e1, e2]
    · by_cases e1 : j = f
      · subst e1; simp [mm_set, h5]
      · by_cases e2 : j = g
        · subst e2; simp [mm_set, e1]
        · simp [mm_set, e1, e2]
  · exact hT.elim
theorem sp_X10_fasten : mm_Sp yX10_fasten cX10_fasten 4 none rm_X10_fasten T_X10_fasten := mm_meth (by decide) (by
  intro av σ Post h
  unfold T_X10_fasten at h
  split at h
  · simp
  · exact h.elim) (fun p l e s m args below meth c G av σ Post hC hr _ hav hin hk hT => pv_X10_fasten av σ Post hav hin hk hT _ (bk_X10_fasten hC hr))
def T_X10_loosen : mm_T := fun av σ Post => match av with
  | [.inr (some w), .inl x] => σ.2 = mm_R0 ∧ (mm_sh w).1 = 9 ∧ ∃ f g : Nat, x = f ∧ f < 12 ∧ g < 12 ∧ σ.1 (w + 1) f = g ∧
    ∀ I' : Nat → Nat → Int, (∀ b, b ≠ w → b ≠ w + 1 → I' b = σ.1 b) → I' w 0 = σ.1 w 0 → I' w 1 = 0 → (∀ j, I' (w + 1) j = if j = f ∨ j = g then -1 else σ.1 (w + 1) j) → Post none (I', mm_R0)
  | _ => False
def rm_X10_loosen : Room := { frames := 0, cells := 0, slots := 0, locals := 0 }
def b_X10_loosen_0 (Ok : Nat → mm_K) (Post : Option mm_V → mm_S → Prop) (kf : Nat) : mm_K := i_la 0 (i_gr 9 2 (i_ld 1 (i_ial (i_st 2 (i_ld 2 (i_if (fun x => x < 0) (Ok 30) (i_la 0 (i_gr 9 2 (i_ld 1 (i_c (-1) (i_ias (i_la 0 (i_gr 9 2 (i_ld 2 (i_c (-1) (i_ias (i_la 0 (i_c 0 (i_pi 9 1 (Ok 30))))))))))))))))))))
def b_X10_loosen_30 (Ok : Nat → mm_K) (Post : Option mm_V → mm_S → Prop) (kf : Nat) : mm_K := i_vr Post kf
def clo_X10_loosen (Ok : Nat → mm_K) (Post : Option mm_V → mm_S → Prop) (kf : Nat) : Prop := mm_imp (b_X10_loosen_0 Ok Post kf) (Ok 0) ∧ mm_imp (b_X10_loosen_30 Ok Post kf) (Ok 30)
set_option maxRecDepth 100000 in
set_option maxHeartbeats 4000000 in
theorem bk_X10_loosen {p : Program} {l : Launch} {e : Env} {s : State} {m : MethodId} {args : Array Value} {below : List Frame} {meth : Method} {c : Code} {G : mm_G} {σ0 : mm_S} {Post : Option mm_V → mm_S → Prop} (hC : mm_C p G s m args meth c cX10_loosen yX10_loosen.cls) (hr : meth.sig.returnType = none) : clo_X10_loosen (mm_O p l e rm_X10_loosen s m args below meth c G σ0.2.2 (MQ below (mm_Qc G σ0 rm_X10_loosen.cells rm_X10_loosen.slots Post) args s rm_X10_loosen.cells rm_X10_loosen.slots (mm_A G))) Post σ0.2.2 := ⟨(by unfold b_X10_loosen_0; exact (mm_la_n hC dX10_loosen_0 rfl (mm_gr hC cl_9 (by decide) rfl wd_126 dX10_loosen_1 (mm_ld_n hC dX10_loosen_4 rfl (mm_ial hC dX10_loosen_5 (mm_st_n hC dX10_loosen_6 rfl (mm_ld_n hC dX10_loosen_7 rfl (mm_if_lt hC (t := 30) dX10_loosen_8 (by decide) (fun _ _ _ h => h) (mm_la_n hC dX10_loosen_11 rfl (mm_gr hC cl_9 (by decide) rfl wd_126 dX10_loosen_12 (mm_ld_n hC dX10_loosen_15 rfl (mm_ic hC dX10_loosen_16 ⟨by decide, by decide⟩ (mm_ias hC dX10_loosen_17 (mm_la_n hC dX10_loosen_18 rfl (mm_gr hC cl_9 (by decide) rfl wd_126 dX10_loosen_19 (mm_ld_n hC dX10_loosen_22 rfl (mm_ic hC dX10_loosen_23 ⟨by decide, by decide⟩ (mm_ias hC dX10_loosen_24 (mm_la_n hC dX10_loosen_25 rfl (mm_ic hC dX10_loosen_26 ⟨by decide, by decide⟩ (mm_pi hC cl_9 (by decide) rfl rfl rfl wd_123 dX10_loosen_27 (fun _ _ _ h => h)))))))))))))))))))))), (by unfold b_X10_loosen_30; exact (mm_vr hC ⟨rfl, rfl⟩ hr dX10_loosen_30))⟩
set_option maxRecDepth 100000 in
set_option maxHeartbeats 8000000 in
theorem pv_X10_loosen : ∀ (av : List mm_V) (σ : mm_S) (Post : Option mm_V → mm_S → Prop), (∀ v ∈ av, mm_iv v) → (∀ a j, mm_in (σ.1 a j)) → σ.2.2 ≤ 348 → T_X10_loosen av σ Post → ∀ Ok : Nat → mm_K, clo_X10_loosen Ok Post σ.2.2 → Ok 0 (av ++ List.replicate (3 - av.length) (.inr none)) [] σ := by
  intro av σ Post hav hin hk hT Ok hcl
  obtain ⟨I, R0⟩ := σ
  unfold T_X10_loosen at hT
  split at hT
  · rename_i w x
    obtain ⟨h0, hT⟩ := hT
    have h0 : R0 = mm_R0 := h0
    subst h0
    dsimp only at hT hin
    obtain ⟨c0, c30⟩ := hcl
    obtain ⟨h1, f, g, rfl, h2, h3, h4, hP⟩ := hT
    have hw := sh_lt h1 (by decide)
    obtain ⟨s0, s1, s2, s3, s4⟩ := sh_world w hw h1
    have hR : ∀ j, mm_Rs w j = some (w + (j - 1)) := fun j => Rs_world h1
    have w1 : w + 1 < 348 := by omega
    refine c0 _ _ _ ?_
    simp only [b_X10_loosen_0, i_ld, i_la, i_st, i_sa, i_c, i_inc, i_add, i_sub, i_mul, i_div, i_rem, i_remT, i_xor, i_dup, i_dup2, i_if, i_if2, i_sw, i_gi, i_gr, i_pi, i_pz, i_ial, i_ias, i_len, i_aal, i_gs, i_tal, i_cv, i_cs, i_ir, i_zr, i_vr, i_min, i_max, i_cpy, List.getElem?_cons_zero, List.getElem?_cons_succ, List.set_cons_zero, List.set_cons_succ, List.length_cons, List.length_nil, List.drop_succ_cons, List.drop_zero, List.take_succ_cons, List.take_zero, List.reverse_cons, List.reverse_nil, List.nil_append, List.cons_append, Option.toList_some, Option.toList_none, true_and, and_true, true_or, or_true, Nat.reduceAdd, Nat.reduceLT, Nat.reduceLeDiff, Option.some.injEq, exists_eq_left', Int.toNat_natCast, Nat.reduceSub, List.append_nil, List.replicate_succ, List.replicate_zero, hw, h1, hR, s1, w1, h4]
    refine ⟨⟨by omega, by omega⟩, fun _ => ⟨fun q => by omega, fun q => ⟨⟨by omega, by omega⟩, ⟨by omega, by omega⟩, ?_⟩⟩⟩
    refine c30 _ _ _ ?_
    simp only [b_X10_loosen_30, i_ld, i_la, i_st, i_sa, i_c, i_inc, i_add, i_sub, i_mul, i_div, i_rem, i_remT, i_xor, i_dup, i_dup2, i_if, i_if2, i_sw, i_gi, i_gr, i_pi, i_pz, i_ial, i_ias, i_len, i_aal, i_gs, i_tal, i_cv, i_cs, i_ir, i_zr, i_vr, i_min, i_max, i_cpy, List.getElem?_cons_zero, List.getElem?_cons_succ, List.set_cons_zero, List.set_cons_succ, List.length_cons, List.length_nil, List.drop_succ_cons, List.drop_zero, List.take_succ_cons, List.take_zero, List.reverse_cons, List.reverse_nil, List.nil_append, List.cons_append, Option.toList_some, Option.toList_none, true_and, and_true, true_or, or_true, Nat.reduceAdd, Nat.reduceLT, Nat.reduceLeDiff, Option.some.injEq, exists_eq_left', Int.toNat_natCast, Nat.reduceSub, List.append_nil, List.replicate_succ, List.replicate_zero]
    refine hP _ (fun b q1 q2 => ?_) ?_ ?_ (fun j => ?_)
    · funext j; simp [mm_set, q1, q2]
    · simp [mm_set]
    · simp [mm_set]
    · by_cases e1 : j = f
      · subst e1; simp [mm_set]
      · by_cases e2 : j = g
        · subst e2; simp [mm_set]
        · simp [mm_set, e1, e2]
  · exact hT.elim
theorem sp_X10_loosen : mm_Sp yX10_loosen cX10_loosen 3 none rm_X10_loosen T_X10_loosen := mm_meth (by decide) (by
  intro av σ Post h
  unfold T_X10_loosen at h
  split at h
  · simp
  · exact h.elim) (fun p l e s m args below meth c G av σ Post hC hr _ hav hin hk hT => pv_X10_loosen av σ Post hav hin hk hT _ (bk_X10_loosen hC hr))
def T_X10_leads : mm_T := fun av σ Post => match av with
  | [.inr (some w), .inl x] => σ.2 = mm_R0 ∧ (mm_sh w).1 = 9 ∧ ∃ f : Nat, x = f ∧ f < 12 ∧ ∀ z : Int, bz z ((f : Int) < σ.1 (w + 1) f) → Post (some (.inl z)) σ
  | _ => False
def rm_X10_leads : Room := { frames := 0, cells := 0, slots := 0, locals := 0 }
def b_X10_leads_0 (Ok : Nat → mm_K) (Post : Option mm_V → mm_S → Prop) (kf : Nat) : mm_K := i_la 0 (i_gr 9 2 (i_ld 1 (i_ial (i_ld 1 (i_if2 (fun x y => x ≤ y) (i_c 0 (Ok 15)) (i_c 1 (Ok 15)))))))
def b_X10_leads_15 (Ok : Nat → mm_K) (Post : Option mm_V → mm_S → Prop) (kf : Nat) : mm_K := i_zr Post kf
def clo_X10_leads (Ok : Nat → mm_K) (Post : Option mm_V → mm_S → Prop) (kf : Nat) : Prop := mm_imp (b_X10_leads_0 Ok Post kf) (Ok 0) ∧ mm_imp (b_X10_leads_15 Ok Post kf) (Ok 15)
set_option maxRecDepth 100000 in
set_option maxHeartbeats 4000000 in
theorem bk_X10_leads {p : Program} {l : Launch} {e : Env} {s : State} {m : MethodId} {args : Array Value} {below : List Frame} {meth : Method} {c : Code} {G : mm_G} {σ0 : mm_S} {Post : Option mm_V → mm_S → Prop} (hC : mm_C p G s m args meth c cX10_leads yX10_leads.cls) (hr : meth.sig.returnType = some .boolean) : clo_X10_leads (mm_O p l e rm_X10_leads s m args below meth c G σ0.2.2 (MQ below (mm_Qc G σ0 rm_X10_leads.cells rm_X10_leads.slots Post) args s rm_X10_leads.cells rm_X10_leads.slots (mm_A G))) Post σ0.2.2 := ⟨(by unfold b_X10_leads_0; exact (mm_la_n hC dX10_leads_0 rfl (mm_gr hC cl_9 (by decide) rfl wd_126 dX10_leads_1 (mm_ld_n hC dX10_leads_4 rfl (mm_ial hC dX10_leads_5 (mm_ld_n hC dX10_leads_6 rfl (mm_ic_le hC (t := 14) dX10_leads_7 (by decide) (mm_ic hC dX10_leads_14 ⟨by decide, by decide⟩ (fun _ _ _ h => h)) (mm_ic hC dX10_leads_10 ⟨by decide, by decide⟩ (mm_goto hC (t := 15) dX10_leads_11 (by decide) (fun _ _ _ h => h)))))))))), (by unfold b_X10_leads_15; exact (mm_zr hC ⟨rfl, rfl⟩ hr dX10_leads_15))⟩
set_option maxRecDepth 100000 in
set_option maxHeartbeats 8000000 in
theorem pv_X10_leads : ∀ (av : List mm_V) (σ : mm_S) (Post : Option mm_V → mm_S → Prop), (∀ v ∈ av, mm_iv v) → (∀ a j, mm_in (σ.1 a j)) → σ.2.2 ≤ 348 → T_X10_leads av σ Post → ∀ Ok : Nat → mm_K, clo_X10_leads Ok Post σ.2.2 → Ok 0 (av ++ List.replicate (2 - av.length) (.inr none)) [] σ := by
  intro av σ Post hav hin hk hT Ok hcl
  obtain ⟨I, R0⟩ := σ
  unfold T_X10_leads at hT
  split at hT
  · rename_i w x
    obtain ⟨h0, hT⟩ := hT
    have h0 : R0 = mm_R0 := h0
    subst h0
    dsimp only at hT hin
    obtain ⟨c0, c15⟩ := hcl
    obtain ⟨h1, f, rfl, h2, hP⟩ := hT
    have hw := sh_lt h1 (by decide)
    obtain ⟨s0, s1, s2, s3, s4⟩ := sh_world w hw h1
    have hR : ∀ j, mm_Rs w j = some (w + (j - 1)) := fun j => Rs_world h1
    have w1 : w + 1 < 348 := by omega
    refine c0 _ _ _ ?_
    simp only [b_X10_leads_0, i_ld, i_la, i_st, i_sa, i_c, i_inc, i_add, i_sub, i_mul, i_div, i_rem, i_remT, i_xor, i_dup, i_dup2, i_if, i_if2, i_sw, i_gi, i_gr, i_pi, i_pz, i_ial, i_ias, i_len, i_aal, i_gs, i_tal, i_cv, i_cs, i_ir, i_zr, i_vr, i_min, i_max, i_cpy, List.getElem?_cons_zero, List.getElem?_cons_succ, List.set_cons_zero, List.set_cons_succ, List.length_cons, List.length_nil, List.drop_succ_cons, List.drop_zero, List.take_succ_cons, List.take_zero, List.reverse_cons, List.reverse_nil, List.nil_append, List.cons_append, Option.toList_some, Option.toList_none, true_and, and_true, true_or, or_true, Nat.reduceAdd, Nat.reduceLT, Nat.reduceLeDiff, Option.some.injEq, exists_eq_left', Int.toNat_natCast, Nat.reduceSub, List.append_nil, List.replicate_succ, List.replicate_zero, hw, h1, hR, s1, w1]
    refine ⟨⟨by omega, by omega⟩, fun _ => ⟨fun q => ?_, fun q => ?_⟩⟩
    · refine c15 _ _ _ ?_
      simp only [b_X10_leads_15, i_ld, i_la, i_st, i_sa, i_c, i_inc, i_add, i_sub, i_mul, i_div, i_rem, i_remT, i_xor, i_dup, i_dup2, i_if, i_if2, i_sw, i_gi, i_gr, i_pi, i_pz, i_ial, i_ias, i_len, i_aal, i_gs, i_tal, i_cv, i_cs, i_ir, i_zr, i_vr, i_min, i_max, i_cpy, List.getElem?_cons_zero, List.getElem?_cons_succ, List.set_cons_zero, List.set_cons_succ, List.length_cons, List.length_nil, List.drop_succ_cons, List.drop_zero, List.take_succ_cons, List.take_zero, List.reverse_cons, List.reverse_nil, List.nil_append, List.cons_append, Option.toList_some, Option.toList_none, true_and, and_true, true_or, or_true, Nat.reduceAdd, Nat.reduceLT, Nat.reduceLeDiff, Option.some.injEq, exists_eq_left', Int.toNat_natCast, Nat.reduceSub, List.append_nil, List.replicate_succ, List.replicate_zero]
      exact hP 0 (bz_0 (by omega))
    · refine c15 _ _ _ ?_
      simp only [b_X10_leads_15, i_ld, i_la, i_st, i_sa, i_c, i_inc, i_add, i_sub, i_mul, i_div, i_rem, i_remT, i_xor, i_dup, i_dup2, i_if, i_if2, i_sw, i_gi, i_gr, i_pi, i_pz, i_ial, i_ias, i_len, i_aal, i_gs, i_tal, i_cv, i_cs, i_ir, i_zr, i_vr, i_min, i_max, i_cpy, List.getElem?_cons_zero, List.getElem?_cons_succ, List.set_cons_zero, List.set_cons_succ, List.length_cons, List.length_nil, List.drop_succ_cons, List.drop_zero, List.take_succ_cons, List.take_zero, List.reverse_cons, List.reverse_nil, List.nil_append, List.cons_append, Option.toList_some, Option.toList_none, true_and, and_true, true_or, or_true, Nat.reduceAdd, Nat.reduceLT, Nat.reduceLeDiff, Option.some.injEq, exists_eq_left', Int.toNat_natCast, Nat.reduceSub, List.append_nil, List.replicate_succ, List.replicate_zero]
      exact hP 1 (bz_1 (by omega))
  · exact hT.elim
theorem sp_X10_leads : mm_Sp yX10_leads cX10_leads 2 (some .boolean) rm_X10_leads T_X10_leads := mm_meth (by decide) (by
  intro av σ Post h
  unfold T_X10_leads at h
  split at h
  · simp
  · exact h.elim) (fun p l e s m args below meth c G av σ Post hC hr _ hav hin hk hT => pv_X10_leads av σ Post hav hin hk hT _ (bk_X10_leads hC hr))
/-- the corner behind face f of corner v, glued by way k to face o -/
def acN (o k f v : Nat) : Nat :=
  let p := (mm_tb 0 (3 * k + (if v < f % 4 then v else v - 1))).toNat
  o - o % 4 + (if p < o % 4 then p else p + 1)
def acr (pa wy : Nat → Int) (f v : Nat) : Int := if v = f % 4 ∨ pa f < 0 then -1 else (acN (pa f).toNat (wy f).toNat f v : Int)
theorem wtab_b : ∀ i, i < 18 → 0 ≤ mm_tb 0 i ∧ mm_tb 0 i ≤ 2 := by decide +kernel
def T_X10_across : mm_T := fun av σ Post => match av with
  | [.inr (some w), .inl x, .inl y] => σ.2 = mm_R0 ∧ (mm_sh w).1 = 9 ∧ ∃ f v : Nat, x = f ∧ y = v ∧ f < 12 ∧ v < 4 ∧ (0 ≤ σ.1 (w + 1) f → σ.1 (w + 1) f < 12 ∧ 0 ≤ σ.1 (w + 2) f ∧ σ.1 (w + 2) f < 6) ∧ Post (some (.inl (acr (σ.1 (w + 1)) (σ.1 (w + 2)) f v))) σ
  | _ => False
def rm_X10_across : Room := { frames := 0, cells := 0, slots := 0, locals := 0 }
def b_X10_across_0 (Ok : Nat → mm_K) (Post : Option mm_V → mm_S → Prop) (kf : Nat) : mm_K := i_ld 1 (i_c 4 (i_rem (i_st 3 (i_la 0 (i_gr 9 2 (i_ld 1 (i_ial (i_st 4 (i_ld 2 (i_ld 3 (i_if2 (fun x y => x = y) (Ok 22) (i_ld 4 (i_if (fun x => 0 ≤ x) (i_gs 0 (i_c 3 (i_la 0 (i_gr 9 3 (i_ld 1 (i_ial (i_mul (i_ld 2 (i_ld 3 (i_if2 (fun x y => y ≤ x) (i_ld 2 (i_c 1 (i_sub (Ok 47)))) (i_ld 2 (Ok 47)))))))))))) (Ok 22))))))))))))))
def b_X10_across_22 (Ok : Nat → mm_K) (Post : Option mm_V → mm_S → Prop) (kf : Nat) : mm_K := i_c (-1) (i_ir Post kf)
def b_X10_across_47 (Ok : Nat → mm_K) (Post : Option mm_V → mm_S → Prop) (kf : Nat) : mm_K := i_add (i_tal 0 (i_st 5 (i_ld 4 (i_c 4 (i_rem (i_st 6 (i_ld 4 (i_ld 6 (i_sub (i_ld 5 (i_ld 6 (i_if2 (fun x y => y ≤ x) (i_ld 5 (i_c 1 (i_add (Ok 78)))) (i_ld 5 (Ok 78))))))))))))))
def b_X10_across_78 (Ok : Nat → mm_K) (Post : Option mm_V → mm_S → Prop) (kf : Nat) : mm_K := i_add (i_ir Post kf)
def clo_X10_across (Ok : Nat → mm_K) (Post : Option mm_V → mm_S → Prop) (kf : Nat) : Prop := mm_imp (b_X10_across_0 Ok Post kf) (Ok 0) ∧ mm_imp (b_X10_across_22 Ok Post kf) (Ok 22) ∧ mm_imp (b_X10_across_47 Ok Post kf) (Ok 47) ∧ mm_imp (b_X10_across_78 Ok Post kf) (Ok 78)
set_option maxRecDepth 100000 in
set_option maxHeartbeats 4000000 in
theorem bk_X10_across {p : Program} {l : Launch} {e : Env} {s : State} {m : MethodId} {args : Array Value} {below : List Frame} {meth : Method} {c : Code} {G : mm_G} {σ0 : mm_S} {Post : Option mm_V → mm_S → Prop} (hC : mm_C p G s m args meth c cX10_across yX10_across.cls) (hr : meth.sig.returnType = some .int) : clo_X10_across (mm_O p l e rm_X10_across s m args below meth c G σ0.2.2 (MQ below (mm_Qc G σ0 rm_X10_across.cells rm_X10_across.slots Post) args s rm_X10_across.cells rm_X10_across.slots (mm_A G))) Post σ0.2.2 := ⟨(by unfold b_X10_across_0; exact (mm_ld_n hC dX10_across_0 rfl (mm_ic hC dX10_across_1 ⟨by decide, by decide⟩ (mm_rem hC dX10_across_2 (mm_st_n hC dX10_across_3 rfl (mm_la_n hC dX10_across_4 rfl (mm_gr hC cl_9 (by decide) rfl wd_126 dX10_across_5 (mm_ld_n hC dX10_across_8 rfl (mm_ial hC dX10_across_9 (mm_st hC dX10_across_10 (mm_ld_n hC dX10_across_12 rfl (mm_ld_n hC dX10_across_13 rfl (mm_ic_eq hC (t := 22) dX10_across_14 (by decide) (fun _ _ _ h => h) (mm_ld hC dX10_across_17 (mm_if_ge hC (t := 24) dX10_across_19 (by decide) (mm_gs hC (by decide) wd_386 dX10_across_24 (mm_ic hC dX10_across_27 ⟨by decide, by decide⟩ (mm_la_n hC dX10_across_28 rfl (mm_gr hC cl_9 (by decide) rfl wd_130 dX10_across_29 (mm_ld_n hC dX10_across_32 rfl (mm_ial hC dX10_across_33 (mm_mul hC dX10_across_34 (mm_ld_n hC dX10_across_35 rfl (mm_ld_n hC dX10_across_36 rfl (mm_ic_ge hC (t := 44) dX10_across_37 (by decide) (mm_ld_n hC dX10_across_44 rfl (mm_ic hC dX10_across_45 ⟨by decide, by decide⟩ (mm_sub hC dX10_across_46 (fun _ _ _ h => h)))) (mm_ld_n hC dX10_across_40 rfl (mm_goto hC (t := 47) dX10_across_41 (by decide) (fun _ _ _ h => h))))))))))))) (fun _ _ _ h => h)))))))))))))))), (by unfold b_X10_across_22; exact (mm_ic hC dX10_across_22 ⟨by decide, by decide⟩ (mm_ir hC ⟨rfl, rfl⟩ hr dX10_across_23))), (by unfold b_X10_across_47; exact (mm_add hC dX10_across_47 (mm_tal hC (by decide) (mm_tbin _) dX10_across_48 (mm_st hC dX10_across_49 (mm_ld hC dX10_across_51 (mm_ic hC dX10_across_53 ⟨by decide, by decide⟩ (mm_rem hC dX10_across_54 (mm_st hC dX10_across_55 (mm_ld hC dX10_across_57 (mm_ld hC dX10_across_59 (mm_sub hC dX10_across_61 (mm_ld hC dX10_across_62 (mm_ld hC dX10_across_64 (mm_ic_ge hC (t := 74) dX10_across_66 (by decide) (mm_ld hC dX10_across_74 (mm_ic hC dX10_across_76 ⟨by decide, by decide⟩ (mm_add hC dX10_across_77 (fun _ _ _ h => h)))) (mm_ld hC dX10_across_69 (mm_goto hC (t := 78) dX10_across_71 (by decide) (fun _ _ _ h => h))))))))))))))))), (by unfold b_X10_across_78; exact (mm_add hC dX10_across_78 (mm_ir hC ⟨rfl, rfl⟩ hr dX10_across_79)))⟩
set_option maxRecDepth 100000 in
set_option maxHeartbeats 8000000 in
theorem pv_X10_across : ∀ (av : List mm_V) (σ : mm_S) (Post : Option mm_V → mm_S → Prop), (∀ v ∈ av, mm_iv v) → (∀ a j, mm_in (σ.1 a j)) → σ.2.2 ≤ 348 → T_X10_across av σ Post → ∀ Ok : Nat → mm_K, clo_X10_across Ok Post σ.2.2 → Ok 0 (av ++ List.replicate (7 - av.length) (.inr none)) [] σ := by
  intro av σ Post hav hin hk hT Ok hcl
  obtain ⟨I, R0⟩ := σ
  unfold T_X10_across at hT
  split at hT
  · rename_i w x y
    obtain ⟨h0, hT⟩ := hT
    have h0 : R0 = mm_R0 := h0
    subst h0
    dsimp only at hT hin
    obtain ⟨c0, c22, c47, c78⟩ := hcl
    obtain ⟨h1, f, v, rfl, rfl, h2, h3, h4, hP⟩ := hT
    have hw := sh_lt h1 (by decide)
    obtain ⟨s0, s1, s2, s3, s4⟩ := sh_world w hw h1
    have hR : ∀ j, mm_Rs w j = some (w + (j - 1)) := fun j => Rs_world h1
    have w1 : w + 1 < 348 := by omega
    have w2 : w + 2 < 348 := by omega
    have l0 : (mm_tl 0).length = 18 := rfl
    have ef : (f : Int) % 4 = ((f % 4 : Nat) : Int) := by omega
    have no : (v = f % 4 ∨ I (w + 1) f < 0) → ∀ u1 u2 u3 u4 u5 : mm_V, Ok 22 [.inr (some w), u1, u2, u3, u4, u5, .inr none] [] (I, mm_R0) := by
      intro h u1 u2 u3 u4 u5
      refine c22 _ _ _ ?_
      simp only [b_X10_across_22, i_ld, i_la, i_st, i_sa, i_c, i_inc, i_add, i_sub, i_mul, i_div, i_rem, i_remT, i_xor, i_dup, i_dup2, i_if, i_if2, i_sw, i_gi, i_gr, i_pi, i_pz, i_ial, i_ias, i_len, i_aal, i_gs, i_tal, i_cv, i_cs, i_ir, i_zr, i_vr, i_min, i_max, i_cpy, List.getElem?_cons_zero, List.getElem?_cons_succ, List.set_cons_zero, List.set_cons_succ, List.length_cons, List.length_nil, List.drop_succ_cons, List.drop_zero, List.take_succ_cons, List.take_zero, List.reverse_cons, List.reverse_nil, List.nil_append, List.cons_append, Option.toList_some, Option.toList_none, true_and, and_true, true_or, or_true, Nat.reduceAdd, Nat.reduceLT, Nat.reduceLeDiff, Option.some.injEq, exists_eq_left', Int.toNat_natCast, Nat.reduceSub, List.append_nil, List.replicate_succ, List.replicate_zero]
      unfold acr at hP
      rw [if_pos h] at hP
      exact hP
    refine c0 _ _ _ ?_
    simp only [b_X10_across_0, i_ld, i_la, i_st, i_sa, i_c, i_inc, i_add, i_sub, i_mul, i_div, i_rem, i_remT, i_xor, i_dup, i_dup2, i_if, i_if2, i_sw, i_gi, i_gr, i_pi, i_pz, i_ial, i_ias, i_len, i_aal, i_gs, i_tal, i_cv, i_cs, i_ir, i_zr, i_vr, i_min, i_max, i_cpy, List.getElem?_cons_zero, List.getElem?_cons_succ, List.set_cons_zero, List.set_cons_succ, List.length_cons, List.length_nil, List.drop_succ_cons, List.drop_zero, List.take_succ_cons, List.take_zero, List.reverse_cons, List.reverse_nil, List.nil_append, List.cons_append, Option.toList_some, Option.toList_none, true_and, and_true, true_or, or_true, Nat.reduceAdd, Nat.reduceLT, Nat.reduceLeDiff, Option.some.injEq, exists_eq_left', Int.toNat_natCast, Nat.reduceSub, List.append_nil, List.replicate_succ, List.replicate_zero, hw, h1, hR, s1, s2, w1, w2, ef]
    refine ⟨⟨by omega, by omega⟩, ⟨by omega, by omega⟩, fun _ => ⟨fun q => no (by omega) _ _ _ _ _, fun q => ⟨fun q2 => ?_, fun q2 => no (by omega) _ _ _ _ _⟩⟩⟩
    obtain ⟨g1, g2, g3⟩ := h4 q2
    obtain ⟨o, ho⟩ := Int.eq_ofNat_of_zero_le q2
    obtain ⟨k, hk2⟩ := Int.eq_ofNat_of_zero_le g2
    rw [ho] at g1
    rw [hk2] at g3
    unfold acr at hP
    rw [if_neg (by omega), ho, hk2, Int.toNat_natCast, Int.toNat_natCast] at hP
    obtain ⟨i, hi⟩ : ∃ i, (if v < f % 4 then v else v - 1) = i := ⟨_, rfl⟩
    have hib : i < 3 := by rw [← hi]; split <;> omega
    have fin : Ok 47 [.inr (some w), .inl (f : Int), .inl (v : Int), .inl ((f % 4 : Nat) : Int), .inl (o : Int), .inr none, .inr none] [.inl (i : Int), .inl (3 * (k : Int)), .inr (some (1000000 + 0))] (I, mm_R0) := by
      have e1 : (3 * (k : Int) + (i : Int)).toNat = 3 * k + i := by omega
      have hp := wtab_b (3 * k + i) (by omega)
      obtain ⟨p, hp2⟩ := Int.eq_ofNat_of_zero_le hp.1
      have eo : (o : Int) % 4 = ((o % 4 : Nat) : Int) := by omega
      have hval : acN o k f v = o - o % 4 + (if p < o % 4 then p else p + 1) := by
        unfold acN
        rw [hi, hp2]
        rfl
      rw [hval] at hP
      refine c47 _ _ _ ?_
      simp only [b_X10_across_47, i_ld, i_la, i_st, i_sa, i_c, i_inc, i_add, i_sub, i_mul, i_div, i_rem, i_remT, i_xor, i_dup, i_dup2, i_if, i_if2, i_sw, i_gi, i_gr, i_pi, i_pz, i_ial, i_ias, i_len, i_aal, i_gs, i_tal, i_cv, i_cs, i_ir, i_zr, i_vr, i_min, i_max, i_cpy, List.getElem?_cons_zero, List.getElem?_cons_succ, List.set_cons_zero, List.set_cons_succ, List.length_cons, List.length_nil, List.drop_succ_cons, List.drop_zero, List.take_succ_cons, List.take_zero, List.reverse_cons, List.reverse_nil, List.nil_append, List.cons_append, Option.toList_some, Option.toList_none, true_and, and_true, true_or, or_true, Nat.reduceAdd, Nat.reduceLT, Nat.reduceLeDiff, Option.some.injEq, exists_eq_left', Int.toNat_natCast, Nat.reduceSub, List.append_nil, List.replicate_succ, List.replicate_zero, e1, hp2, eo, l0]
      refine ⟨⟨by omega, by omega⟩, ⟨by omega, by omega⟩, ⟨by omega, by omega⟩, ⟨by omega, by omega⟩, fun z => ⟨⟨by omega, by omega⟩, ?_⟩, fun z => ?_⟩
      · refine c78 _ _ _ ?_
        simp only [b_X10_across_78, i_ld, i_la, i_st, i_sa, i_c, i_inc, i_add, i_sub, i_mul, i_div, i_rem, i_remT, i_xor, i_dup, i_dup2, i_if, i_if2, i_sw, i_gi, i_gr, i_pi, i_pz, i_ial, i_ias, i_len, i_aal, i_gs, i_tal, i_cv, i_cs, i_ir, i_zr, i_vr, i_min, i_max, i_cpy, List.getElem?_cons_zero, List.getElem?_cons_succ, List.set_cons_zero, List.set_cons_succ, List.length_cons, List.length_nil, List.drop_succ_cons, List.drop_zero, List.take_succ_cons, List.take_zero, List.reverse_cons, List.reverse_nil, List.nil_append, List.cons_append, Option.toList_some, Option.toList_none, true_and, and_true, true_or, or_true, Nat.reduceAdd, Nat.reduceLT, Nat.reduceLeDiff, Option.some.injEq, exists_eq_left', Int.toNat_natCast, Nat.reduceSub, List.append_nil, List.replicate_succ, List.replicate_zero]
        refine ⟨⟨by omega, by omega⟩, ?_⟩
        rw [if_neg (by omega)] at hP
        rw [show (o : Int) - ((o % 4 : Nat) : Int) + ((p : Int) + 1) = ((o - o % 4 + (p + 1) : Nat) : Int) by omega]
        exact hP
      · refine c78 _ _ _ ?_
        simp only [b_X10_across_78, i_ld, i_la, i_st, i_sa, i_c, i_inc, i_add, i_sub, i_mul, i_div, i_rem, i_remT, i_xor, i_dup, i_dup2, i_if, i_if2, i_sw, i_gi, i_gr, i_pi, i_pz, i_ial, i_ias, i_len, i_aal, i_gs, i_tal, i_cv, i_cs, i_ir, i_zr, i_vr, i_min, i_max, i_cpy, List.getElem?_cons_zero, List.getElem?_cons_succ, List.set_cons_zero, List.set_cons_succ, List.length_cons, List.length_nil, List.drop_succ_cons, List.drop_zero, List.take_succ_cons, List.take_zero, List.reverse_cons, List.reverse_nil, List.nil_append, List.cons_append, Option.toList_some, Option.toList_none, true_and, and_true, true_or, or_true, Nat.reduceAdd, Nat.reduceLT, Nat.reduceLeDiff, Option.some.injEq, exists_eq_left', Int.toNat_natCast, Nat.reduceSub, List.append_nil, List.replicate_succ, List.replicate_zero]
        refine ⟨⟨by omega, by omega⟩, ?_⟩
        rw [if_pos (by omega)] at hP
        rw [show (o : Int) - ((o % 4 : Nat) : Int) + (p : Int) = ((o - o % 4 + p : Nat) : Int) by omega]
        exact hP
    rw [ho, hk2]
    refine ⟨⟨by omega, by omega⟩, fun _ => ⟨⟨by omega, by omega⟩, fun z => ⟨⟨by omega, by omega⟩, ?_⟩, fun z => ?_⟩⟩
    · rw [if_neg (by omega)] at hi
      rw [show (v : Int) - 1 = (i : Int) by omega]
      exact fin
    · rw [if_pos (by omega)] at hi
      subst hi
      exact fin
  · exact hT.elim
theorem sp_X10_across : mm_Sp yX10_across cX10_across 7 (some .int) rm_X10_across T_X10_across := mm_meth (by decide) (by
  intro av σ Post h
  unfold T_X10_across at h
  split at h
  · simp
  · exact h.elim) (fun p l e s m args below meth c G av σ Post hC hr _ hav hin hk hT => pv_X10_across av σ Post hav hin hk hT _ (bk_X10_across hC hr))
def T_X10_isFull : mm_T := fun av σ Post => match av with
  | [.inr (some w)] => σ.2 = mm_R0 ∧ (mm_sh w).1 = 9 ∧ ∀ z : Int, bz z (6 ≤ σ.1 w 1) → Post (some (.inl z)) σ
  | _ => False
def rm_X10_isFull : Room := { frames := 0, cells := 0, slots := 0, locals := 0 }
def b_X10_isFull_0 (Ok : Nat → mm_K) (Post : Option mm_V → mm_S → Prop) (kf : Nat) : mm_K := i_la 0 (i_gi 9 1 (i_c 6 (i_if2 (fun x y => x < y) (i_c 0 (Ok 14)) (i_c 1 (Ok 14)))))
def b_X10_isFull_14 (Ok : Nat → mm_K) (Post : Option mm_V → mm_S → Prop) (kf : Nat) : mm_K := i_zr Post kf
def clo_X10_isFull (Ok : Nat → mm_K) (Post : Option mm_V → mm_S → Prop) (kf : Nat) : Prop := mm_imp (b_X10_isFull_0 Ok Post kf) (Ok 0) ∧ mm_imp (b_X10_isFull_14 Ok Post kf) (Ok 14)
set_option maxRecDepth 100000 in
set_option maxHeartbeats 4000000 in
theorem bk_X10_isFull {p : Program} {l : Launch} {e : Env} {s : State} {m : MethodId} {args : Array Value} {below : List Frame} {meth : Method} {c : Code} {G : mm_G} {σ0 : mm_S} {Post : Option mm_V → mm_S → Prop} (hC : mm_C p G s m args meth c cX10_isFull yX10_isFull.cls) (hr : meth.sig.returnType = some .boolean) : clo_X10_isFull (mm_O p l e rm_X10_isFull s m args below meth c G σ0.2.2 (MQ below (mm_Qc G σ0 rm_X10_isFull.cells rm_X10_isFull.slots Post) args s rm_X10_isFull.cells rm_X10_isFull.slots (mm_A G))) Post σ0.2.2 := ⟨(by unfold b_X10_isFull_0; exact (mm_la_n hC dX10_isFull_0 rfl (mm_gi hC cl_9 (by decide) rfl wd_123 dX10_isFull_1 (mm_bp hC dX10_isFull_4 ⟨⟨by decide, by decide⟩, by decide⟩ (mm_ic_lt hC (t := 13) dX10_isFull_6 (by decide) (mm_ic hC dX10_isFull_13 ⟨by decide, by decide⟩ (fun _ _ _ h => h)) (mm_ic hC dX10_isFull_9 ⟨by decide, by decide⟩ (mm_goto hC (t := 14) dX10_isFull_10 (by decide) (fun _ _ _ h => h)))))))), (by unfold b_X10_isFull_14; exact (mm_zr hC ⟨rfl, rfl⟩ hr dX10_isFull_14))⟩
set_option maxRecDepth 100000 in
set_option maxHeartbeats 8000000 in
theorem pv_X10_isFull : ∀ (av : List mm_V) (σ : mm_S) (Post : Option mm_V → mm_S → Prop), (∀ v ∈ av, mm_iv v) → (∀ a j, mm_in (σ.1 a j)) → σ.2.2 ≤ 348 → T_X10_isFull av σ Post → ∀ Ok : Nat → mm_K, clo_X10_isFull Ok Post σ.2.2 → Ok 0 (av ++ List.replicate (1 - av.length) (.inr none)) [] σ := by
  intro av σ Post hav hin hk hT Ok hcl
  obtain ⟨I, R0⟩ := σ
  unfold T_X10_isFull at hT
  split at hT
  · rename_i w
    obtain ⟨h0, hT⟩ := hT
    have h0 : R0 = mm_R0 := h0
    subst h0
    dsimp only at hT hin
    obtain ⟨c0, c14⟩ := hcl
    obtain ⟨h1, hP⟩ := hT
    have hw := sh_lt h1 (by decide)
    refine c0 _ _ _ ?_
    simp only [b_X10_isFull_0, i_ld, i_la, i_st, i_sa, i_c, i_inc, i_add, i_sub, i_mul, i_div, i_rem, i_remT, i_xor, i_dup, i_dup2, i_if, i_if2, i_sw, i_gi, i_gr, i_pi, i_pz, i_ial, i_ias, i_len, i_aal, i_gs, i_tal, i_cv, i_cs, i_ir, i_zr, i_vr, i_min, i_max, i_cpy, List.getElem?_cons_zero, List.getElem?_cons_succ, List.set_cons_zero, List.set_cons_succ, List.length_cons, List.length_nil, List.drop_succ_cons, List.drop_zero, List.take_succ_cons, List.take_zero, List.reverse_cons, List.reverse_nil, List.nil_append, List.cons_append, Option.toList_some, Option.toList_none, true_and, and_true, true_or, or_true, Nat.reduceAdd, Nat.reduceLT, Nat.reduceLeDiff, Option.some.injEq, exists_eq_left', Int.toNat_natCast, Nat.reduceSub, List.append_nil, List.replicate_succ, List.replicate_zero, hw, h1]
    refine fun _ => ⟨fun q => ?_, fun q => ?_⟩
    · refine c14 _ _ _ ?_
      simp only [b_X10_isFull_14, i_ld, i_la, i_st, i_sa, i_c, i_inc, i_add, i_sub, i_mul, i_div, i_rem, i_remT, i_xor, i_dup, i_dup2, i_if, i_if2, i_sw, i_gi, i_gr, i_pi, i_pz, i_ial, i_ias, i_len, i_aal, i_gs, i_tal, i_cv, i_cs, i_ir, i_zr, i_vr, i_min, i_max, i_cpy, List.getElem?_cons_zero, List.getElem?_cons_succ, List.set_cons_zero, List.set_cons_succ, List.length_cons, List.length_nil, List.drop_succ_cons, List.drop_zero, List.take_succ_cons, List.take_zero, List.reverse_cons, List.reverse_nil, List.nil_append, List.cons_append, Option.toList_some, Option.toList_none, true_and, and_true, true_or, or_true, Nat.reduceAdd, Nat.reduceLT, Nat.reduceLeDiff, Option.some.injEq, exists_eq_left', Int.toNat_natCast, Nat.reduceSub, List.append_nil, List.replicate_succ, List.replicate_zero]
      exact hP 0 (bz_0 (by omega))
    · refine c14 _ _ _ ?_
      simp only [b_X10_isFull_14, i_ld, i_la, i_st, i_sa, i_c, i_inc, i_add, i_sub, i_mul, i_div, i_rem, i_remT, i_xor, i_dup, i_dup2, i_if, i_if2, i_sw, i_gi, i_gr, i_pi, i_pz, i_ial, i_ias, i_len, i_aal, i_gs, i_tal, i_cv, i_cs, i_ir, i_zr, i_vr, i_min, i_max, i_cpy, List.getElem?_cons_zero, List.getElem?_cons_succ, List.set_cons_zero, List.set_cons_succ, List.length_cons, List.length_nil, List.drop_succ_cons, List.drop_zero, List.take_succ_cons, List.take_zero, List.reverse_cons, List.reverse_nil, List.nil_append, List.cons_append, Option.toList_some, Option.toList_none, true_and, and_true, true_or, or_true, Nat.reduceAdd, Nat.reduceLT, Nat.reduceLeDiff, Option.some.injEq, exists_eq_left', Int.toNat_natCast, Nat.reduceSub, List.append_nil, List.replicate_succ, List.replicate_zero]
      exact hP 1 (bz_1 (by omega))
  · exact hT.elim
theorem sp_X10_isFull : mm_Sp yX10_isFull cX10_isFull 1 (some .boolean) rm_X10_isFull T_X10_isFull := mm_meth (by decide) (by
  intro av σ Post h
  unfold T_X10_isFull at h
  split at h
  · simp
  · exact h.elim) (fun p l e s m args below meth c G av σ Post hC hr _ hav hin hk hT => pv_X10_isFull av σ Post hav hin hk hT _ (bk_X10_isFull hC hr))
def T_X10_lastGrown : mm_T := fun av σ Post => match av with
  | [.inr (some w)] => σ.2 = mm_R0 ∧ (mm_sh w).1 = 9 ∧ 0 ≤ σ.1 w 1 ∧ σ.1 w 1 < 6 ∧ Post (some (.inl (σ.1 w 1))) (mm_set σ.1 w 1 (σ.1 w 1 + 1), mm_R0)
  | _ => False
def rm_X10_lastGrown : Room := { frames := 0, cells := 0, slots := 0, locals := 0 }
def b_X10_lastGrown_0 (Ok : Nat → mm_K) (Post : Option mm_V → mm_S → Prop) (kf : Nat) : mm_K := i_la 0 (i_dup (i_gi 9 1 (i_c 1 (i_add (i_pi 9 1 (i_la 0 (i_gi 9 1 (i_c 1 (i_sub (i_ir Post kf))))))))))
def clo_X10_lastGrown (Ok : Nat → mm_K) (Post : Option mm_V → mm_S → Prop) (kf : Nat) : Prop := mm_imp (b_X10_lastGrown_0 Ok Post kf) (Ok 0)
set_option maxRecDepth 100000 in
set_option maxHeartbeats 4000000 in
theorem bk_X10_lastGrown {p : Program} {l : Launch} {e : Env} {s : State} {m : MethodId} {args : Array Value} {below : List Frame} {meth : Method} {c : Code} {G : mm_G} {σ0 : mm_S} {Post : Option mm_V → mm_S → Prop} (hC : mm_C p G s m args meth c cX10_lastGrown yX10_lastGrown.cls) (hr : meth.sig.returnType = some .int) : clo_X10_lastGrown (mm_O p l e rm_X10_lastGrown s m args below meth c G σ0.2.2 (MQ below (mm_Qc G σ0 rm_X10_lastGrown.cells rm_X10_lastGrown.slots Post) args s rm_X10_lastGrown.cells rm_X10_lastGrown.slots (mm_A G))) Post σ0.2.2 := (by unfold clo_X10_lastGrown b_X10_lastGrown_0; exact (mm_la_n hC dX10_lastGrown_0 rfl (mm_dup hC dX10_lastGrown_1 (mm_gi hC cl_9 (by decide) rfl wd_123 dX10_lastGrown_2 (mm_ic hC dX10_lastGrown_5 ⟨by decide, by decide⟩ (mm_add hC dX10_lastGrown_6 (mm_pi hC cl_9 (by decide) rfl rfl rfl wd_123 dX10_lastGrown_7 (mm_la_n hC dX10_lastGrown_10 rfl (mm_gi hC cl_9 (by decide) rfl wd_123 dX10_lastGrown_11 (mm_ic hC dX10_lastGrown_14 ⟨by decide, by decide⟩ (mm_sub hC dX10_lastGrown_15 (mm_ir hC ⟨rfl, rfl⟩ hr dX10_lastGrown_16))))))))))))
set_option maxRecDepth 100000 in
set_option maxHeartbeats 8000000 in
theorem pv_X10_lastGrown : ∀ (av : List mm_V) (σ : mm_S) (Post : Option mm_V → mm_S → Prop), (∀ v ∈ av, mm_iv v) → (∀ a j, mm_in (σ.1 a j)) → σ.2.2 ≤ 348 → T_X10_lastGrown av σ Post → ∀ Ok : Nat → mm_K, clo_X10_lastGrown Ok Post σ.2.2 → Ok 0 (av ++ List.replicate (1 - av.length) (.inr none)) [] σ := by
  intro av σ Post hav hin hk hT Ok hcl
  obtain ⟨I, R0⟩ := σ
  unfold T_X10_lastGrown at hT
  split at hT
  · rename_i w
    obtain ⟨h0, hT⟩ := hT
    have h0 : R0 = mm_R0 := h0
    subst h0
    dsimp only at hT hin
    have c0 := hcl
    unfold clo_X10_lastGrown at c0
    obtain ⟨h1, h2, h3, hP⟩ := hT
    have hw := sh_lt h1 (by decide)
    have e1 : mm_set I w 1 (I w 1 + 1) w 1 = I w 1 + 1 := by simp [mm_set]
    refine c0 _ _ _ ?_
    simp only [b_X10_lastGrown_0, i_ld, i_la, i_st, i_sa, i_c, i_inc, i_add, i_sub, i_mul, i_div, i_rem, i_remT, i_xor, i_dup, i_dup2, i_if, i_if2, i_sw, i_gi, i_gr, i_pi, i_pz, i_ial, i_ias, i_len, i_aal, i_gs, i_tal, i_cv, i_cs, i_ir, i_zr, i_vr, i_min, i_max, i_cpy, List.getElem?_cons_zero, List.getElem?_cons_succ, List.set_cons_zero, List.set_cons_succ, List.length_cons, List.length_nil, List.drop_succ_cons, List.drop_zero, List.take_succ_cons, List.take_zero, List.reverse_cons, List.reverse_nil, List.nil_append, List.cons_append, Option.toList_some, Option.toList_none, true_and, and_true, true_or, or_true, Nat.reduceAdd, Nat.reduceLT, Nat.reduceLeDiff, Option.some.injEq, exists_eq_left', Int.toNat_natCast, Nat.reduceSub, List.append_nil, List.replicate_succ, List.replicate_zero, hw, h1, e1]
    refine fun _ => ⟨⟨by omega, by omega⟩, fun _ => ⟨⟨by omega, by omega⟩, ?_⟩⟩
    rw [Int.add_sub_cancel]
    exact hP
  · exact hT.elim
theorem sp_X10_lastGrown : mm_Sp yX10_lastGrown cX10_lastGrown 1 (some .int) rm_X10_lastGrown T_X10_lastGrown := mm_meth (by decide) (by
  intro av σ Post h
  unfold T_X10_lastGrown at h
  split at h
  · simp
  · exact h.elim) (fun p l e s m args below meth c G av σ Post hC hr _ hav hin hk hT => pv_X10_lastGrown av σ Post hav hin hk hT _ (bk_X10_lastGrown hC hr))
