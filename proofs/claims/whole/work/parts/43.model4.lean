/-! the other program: arcs, weights, sums
-/
theorem tg_tab : ∀ x, x < 4 → ∀ y, y < 4 → x ≠ y → (tg x y : Int) = (if (x : Int) = 0 ∨ (y : Int) = 0 then 3 + (x : Int) + y else 9 - (x : Int) - y) ∧ 4 ≤ tg x y ∧ tg x y ≤ 6 := by decide +kernel
def T_X12_four : mm_T := fun av σ Post => match av with
  | [.inl p, .inl q] => σ.2 = mm_R0 ∧ ∃ x y : Nat, p = x ∧ q = y ∧ x < 4 ∧ y < 4 ∧ x ≠ y ∧ Post (some (.inl (tg x y))) σ
  | _ => False
def rm_X12_four : Room := { frames := 0, cells := 0, slots := 0, locals := 0 }
def b_X12_four_0 (Ok : Nat → mm_K) (Post : Option mm_V → mm_S → Prop) (kf : Nat) : mm_K := i_ld 0 (i_if (fun x => x = 0) (Ok 8) (i_ld 1 (i_if (fun x => ¬ x = 0) (i_c 9 (i_ld 0 (i_sub (i_ld 1 (i_sub (Ok 22)))))) (Ok 8))))
def b_X12_four_8 (Ok : Nat → mm_K) (Post : Option mm_V → mm_S → Prop) (kf : Nat) : mm_K := i_c 3 (i_ld 0 (i_add (i_ld 1 (i_add (Ok 22)))))
def b_X12_four_22 (Ok : Nat → mm_K) (Post : Option mm_V → mm_S → Prop) (kf : Nat) : mm_K := i_ir Post kf
def clo_X12_four (Ok : Nat → mm_K) (Post : Option mm_V → mm_S → Prop) (kf : Nat) : Prop := mm_imp (b_X12_four_0 Ok Post kf) (Ok 0) ∧ mm_imp (b_X12_four_8 Ok Post kf) (Ok 8) ∧ mm_imp (b_X12_four_22 Ok Post kf) (Ok 22)
set_option maxRecDepth 100000 in
set_option maxHeartbeats 4000000 in
theorem bk_X12_four {p : Program} {l : Launch} {e : Env} {s : State} {m : MethodId} {args : Array Value} {below : List Frame} {meth : Method} {c : Code} {G : mm_G} {σ0 : mm_S} {Post : Option mm_V → mm_S → Prop} (hC : mm_C p G s m args meth c cX12_four yX12_four.cls) (hr : meth.sig.returnType = some .int) : clo_X12_four (mm_O p l e rm_X12_four s m args below meth c G σ0.2.2 (MQ below (mm_Qc G σ0 rm_X12_four.cells rm_X12_four.slots Post) args s rm_X12_four.cells rm_X12_four.slots (mm_A G))) Post σ0.2.2 := ⟨(by unfold b_X12_four_0; exact (mm_ld_n hC dX12_four_0 rfl (mm_if_eq hC (t := 8) dX12_four_1 (by decide) (fun _ _ _ h => h) (mm_ld_n hC dX12_four_4 rfl (mm_if_ne hC (t := 16) dX12_four_5 (by decide) (mm_bp hC dX12_four_16 ⟨⟨by decide, by decide⟩, by decide⟩ (mm_ld_n hC dX12_four_18 rfl (mm_sub hC dX12_four_19 (mm_ld_n hC dX12_four_20 rfl (mm_sub hC dX12_four_21 (fun _ _ _ h => h)))))) (fun _ _ _ h => h)))))), (by unfold b_X12_four_8; exact (mm_ic hC dX12_four_8 ⟨by decide, by decide⟩ (mm_ld_n hC dX12_four_9 rfl (mm_add hC dX12_four_10 (mm_ld_n hC dX12_four_11 rfl (mm_add hC dX12_four_12 (mm_goto hC (t := 22) dX12_four_13 (by decide) (fun _ _ _ h => h)))))))), (by unfold b_X12_four_22; exact (mm_ir hC ⟨rfl, rfl⟩ hr dX12_four_22))⟩
set_option maxRecDepth 100000 in
set_option maxHeartbeats 8000000 in
theorem pv_X12_four : ∀ (av : List mm_V) (σ : mm_S) (Post : Option mm_V → mm_S → Prop), (∀ v ∈ av, mm_iv v) → (∀ a j, mm_in (σ.1 a j)) → σ.2.2 ≤ 348 → T_X12_four av σ Post → ∀ Ok : Nat → mm_K, clo_X12_four Ok Post σ.2.2 → Ok 0 (av ++ List.replicate (2 - av.length) (.inr none)) [] σ := by
  intro av σ Post hav hin hk hT Ok hcl
  obtain ⟨I, R0⟩ := σ
  unfold T_X12_four at hT
  split at hT
  · rename_i p q
    obtain ⟨h0, hT⟩ := hT
    have h0 : R0 = mm_R0 := h0
    subst h0
    dsimp only at hT hin
    obtain ⟨c0, c8, c22⟩ := hcl
    obtain ⟨x, y, rfl, rfl, hx, hy, hne, hP⟩ := hT
    rw [(tg_tab x hx y hy hne).1] at hP
    have f22 : ∀ v : Int, v = (if (x : Int) = 0 ∨ (y : Int) = 0 then 3 + (x : Int) + y else 9 - (x : Int) - y) → Ok 22 [.inl (x : Int), .inl (y : Int)] [.inl v] (I, mm_R0) := by
      intro v hv
      refine c22 _ _ _ ?_
      simp only [b_X12_four_22, i_xorg, i_shl, i_shr, i_ior, i_and1, i_lcg1, i_lcg2, i_ld, i_la, i_st, i_sa, i_c, i_inc, i_add, i_sub, i_mul, i_div, i_rem, i_remT, i_xor, i_dup, i_dup2, i_if, i_if2, i_sw, i_gi, i_gr, i_pi, i_pz, i_ial, i_ias, i_len, i_aal, i_gs, i_tal, i_cv, i_cs, i_ir, i_zr, i_vr, i_min, i_max, i_cpy, List.getElem?_cons_zero, List.getElem?_cons_succ, List.set_cons_zero, List.set_cons_succ, List.length_cons, List.length_nil, List.drop_succ_cons, List.drop_zero, List.take_succ_cons, List.take_zero, List.reverse_cons, List.reverse_nil, List.nil_append, List.cons_append, Option.toList_some, Option.toList_none, true_and, and_true, true_or, or_true, Nat.reduceAdd, Nat.reduceLT, Nat.reduceLeDiff, Option.some.injEq, exists_eq_left', Int.toNat_natCast, Nat.reduceSub, List.append_nil, List.replicate_succ, List.replicate_zero]
      rw [hv]
      exact hP
    have f8 : ((x : Int) = 0 ∨ (y : Int) = 0) → Ok 8 [.inl (x : Int), .inl (y : Int)] [] (I, mm_R0) := by
      intro h
      refine c8 _ _ _ ?_
      simp only [b_X12_four_8, i_xorg, i_shl, i_shr, i_ior, i_and1, i_lcg1, i_lcg2, i_ld, i_la, i_st, i_sa, i_c, i_inc, i_add, i_sub, i_mul, i_div, i_rem, i_remT, i_xor, i_dup, i_dup2, i_if, i_if2, i_sw, i_gi, i_gr, i_pi, i_pz, i_ial, i_ias, i_len, i_aal, i_gs, i_tal, i_cv, i_cs, i_ir, i_zr, i_vr, i_min, i_max, i_cpy, List.getElem?_cons_zero, List.getElem?_cons_succ, List.set_cons_zero, List.set_cons_succ, List.length_cons, List.length_nil, List.drop_succ_cons, List.drop_zero, List.take_succ_cons, List.take_zero, List.reverse_cons, List.reverse_nil, List.nil_append, List.cons_append, Option.toList_some, Option.toList_none, true_and, and_true, true_or, or_true, Nat.reduceAdd, Nat.reduceLT, Nat.reduceLeDiff, Option.some.injEq, exists_eq_left', Int.toNat_natCast, Nat.reduceSub, List.append_nil, List.replicate_succ, List.replicate_zero, mm_in,]
      exact ⟨⟨by omega, by omega⟩, ⟨by omega, by omega⟩, f22 _ (by rw [if_pos h])⟩
    refine c0 _ _ _ ?_
    simp only [b_X12_four_0, i_xorg, i_shl, i_shr, i_ior, i_and1, i_lcg1, i_lcg2, i_ld, i_la, i_st, i_sa, i_c, i_inc, i_add, i_sub, i_mul, i_div, i_rem, i_remT, i_xor, i_dup, i_dup2, i_if, i_if2, i_sw, i_gi, i_gr, i_pi, i_pz, i_ial, i_ias, i_len, i_aal, i_gs, i_tal, i_cv, i_cs, i_ir, i_zr, i_vr, i_min, i_max, i_cpy, List.getElem?_cons_zero, List.getElem?_cons_succ, List.set_cons_zero, List.set_cons_succ, List.length_cons, List.length_nil, List.drop_succ_cons, List.drop_zero, List.take_succ_cons, List.take_zero, List.reverse_cons, List.reverse_nil, List.nil_append, List.cons_append, Option.toList_some, Option.toList_none, true_and, and_true, true_or, or_true, Nat.reduceAdd, Nat.reduceLT, Nat.reduceLeDiff, Option.some.injEq, exists_eq_left', Int.toNat_natCast, Nat.reduceSub, List.append_nil, List.replicate_succ, List.replicate_zero, mm_in,]
    refine ⟨fun h => f8 (by omega), fun h => ⟨fun h2 => ⟨⟨by omega, by omega⟩, ⟨by omega, by omega⟩, f22 _ (by rw [if_neg (by omega)])⟩, fun h2 => f8 (by omega)⟩⟩
  · exact hT.elim
theorem sp_X12_four : mm_Sp yX12_four cX12_four 2 (some .int) rm_X12_four T_X12_four := mm_meth (by decide) (by
  intro av σ Post h
  unfold T_X12_four at h
  split at h
  · simp
  · exact h.elim) (fun p l e s m args below meth c G av σ Post hC hr _ hav hin hk hT => pv_X12_four av σ Post hav hin hk hT _ (bk_X12_four hC hr))
def T_X12_arcsOf : mm_T := fun av σ Post => match av with
  | [.inr (some a), .inl s, .inl x, .inl y] => σ.2 = mm_R0 ∧ a = 338 ∧ ∃ o f v : Nat, s = o ∧ x = f ∧ y = v ∧ o ≤ 2888 ∧ f < 12 ∧ v < 4 ∧ v ≠ f % 4 ∧ bd (MN σ.1 o) ∧ Post (some (.inl (ac (MN σ.1 o) (f / 4) (f % 4) v))) σ
  | _ => False
def rm_X12_arcsOf : Room := { frames := 1, cells := 0, slots := 0, locals := 21 }
def b_X12_arcsOf_0 (Ok : Nat → mm_K) (Post : Option mm_V → mm_S → Prop) (kf : Nat) : mm_K := i_ld 1 (i_c 7 (i_ld 2 (i_c 4 (i_div (i_mul (i_add (i_st 4 (i_la 0 (i_gr 11 0 (i_ld 4 (i_ld 3 (i_add (i_ial (i_la 0 (i_gr 11 0 (i_ld 4 (i_ld 3 (i_ld 2 (i_c 4 (i_rem (i_cs 2 T_X12_four (i_add (i_ial (i_add (i_ir Post kf)))))))))))))))))))))))))
def clo_X12_arcsOf (Ok : Nat → mm_K) (Post : Option mm_V → mm_S → Prop) (kf : Nat) : Prop := mm_imp (b_X12_arcsOf_0 Ok Post kf) (Ok 0)
set_option maxRecDepth 100000 in
set_option maxHeartbeats 4000000 in
theorem bk_X12_arcsOf {p : Program} {l : Launch} {e : Env} {s : State} {m : MethodId} {args : Array Value} {below : List Frame} {meth : Method} {c : Code} {G : mm_G} {σ0 : mm_S} {Post : Option mm_V → mm_S → Prop} (hC : mm_C p G s m args meth c cX12_arcsOf yX12_arcsOf.cls) (hr : meth.sig.returnType = some .int) : clo_X12_arcsOf (mm_O p l e rm_X12_arcsOf s m args below meth c G σ0.2.2 (MQ below (mm_Qc G σ0 rm_X12_arcsOf.cells rm_X12_arcsOf.slots Post) args s rm_X12_arcsOf.cells rm_X12_arcsOf.slots (mm_A G))) Post σ0.2.2 := (by unfold clo_X12_arcsOf b_X12_arcsOf_0; exact (mm_ld_n hC dX12_arcsOf_0 rfl (mm_bp hC dX12_arcsOf_1 ⟨⟨by decide, by decide⟩, by decide⟩ (mm_ld_n hC dX12_arcsOf_3 rfl (mm_ic hC dX12_arcsOf_4 ⟨by decide, by decide⟩ (mm_div hC dX12_arcsOf_5 (mm_mul hC dX12_arcsOf_6 (mm_add hC dX12_arcsOf_7 (mm_st hC dX12_arcsOf_8 (mm_la_n hC dX12_arcsOf_10 rfl (mm_gr hC cl_11 (by decide) rfl wd_789 dX12_arcsOf_11 (mm_ld hC dX12_arcsOf_14 (mm_ld_n hC dX12_arcsOf_16 rfl (mm_add hC dX12_arcsOf_17 (mm_ial hC dX12_arcsOf_18 (mm_la_n hC dX12_arcsOf_19 rfl (mm_gr hC cl_11 (by decide) rfl wd_789 dX12_arcsOf_20 (mm_ld hC dX12_arcsOf_23 (mm_ld_n hC dX12_arcsOf_25 rfl (mm_ld_n hC dX12_arcsOf_26 rfl (mm_ic hC dX12_arcsOf_27 ⟨by decide, by decide⟩ (mm_rem hC dX12_arcsOf_28 (mm_cs hC sp_X12_four ⟨rfl, rfl⟩ wd_917 wd_918 wd_919 wd_77 ⟨by decide, by decide, by decide +kernel⟩ ⟨by decide, by decide⟩ dX12_arcsOf_29 (mm_add hC dX12_arcsOf_32 (mm_ial hC dX12_arcsOf_33 (mm_add hC dX12_arcsOf_34 (mm_ir hC ⟨rfl, rfl⟩ hr dX12_arcsOf_35)))))))))))))))))))))))))))
set_option maxRecDepth 100000 in
set_option maxHeartbeats 8000000 in
theorem pv_X12_arcsOf : ∀ (av : List mm_V) (σ : mm_S) (Post : Option mm_V → mm_S → Prop), (∀ v ∈ av, mm_iv v) → (∀ a j, mm_in (σ.1 a j)) → σ.2.2 ≤ 348 → T_X12_arcsOf av σ Post → ∀ Ok : Nat → mm_K, clo_X12_arcsOf Ok Post σ.2.2 → Ok 0 (av ++ List.replicate (5 - av.length) (.inr none)) [] σ := by
  intro av σ Post hav hin hk hT Ok hcl
  obtain ⟨I, R0⟩ := σ
  unfold T_X12_arcsOf at hT
  split at hT
  · rename_i a s x y
    obtain ⟨h0, hT⟩ := hT
    have h0 : R0 = mm_R0 := h0
    subst h0
    dsimp only at hT hin
    have c0 := hcl
    unfold clo_X12_arcsOf at c0
    obtain ⟨rfl, o, f, v, rfl, rfl, rfl, ho, hf, hv, hne, hb, hP⟩ := hT
    have w0 := m0
    have w1 := m1
    have w2 := m2
    have e4 : (f : Int) % 4 = ((f % 4 : Nat) : Int) := by omega
    have hr := (tg_tab v hv (f % 4) (by omega) hne).2
    have b1 := hb (7 * (f / 4) + v) (by omega)
    have b2 := hb (7 * (f / 4) + tg v (f % 4)) (by omega)
    have i1 : ((o : Int) + 7 * ((f : Int) / 4) + v).toNat = o + (7 * (f / 4) + v) := by omega
    have i2 : ((o : Int) + 7 * ((f : Int) / 4) + (tg v (f % 4) : Int)).toNat = o + (7 * (f / 4) + tg v (f % 4)) := by omega
    refine c0 _ _ _ ?_
    simp only [b_X12_arcsOf_0, i_xorg, i_shl, i_shr, i_ior, i_and1, i_lcg1, i_lcg2, i_ld, i_la, i_st, i_sa, i_c, i_inc, i_add, i_sub, i_mul, i_div, i_rem, i_remT, i_xor, i_dup, i_dup2, i_if, i_if2, i_sw, i_gi, i_gr, i_pi, i_pz, i_ial, i_ias, i_len, i_aal, i_gs, i_tal, i_cv, i_cs, i_ir, i_zr, i_vr, i_min, i_max, i_cpy, List.getElem?_cons_zero, List.getElem?_cons_succ, List.set_cons_zero, List.set_cons_succ, List.length_cons, List.length_nil, List.drop_succ_cons, List.drop_zero, List.take_succ_cons, List.take_zero, List.reverse_cons, List.reverse_nil, List.nil_append, List.cons_append, Option.toList_some, Option.toList_none, true_and, and_true, true_or, or_true, Nat.reduceAdd, Nat.reduceLT, Nat.reduceLeDiff, Option.some.injEq, exists_eq_left', Int.toNat_natCast, Nat.reduceSub, List.append_nil, List.replicate_succ, List.replicate_zero, mm_in, w0, w1, w2, T_X12_four, i1]
    repeat' first | refine And.intro ?_ ?_ | refine fun (_ : _ ≤ _ ∧ _ < _) => ?_
    all_goals try omega
    refine ⟨v, f % 4, rfl, by omega, hv, by omega, hne, ?_⟩
    rw [i2]
    unfold MN at b1 b2
    unfold ac MN at hP
    repeat' first | refine And.intro ?_ ?_ | refine fun (_ : _ ≤ _ ∧ _ < _) => ?_
    all_goals try omega
    all_goals first | exact hP | omega
  · exact hT.elim
theorem sp_X12_arcsOf : mm_Sp yX12_arcsOf cX12_arcsOf 5 (some .int) rm_X12_arcsOf T_X12_arcsOf := mm_meth (by decide) (by
  intro av σ Post h
  unfold T_X12_arcsOf at h
  split at h
  · simp
  · exact h.elim) (fun p l e s m args below meth c G av σ Post hC hr _ hav hin hk hT => pv_X12_arcsOf av σ Post hav hin hk hT _ (bk_X12_arcsOf hC hr))
def T_X12_weightOf : mm_T := fun av σ Post => match av with
  | [.inr (some a), .inl s, .inl x, .inl y] => σ.2 = mm_R0 ∧ a = 338 ∧ ∃ o b e : Nat, s = o ∧ x = b ∧ y = e ∧ o ≤ 2888 ∧ b < 3 ∧ e < 6 ∧ bd (MN σ.1 o) ∧ Post (some (.inl (wt (MN σ.1 o) b e))) σ
  | _ => False
theorem wt_eq {nb : Nat → Int} {b e : Nat} (he : e < 6) : wt nb b e = nb (7 * b + elo e) + nb (7 * b + ehi e) + nb (7 * b + 4) + nb (7 * b + 5) + nb (7 * b + 6) - nb (7 * b + tg (elo e) (ehi e)) := by
  obtain ⟨l1, l2, l3, l4, l5⟩ := elo_b e he
  have h := (tg_tab (elo e) (by omega) (ehi e) (by omega) (by omega)).2
  unfold wt
  simp only [sm]
  rcases (show tg (elo e) (ehi e) = 4 ∨ tg (elo e) (ehi e) = 5 ∨ tg (elo e) (ehi e) = 6 by omega) with q | q | q <;> rw [q] <;> simp <;> omega
def rm_X12_weightOf : Room := { frames := 2, cells := 0, slots := 0, locals := 40 }
def b_X12_weightOf_0 (Ok : Nat → mm_K) (Post : Option mm_V → mm_S → Prop) (kf : Nat) : mm_K := i_ld 3 (i_cs 1 T_X12_lowOf (i_st 4 (i_ld 3 (i_cs 1 T_X12_highOf (i_st 5 (i_ld 1 (i_c 7 (i_ld 2 (i_mul (i_add (i_st 6 (i_la 0 (i_gr 11 0 (i_ld 6 (i_ld 4 (i_add (i_ial (i_la 0 (i_gr 11 0 (i_ld 6 (i_ld 5 (i_add (i_ial (i_add (i_la 0 (i_gr 11 0 (i_ld 6 (i_c 4 (i_add (i_ial (i_add (i_la 0 (i_gr 11 0 (i_ld 6 (i_c 5 (i_add (i_ial (i_add (i_la 0 (i_gr 11 0 (i_ld 6 (i_c 6 (i_add (i_ial (i_add (i_la 0 (i_gr 11 0 (i_ld 6 (i_ld 4 (i_ld 5 (i_cs 2 T_X12_four (i_add (i_ial (i_sub (i_ir Post kf)))))))))))))))))))))))))))))))))))))))))))))))))))))))
def clo_X12_weightOf (Ok : Nat → mm_K) (Post : Option mm_V → mm_S → Prop) (kf : Nat) : Prop := mm_imp (b_X12_weightOf_0 Ok Post kf) (Ok 0)
set_option maxRecDepth 100000 in
set_option maxHeartbeats 4000000 in
theorem bk_X12_weightOf {p : Program} {l : Launch} {e : Env} {s : State} {m : MethodId} {args : Array Value} {below : List Frame} {meth : Method} {c : Code} {G : mm_G} {σ0 : mm_S} {Post : Option mm_V → mm_S → Prop} (hC : mm_C p G s m args meth c cX12_weightOf yX12_weightOf.cls) (hr : meth.sig.returnType = some .int) : clo_X12_weightOf (mm_O p l e rm_X12_weightOf s m args below meth c G σ0.2.2 (MQ below (mm_Qc G σ0 rm_X12_weightOf.cells rm_X12_weightOf.slots Post) args s rm_X12_weightOf.cells rm_X12_weightOf.slots (mm_A G))) Post σ0.2.2 := (by unfold clo_X12_weightOf b_X12_weightOf_0; exact (mm_ld_n hC dX12_weightOf_0 rfl (mm_cs hC sp_X12_lowOf ⟨rfl, rfl⟩ wd_950 wd_951 wd_952 wd_77 ⟨by decide, by decide, by decide +kernel⟩ ⟨by decide, by decide⟩ dX12_weightOf_1 (mm_st hC dX12_weightOf_4 (mm_ld_n hC dX12_weightOf_6 rfl (mm_cs hC sp_X12_highOf ⟨rfl, rfl⟩ wd_953 wd_954 wd_955 wd_77 ⟨by decide, by decide, by decide +kernel⟩ ⟨by decide, by decide⟩ dX12_weightOf_7 (mm_st hC dX12_weightOf_10 (mm_ld_n hC dX12_weightOf_12 rfl (mm_bp hC dX12_weightOf_13 ⟨⟨by decide, by decide⟩, by decide⟩ (mm_ld_n hC dX12_weightOf_15 rfl (mm_mul hC dX12_weightOf_16 (mm_add hC dX12_weightOf_17 (mm_st hC dX12_weightOf_18 (mm_la_n hC dX12_weightOf_20 rfl (mm_gr hC cl_11 (by decide) rfl wd_789 dX12_weightOf_21 (mm_ld hC dX12_weightOf_24 (mm_ld hC dX12_weightOf_26 (mm_add hC dX12_weightOf_28 (mm_ial hC dX12_weightOf_29 (mm_la_n hC dX12_weightOf_30 rfl (mm_gr hC cl_11 (by decide) rfl wd_789 dX12_weightOf_31 (mm_ld hC dX12_weightOf_34 (mm_ld hC dX12_weightOf_36 (mm_add hC dX12_weightOf_38 (mm_ial hC dX12_weightOf_39 (mm_add hC dX12_weightOf_40 (mm_la_n hC dX12_weightOf_41 rfl (mm_gr hC cl_11 (by decide) rfl wd_789 dX12_weightOf_42 (mm_ld hC dX12_weightOf_45 (mm_ic hC dX12_weightOf_47 ⟨by decide, by decide⟩ (mm_add hC dX12_weightOf_48 (mm_ial hC dX12_weightOf_49 (mm_add hC dX12_weightOf_50 (mm_la_n hC dX12_weightOf_51 rfl (mm_gr hC cl_11 (by decide) rfl wd_789 dX12_weightOf_52 (mm_ld hC dX12_weightOf_55 (mm_ic hC dX12_weightOf_57 ⟨by decide, by decide⟩ (mm_add hC dX12_weightOf_58 (mm_ial hC dX12_weightOf_59 (mm_add hC dX12_weightOf_60 (mm_la_n hC dX12_weightOf_61 rfl (mm_gr hC cl_11 (by decide) rfl wd_789 dX12_weightOf_62 (mm_ld hC dX12_weightOf_65 (mm_bp hC dX12_weightOf_67 ⟨⟨by decide, by decide⟩, by decide⟩ (mm_add hC dX12_weightOf_69 (mm_ial hC dX12_weightOf_70 (mm_add hC dX12_weightOf_71 (mm_la_n hC dX12_weightOf_72 rfl (mm_gr hC cl_11 (by decide) rfl wd_789 dX12_weightOf_73 (mm_ld hC dX12_weightOf_76 (mm_ld hC dX12_weightOf_78 (mm_ld hC dX12_weightOf_80 (mm_cs hC sp_X12_four ⟨rfl, rfl⟩ wd_917 wd_918 wd_919 wd_77 ⟨by decide, by decide, by decide +kernel⟩ ⟨by decide, by decide⟩ dX12_weightOf_82 (mm_add hC dX12_weightOf_85 (mm_ial hC dX12_weightOf_86 (mm_sub hC dX12_weightOf_87 (mm_ir hC ⟨rfl, rfl⟩ hr dX12_weightOf_88)))))))))))))))))))))))))))))))))))))))))))))))))))))))))
set_option maxRecDepth 100000 in
set_option maxHeartbeats 8000000 in
theorem pv_X12_weightOf : ∀ (av : List mm_V) (σ : mm_S) (Post : Option mm_V → mm_S → Prop), (∀ v ∈ av, mm_iv v) → (∀ a j, mm_in (σ.1 a j)) → σ.2.2 ≤ 348 → T_X12_weightOf av σ Post → ∀ Ok : Nat → mm_K, clo_X12_weightOf Ok Post σ.2.2 → Ok 0 (av ++ List.replicate (7 - av.length) (.inr none)) [] σ := by
  intro av σ Post hav hin hk hT Ok hcl
  obtain ⟨I, R0⟩ := σ
  unfold T_X12_weightOf at hT
  split at hT
  · rename_i a s x y
    obtain ⟨h0, hT⟩ := hT
    have h0 : R0 = mm_R0 := h0
    subst h0
    dsimp only at hT hin
    have c0 := hcl
    unfold clo_X12_weightOf at c0
    obtain ⟨rfl, o, b, e, rfl, rfl, rfl, ho, hbb, he, hb, hP⟩ := hT
    have w0 := m0
    have w1 := m1
    have w2 := m2
    obtain ⟨l1, l2, l3, l4, l5⟩ := elo_b e he
    have hr := (tg_tab (elo e) (by omega) (ehi e) (by omega) (by omega)).2
    rw [wt_eq he] at hP
    have b1 := hb (7 * b + elo e) (by omega)
    have b2 := hb (7 * b + ehi e) (by omega)
    have b3 := hb (7 * b + 4) (by omega)
    have b4 := hb (7 * b + 5) (by omega)
    have b5 := hb (7 * b + 6) (by omega)
    have b6 := hb (7 * b + tg (elo e) (ehi e)) (by omega)
    have i1 : ∀ k : Nat, ((o : Int) + 7 * (b : Int) + (k : Int)).toNat = o + (7 * b + k) := by intro k; omega
    have i4 : ((o : Int) + 7 * (b : Int) + 4).toNat = o + (7 * b + 4) := by omega
    have i5 : ((o : Int) + 7 * (b : Int) + 5).toNat = o + (7 * b + 5) := by omega
    have i6 : ((o : Int) + 7 * (b : Int) + 6).toNat = o + (7 * b + 6) := by omega
    refine c0 _ _ _ ?_
    simp only [b_X12_weightOf_0, i_xorg, i_shl, i_shr, i_ior, i_and1, i_lcg1, i_lcg2, i_ld, i_la, i_st, i_sa, i_c, i_inc, i_add, i_sub, i_mul, i_div, i_rem, i_remT, i_xor, i_dup, i_dup2, i_if, i_if2, i_sw, i_gi, i_gr, i_pi, i_pz, i_ial, i_ias, i_len, i_aal, i_gs, i_tal, i_cv, i_cs, i_ir, i_zr, i_vr, i_min, i_max, i_cpy, List.getElem?_cons_zero, List.getElem?_cons_succ, List.set_cons_zero, List.set_cons_succ, List.length_cons, List.length_nil, List.drop_succ_cons, List.drop_zero, List.take_succ_cons, List.take_zero, List.reverse_cons, List.reverse_nil, List.nil_append, List.cons_append, Option.toList_some, Option.toList_none, true_and, and_true, true_or, or_true, Nat.reduceAdd, Nat.reduceLT, Nat.reduceLeDiff, Option.some.injEq, exists_eq_left', Int.toNat_natCast, Nat.reduceSub, List.append_nil, List.replicate_succ, List.replicate_zero, mm_in, T_X12_lowOf, T_X12_highOf, T_X12_four, w0, w1, w2]
    refine ⟨e, rfl, he, e, rfl, he, ?_⟩
    rw [i1, i1, i4, i5, i6]
    unfold MN at b1 b2 b3 b4 b5 b6 hP
    repeat' first | refine And.intro ?_ ?_ | refine fun (_ : _ ≤ _ ∧ _ < _) => ?_
    all_goals try omega
    refine ⟨elo e, ehi e, rfl, rfl, by omega, by omega, by omega, ?_⟩
    rw [i1]
    repeat' first | refine And.intro ?_ ?_ | refine fun (_ : _ ≤ _ ∧ _ < _) => ?_
    all_goals try omega
    all_goals first | exact hP | omega
  · exact hT.elim
theorem sp_X12_weightOf : mm_Sp yX12_weightOf cX12_weightOf 7 (some .int) rm_X12_weightOf T_X12_weightOf := mm_meth (by decide) (by
  intro av σ Post h
  unfold T_X12_weightOf at h
  split at h
  · simp
  · exact h.elim) (fun p l e s m args below meth c G av σ Post hC hr _ hav hin hk hT => pv_X12_weightOf av σ Post hav hin hk hT _ (bk_X12_weightOf hC hr))
