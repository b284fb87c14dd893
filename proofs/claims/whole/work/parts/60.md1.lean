/-! the other program: bodies, glue, free
-/
theorem mset_i {I : Nat → Nat → Int} {a' j' : Nat} {z' : Int} (i' : Nat) : mm_set I a' j' z' a' i' = if i' = j' then z' else I a' i' := by
  by_cases h' : i' = j'
  · rw [if_pos h', h', mset_eq]
  · rw [if_neg h', mset_n2 h']
theorem mrecall {I S' : Nat → Nat → Int} (h' : mSt I S') (ok : okS S') {Post : Option mm_V → mm_S → Prop} (hP : ∀ I', (∀ b', b' ≠ 338 → b' ≠ 339 → I' b' = I b') → (∀ j', j' < 152 ∨ 2888 ≤ j' → I' 339 j' = I 339 j') → mSt I' (recS S') → Post none (I', mm_R0)) : T_X12_remember [.inr (some 338)] (I, mm_R0) Post := ⟨rfl, rfl, S', h', ok, hP⟩
/-- a' deed's end: the first row was made anew -/
theorem mdone {I I' S' : Nat → Nat → Int} {ff W : Nat → Int} (h' : mSt I S') (ok : okS S') (g' : ∀ b', b' ≠ 339 → I' b' = I b') (gi : ∀ i', I' 339 i' = ff i') (gf : ∀ i', 152 ≤ i' → ff i' = I 339 i') (hW : mW I' 0 W) : mSt I' (upW S' W) := by
  refine mSt_up h' ok (fun b' _ _ hb' => g' b' hb') (fun j' hj _ => by rw [gi, gf j' hj]) ?_ hW
  intro i' hi'
  have := h'.2.2.2.2.2.2.2.2 i' hi'
  unfold MN at this ⊢
  rw [gi, gf _ (by omega)]
  exact this
theorem mW_0 {I : Nat → Nat → Int} {W : Nat → Int} (h' : mW I 0 W) : I 339 0 = W 0 ∧ I 339 1 = W 1 ∧ (∀ j', j' < 12 → I 339 (2 + j') = pw W j') ∧ (∀ j', j' < 12 → 0 ≤ pw W j' → I 339 (14 + j') = ww W j') ∧ ∀ s' : Nat, (s' : Int) < W 1 → ∀ i', i' < 21 → I 339 (26 + 21 * s' + i') = nw W s' i' := by
  unfold mW at h'
  simp only [Nat.zero_add] at h'
  exact h'
theorem mW_mk {I : Nat → Nat → Int} {W : Nat → Int} (h' : I 339 0 = W 0 ∧ I 339 1 = W 1 ∧ (∀ j', j' < 12 → I 339 (2 + j') = pw W j') ∧ (∀ j', j' < 12 → 0 ≤ pw W j' → I 339 (14 + j') = ww W j') ∧ ∀ s' : Nat, (s' : Int) < W 1 → ∀ i', i' < 21 → I 339 (26 + 21 * s' + i') = nw W s' i') : mW I 0 W := by
  unfold mW
  simp only [Nat.zero_add]
  exact h'
def T_X12_bodies : mm_T := fun av σ Post => match av with
  | [.inr (some a'), .inl k'] => mT (fun S' => bodF S' k') a' σ Post
  | _ => False
def rm_X12_bodies : Room := { frames := 2, cells := 0, slots := 0, locals := 44 }
def b_X12_bodies_0 (Ok : Nat → mm_K) (Post : Option mm_V → mm_S → Prop) (kf : Nat) : mm_K := i_ld 1 (i_c 1 (i_c 3 (i_cs 3 T_X12_in (i_if (fun x => ¬ x = 0) (i_la 0 (i_cv 11 0 T_X12_remember (i_la 0 (i_gr 11 0 (i_c 0 (i_ial (i_st 2 (i_la 0 (i_gr 11 0 (i_c 0 (i_ld 1 (i_ias (i_la 0 (i_gr 11 0 (i_c 1 (i_c 0 (i_ias (i_la 0 (i_cv 11 0 T_X12_unglueAll (i_ld 2 (i_ir Post kf))))))))))))))))))))) (i_c (-1000000002) (i_ir Post kf))))))
def clo_X12_bodies (Ok : Nat → mm_K) (Post : Option mm_V → mm_S → Prop) (kf : Nat) : Prop := mm_imp (b_X12_bodies_0 Ok Post kf) (Ok 0)
set_option maxRecDepth 100000 in
set_option maxHeartbeats 4000000 in
theorem bk_X12_bodies {p : Program} {l : Launch} {e : Env} {s : State} {m : MethodId} {args : Array Value} {below : List Frame} {meth : Method} {c : Code} {G : mm_G} {σ0 : mm_S} {Post : Option mm_V → mm_S → Prop} (hC : mm_C p G s m args meth c cX12_bodies yX12_bodies.cls) (hr : meth.sig.returnType = some .int) : clo_X12_bodies (mm_O p l e rm_X12_bodies s m args below meth c G σ0.2.2 (MQ below (mm_Qc G σ0 rm_X12_bodies.cells rm_X12_bodies.slots Post) args s rm_X12_bodies.cells rm_X12_bodies.slots (mm_A G))) Post σ0.2.2 := (by unfold clo_X12_bodies b_X12_bodies_0; exact (mm_ld_n hC dX12_bodies_0 rfl (mm_ic hC dX12_bodies_1 ⟨by decide, by decide⟩ (mm_ic hC dX12_bodies_2 ⟨by decide, by decide⟩ (mm_cs hC sp_X12_in ⟨rfl, rfl⟩ wd_979 wd_980 wd_981 wd_77 ⟨by decide, by decide, by decide +kernel⟩ ⟨by decide, by decide⟩ dX12_bodies_3 (mm_if_ne hC (t := 12) dX12_bodies_6 (by decide) (mm_la_n hC dX12_bodies_12 rfl (mm_cv hC sp_X12_remember ⟨rfl, rfl⟩ cl_11 wd_1051 wd_1053 wd_57 wd_1054 wd_77 ⟨by decide, by decide, by decide +kernel⟩ ⟨by decide, by decide⟩ dX12_bodies_13 (mm_la_n hC dX12_bodies_16 rfl (mm_gr hC cl_11 (by decide) rfl wd_789 dX12_bodies_17 (mm_ic hC dX12_bodies_20 ⟨by decide, by decide⟩ (mm_ial hC dX12_bodies_21 (mm_st_n hC dX12_bodies_22 rfl (mm_la_n hC dX12_bodies_23 rfl (mm_gr hC cl_11 (by decide) rfl wd_789 dX12_bodies_24 (mm_ic hC dX12_bodies_27 ⟨by decide, by decide⟩ (mm_ld_n hC dX12_bodies_28 rfl (mm_ias hC dX12_bodies_29 (mm_la_n hC dX12_bodies_30 rfl (mm_gr hC cl_11 (by decide) rfl wd_789 dX12_bodies_31 (mm_ic hC dX12_bodies_34 ⟨by decide, by decide⟩ (mm_ic hC dX12_bodies_35 ⟨by decide, by decide⟩ (mm_ias hC dX12_bodies_36 (mm_la_n hC dX12_bodies_37 rfl (mm_cv hC sp_X12_unglueAll ⟨rfl, rfl⟩ cl_11 wd_785 wd_787 wd_19 wd_788 wd_77 ⟨by decide, by decide, by decide +kernel⟩ ⟨by decide, by decide⟩ dX12_bodies_38 (mm_ld_n hC dX12_bodies_41 rfl (mm_ir hC ⟨rfl, rfl⟩ hr dX12_bodies_42))))))))))))))))))))) (mm_ldc hC dX12_bodies_9 ⟨by decide, by decide⟩ wd_994 (mm_ir hC ⟨rfl, rfl⟩ hr dX12_bodies_11))))))))
set_option maxRecDepth 100000 in
set_option maxHeartbeats 8000000 in
theorem pv_X12_bodies : ∀ (av : List mm_V) (σ : mm_S) (Post : Option mm_V → mm_S → Prop), (∀ v ∈ av, mm_iv v) → (∀ a j, mm_in (σ.1 a j)) → σ.2.2 ≤ 348 → T_X12_bodies av σ Post → ∀ Ok : Nat → mm_K, clo_X12_bodies Ok Post σ.2.2 → Ok 0 (av ++ List.replicate (3 - av.length) (.inr none)) [] σ := by
  intro av σ Post hav hin hk hT Ok hcl
  obtain ⟨I, R0⟩ := σ
  unfold T_X12_bodies at hT
  split at hT
  · rename_i a' k'
    obtain ⟨h0, hT⟩ := hT
    have h0 : R0 = mm_R0 := h0
    subst h0
    dsimp only at hT hin
    have c0 := hcl
    unfold clo_X12_bodies at c0
    obtain ⟨rfl, S', hS', ok, hP⟩ := hT
    have w0' := m0
    have w1' := m1
    have w2' := m2
    refine c0 _ _ _ ?_
    simp only [b_X12_bodies_0, i_xorg, i_shl, i_shr, i_ior, i_and1, i_lcg1, i_lcg2, i_ld, i_la, i_st, i_sa, i_c, i_inc, i_add, i_sub, i_mul, i_div, i_rem, i_remT, i_xor, i_dup, i_dup2, i_if, i_if2, i_sw, i_gi, i_gr, i_pi, i_pz, i_ial, i_ias, i_len, i_aal, i_gs, i_tal, i_cv, i_cs, i_ir, i_zr, i_vr, i_min, i_max, i_cpy, List.getElem?_cons_zero, List.getElem?_cons_succ, List.set_cons_zero, List.set_cons_succ, List.length_cons, List.length_nil, List.drop_succ_cons, List.drop_zero, List.take_succ_cons, List.take_zero, List.reverse_cons, List.reverse_nil, List.nil_append, List.cons_append, Option.toList_some, Option.toList_none, true_and, and_true, true_or, or_true, Nat.reduceAdd, Nat.reduceLT, Nat.reduceLeDiff, Option.some.injEq, exists_eq_left', Int.toNat_natCast, Nat.reduceSub, List.append_nil, List.replicate_succ, List.replicate_zero, mm_in, w0', w1', w2', T_X12_in]
    refine fun z' hz => ⟨fun y' => mrecall hS' ok (fun J' fA fB' hJ => ?_), fun y' => ?_⟩
    · have hk := bz_t hz y'
      have e' : bodF S' k' = (upW (recS S') (wBeg (S' 0) k'), S' 0 0) := if_pos hk
      simp only [e'] at hP
      have eA' : J' 339 0 = S' 0 0 := by rw [fB' 0 (by omega)]; exact (mW_0 hS'.1).1
      simp only [mm_in, w0', w1', w2', t0, t1, T_X12_unglueAll, i_xorg, i_shl, i_shr, i_ior, i_and1, i_lcg1, i_lcg2, i_ld, i_la, i_st, i_sa, i_c, i_inc, i_add, i_sub, i_mul, i_div, i_rem, i_remT, i_xor, i_dup, i_dup2, i_if, i_if2, i_sw, i_gi, i_gr, i_pi, i_pz, i_ial, i_ias, i_len, i_aal, i_gs, i_tal, i_cv, i_cs, i_ir, i_zr, i_vr, i_min, i_max, i_cpy, List.getElem?_cons_zero, List.getElem?_cons_succ, List.set_cons_zero, List.set_cons_succ, List.length_cons, List.length_nil, List.drop_succ_cons, List.drop_zero, List.take_succ_cons, List.take_zero, List.reverse_cons, List.reverse_nil, List.nil_append, List.cons_append, Option.toList_some, Option.toList_none, true_and, and_true, true_or, or_true, Nat.reduceAdd, Nat.reduceLT, Nat.reduceLeDiff, Option.some.injEq, exists_eq_left', Int.toNat_natCast, Nat.reduceSub, List.append_nil, List.replicate_succ, List.replicate_zero]
      rw [eA']
      repeat' first | refine And.intro ?_ ?_ | refine fun (_ : _ ≤ _ ∧ _ < _) => ?_
      all_goals try omega
      intro K' gA gB gC
      refine hP K' (fun b' hb' => by rw [gA b' (by omega), mset_ne (by omega), mset_ne (by omega)]; exact fA b' (by omega) (by omega)) ?_
      refine mdone (ff := fun i' => K' 339 i') hJ (okS_rec ok) (fun b' hb' => by rw [gA b' hb', mset_ne hb', mset_ne hb']) (fun i' => rfl) (fun i' hi' => by show K' 339 i' = _; rw [gB i' (by omega), mset_n2 (by omega), mset_n2 (by omega)]) (mW_mk ⟨?_, ?_, fun j' hj => ?_, fun j' hj hp => ?_, fun s' hs => ?_⟩)
      · rw [gB 0 (by omega), mset_n2 (by omega), mset_eq]; rfl
      · rw [gB 1 (by omega), mset_eq]; rfl
      · rw [(gC j' hj).1]
        unfold pw wBeg
        rw [if_neg (by omega), if_neg (by omega), if_pos (by omega)]
      · unfold pw wBeg at hp
        rw [if_neg (by omega), if_neg (by omega), if_pos (by omega)] at hp
        omega
      · unfold wBeg at hs
        rw [if_neg (by omega), if_pos rfl] at hs
        omega
    · have e' : bodF S' k' = (S', -1000000002) := if_neg (bz_f hz (by omega))
      simp only [e'] at hP
      exact hP I (loF_rf I) hS'
  · exact hT.elim
theorem sp_X12_bodies : mm_Sp yX12_bodies cX12_bodies 3 (some .int) rm_X12_bodies T_X12_bodies := mm_meth (by decide) (by
  intro av σ Post h
  unfold T_X12_bodies at h
  split at h
  · simp
  · exact h.elim) (fun p l e s m args below meth c G av σ Post hC hr _ hav hin hk hT => pv_X12_bodies av σ Post hav hin hk hT _ (bk_X12_bodies hC hr))
def T_X12_mayGlue : mm_T := fun av σ Post => match av with
  | [.inr (some a'), .inl p, .inl q'] => σ.2 = mm_R0 ∧ a' = 338 ∧ ∃ x' y' : Nat, p = x' ∧ q' = y' ∧ x' < 12 ∧ y' < 12 ∧ ∀ z' : Int, bz z' (x' ≠ y' ∧ σ.1 339 (2 + x') = -1 ∧ σ.1 339 (2 + y') = -1) → Post (some (.inl z')) σ
  | _ => False
def rm_X12_mayGlue : Room := { frames := 1, cells := 0, slots := 0, locals := 21 }
def b_X12_mayGlue_0 (Ok : Nat → mm_K) (Post : Option mm_V → mm_S → Prop) (kf : Nat) : mm_K := i_ld 1 (i_ld 2 (i_if2 (fun x y => x = y) (Ok 25) (i_la 0 (i_ld 1 (i_cv 11 1 T_X12_isFree (i_if (fun x => x = 0) (Ok 25) (i_la 0 (i_ld 2 (i_cv 11 1 T_X12_isFree (i_if (fun x => x = 0) (Ok 25) (i_c 1 (Ok 26))))))))))))
def b_X12_mayGlue_25 (Ok : Nat → mm_K) (Post : Option mm_V → mm_S → Prop) (kf : Nat) : mm_K := i_c 0 (Ok 26)
def b_X12_mayGlue_26 (Ok : Nat → mm_K) (Post : Option mm_V → mm_S → Prop) (kf : Nat) : mm_K := i_zr Post kf
def clo_X12_mayGlue (Ok : Nat → mm_K) (Post : Option mm_V → mm_S → Prop) (kf : Nat) : Prop := mm_imp (b_X12_mayGlue_0 Ok Post kf) (Ok 0) ∧ mm_imp (b_X12_mayGlue_25 Ok Post kf) (Ok 25) ∧ mm_imp (b_X12_mayGlue_26 Ok Post kf) (Ok 26)
set_option maxRecDepth 100000 in
set_option maxHeartbeats 4000000 in
theorem bk_X12_mayGlue {p : Program} {l : Launch} {e : Env} {s : State} {m : MethodId} {args : Array Value} {below : List Frame} {meth : Method} {c : Code} {G : mm_G} {σ0 : mm_S} {Post : Option mm_V → mm_S → Prop} (hC : mm_C p G s m args meth c cX12_mayGlue yX12_mayGlue.cls) (hr : meth.sig.returnType = some .boolean) : clo_X12_mayGlue (mm_O p l e rm_X12_mayGlue s m args below meth c G σ0.2.2 (MQ below (mm_Qc G σ0 rm_X12_mayGlue.cells rm_X12_mayGlue.slots Post) args s rm_X12_mayGlue.cells rm_X12_mayGlue.slots (mm_A G))) Post σ0.2.2 := ⟨(by unfold b_X12_mayGlue_0; exact (mm_ld_n hC dX12_mayGlue_0 rfl (mm_ld_n hC dX12_mayGlue_1 rfl (mm_ic_eq hC (t := 25) dX12_mayGlue_2 (by decide) (fun _ _ _ h => h) (mm_la_n hC dX12_mayGlue_5 rfl (mm_ld_n hC dX12_mayGlue_6 rfl (mm_cv hC sp_X12_isFree ⟨rfl, rfl⟩ cl_11 wd_841 wd_843 wd_22 wd_844 wd_77 ⟨by decide, by decide, by decide +kernel⟩ ⟨by decide, by decide⟩ dX12_mayGlue_7 (mm_if_eq hC (t := 25) dX12_mayGlue_10 (by decide) (fun _ _ _ h => h) (mm_la_n hC dX12_mayGlue_13 rfl (mm_ld_n hC dX12_mayGlue_14 rfl (mm_cv hC sp_X12_isFree ⟨rfl, rfl⟩ cl_11 wd_841 wd_843 wd_22 wd_844 wd_77 ⟨by decide, by decide, by decide +kernel⟩ ⟨by decide, by decide⟩ dX12_mayGlue_15 (mm_if_eq hC (t := 25) dX12_mayGlue_18 (by decide) (fun _ _ _ h => h) (mm_ic hC dX12_mayGlue_21 ⟨by decide, by decide⟩ (mm_goto hC (t := 26) dX12_mayGlue_22 (by decide) (fun _ _ _ h => h))))))))))))))), (by unfold b_X12_mayGlue_25; exact (mm_ic hC dX12_mayGlue_25 ⟨by decide, by decide⟩ (fun _ _ _ h => h))), (by unfold b_X12_mayGlue_26; exact (mm_zr hC ⟨rfl, rfl⟩ hr dX12_mayGlue_26))⟩
set_option maxRecDepth 100000 in
set_option maxHeartbeats 8000000 in
theorem pv_X12_mayGlue : ∀ (av : List mm_V) (σ : mm_S) (Post : Option mm_V → mm_S → Prop), (∀ v ∈ av, mm_iv v) → (∀ a j, mm_in (σ.1 a j)) → σ.2.2 ≤ 348 → T_X12_mayGlue av σ Post → ∀ Ok : Nat → mm_K, clo_X12_mayGlue Ok Post σ.2.2 → Ok 0 (av ++ List.replicate (3 - av.length) (.inr none)) [] σ := by
  intro av σ Post hav hin hk hT Ok hcl
  obtain ⟨I, R0⟩ := σ
  unfold T_X12_mayGlue at hT
  split at hT
  · rename_i a' p q'
    obtain ⟨h0, hT⟩ := hT
    have h0 : R0 = mm_R0 := h0
    subst h0
    dsimp only at hT hin
    obtain ⟨c0, c25, c26⟩ := hcl
    obtain ⟨rfl, x', y', rfl, rfl, hx, hy, hP⟩ := hT
    have w0' := m0
    have no' : ¬ (x' ≠ y' ∧ I 339 (2 + x') = -1 ∧ I 339 (2 + y') = -1) → Ok 25 [.inr (some 338), .inl (x' : Int), .inl (y' : Int)] [] (I, mm_R0) := by
      intro h'
      refine c25 _ _ _ ?_
      simp only [b_X12_mayGlue_25, i_xorg, i_shl, i_shr, i_ior, i_and1, i_lcg1, i_lcg2, i_ld, i_la, i_st, i_sa, i_c, i_inc, i_add, i_sub, i_mul, i_div, i_rem, i_remT, i_xor, i_dup, i_dup2, i_if, i_if2, i_sw, i_gi, i_gr, i_pi, i_pz, i_ial, i_ias, i_len, i_aal, i_gs, i_tal, i_cv, i_cs, i_ir, i_zr, i_vr, i_min, i_max, i_cpy, List.getElem?_cons_zero, List.getElem?_cons_succ, List.set_cons_zero, List.set_cons_succ, List.length_cons, List.length_nil, List.drop_succ_cons, List.drop_zero, List.take_succ_cons, List.take_zero, List.reverse_cons, List.reverse_nil, List.nil_append, List.cons_append, Option.toList_some, Option.toList_none, true_and, and_true, true_or, or_true, Nat.reduceAdd, Nat.reduceLT, Nat.reduceLeDiff, Option.some.injEq, exists_eq_left', Int.toNat_natCast, Nat.reduceSub, List.append_nil, List.replicate_succ, List.replicate_zero]
      refine c26 _ _ _ ?_
      simp only [b_X12_mayGlue_26, i_xorg, i_shl, i_shr, i_ior, i_and1, i_lcg1, i_lcg2, i_ld, i_la, i_st, i_sa, i_c, i_inc, i_add, i_sub, i_mul, i_div, i_rem, i_remT, i_xor, i_dup, i_dup2, i_if, i_if2, i_sw, i_gi, i_gr, i_pi, i_pz, i_ial, i_ias, i_len, i_aal, i_gs, i_tal, i_cv, i_cs, i_ir, i_zr, i_vr, i_min, i_max, i_cpy, List.getElem?_cons_zero, List.getElem?_cons_succ, List.set_cons_zero, List.set_cons_succ, List.length_cons, List.length_nil, List.drop_succ_cons, List.drop_zero, List.take_succ_cons, List.take_zero, List.reverse_cons, List.reverse_nil, List.nil_append, List.cons_append, Option.toList_some, Option.toList_none, true_and, and_true, true_or, or_true, Nat.reduceAdd, Nat.reduceLT, Nat.reduceLeDiff, Option.some.injEq, exists_eq_left', Int.toNat_natCast, Nat.reduceSub, List.append_nil, List.replicate_succ, List.replicate_zero]
      exact hP 0 (bz_0 h')
    refine c0 _ _ _ ?_
    simp only [b_X12_mayGlue_0, i_xorg, i_shl, i_shr, i_ior, i_and1, i_lcg1, i_lcg2, i_ld, i_la, i_st, i_sa, i_c, i_inc, i_add, i_sub, i_mul, i_div, i_rem, i_remT, i_xor, i_dup, i_dup2, i_if, i_if2, i_sw, i_gi, i_gr, i_pi, i_pz, i_ial, i_ias, i_len, i_aal, i_gs, i_tal, i_cv, i_cs, i_ir, i_zr, i_vr, i_min, i_max, i_cpy, List.getElem?_cons_zero, List.getElem?_cons_succ, List.set_cons_zero, List.set_cons_succ, List.length_cons, List.length_nil, List.drop_succ_cons, List.drop_zero, List.take_succ_cons, List.take_zero, List.reverse_cons, List.reverse_nil, List.nil_append, List.cons_append, Option.toList_some, Option.toList_none, true_and, and_true, true_or, or_true, Nat.reduceAdd, Nat.reduceLT, Nat.reduceLeDiff, Option.some.injEq, exists_eq_left', Int.toNat_natCast, Nat.reduceSub, List.append_nil, List.replicate_succ, List.replicate_zero, mm_in, w0', T_X12_isFree]
    refine ⟨fun e' => no' (fun w' => w'.1 (by omega)), fun e' => ⟨x', rfl, hx, fun z' hz => ⟨fun r' => no' (fun w' => bz_f hz r' w'.2.1), fun r' => ⟨y', rfl, hy, fun zA hA => ⟨fun rA => no' (fun w' => bz_f hA rA w'.2.2), fun rA => ?_⟩⟩⟩⟩⟩
    refine c26 _ _ _ ?_
    simp only [b_X12_mayGlue_26, i_xorg, i_shl, i_shr, i_ior, i_and1, i_lcg1, i_lcg2, i_ld, i_la, i_st, i_sa, i_c, i_inc, i_add, i_sub, i_mul, i_div, i_rem, i_remT, i_xor, i_dup, i_dup2, i_if, i_if2, i_sw, i_gi, i_gr, i_pi, i_pz, i_ial, i_ias, i_len, i_aal, i_gs, i_tal, i_cv, i_cs, i_ir, i_zr, i_vr, i_min, i_max, i_cpy, List.getElem?_cons_zero, List.getElem?_cons_succ, List.set_cons_zero, List.set_cons_succ, List.length_cons, List.length_nil, List.drop_succ_cons, List.drop_zero, List.take_succ_cons, List.take_zero, List.reverse_cons, List.reverse_nil, List.nil_append, List.cons_append, Option.toList_some, Option.toList_none, true_and, and_true, true_or, or_true, Nat.reduceAdd, Nat.reduceLT, Nat.reduceLeDiff, Option.some.injEq, exists_eq_left', Int.toNat_natCast, Nat.reduceSub, List.append_nil, List.replicate_succ, List.replicate_zero]
    exact hP 1 (bz_1 ⟨by omega, bz_t hz r', bz_t hA rA⟩)
  · exact hT.elim
theorem sp_X12_mayGlue : mm_Sp yX12_mayGlue cX12_mayGlue 3 (some .boolean) rm_X12_mayGlue T_X12_mayGlue := mm_meth (by decide) (by
  intro av σ Post h
  unfold T_X12_mayGlue at h
  split at h
  · simp
  · exact h.elim) (fun p l e s m args below meth c G av σ Post hC hr _ hav hin hk hT => pv_X12_mayGlue av σ Post hav hin hk hT _ (bk_X12_mayGlue hC hr))
def T_X12_glueTo : mm_T := fun av σ Post => match av with
  | [.inr (some a'), .inl p, .inl q', .inl v] => σ.2 = mm_R0 ∧ a' = 338 ∧ ∃ x' y' k' : Nat, p = x' ∧ q' = y' ∧ v = k' ∧ x' < 12 ∧ y' < 12 ∧ x' ≠ y' ∧ k' < 6 ∧
    ∀ I' : Nat → Nat → Int, (∀ b', b' ≠ 339 → I' b' = σ.1 b') → (∀ i', I' 339 i' = wGlu (σ.1 339) x' y' k' i') → Post none (I', mm_R0)
  | _ => False
def rm_X12_glueTo : Room := { frames := 1, cells := 0, slots := 0, locals := 20 }
def b_X12_glueTo_0 (Ok : Nat → mm_K) (Post : Option mm_V → mm_S → Prop) (kf : Nat) : mm_K := i_la 0 (i_gr 11 0 (i_c 2 (i_ld 1 (i_add (i_ld 2 (i_ias (i_la 0 (i_gr 11 0 (i_c 14 (i_ld 1 (i_add (i_ld 3 (i_ias (i_la 0 (i_gr 11 0 (i_c 2 (i_ld 2 (i_add (i_ld 1 (i_ias (i_la 0 (i_gr 11 0 (i_c 14 (i_ld 2 (i_add (i_ld 3 (i_cs 1 T_X12_turnedBack (i_ias (i_la 0 (i_gr 11 0 (i_c 1 (i_c 0 (i_ias (i_vr Post kf))))))))))))))))))))))))))))))))))
def clo_X12_glueTo (Ok : Nat → mm_K) (Post : Option mm_V → mm_S → Prop) (kf : Nat) : Prop := mm_imp (b_X12_glueTo_0 Ok Post kf) (Ok 0)
set_option maxRecDepth 100000 in
set_option maxHeartbeats 4000000 in
theorem bk_X12_glueTo {p : Program} {l : Launch} {e : Env} {s : State} {m : MethodId} {args : Array Value} {below : List Frame} {meth : Method} {c : Code} {G : mm_G} {σ0 : mm_S} {Post : Option mm_V → mm_S → Prop} (hC : mm_C p G s m args meth c cX12_glueTo yX12_glueTo.cls) (hr : meth.sig.returnType = none) : clo_X12_glueTo (mm_O p l e rm_X12_glueTo s m args below meth c G σ0.2.2 (MQ below (mm_Qc G σ0 rm_X12_glueTo.cells rm_X12_glueTo.slots Post) args s rm_X12_glueTo.cells rm_X12_glueTo.slots (mm_A G))) Post σ0.2.2 := (by unfold clo_X12_glueTo b_X12_glueTo_0; exact (mm_la_n hC dX12_glueTo_0 rfl (mm_gr hC cl_11 (by decide) rfl wd_789 dX12_glueTo_1 (mm_ic hC dX12_glueTo_4 ⟨by decide, by decide⟩ (mm_ld_n hC dX12_glueTo_5 rfl (mm_add hC dX12_glueTo_6 (mm_ld_n hC dX12_glueTo_7 rfl (mm_ias hC dX12_glueTo_8 (mm_la_n hC dX12_glueTo_9 rfl (mm_gr hC cl_11 (by decide) rfl wd_789 dX12_glueTo_10 (mm_bp hC dX12_glueTo_13 ⟨⟨by decide, by decide⟩, by decide⟩ (mm_ld_n hC dX12_glueTo_15 rfl (mm_add hC dX12_glueTo_16 (mm_ld_n hC dX12_glueTo_17 rfl (mm_ias hC dX12_glueTo_18 (mm_la_n hC dX12_glueTo_19 rfl (mm_gr hC cl_11 (by decide) rfl wd_789 dX12_glueTo_20 (mm_ic hC dX12_glueTo_23 ⟨by decide, by decide⟩ (mm_ld_n hC dX12_glueTo_24 rfl (mm_add hC dX12_glueTo_25 (mm_ld_n hC dX12_glueTo_26 rfl (mm_ias hC dX12_glueTo_27 (mm_la_n hC dX12_glueTo_28 rfl (mm_gr hC cl_11 (by decide) rfl wd_789 dX12_glueTo_29 (mm_bp hC dX12_glueTo_32 ⟨⟨by decide, by decide⟩, by decide⟩ (mm_ld_n hC dX12_glueTo_34 rfl (mm_add hC dX12_glueTo_35 (mm_ld_n hC dX12_glueTo_36 rfl (mm_cs hC sp_X12_turnedBack ⟨rfl, rfl⟩ wd_1072 wd_1073 wd_1074 wd_77 ⟨by decide, by decide, by decide +kernel⟩ ⟨by decide, by decide⟩ dX12_glueTo_37 (mm_ias hC dX12_glueTo_40 (mm_la_n hC dX12_glueTo_41 rfl (mm_gr hC cl_11 (by decide) rfl wd_789 dX12_glueTo_42 (mm_ic hC dX12_glueTo_45 ⟨by decide, by decide⟩ (mm_ic hC dX12_glueTo_46 ⟨by decide, by decide⟩ (mm_ias hC dX12_glueTo_47 (mm_vr hC ⟨rfl, rfl⟩ hr dX12_glueTo_48))))))))))))))))))))))))))))))))))))
set_option maxRecDepth 100000 in
set_option maxHeartbeats 8000000 in
theorem pv_X12_glueTo : ∀ (av : List mm_V) (σ : mm_S) (Post : Option mm_V → mm_S → Prop), (∀ v ∈ av, mm_iv v) → (∀ a j, mm_in (σ.1 a j)) → σ.2.2 ≤ 348 → T_X12_glueTo av σ Post → ∀ Ok : Nat → mm_K, clo_X12_glueTo Ok Post σ.2.2 → Ok 0 (av ++ List.replicate (4 - av.length) (.inr none)) [] σ := by
  intro av σ Post hav hin hk hT Ok hcl
  obtain ⟨I, R0⟩ := σ
  unfold T_X12_glueTo at hT
  split at hT
  · rename_i a' p q' v
    obtain ⟨h0, hT⟩ := hT
    have h0 : R0 = mm_R0 := h0
    subst h0
    dsimp only at hT hin
    have c0 := hcl
    unfold clo_X12_glueTo at c0
    obtain ⟨rfl, x', y', k', rfl, rfl, rfl, hx, hy, hxy, hk, hP⟩ := hT
    have w0' := m0
    have w1' := m1
    have w2' := m2
    refine c0 _ _ _ ?_
    simp only [b_X12_glueTo_0, i_xorg, i_shl, i_shr, i_ior, i_and1, i_lcg1, i_lcg2, i_ld, i_la, i_st, i_sa, i_c, i_inc, i_add, i_sub, i_mul, i_div, i_rem, i_remT, i_xor, i_dup, i_dup2, i_if, i_if2, i_sw, i_gi, i_gr, i_pi, i_pz, i_ial, i_ias, i_len, i_aal, i_gs, i_tal, i_cv, i_cs, i_ir, i_zr, i_vr, i_min, i_max, i_cpy, List.getElem?_cons_zero, List.getElem?_cons_succ, List.set_cons_zero, List.set_cons_succ, List.length_cons, List.length_nil, List.drop_succ_cons, List.drop_zero, List.take_succ_cons, List.take_zero, List.reverse_cons, List.reverse_nil, List.nil_append, List.cons_append, Option.toList_some, Option.toList_none, true_and, and_true, true_or, or_true, Nat.reduceAdd, Nat.reduceLT, Nat.reduceLeDiff, Option.some.injEq, exists_eq_left', Int.toNat_natCast, Nat.reduceSub, List.append_nil, List.replicate_succ, List.replicate_zero, mm_in, w0', w1', w2', t1, t2, t14, T_X12_turnedBack]
    refine ⟨⟨by omega, by omega⟩, ⟨by omega, by omega⟩, ⟨by omega, by omega⟩, ⟨by omega, by omega⟩, ⟨by omega, by omega⟩, ⟨by omega, by omega⟩, ⟨by omega, by omega⟩, k', rfl, hk, ⟨by omega, by omega⟩, ⟨by omega, by omega⟩, hP _ (fun b' hb' => by rw [mset_ne hb', mset_ne hb', mset_ne hb', mset_ne hb', mset_ne hb']) (fun i' => ?_)⟩
    rw [mset_i, mset_i, mset_i, mset_i, mset_i]
    unfold wGlu
    rw [Int.toNat_natCast]
    by_cases hA : i' = 1
    · rw [if_pos hA, if_pos hA]
    rw [if_neg hA, if_neg hA]
    by_cases hB' : i' = 14 + y'
    · rw [if_pos hB', if_neg (by omega), if_neg (by omega), if_neg (by omega), if_pos hB']
    rw [if_neg hB']
    by_cases hC : i' = 2 + y'
    · rw [if_pos hC, if_neg (by omega), if_pos hC]
    rw [if_neg hC]
    by_cases hD : i' = 14 + x'
    · rw [if_pos hD, if_neg (by omega), if_neg hC, if_pos hD]
    rw [if_neg hD]
    by_cases hE : i' = 2 + x'
    · rw [if_pos hE, if_pos hE]
    rw [if_neg hE, if_neg hE, if_neg hC, if_neg hD, if_neg hB']
  · exact hT.elim
theorem sp_X12_glueTo : mm_Sp yX12_glueTo cX12_glueTo 4 none rm_X12_glueTo T_X12_glueTo := mm_meth (by decide) (by
  intro av σ Post h
  unfold T_X12_glueTo at h
  split at h
  · simp
  · exact h.elim) (fun p l e s m args below meth c G av σ Post hC hr _ hav hin hk hT => pv_X12_glueTo av σ Post hav hin hk hT _ (bk_X12_glueTo hC hr))
theorem mW_glu {I J' : Nat → Nat → Int} {W : Nat → Int} {x' y' : Nat} {k' : Int} (hx : x' < 12) (hy : y' < 12) (h' : mW I 0 W) (g' : ∀ i', J' 339 i' = wGlu (I 339) x' y' k' i') : mW J' 0 (wGlu W x' y' k') := by
  obtain ⟨a', b', c', d, e'⟩ := mW_0 h'
  refine mW_mk ⟨?_, ?_, fun j' hj => ?_, fun j' hj hp => ?_, fun s' hs => ?_⟩
  · rw [g', wGlu_0, wGlu_0, a']
  · rw [g', wGlu_1, wGlu_1]
  · have e1' := pw_glu (I 339) x' y' k' hj
    rw [pw_glu W x' y' k' hj, g', ← c' j' hj]
    exact e1'
  · have e1' := ww_glu (I 339) k' (j := j') hx hy
    rw [pw_glu W x' y' k' hj] at hp
    rw [ww_glu W k' hx hy, g']
    refine Eq.trans e1' ?_
    by_cases q' : j' = x'
    · rw [if_pos q', if_pos q']
    · rw [if_neg q', if_neg q']
      by_cases r' : j' = y'
      · rw [if_pos r', if_pos r']
      · rw [if_neg r', if_neg r']
        rw [if_neg q', if_neg r'] at hp
        exact d j' hj hp
  · rw [wGlu_1] at hs
    omega
def T_X12_glue : mm_T := fun av σ Post => match av with
  | [.inr (some a'), .inl b', .inl f', .inl c', .inl g', .inl k'] => mT (fun S' => gluF S' b' f' c' g' k') a' σ Post
  | _ => False
def rm_X12_glue : Room := { frames := 2, cells := 0, slots := 0, locals := 44 }
def b_X12_glue_0 (Ok : Nat → mm_K) (Post : Option mm_V → mm_S → Prop) (kf : Nat) : mm_K := i_la 0 (i_ld 1 (i_cv 11 1 T_X12_isBody (i_if (fun x => x = 0) (Ok 31) (i_ld 2 (i_cs 1 T_X12_isSide (i_if (fun x => x = 0) (Ok 31) (i_la 0 (i_ld 3 (i_cv 11 1 T_X12_isBody (i_if (fun x => x = 0) (Ok 31) (i_ld 4 (i_cs 1 T_X12_isSide (i_if (fun x => ¬ x = 0) (i_ld 5 (i_c 0 (i_c 5 (i_cs 3 T_X12_in (i_if (fun x => ¬ x = 0) (i_la 0 (i_c 4 (i_ld 1 (i_mul (i_ld 2 (i_add (i_c 4 (i_ld 3 (i_mul (i_ld 4 (i_add (i_cv 11 2 T_X12_mayGlue (i_if (fun x => ¬ x = 0) (i_la 0 (i_cv 11 0 T_X12_remember (i_la 0 (i_c 4 (i_ld 1 (i_mul (i_ld 2 (i_add (i_c 4 (i_ld 3 (i_mul (i_ld 4 (i_add (i_ld 5 (i_cv 11 3 T_X12_glueTo (i_la 0 (i_cv 11 0 T_X12_freeMany (i_ir Post kf)))))))))))))))))) (i_c (-1000000003) (i_ir Post kf))))))))))))))) (i_c (-1000000002) (i_ir Post kf))))))) (Ok 31))))))))))))))
def b_X12_glue_31 (Ok : Nat → mm_K) (Post : Option mm_V → mm_S → Prop) (kf : Nat) : mm_K := i_c (-1000000001) (i_ir Post kf)
def clo_X12_glue (Ok : Nat → mm_K) (Post : Option mm_V → mm_S → Prop) (kf : Nat) : Prop := mm_imp (b_X12_glue_0 Ok Post kf) (Ok 0) ∧ mm_imp (b_X12_glue_31 Ok Post kf) (Ok 31)
set_option maxRecDepth 100000 in
set_option maxHeartbeats 4000000 in
theorem bk_X12_glue {p : Program} {l : Launch} {e : Env} {s : State} {m : MethodId} {args : Array Value} {below : List Frame} {meth : Method} {c : Code} {G : mm_G} {σ0 : mm_S} {Post : Option mm_V → mm_S → Prop} (hC : mm_C p G s m args meth c cX12_glue yX12_glue.cls) (hr : meth.sig.returnType = some .int) : clo_X12_glue (mm_O p l e rm_X12_glue s m args below meth c G σ0.2.2 (MQ below (mm_Qc G σ0 rm_X12_glue.cells rm_X12_glue.slots Post) args s rm_X12_glue.cells rm_X12_glue.slots (mm_A G))) Post σ0.2.2 := ⟨(by unfold b_X12_glue_0; exact (mm_la_n hC dX12_glue_0 rfl (mm_ld_n hC dX12_glue_1 rfl (mm_cv hC sp_X12_isBody ⟨rfl, rfl⟩ cl_11 wd_999 wd_1001 wd_52 wd_1002 wd_77 ⟨by decide, by decide, by decide +kernel⟩ ⟨by decide, by decide⟩ dX12_glue_2 (mm_if_eq hC (t := 31) dX12_glue_5 (by decide) (fun _ _ _ h => h) (mm_ld_n hC dX12_glue_8 rfl (mm_cs hC sp_X12_isSide ⟨rfl, rfl⟩ wd_1003 wd_1004 wd_1005 wd_77 ⟨by decide, by decide, by decide +kernel⟩ ⟨by decide, by decide⟩ dX12_glue_9 (mm_if_eq hC (t := 31) dX12_glue_12 (by decide) (fun _ _ _ h => h) (mm_la_n hC dX12_glue_15 rfl (mm_ld_n hC dX12_glue_16 rfl (mm_cv hC sp_X12_isBody ⟨rfl, rfl⟩ cl_11 wd_999 wd_1001 wd_52 wd_1002 wd_77 ⟨by decide, by decide, by decide +kernel⟩ ⟨by decide, by decide⟩ dX12_glue_17 (mm_if_eq hC (t := 31) dX12_glue_20 (by decide) (fun _ _ _ h => h) (mm_ld hC dX12_glue_23 (mm_cs hC sp_X12_isSide ⟨rfl, rfl⟩ wd_1003 wd_1004 wd_1005 wd_77 ⟨by decide, by decide, by decide +kernel⟩ ⟨by decide, by decide⟩ dX12_glue_25 (mm_if_ne hC (t := 34) dX12_glue_28 (by decide) (mm_ld hC dX12_glue_34 (mm_ic hC dX12_glue_36 ⟨by decide, by decide⟩ (mm_ic hC dX12_glue_37 ⟨by decide, by decide⟩ (mm_cs hC sp_X12_in ⟨rfl, rfl⟩ wd_979 wd_980 wd_981 wd_77 ⟨by decide, by decide, by decide +kernel⟩ ⟨by decide, by decide⟩ dX12_glue_38 (mm_if_ne hC (t := 47) dX12_glue_41 (by decide) (mm_la_n hC dX12_glue_47 rfl (mm_ic hC dX12_glue_48 ⟨by decide, by decide⟩ (mm_ld_n hC dX12_glue_49 rfl (mm_mul hC dX12_glue_50 (mm_ld_n hC dX12_glue_51 rfl (mm_add hC dX12_glue_52 (mm_ic hC dX12_glue_53 ⟨by decide, by decide⟩ (mm_ld_n hC dX12_glue_54 rfl (mm_mul hC dX12_glue_55 (mm_ld hC dX12_glue_56 (mm_add hC dX12_glue_58 (mm_cv hC sp_X12_mayGlue ⟨rfl, rfl⟩ cl_11 wd_1063 wd_1065 wd_59 wd_1066 wd_77 ⟨by decide, by decide, by decide +kernel⟩ ⟨by decide, by decide⟩ dX12_glue_59 (mm_if_ne hC (t := 68) dX12_glue_62 (by decide) (mm_la_n hC dX12_glue_68 rfl (mm_cv hC sp_X12_remember ⟨rfl, rfl⟩ cl_11 wd_1051 wd_1053 wd_57 wd_1054 wd_77 ⟨by decide, by decide, by decide +kernel⟩ ⟨by decide, by decide⟩ dX12_glue_69 (mm_la_n hC dX12_glue_72 rfl (mm_ic hC dX12_glue_73 ⟨by decide, by decide⟩ (mm_ld_n hC dX12_glue_74 rfl (mm_mul hC dX12_glue_75 (mm_ld_n hC dX12_glue_76 rfl (mm_add hC dX12_glue_77 (mm_ic hC dX12_glue_78 ⟨by decide, by decide⟩ (mm_ld_n hC dX12_glue_79 rfl (mm_mul hC dX12_glue_80 (mm_ld hC dX12_glue_81 (mm_add hC dX12_glue_83 (mm_ld hC dX12_glue_84 (mm_cv hC sp_X12_glueTo ⟨rfl, rfl⟩ cl_11 wd_1068 wd_1070 wd_60 wd_1071 wd_77 ⟨by decide, by decide, by decide +kernel⟩ ⟨by decide, by decide⟩ dX12_glue_86 (mm_la_n hC dX12_glue_89 rfl (mm_cv hC sp_X12_freeMany ⟨rfl, rfl⟩ cl_11 wd_833 wd_835 wd_20 wd_836 wd_77 ⟨by decide, by decide, by decide +kernel⟩ ⟨by decide, by decide⟩ dX12_glue_90 (mm_ir hC ⟨rfl, rfl⟩ hr dX12_glue_93)))))))))))))))))) (mm_ldc hC dX12_glue_65 ⟨by decide, by decide⟩ wd_1067 (mm_ir hC ⟨rfl, rfl⟩ hr dX12_glue_67))))))))))))))) (mm_ldc hC dX12_glue_44 ⟨by decide, by decide⟩ wd_994 (mm_ir hC ⟨rfl, rfl⟩ hr dX12_glue_46))))))) (fun _ _ _ h => h)))))))))))))))), (by unfold b_X12_glue_31; exact (mm_ldc hC dX12_glue_31 ⟨by decide, by decide⟩ wd_1006 (mm_ir hC ⟨rfl, rfl⟩ hr dX12_glue_33)))⟩
set_option maxRecDepth 100000 in
set_option maxHeartbeats 8000000 in
theorem pv_X12_glue : ∀ (av : List mm_V) (σ : mm_S) (Post : Option mm_V → mm_S → Prop), (∀ v ∈ av, mm_iv v) → (∀ a j, mm_in (σ.1 a j)) → σ.2.2 ≤ 348 → T_X12_glue av σ Post → ∀ Ok : Nat → mm_K, clo_X12_glue Ok Post σ.2.2 → Ok 0 (av ++ List.replicate (6 - av.length) (.inr none)) [] σ := by
  intro av σ Post hav hin hk hT Ok hcl
  obtain ⟨I, R0⟩ := σ
  unfold T_X12_glue at hT
  split at hT
  · rename_i a' b' f' c' g' k'
    obtain ⟨h0, hT⟩ := hT
    have h0 : R0 = mm_R0 := h0
    subst h0
    dsimp only at hT hin
    obtain ⟨c0, c31⟩ := hcl
    obtain ⟨rfl, S', hS', ok, hP⟩ := hT
    have w0' := m0
    obtain ⟨n', hn, hgm, hsh, hbk, hag⟩ := mSt_gM hS' ok
    obtain ⟨hn0, hn1, hn3, hg⟩ := id hgm
    have eF : gluF S' b' f' c' g' k' = if ¬ (fcs (S' 0) b' f' ∧ fcs (S' 0) c' g') then (S', -1000000001) else if ¬ (0 ≤ k' ∧ k' ≤ 5) then (S', -1000000002) else if ¬ canG (S' 0) (4 * b' + f').toNat (4 * c' + g').toNat then (S', -1000000003)
      else (upW (recS S') (wGlu (S' 0) (4 * b' + f').toNat (4 * c' + g').toNat k'), frn (pw (wGlu (S' 0) (4 * b' + f').toNat (4 * c' + g').toNat k')) (4 * (S' 0 0).toNat)) := rfl
    unfold fcs at eF
    rw [hn] at eF
    have no' : ¬ (((0 ≤ b' ∧ b' < (n' : Int)) ∧ 0 ≤ f' ∧ f' < 4) ∧ ((0 ≤ c' ∧ c' < (n' : Int)) ∧ 0 ≤ g' ∧ g' < 4)) → Ok 31 [.inr (some 338), .inl b', .inl f', .inl c', .inl g', .inl k'] [] (I, mm_R0) := by
      intro h'
      rw [if_pos h'] at eF
      simp only [eF] at hP
      refine c31 _ _ _ ?_
      simp only [b_X12_glue_31, i_xorg, i_shl, i_shr, i_ior, i_and1, i_lcg1, i_lcg2, i_ld, i_la, i_st, i_sa, i_c, i_inc, i_add, i_sub, i_mul, i_div, i_rem, i_remT, i_xor, i_dup, i_dup2, i_if, i_if2, i_sw, i_gi, i_gr, i_pi, i_pz, i_ial, i_ias, i_len, i_aal, i_gs, i_tal, i_cv, i_cs, i_ir, i_zr, i_vr, i_min, i_max, i_cpy, List.getElem?_cons_zero, List.getElem?_cons_succ, List.set_cons_zero, List.set_cons_succ, List.length_cons, List.length_nil, List.drop_succ_cons, List.drop_zero, List.take_succ_cons, List.take_zero, List.reverse_cons, List.reverse_nil, List.nil_append, List.cons_append, Option.toList_some, Option.toList_none, true_and, and_true, true_or, or_true, Nat.reduceAdd, Nat.reduceLT, Nat.reduceLeDiff, Option.some.injEq, exists_eq_left', Int.toNat_natCast, Nat.reduceSub, List.append_nil, List.replicate_succ, List.replicate_zero]
      exact hP I (loF_rf I) hS'
    refine c0 _ _ _ ?_
    simp only [b_X12_glue_0, i_xorg, i_shl, i_shr, i_ior, i_and1, i_lcg1, i_lcg2, i_ld, i_la, i_st, i_sa, i_c, i_inc, i_add, i_sub, i_mul, i_div, i_rem, i_remT, i_xor, i_dup, i_dup2, i_if, i_if2, i_sw, i_gi, i_gr, i_pi, i_pz, i_ial, i_ias, i_len, i_aal, i_gs, i_tal, i_cv, i_cs, i_ir, i_zr, i_vr, i_min, i_max, i_cpy, List.getElem?_cons_zero, List.getElem?_cons_succ, List.set_cons_zero, List.set_cons_succ, List.length_cons, List.length_nil, List.drop_succ_cons, List.drop_zero, List.take_succ_cons, List.take_zero, List.reverse_cons, List.reverse_nil, List.nil_append, List.cons_append, Option.toList_some, Option.toList_none, true_and, and_true, true_or, or_true, Nat.reduceAdd, Nat.reduceLT, Nat.reduceLeDiff, Option.some.injEq, exists_eq_left', Int.toNat_natCast, Nat.reduceSub, List.append_nil, List.replicate_succ, List.replicate_zero, mm_in, w0', hn0, T_X12_isBody, T_X12_isSide, T_X12_in, T_X12_mayGlue, T_X12_glueTo, T_X12_freeMany]
    refine ⟨by omega, fun zA hA => ⟨fun y' => no' (fun w' => bz_f hA y' w'.1.1), fun yA zB' hB' => ⟨fun y' => no' (fun w' => bz_f hB' y' w'.1.2), fun yB' => ⟨by omega, fun zC hC => ⟨fun y' => no' (fun w' => bz_f hC y' w'.2.1), fun yC zD hD => ⟨fun yD => ?_, fun y' => no' (fun w' => bz_f hD (by omega) w'.2.2)⟩⟩⟩⟩⟩⟩
    have hh : ((0 ≤ b' ∧ b' < (n' : Int)) ∧ 0 ≤ f' ∧ f' < 4) ∧ ((0 ≤ c' ∧ c' < (n' : Int)) ∧ 0 ≤ g' ∧ g' < 4) := ⟨⟨bz_t hA yA, bz_t hB' yB'⟩, bz_t hC yC, bz_t hD yD⟩
    rw [if_neg (fun w' => w' hh)] at eF
    obtain ⟨X', hX⟩ := Int.eq_ofNat_of_zero_le (show 0 ≤ 4 * b' + f' by omega)
    obtain ⟨Y, hY⟩ := Int.eq_ofNat_of_zero_le (show 0 ≤ 4 * c' + g' by omega)
    rw [hX, hY, Int.toNat_natCast, Int.toNat_natCast] at eF
    refine fun zE hE => ⟨fun yE' => ?_, fun yE' => ?_⟩
    · have hk := bz_t hE yE'
      obtain ⟨κ, rfl⟩ := Int.eq_ofNat_of_zero_le hk.1
      rw [if_neg (by omega)] at eF
      rw [hX, hY]
      refine ⟨⟨by omega, by omega⟩, ⟨by omega, by omega⟩, ⟨by omega, by omega⟩, ⟨by omega, by omega⟩, X', Y, rfl, rfl, by omega, by omega, fun zG hG => ⟨fun yG => mrecall hS' ok (fun J' fA fB' hJ => ?_), fun yG => ?_⟩⟩
      · have hm' := bz_t hG yG
        have pX := (mW_0 hS'.1).2.2.1 X' (by omega)
        have pY := (mW_0 hS'.1).2.2.1 Y (by omega)
        rw [if_neg (fun w' => w' ⟨hm'.1, by omega, by omega⟩)] at eF
        simp only [eF] at hP
        simp only [mm_in, w0', T_X12_glueTo, T_X12_freeMany, i_xorg, i_shl, i_shr, i_ior, i_and1, i_lcg1, i_lcg2, i_ld, i_la, i_st, i_sa, i_c, i_inc, i_add, i_sub, i_mul, i_div, i_rem, i_remT, i_xor, i_dup, i_dup2, i_if, i_if2, i_sw, i_gi, i_gr, i_pi, i_pz, i_ial, i_ias, i_len, i_aal, i_gs, i_tal, i_cv, i_cs, i_ir, i_zr, i_vr, i_min, i_max, i_cpy, List.getElem?_cons_zero, List.getElem?_cons_succ, List.set_cons_zero, List.set_cons_succ, List.length_cons, List.length_nil, List.drop_succ_cons, List.drop_zero, List.take_succ_cons, List.take_zero, List.reverse_cons, List.reverse_nil, List.nil_append, List.cons_append, Option.toList_some, Option.toList_none, true_and, and_true, true_or, or_true, Nat.reduceAdd, Nat.reduceLT, Nat.reduceLeDiff, Option.some.injEq, exists_eq_left', Int.toNat_natCast, Nat.reduceSub, List.append_nil, List.replicate_succ, List.replicate_zero]
        refine ⟨⟨by omega, by omega⟩, ⟨by omega, by omega⟩, ⟨by omega, by omega⟩, ⟨by omega, by omega⟩, X', Y, κ, rfl, rfl, rfl, by omega, by omega, hm'.1, by omega, fun K' gA gB => ?_⟩
        have hW : mW K' 0 (wGlu (S' 0) X' Y κ) := mW_glu (by omega) (by omega) (by have := hJ.1; rw [recS_o S' (by omega) (by omega)] at this; exact this) gB
        have hW' := mW_0 hW
        have okn := okW_glu ok.1 (x := X') (y := Y) (k := (κ : Int)) (by omega) (by omega) ⟨hm'.1, by omega, by omega⟩ (by omega) (by omega)
        refine ⟨n', by rw [hW'.1, wGlu_0]; exact hn, hn3, fun j' hj => ?_, ?_⟩
        · unfold MP
          rw [hW'.2.2.1 j' hj]
          obtain ⟨nn, mm, _, _, _, _, _, hgg, _⟩ := okn
          rcases hgg j' hj with e' | e' <;> omega
        · rw [frn_cg (p := MP K') (q := pw (wGlu (S' 0) X' Y κ)) (fun j' hj => hW'.2.2.1 j' (by omega))]
          refine hP K' (fun b' hb' => by rw [gA b' (by omega), fA b' (by omega) (by omega)]) (mdone hJ (okS_rec ok) gA gB (fun i' hi' => ?_) hW)
          unfold wGlu
          rw [if_neg (by omega), if_neg (by omega), if_neg (by omega), if_neg (by omega), if_neg (by omega)]
      · have hm' := bz_f hG (by omega)
        have pX := (mW_0 hS'.1).2.2.1 X' (by omega)
        have pY := (mW_0 hS'.1).2.2.1 Y (by omega)
        have qX : -1 ≤ I 339 (2 + X') := by rcases hg X' (by omega) with e' | e' <;> (unfold MP at e'; omega)
        have qY : -1 ≤ I 339 (2 + Y) := by rcases hg Y (by omega) with e' | e' <;> (unfold MP at e'; omega)
        rw [if_pos (fun w' => hm' ⟨w'.1, by have := w'.2.1; omega, by have := w'.2.2; omega⟩)] at eF
        simp only [eF] at hP
        exact hP I (loF_rf I) hS'
    · have hk := bz_f hE (by omega)
      rw [if_pos hk] at eF
      simp only [eF] at hP
      exact hP I (loF_rf I) hS'
  · exact hT.elim
theorem sp_X12_glue : mm_Sp yX12_glue cX12_glue 6 (some .int) rm_X12_glue T_X12_glue := mm_meth (by decide) (by
  intro av σ Post h
  unfold T_X12_glue at h
  split at h
  · simp
  · exact h.elim) (fun p l e s m args below meth c G av σ Post hC hr _ hav hin hk hT => pv_X12_glue av σ Post hav hin hk hT _ (bk_X12_glue hC hr))
theorem mW_fre {I J' : Nat → Nat → Int} {W : Nat → Int} {x' y' : Nat} (hx : x' < 12) (hy : y' < 12) (h' : mW I 0 W) (g' : ∀ i', J' 339 i' = wFre (I 339) x' y' i') : mW J' 0 (wFre W x' y') := by
  obtain ⟨a', b', c', d, e'⟩ := mW_0 h'
  refine mW_mk ⟨?_, ?_, fun j' hj => ?_, fun j' hj hp => ?_, fun s' hs => ?_⟩
  · rw [g', wFre_0, wFre_0, a']
  · rw [g', wFre_1, wFre_1]
  · have e1' := pw_fre (I 339) x' y' hj
    rw [pw_fre W x' y' hj, g', ← c' j' hj]
    exact e1'
  · rw [pw_fre W x' y' hj] at hp
    by_cases q' : j' = x' ∨ j' = y'
    · rw [if_pos q'] at hp
      omega
    · rw [if_neg q'] at hp
      have e1' := ww_fre (I 339) (x := x') (y := y') (j := j') hx hy (by omega) (by omega)
      rw [ww_fre W hx hy (by omega) (by omega), g', ← d j' hj hp]
      exact e1'
  · rw [wFre_1] at hs
    omega
def T_X12_free : mm_T := fun av σ Post => match av with
  | [.inr (some a'), .inl b', .inl f'] => mT (fun S' => freF S' b' f') a' σ Post
  | _ => False
def rm_X12_free : Room := { frames := 2, cells := 0, slots := 0, locals := 44 }
def b_X12_free_0 (Ok : Nat → mm_K) (Post : Option mm_V → mm_S → Prop) (kf : Nat) : mm_K := i_la 0 (i_ld 1 (i_cv 11 1 T_X12_isBody (i_if (fun x => x = 0) (Ok 15) (i_ld 2 (i_cs 1 T_X12_isSide (i_if (fun x => ¬ x = 0) (i_c 4 (i_ld 1 (i_mul (i_ld 2 (i_add (i_st 3 (i_la 0 (i_ld 3 (i_cv 11 1 T_X12_isFree (i_if (fun x => x = 0) (i_la 0 (i_cv 11 0 T_X12_remember (i_la 0 (i_gr 11 0 (i_c 2 (i_ld 3 (i_add (i_ial (i_st 4 (i_la 0 (i_gr 11 0 (i_c 2 (i_ld 3 (i_add (i_c (-1) (i_ias (i_la 0 (i_gr 11 0 (i_c 14 (i_ld 3 (i_add (i_c (-1) (i_ias (i_la 0 (i_gr 11 0 (i_c 2 (i_ld 4 (i_add (i_c (-1) (i_ias (i_la 0 (i_gr 11 0 (i_c 14 (i_ld 4 (i_add (i_c (-1) (i_ias (i_la 0 (i_gr 11 0 (i_c 1 (i_c 0 (i_ias (i_la 0 (i_cv 11 0 T_X12_freeMany (i_ir Post kf))))))))))))))))))))))))))))))))))))))))))))) (i_c (-1000000003) (i_ir Post kf)))))))))))) (Ok 15)))))))
def b_X12_free_15 (Ok : Nat → mm_K) (Post : Option mm_V → mm_S → Prop) (kf : Nat) : mm_K := i_c (-1000000001) (i_ir Post kf)
def clo_X12_free (Ok : Nat → mm_K) (Post : Option mm_V → mm_S → Prop) (kf : Nat) : Prop := mm_imp (b_X12_free_0 Ok Post kf) (Ok 0) ∧ mm_imp (b_X12_free_15 Ok Post kf) (Ok 15)
set_option maxRecDepth 100000 in
set_option maxHeartbeats 4000000 in
theorem bk_X12_free {p : Program} {l : Launch} {e : Env} {s : State} {m : MethodId} {args : Array Value} {below : List Frame} {meth : Method} {c : Code} {G : mm_G} {σ0 : mm_S} {Post : Option mm_V → mm_S → Prop} (hC : mm_C p G s m args meth c cX12_free yX12_free.cls) (hr : meth.sig.returnType = some .int) : clo_X12_free (mm_O p l e rm_X12_free s m args below meth c G σ0.2.2 (MQ below (mm_Qc G σ0 rm_X12_free.cells rm_X12_free.slots Post) args s rm_X12_free.cells rm_X12_free.slots (mm_A G))) Post σ0.2.2 := ⟨(by unfold b_X12_free_0; exact (mm_la_n hC dX12_free_0 rfl (mm_ld_n hC dX12_free_1 rfl (mm_cv hC sp_X12_isBody ⟨rfl, rfl⟩ cl_11 wd_999 wd_1001 wd_52 wd_1002 wd_77 ⟨by decide, by decide, by decide +kernel⟩ ⟨by decide, by decide⟩ dX12_free_2 (mm_if_eq hC (t := 15) dX12_free_5 (by decide) (fun _ _ _ h => h) (mm_ld_n hC dX12_free_8 rfl (mm_cs hC sp_X12_isSide ⟨rfl, rfl⟩ wd_1003 wd_1004 wd_1005 wd_77 ⟨by decide, by decide, by decide +kernel⟩ ⟨by decide, by decide⟩ dX12_free_9 (mm_if_ne hC (t := 18) dX12_free_12 (by decide) (mm_ic hC dX12_free_18 ⟨by decide, by decide⟩ (mm_ld_n hC dX12_free_19 rfl (mm_mul hC dX12_free_20 (mm_ld_n hC dX12_free_21 rfl (mm_add hC dX12_free_22 (mm_st_n hC dX12_free_23 rfl (mm_la_n hC dX12_free_24 rfl (mm_ld_n hC dX12_free_25 rfl (mm_cv hC sp_X12_isFree ⟨rfl, rfl⟩ cl_11 wd_841 wd_843 wd_22 wd_844 wd_77 ⟨by decide, by decide, by decide +kernel⟩ ⟨by decide, by decide⟩ dX12_free_26 (mm_if_eq hC (t := 35) dX12_free_29 (by decide) (mm_la_n hC dX12_free_35 rfl (mm_cv hC sp_X12_remember ⟨rfl, rfl⟩ cl_11 wd_1051 wd_1053 wd_57 wd_1054 wd_77 ⟨by decide, by decide, by decide +kernel⟩ ⟨by decide, by decide⟩ dX12_free_36 (mm_la_n hC dX12_free_39 rfl (mm_gr hC cl_11 (by decide) rfl wd_789 dX12_free_40 (mm_ic hC dX12_free_43 ⟨by decide, by decide⟩ (mm_ld_n hC dX12_free_44 rfl (mm_add hC dX12_free_45 (mm_ial hC dX12_free_46 (mm_st hC dX12_free_47 (mm_la_n hC dX12_free_49 rfl (mm_gr hC cl_11 (by decide) rfl wd_789 dX12_free_50 (mm_ic hC dX12_free_53 ⟨by decide, by decide⟩ (mm_ld_n hC dX12_free_54 rfl (mm_add hC dX12_free_55 (mm_ic hC dX12_free_56 ⟨by decide, by decide⟩ (mm_ias hC dX12_free_57 (mm_la_n hC dX12_free_58 rfl (mm_gr hC cl_11 (by decide) rfl wd_789 dX12_free_59 (mm_bp hC dX12_free_62 ⟨⟨by decide, by decide⟩, by decide⟩ (mm_ld_n hC dX12_free_64 rfl (mm_add hC dX12_free_65 (mm_ic hC dX12_free_66 ⟨by decide, by decide⟩ (mm_ias hC dX12_free_67 (mm_la_n hC dX12_free_68 rfl (mm_gr hC cl_11 (by decide) rfl wd_789 dX12_free_69 (mm_ic hC dX12_free_72 ⟨by decide, by decide⟩ (mm_ld hC dX12_free_73 (mm_add hC dX12_free_75 (mm_ic hC dX12_free_76 ⟨by decide, by decide⟩ (mm_ias hC dX12_free_77 (mm_la_n hC dX12_free_78 rfl (mm_gr hC cl_11 (by decide) rfl wd_789 dX12_free_79 (mm_bp hC dX12_free_82 ⟨⟨by decide, by decide⟩, by decide⟩ (mm_ld hC dX12_free_84 (mm_add hC dX12_free_86 (mm_ic hC dX12_free_87 ⟨by decide, by decide⟩ (mm_ias hC dX12_free_88 (mm_la_n hC dX12_free_89 rfl (mm_gr hC cl_11 (by decide) rfl wd_789 dX12_free_90 (mm_ic hC dX12_free_93 ⟨by decide, by decide⟩ (mm_ic hC dX12_free_94 ⟨by decide, by decide⟩ (mm_ias hC dX12_free_95 (mm_la_n hC dX12_free_96 rfl (mm_cv hC sp_X12_freeMany ⟨rfl, rfl⟩ cl_11 wd_833 wd_835 wd_20 wd_836 wd_77 ⟨by decide, by decide, by decide +kernel⟩ ⟨by decide, by decide⟩ dX12_free_97 (mm_ir hC ⟨rfl, rfl⟩ hr dX12_free_100))))))))))))))))))))))))))))))))))))))))))))) (mm_ldc hC dX12_free_32 ⟨by decide, by decide⟩ wd_1067 (mm_ir hC ⟨rfl, rfl⟩ hr dX12_free_34)))))))))))) (fun _ _ _ h => h))))))))), (by unfold b_X12_free_15; exact (mm_ldc hC dX12_free_15 ⟨by decide, by decide⟩ wd_1006 (mm_ir hC ⟨rfl, rfl⟩ hr dX12_free_17)))⟩
set_option maxRecDepth 100000 in
set_option maxHeartbeats 8000000 in
theorem pv_X12_free : ∀ (av : List mm_V) (σ : mm_S) (Post : Option mm_V → mm_S → Prop), (∀ v ∈ av, mm_iv v) → (∀ a j, mm_in (σ.1 a j)) → σ.2.2 ≤ 348 → T_X12_free av σ Post → ∀ Ok : Nat → mm_K, clo_X12_free Ok Post σ.2.2 → Ok 0 (av ++ List.replicate (5 - av.length) (.inr none)) [] σ := by
  intro av σ Post hav hin hk hT Ok hcl
  obtain ⟨I, R0⟩ := σ
  unfold T_X12_free at hT
  split at hT
  · rename_i a' b' f'
    obtain ⟨h0, hT⟩ := hT
    have h0 : R0 = mm_R0 := h0
    subst h0
    dsimp only at hT hin
    obtain ⟨c0, c15⟩ := hcl
    obtain ⟨rfl, S', hS', ok, hP⟩ := hT
    have w0' := m0
    have w1' := m1
    have w2' := m2
    obtain ⟨n', hn, hgm, hsh, hbk, hag⟩ := mSt_gM hS' ok
    obtain ⟨hn0, hn1, hn3, hg⟩ := id hgm
    have eF : freF S' b' f' = if ¬ fcs (S' 0) b' f' then (S', -1000000001) else if pw (S' 0) (4 * b' + f').toNat < 0 then (S', -1000000003)
      else (upW (recS S') (wFre (S' 0) (4 * b' + f').toNat (pw (S' 0) (4 * b' + f').toNat).toNat), frn (pw (wFre (S' 0) (4 * b' + f').toNat (pw (S' 0) (4 * b' + f').toNat).toNat)) (4 * (S' 0 0).toNat)) := rfl
    unfold fcs at eF
    rw [hn] at eF
    have no' : ¬ ((0 ≤ b' ∧ b' < (n' : Int)) ∧ 0 ≤ f' ∧ f' < 4) → Ok 15 [.inr (some 338), .inl b', .inl f', .inr none, .inr none] [] (I, mm_R0) := by
      intro h'
      rw [if_pos h'] at eF
      simp only [eF] at hP
      refine c15 _ _ _ ?_
      simp only [b_X12_free_15, i_xorg, i_shl, i_shr, i_ior, i_and1, i_lcg1, i_lcg2, i_ld, i_la, i_st, i_sa, i_c, i_inc, i_add, i_sub, i_mul, i_div, i_rem, i_remT, i_xor, i_dup, i_dup2, i_if, i_if2, i_sw, i_gi, i_gr, i_pi, i_pz, i_ial, i_ias, i_len, i_aal, i_gs, i_tal, i_cv, i_cs, i_ir, i_zr, i_vr, i_min, i_max, i_cpy, List.getElem?_cons_zero, List.getElem?_cons_succ, List.set_cons_zero, List.set_cons_succ, List.length_cons, List.length_nil, List.drop_succ_cons, List.drop_zero, List.take_succ_cons, List.take_zero, List.reverse_cons, List.reverse_nil, List.nil_append, List.cons_append, Option.toList_some, Option.toList_none, true_and, and_true, true_or, or_true, Nat.reduceAdd, Nat.reduceLT, Nat.reduceLeDiff, Option.some.injEq, exists_eq_left', Int.toNat_natCast, Nat.reduceSub, List.append_nil, List.replicate_succ, List.replicate_zero]
      exact hP I (loF_rf I) hS'
    refine c0 _ _ _ ?_
    simp only [b_X12_free_0, i_xorg, i_shl, i_shr, i_ior, i_and1, i_lcg1, i_lcg2, i_ld, i_la, i_st, i_sa, i_c, i_inc, i_add, i_sub, i_mul, i_div, i_rem, i_remT, i_xor, i_dup, i_dup2, i_if, i_if2, i_sw, i_gi, i_gr, i_pi, i_pz, i_ial, i_ias, i_len, i_aal, i_gs, i_tal, i_cv, i_cs, i_ir, i_zr, i_vr, i_min, i_max, i_cpy, List.getElem?_cons_zero, List.getElem?_cons_succ, List.set_cons_zero, List.set_cons_succ, List.length_cons, List.length_nil, List.drop_succ_cons, List.drop_zero, List.take_succ_cons, List.take_zero, List.reverse_cons, List.reverse_nil, List.nil_append, List.cons_append, Option.toList_some, Option.toList_none, true_and, and_true, true_or, or_true, Nat.reduceAdd, Nat.reduceLT, Nat.reduceLeDiff, Option.some.injEq, exists_eq_left', Int.toNat_natCast, Nat.reduceSub, List.append_nil, List.replicate_succ, List.replicate_zero, mm_in, w0', hn0, T_X12_isBody, T_X12_isSide, T_X12_isFree]
    refine ⟨by omega, fun zA hA => ⟨fun y' => no' (fun w' => bz_f hA y' w'.1), fun yA zB' hB' => ⟨fun yB' => ?_, fun y' => no' (fun w' => bz_f hB' (by omega) w'.2)⟩⟩⟩
    have hh : (0 ≤ b' ∧ b' < (n' : Int)) ∧ 0 ≤ f' ∧ f' < 4 := ⟨bz_t hA yA, bz_t hB' yB'⟩
    rw [if_neg (fun w' => w' hh)] at eF
    obtain ⟨X', hX⟩ := Int.eq_ofNat_of_zero_le (show 0 ≤ 4 * b' + f' by omega)
    rw [hX, Int.toNat_natCast] at eF
    rw [hX]
    have pX := (mW_0 hS'.1).2.2.1 X' (by omega)
    refine ⟨⟨by omega, by omega⟩, ⟨by omega, by omega⟩, X', rfl, by omega, fun zC hC => ⟨fun yC => mrecall hS' ok (fun J' fA fB' hJ => ?_), fun yC => ?_⟩⟩
    · have hm' := bz_f hC yC
      obtain ⟨qA, qB, qC, qD, qE, qF, qG, qH⟩ : X' < 4 * n' ∧ 0 ≤ MP I X' ∧ MP I X' < 4 * n' ∧ MP I X' ≠ X' ∧ MP I (MP I X').toNat = X' ∧ 0 ≤ MY I X' ∧ MY I X' < 6 ∧ MY I (MP I X').toNat = mm_tb 1 (MY I X').toNat := by
        rcases hg X' (by omega) with e' | e'
        · exact absurd e' hm'
        · exact e'
      unfold MP at qB qC qD
      obtain ⟨Y, hY⟩ := Int.eq_ofNat_of_zero_le qB
      have hYJ : J' 339 (2 + X') = (Y : Int) := by rw [fB' _ (by omega)]; exact hY
      rw [← pX, hY, if_neg (by omega), Int.toNat_natCast, Int.toNat_natCast] at eF
      simp only [eF] at hP
      have hWJ : mW J' 0 (S' 0) := by have := hJ.1; rw [recS_o S' (by omega) (by omega)] at this; exact this
      simp only [mm_in, w0', w1', w2', t1, t2, t14, hYJ, T_X12_freeMany, i_xorg, i_shl, i_shr, i_ior, i_and1, i_lcg1, i_lcg2, i_ld, i_la, i_st, i_sa, i_c, i_inc, i_add, i_sub, i_mul, i_div, i_rem, i_remT, i_xor, i_dup, i_dup2, i_if, i_if2, i_sw, i_gi, i_gr, i_pi, i_pz, i_ial, i_ias, i_len, i_aal, i_gs, i_tal, i_cv, i_cs, i_ir, i_zr, i_vr, i_min, i_max, i_cpy, List.getElem?_cons_zero, List.getElem?_cons_succ, List.set_cons_zero, List.set_cons_succ, List.length_cons, List.length_nil, List.drop_succ_cons, List.drop_zero, List.take_succ_cons, List.take_zero, List.reverse_cons, List.reverse_nil, List.nil_append, List.cons_append, Option.toList_some, Option.toList_none, true_and, and_true, true_or, or_true, Nat.reduceAdd, Nat.reduceLT, Nat.reduceLeDiff, Option.some.injEq, exists_eq_left', Int.toNat_natCast, Nat.reduceSub, List.append_nil, List.replicate_succ, List.replicate_zero]
      refine ⟨⟨by omega, by omega⟩, ⟨by omega, by omega⟩, fun _ => ⟨⟨by omega, by omega⟩, ⟨by omega, by omega⟩, ⟨by omega, by omega⟩, ⟨by omega, by omega⟩, ⟨by omega, by omega⟩, ⟨by omega, by omega⟩, ⟨by omega, by omega⟩, ⟨by omega, by omega⟩, ⟨by omega, by omega⟩, ?_⟩⟩
      obtain ⟨K', hK'⟩ : ∃ K', mm_set (mm_set (mm_set (mm_set (mm_set J' 339 (2 + X') (-1)) 339 (14 + X') (-1)) 339 (2 + Y) (-1)) 339 (14 + Y) (-1)) 339 1 0 = K' := ⟨_, rfl⟩
      rw [hK']
      have gA : ∀ b', b' ≠ 339 → K' b' = J' b' := fun b' hb' => by rw [← hK', mset_ne hb', mset_ne hb', mset_ne hb', mset_ne hb', mset_ne hb']
      have gB : ∀ i', K' 339 i' = wFre (J' 339) X' Y i' := by
        intro i'
        rw [← hK', mset_i, mset_i, mset_i, mset_i, mset_i]
        unfold wFre
        by_cases kA' : i' = 1
        · rw [if_pos kA', if_pos kA']
        rw [if_neg kA', if_neg kA']
        by_cases kB' : i' = 2 + X' ∨ i' = 2 + Y ∨ i' = 14 + X' ∨ i' = 14 + Y
        · rw [if_pos kB']
          repeat' split
          all_goals first | rfl | omega
        · rw [if_neg kB', if_neg (by omega), if_neg (by omega), if_neg (by omega), if_neg (by omega)]
      have hW : mW K' 0 (wFre (S' 0) X' Y) := mW_fre (by omega) (by omega) hWJ gB
      have hW' := mW_0 hW
      refine ⟨n', by rw [hW'.1, wFre_0]; exact hn, hn3, fun j' hj => ?_, ?_⟩
      · unfold MP
        rw [hW'.2.2.1 j' hj, pw_fre _ _ _ hj, ← (mW_0 hS'.1).2.2.1 j' hj]
        split
        · omega
        · rcases hg j' hj with e' | e' <;> (unfold MP at e'; omega)
      · rw [frn_cg (p := MP K') (q := pw (wFre (S' 0) X' Y)) (fun j' hj => hW'.2.2.1 j' (by omega))]
        refine hP K' (fun b' hb' => by rw [gA b' (by omega), fA b' (by omega) (by omega)]) (mdone hJ (okS_rec ok) gA gB (fun i' hi' => ?_) hW)
        unfold wFre
        rw [if_neg (by omega), if_neg (by omega)]
    · have hm' := bz_t hC yC
      rw [if_pos (by omega)] at eF
      simp only [eF] at hP
      exact hP I (loF_rf I) hS'
  · exact hT.elim
theorem sp_X12_free : mm_Sp yX12_free cX12_free 5 (some .int) rm_X12_free T_X12_free := mm_meth (by decide) (by
  intro av σ Post h
  unfold T_X12_free at h
  split at h
  · simp
  · exact h.elim) (fun p l e s m args below meth c G av σ Post hC hr _ hav hin hk hT => pv_X12_free av σ Post hav hin hk hT _ (bk_X12_free hC hr))
