/-! the other program: put, piece, take, add
-/
def T_X12_newSurface : mm_T := fun av σ Post => match av with
  | [.inr (some a')] => σ.2 = mm_R0 ∧ a' = 338 ∧ ∃ m' : Nat, σ.1 339 1 = m' ∧ m' < 6 ∧ ∀ I' : Nat → Nat → Int, (∀ b', b' ≠ 339 → I' b' = σ.1 b') → (∀ i', I' 339 i' = wNew (σ.1 339) (fun _ => 0) i') → Post (some (.inl (26 + 21 * (m' : Int)))) (I', mm_R0)
  | _ => False
def rm_X12_newSurface : Room := { frames := 1, cells := 0, slots := 0, locals := 20 }
def b_X12_newSurface_0 (Ok : Nat → mm_K) (Post : Option mm_V → mm_S → Prop) (kf : Nat) : mm_K := i_la 0 (i_gr 11 0 (i_c 1 (i_ial (i_cs 1 T_X12_surfaceAt (i_st 1 (i_c 0 (i_st 2 (Ok 12))))))))
def b_X12_newSurface_12 (Ok : Nat → mm_K) (Post : Option mm_V → mm_S → Prop) (kf : Nat) : mm_K := i_ld 2 (i_c 21 (i_if2 (fun x y => y ≤ x) (i_la 0 (i_gr 11 0 (i_c 1 (i_dup2 (i_ial (i_c 1 (i_add (i_ias (i_ld 1 (i_ir Post kf)))))))))) (i_la 0 (i_gr 11 0 (i_ld 1 (i_ld 2 (i_add (i_c 0 (i_ias (i_inc 2 1 (Ok 12)))))))))))
def clo_X12_newSurface (Ok : Nat → mm_K) (Post : Option mm_V → mm_S → Prop) (kf : Nat) : Prop := mm_imp (b_X12_newSurface_0 Ok Post kf) (Ok 0) ∧ mm_imp (b_X12_newSurface_12 Ok Post kf) (Ok 12)
set_option maxRecDepth 100000 in
set_option maxHeartbeats 4000000 in
theorem bk_X12_newSurface {p : Program} {l : Launch} {e : Env} {s : State} {m : MethodId} {args : Array Value} {below : List Frame} {meth : Method} {c : Code} {G : mm_G} {σ0 : mm_S} {Post : Option mm_V → mm_S → Prop} (hC : mm_C p G s m args meth c cX12_newSurface yX12_newSurface.cls) (hr : meth.sig.returnType = some .int) : clo_X12_newSurface (mm_O p l e rm_X12_newSurface s m args below meth c G σ0.2.2 (MQ below (mm_Qc G σ0 rm_X12_newSurface.cells rm_X12_newSurface.slots Post) args s rm_X12_newSurface.cells rm_X12_newSurface.slots (mm_A G))) Post σ0.2.2 := ⟨(by unfold b_X12_newSurface_0; exact (mm_la_n hC dX12_newSurface_0 rfl (mm_gr hC cl_11 (by decide) rfl wd_789 dX12_newSurface_1 (mm_ic hC dX12_newSurface_4 ⟨by decide, by decide⟩ (mm_ial hC dX12_newSurface_5 (mm_cs hC sp_X12_surfaceAt ⟨rfl, rfl⟩ wd_972 wd_973 wd_974 wd_77 ⟨by decide, by decide, by decide +kernel⟩ ⟨by decide, by decide⟩ dX12_newSurface_6 (mm_st_n hC dX12_newSurface_9 rfl (mm_ic hC dX12_newSurface_10 ⟨by decide, by decide⟩ (mm_st_n hC dX12_newSurface_11 rfl (fun _ _ _ h => h)))))))))), (by unfold b_X12_newSurface_12; exact (mm_ld_n hC dX12_newSurface_12 rfl (mm_bp hC dX12_newSurface_13 ⟨⟨by decide, by decide⟩, by decide⟩ (mm_ic_ge hC (t := 33) dX12_newSurface_15 (by decide) (mm_la_n hC dX12_newSurface_33 rfl (mm_gr hC cl_11 (by decide) rfl wd_789 dX12_newSurface_34 (mm_ic hC dX12_newSurface_37 ⟨by decide, by decide⟩ (mm_dup2 hC dX12_newSurface_38 (mm_ial hC dX12_newSurface_39 (mm_ic hC dX12_newSurface_40 ⟨by decide, by decide⟩ (mm_add hC dX12_newSurface_41 (mm_ias hC dX12_newSurface_42 (mm_ld_n hC dX12_newSurface_43 rfl (mm_ir hC ⟨rfl, rfl⟩ hr dX12_newSurface_44)))))))))) (mm_la_n hC dX12_newSurface_18 rfl (mm_gr hC cl_11 (by decide) rfl wd_789 dX12_newSurface_19 (mm_ld_n hC dX12_newSurface_22 rfl (mm_ld_n hC dX12_newSurface_23 rfl (mm_add hC dX12_newSurface_24 (mm_ic hC dX12_newSurface_25 ⟨by decide, by decide⟩ (mm_ias hC dX12_newSurface_26 (mm_inc hC dX12_newSurface_27 (mm_goto hC (t := 12) dX12_newSurface_30 (by decide) (fun _ _ _ h => h))))))))))))))⟩
set_option maxRecDepth 100000 in
set_option maxHeartbeats 8000000 in
theorem pv_X12_newSurface : ∀ (av : List mm_V) (σ : mm_S) (Post : Option mm_V → mm_S → Prop), (∀ v ∈ av, mm_iv v) → (∀ a j, mm_in (σ.1 a j)) → σ.2.2 ≤ 348 → T_X12_newSurface av σ Post → ∀ Ok : Nat → mm_K, clo_X12_newSurface Ok Post σ.2.2 → Ok 0 (av ++ List.replicate (3 - av.length) (.inr none)) [] σ := by
  intro av σ Post hav hin hk hT Ok hcl
  obtain ⟨I, R0⟩ := σ
  unfold T_X12_newSurface at hT
  split at hT
  · rename_i a'
    obtain ⟨h0, hT⟩ := hT
    have h0 : R0 = mm_R0 := h0
    subst h0
    dsimp only at hT hin
    obtain ⟨c0, c12⟩ := hcl
    obtain ⟨rfl, m', hm', hm6, hP⟩ := hT
    have w0' := m0
    have w1' := m1
    have w2' := m2
    have loop' : ∀ (d' k' : Nat) (K' : Nat → Nat → Int), k' + d' = 21 → (∀ b', b' ≠ 339 → K' b' = I b') → (∀ i', K' 339 i' = if 26 + 21 * m' ≤ i' ∧ i' < 26 + 21 * m' + k' then 0 else I 339 i') → Ok 12 [.inr (some 338), .inl (26 + 21 * (m' : Int)), .inl (k' : Int)] [] (K', mm_R0) := by
      intro d'
      induction d' with
      | zero =>
        intro k' K' hd' hA hB'
        have eK : K' 339 1 = (m' : Int) := by rw [hB' 1, if_neg (by omega)]; exact hm'
        refine c12 _ _ _ ?_
        simp only [b_X12_newSurface_12, i_xorg, i_shl, i_shr, i_ior, i_and1, i_lcg1, i_lcg2, i_ld, i_la, i_st, i_sa, i_c, i_inc, i_add, i_sub, i_mul, i_div, i_rem, i_remT, i_xor, i_dup, i_dup2, i_if, i_if2, i_sw, i_gi, i_gr, i_pi, i_pz, i_ial, i_ias, i_len, i_aal, i_gs, i_tal, i_cv, i_cs, i_ir, i_zr, i_vr, i_min, i_max, i_cpy, List.getElem?_cons_zero, List.getElem?_cons_succ, List.set_cons_zero, List.set_cons_succ, List.length_cons, List.length_nil, List.drop_succ_cons, List.drop_zero, List.take_succ_cons, List.take_zero, List.reverse_cons, List.reverse_nil, List.nil_append, List.cons_append, Option.toList_some, Option.toList_none, true_and, and_true, true_or, or_true, Nat.reduceAdd, Nat.reduceLT, Nat.reduceLeDiff, Option.some.injEq, exists_eq_left', Int.toNat_natCast, Nat.reduceSub, List.append_nil, List.replicate_succ, List.replicate_zero, mm_in, w0', w1', w2', t1, eK]
        refine ⟨fun _ => ⟨⟨by omega, by omega⟩, fun _ => ⟨⟨by omega, by omega⟩, ⟨by omega, by omega⟩, hP _ (fun b' hb' => by rw [mset_ne hb']; exact hA b' hb') (fun i' => ?_)⟩⟩, fun h' => by omega⟩
        rw [mset_i, hB']
        unfold wNew
        rw [hm', Int.toNat_natCast]
        by_cases c' : i' = 1
        · rw [if_pos c', if_pos c']
        · rw [if_neg c', if_neg c']
          by_cases c' : 26 + 21 * m' ≤ i' ∧ i' < 26 + 21 * m' + 21
          · rw [if_pos c', if_pos (by omega)]
          · rw [if_neg c', if_neg (by omega)]
      | succ d' ih =>
        intro k' K' hd' hA hB'
        have e3' : (26 + 21 * (m' : Int) + (k' : Int)).toNat = 26 + 21 * m' + k' := by omega
        have := ih (k' + 1) (mm_set K' 339 (26 + 21 * m' + k') 0) (by omega) (fun b' hb' => by rw [mset_ne hb']; exact hA b' hb') (fun i' => ?_)
        · rw [Int.natCast_add] at this
          refine c12 _ _ _ ?_
          simp only [b_X12_newSurface_12, i_xorg, i_shl, i_shr, i_ior, i_and1, i_lcg1, i_lcg2, i_ld, i_la, i_st, i_sa, i_c, i_inc, i_add, i_sub, i_mul, i_div, i_rem, i_remT, i_xor, i_dup, i_dup2, i_if, i_if2, i_sw, i_gi, i_gr, i_pi, i_pz, i_ial, i_ias, i_len, i_aal, i_gs, i_tal, i_cv, i_cs, i_ir, i_zr, i_vr, i_min, i_max, i_cpy, List.getElem?_cons_zero, List.getElem?_cons_succ, List.set_cons_zero, List.set_cons_succ, List.length_cons, List.length_nil, List.drop_succ_cons, List.drop_zero, List.take_succ_cons, List.take_zero, List.reverse_cons, List.reverse_nil, List.nil_append, List.cons_append, Option.toList_some, Option.toList_none, true_and, and_true, true_or, or_true, Nat.reduceAdd, Nat.reduceLT, Nat.reduceLeDiff, Option.some.injEq, exists_eq_left', Int.toNat_natCast, Nat.reduceSub, List.append_nil, List.replicate_succ, List.replicate_zero, mm_in, w0', w1', w2', e3']
          refine ⟨fun h' => by omega, fun h' => ⟨⟨by omega, by omega⟩, ⟨by omega, by omega⟩, ⟨by omega, by omega⟩, this⟩⟩
        · rw [mset_i, hB']
          by_cases c' : i' = 26 + 21 * m' + k'
          · rw [if_pos c', if_pos (by omega)]
          · rw [if_neg c']
            by_cases c' : 26 + 21 * m' ≤ i' ∧ i' < 26 + 21 * m' + k'
            · rw [if_pos c', if_pos (by omega)]
            · rw [if_neg c', if_neg (by omega)]
    refine c0 _ _ _ ?_
    simp only [b_X12_newSurface_0, i_xorg, i_shl, i_shr, i_ior, i_and1, i_lcg1, i_lcg2, i_ld, i_la, i_st, i_sa, i_c, i_inc, i_add, i_sub, i_mul, i_div, i_rem, i_remT, i_xor, i_dup, i_dup2, i_if, i_if2, i_sw, i_gi, i_gr, i_pi, i_pz, i_ial, i_ias, i_len, i_aal, i_gs, i_tal, i_cv, i_cs, i_ir, i_zr, i_vr, i_min, i_max, i_cpy, List.getElem?_cons_zero, List.getElem?_cons_succ, List.set_cons_zero, List.set_cons_succ, List.length_cons, List.length_nil, List.drop_succ_cons, List.drop_zero, List.take_succ_cons, List.take_zero, List.reverse_cons, List.reverse_nil, List.nil_append, List.cons_append, Option.toList_some, Option.toList_none, true_and, and_true, true_or, or_true, Nat.reduceAdd, Nat.reduceLT, Nat.reduceLeDiff, Option.some.injEq, exists_eq_left', Int.toNat_natCast, Nat.reduceSub, List.append_nil, List.replicate_succ, List.replicate_zero, mm_in, w0', w1', w2', t1, hm', T_X12_surfaceAt]
    refine ⟨⟨by omega, by omega⟩, fun _ => ⟨by omega, by omega, loop' 21 0 I (by omega) (fun _ _ => rfl) (fun i' => by rw [if_neg (by omega)])⟩⟩
  · exact hT.elim
theorem sp_X12_newSurface : mm_Sp yX12_newSurface cX12_newSurface 3 (some .int) rm_X12_newSurface T_X12_newSurface := mm_meth (by decide) (by
  intro av σ Post h
  unfold T_X12_newSurface at h
  split at h
  · simp
  · exact h.elim) (fun p l e s m args below meth c G av σ Post hC hr _ hav hin hk hT => pv_X12_newSurface av σ Post hav hin hk hT _ (bk_X12_newSurface hC hr))
theorem mW_new {I J' : Nat → Nat → Int} {W nb : Nat → Int} (h' : mW I 0 W) (g : ∀ i', i' < 152 → J' 339 i' = wNew (I 339) nb i') (hm' : 0 ≤ W 1 ∧ W 1 < 6) : mW J' 0 (wNew W nb) := by
  obtain ⟨a', b', c', d', e⟩ := mW_0 h'
  refine mW_mk ⟨?_, ?_, fun j' hj => ?_, fun j' hj hp => ?_, fun s' hs i' hi' => ?_⟩
  · rw [g _ (by omega), wNew_0, wNew_0, a']
  · rw [g _ (by omega), wNew_1, wNew_1, b']
  · have e1' := pw_new (I 339) nb hj
    rw [pw_new W nb hj, g _ (by omega), ← c' j' hj]
    exact e1'
  · rw [pw_new W nb hj] at hp
    have e1' := ww_new (I 339) nb hj
    rw [ww_new W nb hj, g _ (by omega), ← d' j' hj hp]
    exact e1'
  · rw [wNew_1] at hs
    have e1' := nw_new (I 339) nb (s := s') hi'
    rw [nw_new W nb hi', g _ (by omega)]
    refine Eq.trans e1' ?_
    rw [b']
    by_cases q' : s' = (W 1).toNat
    · rw [if_pos q', if_pos q']
    · rw [if_neg q', if_neg q']
      exact e s' (by omega) i' hi'
theorem recW0 {J' S' : Nat → Nat → Int} (h' : mSt J' (recS S')) : mW J' 0 (S' 0) := by
  have := h'.1
  rw [recS_o S' (by omega) (by omega)] at this
  exact this
def T_X12_put : mm_T := fun av σ Post => match av with
  | [.inr (some a')] => mT putF a' σ Post
  | _ => False
def rm_X12_put : Room := { frames := 2, cells := 0, slots := 0, locals := 44 }
def b_X12_put_0 (Ok : Nat → mm_K) (Post : Option mm_V → mm_S → Prop) (kf : Nat) : mm_K := i_la 0 (i_gr 11 0 (i_c 1 (i_ial (i_c 6 (i_if2 (fun x y => ¬ x = y) (i_la 0 (i_cv 11 0 T_X12_remember (i_la 0 (i_cv 11 0 T_X12_newSurface (i_st 1 (i_ld 1 (i_c 26 (i_sub (i_c 21 (i_div (i_ir Post kf))))))))))) (i_c (-1000000004) (i_ir Post kf)))))))
def clo_X12_put (Ok : Nat → mm_K) (Post : Option mm_V → mm_S → Prop) (kf : Nat) : Prop := mm_imp (b_X12_put_0 Ok Post kf) (Ok 0)
set_option maxRecDepth 100000 in
set_option maxHeartbeats 4000000 in
theorem bk_X12_put {p : Program} {l : Launch} {e : Env} {s : State} {m : MethodId} {args : Array Value} {below : List Frame} {meth : Method} {c : Code} {G : mm_G} {σ0 : mm_S} {Post : Option mm_V → mm_S → Prop} (hC : mm_C p G s m args meth c cX12_put yX12_put.cls) (hr : meth.sig.returnType = some .int) : clo_X12_put (mm_O p l e rm_X12_put s m args below meth c G σ0.2.2 (MQ below (mm_Qc G σ0 rm_X12_put.cells rm_X12_put.slots Post) args s rm_X12_put.cells rm_X12_put.slots (mm_A G))) Post σ0.2.2 := (by unfold clo_X12_put b_X12_put_0; exact (mm_la_n hC dX12_put_0 rfl (mm_gr hC cl_11 (by decide) rfl wd_789 dX12_put_1 (mm_ic hC dX12_put_4 ⟨by decide, by decide⟩ (mm_ial hC dX12_put_5 (mm_bp hC dX12_put_6 ⟨⟨by decide, by decide⟩, by decide⟩ (mm_ic_ne hC (t := 14) dX12_put_8 (by decide) (mm_la_n hC dX12_put_14 rfl (mm_cv hC sp_X12_remember ⟨rfl, rfl⟩ cl_11 wd_1051 wd_1053 wd_57 wd_1054 wd_77 ⟨by decide, by decide, by decide +kernel⟩ ⟨by decide, by decide⟩ dX12_put_15 (mm_la_n hC dX12_put_18 rfl (mm_cv hC sp_X12_newSurface ⟨rfl, rfl⟩ cl_11 wd_1084 wd_1086 wd_61 wd_1087 wd_77 ⟨by decide, by decide, by decide +kernel⟩ ⟨by decide, by decide⟩ dX12_put_19 (mm_st_n hC dX12_put_22 rfl (mm_ld_n hC dX12_put_23 rfl (mm_bp hC dX12_put_24 ⟨⟨by decide, by decide⟩, by decide⟩ (mm_sub hC dX12_put_26 (mm_bp hC dX12_put_27 ⟨⟨by decide, by decide⟩, by decide⟩ (mm_div hC dX12_put_29 (mm_ir hC ⟨rfl, rfl⟩ hr dX12_put_30))))))))))) (mm_ldc hC dX12_put_11 ⟨by decide, by decide⟩ wd_1083 (mm_ir hC ⟨rfl, rfl⟩ hr dX12_put_13)))))))))
set_option maxRecDepth 100000 in
set_option maxHeartbeats 8000000 in
theorem pv_X12_put : ∀ (av : List mm_V) (σ : mm_S) (Post : Option mm_V → mm_S → Prop), (∀ v ∈ av, mm_iv v) → (∀ a j, mm_in (σ.1 a j)) → σ.2.2 ≤ 348 → T_X12_put av σ Post → ∀ Ok : Nat → mm_K, clo_X12_put Ok Post σ.2.2 → Ok 0 (av ++ List.replicate (2 - av.length) (.inr none)) [] σ := by
  intro av σ Post hav hin hk hT Ok hcl
  obtain ⟨I, R0⟩ := σ
  unfold T_X12_put at hT
  split at hT
  · rename_i a'
    obtain ⟨h0, hT⟩ := hT
    have h0 : R0 = mm_R0 := h0
    subst h0
    dsimp only at hT hin
    have c0 := hcl
    unfold clo_X12_put at c0
    obtain ⟨rfl, S', hS', ok, hP⟩ := hT
    have w0' := m0
    have w1' := m1
    have w2' := m2
    obtain ⟨nn, m', okA, okB, okC, okD, okE, okF⟩ := id ok.1
    have hm' : I 339 1 = (m' : Int) := by rw [(mW_0 hS'.1).2.1, okB]
    have eF : putF S' = if 6 ≤ S' 0 1 then (S', -1000000004) else (upW (recS S') (wNew (S' 0) (fun _ => 0)), S' 0 1) := rfl
    refine c0 _ _ _ ?_
    simp only [b_X12_put_0, i_xorg, i_shl, i_shr, i_ior, i_and1, i_lcg1, i_lcg2, i_ld, i_la, i_st, i_sa, i_c, i_inc, i_add, i_sub, i_mul, i_div, i_rem, i_remT, i_xor, i_dup, i_dup2, i_if, i_if2, i_sw, i_gi, i_gr, i_pi, i_pz, i_ial, i_ias, i_len, i_aal, i_gs, i_tal, i_cv, i_cs, i_ir, i_zr, i_vr, i_min, i_max, i_cpy, List.getElem?_cons_zero, List.getElem?_cons_succ, List.set_cons_zero, List.set_cons_succ, List.length_cons, List.length_nil, List.drop_succ_cons, List.drop_zero, List.take_succ_cons, List.take_zero, List.reverse_cons, List.reverse_nil, List.nil_append, List.cons_append, Option.toList_some, Option.toList_none, true_and, and_true, true_or, or_true, Nat.reduceAdd, Nat.reduceLT, Nat.reduceLeDiff, Option.some.injEq, exists_eq_left', Int.toNat_natCast, Nat.reduceSub, List.append_nil, List.replicate_succ, List.replicate_zero, mm_in, w0', w1', w2', t1, hm']
    refine ⟨⟨by omega, by omega⟩, fun _ => ⟨fun c' => mrecall hS' ok (fun J' fA fB' hJ => ?_), fun c' => ?_⟩⟩
    · rw [if_neg (by omega)] at eF
      simp only [eF] at hP
      have hWJ := recW0 hJ
      have hmJ : J' 339 1 = (m' : Int) := by rw [(mW_0 hWJ).2.1, okB]
      simp only [mm_in, w0', T_X12_newSurface, i_xorg, i_shl, i_shr, i_ior, i_and1, i_lcg1, i_lcg2, i_ld, i_la, i_st, i_sa, i_c, i_inc, i_add, i_sub, i_mul, i_div, i_rem, i_remT, i_xor, i_dup, i_dup2, i_if, i_if2, i_sw, i_gi, i_gr, i_pi, i_pz, i_ial, i_ias, i_len, i_aal, i_gs, i_tal, i_cv, i_cs, i_ir, i_zr, i_vr, i_min, i_max, i_cpy, List.getElem?_cons_zero, List.getElem?_cons_succ, List.set_cons_zero, List.set_cons_succ, List.length_cons, List.length_nil, List.drop_succ_cons, List.drop_zero, List.take_succ_cons, List.take_zero, List.reverse_cons, List.reverse_nil, List.nil_append, List.cons_append, Option.toList_some, Option.toList_none, true_and, and_true, true_or, or_true, Nat.reduceAdd, Nat.reduceLT, Nat.reduceLeDiff, Option.some.injEq, exists_eq_left', Int.toNat_natCast, Nat.reduceSub, List.append_nil, List.replicate_succ, List.replicate_zero]
      refine ⟨m', hmJ, by omega, fun K' gA gB => ⟨⟨by omega, by omega⟩, ⟨by omega, by omega⟩, ?_⟩⟩
      rw [show (26 + 21 * (m' : Int) - 26) / 21 = S' 0 1 by omega]
      refine hP K' (fun b' hb' => by rw [gA b' (by omega), fA b' (by omega) (by omega)]) (mdone hJ (okS_rec ok) gA gB (fun i' hi' => ?_) (mW_new hWJ (fun i' _ => gB i') (by omega)))
      unfold wNew
      rw [hmJ, if_neg (by omega), if_neg (by omega)]
    · rw [if_pos (by omega)] at eF
      simp only [eF] at hP
      exact hP I (loF_rf I) hS'
  · exact hT.elim
theorem sp_X12_put : mm_Sp yX12_put cX12_put 2 (some .int) rm_X12_put T_X12_put := mm_meth (by decide) (by
  intro av σ Post h
  unfold T_X12_put at h
  split at h
  · simp
  · exact h.elim) (fun p l e s m args below meth c G av σ Post hC hr _ hav hin hk hT => pv_X12_put av σ Post hav hin hk hT _ (bk_X12_put hC hr))
theorem mW_pie {I J' : Nat → Nat → Int} {W : Nat → Int} {p' : Nat} {v : Int} (h' : mW I 0 W) (g : ∀ i', J' 339 i' = wPie (I 339) p' v i') : mW J' 0 (wPie W p' v) := by
  obtain ⟨a', b', c', d', e⟩ := mW_0 h'
  have o : ∀ i', i' < 26 → wPie W p' v i' = W i' := fun i' hi' => by unfold wPie; rw [if_neg (by omega)]
  refine mW_mk ⟨?_, ?_, fun j' hj => ?_, fun j' hj hp => ?_, fun s' hs i' hi' => ?_⟩
  · rw [o 0 (by omega), g, ← a']; unfold wPie; rw [if_neg (by omega)]
  · rw [o 1 (by omega), g, ← b']; unfold wPie; rw [if_neg (by omega)]
  · have : pw (wPie W p' v) j' = pw W j' := o _ (by omega)
    rw [this, g, ← c' j' hj]; unfold wPie; rw [if_neg (by omega)]
  · have e1' : pw (wPie W p' v) j' = pw W j' := o _ (by omega)
    rw [e1'] at hp
    have e2' : ww (wPie W p' v) j' = ww W j' := o _ (by omega)
    rw [e2', g, ← d' j' hj hp]; unfold wPie; rw [if_neg (by omega)]
  · rw [o 1 (by omega)] at hs
    have := e s' hs i' hi'
    rw [g]
    unfold nw at this ⊢
    unfold wPie
    rw [this]
def T_X12_piece : mm_T := fun av σ Post => match av with
  | [.inr (some a'), .inl s', .inl b', .inl k', .inl v] => mT (fun S' => pieF S' s' b' k' v) a' σ Post
  | _ => False
def rm_X12_piece : Room := { frames := 2, cells := 0, slots := 0, locals := 44 }
def b_X12_piece_0 (Ok : Nat → mm_K) (Post : Option mm_V → mm_S → Prop) (kf : Nat) : mm_K := i_la 0 (i_ld 1 (i_cv 11 1 T_X12_isSurface (i_if (fun x => x = 0) (Ok 16) (i_la 0 (i_ld 2 (i_cv 11 1 T_X12_isBody (i_if (fun x => ¬ x = 0) (i_ld 3 (i_c 0 (i_c 6 (i_cs 3 T_X12_in (i_if (fun x => x = 0) (Ok 40) (i_ld 4 (i_c 0 (i_c 20 (i_cs 3 T_X12_in (i_if (fun x => ¬ x = 0) (i_la 0 (i_cv 11 0 T_X12_remember (i_ld 1 (i_cs 1 T_X12_surfaceAt (i_c 7 (i_ld 2 (i_mul (i_add (i_ld 3 (i_add (i_st 5 (i_la 0 (i_gr 11 0 (i_ld 5 (i_ial (i_st 6 (i_la 0 (i_gr 11 0 (i_ld 5 (i_ld 4 (i_ias (i_ld 6 (i_ir Post kf))))))))))))))))))))))) (Ok 40))))))))))) (Ok 16))))))))
def b_X12_piece_16 (Ok : Nat → mm_K) (Post : Option mm_V → mm_S → Prop) (kf : Nat) : mm_K := i_c (-1000000001) (i_ir Post kf)
def b_X12_piece_40 (Ok : Nat → mm_K) (Post : Option mm_V → mm_S → Prop) (kf : Nat) : mm_K := i_c (-1000000002) (i_ir Post kf)
def clo_X12_piece (Ok : Nat → mm_K) (Post : Option mm_V → mm_S → Prop) (kf : Nat) : Prop := mm_imp (b_X12_piece_0 Ok Post kf) (Ok 0) ∧ mm_imp (b_X12_piece_16 Ok Post kf) (Ok 16) ∧ mm_imp (b_X12_piece_40 Ok Post kf) (Ok 40)
set_option maxRecDepth 100000 in
set_option maxHeartbeats 4000000 in
theorem bk_X12_piece {p : Program} {l : Launch} {e : Env} {s : State} {m : MethodId} {args : Array Value} {below : List Frame} {meth : Method} {c : Code} {G : mm_G} {σ0 : mm_S} {Post : Option mm_V → mm_S → Prop} (hC : mm_C p G s m args meth c cX12_piece yX12_piece.cls) (hr : meth.sig.returnType = some .int) : clo_X12_piece (mm_O p l e rm_X12_piece s m args below meth c G σ0.2.2 (MQ below (mm_Qc G σ0 rm_X12_piece.cells rm_X12_piece.slots Post) args s rm_X12_piece.cells rm_X12_piece.slots (mm_A G))) Post σ0.2.2 := ⟨(by unfold b_X12_piece_0; exact (mm_la_n hC dX12_piece_0 rfl (mm_ld_n hC dX12_piece_1 rfl (mm_cv hC sp_X12_isSurface ⟨rfl, rfl⟩ cl_11 wd_975 wd_977 wd_48 wd_978 wd_77 ⟨by decide, by decide, by decide +kernel⟩ ⟨by decide, by decide⟩ dX12_piece_2 (mm_if_eq hC (t := 16) dX12_piece_5 (by decide) (fun _ _ _ h => h) (mm_la_n hC dX12_piece_8 rfl (mm_ld_n hC dX12_piece_9 rfl (mm_cv hC sp_X12_isBody ⟨rfl, rfl⟩ cl_11 wd_999 wd_1001 wd_52 wd_1002 wd_77 ⟨by decide, by decide, by decide +kernel⟩ ⟨by decide, by decide⟩ dX12_piece_10 (mm_if_ne hC (t := 19) dX12_piece_13 (by decide) (mm_ld_n hC dX12_piece_19 rfl (mm_ic hC dX12_piece_20 ⟨by decide, by decide⟩ (mm_bp hC dX12_piece_21 ⟨⟨by decide, by decide⟩, by decide⟩ (mm_cs hC sp_X12_in ⟨rfl, rfl⟩ wd_979 wd_980 wd_981 wd_77 ⟨by decide, by decide, by decide +kernel⟩ ⟨by decide, by decide⟩ dX12_piece_23 (mm_if_eq hC (t := 40) dX12_piece_26 (by decide) (fun _ _ _ h => h) (mm_ld hC dX12_piece_29 (mm_ic hC dX12_piece_31 ⟨by decide, by decide⟩ (mm_bp hC dX12_piece_32 ⟨⟨by decide, by decide⟩, by decide⟩ (mm_cs hC sp_X12_in ⟨rfl, rfl⟩ wd_979 wd_980 wd_981 wd_77 ⟨by decide, by decide, by decide +kernel⟩ ⟨by decide, by decide⟩ dX12_piece_34 (mm_if_ne hC (t := 43) dX12_piece_37 (by decide) (mm_la_n hC dX12_piece_43 rfl (mm_cv hC sp_X12_remember ⟨rfl, rfl⟩ cl_11 wd_1051 wd_1053 wd_57 wd_1054 wd_77 ⟨by decide, by decide, by decide +kernel⟩ ⟨by decide, by decide⟩ dX12_piece_44 (mm_ld_n hC dX12_piece_47 rfl (mm_cs hC sp_X12_surfaceAt ⟨rfl, rfl⟩ wd_972 wd_973 wd_974 wd_77 ⟨by decide, by decide, by decide +kernel⟩ ⟨by decide, by decide⟩ dX12_piece_48 (mm_bp hC dX12_piece_51 ⟨⟨by decide, by decide⟩, by decide⟩ (mm_ld_n hC dX12_piece_53 rfl (mm_mul hC dX12_piece_54 (mm_add hC dX12_piece_55 (mm_ld_n hC dX12_piece_56 rfl (mm_add hC dX12_piece_57 (mm_st hC dX12_piece_58 (mm_la_n hC dX12_piece_60 rfl (mm_gr hC cl_11 (by decide) rfl wd_789 dX12_piece_61 (mm_ld hC dX12_piece_64 (mm_ial hC dX12_piece_66 (mm_st hC dX12_piece_67 (mm_la_n hC dX12_piece_69 rfl (mm_gr hC cl_11 (by decide) rfl wd_789 dX12_piece_70 (mm_ld hC dX12_piece_73 (mm_ld hC dX12_piece_75 (mm_ias hC dX12_piece_77 (mm_ld hC dX12_piece_78 (mm_ir hC ⟨rfl, rfl⟩ hr dX12_piece_80))))))))))))))))))))))) (fun _ _ _ h => h))))))))))) (fun _ _ _ h => h)))))))))), (by unfold b_X12_piece_16; exact (mm_ldc hC dX12_piece_16 ⟨by decide, by decide⟩ wd_1006 (mm_ir hC ⟨rfl, rfl⟩ hr dX12_piece_18))), (by unfold b_X12_piece_40; exact (mm_ldc hC dX12_piece_40 ⟨by decide, by decide⟩ wd_994 (mm_ir hC ⟨rfl, rfl⟩ hr dX12_piece_42)))⟩
set_option maxRecDepth 100000 in
set_option maxHeartbeats 8000000 in
theorem pv_X12_piece : ∀ (av : List mm_V) (σ : mm_S) (Post : Option mm_V → mm_S → Prop), (∀ v ∈ av, mm_iv v) → (∀ a j, mm_in (σ.1 a j)) → σ.2.2 ≤ 348 → T_X12_piece av σ Post → ∀ Ok : Nat → mm_K, clo_X12_piece Ok Post σ.2.2 → Ok 0 (av ++ List.replicate (7 - av.length) (.inr none)) [] σ := by
  intro av σ Post hav hin hk hT Ok hcl
  obtain ⟨I, R0⟩ := σ
  unfold T_X12_piece at hT
  split at hT
  · rename_i a' s' b' k' v
    obtain ⟨h0, hT⟩ := hT
    have h0 : R0 = mm_R0 := h0
    subst h0
    dsimp only at hT hin
    obtain ⟨c0, c16, c40⟩ := hcl
    obtain ⟨rfl, S', hS', ok, hP⟩ := hT
    have w0' := m0
    have w1' := m1
    have w2' := m2
    obtain ⟨nn, m', okA, okB, okC, okD, okE, okF⟩ := id ok.1
    have hn : I 339 0 = (nn : Int) := by rw [(mW_0 hS'.1).1, okA]
    have hm' : I 339 1 = (m' : Int) := by rw [(mW_0 hS'.1).2.1, okB]
    have eF : pieF S' s' b' k' v = if ¬ ((0 ≤ s' ∧ s' < S' 0 1) ∧ (0 ≤ b' ∧ b' < S' 0 0)) then (S', -1000000001) else if ¬ ((0 ≤ k' ∧ k' < 7) ∧ 0 ≤ v ∧ v ≤ 20) then (S', -1000000002)
      else (upW (recS S') (wPie (S' 0) (21 * s' + 7 * b' + k').toNat v), S' 0 (26 + (21 * s' + 7 * b' + k').toNat)) := rfl
    rw [okA, okB] at eF
    have no' : ¬ ((0 ≤ s' ∧ s' < (m' : Int)) ∧ (0 ≤ b' ∧ b' < (nn : Int))) → Ok 16 [.inr (some 338), .inl s', .inl b', .inl k', .inl v, .inr none, .inr none] [] (I, mm_R0) := by
      intro h'
      rw [if_pos h'] at eF
      simp only [eF] at hP
      refine c16 _ _ _ ?_
      simp only [b_X12_piece_16, i_xorg, i_shl, i_shr, i_ior, i_and1, i_lcg1, i_lcg2, i_ld, i_la, i_st, i_sa, i_c, i_inc, i_add, i_sub, i_mul, i_div, i_rem, i_remT, i_xor, i_dup, i_dup2, i_if, i_if2, i_sw, i_gi, i_gr, i_pi, i_pz, i_ial, i_ias, i_len, i_aal, i_gs, i_tal, i_cv, i_cs, i_ir, i_zr, i_vr, i_min, i_max, i_cpy, List.getElem?_cons_zero, List.getElem?_cons_succ, List.set_cons_zero, List.set_cons_succ, List.length_cons, List.length_nil, List.drop_succ_cons, List.drop_zero, List.take_succ_cons, List.take_zero, List.reverse_cons, List.reverse_nil, List.nil_append, List.cons_append, Option.toList_some, Option.toList_none, true_and, and_true, true_or, or_true, Nat.reduceAdd, Nat.reduceLT, Nat.reduceLeDiff, Option.some.injEq, exists_eq_left', Int.toNat_natCast, Nat.reduceSub, List.append_nil, List.replicate_succ, List.replicate_zero]
      exact hP I (loF_rf I) hS'
    refine c0 _ _ _ ?_
    simp only [b_X12_piece_0, i_xorg, i_shl, i_shr, i_ior, i_and1, i_lcg1, i_lcg2, i_ld, i_la, i_st, i_sa, i_c, i_inc, i_add, i_sub, i_mul, i_div, i_rem, i_remT, i_xor, i_dup, i_dup2, i_if, i_if2, i_sw, i_gi, i_gr, i_pi, i_pz, i_ial, i_ias, i_len, i_aal, i_gs, i_tal, i_cv, i_cs, i_ir, i_zr, i_vr, i_min, i_max, i_cpy, List.getElem?_cons_zero, List.getElem?_cons_succ, List.set_cons_zero, List.set_cons_succ, List.length_cons, List.length_nil, List.drop_succ_cons, List.drop_zero, List.take_succ_cons, List.take_zero, List.reverse_cons, List.reverse_nil, List.nil_append, List.cons_append, Option.toList_some, Option.toList_none, true_and, and_true, true_or, or_true, Nat.reduceAdd, Nat.reduceLT, Nat.reduceLeDiff, Option.some.injEq, exists_eq_left', Int.toNat_natCast, Nat.reduceSub, List.append_nil, List.replicate_succ, List.replicate_zero, mm_in, w0', hn, hm', T_X12_isSurface, T_X12_isBody, T_X12_in]
    refine ⟨by omega, fun zA hA => ⟨fun y' => no' (fun w' => bz_f hA y' w'.1), fun yA => ⟨by omega, fun zB' hB' => ⟨fun yB' => ?_, fun y' => no' (fun w' => bz_f hB' (by omega) w'.2)⟩⟩⟩⟩
    have hh : (0 ≤ s' ∧ s' < (m' : Int)) ∧ (0 ≤ b' ∧ b' < (nn : Int)) := ⟨bz_t hA yA, bz_t hB' yB'⟩
    rw [if_neg (fun w' => w' hh)] at eF
    have no2 : ¬ ((0 ≤ k' ∧ k' < 7) ∧ 0 ≤ v ∧ v ≤ 20) → Ok 40 [.inr (some 338), .inl s', .inl b', .inl k', .inl v, .inr none, .inr none] [] (I, mm_R0) := by
      intro h'
      rw [if_pos h'] at eF
      simp only [eF] at hP
      refine c40 _ _ _ ?_
      simp only [b_X12_piece_40, i_xorg, i_shl, i_shr, i_ior, i_and1, i_lcg1, i_lcg2, i_ld, i_la, i_st, i_sa, i_c, i_inc, i_add, i_sub, i_mul, i_div, i_rem, i_remT, i_xor, i_dup, i_dup2, i_if, i_if2, i_sw, i_gi, i_gr, i_pi, i_pz, i_ial, i_ias, i_len, i_aal, i_gs, i_tal, i_cv, i_cs, i_ir, i_zr, i_vr, i_min, i_max, i_cpy, List.getElem?_cons_zero, List.getElem?_cons_succ, List.set_cons_zero, List.set_cons_succ, List.length_cons, List.length_nil, List.drop_succ_cons, List.drop_zero, List.take_succ_cons, List.take_zero, List.reverse_cons, List.reverse_nil, List.nil_append, List.cons_append, Option.toList_some, Option.toList_none, true_and, and_true, true_or, or_true, Nat.reduceAdd, Nat.reduceLT, Nat.reduceLeDiff, Option.some.injEq, exists_eq_left', Int.toNat_natCast, Nat.reduceSub, List.append_nil, List.replicate_succ, List.replicate_zero]
      exact hP I (loF_rf I) hS'
    refine fun zC hC => ⟨fun yC => no2 (fun w' => bz_f hC yC (by omega)), fun yC zD hD => ⟨fun yD => mrecall hS' ok (fun J' fA fB' hJ => ?_), fun yD => no2 (fun w' => bz_f hD (by omega) (by omega))⟩⟩
    have hC' := bz_t hC yC
    have hD' := bz_t hD yD
    rw [if_neg (by omega)] at eF
    obtain ⟨p', hp⟩ := Int.eq_ofNat_of_zero_le (show 0 ≤ 21 * s' + 7 * b' + k' by omega)
    rw [hp, Int.toNat_natCast] at eF
    simp only [eF] at hP
    have e1' : 26 + 21 * s' + 7 * b' + k' = ((26 + p' : Nat) : Int) := by omega
    have hWJ := recW0 hJ
    obtain ⟨t', rfl⟩ := Int.eq_ofNat_of_zero_le hh.1.1
    have e2' : J' 339 (26 + p') = S' 0 (26 + p') := by
      have := (mW_0 hWJ).2.2.2.2 t' (by omega) (7 * b' + k').toNat (by omega)
      unfold nw at this
      rw [show 26 + 21 * t' + (7 * b' + k').toNat = 26 + p' by omega] at this
      exact this
    simp only [mm_in, w0', w1', w2', T_X12_surfaceAt, e1', Int.toNat_natCast, e2', i_xorg, i_shl, i_shr, i_ior, i_and1, i_lcg1, i_lcg2, i_ld, i_la, i_st, i_sa, i_c, i_inc, i_add, i_sub, i_mul, i_div, i_rem, i_remT, i_xor, i_dup, i_dup2, i_if, i_if2, i_sw, i_gi, i_gr, i_pi, i_pz, i_ial, i_ias, i_len, i_aal, i_gs, i_tal, i_cv, i_cs, i_ir, i_zr, i_vr, i_min, i_max, i_cpy, List.getElem?_cons_zero, List.getElem?_cons_succ, List.set_cons_zero, List.set_cons_succ, List.length_cons, List.length_nil, List.drop_succ_cons, List.drop_zero, List.take_succ_cons, List.take_zero, List.reverse_cons, List.reverse_nil, List.nil_append, List.cons_append, Option.toList_some, Option.toList_none, true_and, and_true, true_or, or_true, Nat.reduceAdd, Nat.reduceLT, Nat.reduceLeDiff, Option.some.injEq, exists_eq_left', Int.toNat_natCast, Nat.reduceSub, List.append_nil, List.replicate_succ, List.replicate_zero]
    refine ⟨by omega, by omega, ⟨by omega, by omega⟩, ⟨by omega, by omega⟩, ⟨by omega, by omega⟩, ⟨by omega, by omega⟩, fun _ => ⟨⟨by omega, by omega⟩, ?_⟩⟩
    have gB : ∀ i', mm_set J' 339 (26 + p') v 339 i' = wPie (J' 339) p' v i' := fun i' => by rw [mset_i]; rfl
    refine hP _ (fun b' hb' => by rw [mset_ne (by omega), fA b' (by omega) (by omega)]) (mdone hJ (okS_rec ok) (fun b' hb' => mset_ne hb') gB (fun i' hi' => ?_) (mW_pie hWJ gB))
    unfold wPie
    rw [if_neg (by omega)]
  · exact hT.elim
theorem sp_X12_piece : mm_Sp yX12_piece cX12_piece 7 (some .int) rm_X12_piece T_X12_piece := mm_meth (by decide) (by
  intro av σ Post h
  unfold T_X12_piece at h
  split at h
  · simp
  · exact h.elim) (fun p l e s m args below meth c G av σ Post hC hr _ hav hin hk hT => pv_X12_piece av σ Post hav hin hk hT _ (bk_X12_piece hC hr))
theorem mW_tak {I J' : Nat → Nat → Int} {W : Nat → Int} {s0' : Nat} (h' : mW I 0 W) (g : ∀ i', J' 339 i' = wTak (I 339) s0' i') : mW J' 0 (wTak W s0') := by
  obtain ⟨a', b', c', d', e⟩ := mW_0 h'
  have o : ∀ i', i' < 26 → i' ≠ 1 → ∀ V : Nat → Int, wTak V s0' i' = V i' := fun i' hi' hj V => by unfold wTak; rw [if_neg hj, if_neg (by omega)]
  have p' : ∀ V : Nat → Int, wTak V s0' 1 = V 1 - 1 := fun V => by unfold wTak; rw [if_pos rfl]
  refine mW_mk ⟨?_, ?_, fun j' hj => ?_, fun j' hj hp => ?_, fun s' hs i' hi' => ?_⟩
  · rw [g, o 0 (by omega) (by omega), o 0 (by omega) (by omega), a']
  · rw [g, p', p', b']
  · rw [g, o _ (by omega) (by omega), c' j' hj]
    unfold pw
    rw [o _ (by omega) (by omega)]
  · have eA' : pw (wTak W s0') j' = pw W j' := o _ (by omega) (by omega) W
    rw [eA'] at hp
    rw [g, o _ (by omega) (by omega), d' j' hj hp]
    unfold ww
    rw [o _ (by omega) (by omega)]
  · rw [p'] at hs
    rw [g]
    unfold nw wTak
    rw [if_neg (show ¬ (26 + 21 * s' + i' = 1) by omega), if_neg (show ¬ (26 + 21 * s' + i' = 1) by omega), b']
    by_cases q' : s0' ≤ s'
    · rw [if_pos (by omega), if_pos (by omega)]
      have := e (s' + 1) (by omega) i' hi'
      unfold nw at this
      rw [show 26 + 21 * s' + i' + 21 = 26 + 21 * (s' + 1) + i' by omega]
      exact this
    · rw [if_neg (by omega), if_neg (by omega)]
      exact e s' (by omega) i' hi'
def T_X12_take : mm_T := fun av σ Post => match av with
  | [.inr (some a'), .inl s'] => mT (fun S' => takF S' s') a' σ Post
  | _ => False
def rm_X12_take : Room := { frames := 2, cells := 0, slots := 0, locals := 44 }
def b_X12_take_0 (Ok : Nat → mm_K) (Post : Option mm_V → mm_S → Prop) (kf : Nat) : mm_K := i_la 0 (i_ld 1 (i_cv 11 1 T_X12_isSurface (i_if (fun x => ¬ x = 0) (i_la 0 (i_cv 11 0 T_X12_remember (i_la 0 (i_gr 11 0 (i_c 1 (i_dup2 (i_ial (i_c 1 (i_sub (i_ias (i_ld 1 (i_cs 1 T_X12_surfaceAt (i_st 2 (Ok 30)))))))))))))) (i_c (-1000000001) (i_ir Post kf)))))
def b_X12_take_30 (Ok : Nat → mm_K) (Post : Option mm_V → mm_S → Prop) (kf : Nat) : mm_K := i_ld 2 (i_la 0 (i_gr 11 0 (i_c 1 (i_ial (i_cs 1 T_X12_surfaceAt (i_if2 (fun x y => y ≤ x) (i_la 0 (i_gr 11 0 (i_c 1 (i_ial (i_ir Post kf))))) (i_la 0 (i_gr 11 0 (i_ld 2 (i_la 0 (i_gr 11 0 (i_ld 2 (i_c 21 (i_add (i_ial (i_ias (i_inc 2 1 (Ok 30))))))))))))))))))
def clo_X12_take (Ok : Nat → mm_K) (Post : Option mm_V → mm_S → Prop) (kf : Nat) : Prop := mm_imp (b_X12_take_0 Ok Post kf) (Ok 0) ∧ mm_imp (b_X12_take_30 Ok Post kf) (Ok 30)
set_option maxRecDepth 100000 in
set_option maxHeartbeats 4000000 in
theorem bk_X12_take {p : Program} {l : Launch} {e : Env} {s : State} {m : MethodId} {args : Array Value} {below : List Frame} {meth : Method} {c : Code} {G : mm_G} {σ0 : mm_S} {Post : Option mm_V → mm_S → Prop} (hC : mm_C p G s m args meth c cX12_take yX12_take.cls) (hr : meth.sig.returnType = some .int) : clo_X12_take (mm_O p l e rm_X12_take s m args below meth c G σ0.2.2 (MQ below (mm_Qc G σ0 rm_X12_take.cells rm_X12_take.slots Post) args s rm_X12_take.cells rm_X12_take.slots (mm_A G))) Post σ0.2.2 := ⟨(by unfold b_X12_take_0; exact (mm_la_n hC dX12_take_0 rfl (mm_ld_n hC dX12_take_1 rfl (mm_cv hC sp_X12_isSurface ⟨rfl, rfl⟩ cl_11 wd_975 wd_977 wd_48 wd_978 wd_77 ⟨by decide, by decide, by decide +kernel⟩ ⟨by decide, by decide⟩ dX12_take_2 (mm_if_ne hC (t := 11) dX12_take_5 (by decide) (mm_la_n hC dX12_take_11 rfl (mm_cv hC sp_X12_remember ⟨rfl, rfl⟩ cl_11 wd_1051 wd_1053 wd_57 wd_1054 wd_77 ⟨by decide, by decide, by decide +kernel⟩ ⟨by decide, by decide⟩ dX12_take_12 (mm_la_n hC dX12_take_15 rfl (mm_gr hC cl_11 (by decide) rfl wd_789 dX12_take_16 (mm_ic hC dX12_take_19 ⟨by decide, by decide⟩ (mm_dup2 hC dX12_take_20 (mm_ial hC dX12_take_21 (mm_ic hC dX12_take_22 ⟨by decide, by decide⟩ (mm_sub hC dX12_take_23 (mm_ias hC dX12_take_24 (mm_ld_n hC dX12_take_25 rfl (mm_cs hC sp_X12_surfaceAt ⟨rfl, rfl⟩ wd_972 wd_973 wd_974 wd_77 ⟨by decide, by decide, by decide +kernel⟩ ⟨by decide, by decide⟩ dX12_take_26 (mm_st_n hC dX12_take_29 rfl (fun _ _ _ h => h)))))))))))))) (mm_ldc hC dX12_take_8 ⟨by decide, by decide⟩ wd_1006 (mm_ir hC ⟨rfl, rfl⟩ hr dX12_take_10))))))), (by unfold b_X12_take_30; exact (mm_ld_n hC dX12_take_30 rfl (mm_la_n hC dX12_take_31 rfl (mm_gr hC cl_11 (by decide) rfl wd_789 dX12_take_32 (mm_ic hC dX12_take_35 ⟨by decide, by decide⟩ (mm_ial hC dX12_take_36 (mm_cs hC sp_X12_surfaceAt ⟨rfl, rfl⟩ wd_972 wd_973 wd_974 wd_77 ⟨by decide, by decide, by decide +kernel⟩ ⟨by decide, by decide⟩ dX12_take_37 (mm_ic_ge hC (t := 64) dX12_take_40 (by decide) (mm_la_n hC dX12_take_64 rfl (mm_gr hC cl_11 (by decide) rfl wd_789 dX12_take_65 (mm_ic hC dX12_take_68 ⟨by decide, by decide⟩ (mm_ial hC dX12_take_69 (mm_ir hC ⟨rfl, rfl⟩ hr dX12_take_70))))) (mm_la_n hC dX12_take_43 rfl (mm_gr hC cl_11 (by decide) rfl wd_789 dX12_take_44 (mm_ld_n hC dX12_take_47 rfl (mm_la_n hC dX12_take_48 rfl (mm_gr hC cl_11 (by decide) rfl wd_789 dX12_take_49 (mm_ld_n hC dX12_take_52 rfl (mm_bp hC dX12_take_53 ⟨⟨by decide, by decide⟩, by decide⟩ (mm_add hC dX12_take_55 (mm_ial hC dX12_take_56 (mm_ias hC dX12_take_57 (mm_inc hC dX12_take_58 (mm_goto hC (t := 30) dX12_take_61 (by decide) (fun _ _ _ h => h)))))))))))))))))))))⟩
set_option maxRecDepth 100000 in
set_option maxHeartbeats 8000000 in
theorem pv_X12_take : ∀ (av : List mm_V) (σ : mm_S) (Post : Option mm_V → mm_S → Prop), (∀ v ∈ av, mm_iv v) → (∀ a j, mm_in (σ.1 a j)) → σ.2.2 ≤ 348 → T_X12_take av σ Post → ∀ Ok : Nat → mm_K, clo_X12_take Ok Post σ.2.2 → Ok 0 (av ++ List.replicate (3 - av.length) (.inr none)) [] σ := by
  intro av σ Post hav hin hk hT Ok hcl
  obtain ⟨I, R0⟩ := σ
  unfold T_X12_take at hT
  split at hT
  · rename_i a' s'
    obtain ⟨h0, hT⟩ := hT
    have h0 : R0 = mm_R0 := h0
    subst h0
    dsimp only at hT hin
    obtain ⟨c0, c30⟩ := hcl
    obtain ⟨rfl, S', hS', ok, hP⟩ := hT
    have w0' := m0
    have w1' := m1
    have w2' := m2
    obtain ⟨nn, m', okA, okB, okC, okD, okE, okF⟩ := id ok.1
    have hm' : I 339 1 = (m' : Int) := by rw [(mW_0 hS'.1).2.1, okB]
    have eF : takF S' s' = if ¬ (0 ≤ s' ∧ s' < S' 0 1) then (S', -1000000001) else (upW (recS S') (wTak (S' 0) s'.toNat), S' 0 1 - 1) := rfl
    rw [okB] at eF
    refine c0 _ _ _ ?_
    simp only [b_X12_take_0, i_xorg, i_shl, i_shr, i_ior, i_and1, i_lcg1, i_lcg2, i_ld, i_la, i_st, i_sa, i_c, i_inc, i_add, i_sub, i_mul, i_div, i_rem, i_remT, i_xor, i_dup, i_dup2, i_if, i_if2, i_sw, i_gi, i_gr, i_pi, i_pz, i_ial, i_ias, i_len, i_aal, i_gs, i_tal, i_cv, i_cs, i_ir, i_zr, i_vr, i_min, i_max, i_cpy, List.getElem?_cons_zero, List.getElem?_cons_succ, List.set_cons_zero, List.set_cons_succ, List.length_cons, List.length_nil, List.drop_succ_cons, List.drop_zero, List.take_succ_cons, List.take_zero, List.reverse_cons, List.reverse_nil, List.nil_append, List.cons_append, Option.toList_some, Option.toList_none, true_and, and_true, true_or, or_true, Nat.reduceAdd, Nat.reduceLT, Nat.reduceLeDiff, Option.some.injEq, exists_eq_left', Int.toNat_natCast, Nat.reduceSub, List.append_nil, List.replicate_succ, List.replicate_zero, mm_in, w0', hm', T_X12_isSurface]
    refine ⟨by omega, fun zA hA => ⟨fun yA => mrecall hS' ok (fun J' fA fB' hJ => ?_), fun yA => ?_⟩⟩
    · have hs := bz_t hA yA
      rw [if_neg (fun w' => w' hs)] at eF
      simp only [eF] at hP
      have hWJ := recW0 hJ
      have hmJ : J' 339 1 = (m' : Int) := by rw [(mW_0 hWJ).2.1, okB]
      obtain ⟨t', rfl⟩ := Int.eq_ofNat_of_zero_le hs.1
      rw [Int.toNat_natCast] at hP
      have loop' : ∀ (d' k' : Nat) (K' : Nat → Nat → Int), k' + d' = 26 + 21 * (m' - 1) → 26 + 21 * t' ≤ k' → (∀ b', b' ≠ 339 → K' b' = J' b') → (∀ i', K' 339 i' = if i' = 1 then (m' : Int) - 1 else if 26 + 21 * t' ≤ i' ∧ i' < k' then J' 339 (i' + 21) else J' 339 i') → Ok 30 [.inr (some 338), .inl (t' : Int), .inl (k' : Int)] [] (K', mm_R0) := by
        intro d'
        induction d' with
        | zero =>
          intro k' K' hd' hk kA' kB'
          have eK : K' 339 1 = (m' : Int) - 1 := by rw [kB', if_pos rfl]
          refine c30 _ _ _ ?_
          simp only [b_X12_take_30, i_xorg, i_shl, i_shr, i_ior, i_and1, i_lcg1, i_lcg2, i_ld, i_la, i_st, i_sa, i_c, i_inc, i_add, i_sub, i_mul, i_div, i_rem, i_remT, i_xor, i_dup, i_dup2, i_if, i_if2, i_sw, i_gi, i_gr, i_pi, i_pz, i_ial, i_ias, i_len, i_aal, i_gs, i_tal, i_cv, i_cs, i_ir, i_zr, i_vr, i_min, i_max, i_cpy, List.getElem?_cons_zero, List.getElem?_cons_succ, List.set_cons_zero, List.set_cons_succ, List.length_cons, List.length_nil, List.drop_succ_cons, List.drop_zero, List.take_succ_cons, List.take_zero, List.reverse_cons, List.reverse_nil, List.nil_append, List.cons_append, Option.toList_some, Option.toList_none, true_and, and_true, true_or, or_true, Nat.reduceAdd, Nat.reduceLT, Nat.reduceLeDiff, Option.some.injEq, exists_eq_left', Int.toNat_natCast, Nat.reduceSub, List.append_nil, List.replicate_succ, List.replicate_zero, mm_in, w0', w1', w2', t1, eK, T_X12_surfaceAt]
          refine ⟨⟨by omega, by omega⟩, fun _ => ⟨by omega, by omega, fun _ => ⟨⟨by omega, by omega⟩, fun _ => ?_⟩, fun h' => by omega⟩⟩
          have gB : ∀ i', K' 339 i' = wTak (J' 339) t' i' := by
            intro i'
            rw [kB']
            unfold wTak
            rw [hmJ]
            by_cases c' : i' = 1
            · rw [if_pos c', if_pos c']
            · rw [if_neg c', if_neg c']
              by_cases c' : 26 + 21 * t' ≤ i' ∧ i' < k'
              · rw [if_pos c', if_pos (by omega)]
              · rw [if_neg c', if_neg (by omega)]
          refine hP K' (fun b' hb' => by rw [kA' b' (by omega), fA b' (by omega) (by omega)]) (mdone hJ (okS_rec ok) kA' gB (fun i' hi' => ?_) (mW_tak hWJ gB))
          unfold wTak
          rw [hmJ, if_neg (by omega), if_neg (by omega)]
        | succ d' ih =>
          intro k' K' hd' hk kA' kB'
          have eK : K' 339 1 = (m' : Int) - 1 := by rw [kB', if_pos rfl]
          have e3' : ((k' : Int) + 21).toNat = k' + 21 := by omega
          have eJ : K' 339 (k' + 21) = J' 339 (k' + 21) := by rw [kB', if_neg (by omega), if_neg (by omega)]
          have := ih (k' + 1) (mm_set K' 339 k' (J' 339 (k' + 21))) (by omega) (by omega) (fun b' hb' => by rw [mset_ne hb']; exact kA' b' hb') (fun i' => ?_)
          · rw [Int.natCast_add] at this
            refine c30 _ _ _ ?_
            simp only [b_X12_take_30, i_xorg, i_shl, i_shr, i_ior, i_and1, i_lcg1, i_lcg2, i_ld, i_la, i_st, i_sa, i_c, i_inc, i_add, i_sub, i_mul, i_div, i_rem, i_remT, i_xor, i_dup, i_dup2, i_if, i_if2, i_sw, i_gi, i_gr, i_pi, i_pz, i_ial, i_ias, i_len, i_aal, i_gs, i_tal, i_cv, i_cs, i_ir, i_zr, i_vr, i_min, i_max, i_cpy, List.getElem?_cons_zero, List.getElem?_cons_succ, List.set_cons_zero, List.set_cons_succ, List.length_cons, List.length_nil, List.drop_succ_cons, List.drop_zero, List.take_succ_cons, List.take_zero, List.reverse_cons, List.reverse_nil, List.nil_append, List.cons_append, Option.toList_some, Option.toList_none, true_and, and_true, true_or, or_true, Nat.reduceAdd, Nat.reduceLT, Nat.reduceLeDiff, Option.some.injEq, exists_eq_left', Int.toNat_natCast, Nat.reduceSub, List.append_nil, List.replicate_succ, List.replicate_zero, mm_in, w0', w1', w2', t1, eK, e3', eJ, T_X12_surfaceAt]
            refine ⟨⟨by omega, by omega⟩, fun _ => ⟨by omega, by omega, fun h' => by omega, fun h' => ⟨⟨by omega, by omega⟩, ⟨by omega, by omega⟩, fun _ => ⟨⟨by omega, by omega⟩, ⟨by omega, by omega⟩, this⟩⟩⟩⟩
          · rw [mset_i, kB']
            by_cases c' : i' = k'
            · rw [if_pos c', if_neg (by omega), if_pos (by omega), c']
            · rw [if_neg c']
              by_cases c2' : i' = 1
              · rw [if_pos c2', if_pos c2']
              · rw [if_neg c2', if_neg c2']
                by_cases c' : 26 + 21 * t' ≤ i' ∧ i' < k'
                · rw [if_pos c', if_pos (by omega)]
                · rw [if_neg c', if_neg (by omega)]
      simp only [mm_in, w0', w1', w2', t1, hmJ, T_X12_surfaceAt, i_xorg, i_shl, i_shr, i_ior, i_and1, i_lcg1, i_lcg2, i_ld, i_la, i_st, i_sa, i_c, i_inc, i_add, i_sub, i_mul, i_div, i_rem, i_remT, i_xor, i_dup, i_dup2, i_if, i_if2, i_sw, i_gi, i_gr, i_pi, i_pz, i_ial, i_ias, i_len, i_aal, i_gs, i_tal, i_cv, i_cs, i_ir, i_zr, i_vr, i_min, i_max, i_cpy, List.getElem?_cons_zero, List.getElem?_cons_succ, List.set_cons_zero, List.set_cons_succ, List.length_cons, List.length_nil, List.drop_succ_cons, List.drop_zero, List.take_succ_cons, List.take_zero, List.reverse_cons, List.reverse_nil, List.nil_append, List.cons_append, Option.toList_some, Option.toList_none, true_and, and_true, true_or, or_true, Nat.reduceAdd, Nat.reduceLT, Nat.reduceLeDiff, Option.some.injEq, exists_eq_left', Int.toNat_natCast, Nat.reduceSub, List.append_nil, List.replicate_succ, List.replicate_zero]
      refine ⟨⟨by omega, by omega⟩, fun _ => ⟨⟨by omega, by omega⟩, ⟨by omega, by omega⟩, by omega, by omega, ?_⟩⟩
      have := loop' (21 * (m' - 1 - t')) (26 + 21 * t') (mm_set J' 339 1 ((m' : Int) - 1)) (by omega) (by omega) (fun b' hb' => mset_ne hb') (fun i' => by rw [mset_i, if_neg (by omega : ¬ (26 + 21 * t' ≤ i' ∧ i' < 26 + 21 * t'))])
      rw [Int.natCast_add, Int.natCast_mul] at this
      exact this
    · rw [if_pos (bz_f hA (by omega))] at eF
      simp only [eF] at hP
      exact hP I (loF_rf I) hS'
  · exact hT.elim
theorem sp_X12_take : mm_Sp yX12_take cX12_take 3 (some .int) rm_X12_take T_X12_take := mm_meth (by decide) (by
  intro av σ Post h
  unfold T_X12_take at h
  split at h
  · simp
  · exact h.elim) (fun p l e s m args below meth c G av σ Post hC hr _ hav hin hk hT => pv_X12_take av σ Post hav hin hk hT _ (bk_X12_take hC hr))
