/-! the other program: undo, write, tear, seed, keep, goBack
-/
def T_X12_undo : mm_T := fun av σ Post => match av with
  | [.inr (some a), .inl k'] => mT (fun S' => undF S' k') a σ Post
  | _ => False
def rm_X12_undo : Room := { frames := 1, cells := 0, slots := 0, locals := 23 }
def b_X12_undo_0 (Ok : Nat → mm_K) (Post : Option mm_V → mm_S → Prop) (kf : Nat) : mm_K := i_ld 1 (i_c 1 (i_c 16 (i_cs 3 T_X12_in (i_if (fun x => ¬ x = 0) (i_ld 1 (i_la 0 (i_gi 11 1 (i_if2 (fun x y => x ≤ y) (i_la 0 (i_dup (i_gi 11 1 (i_ld 1 (i_sub (i_pi 11 1 (i_la 0 (i_c 152 (i_la 0 (i_gi 11 1 (i_c 1 (i_add (i_mul (i_c 0 (i_cv 11 2 T_X12_copyRow (i_la 0 (i_gr 11 0 (i_c 1 (i_ial (i_ir Post kf)))))))))))))))))))) (i_c (-1000000003) (i_ir Post kf)))))) (i_c (-1000000002) (i_ir Post kf))))))
def clo_X12_undo (Ok : Nat → mm_K) (Post : Option mm_V → mm_S → Prop) (kf : Nat) : Prop := mm_imp (b_X12_undo_0 Ok Post kf) (Ok 0)
set_option maxRecDepth 100000 in
set_option maxHeartbeats 4000000 in
theorem bk_X12_undo {p : Program} {l : Launch} {e : Env} {s : State} {m : MethodId} {args : Array Value} {below : List Frame} {meth : Method} {c : Code} {G : mm_G} {σ0 : mm_S} {Post : Option mm_V → mm_S → Prop} (hC : mm_C p G s m args meth c cX12_undo yX12_undo.cls) (hr : meth.sig.returnType = some .int) : clo_X12_undo (mm_O p l e rm_X12_undo s m args below meth c G σ0.2.2 (MQ below (mm_Qc G σ0 rm_X12_undo.cells rm_X12_undo.slots Post) args s rm_X12_undo.cells rm_X12_undo.slots (mm_A G))) Post σ0.2.2 := (by unfold clo_X12_undo b_X12_undo_0; exact (mm_ld_n hC dX12_undo_0 rfl (mm_ic hC dX12_undo_1 ⟨by decide, by decide⟩ (mm_bp hC dX12_undo_2 ⟨⟨by decide, by decide⟩, by decide⟩ (mm_cs hC sp_X12_in ⟨rfl, rfl⟩ wd_979 wd_980 wd_981 wd_77 ⟨by decide, by decide, by decide +kernel⟩ ⟨by decide, by decide⟩ dX12_undo_4 (mm_if_ne hC (t := 13) dX12_undo_7 (by decide) (mm_ld_n hC dX12_undo_13 rfl (mm_la_n hC dX12_undo_14 rfl (mm_gi hC cl_11 (by decide) rfl wd_790 dX12_undo_15 (mm_ic_le hC (t := 24) dX12_undo_18 (by decide) (mm_la_n hC dX12_undo_24 rfl (mm_dup hC dX12_undo_25 (mm_gi hC cl_11 (by decide) rfl wd_790 dX12_undo_26 (mm_ld_n hC dX12_undo_29 rfl (mm_sub hC dX12_undo_30 (mm_pi hC cl_11 (by decide) rfl rfl rfl wd_790 dX12_undo_31 (mm_la_n hC dX12_undo_34 rfl (mm_sp hC dX12_undo_35 ⟨⟨by decide, by decide⟩, by decide⟩ (mm_la_n hC dX12_undo_38 rfl (mm_gi hC cl_11 (by decide) rfl wd_790 dX12_undo_39 (mm_ic hC dX12_undo_42 ⟨by decide, by decide⟩ (mm_add hC dX12_undo_43 (mm_mul hC dX12_undo_44 (mm_ic hC dX12_undo_45 ⟨by decide, by decide⟩ (mm_cv hC sp_X12_copyRow ⟨rfl, rfl⟩ cl_11 wd_1055 wd_1057 wd_58 wd_1058 wd_77 ⟨by decide, by decide, by decide +kernel⟩ ⟨by decide, by decide⟩ dX12_undo_46 (mm_la_n hC dX12_undo_49 rfl (mm_gr hC cl_11 (by decide) rfl wd_789 dX12_undo_50 (mm_ic hC dX12_undo_53 ⟨by decide, by decide⟩ (mm_ial hC dX12_undo_54 (mm_ir hC ⟨rfl, rfl⟩ hr dX12_undo_55)))))))))))))))))))) (mm_ldc hC dX12_undo_21 ⟨by decide, by decide⟩ wd_1067 (mm_ir hC ⟨rfl, rfl⟩ hr dX12_undo_23)))))) (mm_ldc hC dX12_undo_10 ⟨by decide, by decide⟩ wd_994 (mm_ir hC ⟨rfl, rfl⟩ hr dX12_undo_12))))))))
set_option maxRecDepth 100000 in
set_option maxHeartbeats 8000000 in
theorem pv_X12_undo : ∀ (av : List mm_V) (σ : mm_S) (Post : Option mm_V → mm_S → Prop), (∀ v ∈ av, mm_iv v) → (∀ a j, mm_in (σ.1 a j)) → σ.2.2 ≤ 348 → T_X12_undo av σ Post → ∀ Ok : Nat → mm_K, clo_X12_undo Ok Post σ.2.2 → Ok 0 (av ++ List.replicate (2 - av.length) (.inr none)) [] σ := by
  intro av σ Post hav hin hk hT Ok hcl
  obtain ⟨I, R0⟩ := σ
  unfold T_X12_undo at hT
  split at hT
  · rename_i a k'
    obtain ⟨h0, hT⟩ := hT
    have h0 : R0 = mm_R0 := h0
    subst h0
    dsimp only at hT hin
    have c0 := hcl
    unfold clo_X12_undo at c0
    obtain ⟨rfl, S', hS', ok, hP⟩ := hT
    have w0' := m0
    have w1' := m1
    have w2' := m2
    obtain ⟨aA, aB, aC, aD, aE, aF, aG, aH, aI⟩ := id hS'
    obtain ⟨okA, okB, okC, okD, okE, okF, okG⟩ := id ok
    have eF : undF S' k' = if ¬ (1 ≤ k' ∧ k' ≤ 16) then (S', -1000000002) else if S' 19 0 < k' then (S', -1000000003) else (upM (upW S' (S' (1 + (S' 19 0 - k').toNat))) 0 (S' 19 0 - k'), S' (1 + (S' 19 0 - k').toNat) 1) := rfl
    refine c0 _ _ _ ?_
    simp only [b_X12_undo_0, i_xorg, i_shl, i_shr, i_ior, i_and1, i_lcg1, i_lcg2, i_ld, i_la, i_st, i_sa, i_c, i_inc, i_add, i_sub, i_mul, i_div, i_rem, i_remT, i_xor, i_dup, i_dup2, i_if, i_if2, i_sw, i_gi, i_gr, i_pi, i_pz, i_ial, i_ias, i_len, i_aal, i_gs, i_tal, i_cv, i_cs, i_ir, i_zr, i_vr, i_min, i_max, i_cpy, List.getElem?_cons_zero, List.getElem?_cons_succ, List.set_cons_zero, List.set_cons_succ, List.length_cons, List.length_nil, List.drop_succ_cons, List.drop_zero, List.take_succ_cons, List.take_zero, List.reverse_cons, List.reverse_nil, List.nil_append, List.cons_append, Option.toList_some, Option.toList_none, true_and, and_true, true_or, or_true, Nat.reduceAdd, Nat.reduceLT, Nat.reduceLeDiff, Option.some.injEq, exists_eq_left', Int.toNat_natCast, Nat.reduceSub, List.append_nil, List.replicate_succ, List.replicate_zero, mm_in, w0', aB, T_X12_in]
    refine fun z' hz => ⟨fun y' => fun _ => ⟨fun yA => ?_, fun yA => ?_⟩, fun y' => ?_⟩
    · have hk := bz_t hz y'
      rw [if_neg (fun w' => w' hk), if_neg (by omega)] at eF
      obtain ⟨t', ht⟩ := Int.eq_ofNat_of_zero_le (show 0 ≤ S' 19 0 - k' by omega)
      rw [ht, Int.toNat_natCast] at eF
      simp only [eF] at hP
      rw [ht]
      have hWt := aC t' (by omega)
      have okt := okB t' (by omega)
      simp only [mm_in, w0', mset_eq, T_X12_copyRow, i_xorg, i_shl, i_shr, i_ior, i_and1, i_lcg1, i_lcg2, i_ld, i_la, i_st, i_sa, i_c, i_inc, i_add, i_sub, i_mul, i_div, i_rem, i_remT, i_xor, i_dup, i_dup2, i_if, i_if2, i_sw, i_gi, i_gr, i_pi, i_pz, i_ial, i_ias, i_len, i_aal, i_gs, i_tal, i_cv, i_cs, i_ir, i_zr, i_vr, i_min, i_max, i_cpy, List.getElem?_cons_zero, List.getElem?_cons_succ, List.set_cons_zero, List.set_cons_succ, List.length_cons, List.length_nil, List.drop_succ_cons, List.drop_zero, List.take_succ_cons, List.take_zero, List.reverse_cons, List.reverse_nil, List.nil_append, List.cons_append, Option.toList_some, Option.toList_none, true_and, and_true, true_or, or_true, Nat.reduceAdd, Nat.reduceLT, Nat.reduceLeDiff, Option.some.injEq, exists_eq_left', Int.toNat_natCast, Nat.reduceSub, List.append_nil, List.replicate_succ, List.replicate_zero]
      refine fun _ => ⟨⟨by omega, by omega⟩, fun _ => ⟨⟨by omega, by omega⟩, ⟨by omega, by omega⟩, 152 * (t' + 1), 0, by omega, by omega, by omega, by omega, by omega, fun K' gA gB gC => ?_⟩⟩
      have hZ : mm_set I 338 1 (t' : Int) 339 = I 339 := mset_ne (by omega)
      rw [hZ] at gB gC
      have hW : mW K' 0 (S' (1 + t')) := mW_mv hWt (okW_m okt) (fun k' hk => by rw [gC k' hk])
      have g338 : ∀ j', j' ≠ 1 → K' 338 j' = I 338 j' := fun j' hj => by rw [gA 338 (by omega), mset_n2 hj]
      have gO : ∀ b', b' ≠ 338 → b' ≠ 339 → K' b' = I b' := fun b' hb' hc' => by rw [gA b' hc', mset_ne hb']
      simp only [mm_in, w0', w1', w2', t1, i_xorg, i_shl, i_shr, i_ior, i_and1, i_lcg1, i_lcg2, i_ld, i_la, i_st, i_sa, i_c, i_inc, i_add, i_sub, i_mul, i_div, i_rem, i_remT, i_xor, i_dup, i_dup2, i_if, i_if2, i_sw, i_gi, i_gr, i_pi, i_pz, i_ial, i_ias, i_len, i_aal, i_gs, i_tal, i_cv, i_cs, i_ir, i_zr, i_vr, i_min, i_max, i_cpy, List.getElem?_cons_zero, List.getElem?_cons_succ, List.set_cons_zero, List.set_cons_succ, List.length_cons, List.length_nil, List.drop_succ_cons, List.drop_zero, List.take_succ_cons, List.take_zero, List.reverse_cons, List.reverse_nil, List.nil_append, List.cons_append, Option.toList_some, Option.toList_none, true_and, and_true, true_or, or_true, Nat.reduceAdd, Nat.reduceLT, Nat.reduceLeDiff, Option.some.injEq, exists_eq_left', Int.toNat_natCast, Nat.reduceSub, List.append_nil, List.replicate_succ, List.replicate_zero]
      refine ⟨⟨by omega, by omega⟩, fun _ => ?_⟩
      rw [(mW_0 hW).2.1]
      refine hP K' (fun b' hb' => gO b' (by omega) (by omega)) ⟨?_, ?_, fun t' ht' => ?_, ?_, ?_, fun i' hi' hk => ?_, ?_, fun i' hi' => ?_, ?_⟩
      · rw [upM_o _ _ _ (by omega), upW_0]
        exact hW
      · rw [upM_y, gA 338 (by omega), mset_eq]
      · rw [upM_y] at ht'
        rw [upM_o _ _ _ (by omega), upW_o _ _ (by omega)]
        exact mW_mv (aC t' (by omega)) (okW_m (okB t' (by omega))) (fun k' hk => gB _ (by omega))
      · rw [upM_n _ _ _ (by omega), upW_o _ _ (by omega), g338 3 (by omega)]
        exact aD
      · rw [upM_n _ _ _ (by omega), upM_n _ _ _ (by omega), upW_o _ _ (by omega), g338 2 (by omega)]
        exact aE
      · rw [upM_n _ _ _ (by omega), upW_o _ _ (by omega)] at hk
        rw [upM_n _ _ _ (by omega), upM_o _ _ _ (by omega), upW_o _ _ (by omega), upW_o _ _ (by omega), gO 340 (by omega) (by omega)]
        exact ⟨(aF i' hi' hk).1, mW_mv (aF i' hi' hk).2 (okW_m ((okE i' hi').2 hk).2) (fun k' hk => gB _ (by omega))⟩
      · rw [upM_n _ _ _ (by omega), upW_o _ _ (by omega), g338 7 (by omega)]
        exact aG
      · rw [upM_n _ _ _ (by omega), upW_o _ _ (by omega)] at hi'
        rw [upM_o _ _ _ (by omega), upM_o _ _ _ (by omega), upW_o _ _ (by omega), upW_o _ _ (by omega), gO 341 (by omega) (by omega), gO 342 (by omega) (by omega)]
        exact aH i' hi'
      · intro i' hi'
        have := aI i' hi'
        unfold MN at this ⊢
        rw [gB _ (by omega)]
        exact this
    · have hk := bz_t hz y'
      rw [if_neg (fun w' => w' hk), if_pos (by omega)] at eF
      simp only [eF] at hP
      exact hP I (loF_rf I) hS'
    · rw [if_pos (bz_f hz (by omega))] at eF
      simp only [eF] at hP
      exact hP I (loF_rf I) hS'
  · exact hT.elim
theorem sp_X12_undo : mm_Sp yX12_undo cX12_undo 2 (some .int) rm_X12_undo T_X12_undo := mm_meth (by decide) (by
  intro av σ Post h
  unfold T_X12_undo at h
  split at h
  · simp
  · exact h.elim) (fun p l e s m args below meth c G av σ Post hC hr _ hav hin hk hT => pv_X12_undo av σ Post hav hin hk hT _ (bk_X12_undo hC hr))
def T_X12_write : mm_T := fun av σ Post => match av with
  | [.inr (some a), .inl s, .inl v] => mT (fun S' => wriF S' s v) a σ Post
  | _ => False
def rm_X12_write : Room := { frames := 2, cells := 0, slots := 0, locals := 43 }
def b_X12_write_0 (Ok : Nat → mm_K) (Post : Option mm_V → mm_S → Prop) (kf : Nat) : mm_K := i_la 0 (i_ld 1 (i_cv 11 1 T_X12_isSurface (i_if (fun x => ¬ x = 0) (i_la 0 (i_gi 11 7 (i_c 20 (i_if2 (fun x y => ¬ x = y) (i_la 0 (i_gr 11 5 (i_la 0 (i_gi 11 7 (i_ld 1 (i_ias (i_la 0 (i_gr 11 6 (i_la 0 (i_gi 11 7 (i_ld 2 (i_ias (i_la 0 (i_dup (i_gi 11 7 (i_c 1 (i_add (i_pi 11 7 (i_la 0 (i_gi 11 7 (i_ir Post kf))))))))))))))))))))) (i_c (-1000000004) (i_ir Post kf)))))) (i_c (-1000000001) (i_ir Post kf)))))
def clo_X12_write (Ok : Nat → mm_K) (Post : Option mm_V → mm_S → Prop) (kf : Nat) : Prop := mm_imp (b_X12_write_0 Ok Post kf) (Ok 0)
set_option maxRecDepth 100000 in
set_option maxHeartbeats 4000000 in
theorem bk_X12_write {p : Program} {l : Launch} {e : Env} {s : State} {m : MethodId} {args : Array Value} {below : List Frame} {meth : Method} {c : Code} {G : mm_G} {σ0 : mm_S} {Post : Option mm_V → mm_S → Prop} (hC : mm_C p G s m args meth c cX12_write yX12_write.cls) (hr : meth.sig.returnType = some .int) : clo_X12_write (mm_O p l e rm_X12_write s m args below meth c G σ0.2.2 (MQ below (mm_Qc G σ0 rm_X12_write.cells rm_X12_write.slots Post) args s rm_X12_write.cells rm_X12_write.slots (mm_A G))) Post σ0.2.2 := (by unfold clo_X12_write b_X12_write_0; exact (mm_la_n hC dX12_write_0 rfl (mm_ld_n hC dX12_write_1 rfl (mm_cv hC sp_X12_isSurface ⟨rfl, rfl⟩ cl_11 wd_975 wd_977 wd_48 wd_978 wd_77 ⟨by decide, by decide, by decide +kernel⟩ ⟨by decide, by decide⟩ dX12_write_2 (mm_if_ne hC (t := 11) dX12_write_5 (by decide) (mm_la_n hC dX12_write_11 rfl (mm_gi hC cl_11 (by decide) rfl wd_796 dX12_write_12 (mm_bp hC dX12_write_15 ⟨⟨by decide, by decide⟩, by decide⟩ (mm_ic_ne hC (t := 23) dX12_write_17 (by decide) (mm_la_n hC dX12_write_23 rfl (mm_gr hC cl_11 (by decide) rfl wd_794 dX12_write_24 (mm_la_n hC dX12_write_27 rfl (mm_gi hC cl_11 (by decide) rfl wd_796 dX12_write_28 (mm_ld_n hC dX12_write_31 rfl (mm_ias hC dX12_write_32 (mm_la_n hC dX12_write_33 rfl (mm_gr hC cl_11 (by decide) rfl wd_795 dX12_write_34 (mm_la_n hC dX12_write_37 rfl (mm_gi hC cl_11 (by decide) rfl wd_796 dX12_write_38 (mm_ld_n hC dX12_write_41 rfl (mm_ias hC dX12_write_42 (mm_la_n hC dX12_write_43 rfl (mm_dup hC dX12_write_44 (mm_gi hC cl_11 (by decide) rfl wd_796 dX12_write_45 (mm_ic hC dX12_write_48 ⟨by decide, by decide⟩ (mm_add hC dX12_write_49 (mm_pi hC cl_11 (by decide) rfl rfl rfl wd_796 dX12_write_50 (mm_la_n hC dX12_write_53 rfl (mm_gi hC cl_11 (by decide) rfl wd_796 dX12_write_54 (mm_ir hC ⟨rfl, rfl⟩ hr dX12_write_57))))))))))))))))))))) (mm_ldc hC dX12_write_20 ⟨by decide, by decide⟩ wd_1083 (mm_ir hC ⟨rfl, rfl⟩ hr dX12_write_22)))))) (mm_ldc hC dX12_write_8 ⟨by decide, by decide⟩ wd_1006 (mm_ir hC ⟨rfl, rfl⟩ hr dX12_write_10)))))))
set_option maxRecDepth 100000 in
set_option maxHeartbeats 8000000 in
theorem pv_X12_write : ∀ (av : List mm_V) (σ : mm_S) (Post : Option mm_V → mm_S → Prop), (∀ v ∈ av, mm_iv v) → (∀ a j, mm_in (σ.1 a j)) → σ.2.2 ≤ 348 → T_X12_write av σ Post → ∀ Ok : Nat → mm_K, clo_X12_write Ok Post σ.2.2 → Ok 0 (av ++ List.replicate (3 - av.length) (.inr none)) [] σ := by
  intro av σ Post hav hin hk hT Ok hcl
  obtain ⟨I, R0⟩ := σ
  unfold T_X12_write at hT
  split at hT
  · rename_i a s v
    obtain ⟨h0, hT⟩ := hT
    have h0 : R0 = mm_R0 := h0
    subst h0
    dsimp only at hT hin
    have c0 := hcl
    unfold clo_X12_write at c0
    obtain ⟨rfl, S', hS', ok, hP⟩ := hT
    have w0' := m0
    have rA := Rs_338.2.2.1
    have rB' := Rs_338.2.2.2.1
    have sA := sh_338.2.2.2.1
    have sB := sh_338.2.2.2.2.1
    obtain ⟨aA, aB, aC, aD, aE, aF, aG, aH, aI⟩ := id hS'
    obtain ⟨okA, okB, okC, okD, okE, okF, okG⟩ := id ok
    have hm' : I 339 1 = S' 0 1 := (mW_0 aA).2.1
    obtain ⟨nn, m, oA, oB, oC, oD', oE, oF⟩ := id okA
    have eF : wriF S' s v = if ¬ (0 ≤ s ∧ s < S' 0 1) then (S', -1000000001) else if 20 ≤ S' 19 6 then (S', -1000000004) else (wriS S' s v, S' 19 6 + 1) := rfl
    obtain ⟨c', hc'⟩ := Int.eq_ofNat_of_zero_le okF.1
    rw [hc'] at aG eF
    have gx1 : ∀ (J' : Nat → Nat → Int) (j' : Nat) (y' : Int) (i' : Nat), mm_set J' 341 j' y' 338 i' = J' 338 i' := fun J' j' y' i' => by rw [mset_ne (by omega)]
    have gx2 : ∀ (J' : Nat → Nat → Int) (j' : Nat) (y' : Int) (i' : Nat), mm_set J' 342 j' y' 338 i' = J' 338 i' := fun J' j' y' i' => by rw [mset_ne (by omega)]
    refine c0 _ _ _ ?_
    simp only [b_X12_write_0, i_xorg, i_shl, i_shr, i_ior, i_and1, i_lcg1, i_lcg2, i_ld, i_la, i_st, i_sa, i_c, i_inc, i_add, i_sub, i_mul, i_div, i_rem, i_remT, i_xor, i_dup, i_dup2, i_if, i_if2, i_sw, i_gi, i_gr, i_pi, i_pz, i_ial, i_ias, i_len, i_aal, i_gs, i_tal, i_cv, i_cs, i_ir, i_zr, i_vr, i_min, i_max, i_cpy, List.getElem?_cons_zero, List.getElem?_cons_succ, List.set_cons_zero, List.set_cons_succ, List.length_cons, List.length_nil, List.drop_succ_cons, List.drop_zero, List.take_succ_cons, List.take_zero, List.reverse_cons, List.reverse_nil, List.nil_append, List.cons_append, Option.toList_some, Option.toList_none, true_and, and_true, true_or, or_true, Nat.reduceAdd, Nat.reduceLT, Nat.reduceLeDiff, Option.some.injEq, exists_eq_left', Int.toNat_natCast, Nat.reduceSub, List.append_nil, List.replicate_succ, List.replicate_zero, mm_in, w0', hm', aG, rA, rB', sA, sB, T_X12_isSurface, gx1, gx2, mset_eq]
    refine ⟨by omega, fun z' hz => ⟨fun y' => fun _ => ⟨fun yA => ?_, fun yA => ?_⟩, fun y' => ?_⟩⟩
    · have hs := bz_t hz y'
      rw [if_neg (fun w' => w' hs), if_neg (by omega)] at eF
      simp only [eF] at hP
      refine fun _ => ⟨⟨by omega, by omega⟩, fun _ => ⟨⟨by omega, by omega⟩, fun _ => ⟨⟨by omega, by omega⟩, fun _ => ?_⟩⟩⟩
      obtain ⟨K', hK'⟩ : ∃ K', mm_set (mm_set (mm_set I 341 c' s) 342 c' v) 338 7 ((c' : Int) + 1) = K' := ⟨_, rfl⟩
      rw [hK']
      have g338 : ∀ j', j' ≠ 7 → K' 338 j' = I 338 j' := fun j' hj => by rw [← hK', mset_n2 hj, mset_ne (by omega), mset_ne (by omega)]
      have g7 : K' 338 7 = (c' : Int) + 1 := by rw [← hK', mset_eq]
      have gO : ∀ b', b' ≠ 338 → b' ≠ 341 → b' ≠ 342 → K' b' = I b' := fun b' h1 h2 h3 => by rw [← hK', mset_ne h1, mset_ne h3, mset_ne h2]
      have g341 : ∀ i', K' 341 i' = if i' = c' then s else I 341 i' := fun i' => by rw [← hK', mset_ne (by omega), mset_ne (by omega), mset_i]
      have g342 : ∀ i', K' 342 i' = if i' = c' then v else I 342 i' := fun i' => by rw [← hK', mset_ne (by omega), mset_i, mset_ne (by omega)]
      have hZ := gO 339 (by omega) (by omega) (by omega)
      refine hP K' (fun b' hb' => gO b' (by omega) (by omega) (by omega)) ⟨?_, ?_, fun t' ht => ?_, ?_, ?_, fun i' hi' hk => ?_, ?_, fun i' hi' => ?_, ?_⟩
      · rw [wriS_o S' s v (by omega)]
        exact mW_mv aA (okW_m okA) (fun k' _ => by rw [hZ])
      · rw [wriS_n S' s v (by omega), g338 1 (by omega)]
        exact aB
      · rw [wriS_n S' s v (by omega)] at ht
        rw [wriS_o S' s v (by omega)]
        exact mW_mv (aC t' ht) (okW_m (okB t' ht)) (fun k' _ => by rw [hZ])
      · rw [wriS_n S' s v (by omega), g338 3 (by omega)]
        exact aD
      · rw [wriS_n S' s v (by omega), wriS_n S' s v (by omega), g338 2 (by omega)]
        exact aE
      · rw [wriS_n S' s v (by omega)] at hk
        rw [wriS_n S' s v (by omega), wriS_o S' s v (by omega), gO 340 (by omega) (by omega) (by omega)]
        exact ⟨(aF i' hi' hk).1, mW_mv (aF i' hi' hk).2 (okW_m ((okE i' hi').2 hk).2) (fun k' _ => by rw [hZ])⟩
      · rw [wriS_6, g7, hc']
      · rw [wriS_6, hc'] at hi'
        rw [wriS_20, wriS_21, g341, g342, hc', Int.toNat_natCast]
        by_cases h' : i' = c'
        · rw [if_pos h', if_pos h', if_pos h', if_pos h']
          exact ⟨rfl, rfl⟩
        · rw [if_neg h', if_neg h', if_neg h', if_neg h']
          exact aH i' (by omega)
      · unfold MN at aI ⊢
        rw [hZ]
        exact aI
    · have hs := bz_t hz y'
      rw [if_neg (fun w' => w' hs), if_pos (by omega)] at eF
      simp only [eF] at hP
      exact hP I (loF_rf I) hS'
    · rw [if_pos (bz_f hz (by omega))] at eF
      simp only [eF] at hP
      exact hP I (loF_rf I) hS'
  · exact hT.elim
theorem sp_X12_write : mm_Sp yX12_write cX12_write 3 (some .int) rm_X12_write T_X12_write := mm_meth (by decide) (by
  intro av σ Post h
  unfold T_X12_write at h
  split at h
  · simp
  · exact h.elim) (fun p l e s m args below meth c G av σ Post hC hr _ hav hin hk hT => pv_X12_write av σ Post hav hin hk hT _ (bk_X12_write hC hr))
def T_X12_tear : mm_T := fun av σ Post => match av with
  | [.inr (some a)] => mT teaF a σ Post
  | _ => False
def rm_X12_tear : Room := { frames := 0, cells := 0, slots := 0, locals := 0 }
def b_X12_tear_0 (Ok : Nat → mm_K) (Post : Option mm_V → mm_S → Prop) (kf : Nat) : mm_K := i_la 0 (i_gi 11 7 (i_st 1 (i_la 0 (i_c 0 (i_pi 11 7 (i_ld 1 (i_ir Post kf)))))))
def clo_X12_tear (Ok : Nat → mm_K) (Post : Option mm_V → mm_S → Prop) (kf : Nat) : Prop := mm_imp (b_X12_tear_0 Ok Post kf) (Ok 0)
set_option maxRecDepth 100000 in
set_option maxHeartbeats 4000000 in
theorem bk_X12_tear {p : Program} {l : Launch} {e : Env} {s : State} {m : MethodId} {args : Array Value} {below : List Frame} {meth : Method} {c : Code} {G : mm_G} {σ0 : mm_S} {Post : Option mm_V → mm_S → Prop} (hC : mm_C p G s m args meth c cX12_tear yX12_tear.cls) (hr : meth.sig.returnType = some .int) : clo_X12_tear (mm_O p l e rm_X12_tear s m args below meth c G σ0.2.2 (MQ below (mm_Qc G σ0 rm_X12_tear.cells rm_X12_tear.slots Post) args s rm_X12_tear.cells rm_X12_tear.slots (mm_A G))) Post σ0.2.2 := (by unfold clo_X12_tear b_X12_tear_0; exact (mm_la_n hC dX12_tear_0 rfl (mm_gi hC cl_11 (by decide) rfl wd_796 dX12_tear_1 (mm_st_n hC dX12_tear_4 rfl (mm_la_n hC dX12_tear_5 rfl (mm_ic hC dX12_tear_6 ⟨by decide, by decide⟩ (mm_pi hC cl_11 (by decide) rfl rfl rfl wd_796 dX12_tear_7 (mm_ld_n hC dX12_tear_10 rfl (mm_ir hC ⟨rfl, rfl⟩ hr dX12_tear_11)))))))))
set_option maxRecDepth 100000 in
set_option maxHeartbeats 8000000 in
theorem pv_X12_tear : ∀ (av : List mm_V) (σ : mm_S) (Post : Option mm_V → mm_S → Prop), (∀ v ∈ av, mm_iv v) → (∀ a j, mm_in (σ.1 a j)) → σ.2.2 ≤ 348 → T_X12_tear av σ Post → ∀ Ok : Nat → mm_K, clo_X12_tear Ok Post σ.2.2 → Ok 0 (av ++ List.replicate (2 - av.length) (.inr none)) [] σ := by
  intro av σ Post hav hin hk hT Ok hcl
  obtain ⟨I, R0⟩ := σ
  unfold T_X12_tear at hT
  split at hT
  · rename_i a
    obtain ⟨h0, hT⟩ := hT
    have h0 : R0 = mm_R0 := h0
    subst h0
    dsimp only at hT hin
    have c0 := hcl
    unfold clo_X12_tear at c0
    obtain ⟨rfl, S', hS', ok, hP⟩ := hT
    have w0' := m0
    obtain ⟨aA, aB, aC, aD, aE, aF, aG, aH, aI⟩ := id hS'
    obtain ⟨okA, okB, okC, okD, okE, okF, okG⟩ := id ok
    have eF : teaF S' = (upM S' 6 0, S' 19 6) := rfl
    simp only [eF] at hP
    refine c0 _ _ _ ?_
    simp only [b_X12_tear_0, i_xorg, i_shl, i_shr, i_ior, i_and1, i_lcg1, i_lcg2, i_ld, i_la, i_st, i_sa, i_c, i_inc, i_add, i_sub, i_mul, i_div, i_rem, i_remT, i_xor, i_dup, i_dup2, i_if, i_if2, i_sw, i_gi, i_gr, i_pi, i_pz, i_ial, i_ias, i_len, i_aal, i_gs, i_tal, i_cv, i_cs, i_ir, i_zr, i_vr, i_min, i_max, i_cpy, List.getElem?_cons_zero, List.getElem?_cons_succ, List.set_cons_zero, List.set_cons_succ, List.length_cons, List.length_nil, List.drop_succ_cons, List.drop_zero, List.take_succ_cons, List.take_zero, List.reverse_cons, List.reverse_nil, List.nil_append, List.cons_append, Option.toList_some, Option.toList_none, true_and, and_true, true_or, or_true, Nat.reduceAdd, Nat.reduceLT, Nat.reduceLeDiff, Option.some.injEq, exists_eq_left', Int.toNat_natCast, Nat.reduceSub, List.append_nil, List.replicate_succ, List.replicate_zero, mm_in, w0', aG]
    intro _
    have hZ : mm_set I 338 7 0 339 = I 339 := mset_ne (by omega)
    refine hP _ (fun b' hb' => mset_ne (by omega)) ⟨?_, ?_, fun t' ht => ?_, ?_, ?_, fun i' hi' hk => ?_, ?_, fun i' hi' => ?_, ?_⟩
    · rw [upM_o _ _ _ (by omega)]
      exact mW_mv aA (okW_m okA) (fun k' _ => by rw [hZ])
    · rw [upM_n _ _ _ (by omega), mset_n2 (by omega)]
      exact aB
    · rw [upM_n _ _ _ (by omega)] at ht
      rw [upM_o _ _ _ (by omega)]
      exact mW_mv (aC t' ht) (okW_m (okB t' ht)) (fun k' _ => by rw [hZ])
    · rw [upM_n _ _ _ (by omega), mset_n2 (by omega)]
      exact aD
    · rw [upM_n _ _ _ (by omega), upM_n _ _ _ (by omega), mset_n2 (by omega)]
      exact aE
    · rw [upM_n _ _ _ (by omega)] at hk
      rw [upM_n _ _ _ (by omega), upM_o _ _ _ (by omega), mset_ne (by omega)]
      exact ⟨(aF i' hi' hk).1, mW_mv (aF i' hi' hk).2 (okW_m ((okE i' hi').2 hk).2) (fun k' _ => by rw [hZ])⟩
    · rw [upM_y, mset_eq]
    · rw [upM_y] at hi'
      omega
    · unfold MN at aI ⊢
      rw [hZ]
      exact aI
  · exact hT.elim
theorem sp_X12_tear : mm_Sp yX12_tear cX12_tear 2 (some .int) rm_X12_tear T_X12_tear := mm_meth (by decide) (by
  intro av σ Post h
  unfold T_X12_tear at h
  split at h
  · simp
  · exact h.elim) (fun p l e s m args below meth c G av σ Post hC hr _ hav hin hk hT => pv_X12_tear av σ Post hav hin hk hT _ (bk_X12_tear hC hr))
def T_X12_seed : mm_T := fun av σ Post => match av with
  | [.inr (some a), .inl v] => mT (fun S' => seeF S' v) a σ Post
  | _ => False
def rm_X12_seed : Room := { frames := 0, cells := 0, slots := 0, locals := 0 }
def b_X12_seed_0 (Ok : Nat → mm_K) (Post : Option mm_V → mm_S → Prop) (kf : Nat) : mm_K := i_ld 1 (i_if (fun x => 0 ≤ x) (i_la 0 (i_gi 11 3 (i_st 2 (i_la 0 (i_ld 1 (i_pi 11 3 (i_ld 2 (i_ir Post kf)))))))) (i_c (-1000000002) (i_ir Post kf)))
def clo_X12_seed (Ok : Nat → mm_K) (Post : Option mm_V → mm_S → Prop) (kf : Nat) : Prop := mm_imp (b_X12_seed_0 Ok Post kf) (Ok 0)
set_option maxRecDepth 100000 in
set_option maxHeartbeats 4000000 in
theorem bk_X12_seed {p : Program} {l : Launch} {e : Env} {s : State} {m : MethodId} {args : Array Value} {below : List Frame} {meth : Method} {c : Code} {G : mm_G} {σ0 : mm_S} {Post : Option mm_V → mm_S → Prop} (hC : mm_C p G s m args meth c cX12_seed yX12_seed.cls) (hr : meth.sig.returnType = some .int) : clo_X12_seed (mm_O p l e rm_X12_seed s m args below meth c G σ0.2.2 (MQ below (mm_Qc G σ0 rm_X12_seed.cells rm_X12_seed.slots Post) args s rm_X12_seed.cells rm_X12_seed.slots (mm_A G))) Post σ0.2.2 := (by unfold clo_X12_seed b_X12_seed_0; exact (mm_ld_n hC dX12_seed_0 rfl (mm_if_ge hC (t := 7) dX12_seed_1 (by decide) (mm_la_n hC dX12_seed_7 rfl (mm_gi hC cl_11 (by decide) rfl wd_792 dX12_seed_8 (mm_st_n hC dX12_seed_11 rfl (mm_la_n hC dX12_seed_12 rfl (mm_ld_n hC dX12_seed_13 rfl (mm_pi hC cl_11 (by decide) rfl rfl rfl wd_792 dX12_seed_14 (mm_ld_n hC dX12_seed_17 rfl (mm_ir hC ⟨rfl, rfl⟩ hr dX12_seed_18)))))))) (mm_ldc hC dX12_seed_4 ⟨by decide, by decide⟩ wd_994 (mm_ir hC ⟨rfl, rfl⟩ hr dX12_seed_6)))))
set_option maxRecDepth 100000 in
set_option maxHeartbeats 8000000 in
theorem pv_X12_seed : ∀ (av : List mm_V) (σ : mm_S) (Post : Option mm_V → mm_S → Prop), (∀ v ∈ av, mm_iv v) → (∀ a j, mm_in (σ.1 a j)) → σ.2.2 ≤ 348 → T_X12_seed av σ Post → ∀ Ok : Nat → mm_K, clo_X12_seed Ok Post σ.2.2 → Ok 0 (av ++ List.replicate (3 - av.length) (.inr none)) [] σ := by
  intro av σ Post hav hin hk hT Ok hcl
  obtain ⟨I, R0⟩ := σ
  unfold T_X12_seed at hT
  split at hT
  · rename_i a v
    obtain ⟨h0, hT⟩ := hT
    have h0 : R0 = mm_R0 := h0
    subst h0
    dsimp only at hT hin
    have c0 := hcl
    unfold clo_X12_seed at c0
    obtain ⟨rfl, S', hS', ok, hP⟩ := hT
    have w0' := m0
    have aD := hS'.2.2.2.1
    refine c0 _ _ _ ?_
    simp only [b_X12_seed_0, i_xorg, i_shl, i_shr, i_ior, i_and1, i_lcg1, i_lcg2, i_ld, i_la, i_st, i_sa, i_c, i_inc, i_add, i_sub, i_mul, i_div, i_rem, i_remT, i_xor, i_dup, i_dup2, i_if, i_if2, i_sw, i_gi, i_gr, i_pi, i_pz, i_ial, i_ias, i_len, i_aal, i_gs, i_tal, i_cv, i_cs, i_ir, i_zr, i_vr, i_min, i_max, i_cpy, List.getElem?_cons_zero, List.getElem?_cons_succ, List.set_cons_zero, List.set_cons_succ, List.length_cons, List.length_nil, List.drop_succ_cons, List.drop_zero, List.take_succ_cons, List.take_zero, List.reverse_cons, List.reverse_nil, List.nil_append, List.cons_append, Option.toList_some, Option.toList_none, true_and, and_true, true_or, or_true, Nat.reduceAdd, Nat.reduceLT, Nat.reduceLeDiff, Option.some.injEq, exists_eq_left', Int.toNat_natCast, Nat.reduceSub, List.append_nil, List.replicate_succ, List.replicate_zero, mm_in, w0', aD]
    refine ⟨fun h' => fun _ => ?_, fun h' => ?_⟩
    · have e' : seeF S' v = (upM S' 1 v, S' 19 1) := if_pos h'
      simp only [e'] at hP
      exact hP _ (fun b' hb' => mset_ne (by omega)) (mSt_m1 hS' ok)
    · have e' : seeF S' v = (S', -1000000002) := if_neg h'
      simp only [e'] at hP
      exact hP I (loF_rf I) hS'
  · exact hT.elim
theorem sp_X12_seed : mm_Sp yX12_seed cX12_seed 3 (some .int) rm_X12_seed T_X12_seed := mm_meth (by decide) (by
  intro av σ Post h
  unfold T_X12_seed at h
  split at h
  · simp
  · exact h.elim) (fun p l e s m args below meth c G av σ Post hC hr _ hav hin hk hT => pv_X12_seed av σ Post hav hin hk hT _ (bk_X12_seed hC hr))
def T_X12_keep : mm_T := fun av σ Post => match av with
  | [.inr (some a), .inl i'] => mT (fun S' => kepF S' i') a σ Post
  | _ => False
def rm_X12_keep : Room := { frames := 1, cells := 0, slots := 0, locals := 23 }
def b_X12_keep_0 (Ok : Nat → mm_K) (Post : Option mm_V → mm_S → Prop) (kf : Nat) : mm_K := i_ld 1 (i_c 0 (i_c 1 (i_cs 3 T_X12_in (i_if (fun x => ¬ x = 0) (i_la 0 (i_c 0 (i_c 2584 (i_c 152 (i_ld 1 (i_mul (i_add (i_cv 11 2 T_X12_copyRow (i_la 0 (i_gr 11 4 (i_ld 1 (i_la 0 (i_gi 11 3 (i_ias (i_la 0 (i_dup (i_gi 11 2 (i_c 1 (i_ld 1 (i_shl (i_ior (i_pi 11 2 (i_la 0 (i_c 0 (i_pi 11 1 (i_c 1 (i_ir Post kf))))))))))))))))))))))))))) (i_c (-1000000001) (i_ir Post kf))))))
def clo_X12_keep (Ok : Nat → mm_K) (Post : Option mm_V → mm_S → Prop) (kf : Nat) : Prop := mm_imp (b_X12_keep_0 Ok Post kf) (Ok 0)
set_option maxRecDepth 100000 in
set_option maxHeartbeats 4000000 in
theorem bk_X12_keep {p : Program} {l : Launch} {e : Env} {s : State} {m : MethodId} {args : Array Value} {below : List Frame} {meth : Method} {c : Code} {G : mm_G} {σ0 : mm_S} {Post : Option mm_V → mm_S → Prop} (hC : mm_C p G s m args meth c cX12_keep yX12_keep.cls) (hr : meth.sig.returnType = some .int) : clo_X12_keep (mm_O p l e rm_X12_keep s m args below meth c G σ0.2.2 (MQ below (mm_Qc G σ0 rm_X12_keep.cells rm_X12_keep.slots Post) args s rm_X12_keep.cells rm_X12_keep.slots (mm_A G))) Post σ0.2.2 := (by unfold clo_X12_keep b_X12_keep_0; exact (mm_ld_n hC dX12_keep_0 rfl (mm_ic hC dX12_keep_1 ⟨by decide, by decide⟩ (mm_ic hC dX12_keep_2 ⟨by decide, by decide⟩ (mm_cs hC sp_X12_in ⟨rfl, rfl⟩ wd_979 wd_980 wd_981 wd_77 ⟨by decide, by decide, by decide +kernel⟩ ⟨by decide, by decide⟩ dX12_keep_3 (mm_if_ne hC (t := 12) dX12_keep_6 (by decide) (mm_la_n hC dX12_keep_12 rfl (mm_ic hC dX12_keep_13 ⟨by decide, by decide⟩ (mm_sp hC dX12_keep_14 ⟨⟨by decide, by decide⟩, by decide⟩ (mm_sp hC dX12_keep_17 ⟨⟨by decide, by decide⟩, by decide⟩ (mm_ld_n hC dX12_keep_20 rfl (mm_mul hC dX12_keep_21 (mm_add hC dX12_keep_22 (mm_cv hC sp_X12_copyRow ⟨rfl, rfl⟩ cl_11 wd_1055 wd_1057 wd_58 wd_1058 wd_77 ⟨by decide, by decide, by decide +kernel⟩ ⟨by decide, by decide⟩ dX12_keep_23 (mm_la_n hC dX12_keep_26 rfl (mm_gr hC cl_11 (by decide) rfl wd_793 dX12_keep_27 (mm_ld_n hC dX12_keep_30 rfl (mm_la_n hC dX12_keep_31 rfl (mm_gi hC cl_11 (by decide) rfl wd_792 dX12_keep_32 (mm_ias hC dX12_keep_35 (mm_la_n hC dX12_keep_36 rfl (mm_dup hC dX12_keep_37 (mm_gi hC cl_11 (by decide) rfl wd_791 dX12_keep_38 (mm_ic hC dX12_keep_41 ⟨by decide, by decide⟩ (mm_ld_n hC dX12_keep_42 rfl (mm_shl hC dX12_keep_43 (mm_ior hC dX12_keep_44 (mm_pi hC cl_11 (by decide) rfl rfl rfl wd_791 dX12_keep_45 (mm_la_n hC dX12_keep_48 rfl (mm_ic hC dX12_keep_49 ⟨by decide, by decide⟩ (mm_pi hC cl_11 (by decide) rfl rfl rfl wd_790 dX12_keep_50 (mm_ic hC dX12_keep_53 ⟨by decide, by decide⟩ (mm_ir hC ⟨rfl, rfl⟩ hr dX12_keep_54))))))))))))))))))))))))))) (mm_ldc hC dX12_keep_9 ⟨by decide, by decide⟩ wd_1006 (mm_ir hC ⟨rfl, rfl⟩ hr dX12_keep_11))))))))
set_option maxRecDepth 100000 in
set_option maxHeartbeats 8000000 in
theorem pv_X12_keep : ∀ (av : List mm_V) (σ : mm_S) (Post : Option mm_V → mm_S → Prop), (∀ v ∈ av, mm_iv v) → (∀ a j, mm_in (σ.1 a j)) → σ.2.2 ≤ 348 → T_X12_keep av σ Post → ∀ Ok : Nat → mm_K, clo_X12_keep Ok Post σ.2.2 → Ok 0 (av ++ List.replicate (2 - av.length) (.inr none)) [] σ := by
  intro av σ Post hav hin hk hT Ok hcl
  obtain ⟨I, R0⟩ := σ
  unfold T_X12_keep at hT
  split at hT
  · rename_i a i'
    obtain ⟨h0, hT⟩ := hT
    have h0 : R0 = mm_R0 := h0
    subst h0
    dsimp only at hT hin
    have c0 := hcl
    unfold clo_X12_keep at c0
    obtain ⟨rfl, S', hS', ok, hP⟩ := hT
    have w0' := m0
    have rA := Rs_338.2.1
    have sA := sh_338.2.2.1
    obtain ⟨aA, aB, aC, aD, aE, aF, aG, aH, aI⟩ := id hS'
    obtain ⟨okA, okB, okC, okD, okE, okF, okG⟩ := id ok
    have eF : kepF S' i' = if ¬ (0 ≤ i' ∧ i' < 2) then (S', -1000000001) else (kepS S' i'.toNat, 1) := rfl
    refine c0 _ _ _ ?_
    simp only [b_X12_keep_0, i_xorg, i_shl, i_shr, i_ior, i_and1, i_lcg1, i_lcg2, i_ld, i_la, i_st, i_sa, i_c, i_inc, i_add, i_sub, i_mul, i_div, i_rem, i_remT, i_xor, i_dup, i_dup2, i_if, i_if2, i_sw, i_gi, i_gr, i_pi, i_pz, i_ial, i_ias, i_len, i_aal, i_gs, i_tal, i_cv, i_cs, i_ir, i_zr, i_vr, i_min, i_max, i_cpy, List.getElem?_cons_zero, List.getElem?_cons_succ, List.set_cons_zero, List.set_cons_succ, List.length_cons, List.length_nil, List.drop_succ_cons, List.drop_zero, List.take_succ_cons, List.take_zero, List.reverse_cons, List.reverse_nil, List.nil_append, List.cons_append, Option.toList_some, Option.toList_none, true_and, and_true, true_or, or_true, Nat.reduceAdd, Nat.reduceLT, Nat.reduceLeDiff, Option.some.injEq, exists_eq_left', Int.toNat_natCast, Nat.reduceSub, List.append_nil, List.replicate_succ, List.replicate_zero, mm_in, w0', T_X12_in, T_X12_copyRow]
    refine fun z' hz => ⟨fun y' => ?_, fun y' => ?_⟩
    · have hi' := bz_t hz y'
      rw [if_neg (by omega)] at eF
      obtain ⟨t', rfl⟩ := Int.eq_ofNat_of_zero_le hi'.1
      rw [Int.toNat_natCast] at eF
      simp only [eF] at hP
      have k1' := (okE 0 (by omega)).1
      have k2' := (okE 1 (by omega)).1
      simp only [Nat.add_zero, Nat.reduceAdd] at k1' k2'
      have ht2 : t' < 2 := by omega
      refine ⟨⟨by omega, by omega⟩, ⟨by omega, by omega⟩, 0, 2584 + 152 * t', rfl, by omega, by omega, by omega, by omega, fun K' gA gB gC => ?_⟩
      have hD : K' 338 3 = S' 19 1 := by rw [gA 338 (by omega)]; exact aD
      have hE : K' 338 2 = S' 19 2 + 2 * S' 19 3 := by rw [gA 338 (by omega)]; exact aE
      simp only [mm_in, w0', rA, sA, Int.toNat_natCast, hD, i_shl, i_ior, i_xorg, i_shl, i_shr, i_ior, i_and1, i_lcg1, i_lcg2, i_ld, i_la, i_st, i_sa, i_c, i_inc, i_add, i_sub, i_mul, i_div, i_rem, i_remT, i_xor, i_dup, i_dup2, i_if, i_if2, i_sw, i_gi, i_gr, i_pi, i_pz, i_ial, i_ias, i_len, i_aal, i_gs, i_tal, i_cv, i_cs, i_ir, i_zr, i_vr, i_min, i_max, i_cpy, List.getElem?_cons_zero, List.getElem?_cons_succ, List.set_cons_zero, List.set_cons_succ, List.length_cons, List.length_nil, List.drop_succ_cons, List.drop_zero, List.take_succ_cons, List.take_zero, List.reverse_cons, List.reverse_nil, List.nil_append, List.cons_append, Option.toList_some, Option.toList_none, true_and, and_true, true_or, or_true, Nat.reduceAdd, Nat.reduceLT, Nat.reduceLeDiff, Option.some.injEq, exists_eq_left', Int.toNat_natCast, Nat.reduceSub, List.append_nil, List.replicate_succ, List.replicate_zero]
      have gx : mm_set K' 340 t' (S' 19 1) 338 2 = S' 19 2 + 2 * S' 19 3 := by rw [mset_ne (by omega)]; exact hE
      rw [gx]
      refine fun _ => ⟨⟨by omega, by omega⟩, fun _ => ⟨by omega, ⟨by omega, by omega, by omega⟩, ?_⟩⟩
      obtain ⟨nv, hnv⟩ : ∃ nv, (if (if (t' : Int) = 0 then (1 : Int) else 2) = 1 then (if (S' 19 2 + 2 * S' 19 3) % 2 = 0 then S' 19 2 + 2 * S' 19 3 + 1 else S' 19 2 + 2 * S' 19 3) else (if S' 19 2 + 2 * S' 19 3 < 2 then S' 19 2 + 2 * S' 19 3 + 2 else S' 19 2 + 2 * S' 19 3)) = nv := ⟨_, rfl⟩
      rw [hnv]
      have eL : kepS S' t' 19 2 = if t' = 0 then 1 else S' 19 2 := by
        rw [kepS_19 S' ht2]
        by_cases h' : t' = 0
        · rw [if_pos (by omega), if_pos h']
        · rw [if_neg (by omega), if_neg (by omega), if_neg (by omega), if_neg h']
      have eM' : kepS S' t' 19 3 = if t' = 1 then 1 else S' 19 3 := by
        rw [kepS_19 S' ht2]
        by_cases h' : t' = 1
        · rw [if_pos (by omega), if_pos h']
        · rw [if_neg (by omega), if_neg (by omega), if_neg (by omega), if_neg h']
      have env' : nv = kepS S' t' 19 2 + 2 * kepS S' t' 19 3 := by
        rw [eL, eM', ← hnv]
        rcases (show t' = 0 ∨ t' = 1 by omega) with rfl | rfl
        · rw [if_pos (show (if ((0 : Nat) : Int) = 0 then (1 : Int) else 2) = 1 by rfl), if_pos rfl, if_neg (show ¬ (0 = 1) by omega)]
          split <;> omega
        · rw [if_neg (show ¬ (if ((1 : Nat) : Int) = 0 then (1 : Int) else 2) = 1 by decide), if_neg (show ¬ (1 = 0) by omega), if_pos rfl]
          split <;> omega
      obtain ⟨M', hM'⟩ : ∃ M', mm_set (mm_set (mm_set K' 340 t' (S' 19 1)) 338 2 nv) 338 1 0 = M' := ⟨_, rfl⟩
      rw [hM']
      have g338 : ∀ j', j' ≠ 1 → j' ≠ 2 → M' 338 j' = I 338 j' := fun j' h1 h2 => by rw [← hM', mset_n2 h1, mset_n2 h2, mset_ne (by omega), gA 338 (by omega)]
      have gO : ∀ b', b' ≠ 338 → b' ≠ 339 → b' ≠ 340 → M' b' = I b' := fun b' h1 h2 h3 => by rw [← hM', mset_ne h1, mset_ne h1, mset_ne h3, gA b' h2]
      have hZ : M' 339 = K' 339 := by rw [← hM', mset_ne (by omega), mset_ne (by omega), mset_ne (by omega)]
      have g340 : ∀ j', M' 340 j' = if j' = t' then S' 19 1 else I 340 j' := fun j' => by rw [← hM', mset_ne (by omega), mset_ne (by omega), mset_i, gA 340 (by omega)]
      refine hP M' (fun b' hb' => gO b' (by omega) (by omega) (by omega)) ⟨?_, ?_, fun t' ht' => ?_, ?_, ?_, fun j' hj hk => ?_, ?_, fun j' hj => ?_, ?_⟩
      · rw [kepS_0 S' (by omega) (by omega)]
        exact mW_mv aA (okW_m okA) (fun k' _ => by rw [hZ, gB _ (by omega)])
      · rw [kepS_19 S' ht2, if_neg (by omega), if_neg (by omega), if_pos rfl, ← hM', mset_eq]
      · rw [kepS_19 S' ht2, if_neg (by omega), if_neg (by omega), if_pos rfl] at ht'
        omega
      · rw [kepS_19 S' ht2, if_neg (by omega), if_neg (by omega), if_neg (by omega), g338 3 (by omega) (by omega)]
        exact aD
      · rw [← env', ← hM', mset_n2 (by omega), mset_eq]
      · rw [kepS_19 S' ht2] at hk
        rw [kepS_19 S' ht2, g340]
        by_cases h' : j' = t'
        · subst h'
          rw [if_pos rfl, if_neg (by omega), if_pos rfl, kepS_i]
          exact ⟨rfl, mW_mv aA (okW_m okA) (fun k' hk => by rw [hZ, gC k' hk])⟩
        · rw [if_neg (by omega), if_neg (by omega), if_neg (by omega)] at hk
          rw [if_neg h', if_neg (by omega), if_neg (by omega), if_neg (by omega), kepS_0 S' (by omega) (by omega)]
          exact ⟨(aF j' hj hk).1, mW_mv (aF j' hj hk).2 (okW_m ((okE j' hj).2 hk).2) (fun k' hk => by rw [hZ, gB _ (by omega)])⟩
      · rw [kepS_19 S' ht2, if_neg (by omega), if_neg (by omega), if_neg (by omega), g338 7 (by omega) (by omega)]
        exact aG
      · rw [kepS_19 S' ht2, if_neg (by omega), if_neg (by omega), if_neg (by omega)] at hj
        rw [kepS_0 S' (by omega) (by omega), kepS_0 S' (by omega) (by omega), gO 341 (by omega) (by omega) (by omega), gO 342 (by omega) (by omega) (by omega)]
        exact aH j' hj
      · intro j' hj
        have := aI j' hj
        unfold MN at this ⊢
        rw [hZ, gB _ (by omega)]
        exact this
    · rw [if_pos (by have := bz_f hz (by omega); omega)] at eF
      simp only [eF] at hP
      exact hP I (loF_rf I) hS'
  · exact hT.elim
theorem sp_X12_keep : mm_Sp yX12_keep cX12_keep 2 (some .int) rm_X12_keep T_X12_keep := mm_meth (by decide) (by
  intro av σ Post h
  unfold T_X12_keep at h
  split at h
  · simp
  · exact h.elim) (fun p l e s m args below meth c G av σ Post hC hr _ hav hin hk hT => pv_X12_keep av σ Post hav hin hk hT _ (bk_X12_keep hC hr))
def T_X12_goBack : mm_T := fun av σ Post => match av with
  | [.inr (some a), .inl i'] => mT (fun S' => bacF S' i') a σ Post
  | _ => False
def rm_X12_goBack : Room := { frames := 1, cells := 0, slots := 0, locals := 23 }
def b_X12_goBack_0 (Ok : Nat → mm_K) (Post : Option mm_V → mm_S → Prop) (kf : Nat) : mm_K := i_ld 1 (i_c 0 (i_c 1 (i_cs 3 T_X12_in (i_if (fun x => ¬ x = 0) (i_la 0 (i_gi 11 2 (i_ld 1 (i_shr (i_c 1 (i_and1 (i_if (fun x => ¬ x = 0) (i_la 0 (i_c 2584 (i_c 152 (i_ld 1 (i_mul (i_add (i_c 0 (i_cv 11 2 T_X12_copyRow (i_la 0 (i_la 0 (i_gr 11 4 (i_ld 1 (i_ial (i_pi 11 3 (i_la 0 (i_c 0 (i_pi 11 1 (i_c 1 (i_ir Post kf))))))))))))))))))) (i_c (-1000000003) (i_ir Post kf))))))))) (i_c (-1000000001) (i_ir Post kf))))))
def clo_X12_goBack (Ok : Nat → mm_K) (Post : Option mm_V → mm_S → Prop) (kf : Nat) : Prop := mm_imp (b_X12_goBack_0 Ok Post kf) (Ok 0)
set_option maxRecDepth 100000 in
set_option maxHeartbeats 4000000 in
theorem bk_X12_goBack {p : Program} {l : Launch} {e : Env} {s : State} {m : MethodId} {args : Array Value} {below : List Frame} {meth : Method} {c : Code} {G : mm_G} {σ0 : mm_S} {Post : Option mm_V → mm_S → Prop} (hC : mm_C p G s m args meth c cX12_goBack yX12_goBack.cls) (hr : meth.sig.returnType = some .int) : clo_X12_goBack (mm_O p l e rm_X12_goBack s m args below meth c G σ0.2.2 (MQ below (mm_Qc G σ0 rm_X12_goBack.cells rm_X12_goBack.slots Post) args s rm_X12_goBack.cells rm_X12_goBack.slots (mm_A G))) Post σ0.2.2 := (by unfold clo_X12_goBack b_X12_goBack_0; exact (mm_ld_n hC dX12_goBack_0 rfl (mm_ic hC dX12_goBack_1 ⟨by decide, by decide⟩ (mm_ic hC dX12_goBack_2 ⟨by decide, by decide⟩ (mm_cs hC sp_X12_in ⟨rfl, rfl⟩ wd_979 wd_980 wd_981 wd_77 ⟨by decide, by decide, by decide +kernel⟩ ⟨by decide, by decide⟩ dX12_goBack_3 (mm_if_ne hC (t := 12) dX12_goBack_6 (by decide) (mm_la_n hC dX12_goBack_12 rfl (mm_gi hC cl_11 (by decide) rfl wd_791 dX12_goBack_13 (mm_ld_n hC dX12_goBack_16 rfl (mm_shr hC dX12_goBack_17 (mm_ic hC dX12_goBack_18 ⟨by decide, by decide⟩ (mm_and1 hC dX12_goBack_19 (mm_if_ne hC (t := 26) dX12_goBack_20 (by decide) (mm_la_n hC dX12_goBack_26 rfl (mm_sp hC dX12_goBack_27 ⟨⟨by decide, by decide⟩, by decide⟩ (mm_sp hC dX12_goBack_30 ⟨⟨by decide, by decide⟩, by decide⟩ (mm_ld_n hC dX12_goBack_33 rfl (mm_mul hC dX12_goBack_34 (mm_add hC dX12_goBack_35 (mm_ic hC dX12_goBack_36 ⟨by decide, by decide⟩ (mm_cv hC sp_X12_copyRow ⟨rfl, rfl⟩ cl_11 wd_1055 wd_1057 wd_58 wd_1058 wd_77 ⟨by decide, by decide, by decide +kernel⟩ ⟨by decide, by decide⟩ dX12_goBack_37 (mm_la_n hC dX12_goBack_40 rfl (mm_la_n hC dX12_goBack_41 rfl (mm_gr hC cl_11 (by decide) rfl wd_793 dX12_goBack_42 (mm_ld_n hC dX12_goBack_45 rfl (mm_ial hC dX12_goBack_46 (mm_pi hC cl_11 (by decide) rfl rfl rfl wd_792 dX12_goBack_47 (mm_la_n hC dX12_goBack_50 rfl (mm_ic hC dX12_goBack_51 ⟨by decide, by decide⟩ (mm_pi hC cl_11 (by decide) rfl rfl rfl wd_790 dX12_goBack_52 (mm_ic hC dX12_goBack_55 ⟨by decide, by decide⟩ (mm_ir hC ⟨rfl, rfl⟩ hr dX12_goBack_56))))))))))))))))))) (mm_ldc hC dX12_goBack_23 ⟨by decide, by decide⟩ wd_1067 (mm_ir hC ⟨rfl, rfl⟩ hr dX12_goBack_25))))))))) (mm_ldc hC dX12_goBack_9 ⟨by decide, by decide⟩ wd_1006 (mm_ir hC ⟨rfl, rfl⟩ hr dX12_goBack_11))))))))
set_option maxRecDepth 100000 in
set_option maxHeartbeats 8000000 in
theorem pv_X12_goBack : ∀ (av : List mm_V) (σ : mm_S) (Post : Option mm_V → mm_S → Prop), (∀ v ∈ av, mm_iv v) → (∀ a j, mm_in (σ.1 a j)) → σ.2.2 ≤ 348 → T_X12_goBack av σ Post → ∀ Ok : Nat → mm_K, clo_X12_goBack Ok Post σ.2.2 → Ok 0 (av ++ List.replicate (2 - av.length) (.inr none)) [] σ := by
  intro av σ Post hav hin hk hT Ok hcl
  obtain ⟨I, R0⟩ := σ
  unfold T_X12_goBack at hT
  split at hT
  · rename_i a i'
    obtain ⟨h0, hT⟩ := hT
    have h0 : R0 = mm_R0 := h0
    subst h0
    dsimp only at hT hin
    have c0 := hcl
    unfold clo_X12_goBack at c0
    obtain ⟨rfl, S', hS', ok, hP⟩ := hT
    have w0' := m0
    have rA := Rs_338.2.1
    have sA := sh_338.2.2.1
    obtain ⟨aA, aB, aC, aD, aE, aF, aG, aH, aI⟩ := id hS'
    obtain ⟨okA, okB, okC, okD, okE, okF, okG⟩ := id ok
    have k1' := (okE 0 (by omega)).1
    have k2' := (okE 1 (by omega)).1
    simp only [Nat.add_zero, Nat.reduceAdd] at k1' k2'
    have eF : bacF S' i' = if ¬ (0 ≤ i' ∧ i' < 2) then (S', -1000000001) else if S' 19 (2 + i'.toNat) = 0 then (S', -1000000003) else (upM (upM (upW S' (S' (17 + i'.toNat))) 1 (S' 19 (4 + i'.toNat))) 0 0, 1) := rfl
    refine c0 _ _ _ ?_
    simp only [b_X12_goBack_0, i_xorg, i_shl, i_shr, i_ior, i_and1, i_lcg1, i_lcg2, i_ld, i_la, i_st, i_sa, i_c, i_inc, i_add, i_sub, i_mul, i_div, i_rem, i_remT, i_xor, i_dup, i_dup2, i_if, i_if2, i_sw, i_gi, i_gr, i_pi, i_pz, i_ial, i_ias, i_len, i_aal, i_gs, i_tal, i_cv, i_cs, i_ir, i_zr, i_vr, i_min, i_max, i_cpy, List.getElem?_cons_zero, List.getElem?_cons_succ, List.set_cons_zero, List.set_cons_succ, List.length_cons, List.length_nil, List.drop_succ_cons, List.drop_zero, List.take_succ_cons, List.take_zero, List.reverse_cons, List.reverse_nil, List.nil_append, List.cons_append, Option.toList_some, Option.toList_none, true_and, and_true, true_or, or_true, Nat.reduceAdd, Nat.reduceLT, Nat.reduceLeDiff, Option.some.injEq, exists_eq_left', Int.toNat_natCast, Nat.reduceSub, List.append_nil, List.replicate_succ, List.replicate_zero, mm_in, w0', aE, T_X12_in, T_X12_copyRow, i_shr, i_and1]
    refine fun z' hz => ⟨fun y' => fun _ => ?_, fun y' => ?_⟩
    · have hi' := bz_t hz y'
      rw [if_neg (by omega)] at eF
      obtain ⟨t', rfl⟩ := Int.eq_ofNat_of_zero_le hi'.1
      rw [Int.toNat_natCast] at eF
      have ht2 : t' < 2 := by omega
      have ebit : (if (t' : Int) = 0 then S' 19 2 + 2 * S' 19 3 else (S' 19 2 + 2 * S' 19 3) / 2) % 2 = S' 19 (2 + t') := by
        by_cases h' : t' = 0
        · subst h'
          rw [if_pos (show ((0 : Nat) : Int) = 0 by rfl)]
          show _ = S' 19 2
          omega
        · have : t' = 1 := by omega
          subst this
          rw [if_neg (by omega)]
          show _ = S' 19 3
          omega
      rw [ebit]
      refine ⟨⟨by omega, by omega, by omega⟩, ⟨by split <;> omega, by split <;> omega⟩, fun yA => ?_, fun yA => ?_⟩
      · rw [if_neg yA] at eF
        simp only [eF] at hP
        obtain ⟨kA', kB'⟩ := aF t' ht2 yA
        have okt := (okE t' ht2).2 yA
        refine ⟨⟨by omega, by omega⟩, ⟨by omega, by omega⟩, 2584 + 152 * t', 0, by omega, rfl, by omega, by omega, by omega, fun K' gA gB gC => ?_⟩
        have hK' : K' 340 t' = S' 19 (4 + t') := by rw [gA 340 (by omega)]; exact kA'
        simp only [mm_in, w0', rA, sA, Int.toNat_natCast, hK', i_xorg, i_shl, i_shr, i_ior, i_and1, i_lcg1, i_lcg2, i_ld, i_la, i_st, i_sa, i_c, i_inc, i_add, i_sub, i_mul, i_div, i_rem, i_remT, i_xor, i_dup, i_dup2, i_if, i_if2, i_sw, i_gi, i_gr, i_pi, i_pz, i_ial, i_ias, i_len, i_aal, i_gs, i_tal, i_cv, i_cs, i_ir, i_zr, i_vr, i_min, i_max, i_cpy, List.getElem?_cons_zero, List.getElem?_cons_succ, List.set_cons_zero, List.set_cons_succ, List.length_cons, List.length_nil, List.drop_succ_cons, List.drop_zero, List.take_succ_cons, List.take_zero, List.reverse_cons, List.reverse_nil, List.nil_append, List.cons_append, Option.toList_some, Option.toList_none, true_and, and_true, true_or, or_true, Nat.reduceAdd, Nat.reduceLT, Nat.reduceLeDiff, Option.some.injEq, exists_eq_left', Int.toNat_natCast, Nat.reduceSub, List.append_nil, List.replicate_succ, List.replicate_zero]
        refine ⟨⟨by omega, by omega⟩, fun _ => ?_⟩
        obtain ⟨M', hM'⟩ : ∃ M', mm_set (mm_set K' 338 3 (S' 19 (4 + t'))) 338 1 0 = M' := ⟨_, rfl⟩
        rw [hM']
        have g338 : ∀ j', j' ≠ 1 → j' ≠ 3 → M' 338 j' = I 338 j' := fun j' h1 h2 => by rw [← hM', mset_n2 h1, mset_n2 h2, gA 338 (by omega)]
        have gO : ∀ b', b' ≠ 338 → b' ≠ 339 → M' b' = I b' := fun b' h1 h2 => by rw [← hM', mset_ne h1, mset_ne h1, gA b' h2]
        have hZ : M' 339 = K' 339 := by rw [← hM', mset_ne (by omega), mset_ne (by omega)]
        refine hP M' (fun b' hb' => gO b' (by omega) (by omega)) ⟨?_, ?_, fun t' ht' => ?_, ?_, ?_, fun j' hj hk => ?_, ?_, fun j' hj => ?_, ?_⟩
        · rw [upM_o _ _ _ (by omega), upM_o _ _ _ (by omega), upW_0]
          exact mW_mv kB' (okW_m okt.2) (fun k' hk => by rw [hZ, gC k' hk])
        · rw [upM_y, ← hM', mset_eq]
        · rw [upM_y] at ht'
          omega
        · rw [upM_n _ _ _ (by omega), upM_y, ← hM', mset_n2 (by omega), mset_eq]
        · rw [upM_n _ _ _ (by omega), upM_n _ _ _ (by omega), upM_n _ _ _ (by omega), upM_n _ _ _ (by omega), upW_o _ _ (by omega), g338 2 (by omega) (by omega)]
          exact aE
        · rw [upM_n _ _ _ (by omega), upM_n _ _ _ (by omega), upW_o _ _ (by omega)] at hk
          rw [upM_n _ _ _ (by omega), upM_n _ _ _ (by omega), upW_o _ _ (by omega), upM_o _ _ _ (by omega), upM_o _ _ _ (by omega), upW_o _ _ (by omega), gO 340 (by omega) (by omega)]
          exact ⟨(aF j' hj hk).1, mW_mv (aF j' hj hk).2 (okW_m ((okE j' hj).2 hk).2) (fun k' hk => by rw [hZ, gB _ (by omega)])⟩
        · rw [upM_n _ _ _ (by omega), upM_n _ _ _ (by omega), upW_o _ _ (by omega), g338 7 (by omega) (by omega)]
          exact aG
        · rw [upM_n _ _ _ (by omega), upM_n _ _ _ (by omega), upW_o _ _ (by omega)] at hj
          rw [upM_o _ _ _ (by omega), upM_o _ _ _ (by omega), upM_o _ _ _ (by omega), upM_o _ _ _ (by omega), upW_o _ _ (by omega), upW_o _ _ (by omega), gO 341 (by omega) (by omega), gO 342 (by omega) (by omega)]
          exact aH j' hj
        · intro j' hj
          have := aI j' hj
          unfold MN at this ⊢
          rw [hZ, gB _ (by omega)]
          exact this
      · rw [if_pos (by omega)] at eF
        simp only [eF] at hP
        exact hP I (loF_rf I) hS'
    · rw [if_pos (by have := bz_f hz (by omega); omega)] at eF
      simp only [eF] at hP
      exact hP I (loF_rf I) hS'
  · exact hT.elim
theorem sp_X12_goBack : mm_Sp yX12_goBack cX12_goBack 2 (some .int) rm_X12_goBack T_X12_goBack := mm_meth (by decide) (by
  intro av σ Post h
  unfold T_X12_goBack at h
  split at h
  · simp
  · exact h.elim) (fun p l e s m args below meth c G av σ Post hC hr _ hav hin hk hT => pv_X12_goBack av σ Post hav hin hk hT _ (bk_X12_goBack hC hr))
