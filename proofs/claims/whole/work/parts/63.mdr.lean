/-! the other program: drift
-/
theorem mset_2 {I : Nat → Nat → Int} {a' j' : Nat} {y' z' : Int} : mm_set (mm_set I a' j' y') a' j' z' = mm_set I a' j' z' := by
  funext b' i'
  unfold mm_set
  by_cases h' : b' = a' ∧ i' = j'
  · rw [if_pos h', if_pos h']
  · rw [if_neg h', if_neg h', if_neg h']
theorem mSt_m1 {I S' : Nat → Nat → Int} {v' : Int} (h' : mSt I S') (ok : okS S') : mSt (mm_set I 338 3 v') (upM S' 1 v') := by
  obtain ⟨a', b', c', d', e', p, q, r, s⟩ := h'
  obtain ⟨okA, okB, okC, okD, okE, okF, okG⟩ := ok
  have hZ : mm_set I 338 3 v' 339 = I 339 := mset_ne (by omega)
  refine ⟨?_, ?_, fun t' ht => ?_, by rw [mset_eq, upM_y], ?_, fun i' hi' hk => ?_, ?_, fun i' hi' => ?_, ?_⟩
  · rw [upM_o _ _ _ (by omega)]
    exact mW_mv a' (okW_m okA) (fun k' _ => by rw [hZ])
  · rw [mset_n2 (by omega), upM_n _ _ _ (by omega)]
    exact b'
  · rw [upM_n _ _ _ (by omega)] at ht
    rw [upM_o _ _ _ (by omega)]
    exact mW_mv (c' t' ht) (okW_m (okB t' ht)) (fun k' _ => by rw [hZ])
  · rw [mset_n2 (by omega), upM_n _ _ _ (by omega), upM_n _ _ _ (by omega)]
    exact e'
  · rw [upM_n _ _ _ (by omega)] at hk
    rw [upM_n _ _ _ (by omega), upM_o _ _ _ (by omega), mset_ne (by omega)]
    exact ⟨(p i' hi' hk).1, mW_mv (p i' hi' hk).2 (okW_m ((okE i' hi').2 hk).2) (fun k' _ => by rw [hZ])⟩
  · rw [mset_n2 (by omega), upM_n _ _ _ (by omega)]
    exact q
  · rw [upM_n _ _ _ (by omega)] at hi'
    rw [upM_o _ _ _ (by omega), upM_o _ _ _ (by omega), mset_ne (by omega), mset_ne (by omega)]
    exact r i' hi'
  · unfold MN at s ⊢
    rw [hZ]
    exact s
theorem rec_m1 (S' : Nat → Nat → Int) (v' : Int) : recS (upM S' 1 v') = upM (recS S') 1 v' := by
  funext c' i'
  by_cases h' : c' = 19
  · subst h'
    by_cases h1 : i' = 1
    · subst h1
      rw [recS_19 _ (by omega), upM_y, upM_y]
    · rw [upM_n _ _ _ h1]
      by_cases h2 : i' = 0
      · subst h2
        rw [recS_19z, recS_19z, upM_n _ _ _ (by omega)]
      · rw [recS_19 _ h2, recS_19 _ h2, upM_n _ _ _ h1]
  · rw [upM_o _ _ _ h']
    unfold recS
    rw [upM_n _ _ _ (by omega), upM_o _ _ _ (by omega), upM_o _ _ _ h']
    by_cases h2 : c' = 18
    · rw [if_neg (by omega), if_neg (by omega), if_neg (by omega), if_neg (by omega)]
    · rw [upM_o _ _ _ (show c' + 1 ≠ 19 by omega)]
theorem upMW (T : Nat → Nat → Int) (W : Nat → Int) (v' : Int) : upW (upM T 1 v') W = upM (upW T W) 1 v' := by
  funext c' i'
  by_cases h' : c' = 0
  · subst h'
    rw [upW_0, upM_o _ _ _ (by omega), upW_0]
  · rw [upW_o _ _ h']
    by_cases h1 : c' = 19
    · subst h1
      by_cases h2 : i' = 1
      · subst h2
        rw [upM_y, upM_y]
      · rw [upM_n _ _ _ h2, upM_n _ _ _ h2, upW_o _ _ (by omega)]
    · rw [upM_o _ _ _ h1, upM_o _ _ _ h1, upW_o _ _ h']
def T_X12_draw : mm_T := fun av σ Post => match av with
  | [.inr (some a'), .inl n] => σ.2 = mm_R0 ∧ a' = 338 ∧ 0 ≤ σ.1 338 3 ∧ 0 < n ∧ Post (some (.inl (lcg (σ.1 338 3) / 65536 % n))) (mm_set σ.1 338 3 (lcg (σ.1 338 3)), mm_R0)
  | _ => False
def rm_X12_draw : Room := { frames := 0, cells := 0, slots := 0, locals := 0 }
def b_X12_draw_0 (Ok : Nat → mm_K) (Post : Option mm_V → mm_S → Prop) (kf : Nat) : mm_K := i_la 0 (i_gi 11 3 (i_lcg2 (i_pi 11 3 (i_la 0 (i_gi 11 3 (i_c (65536) (i_div (i_ld 1 (i_rem (i_ir Post kf))))))))))
def clo_X12_draw (Ok : Nat → mm_K) (Post : Option mm_V → mm_S → Prop) (kf : Nat) : Prop := mm_imp (b_X12_draw_0 Ok Post kf) (Ok 0)
set_option maxRecDepth 100000 in
set_option maxHeartbeats 4000000 in
theorem bk_X12_draw {p : Program} {l : Launch} {e : Env} {s : State} {m : MethodId} {args : Array Value} {below : List Frame} {meth : Method} {c : Code} {G : mm_G} {σ0 : mm_S} {Post : Option mm_V → mm_S → Prop} (hC : mm_C p G s m args meth c cX12_draw yX12_draw.cls) (hr : meth.sig.returnType = some .int) : clo_X12_draw (mm_O p l e rm_X12_draw s m args below meth c G σ0.2.2 (MQ below (mm_Qc G σ0 rm_X12_draw.cells rm_X12_draw.slots Post) args s rm_X12_draw.cells rm_X12_draw.slots (mm_A G))) Post σ0.2.2 := (by unfold clo_X12_draw b_X12_draw_0; exact (mm_la_n hC dX12_draw_0 rfl (mm_gi hC cl_11 (by decide) rfl wd_792 dX12_draw_1 (mm_lcg2 hC (mm_pi hC cl_11 (by decide) rfl rfl rfl wd_792 dX12_draw_21 (mm_la_n hC dX12_draw_24 rfl (mm_gi hC cl_11 (by decide) rfl wd_792 dX12_draw_25 (mm_ldc hC dX12_draw_28 ⟨by decide, by decide⟩ wd_1119 (mm_div hC dX12_draw_30 (mm_ld_n hC dX12_draw_31 rfl (mm_rem hC dX12_draw_32 (mm_ir hC ⟨rfl, rfl⟩ hr dX12_draw_33))))))))))))
set_option maxRecDepth 100000 in
set_option maxHeartbeats 8000000 in
theorem pv_X12_draw : ∀ (av : List mm_V) (σ : mm_S) (Post : Option mm_V → mm_S → Prop), (∀ v ∈ av, mm_iv v) → (∀ a j, mm_in (σ.1 a j)) → σ.2.2 ≤ 348 → T_X12_draw av σ Post → ∀ Ok : Nat → mm_K, clo_X12_draw Ok Post σ.2.2 → Ok 0 (av ++ List.replicate (4 - av.length) (.inr none)) [] σ := by
  intro av σ Post hav hin hk hT Ok hcl
  obtain ⟨I, R0⟩ := σ
  unfold T_X12_draw at hT
  split at hT
  · rename_i a' n
    obtain ⟨h0, hT⟩ := hT
    have h0 : R0 = mm_R0 := h0
    subst h0
    dsimp only at hT hin
    have c0 := hcl
    unfold clo_X12_draw at c0
    obtain ⟨rfl, h2, h3, hP⟩ := hT
    have w0' := m0
    have hb' := lcg_b (I 338 3)
    refine c0 _ _ _ ?_
    simp only [b_X12_draw_0, i_xorg, i_shl, i_shr, i_ior, i_and1, i_lcg1, i_lcg2, i_ld, i_la, i_st, i_sa, i_c, i_inc, i_add, i_sub, i_mul, i_div, i_rem, i_remT, i_xor, i_dup, i_dup2, i_if, i_if2, i_sw, i_gi, i_gr, i_pi, i_pz, i_ial, i_ias, i_len, i_aal, i_gs, i_tal, i_cv, i_cs, i_ir, i_zr, i_vr, i_min, i_max, i_cpy, List.getElem?_cons_zero, List.getElem?_cons_succ, List.set_cons_zero, List.set_cons_succ, List.length_cons, List.length_nil, List.drop_succ_cons, List.drop_zero, List.take_succ_cons, List.take_zero, List.reverse_cons, List.reverse_nil, List.nil_append, List.cons_append, Option.toList_some, Option.toList_none, true_and, and_true, true_or, or_true, Nat.reduceAdd, Nat.reduceLT, Nat.reduceLeDiff, Option.some.injEq, exists_eq_left', Int.toNat_natCast, Nat.reduceSub, List.append_nil, List.replicate_succ, List.replicate_zero, mm_in, w0', mset_eq]
    refine fun _ => ⟨h2, fun _ => ⟨⟨by omega, by omega⟩, ⟨by have := Int.ediv_nonneg hb'.1 (show (0 : Int) ≤ 65536 by decide); omega, h3⟩, hP⟩⟩
  · exact hT.elim
theorem sp_X12_draw : mm_Sp yX12_draw cX12_draw 4 (some .int) rm_X12_draw T_X12_draw := mm_meth (by decide) (by
  intro av σ Post h
  unfold T_X12_draw at h
  split at h
  · simp
  · exact h.elim) (fun p l e s m args below meth c G av σ Post hC hr _ hav hin hk hT => pv_X12_draw av σ Post hav hin hk hT _ (bk_X12_draw hC hr))
def T_X12_chance : mm_T := fun av σ Post => match av with
  | [.inr (some a')] => σ.2 = mm_R0 ∧ a' = 338 ∧ ∃ S', mSt σ.1 S' ∧ okS S' ∧ ∀ I', loF I' σ.1 → mSt I' (chS S') → Post none (I', mm_R0)
  | _ => False
def rm_X12_chance : Room := { frames := 2, cells := 0, slots := 0, locals := 44 }
def b_X12_chance_0 (Ok : Nat → mm_K) (Post : Option mm_V → mm_S → Prop) (kf : Nat) : mm_K := i_la 0 (i_la 0 (i_gr 11 0 (i_c 0 (i_ial (i_cv 11 1 T_X12_draw (i_st 1 (i_la 0 (i_c 4 (i_cv 11 1 T_X12_draw (i_st 2 (i_la 0 (i_la 0 (i_gr 11 0 (i_c 0 (i_ial (i_cv 11 1 T_X12_draw (i_st 3 (i_la 0 (i_c 4 (i_cv 11 1 T_X12_draw (i_st 4 (i_la 0 (i_c 6 (i_cv 11 1 T_X12_draw (i_st 5 (i_la 0 (i_cv 11 0 T_X12_remember (i_la 0 (i_c 4 (i_ld 1 (i_mul (i_ld 2 (i_add (i_c 4 (i_ld 3 (i_mul (i_ld 4 (i_add (i_cv 11 2 T_X12_mayGlue (i_if (fun x => x = 0) (Ok 82) (i_la 0 (i_c 4 (i_ld 1 (i_mul (i_ld 2 (i_add (i_c 4 (i_ld 3 (i_mul (i_ld 4 (i_add (i_ld 5 (i_cv 11 3 T_X12_glueTo (Ok 82))))))))))))))))))))))))))))))))))))))))))))))))))))))
def b_X12_chance_82 (Ok : Nat → mm_K) (Post : Option mm_V → mm_S → Prop) (kf : Nat) : mm_K := i_vr Post kf
def clo_X12_chance (Ok : Nat → mm_K) (Post : Option mm_V → mm_S → Prop) (kf : Nat) : Prop := mm_imp (b_X12_chance_0 Ok Post kf) (Ok 0) ∧ mm_imp (b_X12_chance_82 Ok Post kf) (Ok 82)
set_option maxRecDepth 100000 in
set_option maxHeartbeats 4000000 in
theorem bk_X12_chance {p : Program} {l : Launch} {e : Env} {s : State} {m : MethodId} {args : Array Value} {below : List Frame} {meth : Method} {c : Code} {G : mm_G} {σ0 : mm_S} {Post : Option mm_V → mm_S → Prop} (hC : mm_C p G s m args meth c cX12_chance yX12_chance.cls) (hr : meth.sig.returnType = none) : clo_X12_chance (mm_O p l e rm_X12_chance s m args below meth c G σ0.2.2 (MQ below (mm_Qc G σ0 rm_X12_chance.cells rm_X12_chance.slots Post) args s rm_X12_chance.cells rm_X12_chance.slots (mm_A G))) Post σ0.2.2 := ⟨(by unfold b_X12_chance_0; exact (mm_la_n hC dX12_chance_0 rfl (mm_la_n hC dX12_chance_1 rfl (mm_gr hC cl_11 (by decide) rfl wd_789 dX12_chance_2 (mm_ic hC dX12_chance_5 ⟨by decide, by decide⟩ (mm_ial hC dX12_chance_6 (mm_cv hC sp_X12_draw ⟨rfl, rfl⟩ cl_11 wd_1112 wd_1114 wd_63 wd_1115 wd_77 ⟨by decide, by decide, by decide +kernel⟩ ⟨by decide, by decide⟩ dX12_chance_7 (mm_st_n hC dX12_chance_10 rfl (mm_la_n hC dX12_chance_11 rfl (mm_ic hC dX12_chance_12 ⟨by decide, by decide⟩ (mm_cv hC sp_X12_draw ⟨rfl, rfl⟩ cl_11 wd_1112 wd_1114 wd_63 wd_1115 wd_77 ⟨by decide, by decide, by decide +kernel⟩ ⟨by decide, by decide⟩ dX12_chance_13 (mm_st_n hC dX12_chance_16 rfl (mm_la_n hC dX12_chance_17 rfl (mm_la_n hC dX12_chance_18 rfl (mm_gr hC cl_11 (by decide) rfl wd_789 dX12_chance_19 (mm_ic hC dX12_chance_22 ⟨by decide, by decide⟩ (mm_ial hC dX12_chance_23 (mm_cv hC sp_X12_draw ⟨rfl, rfl⟩ cl_11 wd_1112 wd_1114 wd_63 wd_1115 wd_77 ⟨by decide, by decide, by decide +kernel⟩ ⟨by decide, by decide⟩ dX12_chance_24 (mm_st_n hC dX12_chance_27 rfl (mm_la_n hC dX12_chance_28 rfl (mm_ic hC dX12_chance_29 ⟨by decide, by decide⟩ (mm_cv hC sp_X12_draw ⟨rfl, rfl⟩ cl_11 wd_1112 wd_1114 wd_63 wd_1115 wd_77 ⟨by decide, by decide, by decide +kernel⟩ ⟨by decide, by decide⟩ dX12_chance_30 (mm_st hC dX12_chance_33 (mm_la_n hC dX12_chance_35 rfl (mm_bp hC dX12_chance_36 ⟨⟨by decide, by decide⟩, by decide⟩ (mm_cv hC sp_X12_draw ⟨rfl, rfl⟩ cl_11 wd_1112 wd_1114 wd_63 wd_1115 wd_77 ⟨by decide, by decide, by decide +kernel⟩ ⟨by decide, by decide⟩ dX12_chance_38 (mm_st hC dX12_chance_41 (mm_la_n hC dX12_chance_43 rfl (mm_cv hC sp_X12_remember ⟨rfl, rfl⟩ cl_11 wd_1051 wd_1053 wd_57 wd_1054 wd_77 ⟨by decide, by decide, by decide +kernel⟩ ⟨by decide, by decide⟩ dX12_chance_44 (mm_la_n hC dX12_chance_47 rfl (mm_ic hC dX12_chance_48 ⟨by decide, by decide⟩ (mm_ld_n hC dX12_chance_49 rfl (mm_mul hC dX12_chance_50 (mm_ld_n hC dX12_chance_51 rfl (mm_add hC dX12_chance_52 (mm_ic hC dX12_chance_53 ⟨by decide, by decide⟩ (mm_ld_n hC dX12_chance_54 rfl (mm_mul hC dX12_chance_55 (mm_ld hC dX12_chance_56 (mm_add hC dX12_chance_58 (mm_cv hC sp_X12_mayGlue ⟨rfl, rfl⟩ cl_11 wd_1063 wd_1065 wd_59 wd_1066 wd_77 ⟨by decide, by decide, by decide +kernel⟩ ⟨by decide, by decide⟩ dX12_chance_59 (mm_if_eq hC (t := 82) dX12_chance_62 (by decide) (fun _ _ _ h => h) (mm_la_n hC dX12_chance_65 rfl (mm_ic hC dX12_chance_66 ⟨by decide, by decide⟩ (mm_ld_n hC dX12_chance_67 rfl (mm_mul hC dX12_chance_68 (mm_ld_n hC dX12_chance_69 rfl (mm_add hC dX12_chance_70 (mm_ic hC dX12_chance_71 ⟨by decide, by decide⟩ (mm_ld_n hC dX12_chance_72 rfl (mm_mul hC dX12_chance_73 (mm_ld hC dX12_chance_74 (mm_add hC dX12_chance_76 (mm_ld hC dX12_chance_77 (mm_cv hC sp_X12_glueTo ⟨rfl, rfl⟩ cl_11 wd_1068 wd_1070 wd_60 wd_1071 wd_77 ⟨by decide, by decide, by decide +kernel⟩ ⟨by decide, by decide⟩ dX12_chance_79 (fun _ _ _ h => h)))))))))))))))))))))))))))))))))))))))))))))))))))))))), (by unfold b_X12_chance_82; exact (mm_vr hC ⟨rfl, rfl⟩ hr dX12_chance_82))⟩
set_option maxRecDepth 100000 in
set_option maxHeartbeats 8000000 in
theorem pv_X12_chance : ∀ (av : List mm_V) (σ : mm_S) (Post : Option mm_V → mm_S → Prop), (∀ v ∈ av, mm_iv v) → (∀ a j, mm_in (σ.1 a j)) → σ.2.2 ≤ 348 → T_X12_chance av σ Post → ∀ Ok : Nat → mm_K, clo_X12_chance Ok Post σ.2.2 → Ok 0 (av ++ List.replicate (6 - av.length) (.inr none)) [] σ := by
  intro av σ Post hav hin hk hT Ok hcl
  obtain ⟨I, R0⟩ := σ
  unfold T_X12_chance at hT
  split at hT
  · rename_i a'
    obtain ⟨h0, hT⟩ := hT
    have h0 : R0 = mm_R0 := h0
    subst h0
    dsimp only at hT hin
    obtain ⟨c0, c82⟩ := hcl
    obtain ⟨rfl, S', hS', ok, hP⟩ := hT
    have w0' := m0
    have w1' := m1
    have w2' := m2
    obtain ⟨nn, m, okA, okB, okC, okD, okE, okF, okG⟩ := id ok.1
    have hn : I 339 0 = (nn : Int) := by rw [(mW_0 hS'.1).1, okA]
    have hx := ok.2.2.2.1
    have hx0 : I 338 3 = S' 19 1 := hS'.2.2.2.1
    obtain ⟨x', hxe⟩ : ∃ x', S' 19 1 = x' := ⟨_, rfl⟩
    rw [hxe] at hx hx0
    have d1' := dr_b 1 hx
    have d2' := dr_b 2 hx
    have d3' := dr_b 3 hx
    have d4' := dr_b 4 hx
    have d5' := dr_b 5 hx
    obtain ⟨b1, b2, b3, b4⟩ := drX_b (n := (nn : Int)) (x := x') (by omega)
    have e1' := Int.emod_nonneg (dr 1 x' / 65536) (show (nn : Int) ≠ 0 by omega)
    have e2' := Int.emod_lt_of_pos (dr 1 x' / 65536) (show 0 < (nn : Int) by omega)
    have e3' := Int.emod_nonneg (dr 3 x' / 65536) (show (nn : Int) ≠ 0 by omega)
    have e4' := Int.emod_lt_of_pos (dr 3 x' / 65536) (show 0 < (nn : Int) by omega)
    have l1 : lcg x' = dr 1 x' := rfl
    have l2 : lcg (dr 1 x') = dr 2 x' := rfl
    have l3 : lcg (dr 2 x') = dr 3 x' := rfl
    have l4 : lcg (dr 3 x') = dr 4 x' := rfl
    have l5 : lcg (dr 4 x') = dr 5 x' := rfl
    have r0 : ∀ (v' : Int) (i' : Nat), mm_set I 338 3 v' 339 i' = I 339 i' := fun v' i' => by rw [mset_ne (by omega)]
    obtain ⟨X', hX⟩ : ∃ X', drX (nn : Int) x' = X' := ⟨_, rfl⟩
    obtain ⟨Y, hY⟩ : ∃ Y, drY (nn : Int) x' = Y := ⟨_, rfl⟩
    rw [hX] at b1 b3
    rw [hY] at b2 b4
    obtain ⟨κ, hκ⟩ := Int.eq_ofNat_of_zero_le (show 0 ≤ dr 5 x' / 65536 % 6 by omega)
    have eC' : chS S' = upM (if canG (S' 0) X' Y then upW (recS S') (wGlu (S' 0) X' Y (κ : Int)) else recS S') 1 (dr 5 x') := by
      unfold chS dOnce
      rw [recS_o S' (by omega) (by omega), recS_19 S' (by omega), hxe, okA, hX, hY, hκ]
    have p82 : ∀ (K' : Nat → Nat → Int) (ls : List mm_V), loF K' I → mSt K' (chS S') → Ok 82 ls [] (K', mm_R0) := by
      intro K' ls h1 h2
      refine c82 _ _ _ ?_
      simp only [b_X12_chance_82, i_xorg, i_shl, i_shr, i_ior, i_and1, i_lcg1, i_lcg2, i_ld, i_la, i_st, i_sa, i_c, i_inc, i_add, i_sub, i_mul, i_div, i_rem, i_remT, i_xor, i_dup, i_dup2, i_if, i_if2, i_sw, i_gi, i_gr, i_pi, i_pz, i_ial, i_ias, i_len, i_aal, i_gs, i_tal, i_cv, i_cs, i_ir, i_zr, i_vr, i_min, i_max, i_cpy, List.getElem?_cons_zero, List.getElem?_cons_succ, List.set_cons_zero, List.set_cons_succ, List.length_cons, List.length_nil, List.drop_succ_cons, List.drop_zero, List.take_succ_cons, List.take_zero, List.reverse_cons, List.reverse_nil, List.nil_append, List.cons_append, Option.toList_some, Option.toList_none, true_and, and_true, true_or, or_true, Nat.reduceAdd, Nat.reduceLT, Nat.reduceLeDiff, Option.some.injEq, exists_eq_left', Int.toNat_natCast, Nat.reduceSub, List.append_nil, List.replicate_succ, List.replicate_zero]
      exact hP K' h1 h2
    have hS1 : mSt (mm_set I 338 3 (dr 5 x')) (upM S' 1 (dr 5 x')) := mSt_m1 hS' ok
    have ok1 := okS_m1 ok d5'.1 d5'.2
    refine c0 _ _ _ ?_
    simp only [b_X12_chance_0, i_xorg, i_shl, i_shr, i_ior, i_and1, i_lcg1, i_lcg2, i_ld, i_la, i_st, i_sa, i_c, i_inc, i_add, i_sub, i_mul, i_div, i_rem, i_remT, i_xor, i_dup, i_dup2, i_if, i_if2, i_sw, i_gi, i_gr, i_pi, i_pz, i_ial, i_ias, i_len, i_aal, i_gs, i_tal, i_cv, i_cs, i_ir, i_zr, i_vr, i_min, i_max, i_cpy, List.getElem?_cons_zero, List.getElem?_cons_succ, List.set_cons_zero, List.set_cons_succ, List.length_cons, List.length_nil, List.drop_succ_cons, List.drop_zero, List.take_succ_cons, List.take_zero, List.reverse_cons, List.reverse_nil, List.nil_append, List.cons_append, Option.toList_some, Option.toList_none, true_and, and_true, true_or, or_true, Nat.reduceAdd, Nat.reduceLT, Nat.reduceLeDiff, Option.some.injEq, exists_eq_left', Int.toNat_natCast, Nat.reduceSub, List.append_nil, List.replicate_succ, List.replicate_zero, mm_in, w0', w1', w2', t0, hn, T_X12_draw, mset_eq, mset_2, r0, hx0, l1, l2, l3, l4, l5]
    refine ⟨⟨by omega, by omega⟩, fun _ => ⟨by omega, by omega, by omega, by omega, ⟨by omega, by omega⟩, fun _ => ⟨by omega, by omega, by omega, by omega, by omega, by omega, mrecall hS1 ok1 (fun J' fA fB' hJ => ?_)⟩⟩⟩
    rw [rec_m1] at hJ
    have hWJ : mW J' 0 (S' 0) := by
      have := hJ.1
      rw [upM_o _ _ _ (by omega), recS_o S' (by omega) (by omega)] at this
      exact this
    simp only [mm_in, w0', T_X12_mayGlue, T_X12_glueTo, ← b3, ← b4, hκ, i_xorg, i_shl, i_shr, i_ior, i_and1, i_lcg1, i_lcg2, i_ld, i_la, i_st, i_sa, i_c, i_inc, i_add, i_sub, i_mul, i_div, i_rem, i_remT, i_xor, i_dup, i_dup2, i_if, i_if2, i_sw, i_gi, i_gr, i_pi, i_pz, i_ial, i_ias, i_len, i_aal, i_gs, i_tal, i_cv, i_cs, i_ir, i_zr, i_vr, i_min, i_max, i_cpy, List.getElem?_cons_zero, List.getElem?_cons_succ, List.set_cons_zero, List.set_cons_succ, List.length_cons, List.length_nil, List.drop_succ_cons, List.drop_zero, List.take_succ_cons, List.take_zero, List.reverse_cons, List.reverse_nil, List.nil_append, List.cons_append, Option.toList_some, Option.toList_none, true_and, and_true, true_or, or_true, Nat.reduceAdd, Nat.reduceLT, Nat.reduceLeDiff, Option.some.injEq, exists_eq_left', Int.toNat_natCast, Nat.reduceSub, List.append_nil, List.replicate_succ, List.replicate_zero]
    have pX := (mW_0 hWJ).2.2.1 X' (by omega)
    have pY := (mW_0 hWJ).2.2.1 Y (by omega)
    have qX : -1 ≤ pw (S' 0) X' := by rcases okF X' (by omega) with e' | e' <;> omega
    have qY : -1 ≤ pw (S' 0) Y := by rcases okF Y (by omega) with e' | e' <;> omega
    have lo' : ∀ b', b' < 338 → J' b' = I b' := fun b' hb' => by rw [fA b' (by omega) (by omega), mset_ne (by omega)]
    refine ⟨⟨by omega, by omega⟩, ⟨by omega, by omega⟩, ⟨by omega, by omega⟩, ⟨by omega, by omega⟩, X', Y, rfl, rfl, by omega, by omega, fun z' hz => ⟨fun y' => p82 J' _ lo' ?_, fun y' => ?_⟩⟩
    · have hc' := bz_f hz y'
      rw [eC', if_neg (fun w' => hc' ⟨w'.1, by have := w'.2.1; omega, by have := w'.2.2; omega⟩)]
      exact hJ
    · have hc' := bz_t hz y'
      refine ⟨⟨by omega, by omega⟩, ⟨by omega, by omega⟩, ⟨by omega, by omega⟩, ⟨by omega, by omega⟩, X', Y, κ, rfl, rfl, rfl, by omega, by omega, hc'.1, by omega, fun K' gA gB => p82 K' _ (fun b' hb' => by rw [gA b' (by omega), lo' b' hb']) ?_⟩
      rw [eC', if_pos ⟨hc'.1, by omega, by omega⟩, ← upMW]
      refine mdone hJ (okS_m1 (okS_rec ok) d5'.1 d5'.2) gA gB (fun i' hi' => ?_) (mW_glu (by omega) (by omega) hWJ gB)
      unfold wGlu
      rw [if_neg (by omega), if_neg (by omega), if_neg (by omega), if_neg (by omega), if_neg (by omega)]
  · exact hT.elim
theorem sp_X12_chance : mm_Sp yX12_chance cX12_chance 6 none rm_X12_chance T_X12_chance := mm_meth (by decide) (by
  intro av σ Post h
  unfold T_X12_chance at h
  split at h
  · simp
  · exact h.elim) (fun p l e s m args below meth c G av σ Post hC hr _ hav hin hk hT => pv_X12_chance av σ Post hav hin hk hT _ (bk_X12_chance hC hr))
def T_X12_drift : mm_T := fun av σ Post => match av with
  | [.inr (some a'), .inl k'] => mT (fun S' => driF S' k') a' σ Post
  | _ => False
def rm_X12_drift : Room := { frames := 3, cells := 0, slots := 0, locals := 69 }
def b_X12_drift_0 (Ok : Nat → mm_K) (Post : Option mm_V → mm_S → Prop) (kf : Nat) : mm_K := i_ld 1 (i_c 1 (i_c 12 (i_cs 3 T_X12_in (i_if (fun x => ¬ x = 0) (i_c 0 (i_st 2 (Ok 15))) (i_c (-1000000002) (i_ir Post kf))))))
def b_X12_drift_15 (Ok : Nat → mm_K) (Post : Option mm_V → mm_S → Prop) (kf : Nat) : mm_K := i_ld 2 (i_ld 1 (i_if2 (fun x y => y ≤ x) (i_la 0 (i_cv 11 0 T_X12_freeMany (i_ir Post kf))) (i_la 0 (i_cv 11 0 T_X12_chance (i_inc 2 1 (Ok 15))))))
def clo_X12_drift (Ok : Nat → mm_K) (Post : Option mm_V → mm_S → Prop) (kf : Nat) : Prop := mm_imp (b_X12_drift_0 Ok Post kf) (Ok 0) ∧ mm_imp (b_X12_drift_15 Ok Post kf) (Ok 15)
set_option maxRecDepth 100000 in
set_option maxHeartbeats 4000000 in
theorem bk_X12_drift {p : Program} {l : Launch} {e : Env} {s : State} {m : MethodId} {args : Array Value} {below : List Frame} {meth : Method} {c : Code} {G : mm_G} {σ0 : mm_S} {Post : Option mm_V → mm_S → Prop} (hC : mm_C p G s m args meth c cX12_drift yX12_drift.cls) (hr : meth.sig.returnType = some .int) : clo_X12_drift (mm_O p l e rm_X12_drift s m args below meth c G σ0.2.2 (MQ below (mm_Qc G σ0 rm_X12_drift.cells rm_X12_drift.slots Post) args s rm_X12_drift.cells rm_X12_drift.slots (mm_A G))) Post σ0.2.2 := ⟨(by unfold b_X12_drift_0; exact (mm_ld_n hC dX12_drift_0 rfl (mm_ic hC dX12_drift_1 ⟨by decide, by decide⟩ (mm_bp hC dX12_drift_2 ⟨⟨by decide, by decide⟩, by decide⟩ (mm_cs hC sp_X12_in ⟨rfl, rfl⟩ wd_979 wd_980 wd_981 wd_77 ⟨by decide, by decide, by decide +kernel⟩ ⟨by decide, by decide⟩ dX12_drift_4 (mm_if_ne hC (t := 13) dX12_drift_7 (by decide) (mm_ic hC dX12_drift_13 ⟨by decide, by decide⟩ (mm_st_n hC dX12_drift_14 rfl (fun _ _ _ h => h))) (mm_ldc hC dX12_drift_10 ⟨by decide, by decide⟩ wd_994 (mm_ir hC ⟨rfl, rfl⟩ hr dX12_drift_12)))))))), (by unfold b_X12_drift_15; exact (mm_ld_n hC dX12_drift_15 rfl (mm_ld_n hC dX12_drift_16 rfl (mm_ic_ge hC (t := 30) dX12_drift_17 (by decide) (mm_la_n hC dX12_drift_30 rfl (mm_cv hC sp_X12_freeMany ⟨rfl, rfl⟩ cl_11 wd_833 wd_835 wd_20 wd_836 wd_77 ⟨by decide, by decide, by decide +kernel⟩ ⟨by decide, by decide⟩ dX12_drift_31 (mm_ir hC ⟨rfl, rfl⟩ hr dX12_drift_34))) (mm_la_n hC dX12_drift_20 rfl (mm_cv hC sp_X12_chance ⟨rfl, rfl⟩ cl_11 wd_1108 wd_1110 wd_62 wd_1111 wd_77 ⟨by decide, by decide, by decide +kernel⟩ ⟨by decide, by decide⟩ dX12_drift_21 (mm_inc hC dX12_drift_24 (mm_goto hC (t := 15) dX12_drift_27 (by decide) (fun _ _ _ h => h)))))))))⟩
set_option maxRecDepth 100000 in
set_option maxHeartbeats 8000000 in
theorem pv_X12_drift : ∀ (av : List mm_V) (σ : mm_S) (Post : Option mm_V → mm_S → Prop), (∀ v ∈ av, mm_iv v) → (∀ a j, mm_in (σ.1 a j)) → σ.2.2 ≤ 348 → T_X12_drift av σ Post → ∀ Ok : Nat → mm_K, clo_X12_drift Ok Post σ.2.2 → Ok 0 (av ++ List.replicate (3 - av.length) (.inr none)) [] σ := by
  intro av σ Post hav hin hk hT Ok hcl
  obtain ⟨I, R0⟩ := σ
  unfold T_X12_drift at hT
  split at hT
  · rename_i a' k'
    obtain ⟨h0, hT⟩ := hT
    have h0 : R0 = mm_R0 := h0
    subst h0
    dsimp only at hT hin
    obtain ⟨c0, c15⟩ := hcl
    obtain ⟨rfl, S', hS', ok, hP⟩ := hT
    have w0' := m0
    have loop' : (1 ≤ k' ∧ k' ≤ 12) → ∀ (d' t' : Nat) (J' : Nat → Nat → Int), t' + d' = k'.toNat → loF J' I → mSt J' (itS t' S') → Ok 15 [.inr (some 338), .inl k', .inl (t' : Int)] [] (J', mm_R0) := by
      intro hk d'
      have e' : driF S' k' = (itS k'.toNat S', frn (pw (itS k'.toNat S' 0)) (4 * (itS k'.toNat S' 0 0).toNat)) := if_neg (fun w' => w' hk)
      simp only [e'] at hP
      induction d' with
      | zero =>
        intro t' J' hd' lJ hJ
        have okt := okS_it t' ok
        obtain ⟨nn, hn, hgm, _, _, hag⟩ := mSt_gM hJ okt
        rw [show k'.toNat = t' by omega] at hP
        refine c15 _ _ _ ?_
        simp only [b_X12_drift_15, i_xorg, i_shl, i_shr, i_ior, i_and1, i_lcg1, i_lcg2, i_ld, i_la, i_st, i_sa, i_c, i_inc, i_add, i_sub, i_mul, i_div, i_rem, i_remT, i_xor, i_dup, i_dup2, i_if, i_if2, i_sw, i_gi, i_gr, i_pi, i_pz, i_ial, i_ias, i_len, i_aal, i_gs, i_tal, i_cv, i_cs, i_ir, i_zr, i_vr, i_min, i_max, i_cpy, List.getElem?_cons_zero, List.getElem?_cons_succ, List.set_cons_zero, List.set_cons_succ, List.length_cons, List.length_nil, List.drop_succ_cons, List.drop_zero, List.take_succ_cons, List.take_zero, List.reverse_cons, List.reverse_nil, List.nil_append, List.cons_append, Option.toList_some, Option.toList_none, true_and, and_true, true_or, or_true, Nat.reduceAdd, Nat.reduceLT, Nat.reduceLeDiff, Option.some.injEq, exists_eq_left', Int.toNat_natCast, Nat.reduceSub, List.append_nil, List.replicate_succ, List.replicate_zero, mm_in, w0', T_X12_freeMany]
        refine ⟨fun _ => ⟨nn, hgm.1, hgm.2.2.1, fun j' hj => by rcases hgm.2.2.2 j' hj with e' | e' <;> omega, ?_⟩, fun h' => by omega⟩
        have := hP J' lJ hJ
        rw [hn, Int.toNat_natCast] at this
        rw [frn_cg (q := pw (itS t' S' 0)) (fun j' hj => hag.1 j' (by have := hgm.2.2.1; omega))]
        exact this
      | succ d' ih =>
        intro t' J' hd' lJ hJ
        refine c15 _ _ _ ?_
        simp only [b_X12_drift_15, i_xorg, i_shl, i_shr, i_ior, i_and1, i_lcg1, i_lcg2, i_ld, i_la, i_st, i_sa, i_c, i_inc, i_add, i_sub, i_mul, i_div, i_rem, i_remT, i_xor, i_dup, i_dup2, i_if, i_if2, i_sw, i_gi, i_gr, i_pi, i_pz, i_ial, i_ias, i_len, i_aal, i_gs, i_tal, i_cv, i_cs, i_ir, i_zr, i_vr, i_min, i_max, i_cpy, List.getElem?_cons_zero, List.getElem?_cons_succ, List.set_cons_zero, List.set_cons_succ, List.length_cons, List.length_nil, List.drop_succ_cons, List.drop_zero, List.take_succ_cons, List.take_zero, List.reverse_cons, List.reverse_nil, List.nil_append, List.cons_append, Option.toList_some, Option.toList_none, true_and, and_true, true_or, or_true, Nat.reduceAdd, Nat.reduceLT, Nat.reduceLeDiff, Option.some.injEq, exists_eq_left', Int.toNat_natCast, Nat.reduceSub, List.append_nil, List.replicate_succ, List.replicate_zero, mm_in, w0', T_X12_chance]
        refine ⟨fun h' => by omega, fun h' => ⟨itS t' S', hJ, okS_it t' ok, fun K' lK hK' => ?_⟩⟩
        have := ih (t' + 1) K' (by omega) (fun b' hb' => by rw [lK b' hb', lJ b' hb']) hK'
        rw [Int.natCast_add] at this
        exact ⟨⟨by omega, by omega⟩, this⟩
    refine c0 _ _ _ ?_
    simp only [b_X12_drift_0, i_xorg, i_shl, i_shr, i_ior, i_and1, i_lcg1, i_lcg2, i_ld, i_la, i_st, i_sa, i_c, i_inc, i_add, i_sub, i_mul, i_div, i_rem, i_remT, i_xor, i_dup, i_dup2, i_if, i_if2, i_sw, i_gi, i_gr, i_pi, i_pz, i_ial, i_ias, i_len, i_aal, i_gs, i_tal, i_cv, i_cs, i_ir, i_zr, i_vr, i_min, i_max, i_cpy, List.getElem?_cons_zero, List.getElem?_cons_succ, List.set_cons_zero, List.set_cons_succ, List.length_cons, List.length_nil, List.drop_succ_cons, List.drop_zero, List.take_succ_cons, List.take_zero, List.reverse_cons, List.reverse_nil, List.nil_append, List.cons_append, Option.toList_some, Option.toList_none, true_and, and_true, true_or, or_true, Nat.reduceAdd, Nat.reduceLT, Nat.reduceLeDiff, Option.some.injEq, exists_eq_left', Int.toNat_natCast, Nat.reduceSub, List.append_nil, List.replicate_succ, List.replicate_zero, mm_in, T_X12_in]
    refine fun z' hz => ⟨fun y' => loop' (bz_t hz y') k'.toNat 0 I (by omega) (loF_rf I) hS', fun y' => ?_⟩
    have e' : driF S' k' = (S', -1000000002) := if_pos (bz_f hz (by omega))
    simp only [e'] at hP
    exact hP I (loF_rf I) hS'
  · exact hT.elim
theorem sp_X12_drift : mm_Sp yX12_drift cX12_drift 3 (some .int) rm_X12_drift T_X12_drift := mm_meth (by decide) (by
  intro av σ Post h
  unfold T_X12_drift at h
  split at h
  · simp
  · exact h.elim) (fun p l e s m args below meth c G av σ Post hC hr _ hav hin hk hT => pv_X12_drift av σ Post hav hin hk hT _ (bk_X12_drift hC hr))
