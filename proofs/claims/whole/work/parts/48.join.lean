/-! the other program: pieces and their sides
-/
def sdM (nb : Nat → Int) (f v i : Nat) : Nat :=
  if i < (nb (7 * (f / 4) + v)).toNat then 2 * (20 * (7 * (f / 4) + v) + i)
  else if v = 0 ∨ f % 4 = 0 then 2 * (20 * (7 * (f / 4) + tg v (f % 4)) + (i - (nb (7 * (f / 4) + v)).toNat))
  else 2 * (20 * (7 * (f / 4) + tg v (f % 4)) + (nb (7 * (f / 4) + tg v (f % 4))).toNat - 1 - (i - (nb (7 * (f / 4) + v)).toNat)) + 1
theorem wf_tab : ∀ v : Nat, v < 4 → ∀ f : Nat, f < 4 → v ≠ f → ((v = 0 ∨ (v : Int) = (tg v f : Int) - 3) ↔ (v = 0 ∨ f = 0)) := by decide +kernel
def T_X12_isWithFirst : mm_T := fun av σ Post => match av with
  | [.inl q, .inl v] => σ.2 = mm_R0 ∧ 0 ≤ q ∧ q ≤ 6 ∧ ∀ z : Int, bz z (v = 0 ∨ v = q - 3) → Post (some (.inl z)) σ
  | _ => False
def rm_X12_isWithFirst : Room := { frames := 0, cells := 0, slots := 0, locals := 0 }
def b_X12_isWithFirst_0 (Ok : Nat → mm_K) (Post : Option mm_V → mm_S → Prop) (kf : Nat) : mm_K := i_ld 1 (i_if (fun x => x = 0) (Ok 11) (i_ld 1 (i_ld 0 (i_c 3 (i_sub (i_if2 (fun x y => ¬ x = y) (i_c 0 (Ok 16)) (Ok 11)))))))
def b_X12_isWithFirst_11 (Ok : Nat → mm_K) (Post : Option mm_V → mm_S → Prop) (kf : Nat) : mm_K := i_c 1 (Ok 16)
def b_X12_isWithFirst_16 (Ok : Nat → mm_K) (Post : Option mm_V → mm_S → Prop) (kf : Nat) : mm_K := i_zr Post kf
def clo_X12_isWithFirst (Ok : Nat → mm_K) (Post : Option mm_V → mm_S → Prop) (kf : Nat) : Prop := mm_imp (b_X12_isWithFirst_0 Ok Post kf) (Ok 0) ∧ mm_imp (b_X12_isWithFirst_11 Ok Post kf) (Ok 11) ∧ mm_imp (b_X12_isWithFirst_16 Ok Post kf) (Ok 16)
set_option maxRecDepth 100000 in
set_option maxHeartbeats 4000000 in
theorem bk_X12_isWithFirst {p : Program} {l : Launch} {e : Env} {s : State} {m : MethodId} {args : Array Value} {below : List Frame} {meth : Method} {c : Code} {G : mm_G} {σ0 : mm_S} {Post : Option mm_V → mm_S → Prop} (hC : mm_C p G s m args meth c cX12_isWithFirst yX12_isWithFirst.cls) (hr : meth.sig.returnType = some .boolean) : clo_X12_isWithFirst (mm_O p l e rm_X12_isWithFirst s m args below meth c G σ0.2.2 (MQ below (mm_Qc G σ0 rm_X12_isWithFirst.cells rm_X12_isWithFirst.slots Post) args s rm_X12_isWithFirst.cells rm_X12_isWithFirst.slots (mm_A G))) Post σ0.2.2 := ⟨(by unfold b_X12_isWithFirst_0; exact (mm_ld_n hC dX12_isWithFirst_0 rfl (mm_if_eq hC (t := 11) dX12_isWithFirst_1 (by decide) (fun _ _ _ h => h) (mm_ld_n hC dX12_isWithFirst_4 rfl (mm_ld_n hC dX12_isWithFirst_5 rfl (mm_ic hC dX12_isWithFirst_6 ⟨by decide, by decide⟩ (mm_sub hC dX12_isWithFirst_7 (mm_ic_ne hC (t := 15) dX12_isWithFirst_8 (by decide) (mm_ic hC dX12_isWithFirst_15 ⟨by decide, by decide⟩ (fun _ _ _ h => h)) (fun _ _ _ h => h))))))))), (by unfold b_X12_isWithFirst_11; exact (mm_ic hC dX12_isWithFirst_11 ⟨by decide, by decide⟩ (mm_goto hC (t := 16) dX12_isWithFirst_12 (by decide) (fun _ _ _ h => h)))), (by unfold b_X12_isWithFirst_16; exact (mm_zr hC ⟨rfl, rfl⟩ hr dX12_isWithFirst_16))⟩
set_option maxRecDepth 100000 in
set_option maxHeartbeats 8000000 in
theorem pv_X12_isWithFirst : ∀ (av : List mm_V) (σ : mm_S) (Post : Option mm_V → mm_S → Prop), (∀ v ∈ av, mm_iv v) → (∀ a j, mm_in (σ.1 a j)) → σ.2.2 ≤ 348 → T_X12_isWithFirst av σ Post → ∀ Ok : Nat → mm_K, clo_X12_isWithFirst Ok Post σ.2.2 → Ok 0 (av ++ List.replicate (2 - av.length) (.inr none)) [] σ := by
  intro av σ Post hav hin hk hT Ok hcl
  obtain ⟨I, R0⟩ := σ
  unfold T_X12_isWithFirst at hT
  split at hT
  · rename_i q v
    obtain ⟨h0, hT⟩ := hT
    have h0 : R0 = mm_R0 := h0
    subst h0
    dsimp only at hT hin
    obtain ⟨c0, c11, c16⟩ := hcl
    obtain ⟨h1, h2, hP⟩ := hT
    have f16 : ∀ y : Int, bz y (v = 0 ∨ v = q - 3) → Ok 16 [.inl q, .inl v] [.inl y] (I, mm_R0) := by
      intro y hy
      have := bz_01 hy
      refine c16 _ _ _ ?_
      simp only [b_X12_isWithFirst_16, i_xorg, i_shl, i_shr, i_ior, i_and1, i_lcg1, i_lcg2, i_ld, i_la, i_st, i_sa, i_c, i_inc, i_add, i_sub, i_mul, i_div, i_rem, i_remT, i_xor, i_dup, i_dup2, i_if, i_if2, i_sw, i_gi, i_gr, i_pi, i_pz, i_ial, i_ias, i_len, i_aal, i_gs, i_tal, i_cv, i_cs, i_ir, i_zr, i_vr, i_min, i_max, i_cpy, List.getElem?_cons_zero, List.getElem?_cons_succ, List.set_cons_zero, List.set_cons_succ, List.length_cons, List.length_nil, List.drop_succ_cons, List.drop_zero, List.take_succ_cons, List.take_zero, List.reverse_cons, List.reverse_nil, List.nil_append, List.cons_append, Option.toList_some, Option.toList_none, true_and, and_true, true_or, or_true, Nat.reduceAdd, Nat.reduceLT, Nat.reduceLeDiff, Option.some.injEq, exists_eq_left', Int.toNat_natCast, Nat.reduceSub, List.append_nil, List.replicate_succ, List.replicate_zero]
      exact ⟨by omega, hP y hy⟩
    have f11 : (v = 0 ∨ v = q - 3) → Ok 11 [.inl q, .inl v] [] (I, mm_R0) := by
      intro h
      refine c11 _ _ _ ?_
      simp only [b_X12_isWithFirst_11, i_xorg, i_shl, i_shr, i_ior, i_and1, i_lcg1, i_lcg2, i_ld, i_la, i_st, i_sa, i_c, i_inc, i_add, i_sub, i_mul, i_div, i_rem, i_remT, i_xor, i_dup, i_dup2, i_if, i_if2, i_sw, i_gi, i_gr, i_pi, i_pz, i_ial, i_ias, i_len, i_aal, i_gs, i_tal, i_cv, i_cs, i_ir, i_zr, i_vr, i_min, i_max, i_cpy, List.getElem?_cons_zero, List.getElem?_cons_succ, List.set_cons_zero, List.set_cons_succ, List.length_cons, List.length_nil, List.drop_succ_cons, List.drop_zero, List.take_succ_cons, List.take_zero, List.reverse_cons, List.reverse_nil, List.nil_append, List.cons_append, Option.toList_some, Option.toList_none, true_and, and_true, true_or, or_true, Nat.reduceAdd, Nat.reduceLT, Nat.reduceLeDiff, Option.some.injEq, exists_eq_left', Int.toNat_natCast, Nat.reduceSub, List.append_nil, List.replicate_succ, List.replicate_zero]
      exact f16 1 (bz_1 h)
    refine c0 _ _ _ ?_
    simp only [b_X12_isWithFirst_0, i_xorg, i_shl, i_shr, i_ior, i_and1, i_lcg1, i_lcg2, i_ld, i_la, i_st, i_sa, i_c, i_inc, i_add, i_sub, i_mul, i_div, i_rem, i_remT, i_xor, i_dup, i_dup2, i_if, i_if2, i_sw, i_gi, i_gr, i_pi, i_pz, i_ial, i_ias, i_len, i_aal, i_gs, i_tal, i_cv, i_cs, i_ir, i_zr, i_vr, i_min, i_max, i_cpy, List.getElem?_cons_zero, List.getElem?_cons_succ, List.set_cons_zero, List.set_cons_succ, List.length_cons, List.length_nil, List.drop_succ_cons, List.drop_zero, List.take_succ_cons, List.take_zero, List.reverse_cons, List.reverse_nil, List.nil_append, List.cons_append, Option.toList_some, Option.toList_none, true_and, and_true, true_or, or_true, Nat.reduceAdd, Nat.reduceLT, Nat.reduceLeDiff, Option.some.injEq, exists_eq_left', Int.toNat_natCast, Nat.reduceSub, List.append_nil, List.replicate_succ, List.replicate_zero, mm_in,]
    refine ⟨fun h => f11 (Or.inl h), fun h => ⟨⟨by omega, by omega⟩, fun h2 => f16 0 (bz_0 (by omega)), fun h2 => f11 (by omega)⟩⟩
  · exact hT.elim
theorem sp_X12_isWithFirst : mm_Sp yX12_isWithFirst cX12_isWithFirst 2 (some .boolean) rm_X12_isWithFirst T_X12_isWithFirst := mm_meth (by decide) (by
  intro av σ Post h
  unfold T_X12_isWithFirst at h
  split at h
  · simp
  · exact h.elim) (fun p l e s m args below meth c G av σ Post hC hr _ hav hin hk hT => pv_X12_isWithFirst av σ Post hav hin hk hT _ (bk_X12_isWithFirst hC hr))
def T_X12_pieceAt : mm_T := fun av σ Post => match av with
  | [.inr (some a), .inl s, .inl x, .inl y, .inl w] => σ.2 = mm_R0 ∧ a = 338 ∧ ∃ o f v i : Nat, s = o ∧ x = f ∧ y = v ∧ w = i ∧ o ≤ 2888 ∧ f < 12 ∧ v < 4 ∧ v ≠ f % 4 ∧ b20 (MN σ.1 o) ∧ (i : Int) < ac (MN σ.1 o) (f / 4) (f % 4) v ∧ Post (some (.inl ((sdM (MN σ.1 o) f v i / 2 : Nat) : Int))) σ
  | _ => False
def rm_X12_pieceAt : Room := { frames := 1, cells := 0, slots := 0, locals := 21 }
def b_X12_pieceAt_0 (Ok : Nat → mm_K) (Post : Option mm_V → mm_S → Prop) (kf : Nat) : mm_K := i_ld 2 (i_c 4 (i_div (i_st 5 (i_ld 3 (i_ld 2 (i_c 4 (i_rem (i_cs 2 T_X12_four (i_st 6 (i_la 0 (i_gr 11 0 (i_ld 1 (i_c 7 (i_ld 5 (i_mul (i_add (i_ld 3 (i_add (i_ial (i_st 7 (i_la 0 (i_gr 11 0 (i_ld 1 (i_c 7 (i_ld 5 (i_mul (i_add (i_ld 6 (i_add (i_ial (i_st 8 (i_ld 4 (i_ld 7 (i_if2 (fun x y => y ≤ x) (i_ld 4 (i_ld 7 (i_sub (i_st 9 (i_c 20 (i_c 7 (i_ld 5 (i_mul (i_ld 6 (i_add (i_mul (i_ld 6 (i_ld 3 (i_cs 2 T_X12_isWithFirst (i_if (fun x => x = 0) (i_ld 8 (i_c 1 (i_sub (i_ld 9 (i_sub (Ok 107)))))) (i_ld 9 (Ok 107))))))))))))))))) (i_c 20 (i_c 7 (i_ld 5 (i_mul (i_ld 3 (i_add (i_mul (i_ld 4 (i_add (i_ir Post kf))))))))))))))))))))))))))))))))))))))))))))
def b_X12_pieceAt_107 (Ok : Nat → mm_K) (Post : Option mm_V → mm_S → Prop) (kf : Nat) : mm_K := i_add (i_ir Post kf)
def clo_X12_pieceAt (Ok : Nat → mm_K) (Post : Option mm_V → mm_S → Prop) (kf : Nat) : Prop := mm_imp (b_X12_pieceAt_0 Ok Post kf) (Ok 0) ∧ mm_imp (b_X12_pieceAt_107 Ok Post kf) (Ok 107)
set_option maxRecDepth 100000 in
set_option maxHeartbeats 4000000 in
theorem bk_X12_pieceAt {p : Program} {l : Launch} {e : Env} {s : State} {m : MethodId} {args : Array Value} {below : List Frame} {meth : Method} {c : Code} {G : mm_G} {σ0 : mm_S} {Post : Option mm_V → mm_S → Prop} (hC : mm_C p G s m args meth c cX12_pieceAt yX12_pieceAt.cls) (hr : meth.sig.returnType = some .int) : clo_X12_pieceAt (mm_O p l e rm_X12_pieceAt s m args below meth c G σ0.2.2 (MQ below (mm_Qc G σ0 rm_X12_pieceAt.cells rm_X12_pieceAt.slots Post) args s rm_X12_pieceAt.cells rm_X12_pieceAt.slots (mm_A G))) Post σ0.2.2 := ⟨(by unfold b_X12_pieceAt_0; exact (mm_ld_n hC dX12_pieceAt_0 rfl (mm_ic hC dX12_pieceAt_1 ⟨by decide, by decide⟩ (mm_div hC dX12_pieceAt_2 (mm_st hC dX12_pieceAt_3 (mm_ld_n hC dX12_pieceAt_5 rfl (mm_ld_n hC dX12_pieceAt_6 rfl (mm_ic hC dX12_pieceAt_7 ⟨by decide, by decide⟩ (mm_rem hC dX12_pieceAt_8 (mm_cs hC sp_X12_four ⟨rfl, rfl⟩ wd_917 wd_918 wd_919 wd_77 ⟨by decide, by decide, by decide +kernel⟩ ⟨by decide, by decide⟩ dX12_pieceAt_9 (mm_st hC dX12_pieceAt_12 (mm_la_n hC dX12_pieceAt_14 rfl (mm_gr hC cl_11 (by decide) rfl wd_789 dX12_pieceAt_15 (mm_ld_n hC dX12_pieceAt_18 rfl (mm_bp hC dX12_pieceAt_19 ⟨⟨by decide, by decide⟩, by decide⟩ (mm_ld hC dX12_pieceAt_21 (mm_mul hC dX12_pieceAt_23 (mm_add hC dX12_pieceAt_24 (mm_ld_n hC dX12_pieceAt_25 rfl (mm_add hC dX12_pieceAt_26 (mm_ial hC dX12_pieceAt_27 (mm_st hC dX12_pieceAt_28 (mm_la_n hC dX12_pieceAt_30 rfl (mm_gr hC cl_11 (by decide) rfl wd_789 dX12_pieceAt_31 (mm_ld_n hC dX12_pieceAt_34 rfl (mm_bp hC dX12_pieceAt_35 ⟨⟨by decide, by decide⟩, by decide⟩ (mm_ld hC dX12_pieceAt_37 (mm_mul hC dX12_pieceAt_39 (mm_add hC dX12_pieceAt_40 (mm_ld hC dX12_pieceAt_41 (mm_add hC dX12_pieceAt_43 (mm_ial hC dX12_pieceAt_44 (mm_st hC dX12_pieceAt_45 (mm_ld hC dX12_pieceAt_47 (mm_ld hC dX12_pieceAt_49 (mm_ic_ge hC (t := 68) dX12_pieceAt_51 (by decide) (mm_ld hC dX12_pieceAt_68 (mm_ld hC dX12_pieceAt_70 (mm_sub hC dX12_pieceAt_72 (mm_st hC dX12_pieceAt_73 (mm_bp hC dX12_pieceAt_75 ⟨⟨by decide, by decide⟩, by decide⟩ (mm_bp hC dX12_pieceAt_77 ⟨⟨by decide, by decide⟩, by decide⟩ (mm_ld hC dX12_pieceAt_79 (mm_mul hC dX12_pieceAt_81 (mm_ld hC dX12_pieceAt_82 (mm_add hC dX12_pieceAt_84 (mm_mul hC dX12_pieceAt_85 (mm_ld hC dX12_pieceAt_86 (mm_ld_n hC dX12_pieceAt_88 rfl (mm_cs hC sp_X12_isWithFirst ⟨rfl, rfl⟩ wd_924 wd_925 wd_926 wd_77 ⟨by decide, by decide, by decide +kernel⟩ ⟨by decide, by decide⟩ dX12_pieceAt_89 (mm_if_eq hC (t := 100) dX12_pieceAt_92 (by decide) (mm_ld hC dX12_pieceAt_100 (mm_ic hC dX12_pieceAt_102 ⟨by decide, by decide⟩ (mm_sub hC dX12_pieceAt_103 (mm_ld hC dX12_pieceAt_104 (mm_sub hC dX12_pieceAt_106 (fun _ _ _ h => h)))))) (mm_ld hC dX12_pieceAt_95 (mm_goto hC (t := 107) dX12_pieceAt_97 (by decide) (fun _ _ _ h => h)))))))))))))))))) (mm_bp hC dX12_pieceAt_54 ⟨⟨by decide, by decide⟩, by decide⟩ (mm_bp hC dX12_pieceAt_56 ⟨⟨by decide, by decide⟩, by decide⟩ (mm_ld hC dX12_pieceAt_58 (mm_mul hC dX12_pieceAt_60 (mm_ld_n hC dX12_pieceAt_61 rfl (mm_add hC dX12_pieceAt_62 (mm_mul hC dX12_pieceAt_63 (mm_ld hC dX12_pieceAt_64 (mm_add hC dX12_pieceAt_66 (mm_ir hC ⟨rfl, rfl⟩ hr dX12_pieceAt_67)))))))))))))))))))))))))))))))))))))))))))))), (by unfold b_X12_pieceAt_107; exact (mm_add hC dX12_pieceAt_107 (mm_ir hC ⟨rfl, rfl⟩ hr dX12_pieceAt_108)))⟩
set_option maxRecDepth 100000 in
set_option maxHeartbeats 8000000 in
theorem pv_X12_pieceAt : ∀ (av : List mm_V) (σ : mm_S) (Post : Option mm_V → mm_S → Prop), (∀ v ∈ av, mm_iv v) → (∀ a j, mm_in (σ.1 a j)) → σ.2.2 ≤ 348 → T_X12_pieceAt av σ Post → ∀ Ok : Nat → mm_K, clo_X12_pieceAt Ok Post σ.2.2 → Ok 0 (av ++ List.replicate (10 - av.length) (.inr none)) [] σ := by
  intro av σ Post hav hin hk hT Ok hcl
  obtain ⟨I, R0⟩ := σ
  unfold T_X12_pieceAt at hT
  split at hT
  · rename_i a s x y w
    obtain ⟨h0, hT⟩ := hT
    have h0 : R0 = mm_R0 := h0
    subst h0
    dsimp only at hT hin
    obtain ⟨c0, c107⟩ := hcl
    obtain ⟨rfl, o, f, v, i, rfl, rfl, rfl, rfl, ho, hf, hv, hne, hb, hi, hP⟩ := hT
    have w0 := m0
    have w1 := m1
    have w2 := m2
    have hr := (tg_tab v hv (f % 4) (by omega) hne).2
    have wf := wf_tab v hv (f % 4) (by omega) hne
    have e4 : (f : Int) % 4 = ((f % 4 : Nat) : Int) := by omega
    have ed : (f : Int) / 4 = ((f / 4 : Nat) : Int) := by omega
    have b1 := hb (7 * (f / 4) + v) (by omega)
    have b2 := hb (7 * (f / 4) + tg v (f % 4)) (by omega)
    obtain ⟨q, hq⟩ : ∃ q, tg v (f % 4) = q := ⟨_, rfl⟩
    unfold ac at hi
    unfold sdM at hP
    rw [hq] at hr wf b2 hi hP
    obtain ⟨t, ht⟩ := Int.eq_ofNat_of_zero_le b1.1
    obtain ⟨u, hu⟩ := Int.eq_ofNat_of_zero_le b2.1
    rw [ht, hu] at hP hi
    rw [ht] at b1
    rw [hu] at b2
    rw [Int.toNat_natCast, Int.toNat_natCast] at hP
    have i1 : ((o : Int) + 7 * ((f / 4 : Nat) : Int) + v).toNat = o + (7 * (f / 4) + v) := by omega
    have i2 : ((o : Int) + 7 * ((f / 4 : Nat) : Int) + (q : Int)).toNat = o + (7 * (f / 4) + q) := by omega
    have ht' : I 339 (o + (7 * (f / 4) + v)) = (t : Int) := ht
    have hu' : I 339 (o + (7 * (f / 4) + q)) = (u : Int) := hu
    refine c0 _ _ _ ?_
    simp only [b_X12_pieceAt_0, i_xorg, i_shl, i_shr, i_ior, i_and1, i_lcg1, i_lcg2, i_ld, i_la, i_st, i_sa, i_c, i_inc, i_add, i_sub, i_mul, i_div, i_rem, i_remT, i_xor, i_dup, i_dup2, i_if, i_if2, i_sw, i_gi, i_gr, i_pi, i_pz, i_ial, i_ias, i_len, i_aal, i_gs, i_tal, i_cv, i_cs, i_ir, i_zr, i_vr, i_min, i_max, i_cpy, List.getElem?_cons_zero, List.getElem?_cons_succ, List.set_cons_zero, List.set_cons_succ, List.length_cons, List.length_nil, List.drop_succ_cons, List.drop_zero, List.take_succ_cons, List.take_zero, List.reverse_cons, List.reverse_nil, List.nil_append, List.cons_append, Option.toList_some, Option.toList_none, true_and, and_true, true_or, or_true, Nat.reduceAdd, Nat.reduceLT, Nat.reduceLeDiff, Option.some.injEq, exists_eq_left', Int.toNat_natCast, Nat.reduceSub, List.append_nil, List.replicate_succ, List.replicate_zero, mm_in, w0, w1, w2, ed, e4, T_X12_four, T_X12_isWithFirst]
    repeat' first | refine And.intro ?_ ?_ | refine fun (_ : _ ≤ _ ∧ _ < _) => ?_
    all_goals try omega
    refine ⟨v, f % 4, rfl, by omega, hv, by omega, hne, ?_⟩
    rw [hq, i1, i2, ht', hu']
    repeat' first | refine And.intro ?_ ?_ | refine fun (_ : _ ≤ _ ∧ _ < _) => ?_
    all_goals try omega
    · intro z1
      have f107 : ∀ z : Int, z = (if v = 0 ∨ f % 4 = 0 then (i : Int) - t else (u : Int) - 1 - ((i : Int) - t)) → Ok 107 [.inr (some 338), .inl (o : Int), .inl (f : Int), .inl (v : Int), .inl (i : Int), .inl ((f / 4 : Nat) : Int), .inl (q : Int), .inl (t : Int), .inl (u : Int), .inl ((i : Int) - t)] [.inl z, .inl (20 * (7 * ((f / 4 : Nat) : Int) + (q : Int)))] (I, mm_R0) := by
        intro z hz
        rw [if_neg (by omega)] at hP
        by_cases c : v = 0 ∨ f % 4 = 0
        · rw [if_pos c] at hP hz
          refine c107 _ _ _ ?_
          simp only [b_X12_pieceAt_107, i_xorg, i_shl, i_shr, i_ior, i_and1, i_lcg1, i_lcg2, i_ld, i_la, i_st, i_sa, i_c, i_inc, i_add, i_sub, i_mul, i_div, i_rem, i_remT, i_xor, i_dup, i_dup2, i_if, i_if2, i_sw, i_gi, i_gr, i_pi, i_pz, i_ial, i_ias, i_len, i_aal, i_gs, i_tal, i_cv, i_cs, i_ir, i_zr, i_vr, i_min, i_max, i_cpy, List.getElem?_cons_zero, List.getElem?_cons_succ, List.set_cons_zero, List.set_cons_succ, List.length_cons, List.length_nil, List.drop_succ_cons, List.drop_zero, List.take_succ_cons, List.take_zero, List.reverse_cons, List.reverse_nil, List.nil_append, List.cons_append, Option.toList_some, Option.toList_none, true_and, and_true, true_or, or_true, Nat.reduceAdd, Nat.reduceLT, Nat.reduceLeDiff, Option.some.injEq, exists_eq_left', Int.toNat_natCast, Nat.reduceSub, List.append_nil, List.replicate_succ, List.replicate_zero, mm_in,]
          refine ⟨⟨by omega, by omega⟩, ?_⟩
          rw [show 20 * (7 * ((f / 4 : Nat) : Int) + (q : Int)) + z = ((2 * (20 * (7 * (f / 4) + q) + (i - t)) / 2 : Nat) : Int) by omega]
          exact hP
        · rw [if_neg c] at hP hz
          refine c107 _ _ _ ?_
          simp only [b_X12_pieceAt_107, i_xorg, i_shl, i_shr, i_ior, i_and1, i_lcg1, i_lcg2, i_ld, i_la, i_st, i_sa, i_c, i_inc, i_add, i_sub, i_mul, i_div, i_rem, i_remT, i_xor, i_dup, i_dup2, i_if, i_if2, i_sw, i_gi, i_gr, i_pi, i_pz, i_ial, i_ias, i_len, i_aal, i_gs, i_tal, i_cv, i_cs, i_ir, i_zr, i_vr, i_min, i_max, i_cpy, List.getElem?_cons_zero, List.getElem?_cons_succ, List.set_cons_zero, List.set_cons_succ, List.length_cons, List.length_nil, List.drop_succ_cons, List.drop_zero, List.take_succ_cons, List.take_zero, List.reverse_cons, List.reverse_nil, List.nil_append, List.cons_append, Option.toList_some, Option.toList_none, true_and, and_true, true_or, or_true, Nat.reduceAdd, Nat.reduceLT, Nat.reduceLeDiff, Option.some.injEq, exists_eq_left', Int.toNat_natCast, Nat.reduceSub, List.append_nil, List.replicate_succ, List.replicate_zero, mm_in,]
          refine ⟨⟨by omega, by omega⟩, ?_⟩
          rw [show 20 * (7 * ((f / 4 : Nat) : Int) + (q : Int)) + z = (((2 * (20 * (7 * (f / 4) + q) + u - 1 - (i - t)) + 1) / 2 : Nat) : Int) by omega]
          exact hP
      repeat' first | refine And.intro ?_ ?_ | refine fun (_ : _ ≤ _ ∧ _ < _) => ?_
      all_goals try omega
      intro z hz
      repeat' first | refine And.intro ?_ ?_ | refine fun (_ : _ ≤ _ ∧ _ < _) => ?_
      all_goals try omega
      · intro z2
        have := bz_f hz z2
        repeat' first | refine And.intro ?_ ?_ | refine fun (_ : _ ≤ _ ∧ _ < _) => ?_
        all_goals try omega
        exact f107 _ (by rw [if_neg (by omega)])
      · intro z2
        have := bz_t hz z2
        exact f107 _ (by rw [if_pos (by omega)])
    · intro z1
      rw [if_pos (by omega)] at hP
      repeat' first | refine And.intro ?_ ?_ | refine fun (_ : _ ≤ _ ∧ _ < _) => ?_
      all_goals try omega
      rw [show 20 * (7 * ((f / 4 : Nat) : Int) + (v : Int)) + (i : Int) = ((2 * (20 * (7 * (f / 4) + v) + i) / 2 : Nat) : Int) by omega]
      exact hP
  · exact hT.elim
theorem sp_X12_pieceAt : mm_Sp yX12_pieceAt cX12_pieceAt 10 (some .int) rm_X12_pieceAt T_X12_pieceAt := mm_meth (by decide) (by
  intro av σ Post h
  unfold T_X12_pieceAt at h
  split at h
  · simp
  · exact h.elim) (fun p l e s m args below meth c G av σ Post hC hr _ hav hin hk hT => pv_X12_pieceAt av σ Post hav hin hk hT _ (bk_X12_pieceAt hC hr))
def T_X12_sideTo : mm_T := fun av σ Post => match av with
  | [.inl x, .inl y] => σ.2 = mm_R0 ∧ ∃ p v : Nat, x = p ∧ y = v ∧ p < 420 ∧ v < 4 ∧ ∀ z : Int, (p / 20 % 7 < 4 ∨ v = 0 ∨ (v : Int) = ((p / 20 % 7 : Nat) : Int) - 3) ∧ z = 2 * p ∨ ¬ (p / 20 % 7 < 4 ∨ v = 0 ∨ (v : Int) = ((p / 20 % 7 : Nat) : Int) - 3) ∧ z = 2 * p + 1 → Post (some (.inl z)) σ
  | _ => False
def rm_X12_sideTo : Room := { frames := 1, cells := 0, slots := 0, locals := 21 }
def b_X12_sideTo_0 (Ok : Nat → mm_K) (Post : Option mm_V → mm_S → Prop) (kf : Nat) : mm_K := i_ld 0 (i_c 20 (i_div (i_c 7 (i_rem (i_st 2 (i_c 2 (i_ld 0 (i_mul (i_ld 2 (i_c 4 (i_if2 (fun x y => x < y) (Ok 24) (i_ld 2 (i_ld 1 (i_cs 2 T_X12_isWithFirst (i_if (fun x => x = 0) (i_c 1 (Ok 29)) (Ok 24))))))))))))))))
def b_X12_sideTo_24 (Ok : Nat → mm_K) (Post : Option mm_V → mm_S → Prop) (kf : Nat) : mm_K := i_c 0 (Ok 29)
def b_X12_sideTo_29 (Ok : Nat → mm_K) (Post : Option mm_V → mm_S → Prop) (kf : Nat) : mm_K := i_add (i_ir Post kf)
def clo_X12_sideTo (Ok : Nat → mm_K) (Post : Option mm_V → mm_S → Prop) (kf : Nat) : Prop := mm_imp (b_X12_sideTo_0 Ok Post kf) (Ok 0) ∧ mm_imp (b_X12_sideTo_24 Ok Post kf) (Ok 24) ∧ mm_imp (b_X12_sideTo_29 Ok Post kf) (Ok 29)
set_option maxRecDepth 100000 in
set_option maxHeartbeats 4000000 in
theorem bk_X12_sideTo {p : Program} {l : Launch} {e : Env} {s : State} {m : MethodId} {args : Array Value} {below : List Frame} {meth : Method} {c : Code} {G : mm_G} {σ0 : mm_S} {Post : Option mm_V → mm_S → Prop} (hC : mm_C p G s m args meth c cX12_sideTo yX12_sideTo.cls) (hr : meth.sig.returnType = some .int) : clo_X12_sideTo (mm_O p l e rm_X12_sideTo s m args below meth c G σ0.2.2 (MQ below (mm_Qc G σ0 rm_X12_sideTo.cells rm_X12_sideTo.slots Post) args s rm_X12_sideTo.cells rm_X12_sideTo.slots (mm_A G))) Post σ0.2.2 := ⟨(by unfold b_X12_sideTo_0; exact (mm_ld_n hC dX12_sideTo_0 rfl (mm_bp hC dX12_sideTo_1 ⟨⟨by decide, by decide⟩, by decide⟩ (mm_div hC dX12_sideTo_3 (mm_bp hC dX12_sideTo_4 ⟨⟨by decide, by decide⟩, by decide⟩ (mm_rem hC dX12_sideTo_6 (mm_st_n hC dX12_sideTo_7 rfl (mm_ic hC dX12_sideTo_8 ⟨by decide, by decide⟩ (mm_ld_n hC dX12_sideTo_9 rfl (mm_mul hC dX12_sideTo_10 (mm_ld_n hC dX12_sideTo_11 rfl (mm_ic hC dX12_sideTo_12 ⟨by decide, by decide⟩ (mm_ic_lt hC (t := 24) dX12_sideTo_13 (by decide) (fun _ _ _ h => h) (mm_ld_n hC dX12_sideTo_16 rfl (mm_ld_n hC dX12_sideTo_17 rfl (mm_cs hC sp_X12_isWithFirst ⟨rfl, rfl⟩ wd_924 wd_925 wd_926 wd_77 ⟨by decide, by decide, by decide +kernel⟩ ⟨by decide, by decide⟩ dX12_sideTo_18 (mm_if_eq hC (t := 28) dX12_sideTo_21 (by decide) (mm_ic hC dX12_sideTo_28 ⟨by decide, by decide⟩ (fun _ _ _ h => h)) (fun _ _ _ h => h)))))))))))))))))), (by unfold b_X12_sideTo_24; exact (mm_ic hC dX12_sideTo_24 ⟨by decide, by decide⟩ (mm_goto hC (t := 29) dX12_sideTo_25 (by decide) (fun _ _ _ h => h)))), (by unfold b_X12_sideTo_29; exact (mm_add hC dX12_sideTo_29 (mm_ir hC ⟨rfl, rfl⟩ hr dX12_sideTo_30)))⟩
set_option maxRecDepth 100000 in
set_option maxHeartbeats 8000000 in
theorem pv_X12_sideTo : ∀ (av : List mm_V) (σ : mm_S) (Post : Option mm_V → mm_S → Prop), (∀ v ∈ av, mm_iv v) → (∀ a j, mm_in (σ.1 a j)) → σ.2.2 ≤ 348 → T_X12_sideTo av σ Post → ∀ Ok : Nat → mm_K, clo_X12_sideTo Ok Post σ.2.2 → Ok 0 (av ++ List.replicate (3 - av.length) (.inr none)) [] σ := by
  intro av σ Post hav hin hk hT Ok hcl
  obtain ⟨I, R0⟩ := σ
  unfold T_X12_sideTo at hT
  split at hT
  · rename_i x y
    obtain ⟨h0, hT⟩ := hT
    have h0 : R0 = mm_R0 := h0
    subst h0
    dsimp only at hT hin
    obtain ⟨c0, c24, c29⟩ := hcl
    obtain ⟨p, v, rfl, rfl, hp, hv, hP⟩ := hT
    have e7 : (p : Int) / 20 % 7 = ((p / 20 % 7 : Nat) : Int) := by omega
    obtain ⟨k, hk⟩ : ∃ k, p / 20 % 7 = k := ⟨_, rfl⟩
    rw [hk] at e7 hP
    have f29 : ∀ z : Int, (z = 0 ∧ (k < 4 ∨ v = 0 ∨ (v : Int) = (k : Int) - 3) ∨ z = 1 ∧ ¬ (k < 4 ∨ v = 0 ∨ (v : Int) = (k : Int) - 3)) → Ok 29 [.inl (p : Int), .inl (v : Int), .inl (k : Int)] [.inl z, .inl (2 * (p : Int))] (I, mm_R0) := by
      intro z hz
      refine c29 _ _ _ ?_
      simp only [b_X12_sideTo_29, i_xorg, i_shl, i_shr, i_ior, i_and1, i_lcg1, i_lcg2, i_ld, i_la, i_st, i_sa, i_c, i_inc, i_add, i_sub, i_mul, i_div, i_rem, i_remT, i_xor, i_dup, i_dup2, i_if, i_if2, i_sw, i_gi, i_gr, i_pi, i_pz, i_ial, i_ias, i_len, i_aal, i_gs, i_tal, i_cv, i_cs, i_ir, i_zr, i_vr, i_min, i_max, i_cpy, List.getElem?_cons_zero, List.getElem?_cons_succ, List.set_cons_zero, List.set_cons_succ, List.length_cons, List.length_nil, List.drop_succ_cons, List.drop_zero, List.take_succ_cons, List.take_zero, List.reverse_cons, List.reverse_nil, List.nil_append, List.cons_append, Option.toList_some, Option.toList_none, true_and, and_true, true_or, or_true, Nat.reduceAdd, Nat.reduceLT, Nat.reduceLeDiff, Option.some.injEq, exists_eq_left', Int.toNat_natCast, Nat.reduceSub, List.append_nil, List.replicate_succ, List.replicate_zero, mm_in,]
      exact ⟨⟨by omega, by omega⟩, hP _ (by omega)⟩
    have f24 : (k < 4 ∨ v = 0 ∨ (v : Int) = (k : Int) - 3) → Ok 24 [.inl (p : Int), .inl (v : Int), .inl (k : Int)] [.inl (2 * (p : Int))] (I, mm_R0) := by
      intro h
      refine c24 _ _ _ ?_
      simp only [b_X12_sideTo_24, i_xorg, i_shl, i_shr, i_ior, i_and1, i_lcg1, i_lcg2, i_ld, i_la, i_st, i_sa, i_c, i_inc, i_add, i_sub, i_mul, i_div, i_rem, i_remT, i_xor, i_dup, i_dup2, i_if, i_if2, i_sw, i_gi, i_gr, i_pi, i_pz, i_ial, i_ias, i_len, i_aal, i_gs, i_tal, i_cv, i_cs, i_ir, i_zr, i_vr, i_min, i_max, i_cpy, List.getElem?_cons_zero, List.getElem?_cons_succ, List.set_cons_zero, List.set_cons_succ, List.length_cons, List.length_nil, List.drop_succ_cons, List.drop_zero, List.take_succ_cons, List.take_zero, List.reverse_cons, List.reverse_nil, List.nil_append, List.cons_append, Option.toList_some, Option.toList_none, true_and, and_true, true_or, or_true, Nat.reduceAdd, Nat.reduceLT, Nat.reduceLeDiff, Option.some.injEq, exists_eq_left', Int.toNat_natCast, Nat.reduceSub, List.append_nil, List.replicate_succ, List.replicate_zero]
      exact f29 0 (Or.inl ⟨rfl, h⟩)
    refine c0 _ _ _ ?_
    simp only [b_X12_sideTo_0, i_xorg, i_shl, i_shr, i_ior, i_and1, i_lcg1, i_lcg2, i_ld, i_la, i_st, i_sa, i_c, i_inc, i_add, i_sub, i_mul, i_div, i_rem, i_remT, i_xor, i_dup, i_dup2, i_if, i_if2, i_sw, i_gi, i_gr, i_pi, i_pz, i_ial, i_ias, i_len, i_aal, i_gs, i_tal, i_cv, i_cs, i_ir, i_zr, i_vr, i_min, i_max, i_cpy, List.getElem?_cons_zero, List.getElem?_cons_succ, List.set_cons_zero, List.set_cons_succ, List.length_cons, List.length_nil, List.drop_succ_cons, List.drop_zero, List.take_succ_cons, List.take_zero, List.reverse_cons, List.reverse_nil, List.nil_append, List.cons_append, Option.toList_some, Option.toList_none, true_and, and_true, true_or, or_true, Nat.reduceAdd, Nat.reduceLT, Nat.reduceLeDiff, Option.some.injEq, exists_eq_left', Int.toNat_natCast, Nat.reduceSub, List.append_nil, List.replicate_succ, List.replicate_zero, mm_in, e7, T_X12_isWithFirst]
    repeat' first | refine And.intro ?_ ?_ | refine fun (_ : _ ≤ _ ∧ _ < _) => ?_
    all_goals try omega
    · intro h
      exact f24 (by omega)
    · intro h
      repeat' first | refine And.intro ?_ ?_ | refine fun (_ : _ ≤ _ ∧ _ < _) => ?_
      all_goals try omega
      intro z hz
      repeat' first | refine And.intro ?_ ?_ | refine fun (_ : _ ≤ _ ∧ _ < _) => ?_
      all_goals try omega
      · intro h2
        have := bz_f hz h2
        exact f29 1 (Or.inr ⟨rfl, by omega⟩)
      · intro h2
        have := bz_t hz h2
        exact f24 (by omega)
  · exact hT.elim
theorem sp_X12_sideTo : mm_Sp yX12_sideTo cX12_sideTo 3 (some .int) rm_X12_sideTo T_X12_sideTo := mm_meth (by decide) (by
  intro av σ Post h
  unfold T_X12_sideTo at h
  split at h
  · simp
  · exact h.elim) (fun p l e s m args below meth c G av σ Post hC hr _ hav hin hk hT => pv_X12_sideTo av σ Post hav hin hk hT _ (bk_X12_sideTo hC hr))
