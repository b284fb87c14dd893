/-! PieceSurfaces$Survey (cell 1): boundary, Euler characteristic, links -/
def bdy (n : Nat) (pa nb : Nat → Int) : Int := sm (fun f => if pa f < 0 then aw nb (f / 4) (f % 4) else 0) (4 * n)
def arcsum (n : Nat) (pa nb : Nat → Int) : Int := sm (fun f => if pa f < 0 ∨ (f : Int) < pa f then aw nb (f / 4) (f % 4) else 0) (4 * n)
def wsum (n : Nat) (Le : Nat → Nat) (nb : Nat → Int) : Int := sm (fun e => if Le e = e then wt nb (e / 6) (e % 6) else 0) (6 * n)
def eul (n : Nat) (pa : Nat → Int) (Le : Nat → Nat) (nb : Nat → Int) : Int := sm nb 21 + wsum n Le nb - arcsum n pa nb
theorem wt_b {nb : Nat → Int} (h : bd nb) {b e : Nat} (hb : b < 3) (he : e < 6) : 0 ≤ wt nb b e ∧ wt nb b e ≤ 5000 := by
  obtain ⟨l1, l2, l3, l4, l5⟩ := elo_b e he
  have h1 := h (7 * b + elo e) (by omega)
  have h2 := h (7 * b + ehi e) (by omega)
  have h3 := sm_bound (f := fun t => if 4 + t = tg (elo e) (ehi e) then 0 else nb (7 * b + (4 + t))) (n := 3) (c := 1000) (fun k hk => by
    split
    · omega
    · exact h _ (by omega))
  unfold wt
  omega
def T_X9_boundary : mm_T := fun av σ Post => match av with
  | [.inr (some s), .inr (some a)] => σ.2 = mm_R0 ∧ s = 1 ∧ (mm_sh a).1 = 6 ∧ ∃ n : Nat, gw σ.1 n ∧ bd (σ.1 (a + 1)) ∧ Post (some (.inl (bdy n (σ.1 3) (σ.1 (a + 1))))) σ
  | _ => False
def rm_X9_boundary : Room := { frames := 3, cells := 0, slots := 0, locals := 68 }
def b_X9_boundary_0 (Ok : Nat → mm_K) (Post : Option mm_V → mm_S → Prop) (kf : Nat) : mm_K := i_c 0 (i_st 2 (i_c 0 (i_st 3 (Ok 4))))
def b_X9_boundary_4 (Ok : Nat → mm_K) (Post : Option mm_V → mm_S → Prop) (kf : Nat) : mm_K := i_ld 3 (i_la 0 (i_gr 8 0 (i_cv 9 0 T_X10_faces (i_if2 (fun x y => y ≤ x) (i_ld 2 (i_ir Post kf)) (i_ld 2 (i_la 0 (i_gr 8 0 (i_gr 9 2 (i_ld 3 (i_ial (i_if (fun x => 0 ≤ x) (i_c 0 (Ok 42)) (i_la 1 (i_ld 3 (i_c 4 (i_div (i_ld 3 (i_c 4 (i_rem (i_cv 6 2 T_X7_arcsOn (Ok 42))))))))))))))))))))
def b_X9_boundary_42 (Ok : Nat → mm_K) (Post : Option mm_V → mm_S → Prop) (kf : Nat) : mm_K := i_add (i_st 2 (i_inc 3 1 (Ok 4)))
def clo_X9_boundary (Ok : Nat → mm_K) (Post : Option mm_V → mm_S → Prop) (kf : Nat) : Prop := mm_imp (b_X9_boundary_0 Ok Post kf) (Ok 0) ∧ mm_imp (b_X9_boundary_4 Ok Post kf) (Ok 4) ∧ mm_imp (b_X9_boundary_42 Ok Post kf) (Ok 42)
set_option maxRecDepth 100000 in
set_option maxHeartbeats 4000000 in
theorem bk_X9_boundary {p : Program} {l : Launch} {e : Env} {s : State} {m : MethodId} {args : Array Value} {below : List Frame} {meth : Method} {c : Code} {G : mm_G} {σ0 : mm_S} {Post : Option mm_V → mm_S → Prop} (hC : mm_C p G s m args meth c cX9_boundary yX9_boundary.cls) (hr : meth.sig.returnType = some .int) : clo_X9_boundary (mm_O p l e rm_X9_boundary s m args below meth c G σ0.2.2 (MQ below (mm_Qc G σ0 rm_X9_boundary.cells rm_X9_boundary.slots Post) args s rm_X9_boundary.cells rm_X9_boundary.slots (mm_A G))) Post σ0.2.2 := ⟨(by unfold b_X9_boundary_0; exact (mm_ic hC dX9_boundary_0 ⟨by decide, by decide⟩ (mm_st_n hC dX9_boundary_1 rfl (mm_ic hC dX9_boundary_2 ⟨by decide, by decide⟩ (mm_st_n hC dX9_boundary_3 rfl (fun _ _ _ h => h)))))), (by unfold b_X9_boundary_4; exact (mm_ld_n hC dX9_boundary_4 rfl (mm_la_n hC dX9_boundary_5 rfl (mm_gr hC cl_8 (by decide) rfl wd_219 dX9_boundary_6 (mm_cv hC sp_X10_faces ⟨rfl, rfl⟩ cl_9 wd_449 wd_358 wd_359 wd_360 wd_67 ⟨by decide, by decide, by decide +kernel⟩ ⟨by decide, by decide⟩ dX9_boundary_9 (mm_ic_ge hC (t := 50) dX9_boundary_12 (by decide) (mm_ld_n hC dX9_boundary_50 rfl (mm_ir hC ⟨rfl, rfl⟩ hr dX9_boundary_51)) (mm_ld_n hC dX9_boundary_15 rfl (mm_la_n hC dX9_boundary_16 rfl (mm_gr hC cl_8 (by decide) rfl wd_219 dX9_boundary_17 (mm_gr hC cl_9 (by decide) rfl wd_129 dX9_boundary_20 (mm_ld_n hC dX9_boundary_23 rfl (mm_ial hC dX9_boundary_24 (mm_if_ge hC (t := 41) dX9_boundary_25 (by decide) (mm_ic hC dX9_boundary_41 ⟨by decide, by decide⟩ (fun _ _ _ h => h)) (mm_la_n hC dX9_boundary_28 rfl (mm_ld_n hC dX9_boundary_29 rfl (mm_ic hC dX9_boundary_30 ⟨by decide, by decide⟩ (mm_div hC dX9_boundary_31 (mm_ld_n hC dX9_boundary_32 rfl (mm_ic hC dX9_boundary_33 ⟨by decide, by decide⟩ (mm_rem hC dX9_boundary_34 (mm_cv hC sp_X7_arcsOn ⟨rfl, rfl⟩ cl_6 wd_477 wd_478 wd_479 wd_480 wd_68 ⟨by decide, by decide, by decide +kernel⟩ ⟨by decide, by decide⟩ dX9_boundary_35 (mm_goto hC (t := 42) dX9_boundary_38 (by decide) (fun _ _ _ h => h))))))))))))))))))))))), (by unfold b_X9_boundary_42; exact (mm_add hC dX9_boundary_42 (mm_st_n hC dX9_boundary_43 rfl (mm_inc hC dX9_boundary_44 (mm_goto hC (t := 4) dX9_boundary_47 (by decide) (fun _ _ _ h => h))))))⟩
set_option maxRecDepth 100000 in
set_option maxHeartbeats 8000000 in
theorem pv_X9_boundary : ∀ (av : List mm_V) (σ : mm_S) (Post : Option mm_V → mm_S → Prop), (∀ v ∈ av, mm_iv v) → (∀ a j, mm_in (σ.1 a j)) → σ.2.2 ≤ 348 → T_X9_boundary av σ Post → ∀ Ok : Nat → mm_K, clo_X9_boundary Ok Post σ.2.2 → Ok 0 (av ++ List.replicate (4 - av.length) (.inr none)) [] σ := by
  intro av σ Post hav hin hk hT Ok hcl
  obtain ⟨I, R0⟩ := σ
  unfold T_X9_boundary at hT
  split at hT
  · rename_i s a
    obtain ⟨h0, hT⟩ := hT
    have h0 : R0 = mm_R0 := h0
    subst h0
    dsimp only at hT hin
    obtain ⟨c0, c4, c42⟩ := hcl
    obtain ⟨rfl, h1, n, ⟨hn, hn1, hn3, hg⟩, h4, hP⟩ := hT
    have ha := sh_lt h1 (by decide)
    obtain ⟨r0, r1, r2, r3, r4, r5, r6, r7, r8, r9⟩ := Rs_1
    obtain ⟨w1, w2, w3, w4, w5, w6⟩ := Rs_2
    have loop : ∀ (d f : Nat), f + d = 4 * n → Ok 4 [.inr (some 1), .inr (some a), .inl (sm (fun f => if I 3 f < 0 then aw (I (a + 1)) (f / 4) (f % 4) else 0) f), .inl (f : Int)] [] (I, mm_R0) := by
      intro d
      induction d with
      | zero =>
        intro f hd
        refine c4 _ _ _ ?_
        simp only [b_X9_boundary_4, i_ld, i_la, i_st, i_sa, i_c, i_inc, i_add, i_sub, i_mul, i_div, i_rem, i_remT, i_xor, i_dup, i_dup2, i_if, i_if2, i_sw, i_gi, i_gr, i_pi, i_pz, i_ial, i_ias, i_len, i_aal, i_gs, i_tal, i_cv, i_cs, i_ir, i_zr, i_vr, i_min, i_max, i_cpy, List.getElem?_cons_zero, List.getElem?_cons_succ, List.set_cons_zero, List.set_cons_succ, List.length_cons, List.length_nil, List.drop_succ_cons, List.drop_zero, List.take_succ_cons, List.take_zero, List.reverse_cons, List.reverse_nil, List.nil_append, List.cons_append, Option.toList_some, Option.toList_none, true_and, and_true, true_or, or_true, Nat.reduceAdd, Nat.reduceLT, Nat.reduceLeDiff, Option.some.injEq, exists_eq_left', Int.toNat_natCast, Nat.reduceSub, List.append_nil, List.replicate_succ, List.replicate_zero, mm_in, r0, r9, w4, hn, T_X10_faces]
        refine ⟨by omega, by omega, fun _ => ?_, fun z => by omega⟩
        rw [show f = 4 * n by omega]
        exact hP
      | succ d ih =>
        intro f hd
        have e1 : (f : Int) / 4 = ((f / 4 : Nat) : Int) := by omega
        have e2 : (f : Int) % 4 = ((f % 4 : Nat) : Int) := by omega
        have hb := sm_bound (f := fun f => if I 3 f < 0 then aw (I (a + 1)) (f / 4) (f % 4) else 0) (n := f) (c := 8000) (fun k hk => by
          split
          · exact aw_b h4 (by omega) (by omega)
          · omega)
        have haw := aw_b h4 (b := f / 4) (f := f % 4) (by omega) (by omega)
        have go := ih (f + 1) (by omega)
        have hs : sm (fun f => if I 3 f < 0 then aw (I (a + 1)) (f / 4) (f % 4) else 0) (f + 1) = sm (fun f => if I 3 f < 0 then aw (I (a + 1)) (f / 4) (f % 4) else 0) f + if I 3 f < 0 then aw (I (a + 1)) (f / 4) (f % 4) else 0 := rfl
        rw [hs] at go
        refine c4 _ _ _ ?_
        simp only [b_X9_boundary_4, i_ld, i_la, i_st, i_sa, i_c, i_inc, i_add, i_sub, i_mul, i_div, i_rem, i_remT, i_xor, i_dup, i_dup2, i_if, i_if2, i_sw, i_gi, i_gr, i_pi, i_pz, i_ial, i_ias, i_len, i_aal, i_gs, i_tal, i_cv, i_cs, i_ir, i_zr, i_vr, i_min, i_max, i_cpy, List.getElem?_cons_zero, List.getElem?_cons_succ, List.set_cons_zero, List.set_cons_succ, List.length_cons, List.length_nil, List.drop_succ_cons, List.drop_zero, List.take_succ_cons, List.take_zero, List.reverse_cons, List.reverse_nil, List.nil_append, List.cons_append, Option.toList_some, Option.toList_none, true_and, and_true, true_or, or_true, Nat.reduceAdd, Nat.reduceLT, Nat.reduceLeDiff, Option.some.injEq, exists_eq_left', Int.toNat_natCast, Nat.reduceSub, List.append_nil, List.replicate_succ, List.replicate_zero, mm_in, r0, r9, w1, w4, w5, hn, T_X10_faces, e1, e2, T_X7_arcsOn, h1, ha]
        refine ⟨by omega, by omega, fun z => by omega, fun _ => ⟨⟨by omega, by omega⟩, fun _ => ⟨fun q => ?_, fun q => ?_⟩⟩⟩
        · refine c42 _ _ _ ?_
          simp only [b_X9_boundary_42, i_ld, i_la, i_st, i_sa, i_c, i_inc, i_add, i_sub, i_mul, i_div, i_rem, i_remT, i_xor, i_dup, i_dup2, i_if, i_if2, i_sw, i_gi, i_gr, i_pi, i_pz, i_ial, i_ias, i_len, i_aal, i_gs, i_tal, i_cv, i_cs, i_ir, i_zr, i_vr, i_min, i_max, i_cpy, List.getElem?_cons_zero, List.getElem?_cons_succ, List.set_cons_zero, List.set_cons_succ, List.length_cons, List.length_nil, List.drop_succ_cons, List.drop_zero, List.take_succ_cons, List.take_zero, List.reverse_cons, List.reverse_nil, List.nil_append, List.cons_append, Option.toList_some, Option.toList_none, true_and, and_true, true_or, or_true, Nat.reduceAdd, Nat.reduceLT, Nat.reduceLeDiff, Option.some.injEq, exists_eq_left', Int.toNat_natCast, Nat.reduceSub, List.append_nil, List.replicate_succ, List.replicate_zero, mm_in,]
          rw [if_neg (by omega)] at go
          exact ⟨⟨by omega, by omega⟩, ⟨by omega, by omega⟩, go⟩
        · refine ⟨⟨by omega, by omega⟩, ⟨by omega, by omega⟩, f / 4, f % 4, rfl, rfl, by omega, by omega, h4, ?_⟩
          refine c42 _ _ _ ?_
          simp only [b_X9_boundary_42, i_ld, i_la, i_st, i_sa, i_c, i_inc, i_add, i_sub, i_mul, i_div, i_rem, i_remT, i_xor, i_dup, i_dup2, i_if, i_if2, i_sw, i_gi, i_gr, i_pi, i_pz, i_ial, i_ias, i_len, i_aal, i_gs, i_tal, i_cv, i_cs, i_ir, i_zr, i_vr, i_min, i_max, i_cpy, List.getElem?_cons_zero, List.getElem?_cons_succ, List.set_cons_zero, List.set_cons_succ, List.length_cons, List.length_nil, List.drop_succ_cons, List.drop_zero, List.take_succ_cons, List.take_zero, List.reverse_cons, List.reverse_nil, List.nil_append, List.cons_append, Option.toList_some, Option.toList_none, true_and, and_true, true_or, or_true, Nat.reduceAdd, Nat.reduceLT, Nat.reduceLeDiff, Option.some.injEq, exists_eq_left', Int.toNat_natCast, Nat.reduceSub, List.append_nil, List.replicate_succ, List.replicate_zero, mm_in,]
          rw [if_pos (by omega)] at go
          exact ⟨⟨by omega, by omega⟩, ⟨by omega, by omega⟩, go⟩
    refine c0 _ _ _ ?_
    simp only [b_X9_boundary_0, i_ld, i_la, i_st, i_sa, i_c, i_inc, i_add, i_sub, i_mul, i_div, i_rem, i_remT, i_xor, i_dup, i_dup2, i_if, i_if2, i_sw, i_gi, i_gr, i_pi, i_pz, i_ial, i_ias, i_len, i_aal, i_gs, i_tal, i_cv, i_cs, i_ir, i_zr, i_vr, i_min, i_max, i_cpy, List.getElem?_cons_zero, List.getElem?_cons_succ, List.set_cons_zero, List.set_cons_succ, List.length_cons, List.length_nil, List.drop_succ_cons, List.drop_zero, List.take_succ_cons, List.take_zero, List.reverse_cons, List.reverse_nil, List.nil_append, List.cons_append, Option.toList_some, Option.toList_none, true_and, and_true, true_or, or_true, Nat.reduceAdd, Nat.reduceLT, Nat.reduceLeDiff, Option.some.injEq, exists_eq_left', Int.toNat_natCast, Nat.reduceSub, List.append_nil, List.replicate_succ, List.replicate_zero]
    exact loop (4 * n) 0 (by omega)
  · exact hT.elim
theorem sp_X9_boundary : mm_Sp yX9_boundary cX9_boundary 4 (some .int) rm_X9_boundary T_X9_boundary := mm_meth (by decide) (by
  intro av σ Post h
  unfold T_X9_boundary at h
  split at h
  · simp
  · exact h.elim) (fun p l e s m args below meth c G av σ Post hC hr _ hav hin hk hT => pv_X9_boundary av σ Post hav hin hk hT _ (bk_X9_boundary hC hr))
def T_X9_characteristic : mm_T := fun av σ Post => match av with
  | [.inr (some s), .inr (some a)] => σ.2 = mm_R0 ∧ s = 1 ∧ (mm_sh a).1 = 6 ∧ ∃ (n : Nat) (L : LT), gw σ.1 n ∧ SK σ.1 n L ∧ bd (σ.1 (a + 1)) ∧ Post (some (.inl (eul n (σ.1 3) L.2.1 (σ.1 (a + 1))))) σ
  | _ => False
def rm_X9_characteristic : Room := { frames := 3, cells := 0, slots := 0, locals := 68 }
def b_X9_characteristic_0 (Ok : Nat → mm_K) (Post : Option mm_V → mm_S → Prop) (kf : Nat) : mm_K := i_la 1 (i_cv 6 0 T_X7_total (i_st 2 (i_c 0 (i_st 3 (Ok 7)))))
def b_X9_characteristic_7 (Ok : Nat → mm_K) (Post : Option mm_V → mm_S → Prop) (kf : Nat) : mm_K := i_ld 3 (i_la 0 (i_gr 8 1 (i_gi 7 8 (i_if2 (fun x y => y ≤ x) (i_c 0 (i_st 3 (Ok 54))) (i_la 0 (i_gr 8 1 (i_gr 7 6 (i_ld 3 (i_ial (i_st 4 (i_ld 2 (i_la 1 (i_ld 4 (i_c 6 (i_div (i_ld 4 (i_c 6 (i_rem (i_cv 6 2 T_X7_weightOn (i_add (i_st 2 (i_inc 3 1 (Ok 7)))))))))))))))))))))))
def b_X9_characteristic_54 (Ok : Nat → mm_K) (Post : Option mm_V → mm_S → Prop) (kf : Nat) : mm_K := i_ld 3 (i_la 0 (i_gr 8 0 (i_cv 9 0 T_X10_faces (i_if2 (fun x y => y ≤ x) (i_ld 2 (i_ir Post kf)) (i_la 0 (i_gr 8 0 (i_gr 9 2 (i_ld 3 (i_ial (i_if (fun x => x < 0) (Ok 88) (i_la 0 (i_gr 8 0 (i_ld 3 (i_cv 9 1 T_X10_leads (i_if (fun x => x = 0) (Ok 101) (Ok 88))))))))))))))))
def b_X9_characteristic_88 (Ok : Nat → mm_K) (Post : Option mm_V → mm_S → Prop) (kf : Nat) : mm_K := i_ld 2 (i_la 1 (i_ld 3 (i_c 4 (i_div (i_ld 3 (i_c 4 (i_rem (i_cv 6 2 T_X7_arcsOn (i_sub (i_st 2 (Ok 101)))))))))))
def b_X9_characteristic_101 (Ok : Nat → mm_K) (Post : Option mm_V → mm_S → Prop) (kf : Nat) : mm_K := i_inc 3 1 (Ok 54)
def clo_X9_characteristic (Ok : Nat → mm_K) (Post : Option mm_V → mm_S → Prop) (kf : Nat) : Prop := mm_imp (b_X9_characteristic_0 Ok Post kf) (Ok 0) ∧ mm_imp (b_X9_characteristic_7 Ok Post kf) (Ok 7) ∧ mm_imp (b_X9_characteristic_54 Ok Post kf) (Ok 54) ∧ mm_imp (b_X9_characteristic_88 Ok Post kf) (Ok 88) ∧ mm_imp (b_X9_characteristic_101 Ok Post kf) (Ok 101)
set_option maxRecDepth 100000 in
set_option maxHeartbeats 4000000 in
theorem bk_X9_characteristic {p : Program} {l : Launch} {e : Env} {s : State} {m : MethodId} {args : Array Value} {below : List Frame} {meth : Method} {c : Code} {G : mm_G} {σ0 : mm_S} {Post : Option mm_V → mm_S → Prop} (hC : mm_C p G s m args meth c cX9_characteristic yX9_characteristic.cls) (hr : meth.sig.returnType = some .int) : clo_X9_characteristic (mm_O p l e rm_X9_characteristic s m args below meth c G σ0.2.2 (MQ below (mm_Qc G σ0 rm_X9_characteristic.cells rm_X9_characteristic.slots Post) args s rm_X9_characteristic.cells rm_X9_characteristic.slots (mm_A G))) Post σ0.2.2 := ⟨(by unfold b_X9_characteristic_0; exact (mm_la_n hC dX9_characteristic_0 rfl (mm_cv hC sp_X7_total ⟨rfl, rfl⟩ cl_6 wd_486 wd_487 wd_488 wd_489 wd_68 ⟨by decide, by decide, by decide +kernel⟩ ⟨by decide, by decide⟩ dX9_characteristic_1 (mm_st_n hC dX9_characteristic_4 rfl (mm_ic hC dX9_characteristic_5 ⟨by decide, by decide⟩ (mm_st_n hC dX9_characteristic_6 rfl (fun _ _ _ h => h))))))), (by unfold b_X9_characteristic_7; exact (mm_ld_n hC dX9_characteristic_7 rfl (mm_la_n hC dX9_characteristic_8 rfl (mm_gr hC cl_8 (by decide) rfl wd_221 dX9_characteristic_9 (mm_gi hC cl_7 (by decide) rfl wd_182 dX9_characteristic_12 (mm_ic_ge hC (t := 52) dX9_characteristic_15 (by decide) (mm_ic hC dX9_characteristic_52 ⟨by decide, by decide⟩ (mm_st_n hC dX9_characteristic_53 rfl (fun _ _ _ h => h))) (mm_la_n hC dX9_characteristic_18 rfl (mm_gr hC cl_8 (by decide) rfl wd_221 dX9_characteristic_19 (mm_gr hC cl_7 (by decide) rfl wd_176 dX9_characteristic_22 (mm_ld_n hC dX9_characteristic_25 rfl (mm_ial hC dX9_characteristic_26 (mm_st hC dX9_characteristic_27 (mm_ld_n hC dX9_characteristic_29 rfl (mm_la_n hC dX9_characteristic_30 rfl (mm_ld hC dX9_characteristic_31 (mm_bp hC dX9_characteristic_33 ⟨⟨by decide, by decide⟩, by decide⟩ (mm_div hC dX9_characteristic_35 (mm_ld hC dX9_characteristic_36 (mm_bp hC dX9_characteristic_38 ⟨⟨by decide, by decide⟩, by decide⟩ (mm_rem hC dX9_characteristic_40 (mm_cv hC sp_X7_weightOn ⟨rfl, rfl⟩ cl_6 wd_490 wd_491 wd_492 wd_493 wd_68 ⟨by decide, by decide, by decide +kernel⟩ ⟨by decide, by decide⟩ dX9_characteristic_41 (mm_add hC dX9_characteristic_44 (mm_st_n hC dX9_characteristic_45 rfl (mm_inc hC dX9_characteristic_46 (mm_goto hC (t := 7) dX9_characteristic_49 (by decide) (fun _ _ _ h => h)))))))))))))))))))))))))), (by unfold b_X9_characteristic_54; exact (mm_ld_n hC dX9_characteristic_54 rfl (mm_la_n hC dX9_characteristic_55 rfl (mm_gr hC cl_8 (by decide) rfl wd_219 dX9_characteristic_56 (mm_cv hC sp_X10_faces ⟨rfl, rfl⟩ cl_9 wd_449 wd_358 wd_359 wd_360 wd_67 ⟨by decide, by decide, by decide +kernel⟩ ⟨by decide, by decide⟩ dX9_characteristic_59 (mm_ic_ge hC (t := 107) dX9_characteristic_62 (by decide) (mm_ld_n hC dX9_characteristic_107 rfl (mm_ir hC ⟨rfl, rfl⟩ hr dX9_characteristic_108)) (mm_la_n hC dX9_characteristic_65 rfl (mm_gr hC cl_8 (by decide) rfl wd_219 dX9_characteristic_66 (mm_gr hC cl_9 (by decide) rfl wd_129 dX9_characteristic_69 (mm_ld_n hC dX9_characteristic_72 rfl (mm_ial hC dX9_characteristic_73 (mm_if_lt hC (t := 88) dX9_characteristic_74 (by decide) (fun _ _ _ h => h) (mm_la_n hC dX9_characteristic_77 rfl (mm_gr hC cl_8 (by decide) rfl wd_219 dX9_characteristic_78 (mm_ld_n hC dX9_characteristic_81 rfl (mm_cv hC sp_X10_leads ⟨rfl, rfl⟩ cl_9 wd_450 wd_375 wd_376 wd_377 wd_67 ⟨by decide, by decide, by decide +kernel⟩ ⟨by decide, by decide⟩ dX9_characteristic_82 (mm_if_eq hC (t := 101) dX9_characteristic_85 (by decide) (fun _ _ _ h => h) (fun _ _ _ h => h)))))))))))))))))), (by unfold b_X9_characteristic_88; exact (mm_ld_n hC dX9_characteristic_88 rfl (mm_la_n hC dX9_characteristic_89 rfl (mm_ld_n hC dX9_characteristic_90 rfl (mm_ic hC dX9_characteristic_91 ⟨by decide, by decide⟩ (mm_div hC dX9_characteristic_92 (mm_ld_n hC dX9_characteristic_93 rfl (mm_ic hC dX9_characteristic_94 ⟨by decide, by decide⟩ (mm_rem hC dX9_characteristic_95 (mm_cv hC sp_X7_arcsOn ⟨rfl, rfl⟩ cl_6 wd_477 wd_478 wd_479 wd_480 wd_68 ⟨by decide, by decide, by decide +kernel⟩ ⟨by decide, by decide⟩ dX9_characteristic_96 (mm_sub hC dX9_characteristic_99 (mm_st_n hC dX9_characteristic_100 rfl (fun _ _ _ h => h))))))))))))), (by unfold b_X9_characteristic_101; exact (mm_inc hC dX9_characteristic_101 (mm_goto hC (t := 54) dX9_characteristic_104 (by decide) (fun _ _ _ h => h))))⟩
set_option maxRecDepth 100000 in
set_option maxHeartbeats 8000000 in
theorem pv_X9_characteristic : ∀ (av : List mm_V) (σ : mm_S) (Post : Option mm_V → mm_S → Prop), (∀ v ∈ av, mm_iv v) → (∀ a j, mm_in (σ.1 a j)) → σ.2.2 ≤ 348 → T_X9_characteristic av σ Post → ∀ Ok : Nat → mm_K, clo_X9_characteristic Ok Post σ.2.2 → Ok 0 (av ++ List.replicate (5 - av.length) (.inr none)) [] σ := by
  intro av σ Post hav hin hk hT Ok hcl
  obtain ⟨I, R0⟩ := σ
  unfold T_X9_characteristic at hT
  split at hT
  · rename_i s a
    obtain ⟨h0, hT⟩ := hT
    have h0 : R0 = mm_R0 := h0
    subst h0
    dsimp only at hT hin
    obtain ⟨c0, c7, c54, c88, c101⟩ := hcl
    obtain ⟨rfl, h1, n, L, ⟨hn, hn1, hn3, hg⟩, hS, h4, hP⟩ := hT
    have ha := sh_lt h1 (by decide)
    obtain ⟨r0, r1, r2, r3, r4, r5, r6, r7, r8, r9⟩ := Rs_1
    obtain ⟨w1, w2, w3, w4, w5, w6⟩ := Rs_2
    obtain ⟨p0, p1, p2, p3, p4, p5, p6⟩ := Rs_18
    obtain ⟨s0, s1, s2, s3, s4, s5, s6, s7, s8, s9, s10⟩ := sh_18
    obtain ⟨k1, k2, k3, k4, k5, k6, k7, k8, k9⟩ := hS
    have hnb := nr_b L.2.1 (6 * n)
    obtain ⟨N, hN⟩ := Int.eq_ofNat_of_zero_le hnb.1
    have k2' : I 18 8 = (N : Int) := by rw [k2, hN]
    obtain ⟨h, hh⟩ : ∃ h : Nat → Int, h = fun l => wt (I (a + 1)) ((I 28 l).toNat / 6) ((I 28 l).toNat % 6) := ⟨_, rfl⟩
    have hfst : ∀ l, l < N → ∃ e, e < 6 * n ∧ I 28 l = (e : Nat) := fun l hl => by
      obtain ⟨e, a1, a2, a3⟩ := nr_pre L.2.1 (6 * n) l (by omega)
      have := k6 e a1
      rw [a2, a3, Int.toNat_natCast] at this
      exact ⟨e, a1, this⟩
    have hhb : ∀ l, l < N → 0 ≤ h l ∧ h l ≤ 5000 := fun l hl => by
      obtain ⟨e, a1, a2⟩ := hfst l hl
      rw [hh]
      show 0 ≤ wt (I (a + 1)) ((I 28 l).toNat / 6) ((I 28 l).toNat % 6) ∧ wt (I (a + 1)) ((I 28 l).toNat / 6) ((I 28 l).toNat % 6) ≤ 5000
      rw [a2, Int.toNat_natCast]
      exact wt_b h4 (by omega) (by omega)
    have hws : sm h N = wsum n L.2.1 (I (a + 1)) := by
      have := sm_roots L.2.1 h (6 * n)
      rw [hN, Int.toNat_natCast] at this
      rw [this]
      unfold wsum
      refine sm_congr (fun e he => ?_)
      by_cases z : L.2.1 e = e
      · rw [if_pos z, if_pos z, hh]
        show wt (I (a + 1)) ((I 28 (nr L.2.1 e).toNat).toNat / 6) ((I 28 (nr L.2.1 e).toNat).toNat % 6) = _
        have := k6 e he
        rw [z] at this
        rw [this, Int.toNat_natCast]
      · rw [if_neg z, if_neg z]
    have tb := sm_bound (f := I (a + 1)) (n := 21) (c := 1000) h4
    have hwb := sm_bound (f := h) (n := N) (c := 5000) hhb
    obtain ⟨B, hB⟩ : ∃ B, sm (I (a + 1)) 21 + sm h N = B := ⟨_, rfl⟩
    have loop2 : ∀ (d f : Nat) (u4 : mm_V), f + d = 4 * n → Ok 54 [.inr (some 1), .inr (some a), .inl (B - sm (fun f => if I 3 f < 0 ∨ (f : Int) < I 3 f then aw (I (a + 1)) (f / 4) (f % 4) else 0) f), .inl (f : Int), u4] [] (I, mm_R0) := by
      intro d
      induction d with
      | zero =>
        intro f u4 hd
        refine c54 _ _ _ ?_
        simp only [b_X9_characteristic_54, i_ld, i_la, i_st, i_sa, i_c, i_inc, i_add, i_sub, i_mul, i_div, i_rem, i_remT, i_xor, i_dup, i_dup2, i_if, i_if2, i_sw, i_gi, i_gr, i_pi, i_pz, i_ial, i_ias, i_len, i_aal, i_gs, i_tal, i_cv, i_cs, i_ir, i_zr, i_vr, i_min, i_max, i_cpy, List.getElem?_cons_zero, List.getElem?_cons_succ, List.set_cons_zero, List.set_cons_succ, List.length_cons, List.length_nil, List.drop_succ_cons, List.drop_zero, List.take_succ_cons, List.take_zero, List.reverse_cons, List.reverse_nil, List.nil_append, List.cons_append, Option.toList_some, Option.toList_none, true_and, and_true, true_or, or_true, Nat.reduceAdd, Nat.reduceLT, Nat.reduceLeDiff, Option.some.injEq, exists_eq_left', Int.toNat_natCast, Nat.reduceSub, List.append_nil, List.replicate_succ, List.replicate_zero, mm_in, r0, r9, w4, hn, T_X10_faces]
        refine ⟨by omega, by omega, fun _ => ?_, fun z => by omega⟩
        unfold eul arcsum at hP
        rw [show f = 4 * n by omega, ← hB, hws]
        exact hP
      | succ d ih =>
        intro f u4 hd
        have e1 : (f : Int) / 4 = ((f / 4 : Nat) : Int) := by omega
        have e2 : (f : Int) % 4 = ((f % 4 : Nat) : Int) := by omega
        have hb := sm_bound (f := fun f => if I 3 f < 0 ∨ (f : Int) < I 3 f then aw (I (a + 1)) (f / 4) (f % 4) else 0) (n := f) (c := 8000) (fun k hk => by
          split
          · exact aw_b h4 (by omega) (by omega)
          · omega)
        have haw := aw_b h4 (b := f / 4) (f := f % 4) (by omega) (by omega)
        have go := ih (f + 1) u4 (by omega)
        have hs : sm (fun f => if I 3 f < 0 ∨ (f : Int) < I 3 f then aw (I (a + 1)) (f / 4) (f % 4) else 0) (f + 1) = sm (fun f => if I 3 f < 0 ∨ (f : Int) < I 3 f then aw (I (a + 1)) (f / 4) (f % 4) else 0) f + if I 3 f < 0 ∨ (f : Int) < I 3 f then aw (I (a + 1)) (f / 4) (f % 4) else 0 := rfl
        rw [hs] at go
        obtain ⟨A, hA⟩ : ∃ A, sm (fun f => if I 3 f < 0 ∨ (f : Int) < I 3 f then aw (I (a + 1)) (f / 4) (f % 4) else 0) f = A := ⟨_, rfl⟩
        rw [hA] at go hb ⊢
        have yes : (I 3 f < 0 ∨ (f : Int) < I 3 f) → Ok 88 [.inr (some 1), .inr (some a), .inl (B - A), .inl (f : Int), u4] [] (I, mm_R0) := by
          intro q
          rw [if_pos q] at go
          refine c88 _ _ _ ?_
          simp only [b_X9_characteristic_88, i_ld, i_la, i_st, i_sa, i_c, i_inc, i_add, i_sub, i_mul, i_div, i_rem, i_remT, i_xor, i_dup, i_dup2, i_if, i_if2, i_sw, i_gi, i_gr, i_pi, i_pz, i_ial, i_ias, i_len, i_aal, i_gs, i_tal, i_cv, i_cs, i_ir, i_zr, i_vr, i_min, i_max, i_cpy, List.getElem?_cons_zero, List.getElem?_cons_succ, List.set_cons_zero, List.set_cons_succ, List.length_cons, List.length_nil, List.drop_succ_cons, List.drop_zero, List.take_succ_cons, List.take_zero, List.reverse_cons, List.reverse_nil, List.nil_append, List.cons_append, Option.toList_some, Option.toList_none, true_and, and_true, true_or, or_true, Nat.reduceAdd, Nat.reduceLT, Nat.reduceLeDiff, Option.some.injEq, exists_eq_left', Int.toNat_natCast, Nat.reduceSub, List.append_nil, List.replicate_succ, List.replicate_zero, mm_in, e1, e2, T_X7_arcsOn, h1, ha]
          refine ⟨⟨by omega, by omega⟩, ⟨by omega, by omega⟩, f / 4, f % 4, rfl, rfl, by omega, by omega, h4, ⟨by omega, by omega⟩, ?_⟩
          refine c101 _ _ _ ?_
          simp only [b_X9_characteristic_101, i_ld, i_la, i_st, i_sa, i_c, i_inc, i_add, i_sub, i_mul, i_div, i_rem, i_remT, i_xor, i_dup, i_dup2, i_if, i_if2, i_sw, i_gi, i_gr, i_pi, i_pz, i_ial, i_ias, i_len, i_aal, i_gs, i_tal, i_cv, i_cs, i_ir, i_zr, i_vr, i_min, i_max, i_cpy, List.getElem?_cons_zero, List.getElem?_cons_succ, List.set_cons_zero, List.set_cons_succ, List.length_cons, List.length_nil, List.drop_succ_cons, List.drop_zero, List.take_succ_cons, List.take_zero, List.reverse_cons, List.reverse_nil, List.nil_append, List.cons_append, Option.toList_some, Option.toList_none, true_and, and_true, true_or, or_true, Nat.reduceAdd, Nat.reduceLT, Nat.reduceLeDiff, Option.some.injEq, exists_eq_left', Int.toNat_natCast, Nat.reduceSub, List.append_nil, List.replicate_succ, List.replicate_zero, mm_in,]
          refine ⟨⟨by omega, by omega⟩, ?_⟩
          rw [show B - A - aw (I (a + 1)) (f / 4) (f % 4) = B - (A + aw (I (a + 1)) (f / 4) (f % 4)) by omega]
          exact go
        refine c54 _ _ _ ?_
        simp only [b_X9_characteristic_54, i_ld, i_la, i_st, i_sa, i_c, i_inc, i_add, i_sub, i_mul, i_div, i_rem, i_remT, i_xor, i_dup, i_dup2, i_if, i_if2, i_sw, i_gi, i_gr, i_pi, i_pz, i_ial, i_ias, i_len, i_aal, i_gs, i_tal, i_cv, i_cs, i_ir, i_zr, i_vr, i_min, i_max, i_cpy, List.getElem?_cons_zero, List.getElem?_cons_succ, List.set_cons_zero, List.set_cons_succ, List.length_cons, List.length_nil, List.drop_succ_cons, List.drop_zero, List.take_succ_cons, List.take_zero, List.reverse_cons, List.reverse_nil, List.nil_append, List.cons_append, Option.toList_some, Option.toList_none, true_and, and_true, true_or, or_true, Nat.reduceAdd, Nat.reduceLT, Nat.reduceLeDiff, Option.some.injEq, exists_eq_left', Int.toNat_natCast, Nat.reduceSub, List.append_nil, List.replicate_succ, List.replicate_zero, mm_in, r0, r9, w1, w4, w5, hn, T_X10_faces, T_X10_leads]
        refine ⟨by omega, by omega, fun z => by omega, fun _ => ⟨⟨by omega, by omega⟩, fun _ => ⟨fun q => yes (Or.inl q), fun q => ⟨f, rfl, by omega, fun z hz => ⟨fun q2 => ?_, fun q2 => yes (Or.inr ?_)⟩⟩⟩⟩⟩
        · refine c101 _ _ _ ?_
          simp only [b_X9_characteristic_101, i_ld, i_la, i_st, i_sa, i_c, i_inc, i_add, i_sub, i_mul, i_div, i_rem, i_remT, i_xor, i_dup, i_dup2, i_if, i_if2, i_sw, i_gi, i_gr, i_pi, i_pz, i_ial, i_ias, i_len, i_aal, i_gs, i_tal, i_cv, i_cs, i_ir, i_zr, i_vr, i_min, i_max, i_cpy, List.getElem?_cons_zero, List.getElem?_cons_succ, List.set_cons_zero, List.set_cons_succ, List.length_cons, List.length_nil, List.drop_succ_cons, List.drop_zero, List.take_succ_cons, List.take_zero, List.reverse_cons, List.reverse_nil, List.nil_append, List.cons_append, Option.toList_some, Option.toList_none, true_and, and_true, true_or, or_true, Nat.reduceAdd, Nat.reduceLT, Nat.reduceLeDiff, Option.some.injEq, exists_eq_left', Int.toNat_natCast, Nat.reduceSub, List.append_nil, List.replicate_succ, List.replicate_zero, mm_in,]
          refine ⟨⟨by omega, by omega⟩, ?_⟩
          have : ¬ (I 3 f < 0 ∨ (f : Int) < I 3 f) := fun w => by
            rcases hz with ⟨z1, z2⟩ | ⟨z1, z2⟩
            · omega
            · rcases w with w | w
              · exact q w
              · exact z2 w
          rw [if_neg this, Int.add_zero] at go
          exact go
        · rcases hz with ⟨z1, z2⟩ | ⟨z1, z2⟩
          · exact z2
          · omega
    have loop1 : ∀ (d l : Nat) (u4 : mm_V), l + d = N → Ok 7 [.inr (some 1), .inr (some a), .inl (sm (I (a + 1)) 21 + sm h l), .inl (l : Int), u4] [] (I, mm_R0) := by
      intro d
      induction d with
      | zero =>
        intro l u4 hd
        refine c7 _ _ _ ?_
        simp only [b_X9_characteristic_7, i_ld, i_la, i_st, i_sa, i_c, i_inc, i_add, i_sub, i_mul, i_div, i_rem, i_remT, i_xor, i_dup, i_dup2, i_if, i_if2, i_sw, i_gi, i_gr, i_pi, i_pz, i_ial, i_ias, i_len, i_aal, i_gs, i_tal, i_cv, i_cs, i_ir, i_zr, i_vr, i_min, i_max, i_cpy, List.getElem?_cons_zero, List.getElem?_cons_succ, List.set_cons_zero, List.set_cons_succ, List.length_cons, List.length_nil, List.drop_succ_cons, List.drop_zero, List.take_succ_cons, List.take_zero, List.reverse_cons, List.reverse_nil, List.nil_append, List.cons_append, Option.toList_some, Option.toList_none, true_and, and_true, true_or, or_true, Nat.reduceAdd, Nat.reduceLT, Nat.reduceLeDiff, Option.some.injEq, exists_eq_left', Int.toNat_natCast, Nat.reduceSub, List.append_nil, List.replicate_succ, List.replicate_zero, mm_in, r1, r9, s0, k2']
        refine fun _ => ⟨fun _ => ?_, fun z => by omega⟩
        have := loop2 (4 * n) 0 u4 (by omega)
        rw [show l = N by omega, hB]
        simpa [sm] using this
      | succ d ih =>
        intro l u4 hd
        obtain ⟨e, a1, a2⟩ := hfst l (by omega)
        have e1 : (e : Int) / 6 = ((e / 6 : Nat) : Int) := by omega
        have e2 : (e : Int) % 6 = ((e % 6 : Nat) : Int) := by omega
        have hb := sm_bound (f := h) (n := l) (c := 5000) (fun k hk => hhb k (by omega))
        have hl := hhb l (by omega)
        have hhl : wt (I (a + 1)) (e / 6) (e % 6) = h l := by rw [hh]; show _ = wt (I (a + 1)) ((I 28 l).toNat / 6) ((I 28 l).toNat % 6); rw [a2, Int.toNat_natCast]
        have hs : sm h (l + 1) = sm h l + h l := rfl
        refine c7 _ _ _ ?_
        simp only [b_X9_characteristic_7, i_ld, i_la, i_st, i_sa, i_c, i_inc, i_add, i_sub, i_mul, i_div, i_rem, i_remT, i_xor, i_dup, i_dup2, i_if, i_if2, i_sw, i_gi, i_gr, i_pi, i_pz, i_ial, i_ias, i_len, i_aal, i_gs, i_tal, i_cv, i_cs, i_ir, i_zr, i_vr, i_min, i_max, i_cpy, List.getElem?_cons_zero, List.getElem?_cons_succ, List.set_cons_zero, List.set_cons_succ, List.length_cons, List.length_nil, List.drop_succ_cons, List.drop_zero, List.take_succ_cons, List.take_zero, List.reverse_cons, List.reverse_nil, List.nil_append, List.cons_append, Option.toList_some, Option.toList_none, true_and, and_true, true_or, or_true, Nat.reduceAdd, Nat.reduceLT, Nat.reduceLeDiff, Option.some.injEq, exists_eq_left', Int.toNat_natCast, Nat.reduceSub, List.append_nil, List.replicate_succ, List.replicate_zero, mm_in, r1, r9, s0, k2', p6, s10, a2, e1, e2, T_X7_weightOn, h1, ha]
        refine fun _ => ⟨fun z => by omega, fun _ => ⟨⟨by omega, by omega⟩, fun _ => ⟨⟨by omega, by omega⟩, ⟨by omega, by omega⟩, e / 6, e % 6, rfl, rfl, by omega, by omega, h4, ?_⟩⟩⟩
        rw [hhl]
        refine ⟨⟨by omega, by omega⟩, ⟨by omega, by omega⟩, ?_⟩
        have := ih (l + 1) (.inl (e : Int)) (by omega)
        rw [hs, ← Int.add_assoc] at this
        exact this
    refine c0 _ _ _ ?_
    simp only [b_X9_characteristic_0, i_ld, i_la, i_st, i_sa, i_c, i_inc, i_add, i_sub, i_mul, i_div, i_rem, i_remT, i_xor, i_dup, i_dup2, i_if, i_if2, i_sw, i_gi, i_gr, i_pi, i_pz, i_ial, i_ias, i_len, i_aal, i_gs, i_tal, i_cv, i_cs, i_ir, i_zr, i_vr, i_min, i_max, i_cpy, List.getElem?_cons_zero, List.getElem?_cons_succ, List.set_cons_zero, List.set_cons_succ, List.length_cons, List.length_nil, List.drop_succ_cons, List.drop_zero, List.take_succ_cons, List.take_zero, List.reverse_cons, List.reverse_nil, List.nil_append, List.cons_append, Option.toList_some, Option.toList_none, true_and, and_true, true_or, or_true, Nat.reduceAdd, Nat.reduceLT, Nat.reduceLeDiff, Option.some.injEq, exists_eq_left', Int.toNat_natCast, Nat.reduceSub, List.append_nil, List.replicate_succ, List.replicate_zero, mm_in, h1, ha, T_X7_total]
    refine ⟨h4, ?_⟩
    have := loop1 N 0 (.inr none) (by omega)
    simpa [sm] using this
  · exact hT.elim
theorem sp_X9_characteristic : mm_Sp yX9_characteristic cX9_characteristic 5 (some .int) rm_X9_characteristic T_X9_characteristic := mm_meth (by decide) (by
  intro av σ Post h
  unfold T_X9_characteristic at h
  split at h
  · simp
  · exact h.elim) (fun p l e s m args below meth c G av σ Post hC hr _ hav hin hk hT => pv_X9_characteristic av σ Post hav hin hk hT _ (bk_X9_characteristic hC hr))
/-- the link of the vertex with number p, from the corners' vertex numbers V -/
def lk (n : Nat) (V : Nat → Int) (p : Int) : Nat → Int := fun k => if k % 7 < 4 ∧ k / 7 < n ∧ V (4 * (k / 7) + k % 7) = p then 1 else 0
def T_X9_fillLink : mm_T := fun av σ Post => match av with
  | [.inr (some s), .inl p, .inr (some a)] => σ.2 = mm_R0 ∧ s = 1 ∧ (mm_sh a).1 = 6 ∧ (a < 18 ∨ 29 ≤ a) ∧ ∃ n : Nat, σ.1 2 0 = n ∧ n ≤ 3 ∧
    ∀ I' : Nat → Nat → Int, (∀ b, b ≠ a + 1 → I' b = σ.1 b) → (∀ k, k < 21 → I' (a + 1) k = lk n (σ.1 25) p k) → Post none (I', mm_R0)
  | _ => False
def rm_X9_fillLink : Room := { frames := 2, cells := 0, slots := 0, locals := 43 }
def b_X9_fillLink_0 (Ok : Nat → mm_K) (Post : Option mm_V → mm_S → Prop) (kf : Nat) : mm_K := i_la 2 (i_cv 6 0 T_X7_clear (i_c 0 (i_st 3 (Ok 6))))
def b_X9_fillLink_6 (Ok : Nat → mm_K) (Post : Option mm_V → mm_S → Prop) (kf : Nat) : mm_K := i_ld 3 (i_c 4 (i_la 0 (i_gr 8 0 (i_gi 9 0 (i_mul (i_if2 (fun x y => y ≤ x) (i_vr Post kf) (i_la 0 (i_gr 8 1 (i_gr 7 3 (i_ld 3 (i_ial (i_ld 1 (i_if2 (fun x y => ¬ x = y) (Ok 48) (i_la 2 (i_gr 6 0 (i_c 7 (i_ld 3 (i_c 4 (i_div (i_mul (i_ld 3 (i_c 4 (i_rem (i_add (i_c 1 (i_ias (Ok 48)))))))))))))))))))))))))))
def b_X9_fillLink_48 (Ok : Nat → mm_K) (Post : Option mm_V → mm_S → Prop) (kf : Nat) : mm_K := i_inc 3 1 (Ok 6)
def clo_X9_fillLink (Ok : Nat → mm_K) (Post : Option mm_V → mm_S → Prop) (kf : Nat) : Prop := mm_imp (b_X9_fillLink_0 Ok Post kf) (Ok 0) ∧ mm_imp (b_X9_fillLink_6 Ok Post kf) (Ok 6) ∧ mm_imp (b_X9_fillLink_48 Ok Post kf) (Ok 48)
set_option maxRecDepth 100000 in
set_option maxHeartbeats 4000000 in
theorem bk_X9_fillLink {p : Program} {l : Launch} {e : Env} {s : State} {m : MethodId} {args : Array Value} {below : List Frame} {meth : Method} {c : Code} {G : mm_G} {σ0 : mm_S} {Post : Option mm_V → mm_S → Prop} (hC : mm_C p G s m args meth c cX9_fillLink yX9_fillLink.cls) (hr : meth.sig.returnType = none) : clo_X9_fillLink (mm_O p l e rm_X9_fillLink s m args below meth c G σ0.2.2 (MQ below (mm_Qc G σ0 rm_X9_fillLink.cells rm_X9_fillLink.slots Post) args s rm_X9_fillLink.cells rm_X9_fillLink.slots (mm_A G))) Post σ0.2.2 := ⟨(by unfold b_X9_fillLink_0; exact (mm_la_n hC dX9_fillLink_0 rfl (mm_cv hC sp_X7_clear ⟨rfl, rfl⟩ cl_6 wd_439 wd_440 wd_441 wd_442 wd_68 ⟨by decide, by decide, by decide +kernel⟩ ⟨by decide, by decide⟩ dX9_fillLink_1 (mm_ic hC dX9_fillLink_4 ⟨by decide, by decide⟩ (mm_st_n hC dX9_fillLink_5 rfl (fun _ _ _ h => h)))))), (by unfold b_X9_fillLink_6; exact (mm_ld_n hC dX9_fillLink_6 rfl (mm_ic hC dX9_fillLink_7 ⟨by decide, by decide⟩ (mm_la_n hC dX9_fillLink_8 rfl (mm_gr hC cl_8 (by decide) rfl wd_219 dX9_fillLink_9 (mm_gi hC cl_9 (by decide) rfl wd_122 dX9_fillLink_12 (mm_mul hC dX9_fillLink_15 (mm_ic_ge hC (t := 54) dX9_fillLink_16 (by decide) (mm_vr hC ⟨rfl, rfl⟩ hr dX9_fillLink_54) (mm_la_n hC dX9_fillLink_19 rfl (mm_gr hC cl_8 (by decide) rfl wd_221 dX9_fillLink_20 (mm_gr hC cl_7 (by decide) rfl wd_170 dX9_fillLink_23 (mm_ld_n hC dX9_fillLink_26 rfl (mm_ial hC dX9_fillLink_27 (mm_ld_n hC dX9_fillLink_28 rfl (mm_ic_ne hC (t := 48) dX9_fillLink_29 (by decide) (fun _ _ _ h => h) (mm_la_n hC dX9_fillLink_32 rfl (mm_gr hC cl_6 (by decide) rfl wd_111 dX9_fillLink_33 (mm_bp hC dX9_fillLink_36 ⟨⟨by decide, by decide⟩, by decide⟩ (mm_ld_n hC dX9_fillLink_38 rfl (mm_ic hC dX9_fillLink_39 ⟨by decide, by decide⟩ (mm_div hC dX9_fillLink_40 (mm_mul hC dX9_fillLink_41 (mm_ld_n hC dX9_fillLink_42 rfl (mm_ic hC dX9_fillLink_43 ⟨by decide, by decide⟩ (mm_rem hC dX9_fillLink_44 (mm_add hC dX9_fillLink_45 (mm_ic hC dX9_fillLink_46 ⟨by decide, by decide⟩ (mm_ias hC dX9_fillLink_47 (fun _ _ _ h => h))))))))))))))))))))))))))))), (by unfold b_X9_fillLink_48; exact (mm_inc hC dX9_fillLink_48 (mm_goto hC (t := 6) dX9_fillLink_51 (by decide) (fun _ _ _ h => h))))⟩
set_option maxRecDepth 100000 in
set_option maxHeartbeats 8000000 in
theorem pv_X9_fillLink : ∀ (av : List mm_V) (σ : mm_S) (Post : Option mm_V → mm_S → Prop), (∀ v ∈ av, mm_iv v) → (∀ a j, mm_in (σ.1 a j)) → σ.2.2 ≤ 348 → T_X9_fillLink av σ Post → ∀ Ok : Nat → mm_K, clo_X9_fillLink Ok Post σ.2.2 → Ok 0 (av ++ List.replicate (4 - av.length) (.inr none)) [] σ := by
  intro av σ Post hav hin hk hT Ok hcl
  obtain ⟨I, R0⟩ := σ
  unfold T_X9_fillLink at hT
  split at hT
  · rename_i s p a
    obtain ⟨h0, hT⟩ := hT
    have h0 : R0 = mm_R0 := h0
    subst h0
    dsimp only at hT hin
    obtain ⟨c0, c6, c48⟩ := hcl
    obtain ⟨rfl, h1, hab, n, hn, hn3, hP⟩ := hT
    have ha := sh_lt h1 (by decide)
    obtain ⟨hs1, hs2⟩ := sh_sheet a ha h1
    have hR : ∀ j, mm_Rs a j = some (a + 1) := fun j => Rs_sheet h1
    obtain ⟨r0, r1, r2, r3, r4, r5, r6, r7, r8, r9⟩ := Rs_1
    obtain ⟨p0, p1, p2, p3, p4, p5, p6⟩ := Rs_18
    obtain ⟨s0, s1, s2, s3, s4, s5, s6, s7, s8, s9, s10⟩ := sh_18
    obtain ⟨w1, w2, w3, w4, w5, w6⟩ := Rs_2
    have na2 : a + 1 ≠ 2 := fun e => by
      have : a = 1 := by omega
      rw [this, r9] at h1; cases h1
    have na25 : a + 1 ≠ 25 := by
      intro e
      have : a = 24 := by omega
      omega
    have loop : ∀ (d c : Nat) (I' : Nat → Nat → Int), c + d = 4 * n → (∀ b, b ≠ a + 1 → I' b = I b) → (∀ k, k < 21 → I' (a + 1) k = if 4 * (k / 7) + k % 7 < c then lk n (I 25) p k else 0) → Ok 6 [.inr (some 1), .inl p, .inr (some a), .inl (c : Int)] [] (I', mm_R0) := by
      intro d
      induction d with
      | zero =>
        intro c I' hd q1 q2
        have e2 : I' 2 0 = n := by rw [q1 2 (fun e => na2 e.symm)]; exact hn
        refine c6 _ _ _ ?_
        simp only [b_X9_fillLink_6, i_ld, i_la, i_st, i_sa, i_c, i_inc, i_add, i_sub, i_mul, i_div, i_rem, i_remT, i_xor, i_dup, i_dup2, i_if, i_if2, i_sw, i_gi, i_gr, i_pi, i_pz, i_ial, i_ias, i_len, i_aal, i_gs, i_tal, i_cv, i_cs, i_ir, i_zr, i_vr, i_min, i_max, i_cpy, List.getElem?_cons_zero, List.getElem?_cons_succ, List.set_cons_zero, List.set_cons_succ, List.length_cons, List.length_nil, List.drop_succ_cons, List.drop_zero, List.take_succ_cons, List.take_zero, List.reverse_cons, List.reverse_nil, List.nil_append, List.cons_append, Option.toList_some, Option.toList_none, true_and, and_true, true_or, or_true, Nat.reduceAdd, Nat.reduceLT, Nat.reduceLeDiff, Option.some.injEq, exists_eq_left', Int.toNat_natCast, Nat.reduceSub, List.append_nil, List.replicate_succ, List.replicate_zero, mm_in, r0, r9, w4, e2]
        refine fun _ => ⟨⟨by omega, by omega⟩, fun _ => hP I' q1 (fun k hk => ?_), fun z => by omega⟩
        rw [q2 k hk]
        by_cases z : 4 * (k / 7) + k % 7 < c
        · rw [if_pos z]
        · rw [if_neg z]
          unfold lk
          rw [if_neg (by omega)]
      | succ d ih =>
        intro c I' hd q1 q2
        have e2 : I' 2 0 = n := by rw [q1 2 (fun e => na2 e.symm)]; exact hn
        have e25 : I' 25 = I 25 := q1 25 (fun e => na25 e.symm)
        have f1 : (c : Int) / 4 = ((c / 4 : Nat) : Int) := by omega
        have f2 : (c : Int) % 4 = ((c % 4 : Nat) : Int) := by omega
        have f3 : (7 * ((c / 4 : Nat) : Int) + ((c % 4 : Nat) : Int)).toNat = 7 * (c / 4) + c % 4 := by omega
        have hk : ∀ k, k < 21 → (k = 7 * (c / 4) + c % 4 ↔ (k % 7 < 4 ∧ 4 * (k / 7) + k % 7 = c)) := fun k hk => by omega
        refine c6 _ _ _ ?_
        simp only [b_X9_fillLink_6, i_ld, i_la, i_st, i_sa, i_c, i_inc, i_add, i_sub, i_mul, i_div, i_rem, i_remT, i_xor, i_dup, i_dup2, i_if, i_if2, i_sw, i_gi, i_gr, i_pi, i_pz, i_ial, i_ias, i_len, i_aal, i_gs, i_tal, i_cv, i_cs, i_ir, i_zr, i_vr, i_min, i_max, i_cpy, List.getElem?_cons_zero, List.getElem?_cons_succ, List.set_cons_zero, List.set_cons_succ, List.length_cons, List.length_nil, List.drop_succ_cons, List.drop_zero, List.take_succ_cons, List.take_zero, List.reverse_cons, List.reverse_nil, List.nil_append, List.cons_append, Option.toList_some, Option.toList_none, true_and, and_true, true_or, or_true, Nat.reduceAdd, Nat.reduceLT, Nat.reduceLeDiff, Option.some.injEq, exists_eq_left', Int.toNat_natCast, Nat.reduceSub, List.append_nil, List.replicate_succ, List.replicate_zero, mm_in, r0, r1, r9, w4, e2, s0, s7, p3, e25, f1, f2, f3, ha, h1, hs1, hs2, hR]
        refine fun _ => ⟨⟨by omega, by omega⟩, fun z => by omega, fun _ => ⟨⟨by omega, by omega⟩, fun _ => ⟨fun q => ?_, fun q => ?_⟩⟩⟩
        · refine c48 _ _ _ ?_
          simp only [b_X9_fillLink_48, i_ld, i_la, i_st, i_sa, i_c, i_inc, i_add, i_sub, i_mul, i_div, i_rem, i_remT, i_xor, i_dup, i_dup2, i_if, i_if2, i_sw, i_gi, i_gr, i_pi, i_pz, i_ial, i_ias, i_len, i_aal, i_gs, i_tal, i_cv, i_cs, i_ir, i_zr, i_vr, i_min, i_max, i_cpy, List.getElem?_cons_zero, List.getElem?_cons_succ, List.set_cons_zero, List.set_cons_succ, List.length_cons, List.length_nil, List.drop_succ_cons, List.drop_zero, List.take_succ_cons, List.take_zero, List.reverse_cons, List.reverse_nil, List.nil_append, List.cons_append, Option.toList_some, Option.toList_none, true_and, and_true, true_or, or_true, Nat.reduceAdd, Nat.reduceLT, Nat.reduceLeDiff, Option.some.injEq, exists_eq_left', Int.toNat_natCast, Nat.reduceSub, List.append_nil, List.replicate_succ, List.replicate_zero, mm_in,]
          refine ⟨⟨by omega, by omega⟩, ih (c + 1) I' (by omega) q1 (fun k hk2 => ?_)⟩
          rw [q2 k hk2]
          by_cases z : 4 * (k / 7) + k % 7 < c
          · rw [if_pos z, if_pos (by omega)]
          · rw [if_neg z]
            by_cases z2 : 4 * (k / 7) + k % 7 < c + 1
            · rw [if_pos z2]
              unfold lk
              rw [if_neg (fun w => q (by rw [show c = 4 * (k / 7) + k % 7 by omega]; exact w.2.2))]
            · rw [if_neg z2]
        · refine ⟨⟨by omega, by omega⟩, ⟨by omega, by omega⟩, ⟨by omega, by omega⟩, ⟨by omega, by omega⟩, ⟨by omega, by omega⟩, ?_⟩
          refine c48 _ _ _ ?_
          simp only [b_X9_fillLink_48, i_ld, i_la, i_st, i_sa, i_c, i_inc, i_add, i_sub, i_mul, i_div, i_rem, i_remT, i_xor, i_dup, i_dup2, i_if, i_if2, i_sw, i_gi, i_gr, i_pi, i_pz, i_ial, i_ias, i_len, i_aal, i_gs, i_tal, i_cv, i_cs, i_ir, i_zr, i_vr, i_min, i_max, i_cpy, List.getElem?_cons_zero, List.getElem?_cons_succ, List.set_cons_zero, List.set_cons_succ, List.length_cons, List.length_nil, List.drop_succ_cons, List.drop_zero, List.take_succ_cons, List.take_zero, List.reverse_cons, List.reverse_nil, List.nil_append, List.cons_append, Option.toList_some, Option.toList_none, true_and, and_true, true_or, or_true, Nat.reduceAdd, Nat.reduceLT, Nat.reduceLeDiff, Option.some.injEq, exists_eq_left', Int.toNat_natCast, Nat.reduceSub, List.append_nil, List.replicate_succ, List.replicate_zero, mm_in,]
          refine ⟨⟨by omega, by omega⟩, ih (c + 1) _ (by omega) (fun b hb => ?_) (fun k hk2 => ?_)⟩
          · rw [← q1 b hb]; funext j; simp [mm_set, hb]
          · by_cases z : k = 7 * (c / 4) + c % 4
            · have h5 := (hk k hk2).mp z
              rw [z]
              simp only [mm_set, and_self, if_true]
              rw [if_pos (by omega)]
              unfold lk
              rw [if_pos ⟨by omega, by omega, by rw [show 4 * ((7 * (c / 4) + c % 4) / 7) + (7 * (c / 4) + c % 4) % 7 = c by omega]; omega⟩]
            · simp only [mm_set, z, and_false, if_false]
              rw [q2 k hk2]
              have h6 : ¬ (k % 7 < 4 ∧ 4 * (k / 7) + k % 7 = c) := fun w => z ((hk k hk2).mpr w)
              by_cases y : 4 * (k / 7) + k % 7 < c
              · rw [if_pos y, if_pos (by omega)]
              · rw [if_neg y]
                by_cases y2 : 4 * (k / 7) + k % 7 < c + 1
                · rw [if_pos y2]
                  unfold lk
                  rw [if_neg (by omega)]
                · rw [if_neg y2]
    refine c0 _ _ _ ?_
    simp only [b_X9_fillLink_0, i_ld, i_la, i_st, i_sa, i_c, i_inc, i_add, i_sub, i_mul, i_div, i_rem, i_remT, i_xor, i_dup, i_dup2, i_if, i_if2, i_sw, i_gi, i_gr, i_pi, i_pz, i_ial, i_ias, i_len, i_aal, i_gs, i_tal, i_cv, i_cs, i_ir, i_zr, i_vr, i_min, i_max, i_cpy, List.getElem?_cons_zero, List.getElem?_cons_succ, List.set_cons_zero, List.set_cons_succ, List.length_cons, List.length_nil, List.drop_succ_cons, List.drop_zero, List.take_succ_cons, List.take_zero, List.reverse_cons, List.reverse_nil, List.nil_append, List.cons_append, Option.toList_some, Option.toList_none, true_and, and_true, true_or, or_true, Nat.reduceAdd, Nat.reduceLT, Nat.reduceLeDiff, Option.some.injEq, exists_eq_left', Int.toNat_natCast, Nat.reduceSub, List.append_nil, List.replicate_succ, List.replicate_zero, mm_in, T_X7_clear, h1, ha]
    exact fun I1 f1 f2 => loop (4 * n) 0 I1 (by omega) f1 (fun k hk => by rw [f2 k hk, if_neg (by omega)])
  · exact hT.elim
theorem sp_X9_fillLink : mm_Sp yX9_fillLink cX9_fillLink 4 none rm_X9_fillLink T_X9_fillLink := mm_meth (by decide) (by
  intro av σ Post h
  unfold T_X9_fillLink at h
  split at h
  · simp
  · exact h.elim) (fun p l e s m args below meth c G av σ Post hC hr _ hav hin hk hT => pv_X9_fillLink av σ Post hav hin hk hT _ (bk_X9_fillLink hC hr))
def T_X9_wholeCharacteristic : mm_T := fun av σ Post => match av with
  | [.inr (some s)] => σ.2 = mm_R0 ∧ s = 1 ∧ ∃ (n : Nat) (L : LT), gw σ.1 n ∧ SK σ.1 n L ∧ Post (some (.inl (nr L.1 (4 * n) - nr L.2.1 (6 * n) + (4 * n + frn (σ.1 3) (4 * n)) / 2 - n))) σ
  | _ => False
def rm_X9_wholeCharacteristic : Room := { frames := 2, cells := 0, slots := 0, locals := 42 }
def b_X9_wholeCharacteristic_0 (Ok : Nat → mm_K) (Post : Option mm_V → mm_S → Prop) (kf : Nat) : mm_K := i_la 0 (i_gr 8 0 (i_cv 9 0 T_X10_faces (i_la 0 (i_gr 8 0 (i_cv 9 0 T_X10_freeFaces (i_add (i_c 2 (i_div (i_st 1 (i_la 0 (i_gr 8 1 (i_gi 7 7 (i_la 0 (i_gr 8 1 (i_gi 7 8 (i_sub (i_ld 1 (i_add (i_la 0 (i_gr 8 0 (i_gi 9 0 (i_sub (i_ir Post kf)))))))))))))))))))))))
def clo_X9_wholeCharacteristic (Ok : Nat → mm_K) (Post : Option mm_V → mm_S → Prop) (kf : Nat) : Prop := mm_imp (b_X9_wholeCharacteristic_0 Ok Post kf) (Ok 0)
set_option maxRecDepth 100000 in
set_option maxHeartbeats 4000000 in
theorem bk_X9_wholeCharacteristic {p : Program} {l : Launch} {e : Env} {s : State} {m : MethodId} {args : Array Value} {below : List Frame} {meth : Method} {c : Code} {G : mm_G} {σ0 : mm_S} {Post : Option mm_V → mm_S → Prop} (hC : mm_C p G s m args meth c cX9_wholeCharacteristic yX9_wholeCharacteristic.cls) (hr : meth.sig.returnType = some .int) : clo_X9_wholeCharacteristic (mm_O p l e rm_X9_wholeCharacteristic s m args below meth c G σ0.2.2 (MQ below (mm_Qc G σ0 rm_X9_wholeCharacteristic.cells rm_X9_wholeCharacteristic.slots Post) args s rm_X9_wholeCharacteristic.cells rm_X9_wholeCharacteristic.slots (mm_A G))) Post σ0.2.2 := (by unfold clo_X9_wholeCharacteristic b_X9_wholeCharacteristic_0; exact (mm_la_n hC dX9_wholeCharacteristic_0 rfl (mm_gr hC cl_8 (by decide) rfl wd_219 dX9_wholeCharacteristic_1 (mm_cv hC sp_X10_faces ⟨rfl, rfl⟩ cl_9 wd_449 wd_358 wd_359 wd_360 wd_67 ⟨by decide, by decide, by decide +kernel⟩ ⟨by decide, by decide⟩ dX9_wholeCharacteristic_4 (mm_la_n hC dX9_wholeCharacteristic_7 rfl (mm_gr hC cl_8 (by decide) rfl wd_219 dX9_wholeCharacteristic_8 (mm_cv hC sp_X10_freeFaces ⟨rfl, rfl⟩ cl_9 wd_500 wd_354 wd_355 wd_356 wd_67 ⟨by decide, by decide, by decide +kernel⟩ ⟨by decide, by decide⟩ dX9_wholeCharacteristic_11 (mm_add hC dX9_wholeCharacteristic_14 (mm_ic hC dX9_wholeCharacteristic_15 ⟨by decide, by decide⟩ (mm_div hC dX9_wholeCharacteristic_16 (mm_st_n hC dX9_wholeCharacteristic_17 rfl (mm_la_n hC dX9_wholeCharacteristic_18 rfl (mm_gr hC cl_8 (by decide) rfl wd_221 dX9_wholeCharacteristic_19 (mm_gi hC cl_7 (by decide) rfl wd_179 dX9_wholeCharacteristic_22 (mm_la_n hC dX9_wholeCharacteristic_25 rfl (mm_gr hC cl_8 (by decide) rfl wd_221 dX9_wholeCharacteristic_26 (mm_gi hC cl_7 (by decide) rfl wd_182 dX9_wholeCharacteristic_29 (mm_sub hC dX9_wholeCharacteristic_32 (mm_ld_n hC dX9_wholeCharacteristic_33 rfl (mm_add hC dX9_wholeCharacteristic_34 (mm_la_n hC dX9_wholeCharacteristic_35 rfl (mm_gr hC cl_8 (by decide) rfl wd_219 dX9_wholeCharacteristic_36 (mm_gi hC cl_9 (by decide) rfl wd_122 dX9_wholeCharacteristic_39 (mm_sub hC dX9_wholeCharacteristic_42 (mm_ir hC ⟨rfl, rfl⟩ hr dX9_wholeCharacteristic_43)))))))))))))))))))))))))
set_option maxRecDepth 100000 in
set_option maxHeartbeats 8000000 in
theorem pv_X9_wholeCharacteristic : ∀ (av : List mm_V) (σ : mm_S) (Post : Option mm_V → mm_S → Prop), (∀ v ∈ av, mm_iv v) → (∀ a j, mm_in (σ.1 a j)) → σ.2.2 ≤ 348 → T_X9_wholeCharacteristic av σ Post → ∀ Ok : Nat → mm_K, clo_X9_wholeCharacteristic Ok Post σ.2.2 → Ok 0 (av ++ List.replicate (2 - av.length) (.inr none)) [] σ := by
  intro av σ Post hav hin hk hT Ok hcl
  obtain ⟨I, R0⟩ := σ
  unfold T_X9_wholeCharacteristic at hT
  split at hT
  · rename_i s
    obtain ⟨h0, hT⟩ := hT
    have h0 : R0 = mm_R0 := h0
    subst h0
    dsimp only at hT hin
    have c0 := hcl
    unfold clo_X9_wholeCharacteristic at c0
    obtain ⟨rfl, n, L, ⟨hn, hn1, hn3, hg⟩, hS, hP⟩ := hT
    obtain ⟨r0, r1, r2, r3, r4, r5, r6, r7, r8, r9⟩ := Rs_1
    obtain ⟨w1, w2, w3, w4, w5, w6⟩ := Rs_2
    obtain ⟨s0, s1, s2, s3, s4, s5, s6, s7, s8, s9, s10⟩ := sh_18
    have b1 := nr_b L.1 (4 * n)
    have b2 := nr_b L.2.1 (6 * n)
    have b3 := frn_b (I 3) (4 * n)
    refine c0 _ _ _ ?_
    simp only [b_X9_wholeCharacteristic_0, i_ld, i_la, i_st, i_sa, i_c, i_inc, i_add, i_sub, i_mul, i_div, i_rem, i_remT, i_xor, i_dup, i_dup2, i_if, i_if2, i_sw, i_gi, i_gr, i_pi, i_pz, i_ial, i_ias, i_len, i_aal, i_gs, i_tal, i_cv, i_cs, i_ir, i_zr, i_vr, i_min, i_max, i_cpy, List.getElem?_cons_zero, List.getElem?_cons_succ, List.set_cons_zero, List.set_cons_succ, List.length_cons, List.length_nil, List.drop_succ_cons, List.drop_zero, List.take_succ_cons, List.take_zero, List.reverse_cons, List.reverse_nil, List.nil_append, List.cons_append, Option.toList_some, Option.toList_none, true_and, and_true, true_or, or_true, Nat.reduceAdd, Nat.reduceLT, Nat.reduceLeDiff, Option.some.injEq, exists_eq_left', Int.toNat_natCast, Nat.reduceSub, List.append_nil, List.replicate_succ, List.replicate_zero, mm_in, r0, r1, r9, w4, s0, hn, T_X10_faces, T_X10_freeFaces, hS.1, hS.2.1]
    refine ⟨by omega, by omega, n, rfl, hn3, ⟨by omega, by omega⟩, ⟨by omega, by omega⟩, fun _ _ => ⟨⟨by omega, by omega⟩, ⟨by omega, by omega⟩, fun _ => ⟨⟨by omega, by omega⟩, hP⟩⟩⟩
  · exact hT.elim
theorem sp_X9_wholeCharacteristic : mm_Sp yX9_wholeCharacteristic cX9_wholeCharacteristic 2 (some .int) rm_X9_wholeCharacteristic T_X9_wholeCharacteristic := mm_meth (by decide) (by
  intro av σ Post h
  unfold T_X9_wholeCharacteristic at h
  split at h
  · simp
  · exact h.elim) (fun p l e s m args below meth c G av σ Post hC hr _ hav hin hk hT => pv_X9_wholeCharacteristic av σ Post hav hin hk hT _ (bk_X9_wholeCharacteristic hC hr))
