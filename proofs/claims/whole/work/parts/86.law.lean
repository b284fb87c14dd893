/-! the law: both programs side by side
-/
def SInv (I : Nat → Nat → Int) : Prop := ∃ S', cSt I S' ∧ mSt I S' ∧ okS S'
theorem mSt_cg {I J' S' : Nat → Nat → Int} (h : mSt I S') (f' : ∀ b', 338 ≤ b' → J' b' = I b') : mSt J' S' := by
  unfold mSt mW MN at h ⊢
  rw [f' 338 (by omega), f' 339 (by omega), f' 340 (by omega), f' 341 (by omega), f' 342 (by omega)]
  exact h
theorem q_done {I J' K' S' : Nat → Nat → Int} (hc : cSt I S') (hm : mSt I S') (ok : okS S') (h1 : scr J' I) (h2 : scM K' J') : SInv K' := by
  refine ⟨S', cSt_fr hc ok (fun b' hb' => ?_), mSt_fr (mSt_cg hm (fun b' hb' => h1 b' (by omega) (by omega))) ok h2, ok⟩
  rw [h2.1 b' (by omega), h1 b' (by omega) (by omega)]
def S0 : Nat → Nat → Int := fun c' i' => if c' = 0 then (if i' = 0 then 1 else if 2 ≤ i' ∧ i' < 14 then -1 else 0) else 0
theorem ok_S0 : okS S0 := by
  refine ⟨⟨1, 0, rfl, rfl, by omega, by omega, by omega, fun f' hf => Or.inl ?_, fun s' hs => by omega⟩, fun t' ht => ?_, ⟨by decide, by decide⟩, ⟨by decide, by decide⟩, fun i' hi' => ⟨Or.inl ?_, fun w' => absurd ?_ w'⟩, ⟨by decide, by decide⟩, fun i' hi' => ?_⟩
  · show (if (0 : Nat) = 0 then (if 2 + f' = 0 then (1 : Int) else if 2 ≤ 2 + f' ∧ 2 + f' < 14 then -1 else 0) else 0) = -1
    rw [if_pos rfl, if_neg (by omega), if_pos (by omega)]
  · have : S0 19 0 = 0 := rfl
    omega
  · show (if (19 : Nat) = 0 then _ else _) = _
    rw [if_neg (by omega)]
  · show (if (19 : Nat) = 0 then _ else _) = _
    rw [if_neg (by omega)]
  · have : S0 19 6 = 0 := rfl
    omega
theorem sh_00 : (mm_sh 0).1 = 10 := by decide +kernel
set_option maxRecDepth 100000 in
set_option maxHeartbeats 4000000 in
theorem lc_told {sx : Nat → Int} {N : Nat} {Ok : Nat → mm_K} (hsx : ∀ j', mm_in (sx j')) (cx : mm_imp (b_law_140 sx N Ok) (Ok 140)) {i' : Nat} (hi' : i' + 6 ≤ N) (hN' : N ≤ 3072) (p889 : ∀ J', SInv J' → Ok 889 [.inr (some 1000005), .inr (some 0), .inr (some 338), .inl (i' : Int)] [] (J', mm_R0)) (I : Nat → Nat → Int) (hI : SInv I) : Ok 140 [.inr (some 1000005), .inr (some 0), .inr (some 338), .inl (i' : Int)] [] (I, mm_R0) := by
  obtain ⟨S', hc, hm, ok⟩ := hI
  have w0' := m0
  have z0 := sh_00
  refine cx _ _ _ ?_
  simp only [b_law_140, mm_in, w0', z0, T_X11_told, T_X12_told, dT, mT, i_scl, i_scn, i_and31, i_end, i_bad, i_new, i_newa, i_pr, i_aas, i_oi, i_ci, i_fix, i_xorg, i_shl, i_shr, i_ior, i_and1, i_lcg1, i_lcg2, i_ld, i_la, i_st, i_sa, i_c, i_inc, i_add, i_sub, i_mul, i_div, i_rem, i_remT, i_xor, i_dup, i_dup2, i_if, i_if2, i_sw, i_gi, i_gr, i_pi, i_pz, i_ial, i_ias, i_len, i_aal, i_gs, i_tal, i_cv, i_cs, i_ir, i_zr, i_vr, i_min, i_max, i_cpy, List.getElem?_cons_zero, List.getElem?_cons_succ, List.set_cons_zero, List.set_cons_succ, List.length_cons, List.length_nil, List.drop_succ_cons, List.drop_zero, List.take_succ_cons, List.take_zero, List.reverse_cons, List.reverse_nil, List.nil_append, List.cons_append, Option.toList_some, Option.toList_none, true_and, and_true, true_or, or_true, Nat.reduceAdd, Nat.reduceLT, Nat.reduceLeDiff, Option.some.injEq, exists_eq_left', Int.toNat_natCast, Nat.reduceSub, List.append_nil, List.replicate_succ, List.replicate_zero]
  repeat' refine And.intro ?_ ?_
  all_goals try omega
  obtain ⟨n', hn, g1, g2, g3'⟩ := cSt_gw hc ok
  refine ⟨n', g1, g2, g3', fun J' z' f1' h1 => ?_⟩
  have hm1 := mSt_cg hm (fun b' hb' => f1' b' (by omega) (by omega))
  obtain ⟨nn, hnn, k1', k2', k3', k4'⟩ := mSt_gM hm1 ok
  repeat' refine And.intro ?_ ?_
  all_goals try omega
  exact ⟨nn, k1', k2', k3', fun K' y' f2' h2 => ⟨fun _ => p889 K' (q_done hc hm ok f1' f2'), fun w' => w' (eq_told hc hm1 ok g1 k1' h1 h2)⟩⟩
set_option maxRecDepth 100000 in
set_option maxHeartbeats 4000000 in
theorem lc_wall {sx : Nat → Int} {N : Nat} {Ok : Nat → mm_K} (hsx : ∀ j', mm_in (sx j')) (cx : mm_imp (b_law_163 sx N Ok) (Ok 163)) {i' : Nat} (hi' : i' + 6 ≤ N) (hN' : N ≤ 3072) (p889 : ∀ J', SInv J' → Ok 889 [.inr (some 1000005), .inr (some 0), .inr (some 338), .inl (i' : Int)] [] (J', mm_R0)) (I : Nat → Nat → Int) (hI : SInv I) : Ok 163 [.inr (some 1000005), .inr (some 0), .inr (some 338), .inl (i' : Int)] [] (I, mm_R0) := by
  obtain ⟨S', hc, hm, ok⟩ := hI
  have w0' := m0
  have z0 := sh_00
  refine cx _ _ _ ?_
  simp only [b_law_163, mm_in, w0', z0, T_X11_wall, T_X12_wall, dT, mT, i_scl, i_scn, i_and31, i_end, i_bad, i_new, i_newa, i_pr, i_aas, i_oi, i_ci, i_fix, i_xorg, i_shl, i_shr, i_ior, i_and1, i_lcg1, i_lcg2, i_ld, i_la, i_st, i_sa, i_c, i_inc, i_add, i_sub, i_mul, i_div, i_rem, i_remT, i_xor, i_dup, i_dup2, i_if, i_if2, i_sw, i_gi, i_gr, i_pi, i_pz, i_ial, i_ias, i_len, i_aal, i_gs, i_tal, i_cv, i_cs, i_ir, i_zr, i_vr, i_min, i_max, i_cpy, List.getElem?_cons_zero, List.getElem?_cons_succ, List.set_cons_zero, List.set_cons_succ, List.length_cons, List.length_nil, List.drop_succ_cons, List.drop_zero, List.take_succ_cons, List.take_zero, List.reverse_cons, List.reverse_nil, List.nil_append, List.cons_append, Option.toList_some, Option.toList_none, true_and, and_true, true_or, or_true, Nat.reduceAdd, Nat.reduceLT, Nat.reduceLeDiff, Option.some.injEq, exists_eq_left', Int.toNat_natCast, Nat.reduceSub, List.append_nil, List.replicate_succ, List.replicate_zero]
  repeat' refine And.intro ?_ ?_
  all_goals try omega
  obtain ⟨n', g1, g2, g3', k1', k2', k3', ag, _⟩ := qst hc hm ok
  refine ⟨n', g1, fun z' h1 => ?_⟩
  repeat' refine And.intro ?_ ?_
  all_goals try omega
  exact ⟨n', k1', fun y' h2 => ⟨fun _ => p889 I ⟨S', hc, hm, ok⟩, fun w' => w' (eq_wall g1.2.2.1 g1.2.2.2 ag h1 h2)⟩⟩
set_option maxRecDepth 100000 in
set_option maxHeartbeats 4000000 in
theorem lc_corner {sx : Nat → Int} {N : Nat} {Ok : Nat → mm_K} (hsx : ∀ j', mm_in (sx j')) (cx : mm_imp (b_law_206 sx N Ok) (Ok 206)) {i' : Nat} (hi' : i' + 6 ≤ N) (hN' : N ≤ 3072) (p889 : ∀ J', SInv J' → Ok 889 [.inr (some 1000005), .inr (some 0), .inr (some 338), .inl (i' : Int)] [] (J', mm_R0)) (I : Nat → Nat → Int) (hI : SInv I) : Ok 206 [.inr (some 1000005), .inr (some 0), .inr (some 338), .inl (i' : Int)] [] (I, mm_R0) := by
  obtain ⟨S', hc, hm, ok⟩ := hI
  have w0' := m0
  have z0 := sh_00
  refine cx _ _ _ ?_
  simp only [b_law_206, mm_in, w0', z0, T_X11_corner, T_X12_corner, dT, mT, i_scl, i_scn, i_and31, i_end, i_bad, i_new, i_newa, i_pr, i_aas, i_oi, i_ci, i_fix, i_xorg, i_shl, i_shr, i_ior, i_and1, i_lcg1, i_lcg2, i_ld, i_la, i_st, i_sa, i_c, i_inc, i_add, i_sub, i_mul, i_div, i_rem, i_remT, i_xor, i_dup, i_dup2, i_if, i_if2, i_sw, i_gi, i_gr, i_pi, i_pz, i_ial, i_ias, i_len, i_aal, i_gs, i_tal, i_cv, i_cs, i_ir, i_zr, i_vr, i_min, i_max, i_cpy, List.getElem?_cons_zero, List.getElem?_cons_succ, List.set_cons_zero, List.set_cons_succ, List.length_cons, List.length_nil, List.drop_succ_cons, List.drop_zero, List.take_succ_cons, List.take_zero, List.reverse_cons, List.reverse_nil, List.nil_append, List.cons_append, Option.toList_some, Option.toList_none, true_and, and_true, true_or, or_true, Nat.reduceAdd, Nat.reduceLT, Nat.reduceLeDiff, Option.some.injEq, exists_eq_left', Int.toNat_natCast, Nat.reduceSub, List.append_nil, List.replicate_succ, List.replicate_zero]
  repeat' refine And.intro ?_ ?_
  all_goals try omega
  obtain ⟨n', hn, g1, g2, g3'⟩ := cSt_gw hc ok
  refine ⟨n', g1, fun J' z' f1' h1 => ?_⟩
  have hm1 := mSt_cg hm (fun b' hb' => f1' b' (by omega) (by omega))
  obtain ⟨nn, gg1, _, _, k1', k2', k3', ag, _⟩ := qst hc hm1 ok
  have en : nn = n' := by have := g1.1; have := gg1.1; omega
  subst en
  repeat' refine And.intro ?_ ?_
  all_goals try omega
  exact ⟨nn, k1', fun K' y' f2' h2 => ⟨fun _ => p889 K' (q_done hc hm ok f1' f2'), fun w' => w' (eq_corner g1.2.2.1 g1.2.2.2 ag h1 h2)⟩⟩
set_option maxRecDepth 100000 in
set_option maxHeartbeats 4000000 in
theorem lc_edge {sx : Nat → Int} {N : Nat} {Ok : Nat → mm_K} (hsx : ∀ j', mm_in (sx j')) (cx : mm_imp (b_law_249 sx N Ok) (Ok 249)) {i' : Nat} (hi' : i' + 6 ≤ N) (hN' : N ≤ 3072) (p889 : ∀ J', SInv J' → Ok 889 [.inr (some 1000005), .inr (some 0), .inr (some 338), .inl (i' : Int)] [] (J', mm_R0)) (I : Nat → Nat → Int) (hI : SInv I) : Ok 249 [.inr (some 1000005), .inr (some 0), .inr (some 338), .inl (i' : Int)] [] (I, mm_R0) := by
  obtain ⟨S', hc, hm, ok⟩ := hI
  have w0' := m0
  have z0 := sh_00
  refine cx _ _ _ ?_
  simp only [b_law_249, mm_in, w0', z0, T_X11_edge, T_X12_edge, dT, mT, i_scl, i_scn, i_and31, i_end, i_bad, i_new, i_newa, i_pr, i_aas, i_oi, i_ci, i_fix, i_xorg, i_shl, i_shr, i_ior, i_and1, i_lcg1, i_lcg2, i_ld, i_la, i_st, i_sa, i_c, i_inc, i_add, i_sub, i_mul, i_div, i_rem, i_remT, i_xor, i_dup, i_dup2, i_if, i_if2, i_sw, i_gi, i_gr, i_pi, i_pz, i_ial, i_ias, i_len, i_aal, i_gs, i_tal, i_cv, i_cs, i_ir, i_zr, i_vr, i_min, i_max, i_cpy, List.getElem?_cons_zero, List.getElem?_cons_succ, List.set_cons_zero, List.set_cons_succ, List.length_cons, List.length_nil, List.drop_succ_cons, List.drop_zero, List.take_succ_cons, List.take_zero, List.reverse_cons, List.reverse_nil, List.nil_append, List.cons_append, Option.toList_some, Option.toList_none, true_and, and_true, true_or, or_true, Nat.reduceAdd, Nat.reduceLT, Nat.reduceLeDiff, Option.some.injEq, exists_eq_left', Int.toNat_natCast, Nat.reduceSub, List.append_nil, List.replicate_succ, List.replicate_zero]
  repeat' refine And.intro ?_ ?_
  all_goals try omega
  obtain ⟨n', hn, g1, g2, g3'⟩ := cSt_gw hc ok
  refine ⟨n', g1, fun J' z' f1' h1 => ?_⟩
  have hm1 := mSt_cg hm (fun b' hb' => f1' b' (by omega) (by omega))
  obtain ⟨nn, gg1, _, _, k1', k2', k3', ag, _⟩ := qst hc hm1 ok
  have en : nn = n' := by have := g1.1; have := gg1.1; omega
  subst en
  repeat' refine And.intro ?_ ?_
  all_goals try omega
  exact ⟨nn, k1', fun K' y' f2' h2 => ⟨fun _ => p889 K' (q_done hc hm ok f1' f2'), fun w' => w' (eq_edge g1.2.2.1 g1.2.2.2 ag h1 h2)⟩⟩
set_option maxRecDepth 100000 in
set_option maxHeartbeats 4000000 in
theorem lc_pieces {sx : Nat → Int} {N : Nat} {Ok : Nat → mm_K} (hsx : ∀ j', mm_in (sx j')) (cx : mm_imp (b_law_292 sx N Ok) (Ok 292)) {i' : Nat} (hi' : i' + 6 ≤ N) (hN' : N ≤ 3072) (p889 : ∀ J', SInv J' → Ok 889 [.inr (some 1000005), .inr (some 0), .inr (some 338), .inl (i' : Int)] [] (J', mm_R0)) (I : Nat → Nat → Int) (hI : SInv I) : Ok 292 [.inr (some 1000005), .inr (some 0), .inr (some 338), .inl (i' : Int)] [] (I, mm_R0) := by
  obtain ⟨S', hc, hm, ok⟩ := hI
  have w0' := m0
  have z0 := sh_00
  obtain ⟨n', g1, g2, g3', k1', k2', k3', ag, _⟩ := qst hc hm ok
  obtain ⟨ga, gb, gc⟩ := id g2
  obtain ⟨ka, kb, kc⟩ := id k2'
  refine cx _ _ _ ?_
  simp only [b_law_292, mm_in, w0', z0, T_X11_pieces, T_X12_pieces, dT, mT, i_scl, i_scn, i_and31, i_end, i_bad, i_new, i_newa, i_pr, i_aas, i_oi, i_ci, i_fix, i_xorg, i_shl, i_shr, i_ior, i_and1, i_lcg1, i_lcg2, i_ld, i_la, i_st, i_sa, i_c, i_inc, i_add, i_sub, i_mul, i_div, i_rem, i_remT, i_xor, i_dup, i_dup2, i_if, i_if2, i_sw, i_gi, i_gr, i_pi, i_pz, i_ial, i_ias, i_len, i_aal, i_gs, i_tal, i_cv, i_cs, i_ir, i_zr, i_vr, i_min, i_max, i_cpy, List.getElem?_cons_zero, List.getElem?_cons_succ, List.set_cons_zero, List.set_cons_succ, List.length_cons, List.length_nil, List.drop_succ_cons, List.drop_zero, List.take_succ_cons, List.take_zero, List.reverse_cons, List.reverse_nil, List.nil_append, List.cons_append, Option.toList_some, Option.toList_none, true_and, and_true, true_or, or_true, Nat.reduceAdd, Nat.reduceLT, Nat.reduceLeDiff, Option.some.injEq, exists_eq_left', Int.toNat_natCast, Nat.reduceSub, List.append_nil, List.replicate_succ, List.replicate_zero]
  repeat' refine And.intro ?_ ?_
  all_goals try omega
  all_goals try first | exact gc | exact ⟨n', g1⟩
  intro z' h1
  repeat' refine And.intro ?_ ?_
  all_goals try omega
  all_goals try first | exact kc | exact ⟨n', k1'⟩
  intro y' h2
  exact ⟨fun _ => p889 I ⟨S', hc, hm, ok⟩, fun w' => w' (eq_pieces hc hm ok h1 h2)⟩
set_option maxRecDepth 100000 in
set_option maxHeartbeats 4000000 in
theorem lc_surface {sx : Nat → Int} {N : Nat} {Ok : Nat → mm_K} (hsx : ∀ j', mm_in (sx j')) (cx : mm_imp (b_law_335 sx N Ok) (Ok 335)) {i' : Nat} (hi' : i' + 6 ≤ N) (hN' : N ≤ 3072) (p889 : ∀ J', SInv J' → Ok 889 [.inr (some 1000005), .inr (some 0), .inr (some 338), .inl (i' : Int)] [] (J', mm_R0)) (I : Nat → Nat → Int) (hI : SInv I) : Ok 335 [.inr (some 1000005), .inr (some 0), .inr (some 338), .inl (i' : Int)] [] (I, mm_R0) := by
  obtain ⟨S', hc, hm, ok⟩ := hI
  have w0' := m0
  have z0 := sh_00
  refine cx _ _ _ ?_
  simp only [b_law_335, mm_in, w0', z0, T_X11_surface, T_X12_surface, dT, mT, i_scl, i_scn, i_and31, i_end, i_bad, i_new, i_newa, i_pr, i_aas, i_oi, i_ci, i_fix, i_xorg, i_shl, i_shr, i_ior, i_and1, i_lcg1, i_lcg2, i_ld, i_la, i_st, i_sa, i_c, i_inc, i_add, i_sub, i_mul, i_div, i_rem, i_remT, i_xor, i_dup, i_dup2, i_if, i_if2, i_sw, i_gi, i_gr, i_pi, i_pz, i_ial, i_ias, i_len, i_aal, i_gs, i_tal, i_cv, i_cs, i_ir, i_zr, i_vr, i_min, i_max, i_cpy, List.getElem?_cons_zero, List.getElem?_cons_succ, List.set_cons_zero, List.set_cons_succ, List.length_cons, List.length_nil, List.drop_succ_cons, List.drop_zero, List.take_succ_cons, List.take_zero, List.reverse_cons, List.reverse_nil, List.nil_append, List.cons_append, Option.toList_some, Option.toList_none, true_and, and_true, true_or, or_true, Nat.reduceAdd, Nat.reduceLT, Nat.reduceLeDiff, Option.some.injEq, exists_eq_left', Int.toNat_natCast, Nat.reduceSub, List.append_nil, List.replicate_succ, List.replicate_zero]
  repeat' refine And.intro ?_ ?_
  all_goals try omega
  obtain ⟨n', hn, g1, g2, g3'⟩ := cSt_gw hc ok
  refine ⟨n', g1, g2, fun J' z' f1' h1 => ?_⟩
  have hm1 := mSt_cg hm (fun b' hb' => f1' b' (by omega) (by omega))
  obtain ⟨nn, hnn, k1', k2', k3', k4'⟩ := mSt_gM hm1 ok
  repeat' refine And.intro ?_ ?_
  all_goals try omega
  exact ⟨nn, k1', k2', hm1.2.2.2.2.2.2.2.2, fun K' y' f2' h2 => ⟨fun _ => p889 K' (q_done hc hm ok f1' f2'), fun w' => w' (eq_surf hc hm1 ok g1 k1' h1 h2)⟩⟩
set_option maxRecDepth 100000 in
set_option maxHeartbeats 4000000 in
theorem lc_weight {sx : Nat → Int} {N : Nat} {Ok : Nat → mm_K} (hsx : ∀ j', mm_in (sx j')) (cx : mm_imp (b_law_368 sx N Ok) (Ok 368)) {i' : Nat} (hi' : i' + 6 ≤ N) (hN' : N ≤ 3072) (p889 : ∀ J', SInv J' → Ok 889 [.inr (some 1000005), .inr (some 0), .inr (some 338), .inl (i' : Int)] [] (J', mm_R0)) (I : Nat → Nat → Int) (hI : SInv I) : Ok 368 [.inr (some 1000005), .inr (some 0), .inr (some 338), .inl (i' : Int)] [] (I, mm_R0) := by
  obtain ⟨S', hc, hm, ok⟩ := hI
  have w0' := m0
  have z0 := sh_00
  obtain ⟨n', g1, g2, g3', k1', k2', k3', ag, _⟩ := qst hc hm ok
  obtain ⟨ga, gb, gc⟩ := id g2
  obtain ⟨ka, kb, kc⟩ := id k2'
  refine cx _ _ _ ?_
  simp only [b_law_368, mm_in, w0', z0, T_X11_weight, T_X12_weight, dT, mT, i_scl, i_scn, i_and31, i_end, i_bad, i_new, i_newa, i_pr, i_aas, i_oi, i_ci, i_fix, i_xorg, i_shl, i_shr, i_ior, i_and1, i_lcg1, i_lcg2, i_ld, i_la, i_st, i_sa, i_c, i_inc, i_add, i_sub, i_mul, i_div, i_rem, i_remT, i_xor, i_dup, i_dup2, i_if, i_if2, i_sw, i_gi, i_gr, i_pi, i_pz, i_ial, i_ias, i_len, i_aal, i_gs, i_tal, i_cv, i_cs, i_ir, i_zr, i_vr, i_min, i_max, i_cpy, List.getElem?_cons_zero, List.getElem?_cons_succ, List.set_cons_zero, List.set_cons_succ, List.length_cons, List.length_nil, List.drop_succ_cons, List.drop_zero, List.take_succ_cons, List.take_zero, List.reverse_cons, List.reverse_nil, List.nil_append, List.cons_append, Option.toList_some, Option.toList_none, true_and, and_true, true_or, or_true, Nat.reduceAdd, Nat.reduceLT, Nat.reduceLeDiff, Option.some.injEq, exists_eq_left', Int.toNat_natCast, Nat.reduceSub, List.append_nil, List.replicate_succ, List.replicate_zero]
  repeat' refine And.intro ?_ ?_
  all_goals try omega
  all_goals try first | exact gc | exact ⟨n', g1⟩
  intro z' h1
  repeat' refine And.intro ?_ ?_
  all_goals try omega
  all_goals try first | exact kc | exact ⟨n', k1'⟩
  intro y' h2
  exact ⟨fun _ => p889 I ⟨S', hc, hm, ok⟩, fun w' => w' (eq_weight hc hm ok h1 h2)⟩
set_option maxRecDepth 100000 in
set_option maxHeartbeats 4000000 in
theorem lc_arcs {sx : Nat → Int} {N : Nat} {Ok : Nat → mm_K} (hsx : ∀ j', mm_in (sx j')) (cx : mm_imp (b_law_411 sx N Ok) (Ok 411)) {i' : Nat} (hi' : i' + 6 ≤ N) (hN' : N ≤ 3072) (p889 : ∀ J', SInv J' → Ok 889 [.inr (some 1000005), .inr (some 0), .inr (some 338), .inl (i' : Int)] [] (J', mm_R0)) (I : Nat → Nat → Int) (hI : SInv I) : Ok 411 [.inr (some 1000005), .inr (some 0), .inr (some 338), .inl (i' : Int)] [] (I, mm_R0) := by
  obtain ⟨S', hc, hm, ok⟩ := hI
  have w0' := m0
  have z0 := sh_00
  obtain ⟨n', g1, g2, g3', k1', k2', k3', ag, _⟩ := qst hc hm ok
  obtain ⟨ga, gb, gc⟩ := id g2
  obtain ⟨ka, kb, kc⟩ := id k2'
  refine cx _ _ _ ?_
  simp only [b_law_411, mm_in, w0', z0, T_X11_arcs, T_X12_arcs, dT, mT, i_scl, i_scn, i_and31, i_end, i_bad, i_new, i_newa, i_pr, i_aas, i_oi, i_ci, i_fix, i_xorg, i_shl, i_shr, i_ior, i_and1, i_lcg1, i_lcg2, i_ld, i_la, i_st, i_sa, i_c, i_inc, i_add, i_sub, i_mul, i_div, i_rem, i_remT, i_xor, i_dup, i_dup2, i_if, i_if2, i_sw, i_gi, i_gr, i_pi, i_pz, i_ial, i_ias, i_len, i_aal, i_gs, i_tal, i_cv, i_cs, i_ir, i_zr, i_vr, i_min, i_max, i_cpy, List.getElem?_cons_zero, List.getElem?_cons_succ, List.set_cons_zero, List.set_cons_succ, List.length_cons, List.length_nil, List.drop_succ_cons, List.drop_zero, List.take_succ_cons, List.take_zero, List.reverse_cons, List.reverse_nil, List.nil_append, List.cons_append, Option.toList_some, Option.toList_none, true_and, and_true, true_or, or_true, Nat.reduceAdd, Nat.reduceLT, Nat.reduceLeDiff, Option.some.injEq, exists_eq_left', Int.toNat_natCast, Nat.reduceSub, List.append_nil, List.replicate_succ, List.replicate_zero]
  repeat' refine And.intro ?_ ?_
  all_goals try omega
  all_goals try first | exact gc | exact ⟨n', g1⟩
  intro z' h1
  repeat' refine And.intro ?_ ?_
  all_goals try omega
  all_goals try first | exact kc | exact ⟨n', k1'⟩
  intro y' h2
  exact ⟨fun _ => p889 I ⟨S', hc, hm, ok⟩, fun w' => w' (eq_arcs hc hm ok h1 h2)⟩
set_option maxRecDepth 100000 in
set_option maxHeartbeats 4000000 in
theorem lc_bodies {sx : Nat → Int} {N : Nat} {Ok : Nat → mm_K} (hsx : ∀ j', mm_in (sx j')) (cx : mm_imp (b_law_464 sx N Ok) (Ok 464)) {i' : Nat} (hi' : i' + 6 ≤ N) (hN' : N ≤ 3072) (p889 : ∀ J', SInv J' → Ok 889 [.inr (some 1000005), .inr (some 0), .inr (some 338), .inl (i' : Int)] [] (J', mm_R0)) (I : Nat → Nat → Int) (hI : SInv I) : Ok 464 [.inr (some 1000005), .inr (some 0), .inr (some 338), .inl (i' : Int)] [] (I, mm_R0) := by
  obtain ⟨S', hc, hm, ok⟩ := hI
  have w0' := m0
  have z0 := sh_00
  refine cx _ _ _ ?_
  simp only [b_law_464, mm_in, w0', z0, T_X11_bodies, T_X12_bodies, dT, mT, i_scl, i_scn, i_and31, i_end, i_bad, i_new, i_newa, i_pr, i_aas, i_oi, i_ci, i_fix, i_xorg, i_shl, i_shr, i_ior, i_and1, i_lcg1, i_lcg2, i_ld, i_la, i_st, i_sa, i_c, i_inc, i_add, i_sub, i_mul, i_div, i_rem, i_remT, i_xor, i_dup, i_dup2, i_if, i_if2, i_sw, i_gi, i_gr, i_pi, i_pz, i_ial, i_ias, i_len, i_aal, i_gs, i_tal, i_cv, i_cs, i_ir, i_zr, i_vr, i_min, i_max, i_cpy, List.getElem?_cons_zero, List.getElem?_cons_succ, List.set_cons_zero, List.set_cons_succ, List.length_cons, List.length_nil, List.drop_succ_cons, List.drop_zero, List.take_succ_cons, List.take_zero, List.reverse_cons, List.reverse_nil, List.nil_append, List.cons_append, Option.toList_some, Option.toList_none, true_and, and_true, true_or, or_true, Nat.reduceAdd, Nat.reduceLT, Nat.reduceLeDiff, Option.some.injEq, exists_eq_left', Int.toNat_natCast, Nat.reduceSub, List.append_nil, List.replicate_succ, List.replicate_zero]
  repeat' refine And.intro ?_ ?_
  all_goals try omega
  refine ⟨S', hc, ok, fun J' f1' h1 => ?_⟩
  repeat' refine And.intro ?_ ?_
  all_goals try omega
  refine ⟨S', mSt_cg hm f1', ok, fun K' f2' h2 => ⟨fun _ => p889 K' ⟨_, cSt_fr h1 (ok_bod ok _) (fun b' hb' => f2' b' (by omega)), h2, (ok_bod ok _)⟩, fun w' => w' rfl⟩⟩
set_option maxRecDepth 100000 in
set_option maxHeartbeats 4000000 in
theorem lc_glue {sx : Nat → Int} {N : Nat} {Ok : Nat → mm_K} (hsx : ∀ j', mm_in (sx j')) (cx : mm_imp (b_law_487 sx N Ok) (Ok 487)) {i' : Nat} (hi' : i' + 6 ≤ N) (hN' : N ≤ 3072) (p889 : ∀ J', SInv J' → Ok 889 [.inr (some 1000005), .inr (some 0), .inr (some 338), .inl (i' : Int)] [] (J', mm_R0)) (I : Nat → Nat → Int) (hI : SInv I) : Ok 487 [.inr (some 1000005), .inr (some 0), .inr (some 338), .inl (i' : Int)] [] (I, mm_R0) := by
  obtain ⟨S', hc, hm, ok⟩ := hI
  have w0' := m0
  have z0 := sh_00
  refine cx _ _ _ ?_
  simp only [b_law_487, mm_in, w0', z0, T_X11_glue, T_X12_glue, dT, mT, i_scl, i_scn, i_and31, i_end, i_bad, i_new, i_newa, i_pr, i_aas, i_oi, i_ci, i_fix, i_xorg, i_shl, i_shr, i_ior, i_and1, i_lcg1, i_lcg2, i_ld, i_la, i_st, i_sa, i_c, i_inc, i_add, i_sub, i_mul, i_div, i_rem, i_remT, i_xor, i_dup, i_dup2, i_if, i_if2, i_sw, i_gi, i_gr, i_pi, i_pz, i_ial, i_ias, i_len, i_aal, i_gs, i_tal, i_cv, i_cs, i_ir, i_zr, i_vr, i_min, i_max, i_cpy, List.getElem?_cons_zero, List.getElem?_cons_succ, List.set_cons_zero, List.set_cons_succ, List.length_cons, List.length_nil, List.drop_succ_cons, List.drop_zero, List.take_succ_cons, List.take_zero, List.reverse_cons, List.reverse_nil, List.nil_append, List.cons_append, Option.toList_some, Option.toList_none, true_and, and_true, true_or, or_true, Nat.reduceAdd, Nat.reduceLT, Nat.reduceLeDiff, Option.some.injEq, exists_eq_left', Int.toNat_natCast, Nat.reduceSub, List.append_nil, List.replicate_succ, List.replicate_zero]
  repeat' refine And.intro ?_ ?_
  all_goals try omega
  refine ⟨S', hc, ok, fun J' f1' h1 => ?_⟩
  repeat' refine And.intro ?_ ?_
  all_goals try omega
  refine ⟨S', mSt_cg hm f1', ok, fun K' f2' h2 => ⟨fun _ => p889 K' ⟨_, cSt_fr h1 (ok_glu ok _ _ _ _ _) (fun b' hb' => f2' b' (by omega)), h2, (ok_glu ok _ _ _ _ _)⟩, fun w' => w' rfl⟩⟩
set_option maxRecDepth 100000 in
set_option maxHeartbeats 4000000 in
theorem lc_free {sx : Nat → Int} {N : Nat} {Ok : Nat → mm_K} (hsx : ∀ j', mm_in (sx j')) (cx : mm_imp (b_law_550 sx N Ok) (Ok 550)) {i' : Nat} (hi' : i' + 6 ≤ N) (hN' : N ≤ 3072) (p889 : ∀ J', SInv J' → Ok 889 [.inr (some 1000005), .inr (some 0), .inr (some 338), .inl (i' : Int)] [] (J', mm_R0)) (I : Nat → Nat → Int) (hI : SInv I) : Ok 550 [.inr (some 1000005), .inr (some 0), .inr (some 338), .inl (i' : Int)] [] (I, mm_R0) := by
  obtain ⟨S', hc, hm, ok⟩ := hI
  have w0' := m0
  have z0 := sh_00
  refine cx _ _ _ ?_
  simp only [b_law_550, mm_in, w0', z0, T_X11_free, T_X12_free, dT, mT, i_scl, i_scn, i_and31, i_end, i_bad, i_new, i_newa, i_pr, i_aas, i_oi, i_ci, i_fix, i_xorg, i_shl, i_shr, i_ior, i_and1, i_lcg1, i_lcg2, i_ld, i_la, i_st, i_sa, i_c, i_inc, i_add, i_sub, i_mul, i_div, i_rem, i_remT, i_xor, i_dup, i_dup2, i_if, i_if2, i_sw, i_gi, i_gr, i_pi, i_pz, i_ial, i_ias, i_len, i_aal, i_gs, i_tal, i_cv, i_cs, i_ir, i_zr, i_vr, i_min, i_max, i_cpy, List.getElem?_cons_zero, List.getElem?_cons_succ, List.set_cons_zero, List.set_cons_succ, List.length_cons, List.length_nil, List.drop_succ_cons, List.drop_zero, List.take_succ_cons, List.take_zero, List.reverse_cons, List.reverse_nil, List.nil_append, List.cons_append, Option.toList_some, Option.toList_none, true_and, and_true, true_or, or_true, Nat.reduceAdd, Nat.reduceLT, Nat.reduceLeDiff, Option.some.injEq, exists_eq_left', Int.toNat_natCast, Nat.reduceSub, List.append_nil, List.replicate_succ, List.replicate_zero]
  repeat' refine And.intro ?_ ?_
  all_goals try omega
  refine ⟨S', hc, ok, fun J' f1' h1 => ?_⟩
  repeat' refine And.intro ?_ ?_
  all_goals try omega
  refine ⟨S', mSt_cg hm f1', ok, fun K' f2' h2 => ⟨fun _ => p889 K' ⟨_, cSt_fr h1 (ok_fre ok _ _) (fun b' hb' => f2' b' (by omega)), h2, (ok_fre ok _ _)⟩, fun w' => w' rfl⟩⟩
set_option maxRecDepth 100000 in
set_option maxHeartbeats 4000000 in
theorem lc_put {sx : Nat → Int} {N : Nat} {Ok : Nat → mm_K} (hsx : ∀ j', mm_in (sx j')) (cx : mm_imp (b_law_583 sx N Ok) (Ok 583)) {i' : Nat} (hi' : i' + 6 ≤ N) (hN' : N ≤ 3072) (p889 : ∀ J', SInv J' → Ok 889 [.inr (some 1000005), .inr (some 0), .inr (some 338), .inl (i' : Int)] [] (J', mm_R0)) (I : Nat → Nat → Int) (hI : SInv I) : Ok 583 [.inr (some 1000005), .inr (some 0), .inr (some 338), .inl (i' : Int)] [] (I, mm_R0) := by
  obtain ⟨S', hc, hm, ok⟩ := hI
  have w0' := m0
  have z0 := sh_00
  refine cx _ _ _ ?_
  simp only [b_law_583, mm_in, w0', z0, T_X11_put, T_X12_put, dT, mT, i_scl, i_scn, i_and31, i_end, i_bad, i_new, i_newa, i_pr, i_aas, i_oi, i_ci, i_fix, i_xorg, i_shl, i_shr, i_ior, i_and1, i_lcg1, i_lcg2, i_ld, i_la, i_st, i_sa, i_c, i_inc, i_add, i_sub, i_mul, i_div, i_rem, i_remT, i_xor, i_dup, i_dup2, i_if, i_if2, i_sw, i_gi, i_gr, i_pi, i_pz, i_ial, i_ias, i_len, i_aal, i_gs, i_tal, i_cv, i_cs, i_ir, i_zr, i_vr, i_min, i_max, i_cpy, List.getElem?_cons_zero, List.getElem?_cons_succ, List.set_cons_zero, List.set_cons_succ, List.length_cons, List.length_nil, List.drop_succ_cons, List.drop_zero, List.take_succ_cons, List.take_zero, List.reverse_cons, List.reverse_nil, List.nil_append, List.cons_append, Option.toList_some, Option.toList_none, true_and, and_true, true_or, or_true, Nat.reduceAdd, Nat.reduceLT, Nat.reduceLeDiff, Option.some.injEq, exists_eq_left', Int.toNat_natCast, Nat.reduceSub, List.append_nil, List.replicate_succ, List.replicate_zero]
  repeat' refine And.intro ?_ ?_
  all_goals try omega
  refine ⟨S', hc, ok, fun J' f1' h1 => ?_⟩
  repeat' refine And.intro ?_ ?_
  all_goals try omega
  refine ⟨S', mSt_cg hm f1', ok, fun K' f2' h2 => ⟨fun _ => p889 K' ⟨_, cSt_fr h1 (ok_put ok) (fun b' hb' => f2' b' (by omega)), h2, (ok_put ok)⟩, fun w' => w' rfl⟩⟩
set_option maxRecDepth 100000 in
set_option maxHeartbeats 4000000 in
theorem lc_piece {sx : Nat → Int} {N : Nat} {Ok : Nat → mm_K} (hsx : ∀ j', mm_in (sx j')) (cx : mm_imp (b_law_596 sx N Ok) (Ok 596)) {i' : Nat} (hi' : i' + 6 ≤ N) (hN' : N ≤ 3072) (p889 : ∀ J', SInv J' → Ok 889 [.inr (some 1000005), .inr (some 0), .inr (some 338), .inl (i' : Int)] [] (J', mm_R0)) (I : Nat → Nat → Int) (hI : SInv I) : Ok 596 [.inr (some 1000005), .inr (some 0), .inr (some 338), .inl (i' : Int)] [] (I, mm_R0) := by
  obtain ⟨S', hc, hm, ok⟩ := hI
  have w0' := m0
  have z0 := sh_00
  refine cx _ _ _ ?_
  simp only [b_law_596, mm_in, w0', z0, T_X11_piece, T_X12_piece, dT, mT, i_scl, i_scn, i_and31, i_end, i_bad, i_new, i_newa, i_pr, i_aas, i_oi, i_ci, i_fix, i_xorg, i_shl, i_shr, i_ior, i_and1, i_lcg1, i_lcg2, i_ld, i_la, i_st, i_sa, i_c, i_inc, i_add, i_sub, i_mul, i_div, i_rem, i_remT, i_xor, i_dup, i_dup2, i_if, i_if2, i_sw, i_gi, i_gr, i_pi, i_pz, i_ial, i_ias, i_len, i_aal, i_gs, i_tal, i_cv, i_cs, i_ir, i_zr, i_vr, i_min, i_max, i_cpy, List.getElem?_cons_zero, List.getElem?_cons_succ, List.set_cons_zero, List.set_cons_succ, List.length_cons, List.length_nil, List.drop_succ_cons, List.drop_zero, List.take_succ_cons, List.take_zero, List.reverse_cons, List.reverse_nil, List.nil_append, List.cons_append, Option.toList_some, Option.toList_none, true_and, and_true, true_or, or_true, Nat.reduceAdd, Nat.reduceLT, Nat.reduceLeDiff, Option.some.injEq, exists_eq_left', Int.toNat_natCast, Nat.reduceSub, List.append_nil, List.replicate_succ, List.replicate_zero]
  repeat' refine And.intro ?_ ?_
  all_goals try omega
  refine ⟨S', hc, ok, fun J' f1' h1 => ?_⟩
  repeat' refine And.intro ?_ ?_
  all_goals try omega
  refine ⟨S', mSt_cg hm f1', ok, fun K' f2' h2 => ⟨fun _ => p889 K' ⟨_, cSt_fr h1 (ok_pie ok _ _ _ _) (fun b' hb' => f2' b' (by omega)), h2, (ok_pie ok _ _ _ _)⟩, fun w' => w' rfl⟩⟩
set_option maxRecDepth 100000 in
set_option maxHeartbeats 4000000 in
theorem lc_about {sx : Nat → Int} {N : Nat} {Ok : Nat → mm_K} (hsx : ∀ j', mm_in (sx j')) (cx : mm_imp (b_law_649 sx N Ok) (Ok 649)) {i' : Nat} (hi' : i' + 6 ≤ N) (hN' : N ≤ 3072) (p889 : ∀ J', SInv J' → Ok 889 [.inr (some 1000005), .inr (some 0), .inr (some 338), .inl (i' : Int)] [] (J', mm_R0)) (I : Nat → Nat → Int) (hI : SInv I) : Ok 649 [.inr (some 1000005), .inr (some 0), .inr (some 338), .inl (i' : Int)] [] (I, mm_R0) := by
  obtain ⟨S', hc, hm, ok⟩ := hI
  have w0' := m0
  have z0 := sh_00
  refine cx _ _ _ ?_
  simp only [b_law_649, mm_in, w0', z0, T_X11_about, T_X12_about, dT, mT, i_scl, i_scn, i_and31, i_end, i_bad, i_new, i_newa, i_pr, i_aas, i_oi, i_ci, i_fix, i_xorg, i_shl, i_shr, i_ior, i_and1, i_lcg1, i_lcg2, i_ld, i_la, i_st, i_sa, i_c, i_inc, i_add, i_sub, i_mul, i_div, i_rem, i_remT, i_xor, i_dup, i_dup2, i_if, i_if2, i_sw, i_gi, i_gr, i_pi, i_pz, i_ial, i_ias, i_len, i_aal, i_gs, i_tal, i_cv, i_cs, i_ir, i_zr, i_vr, i_min, i_max, i_cpy, List.getElem?_cons_zero, List.getElem?_cons_succ, List.set_cons_zero, List.set_cons_succ, List.length_cons, List.length_nil, List.drop_succ_cons, List.drop_zero, List.take_succ_cons, List.take_zero, List.reverse_cons, List.reverse_nil, List.nil_append, List.cons_append, Option.toList_some, Option.toList_none, true_and, and_true, true_or, or_true, Nat.reduceAdd, Nat.reduceLT, Nat.reduceLeDiff, Option.some.injEq, exists_eq_left', Int.toNat_natCast, Nat.reduceSub, List.append_nil, List.replicate_succ, List.replicate_zero]
  repeat' refine And.intro ?_ ?_
  all_goals try omega
  refine ⟨S', hc, ok, fun J' f1' h1 => ?_⟩
  repeat' refine And.intro ?_ ?_
  all_goals try omega
  refine ⟨S', mSt_cg hm f1', ok, fun K' f2' h2 => ⟨fun _ => p889 K' ⟨_, cSt_fr h1 (ok_abo ok _) (fun b' hb' => f2' b' (by omega)), h2, (ok_abo ok _)⟩, fun w' => w' rfl⟩⟩
set_option maxRecDepth 100000 in
set_option maxHeartbeats 4000000 in
theorem lc_add {sx : Nat → Int} {N : Nat} {Ok : Nat → mm_K} (hsx : ∀ j', mm_in (sx j')) (cx : mm_imp (b_law_672 sx N Ok) (Ok 672)) {i' : Nat} (hi' : i' + 6 ≤ N) (hN' : N ≤ 3072) (p889 : ∀ J', SInv J' → Ok 889 [.inr (some 1000005), .inr (some 0), .inr (some 338), .inl (i' : Int)] [] (J', mm_R0)) (I : Nat → Nat → Int) (hI : SInv I) : Ok 672 [.inr (some 1000005), .inr (some 0), .inr (some 338), .inl (i' : Int)] [] (I, mm_R0) := by
  obtain ⟨S', hc, hm, ok⟩ := hI
  have w0' := m0
  have z0 := sh_00
  refine cx _ _ _ ?_
  simp only [b_law_672, mm_in, w0', z0, T_X11_add, T_X12_add, dT, mT, i_scl, i_scn, i_and31, i_end, i_bad, i_new, i_newa, i_pr, i_aas, i_oi, i_ci, i_fix, i_xorg, i_shl, i_shr, i_ior, i_and1, i_lcg1, i_lcg2, i_ld, i_la, i_st, i_sa, i_c, i_inc, i_add, i_sub, i_mul, i_div, i_rem, i_remT, i_xor, i_dup, i_dup2, i_if, i_if2, i_sw, i_gi, i_gr, i_pi, i_pz, i_ial, i_ias, i_len, i_aal, i_gs, i_tal, i_cv, i_cs, i_ir, i_zr, i_vr, i_min, i_max, i_cpy, List.getElem?_cons_zero, List.getElem?_cons_succ, List.set_cons_zero, List.set_cons_succ, List.length_cons, List.length_nil, List.drop_succ_cons, List.drop_zero, List.take_succ_cons, List.take_zero, List.reverse_cons, List.reverse_nil, List.nil_append, List.cons_append, Option.toList_some, Option.toList_none, true_and, and_true, true_or, or_true, Nat.reduceAdd, Nat.reduceLT, Nat.reduceLeDiff, Option.some.injEq, exists_eq_left', Int.toNat_natCast, Nat.reduceSub, List.append_nil, List.replicate_succ, List.replicate_zero]
  repeat' refine And.intro ?_ ?_
  all_goals try omega
  refine ⟨S', hc, ok, fun J' f1' h1 => ?_⟩
  repeat' refine And.intro ?_ ?_
  all_goals try omega
  refine ⟨S', mSt_cg hm f1', ok, fun K' f2' h2 => ⟨fun _ => p889 K' ⟨_, cSt_fr h1 (ok_add ok _ _) (fun b' hb' => f2' b' (by omega)), h2, (ok_add ok _ _)⟩, fun w' => w' rfl⟩⟩
set_option maxRecDepth 100000 in
set_option maxHeartbeats 4000000 in
theorem lc_take {sx : Nat → Int} {N : Nat} {Ok : Nat → mm_K} (hsx : ∀ j', mm_in (sx j')) (cx : mm_imp (b_law_705 sx N Ok) (Ok 705)) {i' : Nat} (hi' : i' + 6 ≤ N) (hN' : N ≤ 3072) (p889 : ∀ J', SInv J' → Ok 889 [.inr (some 1000005), .inr (some 0), .inr (some 338), .inl (i' : Int)] [] (J', mm_R0)) (I : Nat → Nat → Int) (hI : SInv I) : Ok 705 [.inr (some 1000005), .inr (some 0), .inr (some 338), .inl (i' : Int)] [] (I, mm_R0) := by
  obtain ⟨S', hc, hm, ok⟩ := hI
  have w0' := m0
  have z0 := sh_00
  refine cx _ _ _ ?_
  simp only [b_law_705, mm_in, w0', z0, T_X11_take, T_X12_take, dT, mT, i_scl, i_scn, i_and31, i_end, i_bad, i_new, i_newa, i_pr, i_aas, i_oi, i_ci, i_fix, i_xorg, i_shl, i_shr, i_ior, i_and1, i_lcg1, i_lcg2, i_ld, i_la, i_st, i_sa, i_c, i_inc, i_add, i_sub, i_mul, i_div, i_rem, i_remT, i_xor, i_dup, i_dup2, i_if, i_if2, i_sw, i_gi, i_gr, i_pi, i_pz, i_ial, i_ias, i_len, i_aal, i_gs, i_tal, i_cv, i_cs, i_ir, i_zr, i_vr, i_min, i_max, i_cpy, List.getElem?_cons_zero, List.getElem?_cons_succ, List.set_cons_zero, List.set_cons_succ, List.length_cons, List.length_nil, List.drop_succ_cons, List.drop_zero, List.take_succ_cons, List.take_zero, List.reverse_cons, List.reverse_nil, List.nil_append, List.cons_append, Option.toList_some, Option.toList_none, true_and, and_true, true_or, or_true, Nat.reduceAdd, Nat.reduceLT, Nat.reduceLeDiff, Option.some.injEq, exists_eq_left', Int.toNat_natCast, Nat.reduceSub, List.append_nil, List.replicate_succ, List.replicate_zero]
  repeat' refine And.intro ?_ ?_
  all_goals try omega
  refine ⟨S', hc, ok, fun J' f1' h1 => ?_⟩
  repeat' refine And.intro ?_ ?_
  all_goals try omega
  refine ⟨S', mSt_cg hm f1', ok, fun K' f2' h2 => ⟨fun _ => p889 K' ⟨_, cSt_fr h1 (ok_tak ok _) (fun b' hb' => f2' b' (by omega)), h2, (ok_tak ok _)⟩, fun w' => w' rfl⟩⟩
set_option maxRecDepth 100000 in
set_option maxHeartbeats 4000000 in
theorem lc_drift {sx : Nat → Int} {N : Nat} {Ok : Nat → mm_K} (hsx : ∀ j', mm_in (sx j')) (cx : mm_imp (b_law_728 sx N Ok) (Ok 728)) {i' : Nat} (hi' : i' + 6 ≤ N) (hN' : N ≤ 3072) (p889 : ∀ J', SInv J' → Ok 889 [.inr (some 1000005), .inr (some 0), .inr (some 338), .inl (i' : Int)] [] (J', mm_R0)) (I : Nat → Nat → Int) (hI : SInv I) : Ok 728 [.inr (some 1000005), .inr (some 0), .inr (some 338), .inl (i' : Int)] [] (I, mm_R0) := by
  obtain ⟨S', hc, hm, ok⟩ := hI
  have w0' := m0
  have z0 := sh_00
  refine cx _ _ _ ?_
  simp only [b_law_728, mm_in, w0', z0, T_X11_drift, T_X12_drift, dT, mT, i_scl, i_scn, i_and31, i_end, i_bad, i_new, i_newa, i_pr, i_aas, i_oi, i_ci, i_fix, i_xorg, i_shl, i_shr, i_ior, i_and1, i_lcg1, i_lcg2, i_ld, i_la, i_st, i_sa, i_c, i_inc, i_add, i_sub, i_mul, i_div, i_rem, i_remT, i_xor, i_dup, i_dup2, i_if, i_if2, i_sw, i_gi, i_gr, i_pi, i_pz, i_ial, i_ias, i_len, i_aal, i_gs, i_tal, i_cv, i_cs, i_ir, i_zr, i_vr, i_min, i_max, i_cpy, List.getElem?_cons_zero, List.getElem?_cons_succ, List.set_cons_zero, List.set_cons_succ, List.length_cons, List.length_nil, List.drop_succ_cons, List.drop_zero, List.take_succ_cons, List.take_zero, List.reverse_cons, List.reverse_nil, List.nil_append, List.cons_append, Option.toList_some, Option.toList_none, true_and, and_true, true_or, or_true, Nat.reduceAdd, Nat.reduceLT, Nat.reduceLeDiff, Option.some.injEq, exists_eq_left', Int.toNat_natCast, Nat.reduceSub, List.append_nil, List.replicate_succ, List.replicate_zero]
  repeat' refine And.intro ?_ ?_
  all_goals try omega
  refine ⟨S', hc, ok, fun J' f1' h1 => ?_⟩
  repeat' refine And.intro ?_ ?_
  all_goals try omega
  refine ⟨S', mSt_cg hm f1', ok, fun K' f2' h2 => ⟨fun _ => p889 K' ⟨_, cSt_fr h1 (ok_dri ok _) (fun b' hb' => f2' b' (by omega)), h2, (ok_dri ok _)⟩, fun w' => w' rfl⟩⟩
set_option maxRecDepth 100000 in
set_option maxHeartbeats 4000000 in
theorem lc_undo {sx : Nat → Int} {N : Nat} {Ok : Nat → mm_K} (hsx : ∀ j', mm_in (sx j')) (cx : mm_imp (b_law_751 sx N Ok) (Ok 751)) {i' : Nat} (hi' : i' + 6 ≤ N) (hN' : N ≤ 3072) (p889 : ∀ J', SInv J' → Ok 889 [.inr (some 1000005), .inr (some 0), .inr (some 338), .inl (i' : Int)] [] (J', mm_R0)) (I : Nat → Nat → Int) (hI : SInv I) : Ok 751 [.inr (some 1000005), .inr (some 0), .inr (some 338), .inl (i' : Int)] [] (I, mm_R0) := by
  obtain ⟨S', hc, hm, ok⟩ := hI
  have w0' := m0
  have z0 := sh_00
  refine cx _ _ _ ?_
  simp only [b_law_751, mm_in, w0', z0, T_X11_undo, T_X12_undo, dT, mT, i_scl, i_scn, i_and31, i_end, i_bad, i_new, i_newa, i_pr, i_aas, i_oi, i_ci, i_fix, i_xorg, i_shl, i_shr, i_ior, i_and1, i_lcg1, i_lcg2, i_ld, i_la, i_st, i_sa, i_c, i_inc, i_add, i_sub, i_mul, i_div, i_rem, i_remT, i_xor, i_dup, i_dup2, i_if, i_if2, i_sw, i_gi, i_gr, i_pi, i_pz, i_ial, i_ias, i_len, i_aal, i_gs, i_tal, i_cv, i_cs, i_ir, i_zr, i_vr, i_min, i_max, i_cpy, List.getElem?_cons_zero, List.getElem?_cons_succ, List.set_cons_zero, List.set_cons_succ, List.length_cons, List.length_nil, List.drop_succ_cons, List.drop_zero, List.take_succ_cons, List.take_zero, List.reverse_cons, List.reverse_nil, List.nil_append, List.cons_append, Option.toList_some, Option.toList_none, true_and, and_true, true_or, or_true, Nat.reduceAdd, Nat.reduceLT, Nat.reduceLeDiff, Option.some.injEq, exists_eq_left', Int.toNat_natCast, Nat.reduceSub, List.append_nil, List.replicate_succ, List.replicate_zero]
  repeat' refine And.intro ?_ ?_
  all_goals try omega
  refine ⟨S', hc, ok, fun J' f1' h1 => ?_⟩
  repeat' refine And.intro ?_ ?_
  all_goals try omega
  refine ⟨S', mSt_cg hm f1', ok, fun K' f2' h2 => ⟨fun _ => p889 K' ⟨_, cSt_fr h1 (ok_und ok _) (fun b' hb' => f2' b' (by omega)), h2, (ok_und ok _)⟩, fun w' => w' rfl⟩⟩
set_option maxRecDepth 100000 in
set_option maxHeartbeats 4000000 in
theorem lc_write {sx : Nat → Int} {N : Nat} {Ok : Nat → mm_K} (hsx : ∀ j', mm_in (sx j')) (cx : mm_imp (b_law_774 sx N Ok) (Ok 774)) {i' : Nat} (hi' : i' + 6 ≤ N) (hN' : N ≤ 3072) (p889 : ∀ J', SInv J' → Ok 889 [.inr (some 1000005), .inr (some 0), .inr (some 338), .inl (i' : Int)] [] (J', mm_R0)) (I : Nat → Nat → Int) (hI : SInv I) : Ok 774 [.inr (some 1000005), .inr (some 0), .inr (some 338), .inl (i' : Int)] [] (I, mm_R0) := by
  obtain ⟨S', hc, hm, ok⟩ := hI
  have w0' := m0
  have z0 := sh_00
  refine cx _ _ _ ?_
  simp only [b_law_774, mm_in, w0', z0, T_X11_write, T_X12_write, dT, mT, i_scl, i_scn, i_and31, i_end, i_bad, i_new, i_newa, i_pr, i_aas, i_oi, i_ci, i_fix, i_xorg, i_shl, i_shr, i_ior, i_and1, i_lcg1, i_lcg2, i_ld, i_la, i_st, i_sa, i_c, i_inc, i_add, i_sub, i_mul, i_div, i_rem, i_remT, i_xor, i_dup, i_dup2, i_if, i_if2, i_sw, i_gi, i_gr, i_pi, i_pz, i_ial, i_ias, i_len, i_aal, i_gs, i_tal, i_cv, i_cs, i_ir, i_zr, i_vr, i_min, i_max, i_cpy, List.getElem?_cons_zero, List.getElem?_cons_succ, List.set_cons_zero, List.set_cons_succ, List.length_cons, List.length_nil, List.drop_succ_cons, List.drop_zero, List.take_succ_cons, List.take_zero, List.reverse_cons, List.reverse_nil, List.nil_append, List.cons_append, Option.toList_some, Option.toList_none, true_and, and_true, true_or, or_true, Nat.reduceAdd, Nat.reduceLT, Nat.reduceLeDiff, Option.some.injEq, exists_eq_left', Int.toNat_natCast, Nat.reduceSub, List.append_nil, List.replicate_succ, List.replicate_zero]
  repeat' refine And.intro ?_ ?_
  all_goals try omega
  refine ⟨S', hc, ok, fun J' f1' h1 => ?_⟩
  repeat' refine And.intro ?_ ?_
  all_goals try omega
  refine ⟨S', mSt_cg hm f1', ok, fun K' f2' h2 => ⟨fun _ => p889 K' ⟨_, cSt_fr h1 (ok_wri ok _ _) (fun b' hb' => f2' b' (by omega)), h2, (ok_wri ok _ _)⟩, fun w' => w' rfl⟩⟩
set_option maxRecDepth 100000 in
set_option maxHeartbeats 4000000 in
theorem lc_tear {sx : Nat → Int} {N : Nat} {Ok : Nat → mm_K} (hsx : ∀ j', mm_in (sx j')) (cx : mm_imp (b_law_807 sx N Ok) (Ok 807)) {i' : Nat} (hi' : i' + 6 ≤ N) (hN' : N ≤ 3072) (p889 : ∀ J', SInv J' → Ok 889 [.inr (some 1000005), .inr (some 0), .inr (some 338), .inl (i' : Int)] [] (J', mm_R0)) (I : Nat → Nat → Int) (hI : SInv I) : Ok 807 [.inr (some 1000005), .inr (some 0), .inr (some 338), .inl (i' : Int)] [] (I, mm_R0) := by
  obtain ⟨S', hc, hm, ok⟩ := hI
  have w0' := m0
  have z0 := sh_00
  refine cx _ _ _ ?_
  simp only [b_law_807, mm_in, w0', z0, T_X11_tear, T_X12_tear, dT, mT, i_scl, i_scn, i_and31, i_end, i_bad, i_new, i_newa, i_pr, i_aas, i_oi, i_ci, i_fix, i_xorg, i_shl, i_shr, i_ior, i_and1, i_lcg1, i_lcg2, i_ld, i_la, i_st, i_sa, i_c, i_inc, i_add, i_sub, i_mul, i_div, i_rem, i_remT, i_xor, i_dup, i_dup2, i_if, i_if2, i_sw, i_gi, i_gr, i_pi, i_pz, i_ial, i_ias, i_len, i_aal, i_gs, i_tal, i_cv, i_cs, i_ir, i_zr, i_vr, i_min, i_max, i_cpy, List.getElem?_cons_zero, List.getElem?_cons_succ, List.set_cons_zero, List.set_cons_succ, List.length_cons, List.length_nil, List.drop_succ_cons, List.drop_zero, List.take_succ_cons, List.take_zero, List.reverse_cons, List.reverse_nil, List.nil_append, List.cons_append, Option.toList_some, Option.toList_none, true_and, and_true, true_or, or_true, Nat.reduceAdd, Nat.reduceLT, Nat.reduceLeDiff, Option.some.injEq, exists_eq_left', Int.toNat_natCast, Nat.reduceSub, List.append_nil, List.replicate_succ, List.replicate_zero]
  repeat' refine And.intro ?_ ?_
  all_goals try omega
  refine ⟨S', hc, ok, fun J' f1' h1 => ?_⟩
  repeat' refine And.intro ?_ ?_
  all_goals try omega
  refine ⟨S', mSt_cg hm f1', ok, fun K' f2' h2 => ⟨fun _ => p889 K' ⟨_, cSt_fr h1 (ok_tea ok) (fun b' hb' => f2' b' (by omega)), h2, (ok_tea ok)⟩, fun w' => w' rfl⟩⟩
set_option maxRecDepth 100000 in
set_option maxHeartbeats 4000000 in
theorem lc_seed {sx : Nat → Int} {N : Nat} {Ok : Nat → mm_K} (hsx : ∀ j', mm_in (sx j')) (cx : mm_imp (b_law_820 sx N Ok) (Ok 820)) {i' : Nat} (hi' : i' + 6 ≤ N) (hN' : N ≤ 3072) (p889 : ∀ J', SInv J' → Ok 889 [.inr (some 1000005), .inr (some 0), .inr (some 338), .inl (i' : Int)] [] (J', mm_R0)) (I : Nat → Nat → Int) (hI : SInv I) : Ok 820 [.inr (some 1000005), .inr (some 0), .inr (some 338), .inl (i' : Int)] [] (I, mm_R0) := by
  obtain ⟨S', hc, hm, ok⟩ := hI
  have w0' := m0
  have z0 := sh_00
  refine cx _ _ _ ?_
  simp only [b_law_820, mm_in, w0', z0, T_X11_seed, T_X12_seed, dT, mT, i_scl, i_scn, i_and31, i_end, i_bad, i_new, i_newa, i_pr, i_aas, i_oi, i_ci, i_fix, i_xorg, i_shl, i_shr, i_ior, i_and1, i_lcg1, i_lcg2, i_ld, i_la, i_st, i_sa, i_c, i_inc, i_add, i_sub, i_mul, i_div, i_rem, i_remT, i_xor, i_dup, i_dup2, i_if, i_if2, i_sw, i_gi, i_gr, i_pi, i_pz, i_ial, i_ias, i_len, i_aal, i_gs, i_tal, i_cv, i_cs, i_ir, i_zr, i_vr, i_min, i_max, i_cpy, List.getElem?_cons_zero, List.getElem?_cons_succ, List.set_cons_zero, List.set_cons_succ, List.length_cons, List.length_nil, List.drop_succ_cons, List.drop_zero, List.take_succ_cons, List.take_zero, List.reverse_cons, List.reverse_nil, List.nil_append, List.cons_append, Option.toList_some, Option.toList_none, true_and, and_true, true_or, or_true, Nat.reduceAdd, Nat.reduceLT, Nat.reduceLeDiff, Option.some.injEq, exists_eq_left', Int.toNat_natCast, Nat.reduceSub, List.append_nil, List.replicate_succ, List.replicate_zero]
  repeat' refine And.intro ?_ ?_
  all_goals try omega
  refine ⟨S', hc, ok, fun J' f1' h1 => ?_⟩
  repeat' refine And.intro ?_ ?_
  all_goals try omega
  refine ⟨S', mSt_cg hm f1', ok, fun K' f2' h2 => ⟨fun _ => p889 K' ⟨_, cSt_fr h1 (ok_see ok (hsx _)) (fun b' hb' => f2' b' (by omega)), h2, (ok_see ok (hsx _))⟩, fun w' => w' rfl⟩⟩
set_option maxRecDepth 100000 in
set_option maxHeartbeats 4000000 in
theorem lc_keep {sx : Nat → Int} {N : Nat} {Ok : Nat → mm_K} (hsx : ∀ j', mm_in (sx j')) (cx : mm_imp (b_law_843 sx N Ok) (Ok 843)) {i' : Nat} (hi' : i' + 6 ≤ N) (hN' : N ≤ 3072) (p889 : ∀ J', SInv J' → Ok 889 [.inr (some 1000005), .inr (some 0), .inr (some 338), .inl (i' : Int)] [] (J', mm_R0)) (I : Nat → Nat → Int) (hI : SInv I) : Ok 843 [.inr (some 1000005), .inr (some 0), .inr (some 338), .inl (i' : Int)] [] (I, mm_R0) := by
  obtain ⟨S', hc, hm, ok⟩ := hI
  have w0' := m0
  have z0 := sh_00
  refine cx _ _ _ ?_
  simp only [b_law_843, mm_in, w0', z0, T_X11_keep, T_X12_keep, dT, mT, i_scl, i_scn, i_and31, i_end, i_bad, i_new, i_newa, i_pr, i_aas, i_oi, i_ci, i_fix, i_xorg, i_shl, i_shr, i_ior, i_and1, i_lcg1, i_lcg2, i_ld, i_la, i_st, i_sa, i_c, i_inc, i_add, i_sub, i_mul, i_div, i_rem, i_remT, i_xor, i_dup, i_dup2, i_if, i_if2, i_sw, i_gi, i_gr, i_pi, i_pz, i_ial, i_ias, i_len, i_aal, i_gs, i_tal, i_cv, i_cs, i_ir, i_zr, i_vr, i_min, i_max, i_cpy, List.getElem?_cons_zero, List.getElem?_cons_succ, List.set_cons_zero, List.set_cons_succ, List.length_cons, List.length_nil, List.drop_succ_cons, List.drop_zero, List.take_succ_cons, List.take_zero, List.reverse_cons, List.reverse_nil, List.nil_append, List.cons_append, Option.toList_some, Option.toList_none, true_and, and_true, true_or, or_true, Nat.reduceAdd, Nat.reduceLT, Nat.reduceLeDiff, Option.some.injEq, exists_eq_left', Int.toNat_natCast, Nat.reduceSub, List.append_nil, List.replicate_succ, List.replicate_zero]
  repeat' refine And.intro ?_ ?_
  all_goals try omega
  refine ⟨S', hc, ok, fun J' f1' h1 => ?_⟩
  repeat' refine And.intro ?_ ?_
  all_goals try omega
  refine ⟨S', mSt_cg hm f1', ok, fun K' f2' h2 => ⟨fun _ => p889 K' ⟨_, cSt_fr h1 (ok_kep ok _) (fun b' hb' => f2' b' (by omega)), h2, (ok_kep ok _)⟩, fun w' => w' rfl⟩⟩
set_option maxRecDepth 100000 in
set_option maxHeartbeats 4000000 in
theorem lc_goBack {sx : Nat → Int} {N : Nat} {Ok : Nat → mm_K} (hsx : ∀ j', mm_in (sx j')) (cx : mm_imp (b_law_866 sx N Ok) (Ok 866)) {i' : Nat} (hi' : i' + 6 ≤ N) (hN' : N ≤ 3072) (p889 : ∀ J', SInv J' → Ok 889 [.inr (some 1000005), .inr (some 0), .inr (some 338), .inl (i' : Int)] [] (J', mm_R0)) (I : Nat → Nat → Int) (hI : SInv I) : Ok 866 [.inr (some 1000005), .inr (some 0), .inr (some 338), .inl (i' : Int)] [] (I, mm_R0) := by
  obtain ⟨S', hc, hm, ok⟩ := hI
  have w0' := m0
  have z0 := sh_00
  refine cx _ _ _ ?_
  simp only [b_law_866, mm_in, w0', z0, T_X11_goBack, T_X12_goBack, dT, mT, i_scl, i_scn, i_and31, i_end, i_bad, i_new, i_newa, i_pr, i_aas, i_oi, i_ci, i_fix, i_xorg, i_shl, i_shr, i_ior, i_and1, i_lcg1, i_lcg2, i_ld, i_la, i_st, i_sa, i_c, i_inc, i_add, i_sub, i_mul, i_div, i_rem, i_remT, i_xor, i_dup, i_dup2, i_if, i_if2, i_sw, i_gi, i_gr, i_pi, i_pz, i_ial, i_ias, i_len, i_aal, i_gs, i_tal, i_cv, i_cs, i_ir, i_zr, i_vr, i_min, i_max, i_cpy, List.getElem?_cons_zero, List.getElem?_cons_succ, List.set_cons_zero, List.set_cons_succ, List.length_cons, List.length_nil, List.drop_succ_cons, List.drop_zero, List.take_succ_cons, List.take_zero, List.reverse_cons, List.reverse_nil, List.nil_append, List.cons_append, Option.toList_some, Option.toList_none, true_and, and_true, true_or, or_true, Nat.reduceAdd, Nat.reduceLT, Nat.reduceLeDiff, Option.some.injEq, exists_eq_left', Int.toNat_natCast, Nat.reduceSub, List.append_nil, List.replicate_succ, List.replicate_zero]
  repeat' refine And.intro ?_ ?_
  all_goals try omega
  refine ⟨S', hc, ok, fun J' f1' h1 => ?_⟩
  repeat' refine And.intro ?_ ?_
  all_goals try omega
  refine ⟨S', mSt_cg hm f1', ok, fun K' f2' h2 => ⟨fun _ => p889 K' ⟨_, cSt_fr h1 (ok_bac ok _) (fun b' hb' => f2' b' (by omega)), h2, (ok_bac ok _)⟩, fun w' => w' rfl⟩⟩
