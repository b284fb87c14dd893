/-! the law: its loop, its beginning
-/
theorem ini_tab : (ini 2 0 = 1 ∧ ini 2 1 = 0 ∧ ini 41 1 = 0 ∧ ini 41 2 = 0 ∧ ini 302 0 = 0 ∧ ini 299 2 = 0 ∧ ini 304 2 = 0 ∧ ini 321 2 = 0) ∧ ∀ j', j' < 12 → ini 3 j' = -1 := by decide +kernel
theorem S0_p (j' : Nat) (hj : j' < 12) : pw (S0 0) j' = -1 := by
  show (if (0 : Nat) = 0 then (if 2 + j' = 0 then (1 : Int) else if 2 ≤ 2 + j' ∧ 2 + j' < 14 then -1 else 0) else 0) = -1
  rw [if_pos rfl, if_neg (by omega), if_pos (by omega)]
theorem S0_z {c : Nat} (hc : c ≠ 0) (i' : Nat) : S0 c i' = 0 := by
  show (if c = 0 then _ else (0 : Int)) = 0
  rw [if_neg hc]
theorem SInv_0 {B' J' : Nat → Nat → Int} {S : Nat → Nat → Option Nat} {k' : Nat} (g : ∀ b', b' < 338 → dn (B', S, k') b') (e : ∀ b', b' < 338 → J' b' = B' b') (h1 : ∀ j', J' 338 j' = 0) (h2 : J' 339 0 = 1) (h3 : ∀ i', i' = 1 ∨ 26 ≤ i' → J' 339 i' = 0) (h4 : ∀ k', k' < 12 → J' 339 (2 + k') = -1) : SInv J' := by
  have v' : ∀ b', b' < 338 → ∀ j', J' b' j' = ini b' j' := fun b' hb' j' => by rw [e b' hb']; exact (g b' hb').1 j'
  obtain ⟨⟨i1', i2', i3', i4', i5', i6', i7', i8'⟩, i9'⟩ := ini_tab
  have z1 : S0 0 1 = 0 := rfl
  refine ⟨S0, ⟨⟨by rw [v' 2 (by omega), i1']; rfl, by rw [v' 2 (by omega), i2']; rfl, fun j' hj => ?_, fun j' hj hp => ?_, fun s' hs => ?_⟩, ⟨0, 0, by omega, by omega, by rw [v' 41 (by omega), i3']; rfl, by rw [v' 41 (by omega), i4']; rfl, by rw [S0_z (by omega)]; rfl, fun t' ht => by omega⟩, by rw [v' 302 (by omega), i5', S0_z (by omega)], fun i' hi' => ⟨?_, fun w' => absurd (S0_z (by omega) _) w'⟩, by rw [v' 299 (by omega), i6', S0_z (by omega)], fun i' hi' => ?_⟩, ⟨mW_mk ⟨by rw [h2]; rfl, by rw [h3 1 (by omega)]; rfl, fun j' hj => by rw [h4 j' hj, S0_p j' hj], fun j' hj hp => ?_, fun s' hs => ?_⟩, by rw [h1, S0_z (by omega)], fun t' ht => ?_, by rw [h1, S0_z (by omega)], by rw [h1, S0_z (by omega), S0_z (by omega)]; rfl, fun i' hi' w' => absurd (S0_z (by omega) _) w', by rw [h1, S0_z (by omega)], fun i' hi' => ?_, fun i' hi' => ?_⟩, ok_S0⟩
  · rw [v' 3 (by omega), i9' j' hj, S0_p j' hj]
  · rw [S0_p j' hj] at hp
    omega
  · omega
  · rw [S0_z (by omega)]
    rcases (show i' = 0 ∨ i' = 1 by omega) with rfl | rfl
    · rw [v' 304 (by omega), i7']
    · rw [v' 321 (by omega), i8']
  · rw [S0_z (by omega)] at hi'
    omega
  · rw [S0_p j' hj] at hp
    omega
  · omega
  · rw [S0_z (by omega)] at ht
    omega
  · rw [S0_z (by omega)] at hi'
    omega
  · show 0 ≤ J' 339 (2888 + i') ∧ J' 339 (2888 + i') ≤ 1000
    rw [h3 _ (by omega)]
    omega
set_option maxRecDepth 100000 in
set_option maxHeartbeats 8000000 in
theorem pv_law {sx : Nat → Int} {N : Nat} {Ok : Nat → mm_K} (hsx : ∀ j', mm_in (sx j')) (hN' : N ≤ 3072) (hcl : clo_law sx N Ok) : Ok 0 [.inr (some 1000005), .inr none, .inr none, .inr none] [] (fun _ _ => 0, fun _ _ => none, 0) := by
  obtain ⟨c0', c18', c140, c163, c206, c249, c292, c335, c368, c411, c464, c487, c550, c583, c596, c649, c672, c705, c728, c751, c774, c807, c820, c843, c866, c889⟩ := hcl
  have p18 : ∀ (d' i' : Nat) (I : Nat → Nat → Int), i' ≤ N + 6 → N ≤ i' + 6 * d' → SInv I → Ok 18 [.inr (some 1000005), .inr (some 0), .inr (some 338), .inl (i' : Int)] [] (I, mm_R0) := by
    intro d'
    induction d' with
    | zero =>
      intro i' I hi1 hi2 hI
      refine c18' _ _ _ ?_
      simp only [b_law_18, mm_in, i_scl, i_scn, i_and31, i_end, i_bad, i_new, i_newa, i_pr, i_aas, i_oi, i_ci, i_fix, i_xorg, i_shl, i_shr, i_ior, i_and1, i_lcg1, i_lcg2, i_ld, i_la, i_st, i_sa, i_c, i_inc, i_add, i_sub, i_mul, i_div, i_rem, i_remT, i_xor, i_dup, i_dup2, i_if, i_if2, i_sw, i_gi, i_gr, i_pi, i_pz, i_ial, i_ias, i_len, i_aal, i_gs, i_tal, i_cv, i_cs, i_ir, i_zr, i_vr, i_min, i_max, i_cpy, List.getElem?_cons_zero, List.getElem?_cons_succ, List.set_cons_zero, List.set_cons_succ, List.length_cons, List.length_nil, List.drop_succ_cons, List.drop_zero, List.take_succ_cons, List.take_zero, List.reverse_cons, List.reverse_nil, List.nil_append, List.cons_append, Option.toList_some, Option.toList_none, true_and, and_true, true_or, or_true, Nat.reduceAdd, Nat.reduceLT, Nat.reduceLeDiff, Option.some.injEq, exists_eq_left', Int.toNat_natCast, Nat.reduceSub, List.append_nil, List.replicate_succ, List.replicate_zero]
      exact ⟨⟨by omega, by omega⟩, fun _ => trivial, fun q' => by omega⟩
    | succ d' ih =>
      intro i' I hi1 hi2 hI
      have p889 : i' + 6 ≤ N → ∀ J', SInv J' → Ok 889 [.inr (some 1000005), .inr (some 0), .inr (some 338), .inl (i' : Int)] [] (J', mm_R0) := by
        intro hq J' hJ
        have := ih (i' + 6) J' (by omega) (by omega) hJ
        rw [Int.natCast_add] at this
        refine c889 _ _ _ ?_
        simp only [b_law_889, mm_in, i_scl, i_scn, i_and31, i_end, i_bad, i_new, i_newa, i_pr, i_aas, i_oi, i_ci, i_fix, i_xorg, i_shl, i_shr, i_ior, i_and1, i_lcg1, i_lcg2, i_ld, i_la, i_st, i_sa, i_c, i_inc, i_add, i_sub, i_mul, i_div, i_rem, i_remT, i_xor, i_dup, i_dup2, i_if, i_if2, i_sw, i_gi, i_gr, i_pi, i_pz, i_ial, i_ias, i_len, i_aal, i_gs, i_tal, i_cv, i_cs, i_ir, i_zr, i_vr, i_min, i_max, i_cpy, List.getElem?_cons_zero, List.getElem?_cons_succ, List.set_cons_zero, List.set_cons_succ, List.length_cons, List.length_nil, List.drop_succ_cons, List.drop_zero, List.take_succ_cons, List.take_zero, List.reverse_cons, List.reverse_nil, List.nil_append, List.cons_append, Option.toList_some, Option.toList_none, true_and, and_true, true_or, or_true, Nat.reduceAdd, Nat.reduceLT, Nat.reduceLeDiff, Option.some.injEq, exists_eq_left', Int.toNat_natCast, Nat.reduceSub, List.append_nil, List.replicate_succ, List.replicate_zero]
        exact ⟨⟨by omega, by omega⟩, this⟩
      refine c18' _ _ _ ?_
      simp only [b_law_18, mm_in, i_scl, i_scn, i_and31, i_end, i_bad, i_new, i_newa, i_pr, i_aas, i_oi, i_ci, i_fix, i_xorg, i_shl, i_shr, i_ior, i_and1, i_lcg1, i_lcg2, i_ld, i_la, i_st, i_sa, i_c, i_inc, i_add, i_sub, i_mul, i_div, i_rem, i_remT, i_xor, i_dup, i_dup2, i_if, i_if2, i_sw, i_gi, i_gr, i_pi, i_pz, i_ial, i_ias, i_len, i_aal, i_gs, i_tal, i_cv, i_cs, i_ir, i_zr, i_vr, i_min, i_max, i_cpy, List.getElem?_cons_zero, List.getElem?_cons_succ, List.set_cons_zero, List.set_cons_succ, List.length_cons, List.length_nil, List.drop_succ_cons, List.drop_zero, List.take_succ_cons, List.take_zero, List.reverse_cons, List.reverse_nil, List.nil_append, List.cons_append, Option.toList_some, Option.toList_none, true_and, and_true, true_or, or_true, Nat.reduceAdd, Nat.reduceLT, Nat.reduceLeDiff, Option.some.injEq, exists_eq_left', Int.toNat_natCast, Nat.reduceSub, List.append_nil, List.replicate_succ, List.replicate_zero]
      refine ⟨⟨by omega, by omega⟩, fun _ => trivial, fun q' => ⟨⟨by omega, by omega⟩, fun j' hj => ?_⟩⟩
      have p889 := p889 (by omega)
      exact ⟨fun _ => lc_told hsx c140 (by omega) hN' p889 I hI, fun _ => ⟨fun _ => lc_wall hsx c163 (by omega) hN' p889 I hI, fun _ => ⟨fun _ => lc_corner hsx c206 (by omega) hN' p889 I hI, fun _ => ⟨fun _ => lc_edge hsx c249 (by omega) hN' p889 I hI, fun _ => ⟨fun _ => lc_pieces hsx c292 (by omega) hN' p889 I hI, fun _ => ⟨fun _ => lc_surface hsx c335 (by omega) hN' p889 I hI, fun _ => ⟨fun _ => lc_weight hsx c368 (by omega) hN' p889 I hI, fun _ => ⟨fun _ => lc_arcs hsx c411 (by omega) hN' p889 I hI, fun _ => ⟨fun _ => lc_bodies hsx c464 (by omega) hN' p889 I hI, fun _ => ⟨fun _ => lc_glue hsx c487 (by omega) hN' p889 I hI, fun _ => ⟨fun _ => lc_free hsx c550 (by omega) hN' p889 I hI, fun _ => ⟨fun _ => lc_put hsx c583 (by omega) hN' p889 I hI, fun _ => ⟨fun _ => lc_piece hsx c596 (by omega) hN' p889 I hI, fun _ => ⟨fun _ => lc_about hsx c649 (by omega) hN' p889 I hI, fun _ => ⟨fun _ => lc_add hsx c672 (by omega) hN' p889 I hI, fun _ => ⟨fun _ => lc_take hsx c705 (by omega) hN' p889 I hI, fun _ => ⟨fun _ => lc_drift hsx c728 (by omega) hN' p889 I hI, fun _ => ⟨fun _ => lc_undo hsx c751 (by omega) hN' p889 I hI, fun _ => ⟨fun _ => lc_write hsx c774 (by omega) hN' p889 I hI, fun _ => ⟨fun _ => lc_tear hsx c807 (by omega) hN' p889 I hI, fun _ => ⟨fun _ => lc_seed hsx c820 (by omega) hN' p889 I hI, fun _ => ⟨fun _ => lc_keep hsx c843 (by omega) hN' p889 I hI, fun _ => ⟨fun _ => lc_goBack hsx c866 (by omega) hN' p889 I hI, fun _ => p889 I hI⟩⟩⟩⟩⟩⟩⟩⟩⟩⟩⟩⟩⟩⟩⟩⟩⟩⟩⟩⟩⟩⟩⟩
  have s1' := sh_00
  have s2' := m0
  refine c0' _ _ _ ?_
  simp only [b_law_0, room_1, rm_X11_init, rm_X12_init, new_k, s1', s2', T_X11_init, T_X12_init, cT, i_scl, i_scn, i_and31, i_end, i_bad, i_new, i_newa, i_pr, i_aas, i_oi, i_ci, i_fix, i_xorg, i_shl, i_shr, i_ior, i_and1, i_lcg1, i_lcg2, i_ld, i_la, i_st, i_sa, i_c, i_inc, i_add, i_sub, i_mul, i_div, i_rem, i_remT, i_xor, i_dup, i_dup2, i_if, i_if2, i_sw, i_gi, i_gr, i_pi, i_pz, i_ial, i_ias, i_len, i_aal, i_gs, i_tal, i_cv, i_cs, i_ir, i_zr, i_vr, i_min, i_max, i_cpy, List.getElem?_cons_zero, List.getElem?_cons_succ, List.set_cons_zero, List.set_cons_succ, List.length_cons, List.length_nil, List.drop_succ_cons, List.drop_zero, List.take_succ_cons, List.take_zero, List.reverse_cons, List.reverse_nil, List.nil_append, List.cons_append, Option.toList_some, Option.toList_none, true_and, and_true, true_or, or_true, Nat.reduceAdd, Nat.reduceLT, Nat.reduceLeDiff, Option.some.injEq, exists_eq_left', Int.toNat_natCast, Nat.reduceSub, List.append_nil, List.replicate_succ, List.replicate_zero]
  repeat' refine And.intro ?_ ?_
  all_goals try first | rfl | omega | decide +kernel
  · exact fun j' => (new_kn j').2
  intro τ e1' e2' e3'
  obtain ⟨B', S, k'⟩ := τ
  dsimp only at e1' e2' ⊢
  subst e1'
  simp only [new_k, Nat.zero_add, Nat.reduceAdd]
  repeat' refine And.intro ?_ ?_
  all_goals try first | rfl | omega | decide +kernel
  · exact fun j' => (new_kn j').2
  · intro b' hb' j' hj
    rw [new_a (by omega)]
    exact (e3' b' (by omega) (by omega)).2 j' hj
  intro J' f1' f2' f3' f4' f5'
  refine p18 512 0 J' (by omega) (by omega) (SInv_0 (fun b' hb' => e3' b' (by omega) (by omega)) (fun b' hb' => ?_) f2' f3' f4' f5')
  rw [f1' b' hb']
  funext i'
  simp [mm_new, show b' ≠ 338 by omega]
