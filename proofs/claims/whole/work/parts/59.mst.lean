/-! the other program: its rows stand for the state
-/
def mW (I : Nat → Nat → Int) (r' : Nat) (W : Nat → Int) : Prop := I 339 (r' + 0) = W 0 ∧ I 339 (r' + 1) = W 1 ∧ (∀ j', j' < 12 → I 339 (r' + (2 + j')) = pw W j') ∧ (∀ j', j' < 12 → 0 ≤ pw W j' → I 339 (r' + (14 + j')) = ww W j') ∧ ∀ s' : Nat, (s' : Int) < W 1 → ∀ i', i' < 21 → I 339 (r' + (26 + 21 * s' + i')) = nw W s' i'
theorem mW_mv {I I' : Nat → Nat → Int} {x' y' : Nat} {W : Nat → Int} (h' : mW I x' W) (hm : W 1 ≤ 6) (f : ∀ k', k' < 152 → I' 339 (y' + k') = I 339 (x' + k')) : mW I' y' W := by
  obtain ⟨a', b', c', d', e'⟩ := h'
  exact ⟨by rw [f 0 (by omega)]; exact a', by rw [f 1 (by omega)]; exact b', fun j' hj => by rw [f _ (by omega)]; exact c' j' hj, fun j' hj hp => by rw [f _ (by omega)]; exact d' j' hj hp, fun s' hs i' hi' => by rw [f _ (by omega)]; exact e' s' hs i' hi'⟩
def mSt (I S' : Nat → Nat → Int) : Prop := mW I 0 (S' 0) ∧ I 338 1 = S' 19 0 ∧ (∀ t' : Nat, (t' : Int) < S' 19 0 → mW I (152 * (t' + 1)) (S' (1 + t'))) ∧ I 338 3 = S' 19 1 ∧ I 338 2 = S' 19 2 + 2 * S' 19 3 ∧
  (∀ i', i' < 2 → S' 19 (2 + i') ≠ 0 → I 340 i' = S' 19 (4 + i') ∧ mW I (2584 + 152 * i') (S' (17 + i'))) ∧ I 338 7 = S' 19 6 ∧ (∀ i' : Nat, (i' : Int) < S' 19 6 → I 341 i' = S' 20 i' ∧ I 342 i' = S' 21 i') ∧ bd (MN I 2888)
def mT (F : (Nat → Nat → Int) → (Nat → Nat → Int) × Int) (a' : Nat) (σ : mm_S) (Post : Option mm_V → mm_S → Prop) : Prop := σ.2 = mm_R0 ∧ a' = 338 ∧ ∃ S', mSt σ.1 S' ∧ okS S' ∧ ∀ I', loF I' σ.1 → mSt I' (F S').1 → Post (some (.inl (F S').2)) (I', mm_R0)
theorem loF_rf (I : Nat → Nat → Int) : loF I I := fun _ _ => rfl
theorem mSt_up {I I' S' : Nat → Nat → Int} {W : Nat → Int} (h' : mSt I S') (ok : okS S') (f : ∀ b', 338 ≤ b' → b' < 343 → b' ≠ 339 → I' b' = I b') (g : ∀ j', 152 ≤ j' → j' < 2888 → I' 339 j' = I 339 j') (ht : bd (MN I' 2888)) (hW : mW I' 0 W) : mSt I' (upW S' W) := by
  obtain ⟨a', b', c', d', e', p, q', r', s'⟩ := h'
  obtain ⟨o1, o2, o3', o4', o5', o6, o7⟩ := ok
  refine ⟨by rw [upW_0]; exact hW, by rw [upW_o S' W (by omega), f 338 (by omega) (by omega) (by omega)]; exact b', fun t' ht => ?_, by rw [upW_o S' W (by omega), f 338 (by omega) (by omega) (by omega)]; exact d', by rw [upW_o S' W (by omega), f 338 (by omega) (by omega) (by omega)]; exact e', fun i' hi' hk => ?_, by rw [upW_o S' W (by omega), f 338 (by omega) (by omega) (by omega)]; exact q', fun i' hi' => ?_, ht⟩
  · rw [upW_o S' W (by omega)] at ht ⊢
    exact mW_mv (c' t' ht) (okW_m (o2 t' ht)) (fun k' hk => g _ (by omega) (by omega))
  · rw [upW_o S' W (by omega)] at hk ⊢
    rw [upW_o S' W (by omega), f 340 (by omega) (by omega) (by omega)]
    exact ⟨(p i' hi' hk).1, mW_mv (p i' hi' hk).2 (okW_m ((o5' i' hi').2 hk).2) (fun k' hk => g _ (by omega) (by omega))⟩
  · rw [upW_o S' W (by omega)] at hi'
    rw [upW_o S' W (by omega), upW_o S' W (by omega), f 341 (by omega) (by omega) (by omega), f 342 (by omega) (by omega) (by omega)]
    exact r' i' hi'
theorem mSt_fr {I I' S' : Nat → Nat → Int} (h' : mSt I S') (ok : okS S') (f : scM I' I) : mSt I' S' := by
  have := mSt_up (W := S' 0) h' ok (fun b' hA hB' hC => f.1 b' (by omega)) (fun j' hA hB' => f.2.1 j' hB') (f.2.2 h'.2.2.2.2.2.2.2.2) (mW_mv h'.1 (okW_m ok.1) (fun k' hk => f.2.1 _ (by omega)))
  have e' : upW S' (S' 0) = S' := by
    funext c'
    unfold upW
    split
    · rename_i q'
      rw [q']
    · rfl
  rw [e'] at this
  exact this
theorem mSt_gM {I S' : Nat → Nat → Int} (h' : mSt I S') (ok : okS S') : ∃ n' : Nat, S' 0 0 = n' ∧ gM I n' ∧ shM I ∧ bkM I ∧ agW (MP I) (MY I) (pw (S' 0)) (ww (S' 0)) := by
  obtain ⟨⟨a1', a2, a3, a4, a5⟩, b', c', d', e', p, q', r', s'⟩ := h'
  obtain ⟨⟨n', m, hn, hm, n1', n3', m6', hg, hb'⟩, o2, o3', o4', o5', o6, o7⟩ := ok
  simp only [Nat.zero_add] at a1' a2 a3 a4 a5
  have ag : agW (pw (S' 0)) (ww (S' 0)) (MP I) (MY I) := ⟨fun j' hj => (a3 j' hj).symm, fun j' hj hp => (a4 j' hj hp).symm⟩
  refine ⟨n', hn, ⟨by rw [a1', hn], n1', n3', gok_cg n3' ag hg⟩, ⟨by omega, by omega, fun s' hs i' hi' => ?_⟩, ⟨by omega, by omega, fun i' hi' => ?_⟩, ⟨fun j' hj => a3 j' hj, fun j' hj hp => a4 j' hj (by rw [← a3 j' hj]; exact hp)⟩⟩
  · have := a5 s' (by omega) i' hi'
    unfold MN
    rw [this]
    exact ⟨(hb' s' (by omega) i' hi').1, (hb' s' (by omega) i' hi').2.1⟩
  · rw [(r' i' (by omega)).1]
    exact o7 i' (by omega)
def T_X12_copyRow : mm_T := fun av σ Post => match av with
  | [.inr (some a'), .inl p, .inl q'] => σ.2 = mm_R0 ∧ a' = 338 ∧ ∃ x' y' : Nat, p = x' ∧ q' = y' ∧ x' + 152 ≤ 2888 ∧ y' + 152 ≤ 2888 ∧ (x' + 152 ≤ y' ∨ y' + 152 ≤ x') ∧
    ∀ I' : Nat → Nat → Int, (∀ b', b' ≠ 339 → I' b' = σ.1 b') → (∀ i', i' < y' ∨ y' + 152 ≤ i' → I' 339 i' = σ.1 339 i') → (∀ k', k' < 152 → I' 339 (y' + k') = σ.1 339 (x' + k')) → Post none (I', mm_R0)
  | _ => False
def rm_X12_copyRow : Room := { frames := 0, cells := 0, slots := 0, locals := 0 }
def b_X12_copyRow_0 (Ok : Nat → mm_K) (Post : Option mm_V → mm_S → Prop) (kf : Nat) : mm_K := i_c 0 (i_st 3 (Ok 2))
def b_X12_copyRow_2 (Ok : Nat → mm_K) (Post : Option mm_V → mm_S → Prop) (kf : Nat) : mm_K := i_ld 3 (i_c 152 (i_if2 (fun x y => y ≤ x) (i_vr Post kf) (i_la 0 (i_gr 11 0 (i_ld 2 (i_ld 3 (i_add (i_la 0 (i_gr 11 0 (i_ld 1 (i_ld 3 (i_add (i_ial (i_ias (i_inc 3 1 (Ok 2))))))))))))))))
def clo_X12_copyRow (Ok : Nat → mm_K) (Post : Option mm_V → mm_S → Prop) (kf : Nat) : Prop := mm_imp (b_X12_copyRow_0 Ok Post kf) (Ok 0) ∧ mm_imp (b_X12_copyRow_2 Ok Post kf) (Ok 2)
set_option maxRecDepth 100000 in
set_option maxHeartbeats 4000000 in
theorem bk_X12_copyRow {p : Program} {l : Launch} {e : Env} {s : State} {m : MethodId} {args : Array Value} {below : List Frame} {meth : Method} {c : Code} {G : mm_G} {σ0 : mm_S} {Post : Option mm_V → mm_S → Prop} (hC : mm_C p G s m args meth c cX12_copyRow yX12_copyRow.cls) (hr : meth.sig.returnType = none) : clo_X12_copyRow (mm_O p l e rm_X12_copyRow s m args below meth c G σ0.2.2 (MQ below (mm_Qc G σ0 rm_X12_copyRow.cells rm_X12_copyRow.slots Post) args s rm_X12_copyRow.cells rm_X12_copyRow.slots (mm_A G))) Post σ0.2.2 := ⟨(by unfold b_X12_copyRow_0; exact (mm_ic hC dX12_copyRow_0 ⟨by decide, by decide⟩ (mm_st_n hC dX12_copyRow_1 rfl (fun _ _ _ h => h)))), (by unfold b_X12_copyRow_2; exact (mm_ld_n hC dX12_copyRow_2 rfl (mm_sp hC dX12_copyRow_3 ⟨⟨by decide, by decide⟩, by decide⟩ (mm_ic_ge hC (t := 31) dX12_copyRow_6 (by decide) (mm_vr hC ⟨rfl, rfl⟩ hr dX12_copyRow_31) (mm_la_n hC dX12_copyRow_9 rfl (mm_gr hC cl_11 (by decide) rfl wd_789 dX12_copyRow_10 (mm_ld_n hC dX12_copyRow_13 rfl (mm_ld_n hC dX12_copyRow_14 rfl (mm_add hC dX12_copyRow_15 (mm_la_n hC dX12_copyRow_16 rfl (mm_gr hC cl_11 (by decide) rfl wd_789 dX12_copyRow_17 (mm_ld_n hC dX12_copyRow_20 rfl (mm_ld_n hC dX12_copyRow_21 rfl (mm_add hC dX12_copyRow_22 (mm_ial hC dX12_copyRow_23 (mm_ias hC dX12_copyRow_24 (mm_inc hC dX12_copyRow_25 (mm_goto hC (t := 2) dX12_copyRow_28 (by decide) (fun _ _ _ h => h)))))))))))))))))))⟩
set_option maxRecDepth 100000 in
set_option maxHeartbeats 8000000 in
theorem pv_X12_copyRow : ∀ (av : List mm_V) (σ : mm_S) (Post : Option mm_V → mm_S → Prop), (∀ v ∈ av, mm_iv v) → (∀ a j, mm_in (σ.1 a j)) → σ.2.2 ≤ 348 → T_X12_copyRow av σ Post → ∀ Ok : Nat → mm_K, clo_X12_copyRow Ok Post σ.2.2 → Ok 0 (av ++ List.replicate (4 - av.length) (.inr none)) [] σ := by
  intro av σ Post hav hin hk hT Ok hcl
  obtain ⟨I, R0⟩ := σ
  unfold T_X12_copyRow at hT
  split at hT
  · rename_i a' p q'
    obtain ⟨h0, hT⟩ := hT
    have h0 : R0 = mm_R0 := h0
    subst h0
    dsimp only at hT hin
    obtain ⟨c0, c2⟩ := hcl
    obtain ⟨rfl, x', y', rfl, rfl, hx, hy, hxy, hP⟩ := hT
    have w0' := m0
    have w1' := m1
    have w2' := m2
    have loop' : ∀ (d' k' : Nat) (I1 : Nat → Nat → Int), k' + d' = 152 → (∀ b', b' ≠ 339 → I1 b' = I b') → (∀ i', i' < y' ∨ y' + k' ≤ i' → I1 339 i' = I 339 i') → (∀ i', i' < k' → I1 339 (y' + i') = I 339 (x' + i')) → Ok 2 [.inr (some 338), .inl (x' : Int), .inl (y' : Int), .inl (k' : Int)] [] (I1, mm_R0) := by
      intro d'
      induction d' with
      | zero =>
        intro k' I1 hd' hA hB' hC
        refine c2 _ _ _ ?_
        simp only [b_X12_copyRow_2, i_xorg, i_shl, i_shr, i_ior, i_and1, i_lcg1, i_lcg2, i_ld, i_la, i_st, i_sa, i_c, i_inc, i_add, i_sub, i_mul, i_div, i_rem, i_remT, i_xor, i_dup, i_dup2, i_if, i_if2, i_sw, i_gi, i_gr, i_pi, i_pz, i_ial, i_ias, i_len, i_aal, i_gs, i_tal, i_cv, i_cs, i_ir, i_zr, i_vr, i_min, i_max, i_cpy, List.getElem?_cons_zero, List.getElem?_cons_succ, List.set_cons_zero, List.set_cons_succ, List.length_cons, List.length_nil, List.drop_succ_cons, List.drop_zero, List.take_succ_cons, List.take_zero, List.reverse_cons, List.reverse_nil, List.nil_append, List.cons_append, Option.toList_some, Option.toList_none, true_and, and_true, true_or, or_true, Nat.reduceAdd, Nat.reduceLT, Nat.reduceLeDiff, Option.some.injEq, exists_eq_left', Int.toNat_natCast, Nat.reduceSub, List.append_nil, List.replicate_succ, List.replicate_zero, mm_in,]
        exact ⟨fun _ => hP I1 hA (fun i' hi' => hB' i' (by omega)) (fun i' hi' => hC i' (by omega)), fun r' => by omega⟩
      | succ d' ih =>
        intro k' I1 hd' hA hB' hC
        have := ih (k' + 1) (mm_set I1 339 (y' + k') (I 339 (x' + k'))) (by omega) (fun b' hb' => by rw [mset_ne hb']; exact hA b' hb') (fun i' hi' => by rw [mset_n2 (by omega)]; exact hB' i' (by omega)) (fun i' hi' => ?_)
        · rw [Int.natCast_add] at this
          refine c2 _ _ _ ?_
          simp only [b_X12_copyRow_2, i_xorg, i_shl, i_shr, i_ior, i_and1, i_lcg1, i_lcg2, i_ld, i_la, i_st, i_sa, i_c, i_inc, i_add, i_sub, i_mul, i_div, i_rem, i_remT, i_xor, i_dup, i_dup2, i_if, i_if2, i_sw, i_gi, i_gr, i_pi, i_pz, i_ial, i_ias, i_len, i_aal, i_gs, i_tal, i_cv, i_cs, i_ir, i_zr, i_vr, i_min, i_max, i_cpy, List.getElem?_cons_zero, List.getElem?_cons_succ, List.set_cons_zero, List.set_cons_succ, List.length_cons, List.length_nil, List.drop_succ_cons, List.drop_zero, List.take_succ_cons, List.take_zero, List.reverse_cons, List.reverse_nil, List.nil_append, List.cons_append, Option.toList_some, Option.toList_none, true_and, and_true, true_or, or_true, Nat.reduceAdd, Nat.reduceLT, Nat.reduceLeDiff, Option.some.injEq, exists_eq_left', Int.toNat_natCast, Nat.reduceSub, List.append_nil, List.replicate_succ, List.replicate_zero, mm_in, w0', w1', w2', ton]
          rw [hB' (x' + k') (by omega)]
          refine ⟨fun r' => by omega, fun r' => ?_⟩
          repeat' first | refine And.intro ?_ ?_ | refine fun (_ : _ ≤ _ ∧ _ < _) => ?_
          all_goals try omega
        · by_cases e' : i' = k'
          · rw [e', mset_eq]
          · rw [mset_n2 (by omega)]
            exact hC i' (by omega)
    refine c0 _ _ _ ?_
    simp only [b_X12_copyRow_0, i_xorg, i_shl, i_shr, i_ior, i_and1, i_lcg1, i_lcg2, i_ld, i_la, i_st, i_sa, i_c, i_inc, i_add, i_sub, i_mul, i_div, i_rem, i_remT, i_xor, i_dup, i_dup2, i_if, i_if2, i_sw, i_gi, i_gr, i_pi, i_pz, i_ial, i_ias, i_len, i_aal, i_gs, i_tal, i_cv, i_cs, i_ir, i_zr, i_vr, i_min, i_max, i_cpy, List.getElem?_cons_zero, List.getElem?_cons_succ, List.set_cons_zero, List.set_cons_succ, List.length_cons, List.length_nil, List.drop_succ_cons, List.drop_zero, List.take_succ_cons, List.take_zero, List.reverse_cons, List.reverse_nil, List.nil_append, List.cons_append, Option.toList_some, Option.toList_none, true_and, and_true, true_or, or_true, Nat.reduceAdd, Nat.reduceLT, Nat.reduceLeDiff, Option.some.injEq, exists_eq_left', Int.toNat_natCast, Nat.reduceSub, List.append_nil, List.replicate_succ, List.replicate_zero, mm_in,]
    exact loop' 152 0 I (by omega) (fun _ _ => rfl) (fun _ _ => rfl) (fun i' hi' => by omega)
  · exact hT.elim
theorem sp_X12_copyRow : mm_Sp yX12_copyRow cX12_copyRow 4 none rm_X12_copyRow T_X12_copyRow := mm_meth (by decide) (by
  intro av σ Post h
  unfold T_X12_copyRow at h
  split at h
  · simp
  · exact h.elim) (fun p l e s m args below meth c G av σ Post hC hr _ hav hin hk hT => pv_X12_copyRow av σ Post hav hin hk hT _ (bk_X12_copyRow hC hr))
def T_X12_unglueAll : mm_T := fun av σ Post => match av with
  | [.inr (some a')] => σ.2 = mm_R0 ∧ a' = 338 ∧ ∀ I' : Nat → Nat → Int, (∀ b', b' ≠ 339 → I' b' = σ.1 b') → (∀ i', i' < 2 ∨ 26 ≤ i' → I' 339 i' = σ.1 339 i') → (∀ k', k' < 12 → I' 339 (2 + k') = -1 ∧ I' 339 (14 + k') = -1) → Post none (I', mm_R0)
  | _ => False
def rm_X12_unglueAll : Room := { frames := 0, cells := 0, slots := 0, locals := 0 }
def b_X12_unglueAll_0 (Ok : Nat → mm_K) (Post : Option mm_V → mm_S → Prop) (kf : Nat) : mm_K := i_c 0 (i_st 1 (Ok 2))
def b_X12_unglueAll_2 (Ok : Nat → mm_K) (Post : Option mm_V → mm_S → Prop) (kf : Nat) : mm_K := i_ld 1 (i_c 12 (i_if2 (fun x y => y ≤ x) (i_vr Post kf) (i_la 0 (i_gr 11 0 (i_c 2 (i_ld 1 (i_add (i_c (-1) (i_ias (i_la 0 (i_gr 11 0 (i_c 14 (i_ld 1 (i_add (i_c (-1) (i_ias (i_inc 1 1 (Ok 2))))))))))))))))))
def clo_X12_unglueAll (Ok : Nat → mm_K) (Post : Option mm_V → mm_S → Prop) (kf : Nat) : Prop := mm_imp (b_X12_unglueAll_0 Ok Post kf) (Ok 0) ∧ mm_imp (b_X12_unglueAll_2 Ok Post kf) (Ok 2)
set_option maxRecDepth 100000 in
set_option maxHeartbeats 4000000 in
theorem bk_X12_unglueAll {p : Program} {l : Launch} {e : Env} {s : State} {m : MethodId} {args : Array Value} {below : List Frame} {meth : Method} {c : Code} {G : mm_G} {σ0 : mm_S} {Post : Option mm_V → mm_S → Prop} (hC : mm_C p G s m args meth c cX12_unglueAll yX12_unglueAll.cls) (hr : meth.sig.returnType = none) : clo_X12_unglueAll (mm_O p l e rm_X12_unglueAll s m args below meth c G σ0.2.2 (MQ below (mm_Qc G σ0 rm_X12_unglueAll.cells rm_X12_unglueAll.slots Post) args s rm_X12_unglueAll.cells rm_X12_unglueAll.slots (mm_A G))) Post σ0.2.2 := ⟨(by unfold b_X12_unglueAll_0; exact (mm_ic hC dX12_unglueAll_0 ⟨by decide, by decide⟩ (mm_st_n hC dX12_unglueAll_1 rfl (fun _ _ _ h => h)))), (by unfold b_X12_unglueAll_2; exact (mm_ld_n hC dX12_unglueAll_2 rfl (mm_bp hC dX12_unglueAll_3 ⟨⟨by decide, by decide⟩, by decide⟩ (mm_ic_ge hC (t := 33) dX12_unglueAll_5 (by decide) (mm_vr hC ⟨rfl, rfl⟩ hr dX12_unglueAll_33) (mm_la_n hC dX12_unglueAll_8 rfl (mm_gr hC cl_11 (by decide) rfl wd_789 dX12_unglueAll_9 (mm_ic hC dX12_unglueAll_12 ⟨by decide, by decide⟩ (mm_ld_n hC dX12_unglueAll_13 rfl (mm_add hC dX12_unglueAll_14 (mm_ic hC dX12_unglueAll_15 ⟨by decide, by decide⟩ (mm_ias hC dX12_unglueAll_16 (mm_la_n hC dX12_unglueAll_17 rfl (mm_gr hC cl_11 (by decide) rfl wd_789 dX12_unglueAll_18 (mm_bp hC dX12_unglueAll_21 ⟨⟨by decide, by decide⟩, by decide⟩ (mm_ld_n hC dX12_unglueAll_23 rfl (mm_add hC dX12_unglueAll_24 (mm_ic hC dX12_unglueAll_25 ⟨by decide, by decide⟩ (mm_ias hC dX12_unglueAll_26 (mm_inc hC dX12_unglueAll_27 (mm_goto hC (t := 2) dX12_unglueAll_30 (by decide) (fun _ _ _ h => h)))))))))))))))))))))⟩
set_option maxRecDepth 100000 in
set_option maxHeartbeats 8000000 in
theorem pv_X12_unglueAll : ∀ (av : List mm_V) (σ : mm_S) (Post : Option mm_V → mm_S → Prop), (∀ v ∈ av, mm_iv v) → (∀ a j, mm_in (σ.1 a j)) → σ.2.2 ≤ 348 → T_X12_unglueAll av σ Post → ∀ Ok : Nat → mm_K, clo_X12_unglueAll Ok Post σ.2.2 → Ok 0 (av ++ List.replicate (2 - av.length) (.inr none)) [] σ := by
  intro av σ Post hav hin hk hT Ok hcl
  obtain ⟨I, R0⟩ := σ
  unfold T_X12_unglueAll at hT
  split at hT
  · rename_i a'
    obtain ⟨h0, hT⟩ := hT
    have h0 : R0 = mm_R0 := h0
    subst h0
    dsimp only at hT hin
    obtain ⟨c0, c2⟩ := hcl
    obtain ⟨rfl, hP⟩ := hT
    have w0' := m0
    have w1' := m1
    have w2' := m2
    have loop' : ∀ (d' k' : Nat) (I1 : Nat → Nat → Int), k' + d' = 12 → (∀ b', b' ≠ 339 → I1 b' = I b') → (∀ i', i' < 2 ∨ 26 ≤ i' → I1 339 i' = I 339 i') → (∀ i', i' < k' → I1 339 (2 + i') = -1 ∧ I1 339 (14 + i') = -1) → Ok 2 [.inr (some 338), .inl (k' : Int)] [] (I1, mm_R0) := by
      intro d'
      induction d' with
      | zero =>
        intro k' I1 hd' hA hB' hC
        refine c2 _ _ _ ?_
        simp only [b_X12_unglueAll_2, i_xorg, i_shl, i_shr, i_ior, i_and1, i_lcg1, i_lcg2, i_ld, i_la, i_st, i_sa, i_c, i_inc, i_add, i_sub, i_mul, i_div, i_rem, i_remT, i_xor, i_dup, i_dup2, i_if, i_if2, i_sw, i_gi, i_gr, i_pi, i_pz, i_ial, i_ias, i_len, i_aal, i_gs, i_tal, i_cv, i_cs, i_ir, i_zr, i_vr, i_min, i_max, i_cpy, List.getElem?_cons_zero, List.getElem?_cons_succ, List.set_cons_zero, List.set_cons_succ, List.length_cons, List.length_nil, List.drop_succ_cons, List.drop_zero, List.take_succ_cons, List.take_zero, List.reverse_cons, List.reverse_nil, List.nil_append, List.cons_append, Option.toList_some, Option.toList_none, true_and, and_true, true_or, or_true, Nat.reduceAdd, Nat.reduceLT, Nat.reduceLeDiff, Option.some.injEq, exists_eq_left', Int.toNat_natCast, Nat.reduceSub, List.append_nil, List.replicate_succ, List.replicate_zero, mm_in,]
        exact ⟨fun _ => hP I1 hA hB' (fun i' hi' => hC i' (by omega)), fun r' => by omega⟩
      | succ d' ih =>
        intro k' I1 hd' hA hB' hC
        have := ih (k' + 1) (mm_set (mm_set I1 339 (2 + k') (-1)) 339 (14 + k') (-1)) (by omega) (fun b' hb' => by rw [mset_ne hb', mset_ne hb']; exact hA b' hb') (fun i' hi' => by rw [mset_n2 (by omega), mset_n2 (by omega)]; exact hB' i' (by omega)) (fun i' hi' => ?_)
        · rw [Int.natCast_add] at this
          refine c2 _ _ _ ?_
          simp only [b_X12_unglueAll_2, i_xorg, i_shl, i_shr, i_ior, i_and1, i_lcg1, i_lcg2, i_ld, i_la, i_st, i_sa, i_c, i_inc, i_add, i_sub, i_mul, i_div, i_rem, i_remT, i_xor, i_dup, i_dup2, i_if, i_if2, i_sw, i_gi, i_gr, i_pi, i_pz, i_ial, i_ias, i_len, i_aal, i_gs, i_tal, i_cv, i_cs, i_ir, i_zr, i_vr, i_min, i_max, i_cpy, List.getElem?_cons_zero, List.getElem?_cons_succ, List.set_cons_zero, List.set_cons_succ, List.length_cons, List.length_nil, List.drop_succ_cons, List.drop_zero, List.take_succ_cons, List.take_zero, List.reverse_cons, List.reverse_nil, List.nil_append, List.cons_append, Option.toList_some, Option.toList_none, true_and, and_true, true_or, or_true, Nat.reduceAdd, Nat.reduceLT, Nat.reduceLeDiff, Option.some.injEq, exists_eq_left', Int.toNat_natCast, Nat.reduceSub, List.append_nil, List.replicate_succ, List.replicate_zero, mm_in, w0', w1', w2', t2, t14]
          refine ⟨fun r' => by omega, fun r' => ?_⟩
          repeat' first | refine And.intro ?_ ?_ | refine fun (_ : _ ≤ _ ∧ _ < _) => ?_
          all_goals try omega
        · by_cases e' : i' = k'
          · rw [e', mset_n2 (by omega), mset_eq, mset_eq]
            exact ⟨rfl, rfl⟩
          · rw [mset_n2 (by omega), mset_n2 (by omega), mset_n2 (by omega), mset_n2 (by omega)]
            exact hC i' (by omega)
    refine c0 _ _ _ ?_
    simp only [b_X12_unglueAll_0, i_xorg, i_shl, i_shr, i_ior, i_and1, i_lcg1, i_lcg2, i_ld, i_la, i_st, i_sa, i_c, i_inc, i_add, i_sub, i_mul, i_div, i_rem, i_remT, i_xor, i_dup, i_dup2, i_if, i_if2, i_sw, i_gi, i_gr, i_pi, i_pz, i_ial, i_ias, i_len, i_aal, i_gs, i_tal, i_cv, i_cs, i_ir, i_zr, i_vr, i_min, i_max, i_cpy, List.getElem?_cons_zero, List.getElem?_cons_succ, List.set_cons_zero, List.set_cons_succ, List.length_cons, List.length_nil, List.drop_succ_cons, List.drop_zero, List.take_succ_cons, List.take_zero, List.reverse_cons, List.reverse_nil, List.nil_append, List.cons_append, Option.toList_some, Option.toList_none, true_and, and_true, true_or, or_true, Nat.reduceAdd, Nat.reduceLT, Nat.reduceLeDiff, Option.some.injEq, exists_eq_left', Int.toNat_natCast, Nat.reduceSub, List.append_nil, List.replicate_succ, List.replicate_zero, mm_in,]
    exact loop' 12 0 I (by omega) (fun _ _ => rfl) (fun _ _ => rfl) (fun i' hi' => by omega)
  · exact hT.elim
theorem sp_X12_unglueAll : mm_Sp yX12_unglueAll cX12_unglueAll 2 none rm_X12_unglueAll T_X12_unglueAll := mm_meth (by decide) (by
  intro av σ Post h
  unfold T_X12_unglueAll at h
  split at h
  · simp
  · exact h.elim) (fun p l e s m args below meth c G av σ Post hC hr _ hav hin hk hT => pv_X12_unglueAll av σ Post hav hin hk hT _ (bk_X12_unglueAll hC hr))
def T_X12_remember : mm_T := fun av σ Post => match av with
  | [.inr (some a')] => σ.2 = mm_R0 ∧ a' = 338 ∧ ∃ S', mSt σ.1 S' ∧ okS S' ∧ ∀ I' : Nat → Nat → Int, (∀ b', b' ≠ 338 → b' ≠ 339 → I' b' = σ.1 b') → (∀ j', j' < 152 ∨ 2888 ≤ j' → I' 339 j' = σ.1 339 j') → mSt I' (recS S') → Post none (I', mm_R0)
  | _ => False
def rm_X12_remember : Room := { frames := 1, cells := 0, slots := 0, locals := 23 }
def b_X12_remember_0 (Ok : Nat → mm_K) (Post : Option mm_V → mm_S → Prop) (kf : Nat) : mm_K := i_la 0 (i_gi 11 1 (i_c 16 (i_if2 (fun x y => ¬ x = y) (Ok 49) (i_c 1 (i_st 1 (Ok 11))))))
def b_X12_remember_11 (Ok : Nat → mm_K) (Post : Option mm_V → mm_S → Prop) (kf : Nat) : mm_K := i_ld 1 (i_c 16 (i_if2 (fun x y => y ≤ x) (i_la 0 (i_dup (i_gi 11 1 (i_c 1 (i_sub (i_pi 11 1 (Ok 49))))))) (i_la 0 (i_c 152 (i_ld 1 (i_c 1 (i_add (i_mul (i_c 152 (i_ld 1 (i_mul (i_cv 11 2 T_X12_copyRow (i_inc 1 1 (Ok 11))))))))))))))
def b_X12_remember_49 (Ok : Nat → mm_K) (Post : Option mm_V → mm_S → Prop) (kf : Nat) : mm_K := i_la 0 (i_c 0 (i_c 152 (i_la 0 (i_gi 11 1 (i_c 1 (i_add (i_mul (i_cv 11 2 T_X12_copyRow (i_la 0 (i_dup (i_gi 11 1 (i_c 1 (i_add (i_pi 11 1 (i_vr Post kf)))))))))))))))
def clo_X12_remember (Ok : Nat → mm_K) (Post : Option mm_V → mm_S → Prop) (kf : Nat) : Prop := mm_imp (b_X12_remember_0 Ok Post kf) (Ok 0) ∧ mm_imp (b_X12_remember_11 Ok Post kf) (Ok 11) ∧ mm_imp (b_X12_remember_49 Ok Post kf) (Ok 49)
set_option maxRecDepth 100000 in
set_option maxHeartbeats 4000000 in
theorem bk_X12_remember {p : Program} {l : Launch} {e : Env} {s : State} {m : MethodId} {args : Array Value} {below : List Frame} {meth : Method} {c : Code} {G : mm_G} {σ0 : mm_S} {Post : Option mm_V → mm_S → Prop} (hC : mm_C p G s m args meth c cX12_remember yX12_remember.cls) (hr : meth.sig.returnType = none) : clo_X12_remember (mm_O p l e rm_X12_remember s m args below meth c G σ0.2.2 (MQ below (mm_Qc G σ0 rm_X12_remember.cells rm_X12_remember.slots Post) args s rm_X12_remember.cells rm_X12_remember.slots (mm_A G))) Post σ0.2.2 := ⟨(by unfold b_X12_remember_0; exact (mm_la_n hC dX12_remember_0 rfl (mm_gi hC cl_11 (by decide) rfl wd_790 dX12_remember_1 (mm_bp hC dX12_remember_4 ⟨⟨by decide, by decide⟩, by decide⟩ (mm_ic_ne hC (t := 49) dX12_remember_6 (by decide) (fun _ _ _ h => h) (mm_ic hC dX12_remember_9 ⟨by decide, by decide⟩ (mm_st_n hC dX12_remember_10 rfl (fun _ _ _ h => h)))))))), (by unfold b_X12_remember_11; exact (mm_ld_n hC dX12_remember_11 rfl (mm_bp hC dX12_remember_12 ⟨⟨by decide, by decide⟩, by decide⟩ (mm_ic_ge hC (t := 39) dX12_remember_14 (by decide) (mm_la_n hC dX12_remember_39 rfl (mm_dup hC dX12_remember_40 (mm_gi hC cl_11 (by decide) rfl wd_790 dX12_remember_41 (mm_ic hC dX12_remember_44 ⟨by decide, by decide⟩ (mm_sub hC dX12_remember_45 (mm_pi hC cl_11 (by decide) rfl rfl rfl wd_790 dX12_remember_46 (fun _ _ _ h => h))))))) (mm_la_n hC dX12_remember_17 rfl (mm_sp hC dX12_remember_18 ⟨⟨by decide, by decide⟩, by decide⟩ (mm_ld_n hC dX12_remember_21 rfl (mm_ic hC dX12_remember_22 ⟨by decide, by decide⟩ (mm_add hC dX12_remember_23 (mm_mul hC dX12_remember_24 (mm_sp hC dX12_remember_25 ⟨⟨by decide, by decide⟩, by decide⟩ (mm_ld_n hC dX12_remember_28 rfl (mm_mul hC dX12_remember_29 (mm_cv hC sp_X12_copyRow ⟨rfl, rfl⟩ cl_11 wd_1055 wd_1057 wd_58 wd_1058 wd_77 ⟨by decide, by decide, by decide +kernel⟩ ⟨by decide, by decide⟩ dX12_remember_30 (mm_inc hC dX12_remember_33 (mm_goto hC (t := 11) dX12_remember_36 (by decide) (fun _ _ _ h => h))))))))))))))))), (by unfold b_X12_remember_49; exact (mm_la_n hC dX12_remember_49 rfl (mm_ic hC dX12_remember_50 ⟨by decide, by decide⟩ (mm_sp hC dX12_remember_51 ⟨⟨by decide, by decide⟩, by decide⟩ (mm_la_n hC dX12_remember_54 rfl (mm_gi hC cl_11 (by decide) rfl wd_790 dX12_remember_55 (mm_ic hC dX12_remember_58 ⟨by decide, by decide⟩ (mm_add hC dX12_remember_59 (mm_mul hC dX12_remember_60 (mm_cv hC sp_X12_copyRow ⟨rfl, rfl⟩ cl_11 wd_1055 wd_1057 wd_58 wd_1058 wd_77 ⟨by decide, by decide, by decide +kernel⟩ ⟨by decide, by decide⟩ dX12_remember_61 (mm_la_n hC dX12_remember_64 rfl (mm_dup hC dX12_remember_65 (mm_gi hC cl_11 (by decide) rfl wd_790 dX12_remember_66 (mm_ic hC dX12_remember_69 ⟨by decide, by decide⟩ (mm_add hC dX12_remember_70 (mm_pi hC cl_11 (by decide) rfl rfl rfl wd_790 dX12_remember_71 (mm_vr hC ⟨rfl, rfl⟩ hr dX12_remember_74)))))))))))))))))⟩
set_option maxRecDepth 100000 in
set_option maxHeartbeats 8000000 in
theorem pv_X12_remember : ∀ (av : List mm_V) (σ : mm_S) (Post : Option mm_V → mm_S → Prop), (∀ v ∈ av, mm_iv v) → (∀ a j, mm_in (σ.1 a j)) → σ.2.2 ≤ 348 → T_X12_remember av σ Post → ∀ Ok : Nat → mm_K, clo_X12_remember Ok Post σ.2.2 → Ok 0 (av ++ List.replicate (2 - av.length) (.inr none)) [] σ := by
  intro av σ Post hav hin hk hT Ok hcl
  obtain ⟨I, R0⟩ := σ
  unfold T_X12_remember at hT
  split at hT
  · rename_i a'
    obtain ⟨h0, hT⟩ := hT
    have h0 : R0 = mm_R0 := h0
    subst h0
    dsimp only at hT hin
    obtain ⟨c0, c11, c49⟩ := hcl
    obtain ⟨rfl, S', hS', ok, hP⟩ := hT
    have w0' := m0
    have w1' := m1
    have w2' := m2
    obtain ⟨a', b', c', d', e', p, q', r', s'⟩ := id hS'
    obtain ⟨okA, okB, okC, okD, okE, okF, okG⟩ := id ok
    have hz := recS_19z S'
    have p49 : ∀ (I1 : Nat → Nat → Int) (v' : Nat) (u' : mm_V), v' < 16 → (∀ x', x' ≠ 338 → x' ≠ 339 → I1 x' = I x') → (∀ j', j' ≠ 1 → I1 338 j' = I 338 j') → (∀ j', j' < 152 ∨ 152 * 17 ≤ j' → I1 339 j' = I 339 j') → I1 338 1 = v' → (∀ t' : Nat, t' < v' → mW I1 (152 * (t' + 1)) (recS S' (1 + t'))) → recS S' (1 + v') = S' 0 → recS S' 19 0 = (v' : Int) + 1 → Ok 49 [.inr (some 338), u'] [] (I1, mm_R0) := by
      intro I1 v' u' hv fA fB' fC' fD' fE' fF fG
      refine c49 _ _ _ ?_
      simp only [b_X12_remember_49, i_xorg, i_shl, i_shr, i_ior, i_and1, i_lcg1, i_lcg2, i_ld, i_la, i_st, i_sa, i_c, i_inc, i_add, i_sub, i_mul, i_div, i_rem, i_remT, i_xor, i_dup, i_dup2, i_if, i_if2, i_sw, i_gi, i_gr, i_pi, i_pz, i_ial, i_ias, i_len, i_aal, i_gs, i_tal, i_cv, i_cs, i_ir, i_zr, i_vr, i_min, i_max, i_cpy, List.getElem?_cons_zero, List.getElem?_cons_succ, List.set_cons_zero, List.set_cons_succ, List.length_cons, List.length_nil, List.drop_succ_cons, List.drop_zero, List.take_succ_cons, List.take_zero, List.reverse_cons, List.reverse_nil, List.nil_append, List.cons_append, Option.toList_some, Option.toList_none, true_and, and_true, true_or, or_true, Nat.reduceAdd, Nat.reduceLT, Nat.reduceLeDiff, Option.some.injEq, exists_eq_left', Int.toNat_natCast, Nat.reduceSub, List.append_nil, List.replicate_succ, List.replicate_zero, mm_in, w0', T_X12_copyRow, fD']
      refine fun _ => ⟨⟨by omega, by omega⟩, ⟨by omega, by omega⟩, 0, 152 * (v' + 1), rfl, by omega, by omega, by omega, by omega, fun I2' gA gB gC => ?_⟩
      rw [gA 338 (by omega), fD']
      refine fun _ => ⟨⟨by omega, by omega⟩, hP _ (fun x' hx hy => by rw [mset_ne hx, gA x' hy, fA x' hx hy]) (fun j' hj => by rw [mset_ne (by omega), gB j' (by omega), fC' j' (by omega)]) ?_⟩
      have hX : ∀ j', j' ≠ 1 → mm_set I2' 338 1 ((v' : Int) + 1) 338 j' = I 338 j' := fun j' hj => by rw [mset_n2 hj, gA 338 (by omega), fB' j' hj]
      have hY : ∀ x', x' ≠ 338 → x' ≠ 339 → mm_set I2' 338 1 ((v' : Int) + 1) x' = I x' := fun x' hx hy => by rw [mset_ne hx, gA x' hy, fA x' hx hy]
      have hZ : mm_set I2' 338 1 ((v' : Int) + 1) 339 = I2' 339 := mset_ne (by omega)
      refine ⟨?_, by rw [mset_eq, fG], fun t' ht => ?_, by rw [hX 3 (by omega), recS_19 S' (by omega)]; exact d', by rw [hX 2 (by omega), recS_19 S' (by omega), recS_19 S' (by omega)]; exact e', fun i' hi' hk => ?_, by rw [hX 7 (by omega), recS_19 S' (by omega)]; exact q', fun i' hi' => ?_, ?_⟩
      · rw [recS_o S' (by omega) (by omega)]
        exact mW_mv a' (okW_m okA) (fun k' hk => by rw [hZ, gB _ (by omega), fC' _ (by omega)])
      · rw [fG] at ht
        by_cases h' : t' = v'
        · subst h'
          rw [fF]
          exact mW_mv a' (okW_m okA) (fun k' hk => by rw [hZ, gC k' hk, fC' _ (by omega)])
        · have hr := okS_rec ok
          exact mW_mv (fE' t' (by omega)) (okW_m (hr.2.1 t' (by omega))) (fun k' hk => by rw [hZ, gB _ (by omega)])
      · rw [recS_19 S' (by omega)] at hk
        rw [recS_19 S' (by omega), recS_o S' (by omega) (by omega), hY 340 (by omega) (by omega)]
        exact ⟨(p i' hi' hk).1, mW_mv (p i' hi' hk).2 (okW_m ((okE i' hi').2 hk).2) (fun k' hk => by rw [hZ, gB _ (by omega), fC' _ (by omega)])⟩
      · rw [recS_19 S' (by omega)] at hi'
        rw [recS_o S' (by omega) (by omega), recS_o S' (by omega) (by omega), hY 341 (by omega) (by omega), hY 342 (by omega) (by omega)]
        exact r' i' hi'
      · intro i' hi'
        have := s' i' hi'
        unfold MN at this ⊢
        rw [hZ, gB _ (by omega), fC' _ (by omega)]
        exact this
    have loop' : S' 19 0 = 16 → ∀ (x' k' : Nat) (I1 : Nat → Nat → Int), k' + x' = 16 → 1 ≤ k' → (∀ b', b' ≠ 339 → I1 b' = I b') → (∀ i', i' < 152 ∨ 152 * k' ≤ i' → I1 339 i' = I 339 i') → (∀ j', 1 ≤ j' → j' < k' → ∀ y', y' < 152 → I1 339 (152 * j' + y') = I 339 (152 * (j' + 1) + y')) → Ok 11 [.inr (some 338), .inl (k' : Int)] [] (I1, mm_R0) := by
      intro h16' x'
      rw [if_neg (by omega)] at hz
      induction x' with
      | zero =>
        intro k' I1 hd' hk hA hB' hC
        have ek : k' = 16 := by omega
        subst ek
        refine c11 _ _ _ ?_
        simp only [b_X12_remember_11, i_xorg, i_shl, i_shr, i_ior, i_and1, i_lcg1, i_lcg2, i_ld, i_la, i_st, i_sa, i_c, i_inc, i_add, i_sub, i_mul, i_div, i_rem, i_remT, i_xor, i_dup, i_dup2, i_if, i_if2, i_sw, i_gi, i_gr, i_pi, i_pz, i_ial, i_ias, i_len, i_aal, i_gs, i_tal, i_cv, i_cs, i_ir, i_zr, i_vr, i_min, i_max, i_cpy, List.getElem?_cons_zero, List.getElem?_cons_succ, List.set_cons_zero, List.set_cons_succ, List.length_cons, List.length_nil, List.drop_succ_cons, List.drop_zero, List.take_succ_cons, List.take_zero, List.reverse_cons, List.reverse_nil, List.nil_append, List.cons_append, Option.toList_some, Option.toList_none, true_and, and_true, true_or, or_true, Nat.reduceAdd, Nat.reduceLT, Nat.reduceLeDiff, Option.some.injEq, exists_eq_left', Int.toNat_natCast, Nat.reduceSub, List.append_nil, List.replicate_succ, List.replicate_zero, mm_in, w0']
        rw [hA 338 (by omega), b', h16']
        refine ⟨fun _ => fun _ => ?_, fun h' => by omega⟩
        refine ⟨⟨by omega, by omega⟩, p49 _ 15 _ (by omega) (fun x' hx hy => by rw [mset_ne hx, hA x' hy]) (fun j' hj => by rw [mset_n2 hj, hA 338 (by omega)]) (fun j' hj => by rw [mset_ne (by omega), hB' j' (by omega)]) (by rw [mset_eq]; rfl) (fun t' ht => ?_) ?_ (by rw [hz]; rfl)⟩
        · rw [recS_p S' (by omega), if_neg (by omega), if_neg (by omega)]
          refine mW_mv (c' (t' + 1) (by omega)) (okW_m (okB (t' + 1) (by omega))) (fun k' hk => ?_)
          rw [mset_ne (by omega), hC (t' + 1) (by omega) (by omega) k' hk]
        · rw [recS_p S' (by omega), if_neg (by omega), if_pos rfl]
      | succ x' ih =>
        intro k' I1 hd' hk hA hB' hC
        refine c11 _ _ _ ?_
        simp only [b_X12_remember_11, i_xorg, i_shl, i_shr, i_ior, i_and1, i_lcg1, i_lcg2, i_ld, i_la, i_st, i_sa, i_c, i_inc, i_add, i_sub, i_mul, i_div, i_rem, i_remT, i_xor, i_dup, i_dup2, i_if, i_if2, i_sw, i_gi, i_gr, i_pi, i_pz, i_ial, i_ias, i_len, i_aal, i_gs, i_tal, i_cv, i_cs, i_ir, i_zr, i_vr, i_min, i_max, i_cpy, List.getElem?_cons_zero, List.getElem?_cons_succ, List.set_cons_zero, List.set_cons_succ, List.length_cons, List.length_nil, List.drop_succ_cons, List.drop_zero, List.take_succ_cons, List.take_zero, List.reverse_cons, List.reverse_nil, List.nil_append, List.cons_append, Option.toList_some, Option.toList_none, true_and, and_true, true_or, or_true, Nat.reduceAdd, Nat.reduceLT, Nat.reduceLeDiff, Option.some.injEq, exists_eq_left', Int.toNat_natCast, Nat.reduceSub, List.append_nil, List.replicate_succ, List.replicate_zero, mm_in, w0', T_X12_copyRow]
        refine ⟨fun h' => by omega, fun h' => ⟨⟨by omega, by omega⟩, ⟨by omega, by omega⟩, ⟨by omega, by omega⟩, 152 * (k' + 1), 152 * k', by omega, by omega, by omega, by omega, by omega, fun I2' gA gB gC => ?_⟩⟩
        have := ih (k' + 1) I2' (by omega) (by omega) (fun b' hb' => by rw [gA b' hb', hA b' hb']) (fun i' hi' => by rw [gB i' (by omega), hB' i' (by omega)]) (fun j' hj hj2 y' hy => ?_)
        · rw [Int.natCast_add] at this
          exact ⟨⟨by omega, by omega⟩, this⟩
        · by_cases h' : j' = k'
          · subst h'
            rw [gC y' hy, hB' _ (by omega)]
          · rw [gB _ (by omega)]
            exact hC j' hj (by omega) y' hy
    refine c0 _ _ _ ?_
    simp only [b_X12_remember_0, i_xorg, i_shl, i_shr, i_ior, i_and1, i_lcg1, i_lcg2, i_ld, i_la, i_st, i_sa, i_c, i_inc, i_add, i_sub, i_mul, i_div, i_rem, i_remT, i_xor, i_dup, i_dup2, i_if, i_if2, i_sw, i_gi, i_gr, i_pi, i_pz, i_ial, i_ias, i_len, i_aal, i_gs, i_tal, i_cv, i_cs, i_ir, i_zr, i_vr, i_min, i_max, i_cpy, List.getElem?_cons_zero, List.getElem?_cons_succ, List.set_cons_zero, List.set_cons_succ, List.length_cons, List.length_nil, List.drop_succ_cons, List.drop_zero, List.take_succ_cons, List.take_zero, List.reverse_cons, List.reverse_nil, List.nil_append, List.cons_append, Option.toList_some, Option.toList_none, true_and, and_true, true_or, or_true, Nat.reduceAdd, Nat.reduceLT, Nat.reduceLeDiff, Option.some.injEq, exists_eq_left', Int.toNat_natCast, Nat.reduceSub, List.append_nil, List.replicate_succ, List.replicate_zero, mm_in, w0', b']
    refine fun _ => ⟨fun h' => ?_, fun h' => loop' (by omega) 15 1 I (by omega) (by omega) (fun _ _ => rfl) (fun _ _ => rfl) (fun j' hj hj2 => by omega)⟩
    obtain ⟨v', hv⟩ := Int.eq_ofNat_of_zero_le okC.1
    rw [if_pos (by omega)] at hz
    refine p49 I v' _ (by omega) (fun _ _ _ => rfl) (fun _ _ => rfl) (fun _ _ => rfl) (by rw [b', hv]) (fun t' ht => ?_) ?_ (by rw [hz, hv])
    · rw [recS_p S' (by omega), if_pos (by omega), if_neg (by omega)]
      exact c' t' (by omega)
    · rw [recS_p S' (by omega), if_pos (by omega), if_pos (by omega)]
  · exact hT.elim
theorem sp_X12_remember : mm_Sp yX12_remember cX12_remember 2 none rm_X12_remember T_X12_remember := mm_meth (by decide) (by
  intro av σ Post h
  unfold T_X12_remember at h
  split at h
  · simp
  · exact h.elim) (fun p l e s m args below meth c G av σ Post hC hr _ hav hin hk hT => pv_X12_remember av σ Post hav hin hk hT _ (bk_X12_remember hC hr))
