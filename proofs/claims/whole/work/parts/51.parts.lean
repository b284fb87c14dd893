/-! the other program: the parts of a surface counted
-/
def thr (nb : Nat → Int) (p : Nat) : Prop := ((p % 20 : Nat) : Int) < nb (p / 20)
def T_X12_isThere : mm_T := fun av σ Post => match av with
  | [.inr (some a), .inl s, .inl x] => σ.2 = mm_R0 ∧ a = 338 ∧ ∃ o p : Nat, s = o ∧ x = p ∧ o ≤ 2888 ∧ p < 420 ∧ ∀ z : Int, bz z (thr (MN σ.1 o) p) → Post (some (.inl z)) σ
  | _ => False
def rm_X12_isThere : Room := { frames := 0, cells := 0, slots := 0, locals := 0 }
def b_X12_isThere_0 (Ok : Nat → mm_K) (Post : Option mm_V → mm_S → Prop) (kf : Nat) : mm_K := i_ld 2 (i_c 20 (i_rem (i_la 0 (i_gr 11 0 (i_ld 1 (i_ld 2 (i_c 20 (i_div (i_add (i_ial (i_if2 (fun x y => y ≤ x) (i_c 0 (Ok 23)) (i_c 1 (Ok 23)))))))))))))
def b_X12_isThere_23 (Ok : Nat → mm_K) (Post : Option mm_V → mm_S → Prop) (kf : Nat) : mm_K := i_zr Post kf
def clo_X12_isThere (Ok : Nat → mm_K) (Post : Option mm_V → mm_S → Prop) (kf : Nat) : Prop := mm_imp (b_X12_isThere_0 Ok Post kf) (Ok 0) ∧ mm_imp (b_X12_isThere_23 Ok Post kf) (Ok 23)
set_option maxRecDepth 100000 in
set_option maxHeartbeats 4000000 in
theorem bk_X12_isThere {p : Program} {l : Launch} {e : Env} {s : State} {m : MethodId} {args : Array Value} {below : List Frame} {meth : Method} {c : Code} {G : mm_G} {σ0 : mm_S} {Post : Option mm_V → mm_S → Prop} (hC : mm_C p G s m args meth c cX12_isThere yX12_isThere.cls) (hr : meth.sig.returnType = some .boolean) : clo_X12_isThere (mm_O p l e rm_X12_isThere s m args below meth c G σ0.2.2 (MQ below (mm_Qc G σ0 rm_X12_isThere.cells rm_X12_isThere.slots Post) args s rm_X12_isThere.cells rm_X12_isThere.slots (mm_A G))) Post σ0.2.2 := ⟨(by unfold b_X12_isThere_0; exact (mm_ld_n hC dX12_isThere_0 rfl (mm_bp hC dX12_isThere_1 ⟨⟨by decide, by decide⟩, by decide⟩ (mm_rem hC dX12_isThere_3 (mm_la_n hC dX12_isThere_4 rfl (mm_gr hC cl_11 (by decide) rfl wd_789 dX12_isThere_5 (mm_ld_n hC dX12_isThere_8 rfl (mm_ld_n hC dX12_isThere_9 rfl (mm_bp hC dX12_isThere_10 ⟨⟨by decide, by decide⟩, by decide⟩ (mm_div hC dX12_isThere_12 (mm_add hC dX12_isThere_13 (mm_ial hC dX12_isThere_14 (mm_ic_ge hC (t := 22) dX12_isThere_15 (by decide) (mm_ic hC dX12_isThere_22 ⟨by decide, by decide⟩ (fun _ _ _ h => h)) (mm_ic hC dX12_isThere_18 ⟨by decide, by decide⟩ (mm_goto hC (t := 23) dX12_isThere_19 (by decide) (fun _ _ _ h => h)))))))))))))))), (by unfold b_X12_isThere_23; exact (mm_zr hC ⟨rfl, rfl⟩ hr dX12_isThere_23))⟩
set_option maxRecDepth 100000 in
set_option maxHeartbeats 8000000 in
theorem pv_X12_isThere : ∀ (av : List mm_V) (σ : mm_S) (Post : Option mm_V → mm_S → Prop), (∀ v ∈ av, mm_iv v) → (∀ a j, mm_in (σ.1 a j)) → σ.2.2 ≤ 348 → T_X12_isThere av σ Post → ∀ Ok : Nat → mm_K, clo_X12_isThere Ok Post σ.2.2 → Ok 0 (av ++ List.replicate (3 - av.length) (.inr none)) [] σ := by
  intro av σ Post hav hin hk hT Ok hcl
  obtain ⟨I, R0⟩ := σ
  unfold T_X12_isThere at hT
  split at hT
  · rename_i a s x
    obtain ⟨h0, hT⟩ := hT
    have h0 : R0 = mm_R0 := h0
    subst h0
    dsimp only at hT hin
    obtain ⟨c0, c23⟩ := hcl
    obtain ⟨rfl, o, p, rfl, rfl, ho, hp, hP⟩ := hT
    have w0 := m0
    have w1 := m1
    have w2 := m2
    have e1 : ((o : Int) + (p : Int) / 20).toNat = o + p / 20 := by omega
    have e2 : (p : Int) % 20 = ((p % 20 : Nat) : Int) := by omega
    refine c0 _ _ _ ?_
    simp only [b_X12_isThere_0, i_xorg, i_shl, i_shr, i_ior, i_and1, i_lcg1, i_lcg2, i_ld, i_la, i_st, i_sa, i_c, i_inc, i_add, i_sub, i_mul, i_div, i_rem, i_remT, i_xor, i_dup, i_dup2, i_if, i_if2, i_sw, i_gi, i_gr, i_pi, i_pz, i_ial, i_ias, i_len, i_aal, i_gs, i_tal, i_cv, i_cs, i_ir, i_zr, i_vr, i_min, i_max, i_cpy, List.getElem?_cons_zero, List.getElem?_cons_succ, List.set_cons_zero, List.set_cons_succ, List.length_cons, List.length_nil, List.drop_succ_cons, List.drop_zero, List.take_succ_cons, List.take_zero, List.reverse_cons, List.reverse_nil, List.nil_append, List.cons_append, Option.toList_some, Option.toList_none, true_and, and_true, true_or, or_true, Nat.reduceAdd, Nat.reduceLT, Nat.reduceLeDiff, Option.some.injEq, exists_eq_left', Int.toNat_natCast, Nat.reduceSub, List.append_nil, List.replicate_succ, List.replicate_zero, mm_in, w0, w1, w2, e1, e2]
    repeat' first | refine And.intro ?_ ?_ | refine fun (_ : _ ≤ _ ∧ _ < _) => ?_
    all_goals try omega
    · intro h
      refine c23 _ _ _ ?_
      simp only [b_X12_isThere_23, i_xorg, i_shl, i_shr, i_ior, i_and1, i_lcg1, i_lcg2, i_ld, i_la, i_st, i_sa, i_c, i_inc, i_add, i_sub, i_mul, i_div, i_rem, i_remT, i_xor, i_dup, i_dup2, i_if, i_if2, i_sw, i_gi, i_gr, i_pi, i_pz, i_ial, i_ias, i_len, i_aal, i_gs, i_tal, i_cv, i_cs, i_ir, i_zr, i_vr, i_min, i_max, i_cpy, List.getElem?_cons_zero, List.getElem?_cons_succ, List.set_cons_zero, List.set_cons_succ, List.length_cons, List.length_nil, List.drop_succ_cons, List.drop_zero, List.take_succ_cons, List.take_zero, List.reverse_cons, List.reverse_nil, List.nil_append, List.cons_append, Option.toList_some, Option.toList_none, true_and, and_true, true_or, or_true, Nat.reduceAdd, Nat.reduceLT, Nat.reduceLeDiff, Option.some.injEq, exists_eq_left', Int.toNat_natCast, Nat.reduceSub, List.append_nil, List.replicate_succ, List.replicate_zero]
      exact hP 0 (bz_0 (by unfold thr MN; omega))
    · intro h
      refine c23 _ _ _ ?_
      simp only [b_X12_isThere_23, i_xorg, i_shl, i_shr, i_ior, i_and1, i_lcg1, i_lcg2, i_ld, i_la, i_st, i_sa, i_c, i_inc, i_add, i_sub, i_mul, i_div, i_rem, i_remT, i_xor, i_dup, i_dup2, i_if, i_if2, i_sw, i_gi, i_gr, i_pi, i_pz, i_ial, i_ias, i_len, i_aal, i_gs, i_tal, i_cv, i_cs, i_ir, i_zr, i_vr, i_min, i_max, i_cpy, List.getElem?_cons_zero, List.getElem?_cons_succ, List.set_cons_zero, List.set_cons_succ, List.length_cons, List.length_nil, List.drop_succ_cons, List.drop_zero, List.take_succ_cons, List.take_zero, List.reverse_cons, List.reverse_nil, List.nil_append, List.cons_append, Option.toList_some, Option.toList_none, true_and, and_true, true_or, or_true, Nat.reduceAdd, Nat.reduceLT, Nat.reduceLeDiff, Option.some.injEq, exists_eq_left', Int.toNat_natCast, Nat.reduceSub, List.append_nil, List.replicate_succ, List.replicate_zero]
      exact hP 1 (bz_1 (by unfold thr MN; omega))
  · exact hT.elim
theorem sp_X12_isThere : mm_Sp yX12_isThere cX12_isThere 3 (some .boolean) rm_X12_isThere T_X12_isThere := mm_meth (by decide) (by
  intro av σ Post h
  unfold T_X12_isThere at h
  split at h
  · simp
  · exact h.elim) (fun p l e s m args below meth c G av σ Post hC hr _ hav hin hk hT => pv_X12_isThere av σ Post hav hin hk hT _ (bk_X12_isThere hC hr))
def two (nb : Nat → Int) (L : L2) (r m : Nat) : Prop := ∀ k, k < m → L.1 k = r → thr nb k → L.2 (2 * k) ≠ L.2 (2 * k + 1)
def T_X12_isTwoSided : mm_T := fun av σ Post => match av with
  | [.inr (some a), .inl s, .inl x] => σ.2 = mm_R0 ∧ a = 338 ∧ ∃ (o r n : Nat) (L : L2), s = o ∧ x = r ∧ o ≤ 2888 ∧ r < 420 ∧ σ.1 339 0 = n ∧ n ≤ 3 ∧ agJ σ.1 L ∧ ∀ z : Int, bz z (two (MN σ.1 o) L r (140 * n)) → Post (some (.inl z)) σ
  | _ => False
def rm_X12_isTwoSided : Room := { frames := 1, cells := 0, slots := 0, locals := 22 }
def b_X12_isTwoSided_0 (Ok : Nat → mm_K) (Post : Option mm_V → mm_S → Prop) (kf : Nat) : mm_K := i_c 1 (i_st 3 (i_c 0 (i_st 4 (Ok 5))))
def b_X12_isTwoSided_5 (Ok : Nat → mm_K) (Post : Option mm_V → mm_S → Prop) (kf : Nat) : mm_K := i_ld 4 (i_c 140 (i_la 0 (i_gr 11 0 (i_c 0 (i_ial (i_mul (i_if2 (fun x y => y ≤ x) (i_ld 3 (i_zr Post kf)) (i_ld 3 (i_if (fun x => x = 0) (Ok 72) (i_la 0 (i_gr 11 11 (i_ld 4 (i_ial (i_ld 2 (i_if2 (fun x y => ¬ x = y) (Ok 68) (i_la 0 (i_ld 1 (i_ld 4 (i_cv 11 2 T_X12_isThere (i_if (fun x => x = 0) (Ok 68) (i_la 0 (i_gr 11 12 (i_c 2 (i_ld 4 (i_mul (i_ial (i_la 0 (i_gr 11 12 (i_c 2 (i_ld 4 (i_mul (i_c 1 (i_add (i_ial (i_if2 (fun x y => x = y) (Ok 72) (Ok 68))))))))))))))))))))))))))))))))))))
def b_X12_isTwoSided_68 (Ok : Nat → mm_K) (Post : Option mm_V → mm_S → Prop) (kf : Nat) : mm_K := i_c 1 (Ok 73)
def b_X12_isTwoSided_72 (Ok : Nat → mm_K) (Post : Option mm_V → mm_S → Prop) (kf : Nat) : mm_K := i_c 0 (Ok 73)
def b_X12_isTwoSided_73 (Ok : Nat → mm_K) (Post : Option mm_V → mm_S → Prop) (kf : Nat) : mm_K := i_st 3 (i_inc 4 1 (Ok 5))
def clo_X12_isTwoSided (Ok : Nat → mm_K) (Post : Option mm_V → mm_S → Prop) (kf : Nat) : Prop := mm_imp (b_X12_isTwoSided_0 Ok Post kf) (Ok 0) ∧ mm_imp (b_X12_isTwoSided_5 Ok Post kf) (Ok 5) ∧ mm_imp (b_X12_isTwoSided_68 Ok Post kf) (Ok 68) ∧ mm_imp (b_X12_isTwoSided_72 Ok Post kf) (Ok 72) ∧ mm_imp (b_X12_isTwoSided_73 Ok Post kf) (Ok 73)
set_option maxRecDepth 100000 in
set_option maxHeartbeats 4000000 in
theorem bk_X12_isTwoSided {p : Program} {l : Launch} {e : Env} {s : State} {m : MethodId} {args : Array Value} {below : List Frame} {meth : Method} {c : Code} {G : mm_G} {σ0 : mm_S} {Post : Option mm_V → mm_S → Prop} (hC : mm_C p G s m args meth c cX12_isTwoSided yX12_isTwoSided.cls) (hr : meth.sig.returnType = some .boolean) : clo_X12_isTwoSided (mm_O p l e rm_X12_isTwoSided s m args below meth c G σ0.2.2 (MQ below (mm_Qc G σ0 rm_X12_isTwoSided.cells rm_X12_isTwoSided.slots Post) args s rm_X12_isTwoSided.cells rm_X12_isTwoSided.slots (mm_A G))) Post σ0.2.2 := ⟨(by unfold b_X12_isTwoSided_0; exact (mm_ic hC dX12_isTwoSided_0 ⟨by decide, by decide⟩ (mm_st_n hC dX12_isTwoSided_1 rfl (mm_ic hC dX12_isTwoSided_2 ⟨by decide, by decide⟩ (mm_st hC dX12_isTwoSided_3 (fun _ _ _ h => h)))))), (by unfold b_X12_isTwoSided_5; exact (mm_ld hC dX12_isTwoSided_5 (mm_sp hC dX12_isTwoSided_7 ⟨⟨by decide, by decide⟩, by decide⟩ (mm_la_n hC dX12_isTwoSided_10 rfl (mm_gr hC cl_11 (by decide) rfl wd_789 dX12_isTwoSided_11 (mm_ic hC dX12_isTwoSided_14 ⟨by decide, by decide⟩ (mm_ial hC dX12_isTwoSided_15 (mm_mul hC dX12_isTwoSided_16 (mm_ic_ge hC (t := 80) dX12_isTwoSided_17 (by decide) (mm_ld_n hC dX12_isTwoSided_80 rfl (mm_zr hC ⟨rfl, rfl⟩ hr dX12_isTwoSided_81)) (mm_ld_n hC dX12_isTwoSided_20 rfl (mm_if_eq hC (t := 72) dX12_isTwoSided_21 (by decide) (fun _ _ _ h => h) (mm_la_n hC dX12_isTwoSided_24 rfl (mm_gr hC cl_11 (by decide) rfl wd_800 dX12_isTwoSided_25 (mm_ld hC dX12_isTwoSided_28 (mm_ial hC dX12_isTwoSided_30 (mm_ld_n hC dX12_isTwoSided_31 rfl (mm_ic_ne hC (t := 68) dX12_isTwoSided_32 (by decide) (fun _ _ _ h => h) (mm_la_n hC dX12_isTwoSided_35 rfl (mm_ld_n hC dX12_isTwoSided_36 rfl (mm_ld hC dX12_isTwoSided_37 (mm_cv hC sp_X12_isThere ⟨rfl, rfl⟩ cl_11 wd_930 wd_932 wd_39 wd_933 wd_77 ⟨by decide, by decide, by decide +kernel⟩ ⟨by decide, by decide⟩ dX12_isTwoSided_39 (mm_if_eq hC (t := 68) dX12_isTwoSided_42 (by decide) (fun _ _ _ h => h) (mm_la_n hC dX12_isTwoSided_45 rfl (mm_gr hC cl_11 (by decide) rfl wd_801 dX12_isTwoSided_46 (mm_ic hC dX12_isTwoSided_49 ⟨by decide, by decide⟩ (mm_ld hC dX12_isTwoSided_50 (mm_mul hC dX12_isTwoSided_52 (mm_ial hC dX12_isTwoSided_53 (mm_la_n hC dX12_isTwoSided_54 rfl (mm_gr hC cl_11 (by decide) rfl wd_801 dX12_isTwoSided_55 (mm_ic hC dX12_isTwoSided_58 ⟨by decide, by decide⟩ (mm_ld hC dX12_isTwoSided_59 (mm_mul hC dX12_isTwoSided_61 (mm_ic hC dX12_isTwoSided_62 ⟨by decide, by decide⟩ (mm_add hC dX12_isTwoSided_63 (mm_ial hC dX12_isTwoSided_64 (mm_ic_eq hC (t := 72) dX12_isTwoSided_65 (by decide) (fun _ _ _ h => h) (fun _ _ _ h => h)))))))))))))))))))))))))))))))))))))), (by unfold b_X12_isTwoSided_68; exact (mm_ic hC dX12_isTwoSided_68 ⟨by decide, by decide⟩ (mm_goto hC (t := 73) dX12_isTwoSided_69 (by decide) (fun _ _ _ h => h)))), (by unfold b_X12_isTwoSided_72; exact (mm_ic hC dX12_isTwoSided_72 ⟨by decide, by decide⟩ (fun _ _ _ h => h))), (by unfold b_X12_isTwoSided_73; exact (mm_st_n hC dX12_isTwoSided_73 rfl (mm_inc hC dX12_isTwoSided_74 (mm_goto hC (t := 5) dX12_isTwoSided_77 (by decide) (fun _ _ _ h => h)))))⟩
set_option maxRecDepth 100000 in
set_option maxHeartbeats 8000000 in
theorem pv_X12_isTwoSided : ∀ (av : List mm_V) (σ : mm_S) (Post : Option mm_V → mm_S → Prop), (∀ v ∈ av, mm_iv v) → (∀ a j, mm_in (σ.1 a j)) → σ.2.2 ≤ 348 → T_X12_isTwoSided av σ Post → ∀ Ok : Nat → mm_K, clo_X12_isTwoSided Ok Post σ.2.2 → Ok 0 (av ++ List.replicate (5 - av.length) (.inr none)) [] σ := by
  intro av σ Post hav hin hk hT Ok hcl
  obtain ⟨I, R0⟩ := σ
  unfold T_X12_isTwoSided at hT
  split at hT
  · rename_i a s x
    obtain ⟨h0, hT⟩ := hT
    have h0 : R0 = mm_R0 := h0
    subst h0
    dsimp only at hT hin
    obtain ⟨c0, c5, c68, c72, c73⟩ := hcl
    obtain ⟨rfl, o, r, n, L, rfl, rfl, ho, hr, hn, hn3, ⟨g1, g2⟩, hP⟩ := hT
    have w0 := m0
    have w1 := m1
    have w2 := m2
    obtain ⟨r0, r1, r2, r3, r4, r5, r6, r7, r8⟩ := Rs_338
    obtain ⟨s0, s1, s2, s3, s4, s5, s6, s7, s8, s9⟩ := sh_338
    have loop : ∀ (d k : Nat) (z : Int), k + d = 140 * n → bz z (two (MN I o) L r k) → Ok 5 [.inr (some 338), .inl (o : Int), .inl (r : Int), .inl z, .inl (k : Int)] [] (I, mm_R0) := by
      intro d
      induction d with
      | zero =>
        intro k z hd hz
        have hz1 : z = 0 ∨ z = 1 := by rcases hz with q | q <;> omega
        refine c5 _ _ _ ?_
        simp only [b_X12_isTwoSided_5, i_xorg, i_shl, i_shr, i_ior, i_and1, i_lcg1, i_lcg2, i_ld, i_la, i_st, i_sa, i_c, i_inc, i_add, i_sub, i_mul, i_div, i_rem, i_remT, i_xor, i_dup, i_dup2, i_if, i_if2, i_sw, i_gi, i_gr, i_pi, i_pz, i_ial, i_ias, i_len, i_aal, i_gs, i_tal, i_cv, i_cs, i_ir, i_zr, i_vr, i_min, i_max, i_cpy, List.getElem?_cons_zero, List.getElem?_cons_succ, List.set_cons_zero, List.set_cons_succ, List.length_cons, List.length_nil, List.drop_succ_cons, List.drop_zero, List.take_succ_cons, List.take_zero, List.reverse_cons, List.reverse_nil, List.nil_append, List.cons_append, Option.toList_some, Option.toList_none, true_and, and_true, true_or, or_true, Nat.reduceAdd, Nat.reduceLT, Nat.reduceLeDiff, Option.some.injEq, exists_eq_left', Int.toNat_natCast, Nat.reduceSub, List.append_nil, List.replicate_succ, List.replicate_zero, mm_in, w0, w1, w2, t0, hn]
        rw [show k = 140 * n by omega] at hz ⊢
        repeat' first | refine And.intro ?_ ?_ | refine fun (_ : _ ≤ _ ∧ _ < _) => ?_
        all_goals try omega
        exact fun _ => ⟨hz1, hP z hz⟩
      | succ d ih =>
        intro k z hd hz
        have ek := g1 k (by omega)
        have e1 := g2 (2 * k) (by omega)
        have e2 := g2 (2 * k + 1) (by omega)
        have bs : two (MN I o) L r (k + 1) ↔ two (MN I o) L r k ∧ (L.1 k = r → thr (MN I o) k → L.2 (2 * k) ≠ L.2 (2 * k + 1)) := by
          constructor
          · intro h
            exact ⟨fun j hj => h j (by omega), h k (by omega)⟩
          · rintro ⟨h1, h2⟩ j hj
            by_cases q : j = k
            · subst q
              exact h2
            · exact h1 j (by omega)
        have f73 : ∀ v : Int, bz v (two (MN I o) L r (k + 1)) → Ok 73 [.inr (some 338), .inl (o : Int), .inl (r : Int), .inl z, .inl (k : Int)] [.inl v] (I, mm_R0) := by
          intro v hv
          have := ih (k + 1) v (by omega) hv
          rw [Int.natCast_add] at this
          refine c73 _ _ _ ?_
          simp only [b_X12_isTwoSided_73, i_xorg, i_shl, i_shr, i_ior, i_and1, i_lcg1, i_lcg2, i_ld, i_la, i_st, i_sa, i_c, i_inc, i_add, i_sub, i_mul, i_div, i_rem, i_remT, i_xor, i_dup, i_dup2, i_if, i_if2, i_sw, i_gi, i_gr, i_pi, i_pz, i_ial, i_ias, i_len, i_aal, i_gs, i_tal, i_cv, i_cs, i_ir, i_zr, i_vr, i_min, i_max, i_cpy, List.getElem?_cons_zero, List.getElem?_cons_succ, List.set_cons_zero, List.set_cons_succ, List.length_cons, List.length_nil, List.drop_succ_cons, List.drop_zero, List.take_succ_cons, List.take_zero, List.reverse_cons, List.reverse_nil, List.nil_append, List.cons_append, Option.toList_some, Option.toList_none, true_and, and_true, true_or, or_true, Nat.reduceAdd, Nat.reduceLT, Nat.reduceLeDiff, Option.some.injEq, exists_eq_left', Int.toNat_natCast, Nat.reduceSub, List.append_nil, List.replicate_succ, List.replicate_zero, mm_in,]
          repeat' first | refine And.intro ?_ ?_ | refine fun (_ : _ ≤ _ ∧ _ < _) => ?_
          all_goals try omega
        have f68 : two (MN I o) L r (k + 1) → Ok 68 [.inr (some 338), .inl (o : Int), .inl (r : Int), .inl z, .inl (k : Int)] [] (I, mm_R0) := by
          intro h
          refine c68 _ _ _ ?_
          simp only [b_X12_isTwoSided_68, i_xorg, i_shl, i_shr, i_ior, i_and1, i_lcg1, i_lcg2, i_ld, i_la, i_st, i_sa, i_c, i_inc, i_add, i_sub, i_mul, i_div, i_rem, i_remT, i_xor, i_dup, i_dup2, i_if, i_if2, i_sw, i_gi, i_gr, i_pi, i_pz, i_ial, i_ias, i_len, i_aal, i_gs, i_tal, i_cv, i_cs, i_ir, i_zr, i_vr, i_min, i_max, i_cpy, List.getElem?_cons_zero, List.getElem?_cons_succ, List.set_cons_zero, List.set_cons_succ, List.length_cons, List.length_nil, List.drop_succ_cons, List.drop_zero, List.take_succ_cons, List.take_zero, List.reverse_cons, List.reverse_nil, List.nil_append, List.cons_append, Option.toList_some, Option.toList_none, true_and, and_true, true_or, or_true, Nat.reduceAdd, Nat.reduceLT, Nat.reduceLeDiff, Option.some.injEq, exists_eq_left', Int.toNat_natCast, Nat.reduceSub, List.append_nil, List.replicate_succ, List.replicate_zero]
          exact f73 1 (bz_1 h)
        have f72 : ¬ two (MN I o) L r (k + 1) → Ok 72 [.inr (some 338), .inl (o : Int), .inl (r : Int), .inl z, .inl (k : Int)] [] (I, mm_R0) := by
          intro h
          refine c72 _ _ _ ?_
          simp only [b_X12_isTwoSided_72, i_xorg, i_shl, i_shr, i_ior, i_and1, i_lcg1, i_lcg2, i_ld, i_la, i_st, i_sa, i_c, i_inc, i_add, i_sub, i_mul, i_div, i_rem, i_remT, i_xor, i_dup, i_dup2, i_if, i_if2, i_sw, i_gi, i_gr, i_pi, i_pz, i_ial, i_ias, i_len, i_aal, i_gs, i_tal, i_cv, i_cs, i_ir, i_zr, i_vr, i_min, i_max, i_cpy, List.getElem?_cons_zero, List.getElem?_cons_succ, List.set_cons_zero, List.set_cons_succ, List.length_cons, List.length_nil, List.drop_succ_cons, List.drop_zero, List.take_succ_cons, List.take_zero, List.reverse_cons, List.reverse_nil, List.nil_append, List.cons_append, Option.toList_some, Option.toList_none, true_and, and_true, true_or, or_true, Nat.reduceAdd, Nat.reduceLT, Nat.reduceLeDiff, Option.some.injEq, exists_eq_left', Int.toNat_natCast, Nat.reduceSub, List.append_nil, List.replicate_succ, List.replicate_zero]
          exact f73 0 (bz_0 h)
        refine c5 _ _ _ ?_
        simp only [b_X12_isTwoSided_5, i_xorg, i_shl, i_shr, i_ior, i_and1, i_lcg1, i_lcg2, i_ld, i_la, i_st, i_sa, i_c, i_inc, i_add, i_sub, i_mul, i_div, i_rem, i_remT, i_xor, i_dup, i_dup2, i_if, i_if2, i_sw, i_gi, i_gr, i_pi, i_pz, i_ial, i_ias, i_len, i_aal, i_gs, i_tal, i_cv, i_cs, i_ir, i_zr, i_vr, i_min, i_max, i_cpy, List.getElem?_cons_zero, List.getElem?_cons_succ, List.set_cons_zero, List.set_cons_succ, List.length_cons, List.length_nil, List.drop_succ_cons, List.drop_zero, List.take_succ_cons, List.take_zero, List.reverse_cons, List.reverse_nil, List.nil_append, List.cons_append, Option.toList_some, Option.toList_none, true_and, and_true, true_or, or_true, Nat.reduceAdd, Nat.reduceLT, Nat.reduceLeDiff, Option.some.injEq, exists_eq_left', Int.toNat_natCast, Nat.reduceSub, List.append_nil, List.replicate_succ, List.replicate_zero, mm_in, w0, w1, w2, t0, hn, r7, r8, s8, s9, t2m, t2m1, ek.1, e1.1, e2.1, T_X12_isThere]
        repeat' first | refine And.intro ?_ ?_ | refine fun (_ : _ ≤ _ ∧ _ < _) => ?_
        all_goals try omega
        intro q
        repeat' first | refine And.intro ?_ ?_ | refine fun (_ : _ ≤ _ ∧ _ < _) => ?_
        all_goals try omega
        · intro q2
          exact f72 (fun w => bz_f hz q2 (bs.mp w).1)
        · intro q2
          have hyes := bz_t hz q2
          repeat' first | refine And.intro ?_ ?_ | refine fun (_ : _ ≤ _ ∧ _ < _) => ?_
          all_goals try omega
          · intro q3
            exact f68 (bs.mpr ⟨hyes, fun w => absurd w (by omega)⟩)
          · intro q3
            refine ⟨o, k, rfl, rfl, ho, by omega, fun y hy => ⟨fun q4 => f68 (bs.mpr ⟨hyes, fun _ w => absurd w (bz_f hy q4)⟩), fun q4 => ?_⟩⟩
            repeat' first | refine And.intro ?_ ?_ | refine fun (_ : _ ≤ _ ∧ _ < _) => ?_
            all_goals try omega
            · intro q5
              exact f72 (fun w => (bs.mp w).2 (by omega) (bz_t hy q4) (by omega))
            · intro q5
              exact f68 (bs.mpr ⟨hyes, fun _ _ w => q5 (by omega)⟩)
    refine c0 _ _ _ ?_
    simp only [b_X12_isTwoSided_0, i_xorg, i_shl, i_shr, i_ior, i_and1, i_lcg1, i_lcg2, i_ld, i_la, i_st, i_sa, i_c, i_inc, i_add, i_sub, i_mul, i_div, i_rem, i_remT, i_xor, i_dup, i_dup2, i_if, i_if2, i_sw, i_gi, i_gr, i_pi, i_pz, i_ial, i_ias, i_len, i_aal, i_gs, i_tal, i_cv, i_cs, i_ir, i_zr, i_vr, i_min, i_max, i_cpy, List.getElem?_cons_zero, List.getElem?_cons_succ, List.set_cons_zero, List.set_cons_succ, List.length_cons, List.length_nil, List.drop_succ_cons, List.drop_zero, List.take_succ_cons, List.take_zero, List.reverse_cons, List.reverse_nil, List.nil_append, List.cons_append, Option.toList_some, Option.toList_none, true_and, and_true, true_or, or_true, Nat.reduceAdd, Nat.reduceLT, Nat.reduceLeDiff, Option.some.injEq, exists_eq_left', Int.toNat_natCast, Nat.reduceSub, List.append_nil, List.replicate_succ, List.replicate_zero, mm_in,]
    refine loop (140 * n) 0 1 (by omega) (bz_1 ?_)
    intro j hj
    omega
  · exact hT.elim
theorem sp_X12_isTwoSided : mm_Sp yX12_isTwoSided cX12_isTwoSided 5 (some .boolean) rm_X12_isTwoSided T_X12_isTwoSided := mm_meth (by decide) (by
  intro av σ Post h
  unfold T_X12_isTwoSided at h
  split at h
  · simp
  · exact h.elim) (fun p l e s m args below meth c G av σ Post hC hr _ hav hin hk hT => pv_X12_isTwoSided av σ Post hav hin hk hT _ (bk_X12_isTwoSided hC hr))
def pcnt (nb : Nat → Int) (n : Nat) (L : L2) (fl z : Int) : Prop := ∃ g : Nat → Int, (∀ p, p < 140 * n → bz (g p) (thr nb p ∧ L.1 p = p ∧ (fl = 0 ∨ two nb L p (140 * n)))) ∧ z = sm g (140 * n)
def T_X12_parts : mm_T := fun av σ Post => match av with
  | [.inr (some a), .inl s, .inl fl] => σ.2 = mm_R0 ∧ a = 338 ∧ ∃ o n : Nat, s = o ∧ o ≤ 2888 ∧ gM σ.1 n ∧ b20 (MN σ.1 o) ∧ mtA n (MP σ.1) (MY σ.1) (MN σ.1 o) (4 * n) 0 ∧
    ∀ (I' : Nat → Nat → Int) (z : Int), (∀ b, b < 346 → I' b = σ.1 b) → pcnt (MN σ.1 o) n (joi n (MP σ.1) (MY σ.1) (MN σ.1 o)) fl z → 0 ≤ z ∧ z ≤ 420 → Post (some (.inl z)) (I', mm_R0)
  | _ => False
def rm_X12_parts : Room := { frames := 4, cells := 0, slots := 0, locals := 104 }
def b_X12_parts_0 (Ok : Nat → mm_K) (Post : Option mm_V → mm_S → Prop) (kf : Nat) : mm_K := i_la 0 (i_ld 1 (i_cv 11 1 T_X12_join (i_c 0 (i_st 3 (i_c 0 (i_st 4 (Ok 10)))))))
def b_X12_parts_10 (Ok : Nat → mm_K) (Post : Option mm_V → mm_S → Prop) (kf : Nat) : mm_K := i_ld 4 (i_c 140 (i_la 0 (i_gr 11 0 (i_c 0 (i_ial (i_mul (i_if2 (fun x y => y ≤ x) (i_ld 3 (i_ir Post kf)) (i_ld 3 (i_la 0 (i_ld 1 (i_ld 4 (i_cv 11 2 T_X12_isThere (i_if (fun x => x = 0) (Ok 66) (i_la 0 (i_gr 11 11 (i_ld 4 (i_ial (i_ld 4 (i_if2 (fun x y => ¬ x = y) (Ok 66) (i_ld 2 (i_if (fun x => x = 0) (Ok 62) (i_la 0 (i_ld 1 (i_ld 4 (i_cv 11 2 T_X12_isTwoSided (i_if (fun x => x = 0) (Ok 66) (Ok 62)))))))))))))))))))))))))))
def b_X12_parts_62 (Ok : Nat → mm_K) (Post : Option mm_V → mm_S → Prop) (kf : Nat) : mm_K := i_c 1 (Ok 67)
def b_X12_parts_66 (Ok : Nat → mm_K) (Post : Option mm_V → mm_S → Prop) (kf : Nat) : mm_K := i_c 0 (Ok 67)
def b_X12_parts_67 (Ok : Nat → mm_K) (Post : Option mm_V → mm_S → Prop) (kf : Nat) : mm_K := i_add (i_st 3 (i_inc 4 1 (Ok 10)))
def clo_X12_parts (Ok : Nat → mm_K) (Post : Option mm_V → mm_S → Prop) (kf : Nat) : Prop := mm_imp (b_X12_parts_0 Ok Post kf) (Ok 0) ∧ mm_imp (b_X12_parts_10 Ok Post kf) (Ok 10) ∧ mm_imp (b_X12_parts_62 Ok Post kf) (Ok 62) ∧ mm_imp (b_X12_parts_66 Ok Post kf) (Ok 66) ∧ mm_imp (b_X12_parts_67 Ok Post kf) (Ok 67)
set_option maxRecDepth 100000 in
set_option maxHeartbeats 4000000 in
theorem bk_X12_parts {p : Program} {l : Launch} {e : Env} {s : State} {m : MethodId} {args : Array Value} {below : List Frame} {meth : Method} {c : Code} {G : mm_G} {σ0 : mm_S} {Post : Option mm_V → mm_S → Prop} (hC : mm_C p G s m args meth c cX12_parts yX12_parts.cls) (hr : meth.sig.returnType = some .int) : clo_X12_parts (mm_O p l e rm_X12_parts s m args below meth c G σ0.2.2 (MQ below (mm_Qc G σ0 rm_X12_parts.cells rm_X12_parts.slots Post) args s rm_X12_parts.cells rm_X12_parts.slots (mm_A G))) Post σ0.2.2 := ⟨(by unfold b_X12_parts_0; exact (mm_la_n hC dX12_parts_0 rfl (mm_ld_n hC dX12_parts_1 rfl (mm_cv hC sp_X12_join ⟨rfl, rfl⟩ cl_11 wd_905 wd_907 wd_35 wd_908 wd_77 ⟨by decide, by decide, by decide +kernel⟩ ⟨by decide, by decide⟩ dX12_parts_2 (mm_ic hC dX12_parts_5 ⟨by decide, by decide⟩ (mm_st_n hC dX12_parts_6 rfl (mm_ic hC dX12_parts_7 ⟨by decide, by decide⟩ (mm_st hC dX12_parts_8 (fun _ _ _ h => h))))))))), (by unfold b_X12_parts_10; exact (mm_ld hC dX12_parts_10 (mm_sp hC dX12_parts_12 ⟨⟨by decide, by decide⟩, by decide⟩ (mm_la_n hC dX12_parts_15 rfl (mm_gr hC cl_11 (by decide) rfl wd_789 dX12_parts_16 (mm_ic hC dX12_parts_19 ⟨by decide, by decide⟩ (mm_ial hC dX12_parts_20 (mm_mul hC dX12_parts_21 (mm_ic_ge hC (t := 75) dX12_parts_22 (by decide) (mm_ld_n hC dX12_parts_75 rfl (mm_ir hC ⟨rfl, rfl⟩ hr dX12_parts_76)) (mm_ld_n hC dX12_parts_25 rfl (mm_la_n hC dX12_parts_26 rfl (mm_ld_n hC dX12_parts_27 rfl (mm_ld hC dX12_parts_28 (mm_cv hC sp_X12_isThere ⟨rfl, rfl⟩ cl_11 wd_930 wd_932 wd_39 wd_933 wd_77 ⟨by decide, by decide, by decide +kernel⟩ ⟨by decide, by decide⟩ dX12_parts_30 (mm_if_eq hC (t := 66) dX12_parts_33 (by decide) (fun _ _ _ h => h) (mm_la_n hC dX12_parts_36 rfl (mm_gr hC cl_11 (by decide) rfl wd_800 dX12_parts_37 (mm_ld hC dX12_parts_40 (mm_ial hC dX12_parts_42 (mm_ld hC dX12_parts_43 (mm_ic_ne hC (t := 66) dX12_parts_45 (by decide) (fun _ _ _ h => h) (mm_ld_n hC dX12_parts_48 rfl (mm_if_eq hC (t := 62) dX12_parts_49 (by decide) (fun _ _ _ h => h) (mm_la_n hC dX12_parts_52 rfl (mm_ld_n hC dX12_parts_53 rfl (mm_ld hC dX12_parts_54 (mm_cv hC sp_X12_isTwoSided ⟨rfl, rfl⟩ cl_11 wd_934 wd_936 wd_40 wd_937 wd_77 ⟨by decide, by decide, by decide +kernel⟩ ⟨by decide, by decide⟩ dX12_parts_56 (mm_if_eq hC (t := 66) dX12_parts_59 (by decide) (fun _ _ _ h => h) (fun _ _ _ h => h))))))))))))))))))))))))))))), (by unfold b_X12_parts_62; exact (mm_ic hC dX12_parts_62 ⟨by decide, by decide⟩ (mm_goto hC (t := 67) dX12_parts_63 (by decide) (fun _ _ _ h => h)))), (by unfold b_X12_parts_66; exact (mm_ic hC dX12_parts_66 ⟨by decide, by decide⟩ (fun _ _ _ h => h))), (by unfold b_X12_parts_67; exact (mm_add hC dX12_parts_67 (mm_st_n hC dX12_parts_68 rfl (mm_inc hC dX12_parts_69 (mm_goto hC (t := 10) dX12_parts_72 (by decide) (fun _ _ _ h => h))))))⟩
set_option maxRecDepth 100000 in
set_option maxHeartbeats 8000000 in
theorem pv_X12_parts : ∀ (av : List mm_V) (σ : mm_S) (Post : Option mm_V → mm_S → Prop), (∀ v ∈ av, mm_iv v) → (∀ a j, mm_in (σ.1 a j)) → σ.2.2 ≤ 348 → T_X12_parts av σ Post → ∀ Ok : Nat → mm_K, clo_X12_parts Ok Post σ.2.2 → Ok 0 (av ++ List.replicate (5 - av.length) (.inr none)) [] σ := by
  intro av σ Post hav hin hk hT Ok hcl
  obtain ⟨I, R0⟩ := σ
  unfold T_X12_parts at hT
  split at hT
  · rename_i a s fl
    obtain ⟨h0, hT⟩ := hT
    have h0 : R0 = mm_R0 := h0
    subst h0
    dsimp only at hT hin
    obtain ⟨c0, c10, c62, c66, c67⟩ := hcl
    obtain ⟨rfl, o, n, rfl, ho, hgm, hb, hmt, hP⟩ := hT
    have w0 := m0
    have w1 := m1
    have w2 := m2
    have r7 := Rs_338.2.2.2.2.2.2.2.1
    have s8 := sh_338.2.2.2.2.2.2.2.2.1
    refine c0 _ _ _ ?_
    simp only [b_X12_parts_0, i_xorg, i_shl, i_shr, i_ior, i_and1, i_lcg1, i_lcg2, i_ld, i_la, i_st, i_sa, i_c, i_inc, i_add, i_sub, i_mul, i_div, i_rem, i_remT, i_xor, i_dup, i_dup2, i_if, i_if2, i_sw, i_gi, i_gr, i_pi, i_pz, i_ial, i_ias, i_len, i_aal, i_gs, i_tal, i_cv, i_cs, i_ir, i_zr, i_vr, i_min, i_max, i_cpy, List.getElem?_cons_zero, List.getElem?_cons_succ, List.set_cons_zero, List.set_cons_succ, List.length_cons, List.length_nil, List.drop_succ_cons, List.drop_zero, List.take_succ_cons, List.take_zero, List.reverse_cons, List.reverse_nil, List.nil_append, List.cons_append, Option.toList_some, Option.toList_none, true_and, and_true, true_or, or_true, Nat.reduceAdd, Nat.reduceLT, Nat.reduceLeDiff, Option.some.injEq, exists_eq_left', Int.toNat_natCast, Nat.reduceSub, List.append_nil, List.replicate_succ, List.replicate_zero, mm_in, w0, T_X12_join]
    refine ⟨o, n, rfl, ho, hgm, hb, hmt, fun I1 f1 hag => ?_⟩
    obtain ⟨gm1, eP, eY, eN⟩ := gM_fr hgm (f1 339 (by omega))
    have hn := gm1.1
    have hn3 := gm1.2.2.1
    obtain ⟨L, hL⟩ : ∃ L, joi n (MP I) (MY I) (MN I o) = L := ⟨_, rfl⟩
    rw [hL] at hag hP
    rw [← eN] at hP
    obtain ⟨g1, g2⟩ := id hag
    have loop : ∀ (d e : Nat) (g : Nat → Int), e + d = 140 * n → (∀ k, k < e → bz (g k) (thr (MN I1 o) k ∧ L.1 k = k ∧ (fl = 0 ∨ two (MN I1 o) L k (140 * n)))) → Ok 10 [.inr (some 338), .inl (o : Int), .inl fl, .inl (sm g e), .inl (e : Int)] [] (I1, mm_R0) := by
      intro d
      induction d with
      | zero =>
        intro e g hd hgs
        have sb := sm_bd (f := g) (c := 1) e (fun k hk => bz_01 (hgs k hk))
        refine c10 _ _ _ ?_
        simp only [b_X12_parts_10, i_xorg, i_shl, i_shr, i_ior, i_and1, i_lcg1, i_lcg2, i_ld, i_la, i_st, i_sa, i_c, i_inc, i_add, i_sub, i_mul, i_div, i_rem, i_remT, i_xor, i_dup, i_dup2, i_if, i_if2, i_sw, i_gi, i_gr, i_pi, i_pz, i_ial, i_ias, i_len, i_aal, i_gs, i_tal, i_cv, i_cs, i_ir, i_zr, i_vr, i_min, i_max, i_cpy, List.getElem?_cons_zero, List.getElem?_cons_succ, List.set_cons_zero, List.set_cons_succ, List.length_cons, List.length_nil, List.drop_succ_cons, List.drop_zero, List.take_succ_cons, List.take_zero, List.reverse_cons, List.reverse_nil, List.nil_append, List.cons_append, Option.toList_some, Option.toList_none, true_and, and_true, true_or, or_true, Nat.reduceAdd, Nat.reduceLT, Nat.reduceLeDiff, Option.some.injEq, exists_eq_left', Int.toNat_natCast, Nat.reduceSub, List.append_nil, List.replicate_succ, List.replicate_zero, mm_in, w0, w1, w2, t0, hn]
        rw [show e = 140 * n by omega] at hgs sb ⊢
        repeat' first | refine And.intro ?_ ?_ | refine fun (_ : _ ≤ _ ∧ _ < _) => ?_
        all_goals try omega
        exact fun _ => hP I1 _ f1 ⟨g, hgs, rfl⟩ (by omega)
      | succ d ih =>
        intro e g hd hgs
        have ek := g1 e (by omega)
        have sb := sm_bd (f := g) (c := 1) e (fun k hk => bz_01 (hgs k hk))
        have f67 : ∀ v : Int, bz v (thr (MN I1 o) e ∧ L.1 e = e ∧ (fl = 0 ∨ two (MN I1 o) L e (140 * n))) → Ok 67 [.inr (some 338), .inl (o : Int), .inl fl, .inl (sm g e), .inl (e : Int)] [.inl v, .inl (sm g e)] (I1, mm_R0) := by
          intro v hv
          have v01 := bz_01 hv
          have := ih (e + 1) (fun k => if k = e then v else g k) (by omega) (fun k hk => ?_)
          · have hs : sm (fun k => if k = e then v else g k) (e + 1) = sm g e + v := by
              show sm _ e + (if e = e then v else g e) = _
              rw [if_pos rfl, sm_congr (g := g) (fun k hk => by rw [if_neg (by omega)])]
            rw [hs, Int.natCast_add] at this
            refine c67 _ _ _ ?_
            simp only [b_X12_parts_67, i_xorg, i_shl, i_shr, i_ior, i_and1, i_lcg1, i_lcg2, i_ld, i_la, i_st, i_sa, i_c, i_inc, i_add, i_sub, i_mul, i_div, i_rem, i_remT, i_xor, i_dup, i_dup2, i_if, i_if2, i_sw, i_gi, i_gr, i_pi, i_pz, i_ial, i_ias, i_len, i_aal, i_gs, i_tal, i_cv, i_cs, i_ir, i_zr, i_vr, i_min, i_max, i_cpy, List.getElem?_cons_zero, List.getElem?_cons_succ, List.set_cons_zero, List.set_cons_succ, List.length_cons, List.length_nil, List.drop_succ_cons, List.drop_zero, List.take_succ_cons, List.take_zero, List.reverse_cons, List.reverse_nil, List.nil_append, List.cons_append, Option.toList_some, Option.toList_none, true_and, and_true, true_or, or_true, Nat.reduceAdd, Nat.reduceLT, Nat.reduceLeDiff, Option.some.injEq, exists_eq_left', Int.toNat_natCast, Nat.reduceSub, List.append_nil, List.replicate_succ, List.replicate_zero, mm_in,]
            repeat' first | refine And.intro ?_ ?_ | refine fun (_ : _ ≤ _ ∧ _ < _) => ?_
            all_goals try omega
          · split
            · rename_i q
              rw [q]
              exact hv
            · exact hgs k (by omega)
        have f66 : ¬ (thr (MN I1 o) e ∧ L.1 e = e ∧ (fl = 0 ∨ two (MN I1 o) L e (140 * n))) → Ok 66 [.inr (some 338), .inl (o : Int), .inl fl, .inl (sm g e), .inl (e : Int)] [.inl (sm g e)] (I1, mm_R0) := by
          intro h
          refine c66 _ _ _ ?_
          simp only [b_X12_parts_66, i_xorg, i_shl, i_shr, i_ior, i_and1, i_lcg1, i_lcg2, i_ld, i_la, i_st, i_sa, i_c, i_inc, i_add, i_sub, i_mul, i_div, i_rem, i_remT, i_xor, i_dup, i_dup2, i_if, i_if2, i_sw, i_gi, i_gr, i_pi, i_pz, i_ial, i_ias, i_len, i_aal, i_gs, i_tal, i_cv, i_cs, i_ir, i_zr, i_vr, i_min, i_max, i_cpy, List.getElem?_cons_zero, List.getElem?_cons_succ, List.set_cons_zero, List.set_cons_succ, List.length_cons, List.length_nil, List.drop_succ_cons, List.drop_zero, List.take_succ_cons, List.take_zero, List.reverse_cons, List.reverse_nil, List.nil_append, List.cons_append, Option.toList_some, Option.toList_none, true_and, and_true, true_or, or_true, Nat.reduceAdd, Nat.reduceLT, Nat.reduceLeDiff, Option.some.injEq, exists_eq_left', Int.toNat_natCast, Nat.reduceSub, List.append_nil, List.replicate_succ, List.replicate_zero]
          exact f67 0 (bz_0 h)
        have f62 : (thr (MN I1 o) e ∧ L.1 e = e ∧ (fl = 0 ∨ two (MN I1 o) L e (140 * n))) → Ok 62 [.inr (some 338), .inl (o : Int), .inl fl, .inl (sm g e), .inl (e : Int)] [.inl (sm g e)] (I1, mm_R0) := by
          intro h
          refine c62 _ _ _ ?_
          simp only [b_X12_parts_62, i_xorg, i_shl, i_shr, i_ior, i_and1, i_lcg1, i_lcg2, i_ld, i_la, i_st, i_sa, i_c, i_inc, i_add, i_sub, i_mul, i_div, i_rem, i_remT, i_xor, i_dup, i_dup2, i_if, i_if2, i_sw, i_gi, i_gr, i_pi, i_pz, i_ial, i_ias, i_len, i_aal, i_gs, i_tal, i_cv, i_cs, i_ir, i_zr, i_vr, i_min, i_max, i_cpy, List.getElem?_cons_zero, List.getElem?_cons_succ, List.set_cons_zero, List.set_cons_succ, List.length_cons, List.length_nil, List.drop_succ_cons, List.drop_zero, List.take_succ_cons, List.take_zero, List.reverse_cons, List.reverse_nil, List.nil_append, List.cons_append, Option.toList_some, Option.toList_none, true_and, and_true, true_or, or_true, Nat.reduceAdd, Nat.reduceLT, Nat.reduceLeDiff, Option.some.injEq, exists_eq_left', Int.toNat_natCast, Nat.reduceSub, List.append_nil, List.replicate_succ, List.replicate_zero]
          exact f67 1 (bz_1 h)
        refine c10 _ _ _ ?_
        simp only [b_X12_parts_10, i_xorg, i_shl, i_shr, i_ior, i_and1, i_lcg1, i_lcg2, i_ld, i_la, i_st, i_sa, i_c, i_inc, i_add, i_sub, i_mul, i_div, i_rem, i_remT, i_xor, i_dup, i_dup2, i_if, i_if2, i_sw, i_gi, i_gr, i_pi, i_pz, i_ial, i_ias, i_len, i_aal, i_gs, i_tal, i_cv, i_cs, i_ir, i_zr, i_vr, i_min, i_max, i_cpy, List.getElem?_cons_zero, List.getElem?_cons_succ, List.set_cons_zero, List.set_cons_succ, List.length_cons, List.length_nil, List.drop_succ_cons, List.drop_zero, List.take_succ_cons, List.take_zero, List.reverse_cons, List.reverse_nil, List.nil_append, List.cons_append, Option.toList_some, Option.toList_none, true_and, and_true, true_or, or_true, Nat.reduceAdd, Nat.reduceLT, Nat.reduceLeDiff, Option.some.injEq, exists_eq_left', Int.toNat_natCast, Nat.reduceSub, List.append_nil, List.replicate_succ, List.replicate_zero, mm_in, w0, w1, w2, t0, hn, r7, s8, ek.1, T_X12_isThere, T_X12_isTwoSided]
        repeat' first | refine And.intro ?_ ?_ | refine fun (_ : _ ≤ _ ∧ _ < _) => ?_
        all_goals try omega
        intro q
        refine ⟨o, e, rfl, rfl, ho, by omega, fun y hy => ⟨fun q2 => f66 (fun w => bz_f hy q2 w.1), fun q2 => ?_⟩⟩
        have h1 := bz_t hy q2
        repeat' first | refine And.intro ?_ ?_ | refine fun (_ : _ ≤ _ ∧ _ < _) => ?_
        all_goals try omega
        · intro q3
          exact f66 (fun w => q3 (by omega))
        · intro q3
          have h2 : L.1 e = e := by omega
          repeat' first | refine And.intro ?_ ?_ | refine fun (_ : _ ≤ _ ∧ _ < _) => ?_
          all_goals try omega
          · intro q4
            exact f62 ⟨h1, h2, Or.inl q4⟩
          · intro q4
            refine ⟨o, e, n, L, rfl, rfl, ho, by omega, rfl, hn3, hag, fun y2 hy2 => ⟨fun q5 => f66 (fun w => ?_), fun q5 => f62 ⟨h1, h2, Or.inr (bz_t hy2 q5)⟩⟩⟩
            rcases w.2.2 with w | w
            · exact q4 w
            · exact bz_f hy2 q5 w
    exact loop (140 * n) 0 (fun _ => 0) (by omega) (fun k hk => by omega)
  · exact hT.elim
theorem sp_X12_parts : mm_Sp yX12_parts cX12_parts 5 (some .int) rm_X12_parts T_X12_parts := mm_meth (by decide) (by
  intro av σ Post h
  unfold T_X12_parts at h
  split at h
  · simp
  · exact h.elim) (fun p l e s m args below meth c G av σ Post hC hr _ hav hin hk hT => pv_X12_parts av σ Post hav hin hk hT _ (bk_X12_parts hC hr))
