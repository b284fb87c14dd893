/-! the other program: bent edges, arcs, weights
-/
def bent (L : LT) (n e : Nat) (m : Nat) : Prop := ∃ k, k < m ∧ L.2.1 k = L.2.1 e ∧ L.2.2 (2 * k) = L.2.2 (2 * k + 1)
theorem t2m (j : Nat) : (2 * (j : Int)).toNat = 2 * j := by omega
theorem t2m1 (j : Nat) : (2 * (j : Int) + 1).toNat = 2 * j + 1 := by omega
def T_X12_isBent : mm_T := fun av σ Post => match av with
  | [.inr (some a), .inl x] => σ.2 = mm_R0 ∧ a = 338 ∧ ∃ (e n : Nat) (L : LT), x = e ∧ σ.1 339 0 = n ∧ n ≤ 3 ∧ e < 6 * n ∧ agM σ.1 L ∧ ∀ z : Int, bz z (bent L n e (6 * n)) → Post (some (.inl z)) σ
  | _ => False
def rm_X12_isBent : Room := { frames := 0, cells := 0, slots := 0, locals := 0 }
def b_X12_isBent_0 (Ok : Nat → mm_K) (Post : Option mm_V → mm_S → Prop) (kf : Nat) : mm_K := i_c 0 (i_st 2 (i_c 0 (i_st 3 (Ok 4))))
def b_X12_isBent_4 (Ok : Nat → mm_K) (Post : Option mm_V → mm_S → Prop) (kf : Nat) : mm_K := i_ld 3 (i_c 6 (i_la 0 (i_gr 11 0 (i_c 0 (i_ial (i_mul (i_if2 (fun x y => y ≤ x) (i_ld 2 (i_zr Post kf)) (i_ld 2 (i_if (fun x => ¬ x = 0) (Ok 57) (i_la 0 (i_gr 11 9 (i_ld 3 (i_ial (i_la 0 (i_gr 11 9 (i_ld 1 (i_ial (i_if2 (fun x y => ¬ x = y) (Ok 61) (i_la 0 (i_gr 11 10 (i_c 2 (i_ld 3 (i_mul (i_ial (i_la 0 (i_gr 11 10 (i_c 2 (i_ld 3 (i_mul (i_c 1 (i_add (i_ial (i_if2 (fun x y => ¬ x = y) (Ok 61) (Ok 57))))))))))))))))))))))))))))))))))
def b_X12_isBent_57 (Ok : Nat → mm_K) (Post : Option mm_V → mm_S → Prop) (kf : Nat) : mm_K := i_c 1 (Ok 62)
def b_X12_isBent_61 (Ok : Nat → mm_K) (Post : Option mm_V → mm_S → Prop) (kf : Nat) : mm_K := i_c 0 (Ok 62)
def b_X12_isBent_62 (Ok : Nat → mm_K) (Post : Option mm_V → mm_S → Prop) (kf : Nat) : mm_K := i_st 2 (i_inc 3 1 (Ok 4))
def clo_X12_isBent (Ok : Nat → mm_K) (Post : Option mm_V → mm_S → Prop) (kf : Nat) : Prop := mm_imp (b_X12_isBent_0 Ok Post kf) (Ok 0) ∧ mm_imp (b_X12_isBent_4 Ok Post kf) (Ok 4) ∧ mm_imp (b_X12_isBent_57 Ok Post kf) (Ok 57) ∧ mm_imp (b_X12_isBent_61 Ok Post kf) (Ok 61) ∧ mm_imp (b_X12_isBent_62 Ok Post kf) (Ok 62)
set_option maxRecDepth 100000 in
set_option maxHeartbeats 4000000 in
theorem bk_X12_isBent {p : Program} {l : Launch} {e : Env} {s : State} {m : MethodId} {args : Array Value} {below : List Frame} {meth : Method} {c : Code} {G : mm_G} {σ0 : mm_S} {Post : Option mm_V → mm_S → Prop} (hC : mm_C p G s m args meth c cX12_isBent yX12_isBent.cls) (hr : meth.sig.returnType = some .boolean) : clo_X12_isBent (mm_O p l e rm_X12_isBent s m args below meth c G σ0.2.2 (MQ below (mm_Qc G σ0 rm_X12_isBent.cells rm_X12_isBent.slots Post) args s rm_X12_isBent.cells rm_X12_isBent.slots (mm_A G))) Post σ0.2.2 := ⟨(by unfold b_X12_isBent_0; exact (mm_ic hC dX12_isBent_0 ⟨by decide, by decide⟩ (mm_st_n hC dX12_isBent_1 rfl (mm_ic hC dX12_isBent_2 ⟨by decide, by decide⟩ (mm_st_n hC dX12_isBent_3 rfl (fun _ _ _ h => h)))))), (by unfold b_X12_isBent_4; exact (mm_ld_n hC dX12_isBent_4 rfl (mm_bp hC dX12_isBent_5 ⟨⟨by decide, by decide⟩, by decide⟩ (mm_la_n hC dX12_isBent_7 rfl (mm_gr hC cl_11 (by decide) rfl wd_789 dX12_isBent_8 (mm_ic hC dX12_isBent_11 ⟨by decide, by decide⟩ (mm_ial hC dX12_isBent_12 (mm_mul hC dX12_isBent_13 (mm_ic_ge hC (t := 69) dX12_isBent_14 (by decide) (mm_ld_n hC dX12_isBent_69 rfl (mm_zr hC ⟨rfl, rfl⟩ hr dX12_isBent_70)) (mm_ld_n hC dX12_isBent_17 rfl (mm_if_ne hC (t := 57) dX12_isBent_18 (by decide) (fun _ _ _ h => h) (mm_la_n hC dX12_isBent_21 rfl (mm_gr hC cl_11 (by decide) rfl wd_798 dX12_isBent_22 (mm_ld_n hC dX12_isBent_25 rfl (mm_ial hC dX12_isBent_26 (mm_la_n hC dX12_isBent_27 rfl (mm_gr hC cl_11 (by decide) rfl wd_798 dX12_isBent_28 (mm_ld_n hC dX12_isBent_31 rfl (mm_ial hC dX12_isBent_32 (mm_ic_ne hC (t := 61) dX12_isBent_33 (by decide) (fun _ _ _ h => h) (mm_la_n hC dX12_isBent_36 rfl (mm_gr hC cl_11 (by decide) rfl wd_799 dX12_isBent_37 (mm_ic hC dX12_isBent_40 ⟨by decide, by decide⟩ (mm_ld_n hC dX12_isBent_41 rfl (mm_mul hC dX12_isBent_42 (mm_ial hC dX12_isBent_43 (mm_la_n hC dX12_isBent_44 rfl (mm_gr hC cl_11 (by decide) rfl wd_799 dX12_isBent_45 (mm_ic hC dX12_isBent_48 ⟨by decide, by decide⟩ (mm_ld_n hC dX12_isBent_49 rfl (mm_mul hC dX12_isBent_50 (mm_ic hC dX12_isBent_51 ⟨by decide, by decide⟩ (mm_add hC dX12_isBent_52 (mm_ial hC dX12_isBent_53 (mm_ic_ne hC (t := 61) dX12_isBent_54 (by decide) (fun _ _ _ h => h) (fun _ _ _ h => h)))))))))))))))))))))))))))))))))))), (by unfold b_X12_isBent_57; exact (mm_ic hC dX12_isBent_57 ⟨by decide, by decide⟩ (mm_goto hC (t := 62) dX12_isBent_58 (by decide) (fun _ _ _ h => h)))), (by unfold b_X12_isBent_61; exact (mm_ic hC dX12_isBent_61 ⟨by decide, by decide⟩ (fun _ _ _ h => h))), (by unfold b_X12_isBent_62; exact (mm_st_n hC dX12_isBent_62 rfl (mm_inc hC dX12_isBent_63 (mm_goto hC (t := 4) dX12_isBent_66 (by decide) (fun _ _ _ h => h)))))⟩
set_option maxRecDepth 100000 in
set_option maxHeartbeats 8000000 in
theorem pv_X12_isBent : ∀ (av : List mm_V) (σ : mm_S) (Post : Option mm_V → mm_S → Prop), (∀ v ∈ av, mm_iv v) → (∀ a j, mm_in (σ.1 a j)) → σ.2.2 ≤ 348 → T_X12_isBent av σ Post → ∀ Ok : Nat → mm_K, clo_X12_isBent Ok Post σ.2.2 → Ok 0 (av ++ List.replicate (4 - av.length) (.inr none)) [] σ := by
  intro av σ Post hav hin hk hT Ok hcl
  obtain ⟨I, R0⟩ := σ
  unfold T_X12_isBent at hT
  split at hT
  · rename_i a x
    obtain ⟨h0, hT⟩ := hT
    have h0 : R0 = mm_R0 := h0
    subst h0
    dsimp only at hT hin
    obtain ⟨c0, c4, c57, c61, c62⟩ := hcl
    obtain ⟨rfl, e, n, L, rfl, hn, hn3, he, ⟨g1, g2, g3⟩, hP⟩ := hT
    have w0 := m0
    have w2 := m2
    obtain ⟨r0, r1, r2, r3, r4, r5, r6, r7, r8⟩ := Rs_338
    obtain ⟨s0, s1, s2, s3, s4, s5, s6, s7, s8, s9⟩ := sh_338
    have ee := g2 e (by omega)
    have loop : ∀ (d k : Nat) (z : Int), k + d = 6 * n → bz z (bent L n e k) → Ok 4 [.inr (some 338), .inl (e : Int), .inl z, .inl (k : Int)] [] (I, mm_R0) := by
      intro d
      induction d with
      | zero =>
        intro k z hd hz
        refine c4 _ _ _ ?_
        simp only [b_X12_isBent_4, i_xorg, i_shl, i_shr, i_ior, i_and1, i_lcg1, i_lcg2, i_ld, i_la, i_st, i_sa, i_c, i_inc, i_add, i_sub, i_mul, i_div, i_rem, i_remT, i_xor, i_dup, i_dup2, i_if, i_if2, i_sw, i_gi, i_gr, i_pi, i_pz, i_ial, i_ias, i_len, i_aal, i_gs, i_tal, i_cv, i_cs, i_ir, i_zr, i_vr, i_min, i_max, i_cpy, List.getElem?_cons_zero, List.getElem?_cons_succ, List.set_cons_zero, List.set_cons_succ, List.length_cons, List.length_nil, List.drop_succ_cons, List.drop_zero, List.take_succ_cons, List.take_zero, List.reverse_cons, List.reverse_nil, List.nil_append, List.cons_append, Option.toList_some, Option.toList_none, true_and, and_true, true_or, or_true, Nat.reduceAdd, Nat.reduceLT, Nat.reduceLeDiff, Option.some.injEq, exists_eq_left', Int.toNat_natCast, Nat.reduceSub, List.append_nil, List.replicate_succ, List.replicate_zero, mm_in, w0, r0, w2, t0, hn]
        rw [show k = 6 * n by omega] at hz ⊢
        have hz1 : z = 0 ∨ z = 1 := by rcases hz with q | q <;> omega
        repeat' first | refine And.intro ?_ ?_ | refine fun (_ : _ ≤ _ ∧ _ < _) => ?_
        all_goals try omega
        · intro _
          exact ⟨hz1, hP z hz⟩
      | succ d ih =>
        intro k z hd hz
        have ek := g2 k (by omega)
        have e1 := g3 (2 * k) (by omega)
        have e2 := g3 (2 * k + 1) (by omega)
        have bs : bent L n e (k + 1) ↔ bent L n e k ∨ (L.2.1 k = L.2.1 e ∧ L.2.2 (2 * k) = L.2.2 (2 * k + 1)) := by
          constructor
          · rintro ⟨j, h1, h2⟩
            by_cases q : j = k
            · subst q
              exact Or.inr h2
            · exact Or.inl ⟨j, by omega, h2⟩
          · rintro (⟨j, h1, h2⟩ | h)
            · exact ⟨j, by omega, h2⟩
            · exact ⟨k, by omega, h⟩
        have f62 : ∀ v : Int, bz v (bent L n e (k + 1)) → Ok 62 [.inr (some 338), .inl (e : Int), .inl z, .inl (k : Int)] [.inl v] (I, mm_R0) := by
          intro v hv
          have := ih (k + 1) v (by omega) hv
          rw [Int.natCast_add] at this
          refine c62 _ _ _ ?_
          simp only [b_X12_isBent_62, i_xorg, i_shl, i_shr, i_ior, i_and1, i_lcg1, i_lcg2, i_ld, i_la, i_st, i_sa, i_c, i_inc, i_add, i_sub, i_mul, i_div, i_rem, i_remT, i_xor, i_dup, i_dup2, i_if, i_if2, i_sw, i_gi, i_gr, i_pi, i_pz, i_ial, i_ias, i_len, i_aal, i_gs, i_tal, i_cv, i_cs, i_ir, i_zr, i_vr, i_min, i_max, i_cpy, List.getElem?_cons_zero, List.getElem?_cons_succ, List.set_cons_zero, List.set_cons_succ, List.length_cons, List.length_nil, List.drop_succ_cons, List.drop_zero, List.take_succ_cons, List.take_zero, List.reverse_cons, List.reverse_nil, List.nil_append, List.cons_append, Option.toList_some, Option.toList_none, true_and, and_true, true_or, or_true, Nat.reduceAdd, Nat.reduceLT, Nat.reduceLeDiff, Option.some.injEq, exists_eq_left', Int.toNat_natCast, Nat.reduceSub, List.append_nil, List.replicate_succ, List.replicate_zero, mm_in,]
          repeat' first | refine And.intro ?_ ?_ | refine fun (_ : _ ≤ _ ∧ _ < _) => ?_
          all_goals try omega
        have f57 : bent L n e (k + 1) → Ok 57 [.inr (some 338), .inl (e : Int), .inl z, .inl (k : Int)] [] (I, mm_R0) := by
          intro h
          refine c57 _ _ _ ?_
          simp only [b_X12_isBent_57, i_xorg, i_shl, i_shr, i_ior, i_and1, i_lcg1, i_lcg2, i_ld, i_la, i_st, i_sa, i_c, i_inc, i_add, i_sub, i_mul, i_div, i_rem, i_remT, i_xor, i_dup, i_dup2, i_if, i_if2, i_sw, i_gi, i_gr, i_pi, i_pz, i_ial, i_ias, i_len, i_aal, i_gs, i_tal, i_cv, i_cs, i_ir, i_zr, i_vr, i_min, i_max, i_cpy, List.getElem?_cons_zero, List.getElem?_cons_succ, List.set_cons_zero, List.set_cons_succ, List.length_cons, List.length_nil, List.drop_succ_cons, List.drop_zero, List.take_succ_cons, List.take_zero, List.reverse_cons, List.reverse_nil, List.nil_append, List.cons_append, Option.toList_some, Option.toList_none, true_and, and_true, true_or, or_true, Nat.reduceAdd, Nat.reduceLT, Nat.reduceLeDiff, Option.some.injEq, exists_eq_left', Int.toNat_natCast, Nat.reduceSub, List.append_nil, List.replicate_succ, List.replicate_zero]
          exact f62 1 (bz_1 h)
        have f61 : ¬ bent L n e (k + 1) → Ok 61 [.inr (some 338), .inl (e : Int), .inl z, .inl (k : Int)] [] (I, mm_R0) := by
          intro h
          refine c61 _ _ _ ?_
          simp only [b_X12_isBent_61, i_xorg, i_shl, i_shr, i_ior, i_and1, i_lcg1, i_lcg2, i_ld, i_la, i_st, i_sa, i_c, i_inc, i_add, i_sub, i_mul, i_div, i_rem, i_remT, i_xor, i_dup, i_dup2, i_if, i_if2, i_sw, i_gi, i_gr, i_pi, i_pz, i_ial, i_ias, i_len, i_aal, i_gs, i_tal, i_cv, i_cs, i_ir, i_zr, i_vr, i_min, i_max, i_cpy, List.getElem?_cons_zero, List.getElem?_cons_succ, List.set_cons_zero, List.set_cons_succ, List.length_cons, List.length_nil, List.drop_succ_cons, List.drop_zero, List.take_succ_cons, List.take_zero, List.reverse_cons, List.reverse_nil, List.nil_append, List.cons_append, Option.toList_some, Option.toList_none, true_and, and_true, true_or, or_true, Nat.reduceAdd, Nat.reduceLT, Nat.reduceLeDiff, Option.some.injEq, exists_eq_left', Int.toNat_natCast, Nat.reduceSub, List.append_nil, List.replicate_succ, List.replicate_zero]
          exact f62 0 (bz_0 h)
        refine c4 _ _ _ ?_
        simp only [b_X12_isBent_4, i_xorg, i_shl, i_shr, i_ior, i_and1, i_lcg1, i_lcg2, i_ld, i_la, i_st, i_sa, i_c, i_inc, i_add, i_sub, i_mul, i_div, i_rem, i_remT, i_xor, i_dup, i_dup2, i_if, i_if2, i_sw, i_gi, i_gr, i_pi, i_pz, i_ial, i_ias, i_len, i_aal, i_gs, i_tal, i_cv, i_cs, i_ir, i_zr, i_vr, i_min, i_max, i_cpy, List.getElem?_cons_zero, List.getElem?_cons_succ, List.set_cons_zero, List.set_cons_succ, List.length_cons, List.length_nil, List.drop_succ_cons, List.drop_zero, List.take_succ_cons, List.take_zero, List.reverse_cons, List.reverse_nil, List.nil_append, List.cons_append, Option.toList_some, Option.toList_none, true_and, and_true, true_or, or_true, Nat.reduceAdd, Nat.reduceLT, Nat.reduceLeDiff, Option.some.injEq, exists_eq_left', Int.toNat_natCast, Nat.reduceSub, List.append_nil, List.replicate_succ, List.replicate_zero, mm_in, w0, r0, w2, t0, hn, r5, r6, s6, s7, t2m, t2m1, ek.1, ee.1, e1.1, e2.1]
        repeat' first | refine And.intro ?_ ?_ | refine fun (_ : _ ≤ _ ∧ _ < _) => ?_
        all_goals try omega
        · intro q
          repeat' first | refine And.intro ?_ ?_ | refine fun (_ : _ ≤ _ ∧ _ < _) => ?_
          all_goals try omega
          · intro q2
            exact f57 (bs.mpr (Or.inl (bz_t hz q2)))
          · intro q2
            have hno := bz_f hz (by omega)
            repeat' first | refine And.intro ?_ ?_ | refine fun (_ : _ ≤ _ ∧ _ < _) => ?_
            all_goals try omega
            · intro q3
              refine f61 (fun w => ?_)
              rcases bs.mp w with w | w
              · exact hno w
              · omega
            · intro q3
              repeat' first | refine And.intro ?_ ?_ | refine fun (_ : _ ≤ _ ∧ _ < _) => ?_
              all_goals try omega
              · intro q4
                refine f61 (fun w => ?_)
                rcases bs.mp w with w | w
                · exact hno w
                · omega
              · intro q4
                exact f57 (bs.mpr (Or.inr ⟨by omega, by omega⟩))
    refine c0 _ _ _ ?_
    simp only [b_X12_isBent_0, i_xorg, i_shl, i_shr, i_ior, i_and1, i_lcg1, i_lcg2, i_ld, i_la, i_st, i_sa, i_c, i_inc, i_add, i_sub, i_mul, i_div, i_rem, i_remT, i_xor, i_dup, i_dup2, i_if, i_if2, i_sw, i_gi, i_gr, i_pi, i_pz, i_ial, i_ias, i_len, i_aal, i_gs, i_tal, i_cv, i_cs, i_ir, i_zr, i_vr, i_min, i_max, i_cpy, List.getElem?_cons_zero, List.getElem?_cons_succ, List.set_cons_zero, List.set_cons_succ, List.length_cons, List.length_nil, List.drop_succ_cons, List.drop_zero, List.take_succ_cons, List.take_zero, List.reverse_cons, List.reverse_nil, List.nil_append, List.cons_append, Option.toList_some, Option.toList_none, true_and, and_true, true_or, or_true, Nat.reduceAdd, Nat.reduceLT, Nat.reduceLeDiff, Option.some.injEq, exists_eq_left', Int.toNat_natCast, Nat.reduceSub, List.append_nil, List.replicate_succ, List.replicate_zero, mm_in,]
    refine loop (6 * n) 0 0 (by omega) (bz_0 ?_)
    rintro ⟨j, h, _⟩
    omega
  · exact hT.elim
theorem sp_X12_isBent : mm_Sp yX12_isBent cX12_isBent 4 (some .boolean) rm_X12_isBent T_X12_isBent := mm_meth (by decide) (by
  intro av σ Post h
  unfold T_X12_isBent at h
  split at h
  · simp
  · exact h.elim) (fun p l e s m args below meth c G av σ Post hC hr _ hav hin hk hT => pv_X12_isBent av σ Post hav hin hk hT _ (bk_X12_isBent hC hr))
def T_X12_aroundOf : mm_T := fun av σ Post => match av with
  | [.inr (some a), .inl x] => σ.2 = mm_R0 ∧ a = 338 ∧ ∃ (e n : Nat) (L : LT), x = e ∧ σ.1 339 0 = n ∧ n ≤ 3 ∧ e < 6 * n ∧ agM σ.1 L ∧ Post (some (.inl (sm (fun k => if L.2.1 k = L.2.1 e then 1 else 0) (6 * n)))) σ
  | _ => False
theorem sm_01 (P : Nat → Prop) [DecidablePred P] (n : Nat) : 0 ≤ sm (fun k => if P k then 1 else 0) n ∧ sm (fun k => if P k then 1 else 0) n ≤ n := by
  induction n with
  | zero => exact ⟨Int.le_refl _, Int.le_refl _⟩
  | succ n ih =>
    show 0 ≤ sm _ n + _ ∧ sm _ n + _ ≤ ((n + 1 : Nat) : Int)
    simp only
    split <;> omega
def rm_X12_aroundOf : Room := { frames := 0, cells := 0, slots := 0, locals := 0 }
def b_X12_aroundOf_0 (Ok : Nat → mm_K) (Post : Option mm_V → mm_S → Prop) (kf : Nat) : mm_K := i_c 0 (i_st 2 (i_c 0 (i_st 3 (Ok 4))))
def b_X12_aroundOf_4 (Ok : Nat → mm_K) (Post : Option mm_V → mm_S → Prop) (kf : Nat) : mm_K := i_ld 3 (i_c 6 (i_la 0 (i_gr 11 0 (i_c 0 (i_ial (i_mul (i_if2 (fun x y => y ≤ x) (i_ld 2 (i_ir Post kf)) (i_ld 2 (i_la 0 (i_gr 11 9 (i_ld 3 (i_ial (i_la 0 (i_gr 11 9 (i_ld 1 (i_ial (i_if2 (fun x y => ¬ x = y) (i_c 0 (Ok 38)) (i_c 1 (Ok 38)))))))))))))))))))
def b_X12_aroundOf_38 (Ok : Nat → mm_K) (Post : Option mm_V → mm_S → Prop) (kf : Nat) : mm_K := i_add (i_st 2 (i_inc 3 1 (Ok 4)))
def clo_X12_aroundOf (Ok : Nat → mm_K) (Post : Option mm_V → mm_S → Prop) (kf : Nat) : Prop := mm_imp (b_X12_aroundOf_0 Ok Post kf) (Ok 0) ∧ mm_imp (b_X12_aroundOf_4 Ok Post kf) (Ok 4) ∧ mm_imp (b_X12_aroundOf_38 Ok Post kf) (Ok 38)
set_option maxRecDepth 100000 in
set_option maxHeartbeats 4000000 in
theorem bk_X12_aroundOf {p : Program} {l : Launch} {e : Env} {s : State} {m : MethodId} {args : Array Value} {below : List Frame} {meth : Method} {c : Code} {G : mm_G} {σ0 : mm_S} {Post : Option mm_V → mm_S → Prop} (hC : mm_C p G s m args meth c cX12_aroundOf yX12_aroundOf.cls) (hr : meth.sig.returnType = some .int) : clo_X12_aroundOf (mm_O p l e rm_X12_aroundOf s m args below meth c G σ0.2.2 (MQ below (mm_Qc G σ0 rm_X12_aroundOf.cells rm_X12_aroundOf.slots Post) args s rm_X12_aroundOf.cells rm_X12_aroundOf.slots (mm_A G))) Post σ0.2.2 := ⟨(by unfold b_X12_aroundOf_0; exact (mm_ic hC dX12_aroundOf_0 ⟨by decide, by decide⟩ (mm_st_n hC dX12_aroundOf_1 rfl (mm_ic hC dX12_aroundOf_2 ⟨by decide, by decide⟩ (mm_st_n hC dX12_aroundOf_3 rfl (fun _ _ _ h => h)))))), (by unfold b_X12_aroundOf_4; exact (mm_ld_n hC dX12_aroundOf_4 rfl (mm_bp hC dX12_aroundOf_5 ⟨⟨by decide, by decide⟩, by decide⟩ (mm_la_n hC dX12_aroundOf_7 rfl (mm_gr hC cl_11 (by decide) rfl wd_789 dX12_aroundOf_8 (mm_ic hC dX12_aroundOf_11 ⟨by decide, by decide⟩ (mm_ial hC dX12_aroundOf_12 (mm_mul hC dX12_aroundOf_13 (mm_ic_ge hC (t := 46) dX12_aroundOf_14 (by decide) (mm_ld_n hC dX12_aroundOf_46 rfl (mm_ir hC ⟨rfl, rfl⟩ hr dX12_aroundOf_47)) (mm_ld_n hC dX12_aroundOf_17 rfl (mm_la_n hC dX12_aroundOf_18 rfl (mm_gr hC cl_11 (by decide) rfl wd_798 dX12_aroundOf_19 (mm_ld_n hC dX12_aroundOf_22 rfl (mm_ial hC dX12_aroundOf_23 (mm_la_n hC dX12_aroundOf_24 rfl (mm_gr hC cl_11 (by decide) rfl wd_798 dX12_aroundOf_25 (mm_ld_n hC dX12_aroundOf_28 rfl (mm_ial hC dX12_aroundOf_29 (mm_ic_ne hC (t := 37) dX12_aroundOf_30 (by decide) (mm_ic hC dX12_aroundOf_37 ⟨by decide, by decide⟩ (fun _ _ _ h => h)) (mm_ic hC dX12_aroundOf_33 ⟨by decide, by decide⟩ (mm_goto hC (t := 38) dX12_aroundOf_34 (by decide) (fun _ _ _ h => h)))))))))))))))))))))), (by unfold b_X12_aroundOf_38; exact (mm_add hC dX12_aroundOf_38 (mm_st_n hC dX12_aroundOf_39 rfl (mm_inc hC dX12_aroundOf_40 (mm_goto hC (t := 4) dX12_aroundOf_43 (by decide) (fun _ _ _ h => h))))))⟩
set_option maxRecDepth 100000 in
set_option maxHeartbeats 8000000 in
theorem pv_X12_aroundOf : ∀ (av : List mm_V) (σ : mm_S) (Post : Option mm_V → mm_S → Prop), (∀ v ∈ av, mm_iv v) → (∀ a j, mm_in (σ.1 a j)) → σ.2.2 ≤ 348 → T_X12_aroundOf av σ Post → ∀ Ok : Nat → mm_K, clo_X12_aroundOf Ok Post σ.2.2 → Ok 0 (av ++ List.replicate (4 - av.length) (.inr none)) [] σ := by
  intro av σ Post hav hin hk hT Ok hcl
  obtain ⟨I, R0⟩ := σ
  unfold T_X12_aroundOf at hT
  split at hT
  · rename_i a x
    obtain ⟨h0, hT⟩ := hT
    have h0 : R0 = mm_R0 := h0
    subst h0
    dsimp only at hT hin
    obtain ⟨c0, c4, c38⟩ := hcl
    obtain ⟨rfl, e, n, L, rfl, hn, hn3, he, ⟨g1, g2, g3⟩, hP⟩ := hT
    have w0 := m0
    have w2 := m2
    obtain ⟨r0, r1, r2, r3, r4, r5, r6, r7, r8⟩ := Rs_338
    obtain ⟨s0, s1, s2, s3, s4, s5, s6, s7, s8, s9⟩ := sh_338
    have ee := g2 e (by omega)
    have loop : ∀ (d k : Nat), k + d = 6 * n → Ok 4 [.inr (some 338), .inl (e : Int), .inl (sm (fun k => if L.2.1 k = L.2.1 e then 1 else 0) k), .inl (k : Int)] [] (I, mm_R0) := by
      intro d
      induction d with
      | zero =>
        intro k hd
        refine c4 _ _ _ ?_
        simp only [b_X12_aroundOf_4, i_xorg, i_shl, i_shr, i_ior, i_and1, i_lcg1, i_lcg2, i_ld, i_la, i_st, i_sa, i_c, i_inc, i_add, i_sub, i_mul, i_div, i_rem, i_remT, i_xor, i_dup, i_dup2, i_if, i_if2, i_sw, i_gi, i_gr, i_pi, i_pz, i_ial, i_ias, i_len, i_aal, i_gs, i_tal, i_cv, i_cs, i_ir, i_zr, i_vr, i_min, i_max, i_cpy, List.getElem?_cons_zero, List.getElem?_cons_succ, List.set_cons_zero, List.set_cons_succ, List.length_cons, List.length_nil, List.drop_succ_cons, List.drop_zero, List.take_succ_cons, List.take_zero, List.reverse_cons, List.reverse_nil, List.nil_append, List.cons_append, Option.toList_some, Option.toList_none, true_and, and_true, true_or, or_true, Nat.reduceAdd, Nat.reduceLT, Nat.reduceLeDiff, Option.some.injEq, exists_eq_left', Int.toNat_natCast, Nat.reduceSub, List.append_nil, List.replicate_succ, List.replicate_zero, mm_in, w0, r0, w2, t0, hn]
        rw [show k = 6 * n by omega]
        repeat' first | refine And.intro ?_ ?_ | refine fun (_ : _ ≤ _ ∧ _ < _) => ?_
        all_goals try omega
        · intro _
          exact hP
      | succ d ih =>
        intro k hd
        have ek := g2 k (by omega)
        have hb := sm_01 (fun k => L.2.1 k = L.2.1 e) k
        have hb2 := sm_01 (fun k => L.2.1 k = L.2.1 e) (k + 1)
        have f38 : ∀ v : Int, v = (if L.2.1 k = L.2.1 e then 1 else 0) → Ok 38 [.inr (some 338), .inl (e : Int), .inl (sm (fun k => if L.2.1 k = L.2.1 e then 1 else 0) k), .inl (k : Int)] [.inl v, .inl (sm (fun k => if L.2.1 k = L.2.1 e then 1 else 0) k)] (I, mm_R0) := by
          intro v hv
          have hs : sm (fun k => if L.2.1 k = L.2.1 e then 1 else 0) (k + 1) = sm (fun k => if L.2.1 k = L.2.1 e then 1 else 0) k + v := by rw [hv]; rfl
          have := ih (k + 1) (by omega)
          rw [hs] at this hb2
          rw [Int.natCast_add] at this
          refine c38 _ _ _ ?_
          simp only [b_X12_aroundOf_38, i_xorg, i_shl, i_shr, i_ior, i_and1, i_lcg1, i_lcg2, i_ld, i_la, i_st, i_sa, i_c, i_inc, i_add, i_sub, i_mul, i_div, i_rem, i_remT, i_xor, i_dup, i_dup2, i_if, i_if2, i_sw, i_gi, i_gr, i_pi, i_pz, i_ial, i_ias, i_len, i_aal, i_gs, i_tal, i_cv, i_cs, i_ir, i_zr, i_vr, i_min, i_max, i_cpy, List.getElem?_cons_zero, List.getElem?_cons_succ, List.set_cons_zero, List.set_cons_succ, List.length_cons, List.length_nil, List.drop_succ_cons, List.drop_zero, List.take_succ_cons, List.take_zero, List.reverse_cons, List.reverse_nil, List.nil_append, List.cons_append, Option.toList_some, Option.toList_none, true_and, and_true, true_or, or_true, Nat.reduceAdd, Nat.reduceLT, Nat.reduceLeDiff, Option.some.injEq, exists_eq_left', Int.toNat_natCast, Nat.reduceSub, List.append_nil, List.replicate_succ, List.replicate_zero, mm_in,]
          repeat' first | refine And.intro ?_ ?_ | refine fun (_ : _ ≤ _ ∧ _ < _) => ?_
          all_goals try omega
        refine c4 _ _ _ ?_
        simp only [b_X12_aroundOf_4, i_xorg, i_shl, i_shr, i_ior, i_and1, i_lcg1, i_lcg2, i_ld, i_la, i_st, i_sa, i_c, i_inc, i_add, i_sub, i_mul, i_div, i_rem, i_remT, i_xor, i_dup, i_dup2, i_if, i_if2, i_sw, i_gi, i_gr, i_pi, i_pz, i_ial, i_ias, i_len, i_aal, i_gs, i_tal, i_cv, i_cs, i_ir, i_zr, i_vr, i_min, i_max, i_cpy, List.getElem?_cons_zero, List.getElem?_cons_succ, List.set_cons_zero, List.set_cons_succ, List.length_cons, List.length_nil, List.drop_succ_cons, List.drop_zero, List.take_succ_cons, List.take_zero, List.reverse_cons, List.reverse_nil, List.nil_append, List.cons_append, Option.toList_some, Option.toList_none, true_and, and_true, true_or, or_true, Nat.reduceAdd, Nat.reduceLT, Nat.reduceLeDiff, Option.some.injEq, exists_eq_left', Int.toNat_natCast, Nat.reduceSub, List.append_nil, List.replicate_succ, List.replicate_zero, mm_in, w0, r0, w2, t0, hn, r5, s6, ek.1, ee.1]
        repeat' first | refine And.intro ?_ ?_ | refine fun (_ : _ ≤ _ ∧ _ < _) => ?_
        all_goals try omega
        · intro q
          repeat' first | refine And.intro ?_ ?_ | refine fun (_ : _ ≤ _ ∧ _ < _) => ?_
          all_goals try omega
          · intro q2
            exact f38 0 (by rw [if_neg (by omega)])
          · intro q2
            exact f38 1 (by rw [if_pos (by omega)])
    refine c0 _ _ _ ?_
    simp only [b_X12_aroundOf_0, i_xorg, i_shl, i_shr, i_ior, i_and1, i_lcg1, i_lcg2, i_ld, i_la, i_st, i_sa, i_c, i_inc, i_add, i_sub, i_mul, i_div, i_rem, i_remT, i_xor, i_dup, i_dup2, i_if, i_if2, i_sw, i_gi, i_gr, i_pi, i_pz, i_ial, i_ias, i_len, i_aal, i_gs, i_tal, i_cv, i_cs, i_ir, i_zr, i_vr, i_min, i_max, i_cpy, List.getElem?_cons_zero, List.getElem?_cons_succ, List.set_cons_zero, List.set_cons_succ, List.length_cons, List.length_nil, List.drop_succ_cons, List.drop_zero, List.take_succ_cons, List.take_zero, List.reverse_cons, List.reverse_nil, List.nil_append, List.cons_append, Option.toList_some, Option.toList_none, true_and, and_true, true_or, or_true, Nat.reduceAdd, Nat.reduceLT, Nat.reduceLeDiff, Option.some.injEq, exists_eq_left', Int.toNat_natCast, Nat.reduceSub, List.append_nil, List.replicate_succ, List.replicate_zero, mm_in,]
    exact loop (6 * n) 0 (by omega)
  · exact hT.elim
theorem sp_X12_aroundOf : mm_Sp yX12_aroundOf cX12_aroundOf 4 (some .int) rm_X12_aroundOf T_X12_aroundOf := mm_meth (by decide) (by
  intro av σ Post h
  unfold T_X12_aroundOf at h
  split at h
  · simp
  · exact h.elim) (fun p l e s m args below meth c G av σ Post hC hr _ hav hin hk hT => pv_X12_aroundOf av σ Post hav hin hk hT _ (bk_X12_aroundOf hC hr))
