/-! the other program: crosses, euler, bent edges counted
-/
def T_X12_crosses : mm_T := fun av σ Post => match av with
  | [.inr (some a), .inl s] => σ.2 = mm_R0 ∧ a = 338 ∧ ∃ o n : Nat, s = o ∧ o ≤ 2888 ∧ σ.1 339 0 = n ∧ n ≤ 3 ∧ ∀ z : Int, bz z (crs (MN σ.1 o) n) → Post (some (.inl z)) σ
  | _ => False
theorem us_3 (nb : Nat → Int) (b : Nat) : us nb b = (if 0 < nb (7 * b + 4) then 1 else 0) + (if 0 < nb (7 * b + 5) then 1 else 0) + (if 0 < nb (7 * b + 6) then 1 else 0) := by
  unfold us
  simp only [sm, Int.zero_add]
def rm_X12_crosses : Room := { frames := 0, cells := 0, slots := 0, locals := 0 }
def b_X12_crosses_0 (Ok : Nat → mm_K) (Post : Option mm_V → mm_S → Prop) (kf : Nat) : mm_K := i_c 0 (i_st 2 (i_c 0 (i_st 3 (Ok 4))))
def b_X12_crosses_4 (Ok : Nat → mm_K) (Post : Option mm_V → mm_S → Prop) (kf : Nat) : mm_K := i_ld 3 (i_la 0 (i_gr 11 0 (i_c 0 (i_ial (i_if2 (fun x y => y ≤ x) (i_ld 2 (i_zr Post kf)) (i_ld 1 (i_c 7 (i_ld 3 (i_mul (i_add (i_st 4 (i_la 0 (i_gr 11 0 (i_ld 4 (i_c 4 (i_add (i_ial (i_if (fun x => x ≤ 0) (i_c 0 (Ok 39)) (i_c 1 (Ok 39))))))))))))))))))))
def b_X12_crosses_39 (Ok : Nat → mm_K) (Post : Option mm_V → mm_S → Prop) (kf : Nat) : mm_K := i_la 0 (i_gr 11 0 (i_ld 4 (i_c 5 (i_add (i_ial (i_if (fun x => x ≤ 0) (i_c 0 (Ok 56)) (i_c 1 (Ok 56))))))))
def b_X12_crosses_56 (Ok : Nat → mm_K) (Post : Option mm_V → mm_S → Prop) (kf : Nat) : mm_K := i_add (i_la 0 (i_gr 11 0 (i_ld 4 (i_c 6 (i_add (i_ial (i_if (fun x => x ≤ 0) (i_c 0 (Ok 75)) (i_c 1 (Ok 75)))))))))
def b_X12_crosses_75 (Ok : Nat → mm_K) (Post : Option mm_V → mm_S → Prop) (kf : Nat) : mm_K := i_add (i_st 5 (i_ld 2 (i_if (fun x => ¬ x = 0) (Ok 88) (i_ld 5 (i_c 1 (i_if2 (fun x y => x ≤ y) (i_c 0 (Ok 93)) (Ok 88)))))))
def b_X12_crosses_88 (Ok : Nat → mm_K) (Post : Option mm_V → mm_S → Prop) (kf : Nat) : mm_K := i_c 1 (Ok 93)
def b_X12_crosses_93 (Ok : Nat → mm_K) (Post : Option mm_V → mm_S → Prop) (kf : Nat) : mm_K := i_st 2 (i_inc 3 1 (Ok 4))
def clo_X12_crosses (Ok : Nat → mm_K) (Post : Option mm_V → mm_S → Prop) (kf : Nat) : Prop := mm_imp (b_X12_crosses_0 Ok Post kf) (Ok 0) ∧ mm_imp (b_X12_crosses_4 Ok Post kf) (Ok 4) ∧ mm_imp (b_X12_crosses_39 Ok Post kf) (Ok 39) ∧ mm_imp (b_X12_crosses_56 Ok Post kf) (Ok 56) ∧ mm_imp (b_X12_crosses_75 Ok Post kf) (Ok 75) ∧ mm_imp (b_X12_crosses_88 Ok Post kf) (Ok 88) ∧ mm_imp (b_X12_crosses_93 Ok Post kf) (Ok 93)
set_option maxRecDepth 100000 in
set_option maxHeartbeats 4000000 in
theorem bk_X12_crosses {p : Program} {l : Launch} {e : Env} {s : State} {m : MethodId} {args : Array Value} {below : List Frame} {meth : Method} {c : Code} {G : mm_G} {σ0 : mm_S} {Post : Option mm_V → mm_S → Prop} (hC : mm_C p G s m args meth c cX12_crosses yX12_crosses.cls) (hr : meth.sig.returnType = some .boolean) : clo_X12_crosses (mm_O p l e rm_X12_crosses s m args below meth c G σ0.2.2 (MQ below (mm_Qc G σ0 rm_X12_crosses.cells rm_X12_crosses.slots Post) args s rm_X12_crosses.cells rm_X12_crosses.slots (mm_A G))) Post σ0.2.2 := ⟨(by unfold b_X12_crosses_0; exact (mm_ic hC dX12_crosses_0 ⟨by decide, by decide⟩ (mm_st_n hC dX12_crosses_1 rfl (mm_ic hC dX12_crosses_2 ⟨by decide, by decide⟩ (mm_st_n hC dX12_crosses_3 rfl (fun _ _ _ h => h)))))), (by unfold b_X12_crosses_4; exact (mm_ld_n hC dX12_crosses_4 rfl (mm_la_n hC dX12_crosses_5 rfl (mm_gr hC cl_11 (by decide) rfl wd_789 dX12_crosses_6 (mm_ic hC dX12_crosses_9 ⟨by decide, by decide⟩ (mm_ial hC dX12_crosses_10 (mm_ic_ge hC (t := 100) dX12_crosses_11 (by decide) (mm_ld_n hC dX12_crosses_100 rfl (mm_zr hC ⟨rfl, rfl⟩ hr dX12_crosses_101)) (mm_ld_n hC dX12_crosses_14 rfl (mm_bp hC dX12_crosses_15 ⟨⟨by decide, by decide⟩, by decide⟩ (mm_ld_n hC dX12_crosses_17 rfl (mm_mul hC dX12_crosses_18 (mm_add hC dX12_crosses_19 (mm_st hC dX12_crosses_20 (mm_la_n hC dX12_crosses_22 rfl (mm_gr hC cl_11 (by decide) rfl wd_789 dX12_crosses_23 (mm_ld hC dX12_crosses_26 (mm_ic hC dX12_crosses_28 ⟨by decide, by decide⟩ (mm_add hC dX12_crosses_29 (mm_ial hC dX12_crosses_30 (mm_if_le hC (t := 38) dX12_crosses_31 (by decide) (mm_ic hC dX12_crosses_38 ⟨by decide, by decide⟩ (fun _ _ _ h => h)) (mm_ic hC dX12_crosses_34 ⟨by decide, by decide⟩ (mm_goto hC (t := 39) dX12_crosses_35 (by decide) (fun _ _ _ h => h))))))))))))))))))))))), (by unfold b_X12_crosses_39; exact (mm_la_n hC dX12_crosses_39 rfl (mm_gr hC cl_11 (by decide) rfl wd_789 dX12_crosses_40 (mm_ld hC dX12_crosses_43 (mm_ic hC dX12_crosses_45 ⟨by decide, by decide⟩ (mm_add hC dX12_crosses_46 (mm_ial hC dX12_crosses_47 (mm_if_le hC (t := 55) dX12_crosses_48 (by decide) (mm_ic hC dX12_crosses_55 ⟨by decide, by decide⟩ (fun _ _ _ h => h)) (mm_ic hC dX12_crosses_51 ⟨by decide, by decide⟩ (mm_goto hC (t := 56) dX12_crosses_52 (by decide) (fun _ _ _ h => h))))))))))), (by unfold b_X12_crosses_56; exact (mm_add hC dX12_crosses_56 (mm_la_n hC dX12_crosses_57 rfl (mm_gr hC cl_11 (by decide) rfl wd_789 dX12_crosses_58 (mm_ld hC dX12_crosses_61 (mm_bp hC dX12_crosses_63 ⟨⟨by decide, by decide⟩, by decide⟩ (mm_add hC dX12_crosses_65 (mm_ial hC dX12_crosses_66 (mm_if_le hC (t := 74) dX12_crosses_67 (by decide) (mm_ic hC dX12_crosses_74 ⟨by decide, by decide⟩ (fun _ _ _ h => h)) (mm_ic hC dX12_crosses_70 ⟨by decide, by decide⟩ (mm_goto hC (t := 75) dX12_crosses_71 (by decide) (fun _ _ _ h => h)))))))))))), (by unfold b_X12_crosses_75; exact (mm_add hC dX12_crosses_75 (mm_st hC dX12_crosses_76 (mm_ld_n hC dX12_crosses_78 rfl (mm_if_ne hC (t := 88) dX12_crosses_79 (by decide) (fun _ _ _ h => h) (mm_ld hC dX12_crosses_82 (mm_ic hC dX12_crosses_84 ⟨by decide, by decide⟩ (mm_ic_le hC (t := 92) dX12_crosses_85 (by decide) (mm_ic hC dX12_crosses_92 ⟨by decide, by decide⟩ (fun _ _ _ h => h)) (fun _ _ _ h => h))))))))), (by unfold b_X12_crosses_88; exact (mm_ic hC dX12_crosses_88 ⟨by decide, by decide⟩ (mm_goto hC (t := 93) dX12_crosses_89 (by decide) (fun _ _ _ h => h)))), (by unfold b_X12_crosses_93; exact (mm_st_n hC dX12_crosses_93 rfl (mm_inc hC dX12_crosses_94 (mm_goto hC (t := 4) dX12_crosses_97 (by decide) (fun _ _ _ h => h)))))⟩
set_option maxRecDepth 100000 in
set_option maxHeartbeats 8000000 in
theorem pv_X12_crosses : ∀ (av : List mm_V) (σ : mm_S) (Post : Option mm_V → mm_S → Prop), (∀ v ∈ av, mm_iv v) → (∀ a j, mm_in (σ.1 a j)) → σ.2.2 ≤ 348 → T_X12_crosses av σ Post → ∀ Ok : Nat → mm_K, clo_X12_crosses Ok Post σ.2.2 → Ok 0 (av ++ List.replicate (6 - av.length) (.inr none)) [] σ := by
  intro av σ Post hav hin hk hT Ok hcl
  obtain ⟨I, R0⟩ := σ
  unfold T_X12_crosses at hT
  split at hT
  · rename_i a s
    obtain ⟨h0, hT⟩ := hT
    have h0 : R0 = mm_R0 := h0
    subst h0
    dsimp only at hT hin
    obtain ⟨c0, c4, c39, c56, c75, c88, c93⟩ := hcl
    obtain ⟨rfl, o, n, rfl, ho, hn, hn3, hP⟩ := hT
    have w0 := m0
    have w1 := m1
    have w2 := m2
    have loop : ∀ (d b : Nat) (z : Int), b + d = n → bz z (crs (MN I o) b) → ∀ u4 u5 : mm_V, Ok 4 [.inr (some 338), .inl (o : Int), .inl z, .inl (b : Int), u4, u5] [] (I, mm_R0) := by
      intro d
      induction d with
      | zero =>
        intro b z hd hz u4 u5
        have hz1 : z = 0 ∨ z = 1 := by rcases hz with q | q <;> omega
        refine c4 _ _ _ ?_
        simp only [b_X12_crosses_4, i_xorg, i_shl, i_shr, i_ior, i_and1, i_lcg1, i_lcg2, i_ld, i_la, i_st, i_sa, i_c, i_inc, i_add, i_sub, i_mul, i_div, i_rem, i_remT, i_xor, i_dup, i_dup2, i_if, i_if2, i_sw, i_gi, i_gr, i_pi, i_pz, i_ial, i_ias, i_len, i_aal, i_gs, i_tal, i_cv, i_cs, i_ir, i_zr, i_vr, i_min, i_max, i_cpy, List.getElem?_cons_zero, List.getElem?_cons_succ, List.set_cons_zero, List.set_cons_succ, List.length_cons, List.length_nil, List.drop_succ_cons, List.drop_zero, List.take_succ_cons, List.take_zero, List.reverse_cons, List.reverse_nil, List.nil_append, List.cons_append, Option.toList_some, Option.toList_none, true_and, and_true, true_or, or_true, Nat.reduceAdd, Nat.reduceLT, Nat.reduceLeDiff, Option.some.injEq, exists_eq_left', Int.toNat_natCast, Nat.reduceSub, List.append_nil, List.replicate_succ, List.replicate_zero, mm_in, w0, w1, w2, t0, hn]
        rw [show b = n by omega] at hz ⊢
        repeat' first | refine And.intro ?_ ?_ | refine fun (_ : _ ≤ _ ∧ _ < _) => ?_
        all_goals try omega
        exact fun _ => ⟨hz1, hP z hz⟩
      | succ d ih =>
        intro b z hd hz u4 u5
        have i4 : ((o : Int) + 7 * (b : Int) + 4).toNat = o + (7 * b + 4) := by omega
        have i5 : ((o : Int) + 7 * (b : Int) + 5).toNat = o + (7 * b + 5) := by omega
        have i6 : ((o : Int) + 7 * (b : Int) + 6).toNat = o + (7 * b + 6) := by omega
        have cs : crs (MN I o) (b + 1) ↔ crs (MN I o) b ∨ 1 < us (MN I o) b := by
          constructor
          · rintro ⟨j, h1, h2⟩
            by_cases q : j = b
            · subst q
              exact Or.inr h2
            · exact Or.inl ⟨j, by omega, h2⟩
          · rintro (⟨j, h1, h2⟩ | h)
            · exact ⟨j, by omega, h2⟩
            · exact ⟨b, by omega, h⟩
        have hu := us_3 (MN I o) b
        unfold MN at hu
        have f93 : ∀ (v : Int) (u5 : mm_V), bz v (crs (MN I o) (b + 1)) → Ok 93 [.inr (some 338), .inl (o : Int), .inl z, .inl (b : Int), .inl ((o : Int) + 7 * (b : Int)), u5] [.inl v] (I, mm_R0) := by
          intro v u5 hv
          have := ih (b + 1) v (by omega) hv (.inl ((o : Int) + 7 * (b : Int))) u5
          rw [Int.natCast_add] at this
          refine c93 _ _ _ ?_
          simp only [b_X12_crosses_93, i_xorg, i_shl, i_shr, i_ior, i_and1, i_lcg1, i_lcg2, i_ld, i_la, i_st, i_sa, i_c, i_inc, i_add, i_sub, i_mul, i_div, i_rem, i_remT, i_xor, i_dup, i_dup2, i_if, i_if2, i_sw, i_gi, i_gr, i_pi, i_pz, i_ial, i_ias, i_len, i_aal, i_gs, i_tal, i_cv, i_cs, i_ir, i_zr, i_vr, i_min, i_max, i_cpy, List.getElem?_cons_zero, List.getElem?_cons_succ, List.set_cons_zero, List.set_cons_succ, List.length_cons, List.length_nil, List.drop_succ_cons, List.drop_zero, List.take_succ_cons, List.take_zero, List.reverse_cons, List.reverse_nil, List.nil_append, List.cons_append, Option.toList_some, Option.toList_none, true_and, and_true, true_or, or_true, Nat.reduceAdd, Nat.reduceLT, Nat.reduceLeDiff, Option.some.injEq, exists_eq_left', Int.toNat_natCast, Nat.reduceSub, List.append_nil, List.replicate_succ, List.replicate_zero, mm_in,]
          repeat' first | refine And.intro ?_ ?_ | refine fun (_ : _ ≤ _ ∧ _ < _) => ?_
          all_goals try omega
        have f88 : ∀ (u5 : mm_V), crs (MN I o) (b + 1) → Ok 88 [.inr (some 338), .inl (o : Int), .inl z, .inl (b : Int), .inl ((o : Int) + 7 * (b : Int)), u5] [] (I, mm_R0) := by
          intro u5 h
          refine c88 _ _ _ ?_
          simp only [b_X12_crosses_88, i_xorg, i_shl, i_shr, i_ior, i_and1, i_lcg1, i_lcg2, i_ld, i_la, i_st, i_sa, i_c, i_inc, i_add, i_sub, i_mul, i_div, i_rem, i_remT, i_xor, i_dup, i_dup2, i_if, i_if2, i_sw, i_gi, i_gr, i_pi, i_pz, i_ial, i_ias, i_len, i_aal, i_gs, i_tal, i_cv, i_cs, i_ir, i_zr, i_vr, i_min, i_max, i_cpy, List.getElem?_cons_zero, List.getElem?_cons_succ, List.set_cons_zero, List.set_cons_succ, List.length_cons, List.length_nil, List.drop_succ_cons, List.drop_zero, List.take_succ_cons, List.take_zero, List.reverse_cons, List.reverse_nil, List.nil_append, List.cons_append, Option.toList_some, Option.toList_none, true_and, and_true, true_or, or_true, Nat.reduceAdd, Nat.reduceLT, Nat.reduceLeDiff, Option.some.injEq, exists_eq_left', Int.toNat_natCast, Nat.reduceSub, List.append_nil, List.replicate_succ, List.replicate_zero]
          exact f93 1 _ (bz_1 h)
        have f75 : ∀ (x y : Int) (u5 : mm_V), y + x = us (MN I o) b → 0 ≤ x → x ≤ 1 → 0 ≤ y → y ≤ 2 → Ok 75 [.inr (some 338), .inl (o : Int), .inl z, .inl (b : Int), .inl ((o : Int) + 7 * (b : Int)), u5] [.inl x, .inl y] (I, mm_R0) := by
          intro x y u5 hxy x0 x1 y0 y2
          refine c75 _ _ _ ?_
          simp only [b_X12_crosses_75, i_xorg, i_shl, i_shr, i_ior, i_and1, i_lcg1, i_lcg2, i_ld, i_la, i_st, i_sa, i_c, i_inc, i_add, i_sub, i_mul, i_div, i_rem, i_remT, i_xor, i_dup, i_dup2, i_if, i_if2, i_sw, i_gi, i_gr, i_pi, i_pz, i_ial, i_ias, i_len, i_aal, i_gs, i_tal, i_cv, i_cs, i_ir, i_zr, i_vr, i_min, i_max, i_cpy, List.getElem?_cons_zero, List.getElem?_cons_succ, List.set_cons_zero, List.set_cons_succ, List.length_cons, List.length_nil, List.drop_succ_cons, List.drop_zero, List.take_succ_cons, List.take_zero, List.reverse_cons, List.reverse_nil, List.nil_append, List.cons_append, Option.toList_some, Option.toList_none, true_and, and_true, true_or, or_true, Nat.reduceAdd, Nat.reduceLT, Nat.reduceLeDiff, Option.some.injEq, exists_eq_left', Int.toNat_natCast, Nat.reduceSub, List.append_nil, List.replicate_succ, List.replicate_zero, mm_in,]
          repeat' first | refine And.intro ?_ ?_ | refine fun (_ : _ ≤ _ ∧ _ < _) => ?_
          all_goals try omega
          · intro q
            exact f88 _ (cs.mpr (Or.inl (bz_t hz q)))
          · intro q
            have hno := bz_f hz (by omega)
            repeat' first | refine And.intro ?_ ?_ | refine fun (_ : _ ≤ _ ∧ _ < _) => ?_
            all_goals try omega
            · intro q2
              refine f93 0 _ (bz_0 (fun w => ?_))
              rcases cs.mp w with w | w
              · exact hno w
              · omega
            · intro q2
              exact f88 _ (cs.mpr (Or.inr (by omega)))
        have f56 : ∀ (x y : Int) (u5 : mm_V), y = (if 0 < I 339 (o + (7 * b + 4)) then 1 else 0) → x = (if 0 < I 339 (o + (7 * b + 5)) then 1 else 0) → Ok 56 [.inr (some 338), .inl (o : Int), .inl z, .inl (b : Int), .inl ((o : Int) + 7 * (b : Int)), u5] [.inl x, .inl y] (I, mm_R0) := by
          intro x y u5 hy hx
          have y1 : 0 ≤ y ∧ y ≤ 1 := by rw [hy]; split <;> omega
          have x1 : 0 ≤ x ∧ x ≤ 1 := by rw [hx]; split <;> omega
          rw [← hy, ← hx] at hu
          refine c56 _ _ _ ?_
          simp only [b_X12_crosses_56, i_xorg, i_shl, i_shr, i_ior, i_and1, i_lcg1, i_lcg2, i_ld, i_la, i_st, i_sa, i_c, i_inc, i_add, i_sub, i_mul, i_div, i_rem, i_remT, i_xor, i_dup, i_dup2, i_if, i_if2, i_sw, i_gi, i_gr, i_pi, i_pz, i_ial, i_ias, i_len, i_aal, i_gs, i_tal, i_cv, i_cs, i_ir, i_zr, i_vr, i_min, i_max, i_cpy, List.getElem?_cons_zero, List.getElem?_cons_succ, List.set_cons_zero, List.set_cons_succ, List.length_cons, List.length_nil, List.drop_succ_cons, List.drop_zero, List.take_succ_cons, List.take_zero, List.reverse_cons, List.reverse_nil, List.nil_append, List.cons_append, Option.toList_some, Option.toList_none, true_and, and_true, true_or, or_true, Nat.reduceAdd, Nat.reduceLT, Nat.reduceLeDiff, Option.some.injEq, exists_eq_left', Int.toNat_natCast, Nat.reduceSub, List.append_nil, List.replicate_succ, List.replicate_zero, mm_in, w0, w1, w2, i6]
          repeat' first | refine And.intro ?_ ?_ | refine fun (_ : _ ≤ _ ∧ _ < _) => ?_
          all_goals try omega
          · intro q
            rw [if_neg (by omega)] at hu
            exact f75 0 (y + x) _ (by unfold MN; omega) (by omega) (by omega) (by omega) (by omega)
          · intro q
            rw [if_pos (by omega)] at hu
            exact f75 1 (y + x) _ (by unfold MN; omega) (by omega) (by omega) (by omega) (by omega)
        have f39 : ∀ (y : Int) (u5 : mm_V), y = (if 0 < I 339 (o + (7 * b + 4)) then 1 else 0) → Ok 39 [.inr (some 338), .inl (o : Int), .inl z, .inl (b : Int), .inl ((o : Int) + 7 * (b : Int)), u5] [.inl y] (I, mm_R0) := by
          intro y u5 hy
          refine c39 _ _ _ ?_
          simp only [b_X12_crosses_39, i_xorg, i_shl, i_shr, i_ior, i_and1, i_lcg1, i_lcg2, i_ld, i_la, i_st, i_sa, i_c, i_inc, i_add, i_sub, i_mul, i_div, i_rem, i_remT, i_xor, i_dup, i_dup2, i_if, i_if2, i_sw, i_gi, i_gr, i_pi, i_pz, i_ial, i_ias, i_len, i_aal, i_gs, i_tal, i_cv, i_cs, i_ir, i_zr, i_vr, i_min, i_max, i_cpy, List.getElem?_cons_zero, List.getElem?_cons_succ, List.set_cons_zero, List.set_cons_succ, List.length_cons, List.length_nil, List.drop_succ_cons, List.drop_zero, List.take_succ_cons, List.take_zero, List.reverse_cons, List.reverse_nil, List.nil_append, List.cons_append, Option.toList_some, Option.toList_none, true_and, and_true, true_or, or_true, Nat.reduceAdd, Nat.reduceLT, Nat.reduceLeDiff, Option.some.injEq, exists_eq_left', Int.toNat_natCast, Nat.reduceSub, List.append_nil, List.replicate_succ, List.replicate_zero, mm_in, w0, w1, w2, i5]
          repeat' first | refine And.intro ?_ ?_ | refine fun (_ : _ ≤ _ ∧ _ < _) => ?_
          all_goals try omega
          · intro q
            exact f56 0 y _ hy (by rw [if_neg (by omega)])
          · intro q
            exact f56 1 y _ hy (by rw [if_pos (by omega)])
        refine c4 _ _ _ ?_
        simp only [b_X12_crosses_4, i_xorg, i_shl, i_shr, i_ior, i_and1, i_lcg1, i_lcg2, i_ld, i_la, i_st, i_sa, i_c, i_inc, i_add, i_sub, i_mul, i_div, i_rem, i_remT, i_xor, i_dup, i_dup2, i_if, i_if2, i_sw, i_gi, i_gr, i_pi, i_pz, i_ial, i_ias, i_len, i_aal, i_gs, i_tal, i_cv, i_cs, i_ir, i_zr, i_vr, i_min, i_max, i_cpy, List.getElem?_cons_zero, List.getElem?_cons_succ, List.set_cons_zero, List.set_cons_succ, List.length_cons, List.length_nil, List.drop_succ_cons, List.drop_zero, List.take_succ_cons, List.take_zero, List.reverse_cons, List.reverse_nil, List.nil_append, List.cons_append, Option.toList_some, Option.toList_none, true_and, and_true, true_or, or_true, Nat.reduceAdd, Nat.reduceLT, Nat.reduceLeDiff, Option.some.injEq, exists_eq_left', Int.toNat_natCast, Nat.reduceSub, List.append_nil, List.replicate_succ, List.replicate_zero, mm_in, w0, w1, w2, t0, hn, i4]
        repeat' first | refine And.intro ?_ ?_ | refine fun (_ : _ ≤ _ ∧ _ < _) => ?_
        all_goals try omega
        intro q
        repeat' first | refine And.intro ?_ ?_ | refine fun (_ : _ ≤ _ ∧ _ < _) => ?_
        all_goals try omega
        · intro q2
          exact f39 0 _ (by rw [if_neg (by omega)])
        · intro q2
          exact f39 1 _ (by rw [if_pos (by omega)])
    refine c0 _ _ _ ?_
    simp only [b_X12_crosses_0, i_xorg, i_shl, i_shr, i_ior, i_and1, i_lcg1, i_lcg2, i_ld, i_la, i_st, i_sa, i_c, i_inc, i_add, i_sub, i_mul, i_div, i_rem, i_remT, i_xor, i_dup, i_dup2, i_if, i_if2, i_sw, i_gi, i_gr, i_pi, i_pz, i_ial, i_ias, i_len, i_aal, i_gs, i_tal, i_cv, i_cs, i_ir, i_zr, i_vr, i_min, i_max, i_cpy, List.getElem?_cons_zero, List.getElem?_cons_succ, List.set_cons_zero, List.set_cons_succ, List.length_cons, List.length_nil, List.drop_succ_cons, List.drop_zero, List.take_succ_cons, List.take_zero, List.reverse_cons, List.reverse_nil, List.nil_append, List.cons_append, Option.toList_some, Option.toList_none, true_and, and_true, true_or, or_true, Nat.reduceAdd, Nat.reduceLT, Nat.reduceLeDiff, Option.some.injEq, exists_eq_left', Int.toNat_natCast, Nat.reduceSub, List.append_nil, List.replicate_succ, List.replicate_zero, mm_in,]
    refine loop n 0 0 (by omega) (bz_0 ?_) _ _
    rintro ⟨j, h, _⟩
    omega
  · exact hT.elim
theorem sp_X12_crosses : mm_Sp yX12_crosses cX12_crosses 6 (some .boolean) rm_X12_crosses T_X12_crosses := mm_meth (by decide) (by
  intro av σ Post h
  unfold T_X12_crosses at h
  split at h
  · simp
  · exact h.elim) (fun p l e s m args below meth c G av σ Post hC hr _ hav hin hk hT => pv_X12_crosses av σ Post hav hin hk hT _ (bk_X12_crosses hC hr))
def T_X12_isWell : mm_T := fun av σ Post => match av with
  | [.inr (some a), .inl s] => σ.2 = mm_R0 ∧ a = 338 ∧ ∃ o n : Nat, s = o ∧ o ≤ 2888 ∧ gM σ.1 n ∧ bd (MN σ.1 o) ∧ ∀ z : Int, bz z (¬ crs (MN σ.1 o) n ∧ mtA n (MP σ.1) (MY σ.1) (MN σ.1 o) (4 * n) 0) → Post (some (.inl z)) σ
  | _ => False
def rm_X12_isWell : Room := { frames := 3, cells := 0, slots := 0, locals := 72 }
def b_X12_isWell_0 (Ok : Nat → mm_K) (Post : Option mm_V → mm_S → Prop) (kf : Nat) : mm_K := i_la 0 (i_ld 1 (i_cv 11 1 T_X12_meets (i_if (fun x => x = 0) (Ok 20) (i_la 0 (i_ld 1 (i_cv 11 1 T_X12_crosses (i_if (fun x => ¬ x = 0) (Ok 20) (i_c 1 (Ok 21)))))))))
def b_X12_isWell_20 (Ok : Nat → mm_K) (Post : Option mm_V → mm_S → Prop) (kf : Nat) : mm_K := i_c 0 (Ok 21)
def b_X12_isWell_21 (Ok : Nat → mm_K) (Post : Option mm_V → mm_S → Prop) (kf : Nat) : mm_K := i_zr Post kf
def clo_X12_isWell (Ok : Nat → mm_K) (Post : Option mm_V → mm_S → Prop) (kf : Nat) : Prop := mm_imp (b_X12_isWell_0 Ok Post kf) (Ok 0) ∧ mm_imp (b_X12_isWell_20 Ok Post kf) (Ok 20) ∧ mm_imp (b_X12_isWell_21 Ok Post kf) (Ok 21)
set_option maxRecDepth 100000 in
set_option maxHeartbeats 4000000 in
theorem bk_X12_isWell {p : Program} {l : Launch} {e : Env} {s : State} {m : MethodId} {args : Array Value} {below : List Frame} {meth : Method} {c : Code} {G : mm_G} {σ0 : mm_S} {Post : Option mm_V → mm_S → Prop} (hC : mm_C p G s m args meth c cX12_isWell yX12_isWell.cls) (hr : meth.sig.returnType = some .boolean) : clo_X12_isWell (mm_O p l e rm_X12_isWell s m args below meth c G σ0.2.2 (MQ below (mm_Qc G σ0 rm_X12_isWell.cells rm_X12_isWell.slots Post) args s rm_X12_isWell.cells rm_X12_isWell.slots (mm_A G))) Post σ0.2.2 := ⟨(by unfold b_X12_isWell_0; exact (mm_la_n hC dX12_isWell_0 rfl (mm_ld_n hC dX12_isWell_1 rfl (mm_cv hC sp_X12_meets ⟨rfl, rfl⟩ cl_11 wd_986 wd_988 wd_50 wd_989 wd_77 ⟨by decide, by decide, by decide +kernel⟩ ⟨by decide, by decide⟩ dX12_isWell_2 (mm_if_eq hC (t := 20) dX12_isWell_5 (by decide) (fun _ _ _ h => h) (mm_la_n hC dX12_isWell_8 rfl (mm_ld_n hC dX12_isWell_9 rfl (mm_cv hC sp_X12_crosses ⟨rfl, rfl⟩ cl_11 wd_990 wd_992 wd_51 wd_993 wd_77 ⟨by decide, by decide, by decide +kernel⟩ ⟨by decide, by decide⟩ dX12_isWell_10 (mm_if_ne hC (t := 20) dX12_isWell_13 (by decide) (fun _ _ _ h => h) (mm_ic hC dX12_isWell_16 ⟨by decide, by decide⟩ (mm_goto hC (t := 21) dX12_isWell_17 (by decide) (fun _ _ _ h => h)))))))))))), (by unfold b_X12_isWell_20; exact (mm_ic hC dX12_isWell_20 ⟨by decide, by decide⟩ (fun _ _ _ h => h))), (by unfold b_X12_isWell_21; exact (mm_zr hC ⟨rfl, rfl⟩ hr dX12_isWell_21))⟩
set_option maxRecDepth 100000 in
set_option maxHeartbeats 8000000 in
theorem pv_X12_isWell : ∀ (av : List mm_V) (σ : mm_S) (Post : Option mm_V → mm_S → Prop), (∀ v ∈ av, mm_iv v) → (∀ a j, mm_in (σ.1 a j)) → σ.2.2 ≤ 348 → T_X12_isWell av σ Post → ∀ Ok : Nat → mm_K, clo_X12_isWell Ok Post σ.2.2 → Ok 0 (av ++ List.replicate (2 - av.length) (.inr none)) [] σ := by
  intro av σ Post hav hin hk hT Ok hcl
  obtain ⟨I, R0⟩ := σ
  unfold T_X12_isWell at hT
  split at hT
  · rename_i a s
    obtain ⟨h0, hT⟩ := hT
    have h0 : R0 = mm_R0 := h0
    subst h0
    dsimp only at hT hin
    obtain ⟨c0, c20, c21⟩ := hcl
    obtain ⟨rfl, o, n, rfl, ho, hgm, hb, hP⟩ := hT
    have w0 := m0
    have no : ¬ (¬ crs (MN I o) n ∧ mtA n (MP I) (MY I) (MN I o) (4 * n) 0) → Ok 20 [.inr (some 338), .inl (o : Int)] [] (I, mm_R0) := by
      intro h
      refine c20 _ _ _ ?_
      simp only [b_X12_isWell_20, i_xorg, i_shl, i_shr, i_ior, i_and1, i_lcg1, i_lcg2, i_ld, i_la, i_st, i_sa, i_c, i_inc, i_add, i_sub, i_mul, i_div, i_rem, i_remT, i_xor, i_dup, i_dup2, i_if, i_if2, i_sw, i_gi, i_gr, i_pi, i_pz, i_ial, i_ias, i_len, i_aal, i_gs, i_tal, i_cv, i_cs, i_ir, i_zr, i_vr, i_min, i_max, i_cpy, List.getElem?_cons_zero, List.getElem?_cons_succ, List.set_cons_zero, List.set_cons_succ, List.length_cons, List.length_nil, List.drop_succ_cons, List.drop_zero, List.take_succ_cons, List.take_zero, List.reverse_cons, List.reverse_nil, List.nil_append, List.cons_append, Option.toList_some, Option.toList_none, true_and, and_true, true_or, or_true, Nat.reduceAdd, Nat.reduceLT, Nat.reduceLeDiff, Option.some.injEq, exists_eq_left', Int.toNat_natCast, Nat.reduceSub, List.append_nil, List.replicate_succ, List.replicate_zero]
      refine c21 _ _ _ ?_
      simp only [b_X12_isWell_21, i_xorg, i_shl, i_shr, i_ior, i_and1, i_lcg1, i_lcg2, i_ld, i_la, i_st, i_sa, i_c, i_inc, i_add, i_sub, i_mul, i_div, i_rem, i_remT, i_xor, i_dup, i_dup2, i_if, i_if2, i_sw, i_gi, i_gr, i_pi, i_pz, i_ial, i_ias, i_len, i_aal, i_gs, i_tal, i_cv, i_cs, i_ir, i_zr, i_vr, i_min, i_max, i_cpy, List.getElem?_cons_zero, List.getElem?_cons_succ, List.set_cons_zero, List.set_cons_succ, List.length_cons, List.length_nil, List.drop_succ_cons, List.drop_zero, List.take_succ_cons, List.take_zero, List.reverse_cons, List.reverse_nil, List.nil_append, List.cons_append, Option.toList_some, Option.toList_none, true_and, and_true, true_or, or_true, Nat.reduceAdd, Nat.reduceLT, Nat.reduceLeDiff, Option.some.injEq, exists_eq_left', Int.toNat_natCast, Nat.reduceSub, List.append_nil, List.replicate_succ, List.replicate_zero]
      exact hP 0 (bz_0 h)
    refine c0 _ _ _ ?_
    simp only [b_X12_isWell_0, i_xorg, i_shl, i_shr, i_ior, i_and1, i_lcg1, i_lcg2, i_ld, i_la, i_st, i_sa, i_c, i_inc, i_add, i_sub, i_mul, i_div, i_rem, i_remT, i_xor, i_dup, i_dup2, i_if, i_if2, i_sw, i_gi, i_gr, i_pi, i_pz, i_ial, i_ias, i_len, i_aal, i_gs, i_tal, i_cv, i_cs, i_ir, i_zr, i_vr, i_min, i_max, i_cpy, List.getElem?_cons_zero, List.getElem?_cons_succ, List.set_cons_zero, List.set_cons_succ, List.length_cons, List.length_nil, List.drop_succ_cons, List.drop_zero, List.take_succ_cons, List.take_zero, List.reverse_cons, List.reverse_nil, List.nil_append, List.cons_append, Option.toList_some, Option.toList_none, true_and, and_true, true_or, or_true, Nat.reduceAdd, Nat.reduceLT, Nat.reduceLeDiff, Option.some.injEq, exists_eq_left', Int.toNat_natCast, Nat.reduceSub, List.append_nil, List.replicate_succ, List.replicate_zero, mm_in, w0, T_X12_meets, T_X12_crosses]
    refine ⟨o, n, rfl, ho, hgm, hb, fun z hz => ⟨fun q => no (fun w => bz_f hz q w.2), fun q => ⟨o, n, rfl, ho, hgm.1, hgm.2.2.1, fun z2 hz2 => ⟨fun q2 => no (fun w => w.1 (bz_t hz2 q2)), fun q2 => ?_⟩⟩⟩⟩
    refine c21 _ _ _ ?_
    simp only [b_X12_isWell_21, i_xorg, i_shl, i_shr, i_ior, i_and1, i_lcg1, i_lcg2, i_ld, i_la, i_st, i_sa, i_c, i_inc, i_add, i_sub, i_mul, i_div, i_rem, i_remT, i_xor, i_dup, i_dup2, i_if, i_if2, i_sw, i_gi, i_gr, i_pi, i_pz, i_ial, i_ias, i_len, i_aal, i_gs, i_tal, i_cv, i_cs, i_ir, i_zr, i_vr, i_min, i_max, i_cpy, List.getElem?_cons_zero, List.getElem?_cons_succ, List.set_cons_zero, List.set_cons_succ, List.length_cons, List.length_nil, List.drop_succ_cons, List.drop_zero, List.take_succ_cons, List.take_zero, List.reverse_cons, List.reverse_nil, List.nil_append, List.cons_append, Option.toList_some, Option.toList_none, true_and, and_true, true_or, or_true, Nat.reduceAdd, Nat.reduceLT, Nat.reduceLeDiff, Option.some.injEq, exists_eq_left', Int.toNat_natCast, Nat.reduceSub, List.append_nil, List.replicate_succ, List.replicate_zero]
    exact hP 1 (bz_1 ⟨bz_f hz2 (by omega), bz_t hz q⟩)
  · exact hT.elim
theorem sp_X12_isWell : mm_Sp yX12_isWell cX12_isWell 2 (some .boolean) rm_X12_isWell T_X12_isWell := mm_meth (by decide) (by
  intro av σ Post h
  unfold T_X12_isWell at h
  split at h
  · simp
  · exact h.elim) (fun p l e s m args below meth c G av σ Post hC hr _ hav hin hk hT => pv_X12_isWell av σ Post hav hin hk hT _ (bk_X12_isWell hC hr))
def nbnt (L : LT) (n : Nat) (z : Int) : Prop := ∃ g : Nat → Int, (∀ e, e < 6 * n → bz (g e) (L.2.1 e = e ∧ bent L n e (6 * n))) ∧ z = sm g (6 * n)
def T_X12_bentMany : mm_T := fun av σ Post => match av with
  | [.inr (some a)] => σ.2 = mm_R0 ∧ a = 338 ∧ ∃ (n : Nat) (L : LT), σ.1 339 0 = n ∧ n ≤ 3 ∧ agM σ.1 L ∧ ∀ z : Int, nbnt L n z → Post (some (.inl z)) σ
  | _ => False
theorem bz_01 {z : Int} {P : Prop} (h : bz z P) : 0 ≤ z ∧ z ≤ 1 := by rcases h with q | q <;> omega
def rm_X12_bentMany : Room := { frames := 1, cells := 0, slots := 0, locals := 23 }
def b_X12_bentMany_0 (Ok : Nat → mm_K) (Post : Option mm_V → mm_S → Prop) (kf : Nat) : mm_K := i_c 0 (i_st 1 (i_c 0 (i_st 2 (Ok 4))))
def b_X12_bentMany_4 (Ok : Nat → mm_K) (Post : Option mm_V → mm_S → Prop) (kf : Nat) : mm_K := i_ld 2 (i_c 6 (i_la 0 (i_gr 11 0 (i_c 0 (i_ial (i_mul (i_if2 (fun x y => y ≤ x) (i_ld 1 (i_ir Post kf)) (i_ld 1 (i_la 0 (i_gr 11 9 (i_ld 2 (i_ial (i_ld 2 (i_if2 (fun x y => ¬ x = y) (Ok 40) (i_la 0 (i_ld 2 (i_cv 11 1 T_X12_isBent (i_if (fun x => x = 0) (Ok 40) (i_c 1 (Ok 41))))))))))))))))))))
def b_X12_bentMany_40 (Ok : Nat → mm_K) (Post : Option mm_V → mm_S → Prop) (kf : Nat) : mm_K := i_c 0 (Ok 41)
def b_X12_bentMany_41 (Ok : Nat → mm_K) (Post : Option mm_V → mm_S → Prop) (kf : Nat) : mm_K := i_add (i_st 1 (i_inc 2 1 (Ok 4)))
def clo_X12_bentMany (Ok : Nat → mm_K) (Post : Option mm_V → mm_S → Prop) (kf : Nat) : Prop := mm_imp (b_X12_bentMany_0 Ok Post kf) (Ok 0) ∧ mm_imp (b_X12_bentMany_4 Ok Post kf) (Ok 4) ∧ mm_imp (b_X12_bentMany_40 Ok Post kf) (Ok 40) ∧ mm_imp (b_X12_bentMany_41 Ok Post kf) (Ok 41)
set_option maxRecDepth 100000 in
set_option maxHeartbeats 4000000 in
theorem bk_X12_bentMany {p : Program} {l : Launch} {e : Env} {s : State} {m : MethodId} {args : Array Value} {below : List Frame} {meth : Method} {c : Code} {G : mm_G} {σ0 : mm_S} {Post : Option mm_V → mm_S → Prop} (hC : mm_C p G s m args meth c cX12_bentMany yX12_bentMany.cls) (hr : meth.sig.returnType = some .int) : clo_X12_bentMany (mm_O p l e rm_X12_bentMany s m args below meth c G σ0.2.2 (MQ below (mm_Qc G σ0 rm_X12_bentMany.cells rm_X12_bentMany.slots Post) args s rm_X12_bentMany.cells rm_X12_bentMany.slots (mm_A G))) Post σ0.2.2 := ⟨(by unfold b_X12_bentMany_0; exact (mm_ic hC dX12_bentMany_0 ⟨by decide, by decide⟩ (mm_st_n hC dX12_bentMany_1 rfl (mm_ic hC dX12_bentMany_2 ⟨by decide, by decide⟩ (mm_st_n hC dX12_bentMany_3 rfl (fun _ _ _ h => h)))))), (by unfold b_X12_bentMany_4; exact (mm_ld_n hC dX12_bentMany_4 rfl (mm_bp hC dX12_bentMany_5 ⟨⟨by decide, by decide⟩, by decide⟩ (mm_la_n hC dX12_bentMany_7 rfl (mm_gr hC cl_11 (by decide) rfl wd_789 dX12_bentMany_8 (mm_ic hC dX12_bentMany_11 ⟨by decide, by decide⟩ (mm_ial hC dX12_bentMany_12 (mm_mul hC dX12_bentMany_13 (mm_ic_ge hC (t := 49) dX12_bentMany_14 (by decide) (mm_ld_n hC dX12_bentMany_49 rfl (mm_ir hC ⟨rfl, rfl⟩ hr dX12_bentMany_50)) (mm_ld_n hC dX12_bentMany_17 rfl (mm_la_n hC dX12_bentMany_18 rfl (mm_gr hC cl_11 (by decide) rfl wd_798 dX12_bentMany_19 (mm_ld_n hC dX12_bentMany_22 rfl (mm_ial hC dX12_bentMany_23 (mm_ld_n hC dX12_bentMany_24 rfl (mm_ic_ne hC (t := 40) dX12_bentMany_25 (by decide) (fun _ _ _ h => h) (mm_la_n hC dX12_bentMany_28 rfl (mm_ld_n hC dX12_bentMany_29 rfl (mm_cv hC sp_X12_isBent ⟨rfl, rfl⟩ cl_11 wd_885 wd_887 wd_30 wd_888 wd_77 ⟨by decide, by decide, by decide +kernel⟩ ⟨by decide, by decide⟩ dX12_bentMany_30 (mm_if_eq hC (t := 40) dX12_bentMany_33 (by decide) (fun _ _ _ h => h) (mm_ic hC dX12_bentMany_36 ⟨by decide, by decide⟩ (mm_goto hC (t := 41) dX12_bentMany_37 (by decide) (fun _ _ _ h => h))))))))))))))))))))))), (by unfold b_X12_bentMany_40; exact (mm_ic hC dX12_bentMany_40 ⟨by decide, by decide⟩ (fun _ _ _ h => h))), (by unfold b_X12_bentMany_41; exact (mm_add hC dX12_bentMany_41 (mm_st_n hC dX12_bentMany_42 rfl (mm_inc hC dX12_bentMany_43 (mm_goto hC (t := 4) dX12_bentMany_46 (by decide) (fun _ _ _ h => h))))))⟩
set_option maxRecDepth 100000 in
set_option maxHeartbeats 8000000 in
theorem pv_X12_bentMany : ∀ (av : List mm_V) (σ : mm_S) (Post : Option mm_V → mm_S → Prop), (∀ v ∈ av, mm_iv v) → (∀ a j, mm_in (σ.1 a j)) → σ.2.2 ≤ 348 → T_X12_bentMany av σ Post → ∀ Ok : Nat → mm_K, clo_X12_bentMany Ok Post σ.2.2 → Ok 0 (av ++ List.replicate (3 - av.length) (.inr none)) [] σ := by
  intro av σ Post hav hin hk hT Ok hcl
  obtain ⟨I, R0⟩ := σ
  unfold T_X12_bentMany at hT
  split at hT
  · rename_i a
    obtain ⟨h0, hT⟩ := hT
    have h0 : R0 = mm_R0 := h0
    subst h0
    dsimp only at hT hin
    obtain ⟨c0, c4, c40, c41⟩ := hcl
    obtain ⟨rfl, n, L, hn, hn3, hag, hP⟩ := hT
    have w0 := m0
    have w1 := m1
    have w2 := m2
    have r5 := Rs_338.2.2.2.2.2.1
    have s6 := sh_338.2.2.2.2.2.2.1
    obtain ⟨g1, g2, g3⟩ := id hag
    have loop : ∀ (d e : Nat) (g : Nat → Int), e + d = 6 * n → (∀ k, k < e → bz (g k) (L.2.1 k = k ∧ bent L n k (6 * n))) → Ok 4 [.inr (some 338), .inl (sm g e), .inl (e : Int)] [] (I, mm_R0) := by
      intro d
      induction d with
      | zero =>
        intro e g hd hgs
        refine c4 _ _ _ ?_
        simp only [b_X12_bentMany_4, i_xorg, i_shl, i_shr, i_ior, i_and1, i_lcg1, i_lcg2, i_ld, i_la, i_st, i_sa, i_c, i_inc, i_add, i_sub, i_mul, i_div, i_rem, i_remT, i_xor, i_dup, i_dup2, i_if, i_if2, i_sw, i_gi, i_gr, i_pi, i_pz, i_ial, i_ias, i_len, i_aal, i_gs, i_tal, i_cv, i_cs, i_ir, i_zr, i_vr, i_min, i_max, i_cpy, List.getElem?_cons_zero, List.getElem?_cons_succ, List.set_cons_zero, List.set_cons_succ, List.length_cons, List.length_nil, List.drop_succ_cons, List.drop_zero, List.take_succ_cons, List.take_zero, List.reverse_cons, List.reverse_nil, List.nil_append, List.cons_append, Option.toList_some, Option.toList_none, true_and, and_true, true_or, or_true, Nat.reduceAdd, Nat.reduceLT, Nat.reduceLeDiff, Option.some.injEq, exists_eq_left', Int.toNat_natCast, Nat.reduceSub, List.append_nil, List.replicate_succ, List.replicate_zero, mm_in, w0, w1, w2, t0, hn]
        rw [show e = 6 * n by omega] at hgs ⊢
        repeat' first | refine And.intro ?_ ?_ | refine fun (_ : _ ≤ _ ∧ _ < _) => ?_
        all_goals try omega
        exact fun _ => hP _ ⟨g, hgs, rfl⟩
      | succ d ih =>
        intro e g hd hgs
        have ek := g2 e (by omega)
        have sb := sm_bd (f := g) (c := 1) e (fun k hk => bz_01 (hgs k hk))
        have f41 : ∀ v : Int, bz v (L.2.1 e = e ∧ bent L n e (6 * n)) → Ok 41 [.inr (some 338), .inl (sm g e), .inl (e : Int)] [.inl v, .inl (sm g e)] (I, mm_R0) := by
          intro v hv
          have v01 := bz_01 hv
          have := ih (e + 1) (fun k => if k = e then v else g k) (by omega) (fun k hk => ?_)
          · have hs : sm (fun k => if k = e then v else g k) (e + 1) = sm g e + v := by
              show sm _ e + (if e = e then v else g e) = _
              rw [if_pos rfl, sm_congr (g := g) (fun k hk => by rw [if_neg (by omega)])]
            rw [hs, Int.natCast_add] at this
            refine c41 _ _ _ ?_
            simp only [b_X12_bentMany_41, i_xorg, i_shl, i_shr, i_ior, i_and1, i_lcg1, i_lcg2, i_ld, i_la, i_st, i_sa, i_c, i_inc, i_add, i_sub, i_mul, i_div, i_rem, i_remT, i_xor, i_dup, i_dup2, i_if, i_if2, i_sw, i_gi, i_gr, i_pi, i_pz, i_ial, i_ias, i_len, i_aal, i_gs, i_tal, i_cv, i_cs, i_ir, i_zr, i_vr, i_min, i_max, i_cpy, List.getElem?_cons_zero, List.getElem?_cons_succ, List.set_cons_zero, List.set_cons_succ, List.length_cons, List.length_nil, List.drop_succ_cons, List.drop_zero, List.take_succ_cons, List.take_zero, List.reverse_cons, List.reverse_nil, List.nil_append, List.cons_append, Option.toList_some, Option.toList_none, true_and, and_true, true_or, or_true, Nat.reduceAdd, Nat.reduceLT, Nat.reduceLeDiff, Option.some.injEq, exists_eq_left', Int.toNat_natCast, Nat.reduceSub, List.append_nil, List.replicate_succ, List.replicate_zero, mm_in,]
            repeat' first | refine And.intro ?_ ?_ | refine fun (_ : _ ≤ _ ∧ _ < _) => ?_
            all_goals try omega
          · split
            · rename_i q
              rw [q]
              exact hv
            · exact hgs k (by omega)
        have f40 : ¬ (L.2.1 e = e ∧ bent L n e (6 * n)) → Ok 40 [.inr (some 338), .inl (sm g e), .inl (e : Int)] [.inl (sm g e)] (I, mm_R0) := by
          intro h
          refine c40 _ _ _ ?_
          simp only [b_X12_bentMany_40, i_xorg, i_shl, i_shr, i_ior, i_and1, i_lcg1, i_lcg2, i_ld, i_la, i_st, i_sa, i_c, i_inc, i_add, i_sub, i_mul, i_div, i_rem, i_remT, i_xor, i_dup, i_dup2, i_if, i_if2, i_sw, i_gi, i_gr, i_pi, i_pz, i_ial, i_ias, i_len, i_aal, i_gs, i_tal, i_cv, i_cs, i_ir, i_zr, i_vr, i_min, i_max, i_cpy, List.getElem?_cons_zero, List.getElem?_cons_succ, List.set_cons_zero, List.set_cons_succ, List.length_cons, List.length_nil, List.drop_succ_cons, List.drop_zero, List.take_succ_cons, List.take_zero, List.reverse_cons, List.reverse_nil, List.nil_append, List.cons_append, Option.toList_some, Option.toList_none, true_and, and_true, true_or, or_true, Nat.reduceAdd, Nat.reduceLT, Nat.reduceLeDiff, Option.some.injEq, exists_eq_left', Int.toNat_natCast, Nat.reduceSub, List.append_nil, List.replicate_succ, List.replicate_zero]
          exact f41 0 (bz_0 h)
        refine c4 _ _ _ ?_
        simp only [b_X12_bentMany_4, i_xorg, i_shl, i_shr, i_ior, i_and1, i_lcg1, i_lcg2, i_ld, i_la, i_st, i_sa, i_c, i_inc, i_add, i_sub, i_mul, i_div, i_rem, i_remT, i_xor, i_dup, i_dup2, i_if, i_if2, i_sw, i_gi, i_gr, i_pi, i_pz, i_ial, i_ias, i_len, i_aal, i_gs, i_tal, i_cv, i_cs, i_ir, i_zr, i_vr, i_min, i_max, i_cpy, List.getElem?_cons_zero, List.getElem?_cons_succ, List.set_cons_zero, List.set_cons_succ, List.length_cons, List.length_nil, List.drop_succ_cons, List.drop_zero, List.take_succ_cons, List.take_zero, List.reverse_cons, List.reverse_nil, List.nil_append, List.cons_append, Option.toList_some, Option.toList_none, true_and, and_true, true_or, or_true, Nat.reduceAdd, Nat.reduceLT, Nat.reduceLeDiff, Option.some.injEq, exists_eq_left', Int.toNat_natCast, Nat.reduceSub, List.append_nil, List.replicate_succ, List.replicate_zero, mm_in, w0, w1, w2, t0, hn, r5, s6, ek.1, T_X12_isBent]
        repeat' first | refine And.intro ?_ ?_ | refine fun (_ : _ ≤ _ ∧ _ < _) => ?_
        all_goals try omega
        intro q
        repeat' first | refine And.intro ?_ ?_ | refine fun (_ : _ ≤ _ ∧ _ < _) => ?_
        all_goals try omega
        · intro q2
          exact f40 (by omega)
        · intro q2
          refine ⟨e, n, L, rfl, rfl, hn3, by omega, hag, fun z hz => ⟨fun q3 => f40 (fun w => bz_f hz q3 w.2), fun q3 => f41 1 (bz_1 ⟨by omega, bz_t hz q3⟩)⟩⟩
    refine c0 _ _ _ ?_
    simp only [b_X12_bentMany_0, i_xorg, i_shl, i_shr, i_ior, i_and1, i_lcg1, i_lcg2, i_ld, i_la, i_st, i_sa, i_c, i_inc, i_add, i_sub, i_mul, i_div, i_rem, i_remT, i_xor, i_dup, i_dup2, i_if, i_if2, i_sw, i_gi, i_gr, i_pi, i_pz, i_ial, i_ias, i_len, i_aal, i_gs, i_tal, i_cv, i_cs, i_ir, i_zr, i_vr, i_min, i_max, i_cpy, List.getElem?_cons_zero, List.getElem?_cons_succ, List.set_cons_zero, List.set_cons_succ, List.length_cons, List.length_nil, List.drop_succ_cons, List.drop_zero, List.take_succ_cons, List.take_zero, List.reverse_cons, List.reverse_nil, List.nil_append, List.cons_append, Option.toList_some, Option.toList_none, true_and, and_true, true_or, or_true, Nat.reduceAdd, Nat.reduceLT, Nat.reduceLeDiff, Option.some.injEq, exists_eq_left', Int.toNat_natCast, Nat.reduceSub, List.append_nil, List.replicate_succ, List.replicate_zero, mm_in,]
    exact loop (6 * n) 0 (fun _ => 0) (by omega) (fun k hk => by omega)
  · exact hT.elim
theorem sp_X12_bentMany : mm_Sp yX12_bentMany cX12_bentMany 3 (some .int) rm_X12_bentMany T_X12_bentMany := mm_meth (by decide) (by
  intro av σ Post h
  unfold T_X12_bentMany at h
  split at h
  · simp
  · exact h.elim) (fun p l e s m args below meth c G av σ Post hC hr _ hav hin hk hT => pv_X12_bentMany av σ Post hav hin hk hT _ (bk_X12_bentMany hC hr))
