/-! Skeleton: measureLines, read, isReversed, reversedLines -/
theorem fi_congr {I J : Nat → Nat → Int} {u : Nat} (h : I u = J u) : fi I u = fi J u := by unfold fi; rw [h]
theorem nr_mono (L : Nat → Nat) {a b : Nat} (h : a ≤ b) : nr L a ≤ nr L b := by
  induction h with
  | refl => exact Int.le_refl _
  | step _ ih =>
    rename_i k _
    have : nr L (k + 1) = nr L k + if L k = k then 1 else 0 := rfl
    rw [this]
    split <;> omega
theorem nr_inj {L : Nat → Nat} {a b : Nat} (ha : L a = a) (hb : L b = b) (h : nr L a = nr L b) : a = b := by
  have key : ∀ x y, L x = x → x < y → nr L x < nr L y := by
    intro x y hx hxy
    have h1 := nr_mono L (show x + 1 ≤ y from hxy)
    have h2 : nr L (x + 1) = nr L x + if L x = x then 1 else 0 := rfl
    rw [h2, if_pos hx] at h1
    omega
  rcases Nat.lt_trichotomy a b with q | q | q
  · have := key a b ha q; omega
  · exact q
  · have := key b a hb q; omega
/-- a sum over the classes by their numbers is a sum over their first things -/
theorem sm_roots (L : Nat → Nat) (h : Nat → Int) (N : Nat) : sm h (nr L N).toNat = sm (fun e => if L e = e then h (nr L e).toNat else 0) N := by
  induction N with
  | zero => rfl
  | succ N ih =>
    have h1 : nr L (N + 1) = nr L N + if L N = N then 1 else 0 := rfl
    have h2 := nr_b L N
    show sm h (nr L (N + 1)).toNat = sm (fun e => if L e = e then h (nr L e).toNat else 0) N + if L N = N then h (nr L N).toNat else 0
    rw [← ih, h1]
    by_cases e : L N = N
    · rw [if_pos e, if_pos e, show (nr L N + 1).toNat = (nr L N).toNat + 1 by omega]
      rfl
    · rw [if_neg e, if_neg e, Int.add_zero, Int.add_zero]
def T_X8_measureLines : mm_T := fun av σ Post => match av with
  | [.inr (some s), .inl x] => σ.2 = mm_R0 ∧ s = 18 ∧ ∃ N : Nat, x = N ∧ N ≤ 18 ∧ (∀ e, e < N → 0 ≤ σ.1 26 e ∧ σ.1 26 e < 18) ∧
    ∀ I' : Nat → Nat → Int, (∀ b, b ≠ 27 → b ≠ 28 → I' b = σ.1 b) → (∀ e, e < N → I' 27 (σ.1 26 e).toNat = sm (fun k => if σ.1 26 k = σ.1 26 e then 1 else 0) N) → (∀ e, e < N → 0 ≤ I' 28 (σ.1 26 e).toNat ∧ I' 28 (σ.1 26 e).toNat ≤ e ∧ σ.1 26 (I' 28 (σ.1 26 e).toNat).toNat = σ.1 26 e) → Post none (I', mm_R0)
  | _ => False
def rm_X8_measureLines : Room := { frames := 1, cells := 0, slots := 0, locals := 23 }
def b_X8_measureLines_0 (Ok : Nat → mm_K) (Post : Option mm_V → mm_S → Prop) (kf : Nat) : mm_K := i_la 0 (i_gr 7 5 (i_c 0 (i_cs 2 T_J7_fill_53178 (i_ld 1 (i_c 1 (i_sub (i_st 2 (Ok 12))))))))
def b_X8_measureLines_12 (Ok : Nat → mm_K) (Post : Option mm_V → mm_S → Prop) (kf : Nat) : mm_K := i_ld 2 (i_if (fun x => x < 0) (i_vr Post kf) (i_la 0 (i_gr 7 5 (i_la 0 (i_gr 7 4 (i_ld 2 (i_ial (i_dup2 (i_ial (i_c 1 (i_add (i_ias (i_la 0 (i_gr 7 6 (i_la 0 (i_gr 7 4 (i_ld 2 (i_ial (i_ld 2 (i_ias (i_inc 2 (-1) (Ok 12))))))))))))))))))))))
def clo_X8_measureLines (Ok : Nat → mm_K) (Post : Option mm_V → mm_S → Prop) (kf : Nat) : Prop := mm_imp (b_X8_measureLines_0 Ok Post kf) (Ok 0) ∧ mm_imp (b_X8_measureLines_12 Ok Post kf) (Ok 12)
set_option maxRecDepth 100000 in
set_option maxHeartbeats 4000000 in
theorem bk_X8_measureLines {p : Program} {l : Launch} {e : Env} {s : State} {m : MethodId} {args : Array Value} {below : List Frame} {meth : Method} {c : Code} {G : mm_G} {σ0 : mm_S} {Post : Option mm_V → mm_S → Prop} (hC : mm_C p G s m args meth c cX8_measureLines yX8_measureLines.cls) (hr : meth.sig.returnType = none) : clo_X8_measureLines (mm_O p l e rm_X8_measureLines s m args below meth c G σ0.2.2 (MQ below (mm_Qc G σ0 rm_X8_measureLines.cells rm_X8_measureLines.slots Post) args s rm_X8_measureLines.cells rm_X8_measureLines.slots (mm_A G))) Post σ0.2.2 := ⟨(by unfold b_X8_measureLines_0; exact (mm_la_n hC dX8_measureLines_0 rfl (mm_gr hC cl_7 (by decide) rfl wd_173 dX8_measureLines_1 (mm_ic hC dX8_measureLines_4 ⟨by decide, by decide⟩ (mm_cs hC sp_J7_fill_53178 ⟨rfl, rfl⟩ wd_413 wd_117 wd_118 wd_69 ⟨by decide, by decide, by decide +kernel⟩ ⟨by decide, by decide⟩ dX8_measureLines_5 (mm_ld_n hC dX8_measureLines_8 rfl (mm_ic hC dX8_measureLines_9 ⟨by decide, by decide⟩ (mm_sub hC dX8_measureLines_10 (mm_st_n hC dX8_measureLines_11 rfl (fun _ _ _ h => h)))))))))), (by unfold b_X8_measureLines_12; exact (mm_ld_n hC dX8_measureLines_12 rfl (mm_if_lt hC (t := 49) dX8_measureLines_13 (by decide) (mm_vr hC ⟨rfl, rfl⟩ hr dX8_measureLines_49) (mm_la_n hC dX8_measureLines_16 rfl (mm_gr hC cl_7 (by decide) rfl wd_173 dX8_measureLines_17 (mm_la_n hC dX8_measureLines_20 rfl (mm_gr hC cl_7 (by decide) rfl wd_171 dX8_measureLines_21 (mm_ld_n hC dX8_measureLines_24 rfl (mm_ial hC dX8_measureLines_25 (mm_dup2 hC dX8_measureLines_26 (mm_ial hC dX8_measureLines_27 (mm_ic hC dX8_measureLines_28 ⟨by decide, by decide⟩ (mm_add hC dX8_measureLines_29 (mm_ias hC dX8_measureLines_30 (mm_la_n hC dX8_measureLines_31 rfl (mm_gr hC cl_7 (by decide) rfl wd_175 dX8_measureLines_32 (mm_la_n hC dX8_measureLines_35 rfl (mm_gr hC cl_7 (by decide) rfl wd_171 dX8_measureLines_36 (mm_ld_n hC dX8_measureLines_39 rfl (mm_ial hC dX8_measureLines_40 (mm_ld_n hC dX8_measureLines_41 rfl (mm_ias hC dX8_measureLines_42 (mm_inc hC dX8_measureLines_43 (mm_goto hC (t := 12) dX8_measureLines_46 (by decide) (fun _ _ _ h => h)))))))))))))))))))))))))⟩
set_option maxRecDepth 100000 in
set_option maxHeartbeats 8000000 in
theorem pv_X8_measureLines : ∀ (av : List mm_V) (σ : mm_S) (Post : Option mm_V → mm_S → Prop), (∀ v ∈ av, mm_iv v) → (∀ a j, mm_in (σ.1 a j)) → σ.2.2 ≤ 348 → T_X8_measureLines av σ Post → ∀ Ok : Nat → mm_K, clo_X8_measureLines Ok Post σ.2.2 → Ok 0 (av ++ List.replicate (3 - av.length) (.inr none)) [] σ := by
  intro av σ Post hav hin hk hT Ok hcl
  obtain ⟨I, R0⟩ := σ
  unfold T_X8_measureLines at hT
  split at hT
  · rename_i s x
    obtain ⟨h0, hT⟩ := hT
    have h0 : R0 = mm_R0 := h0
    subst h0
    dsimp only at hT hin
    obtain ⟨c0, c12⟩ := hcl
    obtain ⟨rfl, N, rfl, hN, h1, hP⟩ := hT
    obtain ⟨r0, r1, r2, r3, r4, r5, r6⟩ := Rs_18
    obtain ⟨s0, s1, s2, s3, s4, s5, s6, s7, s8, s9, s10⟩ := sh_18
    obtain ⟨g, hg⟩ : ∃ g : Nat → Nat → Int, g = fun (l k : Nat) => if I 26 k = (l : Int) then (1 : Int) else 0 := ⟨_, rfl⟩
    have hgb : ∀ l k, 0 ≤ g l k ∧ g l k ≤ 1 := fun l k => by rw [hg]; dsimp only; split <;> omega
    have loop : ∀ (e : Nat) (I' : Nat → Nat → Int), e ≤ N → (∀ b, b ≠ 27 → b ≠ 28 → I' b = I b) → (∀ l, l < 18 → I' 27 l = sm (g l) N - sm (g l) e) → (∀ k, e ≤ k → k < N → (e : Int) ≤ I' 28 (I 26 k).toNat ∧ I' 28 (I 26 k).toNat ≤ k ∧ I 26 (I' 28 (I 26 k).toNat).toNat = I 26 k) → Ok 12 [.inr (some 18), .inl (N : Int), .inl ((e : Int) - 1)] [] (I', mm_R0) := by
      intro e
      induction e with
      | zero =>
        intro I' he q1 q2 q3
        refine c12 _ _ _ ?_
        simp only [b_X8_measureLines_12, i_ld, i_la, i_st, i_sa, i_c, i_inc, i_add, i_sub, i_mul, i_div, i_rem, i_remT, i_xor, i_dup, i_dup2, i_if, i_if2, i_sw, i_gi, i_gr, i_pi, i_pz, i_ial, i_ias, i_len, i_aal, i_gs, i_tal, i_cv, i_cs, i_ir, i_zr, i_vr, i_min, i_max, i_cpy, List.getElem?_cons_zero, List.getElem?_cons_succ, List.set_cons_zero, List.set_cons_succ, List.length_cons, List.length_nil, List.drop_succ_cons, List.drop_zero, List.take_succ_cons, List.take_zero, List.reverse_cons, List.reverse_nil, List.nil_append, List.cons_append, Option.toList_some, Option.toList_none, true_and, and_true, true_or, or_true, Nat.reduceAdd, Nat.reduceLT, Nat.reduceLeDiff, Option.some.injEq, exists_eq_left', Int.toNat_natCast, Nat.reduceSub, List.append_nil, List.replicate_succ, List.replicate_zero, mm_in,]
        repeat' first | refine And.intro ?_ ?_ | intro _
        all_goals try omega
        refine hP I' q1 (fun e' he' => ?_) (fun e' he' => by have := q3 e' (by omega) he'; omega)
        have hb := h1 e' he'
        rw [q2 _ (by omega)]
        show sm (g (I 26 e').toNat) N - 0 = _
        rw [Int.sub_zero, hg]
        refine sm_congr (fun k hk => ?_)
        show (if I 26 k = (((I 26 e').toNat : Nat) : Int) then (1 : Int) else 0) = _
        rw [show (((I 26 e').toNat : Nat) : Int) = I 26 e' by omega]
      | succ e ih =>
        intro I' he q1 q2 q3
        have e26 : I' 26 = I 26 := q1 26 (by decide) (by decide)
        have hb := h1 e (by omega)
        obtain ⟨l, hl⟩ := Int.eq_ofNat_of_zero_le hb.1
        rw [hl] at hb
        have b1 := sm_bound (f := g l) (n := N) (c := 1) (fun k _ => hgb l k)
        have b2 := sm_bound (f := g l) (n := e) (c := 1) (fun k _ => hgb l k)
        have b3 : sm (g l) (e + 1) = sm (g l) e + g l e := rfl
        have b4 : g l e = 1 := by rw [hg]; dsimp only; rw [if_pos hl]
        have h27 := q2 l (by omega)
        have ee : ((e + 1 : Nat) : Int) - 1 = (e : Int) := by omega
        rw [ee]
        have f1 : mm_set I' 27 l (I' 27 l + 1) 26 = I 26 := by rw [← e26]; funext j; simp [mm_set]
        refine c12 _ _ _ ?_
        simp only [b_X8_measureLines_12, i_ld, i_la, i_st, i_sa, i_c, i_inc, i_add, i_sub, i_mul, i_div, i_rem, i_remT, i_xor, i_dup, i_dup2, i_if, i_if2, i_sw, i_gi, i_gr, i_pi, i_pz, i_ial, i_ias, i_len, i_aal, i_gs, i_tal, i_cv, i_cs, i_ir, i_zr, i_vr, i_min, i_max, i_cpy, List.getElem?_cons_zero, List.getElem?_cons_succ, List.set_cons_zero, List.set_cons_succ, List.length_cons, List.length_nil, List.drop_succ_cons, List.drop_zero, List.take_succ_cons, List.take_zero, List.reverse_cons, List.reverse_nil, List.nil_append, List.cons_append, Option.toList_some, Option.toList_none, true_and, and_true, true_or, or_true, Nat.reduceAdd, Nat.reduceLT, Nat.reduceLeDiff, Option.some.injEq, exists_eq_left', Int.toNat_natCast, Nat.reduceSub, List.append_nil, List.replicate_succ, List.replicate_zero, mm_in, r4, r5, r6, s0, s8, s9, s10, e26, hl, f1]
        repeat' first | refine And.intro ?_ ?_ | intro _
        all_goals try omega
        rw [show (e : Int) + -1 = (e : Int) - 1 by omega]
        refine ih _ (by omega) (fun b z1 z2 => ?_) (fun l' hl' => ?_) (fun k hk1 hk2 => ?_)
        · rw [← q1 b z1 z2]; funext j; simp [mm_set, z1, z2]
        · have h28 : mm_set (mm_set I' 27 l (I' 27 l + 1)) 28 l (e : Int) 27 l' = mm_set I' 27 l (I' 27 l + 1) 27 l' := by simp [mm_set]
          rw [h28]
          by_cases z : l' = l
          · subst z; simp [mm_set]; omega
          · have h5 := q2 l' hl'
            have b5 : sm (g l') (e + 1) = sm (g l') e + g l' e := rfl
            have b6 : g l' e = 0 := by rw [hg]; dsimp only; rw [if_neg (by omega)]
            simp [mm_set, z]
            omega
        · by_cases z : I 26 k = (l : Int)
          · rw [z]
            simp [mm_set]
            exact ⟨by omega, hl⟩
          · have hbk := h1 k hk2
            have z2 : ¬ (I 26 k).toNat = l := by omega
            have z3 : k ≠ e := fun q => z (by rw [q, hl])
            have h28 : mm_set (mm_set I' 27 l (I' 27 l + 1)) 28 l (e : Int) 28 (I 26 k).toNat = I' 28 (I 26 k).toNat := by simp [mm_set, z2]
            rw [h28]
            have := q3 k (by omega) hk2
            omega
    refine c0 _ _ _ ?_
    simp only [b_X8_measureLines_0, i_ld, i_la, i_st, i_sa, i_c, i_inc, i_add, i_sub, i_mul, i_div, i_rem, i_remT, i_xor, i_dup, i_dup2, i_if, i_if2, i_sw, i_gi, i_gr, i_pi, i_pz, i_ial, i_ias, i_len, i_aal, i_gs, i_tal, i_cv, i_cs, i_ir, i_zr, i_vr, i_min, i_max, i_cpy, List.getElem?_cons_zero, List.getElem?_cons_succ, List.set_cons_zero, List.set_cons_succ, List.length_cons, List.length_nil, List.drop_succ_cons, List.drop_zero, List.take_succ_cons, List.take_zero, List.reverse_cons, List.reverse_nil, List.nil_append, List.cons_append, Option.toList_some, Option.toList_none, true_and, and_true, true_or, or_true, Nat.reduceAdd, Nat.reduceLT, Nat.reduceLeDiff, Option.some.injEq, exists_eq_left', Int.toNat_natCast, Nat.reduceSub, List.append_nil, List.replicate_succ, List.replicate_zero, mm_in, r5, s0, s9, T_J7_fill_53178]
    intro I1 f1 f2
    repeat' first | refine And.intro ?_ ?_ | intro _
    all_goals try omega
    refine loop N I1 (Nat.le_refl _) (fun b z1 z2 => f1 b z1) (fun l hl => by rw [f2 l hl]; omega) (fun k z1 z2 => by omega)
  · exact hT.elim
theorem sp_X8_measureLines : mm_Sp yX8_measureLines cX8_measureLines 3 none rm_X8_measureLines T_X8_measureLines := mm_meth (by decide) (by
  intro av σ Post h
  unfold T_X8_measureLines at h
  split at h
  · simp
  · exact h.elim) (fun p l e s m args below meth c G av σ Post hC hr _ hav hin hk hT => pv_X8_measureLines av σ Post hav hin hk hT _ (bk_X8_measureLines hC hr))
/-- what a read skeleton says of the gluing -/
def SK (I : Nat → Nat → Int) (n : Nat) (L : LT) : Prop :=
  I 18 7 = nr L.1 (4 * n) ∧ I 18 8 = nr L.2.1 (6 * n) ∧ (∀ c, c < 4 * n → I 25 c = nr L.1 (L.1 c)) ∧ (∀ e, e < 6 * n → I 26 e = nr L.2.1 (L.2.1 e)) ∧
  (∀ e, e < 6 * n → I 27 (nr L.2.1 (L.2.1 e)).toNat = sm (fun k => if L.2.1 k = L.2.1 e then 1 else 0) (6 * n)) ∧ (∀ e, e < 6 * n → I 28 (nr L.2.1 (L.2.1 e)).toNat = L.2.1 e) ∧
  I 23 1 = (16 * n : Nat) ∧ ufi I 24 (16 * n) ∧ (∀ k, k < 16 * n → rt (fi I 24) k = L.2.2 k)
theorem fo_le {g : Nat → LT → LT} (h : ∀ k L, (∀ x, L.1 x ≤ x) ∧ (∀ x, L.2.1 x ≤ x) ∧ (∀ x, L.2.2 x ≤ x) → (∀ x, (g k L).1 x ≤ x) ∧ (∀ x, (g k L).2.1 x ≤ x) ∧ (∀ x, (g k L).2.2 x ≤ x)) (m : Nat) (L : LT) (hL : (∀ x, L.1 x ≤ x) ∧ (∀ x, L.2.1 x ≤ x) ∧ (∀ x, L.2.2 x ≤ x)) : (∀ x, (fo g m L).1 x ≤ x) ∧ (∀ x, (fo g m L).2.1 x ≤ x) ∧ (∀ x, (fo g m L).2.2 x ≤ x) := by
  induction m with
  | zero => exact hL
  | succ m ih => exact h m _ ih
def T_X8_read : mm_T := fun av σ Post => match av with
  | [.inr (some s), .inr (some w)] => σ.2 = mm_R0 ∧ s = 18 ∧ w = 2 ∧ ∃ n : Nat, gw σ.1 n ∧
    ∀ I' : Nat → Nat → Int, (∀ b, b < 18 ∨ 29 ≤ b → I' b = σ.1 b) → SK I' n (skel n (σ.1 3) (σ.1 4)) → Post none (I', mm_R0)
  | _ => False
def rm_X8_read : Room := { frames := 4, cells := 0, slots := 0, locals := 97 }
def b_X8_read_0 (Ok : Nat → mm_K) (Post : Option mm_V → mm_S → Prop) (kf : Nat) : mm_K := i_la 0 (i_gr 7 0 (i_c 4 (i_la 1 (i_gi 9 0 (i_mul (i_cv 1 1 T_X1_begin (i_la 0 (i_gr 7 1 (i_c 6 (i_la 1 (i_gi 9 0 (i_mul (i_cv 1 1 T_X1_begin (i_la 0 (i_gr 7 2 (i_c 16 (i_la 1 (i_gi 9 0 (i_mul (i_cv 1 1 T_X1_begin (i_c 0 (i_st 2 (Ok 43)))))))))))))))))))))))
def b_X8_read_43 (Ok : Nat → mm_K) (Post : Option mm_V → mm_S → Prop) (kf : Nat) : mm_K := i_ld 2 (i_la 1 (i_cv 9 0 T_X10_faces (i_if2 (fun x y => y ≤ x) (i_la 0 (i_la 0 (i_gr 7 0 (i_la 0 (i_gr 7 3 (i_cv 1 1 T_X1_numberThem (i_pi 7 7 (i_la 0 (i_la 0 (i_gr 7 1 (i_la 0 (i_gr 7 4 (i_cv 1 1 T_X1_numberThem (i_pi 7 8 (i_la 0 (i_c 6 (i_la 1 (i_gi 9 0 (i_mul (i_cv 7 1 T_X8_measureLines (i_vr Post kf))))))))))))))))))))) (i_la 1 (i_ld 2 (i_cv 9 1 T_X10_leads (i_if (fun x => x = 0) (Ok 65) (i_la 0 (i_la 1 (i_ld 2 (i_cv 7 2 T_X8_joinFaces (Ok 65))))))))))))
def b_X8_read_65 (Ok : Nat → mm_K) (Post : Option mm_V → mm_S → Prop) (kf : Nat) : mm_K := i_inc 2 1 (Ok 43)
def clo_X8_read (Ok : Nat → mm_K) (Post : Option mm_V → mm_S → Prop) (kf : Nat) : Prop := mm_imp (b_X8_read_0 Ok Post kf) (Ok 0) ∧ mm_imp (b_X8_read_43 Ok Post kf) (Ok 43) ∧ mm_imp (b_X8_read_65 Ok Post kf) (Ok 65)
set_option maxRecDepth 100000 in
set_option maxHeartbeats 4000000 in
theorem bk_X8_read {p : Program} {l : Launch} {e : Env} {s : State} {m : MethodId} {args : Array Value} {below : List Frame} {meth : Method} {c : Code} {G : mm_G} {σ0 : mm_S} {Post : Option mm_V → mm_S → Prop} (hC : mm_C p G s m args meth c cX8_read yX8_read.cls) (hr : meth.sig.returnType = none) : clo_X8_read (mm_O p l e rm_X8_read s m args below meth c G σ0.2.2 (MQ below (mm_Qc G σ0 rm_X8_read.cells rm_X8_read.slots Post) args s rm_X8_read.cells rm_X8_read.slots (mm_A G))) Post σ0.2.2 := ⟨(by unfold b_X8_read_0; exact (mm_la_n hC dX8_read_0 rfl (mm_gr hC cl_7 (by decide) rfl wd_165 dX8_read_1 (mm_ic hC dX8_read_4 ⟨by decide, by decide⟩ (mm_la_n hC dX8_read_5 rfl (mm_gi hC cl_9 (by decide) rfl wd_120 dX8_read_6 (mm_mul hC dX8_read_9 (mm_cv hC sp_X1_begin ⟨rfl, rfl⟩ cl_1 wd_366 wd_367 wd_368 wd_369 wd_71 ⟨by decide, by decide, by decide +kernel⟩ ⟨by decide, by decide⟩ dX8_read_10 (mm_la_n hC dX8_read_13 rfl (mm_gr hC cl_7 (by decide) rfl wd_166 dX8_read_14 (mm_bp hC dX8_read_17 ⟨⟨by decide, by decide⟩, by decide⟩ (mm_la_n hC dX8_read_19 rfl (mm_gi hC cl_9 (by decide) rfl wd_120 dX8_read_20 (mm_mul hC dX8_read_23 (mm_cv hC sp_X1_begin ⟨rfl, rfl⟩ cl_1 wd_366 wd_367 wd_368 wd_369 wd_71 ⟨by decide, by decide, by decide +kernel⟩ ⟨by decide, by decide⟩ dX8_read_24 (mm_la_n hC dX8_read_27 rfl (mm_gr hC cl_7 (by decide) rfl wd_167 dX8_read_28 (mm_bp hC dX8_read_31 ⟨⟨by decide, by decide⟩, by decide⟩ (mm_la_n hC dX8_read_33 rfl (mm_gi hC cl_9 (by decide) rfl wd_120 dX8_read_34 (mm_mul hC dX8_read_37 (mm_cv hC sp_X1_begin ⟨rfl, rfl⟩ cl_1 wd_366 wd_367 wd_368 wd_369 wd_71 ⟨by decide, by decide, by decide +kernel⟩ ⟨by decide, by decide⟩ dX8_read_38 (mm_ic hC dX8_read_41 ⟨by decide, by decide⟩ (mm_st_n hC dX8_read_42 rfl (fun _ _ _ h => h))))))))))))))))))))))))), (by unfold b_X8_read_43; exact (mm_ld_n hC dX8_read_43 rfl (mm_la_n hC dX8_read_44 rfl (mm_cv hC sp_X10_faces ⟨rfl, rfl⟩ cl_9 wd_373 wd_358 wd_359 wd_360 wd_67 ⟨by decide, by decide, by decide +kernel⟩ ⟨by decide, by decide⟩ dX8_read_45 (mm_ic_ge hC (t := 71) dX8_read_48 (by decide) (mm_la_n hC dX8_read_71 rfl (mm_la_n hC dX8_read_72 rfl (mm_gr hC cl_7 (by decide) rfl wd_165 dX8_read_73 (mm_la_n hC dX8_read_76 rfl (mm_gr hC cl_7 (by decide) rfl wd_168 dX8_read_77 (mm_cv hC sp_X1_numberThem ⟨rfl, rfl⟩ cl_1 wd_405 wd_406 wd_407 wd_408 wd_71 ⟨by decide, by decide, by decide +kernel⟩ ⟨by decide, by decide⟩ dX8_read_80 (mm_pi hC cl_7 (by decide) rfl rfl rfl wd_177 dX8_read_83 (mm_la_n hC dX8_read_86 rfl (mm_la_n hC dX8_read_87 rfl (mm_gr hC cl_7 (by decide) rfl wd_166 dX8_read_88 (mm_la_n hC dX8_read_91 rfl (mm_gr hC cl_7 (by decide) rfl wd_171 dX8_read_92 (mm_cv hC sp_X1_numberThem ⟨rfl, rfl⟩ cl_1 wd_405 wd_406 wd_407 wd_408 wd_71 ⟨by decide, by decide, by decide +kernel⟩ ⟨by decide, by decide⟩ dX8_read_95 (mm_pi hC cl_7 (by decide) rfl rfl rfl wd_180 dX8_read_98 (mm_la_n hC dX8_read_101 rfl (mm_bp hC dX8_read_102 ⟨⟨by decide, by decide⟩, by decide⟩ (mm_la_n hC dX8_read_104 rfl (mm_gi hC cl_9 (by decide) rfl wd_120 dX8_read_105 (mm_mul hC dX8_read_108 (mm_cv hC sp_X8_measureLines ⟨rfl, rfl⟩ cl_7 wd_409 wd_411 wd_2 wd_412 wd_70 ⟨by decide, by decide, by decide +kernel⟩ ⟨by decide, by decide⟩ dX8_read_109 (mm_vr hC ⟨rfl, rfl⟩ hr dX8_read_112))))))))))))))))))))) (mm_la_n hC dX8_read_51 rfl (mm_ld_n hC dX8_read_52 rfl (mm_cv hC sp_X10_leads ⟨rfl, rfl⟩ cl_9 wd_374 wd_375 wd_376 wd_377 wd_67 ⟨by decide, by decide, by decide +kernel⟩ ⟨by decide, by decide⟩ dX8_read_53 (mm_if_eq hC (t := 65) dX8_read_56 (by decide) (fun _ _ _ h => h) (mm_la_n hC dX8_read_59 rfl (mm_la_n hC dX8_read_60 rfl (mm_ld_n hC dX8_read_61 rfl (mm_cv hC sp_X8_joinFaces ⟨rfl, rfl⟩ cl_7 wd_378 wd_380 wd_0 wd_381 wd_70 ⟨by decide, by decide, by decide +kernel⟩ ⟨by decide, by decide⟩ dX8_read_62 (fun _ _ _ h => h)))))))))))))), (by unfold b_X8_read_65; exact (mm_inc hC dX8_read_65 (mm_goto hC (t := 43) dX8_read_68 (by decide) (fun _ _ _ h => h))))⟩
set_option maxRecDepth 100000 in
set_option maxHeartbeats 8000000 in
theorem pv_X8_read : ∀ (av : List mm_V) (σ : mm_S) (Post : Option mm_V → mm_S → Prop), (∀ v ∈ av, mm_iv v) → (∀ a j, mm_in (σ.1 a j)) → σ.2.2 ≤ 348 → T_X8_read av σ Post → ∀ Ok : Nat → mm_K, clo_X8_read Ok Post σ.2.2 → Ok 0 (av ++ List.replicate (3 - av.length) (.inr none)) [] σ := by
  intro av σ Post hav hin hk hT Ok hcl
  obtain ⟨I, R0⟩ := σ
  unfold T_X8_read at hT
  split at hT
  · rename_i s w
    obtain ⟨h0, hT⟩ := hT
    have h0 : R0 = mm_R0 := h0
    subst h0
    dsimp only at hT hin
    obtain ⟨c0, c43, c65⟩ := hcl
    obtain ⟨rfl, rfl, n, ⟨hn, hn1, hn3, hg⟩, hP⟩ := hT
    obtain ⟨r0, r1, r2, r3, r4, r5, r6⟩ := Rs_18
    obtain ⟨s0, s1, s2, s3, s4, s5, s6, s7, s8, s9, s10⟩ := sh_18
    obtain ⟨w1, w2, w3, w4, w5, w6⟩ := Rs_2
    have loop : ∀ (d f : Nat) (I' : Nat → Nat → Int), f + d = 4 * n → (∀ b, b < 18 ∨ 29 ≤ b → I' b = I b) → skI I' n → ag I' n (fo (sF (I 3) (I 4)) f (id, id, id)) → Ok 43 [.inr (some 18), .inr (some 2), .inl (f : Int)] [] (I', mm_R0) := by
      intro d
      induction d with
      | zero =>
        intro f I' hd q1 q2 q3
        have e2 : I' 2 = I 2 := q1 2 (by omega)
        rw [show f = 4 * n by omega] at q3
        obtain ⟨L, hL⟩ : ∃ L, fo (sF (I 3) (I 4)) (4 * n) (id, id, id) = L := ⟨_, rfl⟩
        have hsk : skel n (I 3) (I 4) = L := hL
        rw [hL] at q3
        rw [hsk] at hP
        obtain ⟨g1, g2, g3, g4, g5, g6⟩ := q2
        have e1 : ((4 * n : Nat) : Int) ≤ ((12 : Nat) : Int) := by omega
        refine c43 _ _ _ ?_
        simp only [b_X8_read_43, i_ld, i_la, i_st, i_sa, i_c, i_inc, i_add, i_sub, i_mul, i_div, i_rem, i_remT, i_xor, i_dup, i_dup2, i_if, i_if2, i_sw, i_gi, i_gr, i_pi, i_pz, i_ial, i_ias, i_len, i_aal, i_gs, i_tal, i_cv, i_cs, i_ir, i_zr, i_vr, i_min, i_max, i_cpy, List.getElem?_cons_zero, List.getElem?_cons_succ, List.set_cons_zero, List.set_cons_succ, List.length_cons, List.length_nil, List.drop_succ_cons, List.drop_zero, List.take_succ_cons, List.take_zero, List.reverse_cons, List.reverse_nil, List.nil_append, List.cons_append, Option.toList_some, Option.toList_none, true_and, and_true, true_or, or_true, Nat.reduceAdd, Nat.reduceLT, Nat.reduceLeDiff, Option.some.injEq, exists_eq_left', Int.toNat_natCast, Nat.reduceSub, List.append_nil, List.replicate_succ, List.replicate_zero, mm_in, T_X10_faces, w4, e2, hn, r0, r1, r3, r4, s0, s1, s2, s3, s4, s7, s8, T_X1_numberThem, T_X8_measureLines, g1, e1]
        refine ⟨by omega, by omega, fun _ => ⟨by decide, by omega, g4, fun I1 f1 u1 m1 v1 => ?_⟩, fun z => by omega⟩
        have a21 : mm_set I1 18 7 (nr (rt (fi I' 20)) (4 * n)) 21 1 = ((6 * n : Nat) : Int) := by simp [mm_set]; rw [f1 21 (by decide) (by decide)]; exact g2
        have a22 : mm_set I1 18 7 (nr (rt (fi I' 20)) (4 * n)) 22 = I' 22 := by rw [← f1 22 (by decide) (by decide)]; funext j; simp [mm_set]
        rw [a21]
        simp only [Int.toNat_natCast]
        have a22' : fi (mm_set I1 18 7 (nr (rt (fi I' 20)) (4 * n))) 22 = fi I' 22 := fi_congr a22
        have a22u : ufi (mm_set I1 18 7 (nr (rt (fi I' 20)) (4 * n))) 22 (6 * n) := fun i hi => by rw [a22]; exact g5 i hi
        rw [a22']
        refine ⟨by decide, by omega, by omega, by omega, a22u, fun I2 f2 u2 m2 v2 => ?_⟩
        have b2 : I2 2 = I 2 := by rw [f2 2 (by decide) (by decide)]; rw [← e2, ← f1 2 (by decide) (by decide)]; funext j; simp [mm_set]
        have c2 : mm_set I2 18 8 (nr (rt (fi I' 22)) (6 * n)) 2 = I 2 := by rw [← b2]; funext j; simp [mm_set]
        rw [c2, hn]
        refine fun _ => ⟨⟨by omega, by omega⟩, ?_⟩
        have hcE : ∀ k, k ≤ 6 * n → nr (rt (fi I' 22)) k = nr L.2.1 k := fun k hk => sm_congr (fun j hj => by rw [q3.2.1 j (by omega)])
        have hcC : ∀ k, k ≤ 4 * n → nr (rt (fi I' 20)) k = nr L.1 k := fun k hk => sm_congr (fun j hj => by rw [q3.1 j (by omega)])
        have hEl : ∀ k, k < 6 * n → L.2.1 k ≤ k := fun k hk => by rw [← q3.2.1 k hk]; exact rt_le _ _
        have hCl : ∀ k, k < 4 * n → L.1 k ≤ k := fun k hk => by rw [← q3.1 k hk]; exact rt_le _ _
        have hEr : ∀ k, k < 6 * n → L.2.1 (L.2.1 k) = L.2.1 k := fun k hk => by rw [← q3.2.1 (L.2.1 k) (by have := hEl k hk; omega), ← q3.2.1 k hk]; exact rt_rt _ _
        have h26 : ∀ e, e < 6 * n → mm_set I2 18 8 (nr (rt (fi I' 22)) (6 * n)) 26 e = nr L.2.1 (L.2.1 e) := by
          intro e he
          have hE := hEl e he
          have : mm_set I2 18 8 (nr (rt (fi I' 22)) (6 * n)) 26 e = I2 26 e := by simp [mm_set]
          rw [this, v2 e he, q3.2.1 e he, hcE _ (by omega)]
        refine ⟨6 * n, by omega, by omega, fun e he => ?_, fun I3 f3 d3 k3 => ?_⟩
        · rw [h26 e he]
          have := nr_b L.2.1 (L.2.1 e)
          have := hEl e he
          omega
        · have e26 : I3 26 = mm_set I2 18 8 (nr (rt (fi I' 22)) (6 * n)) 26 := f3 26 (by decide) (by decide)
          have e24 : I3 24 = I' 24 := by
            rw [f3 24 (by decide) (by decide)]
            have : mm_set I2 18 8 (nr (rt (fi I' 22)) (6 * n)) 24 = I2 24 := by funext j; simp [mm_set]
            rw [this, f2 24 (by decide) (by decide)]
            rw [← f1 24 (by decide) (by decide)]; funext j; simp [mm_set]
          refine hP I3 (fun b hb => ?_) ⟨?_, ?_, fun c hc => ?_, fun e he => ?_, fun e he => ?_, fun e he => ?_, ?_, fun i hi => by rw [e24]; exact g6 i hi, fun k hk => ?_⟩
          · have p0 : b ≠ 18 := by omega
            rw [f3 b (by omega) (by omega)]
            have : mm_set I2 18 8 (nr (rt (fi I' 22)) (6 * n)) b = I2 b := by funext j; simp [mm_set, p0]
            rw [this, f2 b (by omega) (by omega)]
            have : mm_set I1 18 7 (nr (rt (fi I' 20)) (4 * n)) b = I1 b := by funext j; simp [mm_set, p0]
            rw [this, f1 b (by omega) (by omega)]
            exact q1 b hb
          · rw [f3 18 (by decide) (by decide), ← hcC _ (Nat.le_refl _)]
            have : mm_set I2 18 8 (nr (rt (fi I' 22)) (6 * n)) 18 7 = I2 18 7 := by simp [mm_set]
            rw [this, f2 18 (by decide) (by decide)]
            simp [mm_set]
          · rw [f3 18 (by decide) (by decide), ← hcE _ (Nat.le_refl _)]
            simp [mm_set]
          · rw [f3 25 (by decide) (by decide)]
            have : mm_set I2 18 8 (nr (rt (fi I' 22)) (6 * n)) 25 c = I2 25 c := by simp [mm_set]
            rw [this, f2 25 (by decide) (by decide)]
            have : mm_set I1 18 7 (nr (rt (fi I' 20)) (4 * n)) 25 c = I1 25 c := by simp [mm_set]
            have hC := hCl c hc
            rw [this, v1 c hc, q3.1 c hc, hcC _ (by omega)]
          · rw [e26, h26 e he]
          · refine (congrArg (fun z : Int => I3 27 z.toNat) (h26 e he)).symm.trans ((d3 e he).trans (sm_congr (fun k hk => ?_)))
            by_cases z : L.2.1 k = L.2.1 e
            · rw [if_pos z, if_pos (by rw [h26 k hk, h26 e he, z])]
            · rw [if_neg z, if_neg (fun q => z (nr_inj (hEr k hk) (hEr e he) (by rw [← h26 k hk, ← h26 e he]; exact q)))]
          · have h5 := k3 e he
            rw [h26 e he] at h5
            obtain ⟨x, hx⟩ := Int.eq_ofNat_of_zero_le h5.1
            rw [hx, Int.toNat_natCast] at h5
            have hxe : x < 6 * n := by omega
            rw [h26 x hxe] at h5
            have h6 := nr_inj (hEr x hxe) (hEr e he) h5.2.2
            have h7 := k3 (L.2.1 e) (by have := hEl e he; omega)
            rw [h26 (L.2.1 e) (by have := hEl e he; omega), hEr e he, hx] at h7
            have := hEl x hxe
            rw [hx]
            omega
          · rw [f3 23 (by decide) (by decide)]
            have : mm_set I2 18 8 (nr (rt (fi I' 22)) (6 * n)) 23 1 = I2 23 1 := by simp [mm_set]
            rw [this, f2 23 (by decide) (by decide)]
            have : mm_set I1 18 7 (nr (rt (fi I' 20)) (4 * n)) 23 1 = I1 23 1 := by simp [mm_set]
            rw [this, f1 23 (by decide) (by decide)]
            exact g3
          · have : fi I3 24 = fi I' 24 := by unfold fi; rw [e24]
            rw [this]; exact q3.2.2 k hk
      | succ d ih =>
        intro f I' hd q1 q2 q3
        have e2 : I' 2 = I 2 := q1 2 (by omega)
        have e3 : I' 3 = I 3 := q1 3 (by omega)
        have e4 : I' 4 = I 4 := q1 4 (by omega)
        refine c43 _ _ _ ?_
        simp only [b_X8_read_43, i_ld, i_la, i_st, i_sa, i_c, i_inc, i_add, i_sub, i_mul, i_div, i_rem, i_remT, i_xor, i_dup, i_dup2, i_if, i_if2, i_sw, i_gi, i_gr, i_pi, i_pz, i_ial, i_ias, i_len, i_aal, i_gs, i_tal, i_cv, i_cs, i_ir, i_zr, i_vr, i_min, i_max, i_cpy, List.getElem?_cons_zero, List.getElem?_cons_succ, List.set_cons_zero, List.set_cons_succ, List.length_cons, List.length_nil, List.drop_succ_cons, List.drop_zero, List.take_succ_cons, List.take_zero, List.reverse_cons, List.reverse_nil, List.nil_append, List.cons_append, Option.toList_some, Option.toList_none, true_and, and_true, true_or, or_true, Nat.reduceAdd, Nat.reduceLT, Nat.reduceLeDiff, Option.some.injEq, exists_eq_left', Int.toNat_natCast, Nat.reduceSub, List.append_nil, List.replicate_succ, List.replicate_zero, mm_in, T_X10_faces, w4, e2, hn, T_X10_leads, e3, s0, T_X8_joinFaces]
        refine ⟨by omega, by omega, fun z => by omega, fun _ => ⟨f, rfl, by omega, fun z hz => ⟨fun q => ?_, fun q => ?_⟩⟩⟩
        · refine c65 _ _ _ ?_
          simp only [b_X8_read_65, i_ld, i_la, i_st, i_sa, i_c, i_inc, i_add, i_sub, i_mul, i_div, i_rem, i_remT, i_xor, i_dup, i_dup2, i_if, i_if2, i_sw, i_gi, i_gr, i_pi, i_pz, i_ial, i_ias, i_len, i_aal, i_gs, i_tal, i_cv, i_cs, i_ir, i_zr, i_vr, i_min, i_max, i_cpy, List.getElem?_cons_zero, List.getElem?_cons_succ, List.set_cons_zero, List.set_cons_succ, List.length_cons, List.length_nil, List.drop_succ_cons, List.drop_zero, List.take_succ_cons, List.take_zero, List.reverse_cons, List.reverse_nil, List.nil_append, List.cons_append, Option.toList_some, Option.toList_none, true_and, and_true, true_or, or_true, Nat.reduceAdd, Nat.reduceLT, Nat.reduceLeDiff, Option.some.injEq, exists_eq_left', Int.toNat_natCast, Nat.reduceSub, List.append_nil, List.replicate_succ, List.replicate_zero, mm_in,]
          repeat' first | refine And.intro ?_ ?_ | intro _
          all_goals try omega
          refine ih (f + 1) I' (by omega) q1 q2 ?_
          show ag I' n (sF (I 3) (I 4) f (fo (sF (I 3) (I 4)) f (id, id, id)))
          unfold sF
          rw [if_neg (by rcases hz with ⟨z1, z2⟩ | ⟨z1, z2⟩; omega; exact z2)]
          exact q3
        · have hlead : (f : Int) < I 3 f := by rcases hz with ⟨z1, z2⟩ | ⟨z1, z2⟩; exact z2; omega
          refine ⟨f, n, rfl, ⟨by rw [e2]; exact hn, hn1, hn3, by rw [e3, e4]; exact hg⟩, q2, by omega, hlead, fun I2 f1 f2 f3 => ?_⟩
          refine c65 _ _ _ ?_
          simp only [b_X8_read_65, i_ld, i_la, i_st, i_sa, i_c, i_inc, i_add, i_sub, i_mul, i_div, i_rem, i_remT, i_xor, i_dup, i_dup2, i_if, i_if2, i_sw, i_gi, i_gr, i_pi, i_pz, i_ial, i_ias, i_len, i_aal, i_gs, i_tal, i_cv, i_cs, i_ir, i_zr, i_vr, i_min, i_max, i_cpy, List.getElem?_cons_zero, List.getElem?_cons_succ, List.set_cons_zero, List.set_cons_succ, List.length_cons, List.length_nil, List.drop_succ_cons, List.drop_zero, List.take_succ_cons, List.take_zero, List.reverse_cons, List.reverse_nil, List.nil_append, List.cons_append, Option.toList_some, Option.toList_none, true_and, and_true, true_or, or_true, Nat.reduceAdd, Nat.reduceLT, Nat.reduceLeDiff, Option.some.injEq, exists_eq_left', Int.toNat_natCast, Nat.reduceSub, List.append_nil, List.replicate_succ, List.replicate_zero, mm_in,]
          repeat' first | refine And.intro ?_ ?_ | intro _
          all_goals try omega
          refine ih (f + 1) I2 (by omega) (fun b hb => by rw [f1 b (by omega) (by omega) (by omega)]; exact q1 b hb) f2 ?_
          show ag I2 n (sF (I 3) (I 4) f (fo (sF (I 3) (I 4)) f (id, id, id)))
          unfold sF
          rw [if_pos hlead]
          have := f3 _ q3
          rw [e4] at this
          exact this
    have rid : ∀ (J : Nat → Nat → Int) (u m : Nat), (∀ i, i < m → J u i = i) → (ufi J u m ∧ ∀ k, k < m → rt (fi J u) k = k) := fun J u m h => ⟨fun i hi => by rw [h i hi]; omega, fun k hk => rt_top (by unfold fi; rw [h k hk]; omega)⟩
    refine c0 _ _ _ ?_
    simp only [b_X8_read_0, i_ld, i_la, i_st, i_sa, i_c, i_inc, i_add, i_sub, i_mul, i_div, i_rem, i_remT, i_xor, i_dup, i_dup2, i_if, i_if2, i_sw, i_gi, i_gr, i_pi, i_pz, i_ial, i_ias, i_len, i_aal, i_gs, i_tal, i_cv, i_cs, i_ir, i_zr, i_vr, i_min, i_max, i_cpy, List.getElem?_cons_zero, List.getElem?_cons_succ, List.set_cons_zero, List.set_cons_succ, List.length_cons, List.length_nil, List.drop_succ_cons, List.drop_zero, List.take_succ_cons, List.take_zero, List.reverse_cons, List.reverse_nil, List.nil_append, List.cons_append, Option.toList_some, Option.toList_none, true_and, and_true, true_or, or_true, Nat.reduceAdd, Nat.reduceLT, Nat.reduceLeDiff, Option.some.injEq, exists_eq_left', Int.toNat_natCast, Nat.reduceSub, List.append_nil, List.replicate_succ, List.replicate_zero, mm_in, r0, r1, r2, s0, s1, s2, s3, s4, s5, s6, T_X1_begin, w4, hn]
    refine fun _ => ⟨⟨by omega, by omega⟩, by omega, by omega, fun I1 f1 x1 y1 => ?_⟩
    have e1 : I1 2 0 = n := by rw [f1 2 (by decide) (by decide)]; exact hn
    rw [e1]
    refine fun _ => ⟨⟨by omega, by omega⟩, by omega, by omega, fun I2 f2 x2 y2 => ?_⟩
    have e1 : I2 2 0 = n := by rw [f2 2 (by decide) (by decide), f1 2 (by decide) (by decide)]; exact hn
    rw [e1]
    refine fun _ => ⟨⟨by omega, by omega⟩, by omega, by omega, fun I3 f3 x3 y3 => ?_⟩
    have z20 : ∀ i, i < 4 * n → I3 20 i = i := fun i hi => by rw [f3 20 (by decide) (by decide), f2 20 (by decide) (by decide)]; exact y1 i (by omega)
    have z22 : ∀ i, i < 6 * n → I3 22 i = i := fun i hi => by rw [f3 22 (by decide) (by decide)]; exact y2 i (by omega)
    have z24 : ∀ i, i < 16 * n → I3 24 i = i := fun i hi => y3 i (by omega)
    refine loop (4 * n) 0 I3 (by omega) (fun b hb => by rw [f3 b (by omega) (by omega), f2 b (by omega) (by omega), f1 b (by omega) (by omega)]) ⟨?_, ?_, ?_, (rid I3 20 _ z20).1, (rid I3 22 _ z22).1, (rid I3 24 _ z24).1⟩ ⟨(rid I3 20 _ z20).2, (rid I3 22 _ z22).2, (rid I3 24 _ z24).2⟩
    · rw [f3 19 (by decide) (by decide), f2 19 (by decide) (by decide), x1]; omega
    · rw [f3 21 (by decide) (by decide), x2]; omega
    · rw [x3]; omega
  · exact hT.elim
theorem sp_X8_read : mm_Sp yX8_read cX8_read 3 none rm_X8_read T_X8_read := mm_meth (by decide) (by
  intro av σ Post h
  unfold T_X8_read at h
  split at h
  · simp
  · exact h.elim) (fun p l e s m args below meth c G av σ Post hC hr _ hav hin hk hT => pv_X8_read av σ Post hav hin hk hT _ (bk_X8_read hC hr))

/-- the line of edge e is reversed at e -/
def rv (A : Nat → Nat) (e : Nat) : Prop := A (16 * (e / 6) + 4 * elo (e % 6) + ehi (e % 6)) = A (16 * (e / 6) + 4 * ehi (e % 6) + elo (e % 6))
def T_X8_isReversed : mm_T := fun av σ Post => match av with
  | [.inr (some s), .inl x] => σ.2 = mm_R0 ∧ s = 18 ∧ ∃ (l e n : Nat), x = l ∧ l < 18 ∧ n ≤ 3 ∧ e < 6 * n ∧ σ.1 28 l = e ∧ σ.1 23 1 = (16 * n : Nat) ∧ ufi σ.1 24 (16 * n) ∧
    ∀ (I' : Nat → Nat → Int) (z : Int), (∀ b, b ≠ 24 → I' b = σ.1 b) → ufi I' 24 (16 * n) → (∀ k, k < 16 * n → rt (fi I' 24) k = rt (fi σ.1 24) k) → bz z (rv (rt (fi σ.1 24)) e) → Post (some (.inl z)) (I', mm_R0)
  | _ => False
def rm_X8_isReversed : Room := { frames := 1, cells := 0, slots := 0, locals := 23 }
def b_X8_isReversed_0 (Ok : Nat → mm_K) (Post : Option mm_V → mm_S → Prop) (kf : Nat) : mm_K := i_la 0 (i_gr 7 6 (i_ld 1 (i_ial (i_st 2 (i_c 16 (i_ld 2 (i_c 6 (i_div (i_mul (i_st 3 (i_gs 2 (i_ld 2 (i_c 6 (i_rem (i_tal 2 (i_st 4 (i_gs 3 (i_ld 2 (i_c 6 (i_rem (i_tal 3 (i_st 5 (i_la 0 (i_gr 7 2 (i_ld 3 (i_c 4 (i_ld 4 (i_mul (i_add (i_ld 5 (i_add (i_cv 1 1 T_X1_least (i_la 0 (i_gr 7 2 (i_ld 3 (i_c 4 (i_ld 5 (i_mul (i_add (i_ld 4 (i_add (i_cv 1 1 T_X1_least (i_if2 (fun x y => ¬ x = y) (i_c 0 (Ok 75)) (i_c 1 (Ok 75)))))))))))))))))))))))))))))))))))))))))))))
def b_X8_isReversed_75 (Ok : Nat → mm_K) (Post : Option mm_V → mm_S → Prop) (kf : Nat) : mm_K := i_zr Post kf
def clo_X8_isReversed (Ok : Nat → mm_K) (Post : Option mm_V → mm_S → Prop) (kf : Nat) : Prop := mm_imp (b_X8_isReversed_0 Ok Post kf) (Ok 0) ∧ mm_imp (b_X8_isReversed_75 Ok Post kf) (Ok 75)
set_option maxRecDepth 100000 in
set_option maxHeartbeats 4000000 in
theorem bk_X8_isReversed {p : Program} {l : Launch} {e : Env} {s : State} {m : MethodId} {args : Array Value} {below : List Frame} {meth : Method} {c : Code} {G : mm_G} {σ0 : mm_S} {Post : Option mm_V → mm_S → Prop} (hC : mm_C p G s m args meth c cX8_isReversed yX8_isReversed.cls) (hr : meth.sig.returnType = some .boolean) : clo_X8_isReversed (mm_O p l e rm_X8_isReversed s m args below meth c G σ0.2.2 (MQ below (mm_Qc G σ0 rm_X8_isReversed.cells rm_X8_isReversed.slots Post) args s rm_X8_isReversed.cells rm_X8_isReversed.slots (mm_A G))) Post σ0.2.2 := ⟨(by unfold b_X8_isReversed_0; exact (mm_la_n hC dX8_isReversed_0 rfl (mm_gr hC cl_7 (by decide) rfl wd_175 dX8_isReversed_1 (mm_ld_n hC dX8_isReversed_4 rfl (mm_ial hC dX8_isReversed_5 (mm_st_n hC dX8_isReversed_6 rfl (mm_bp hC dX8_isReversed_7 ⟨⟨by decide, by decide⟩, by decide⟩ (mm_ld_n hC dX8_isReversed_9 rfl (mm_bp hC dX8_isReversed_10 ⟨⟨by decide, by decide⟩, by decide⟩ (mm_div hC dX8_isReversed_12 (mm_mul hC dX8_isReversed_13 (mm_st_n hC dX8_isReversed_14 rfl (mm_gs hC (by decide) wd_422 dX8_isReversed_15 (mm_ld_n hC dX8_isReversed_18 rfl (mm_bp hC dX8_isReversed_19 ⟨⟨by decide, by decide⟩, by decide⟩ (mm_rem hC dX8_isReversed_21 (mm_tal hC (by decide) (mm_tbin _) dX8_isReversed_22 (mm_st hC dX8_isReversed_23 (mm_gs hC (by decide) wd_424 dX8_isReversed_25 (mm_ld_n hC dX8_isReversed_28 rfl (mm_bp hC dX8_isReversed_29 ⟨⟨by decide, by decide⟩, by decide⟩ (mm_rem hC dX8_isReversed_31 (mm_tal hC (by decide) (mm_tbin _) dX8_isReversed_32 (mm_st hC dX8_isReversed_33 (mm_la_n hC dX8_isReversed_35 rfl (mm_gr hC cl_7 (by decide) rfl wd_167 dX8_isReversed_36 (mm_ld_n hC dX8_isReversed_39 rfl (mm_ic hC dX8_isReversed_40 ⟨by decide, by decide⟩ (mm_ld hC dX8_isReversed_41 (mm_mul hC dX8_isReversed_43 (mm_add hC dX8_isReversed_44 (mm_ld hC dX8_isReversed_45 (mm_add hC dX8_isReversed_47 (mm_cv hC sp_X1_least ⟨rfl, rfl⟩ cl_1 wd_426 wd_393 wd_394 wd_395 wd_71 ⟨by decide, by decide, by decide +kernel⟩ ⟨by decide, by decide⟩ dX8_isReversed_48 (mm_la_n hC dX8_isReversed_51 rfl (mm_gr hC cl_7 (by decide) rfl wd_167 dX8_isReversed_52 (mm_ld_n hC dX8_isReversed_55 rfl (mm_ic hC dX8_isReversed_56 ⟨by decide, by decide⟩ (mm_ld hC dX8_isReversed_57 (mm_mul hC dX8_isReversed_59 (mm_add hC dX8_isReversed_60 (mm_ld hC dX8_isReversed_61 (mm_add hC dX8_isReversed_63 (mm_cv hC sp_X1_least ⟨rfl, rfl⟩ cl_1 wd_426 wd_393 wd_394 wd_395 wd_71 ⟨by decide, by decide, by decide +kernel⟩ ⟨by decide, by decide⟩ dX8_isReversed_64 (mm_ic_ne hC (t := 74) dX8_isReversed_67 (by decide) (mm_ic hC dX8_isReversed_74 ⟨by decide, by decide⟩ (fun _ _ _ h => h)) (mm_ic hC dX8_isReversed_70 ⟨by decide, by decide⟩ (mm_goto hC (t := 75) dX8_isReversed_71 (by decide) (fun _ _ _ h => h)))))))))))))))))))))))))))))))))))))))))))))))), (by unfold b_X8_isReversed_75; exact (mm_zr hC ⟨rfl, rfl⟩ hr dX8_isReversed_75))⟩
set_option maxRecDepth 100000 in
set_option maxHeartbeats 8000000 in
theorem pv_X8_isReversed : ∀ (av : List mm_V) (σ : mm_S) (Post : Option mm_V → mm_S → Prop), (∀ v ∈ av, mm_iv v) → (∀ a j, mm_in (σ.1 a j)) → σ.2.2 ≤ 348 → T_X8_isReversed av σ Post → ∀ Ok : Nat → mm_K, clo_X8_isReversed Ok Post σ.2.2 → Ok 0 (av ++ List.replicate (6 - av.length) (.inr none)) [] σ := by
  intro av σ Post hav hin hk hT Ok hcl
  obtain ⟨I, R0⟩ := σ
  unfold T_X8_isReversed at hT
  split at hT
  · rename_i s x
    obtain ⟨h0, hT⟩ := hT
    have h0 : R0 = mm_R0 := h0
    subst h0
    dsimp only at hT hin
    obtain ⟨c0, c75⟩ := hcl
    obtain ⟨rfl, l, e, n, rfl, h1, h2, h3, h4, h5, h6, hP⟩ := hT
    obtain ⟨r0, r1, r2, r3, r4, r5, r6⟩ := Rs_18
    obtain ⟨s0, s1, s2, s3, s4, s5, s6, s7, s8, s9, s10⟩ := sh_18
    obtain ⟨l1, l2, l3, l4, l5⟩ := elo_b (e % 6) (by omega)
    have t2 : (mm_tl 2).length = 6 := rfl
    have t3 : (mm_tl 3).length = 6 := rfl
    have e1 : (e : Int) / 6 = ((e / 6 : Nat) : Int) := by omega
    have e2 : (e : Int) % 6 = ((e % 6 : Nat) : Int) := by omega
    obtain ⟨c, hc⟩ : ∃ c, elo (e % 6) = c := ⟨_, rfl⟩
    obtain ⟨d, hd⟩ : ∃ d, ehi (e % 6) = d := ⟨_, rfl⟩
    rw [hc] at l1 l3 l4
    rw [hd] at l2 l3 l5
    have x1 : 16 * ((e / 6 : Nat) : Int) + 4 * (c : Int) + (d : Int) = ((16 * (e / 6) + 4 * c + d : Nat) : Int) := by omega
    have x2 : 16 * ((e / 6 : Nat) : Int) + 4 * (d : Int) + (c : Int) = ((16 * (e / 6) + 4 * d + c : Nat) : Int) := by omega
    refine c0 _ _ _ ?_
    simp only [b_X8_isReversed_0, i_ld, i_la, i_st, i_sa, i_c, i_inc, i_add, i_sub, i_mul, i_div, i_rem, i_remT, i_xor, i_dup, i_dup2, i_if, i_if2, i_sw, i_gi, i_gr, i_pi, i_pz, i_ial, i_ias, i_len, i_aal, i_gs, i_tal, i_cv, i_cs, i_ir, i_zr, i_vr, i_min, i_max, i_cpy, List.getElem?_cons_zero, List.getElem?_cons_succ, List.set_cons_zero, List.set_cons_succ, List.length_cons, List.length_nil, List.drop_succ_cons, List.drop_zero, List.take_succ_cons, List.take_zero, List.reverse_cons, List.reverse_nil, List.nil_append, List.cons_append, Option.toList_some, Option.toList_none, true_and, and_true, true_or, or_true, Nat.reduceAdd, Nat.reduceLT, Nat.reduceLeDiff, Option.some.injEq, exists_eq_left', Int.toNat_natCast, Nat.reduceSub, List.append_nil, List.replicate_succ, List.replicate_zero, mm_in, r2, r6, s0, s5, s6, s10, h4, e1, e2, t2, t3, l4, l5, x1, x2, T_X1_least, h5, Int.toNat_natCast]
    repeat' first | refine And.intro ?_ ?_ | refine fun (_ : _ ≤ _ ∧ _ < _) => ?_
    all_goals try omega
    · intro I1 f1 u1 m1
      have e23 : I1 23 1 = ((16 * n : Nat) : Int) := by rw [f1 23 (by decide)]; exact h5
      rw [e23]
      simp only [Int.toNat_natCast]
      repeat' first | refine And.intro ?_ ?_ | refine fun (_ : _ ≤ _ ∧ _ < _) => ?_
      all_goals try omega
      intro I2 f2 u2 m2
      have fin : ∀ z : Int, bz z (rv (rt (fi I 24)) e) → Ok 75 [.inr (some 18), .inl (l : Int), .inl (e : Int), .inl (16 * ((e / 6 : Nat) : Int)), .inl (c : Int), .inl (d : Int)] [.inl z] (I2, mm_R0) := by
        intro z hz
        refine c75 _ _ _ ?_
        simp only [b_X8_isReversed_75, i_ld, i_la, i_st, i_sa, i_c, i_inc, i_add, i_sub, i_mul, i_div, i_rem, i_remT, i_xor, i_dup, i_dup2, i_if, i_if2, i_sw, i_gi, i_gr, i_pi, i_pz, i_ial, i_ias, i_len, i_aal, i_gs, i_tal, i_cv, i_cs, i_ir, i_zr, i_vr, i_min, i_max, i_cpy, List.getElem?_cons_zero, List.getElem?_cons_succ, List.set_cons_zero, List.set_cons_succ, List.length_cons, List.length_nil, List.drop_succ_cons, List.drop_zero, List.take_succ_cons, List.take_zero, List.reverse_cons, List.reverse_nil, List.nil_append, List.cons_append, Option.toList_some, Option.toList_none, true_and, and_true, true_or, or_true, Nat.reduceAdd, Nat.reduceLT, Nat.reduceLeDiff, Option.some.injEq, exists_eq_left', Int.toNat_natCast, Nat.reduceSub, List.append_nil, List.replicate_succ, List.replicate_zero]
        exact ⟨by rcases hz with q | q <;> omega, hP I2 z (fun b hb => by rw [f2 b hb, f1 b hb]) u2 (fun k hk => by rw [m2 k hk, m1 k hk]) hz⟩
      have hrv : rv (rt (fi I 24)) e ↔ rt (fi I 24) (16 * (e / 6) + 4 * c + d) = rt (fi I1 24) (16 * (e / 6) + 4 * d + c) := by
        unfold rv
        rw [hc, hd, m1 _ (by omega)]
      refine ⟨fun q => fin 0 (bz_0 (fun z => q ?_)), fun q => fin 1 (bz_1 ?_)⟩
      · rw [hrv.mp z]
      · rw [hrv]; omega
  · exact hT.elim
theorem sp_X8_isReversed : mm_Sp yX8_isReversed cX8_isReversed 6 (some .boolean) rm_X8_isReversed T_X8_isReversed := mm_meth (by decide) (by
  intro av σ Post h
  unfold T_X8_isReversed at h
  split at h
  · simp
  · exact h.elim) (fun p l e s m args below meth c G av σ Post hC hr _ hav hin hk hT => pv_X8_isReversed av σ Post hav hin hk hT _ (bk_X8_isReversed hC hr))
theorem nr_pre (L : Nat → Nat) : ∀ (N : Nat) (l : Nat), (l : Int) < nr L N → ∃ e, e < N ∧ L e = e ∧ nr L e = l := by
  intro N
  induction N with
  | zero => intro l h; exact absurd h (by show ¬ (l : Int) < 0; omega)
  | succ N ih =>
    intro l h
    have h1 : nr L (N + 1) = nr L N + if L N = N then 1 else 0 := rfl
    by_cases q : (l : Int) < nr L N
    · obtain ⟨e, a, b, c⟩ := ih l q
      exact ⟨e, by omega, b, c⟩
    · by_cases z : L N = N
      · rw [h1, if_pos z] at h
        exact ⟨N, by omega, z, by omega⟩
      · rw [h1, if_neg z] at h
        omega
/-- how many lines are reversed -/
def nrev (L : LT) (n : Nat) (z : Int) : Prop := ∃ g : Nat → Int, (∀ e, e < 6 * n → bz (g e) (L.2.1 e = e ∧ rv L.2.2 e)) ∧ z = sm g (6 * n)
def T_X8_reversedLines : mm_T := fun av σ Post => match av with
  | [.inr (some s)] => σ.2 = mm_R0 ∧ s = 18 ∧ ∃ (n : Nat) (L : LT), n ≤ 3 ∧ SK σ.1 n L ∧
    ∀ (I' : Nat → Nat → Int) (z : Int), (∀ b, b ≠ 24 → I' b = σ.1 b) → SK I' n L → nrev L n z → Post (some (.inl z)) (I', mm_R0)
  | _ => False
def rm_X8_reversedLines : Room := { frames := 2, cells := 0, slots := 0, locals := 48 }
def b_X8_reversedLines_0 (Ok : Nat → mm_K) (Post : Option mm_V → mm_S → Prop) (kf : Nat) : mm_K := i_c 0 (i_st 1 (i_c 0 (i_st 2 (Ok 4))))
def b_X8_reversedLines_4 (Ok : Nat → mm_K) (Post : Option mm_V → mm_S → Prop) (kf : Nat) : mm_K := i_ld 2 (i_la 0 (i_gi 7 8 (i_if2 (fun x y => y ≤ x) (i_ld 1 (i_ir Post kf)) (i_ld 1 (i_la 0 (i_ld 2 (i_cv 7 1 T_X8_isReversed (i_if (fun x => x = 0) (i_c 0 (Ok 26)) (i_c 1 (Ok 26))))))))))
def b_X8_reversedLines_26 (Ok : Nat → mm_K) (Post : Option mm_V → mm_S → Prop) (kf : Nat) : mm_K := i_add (i_st 1 (i_inc 2 1 (Ok 4)))
def clo_X8_reversedLines (Ok : Nat → mm_K) (Post : Option mm_V → mm_S → Prop) (kf : Nat) : Prop := mm_imp (b_X8_reversedLines_0 Ok Post kf) (Ok 0) ∧ mm_imp (b_X8_reversedLines_4 Ok Post kf) (Ok 4) ∧ mm_imp (b_X8_reversedLines_26 Ok Post kf) (Ok 26)
set_option maxRecDepth 100000 in
set_option maxHeartbeats 4000000 in
theorem bk_X8_reversedLines {p : Program} {l : Launch} {e : Env} {s : State} {m : MethodId} {args : Array Value} {below : List Frame} {meth : Method} {c : Code} {G : mm_G} {σ0 : mm_S} {Post : Option mm_V → mm_S → Prop} (hC : mm_C p G s m args meth c cX8_reversedLines yX8_reversedLines.cls) (hr : meth.sig.returnType = some .int) : clo_X8_reversedLines (mm_O p l e rm_X8_reversedLines s m args below meth c G σ0.2.2 (MQ below (mm_Qc G σ0 rm_X8_reversedLines.cells rm_X8_reversedLines.slots Post) args s rm_X8_reversedLines.cells rm_X8_reversedLines.slots (mm_A G))) Post σ0.2.2 := ⟨(by unfold b_X8_reversedLines_0; exact (mm_ic hC dX8_reversedLines_0 ⟨by decide, by decide⟩ (mm_st_n hC dX8_reversedLines_1 rfl (mm_ic hC dX8_reversedLines_2 ⟨by decide, by decide⟩ (mm_st_n hC dX8_reversedLines_3 rfl (fun _ _ _ h => h)))))), (by unfold b_X8_reversedLines_4; exact (mm_ld_n hC dX8_reversedLines_4 rfl (mm_la_n hC dX8_reversedLines_5 rfl (mm_gi hC cl_7 (by decide) rfl wd_180 dX8_reversedLines_6 (mm_ic_ge hC (t := 34) dX8_reversedLines_9 (by decide) (mm_ld_n hC dX8_reversedLines_34 rfl (mm_ir hC ⟨rfl, rfl⟩ hr dX8_reversedLines_35)) (mm_ld_n hC dX8_reversedLines_12 rfl (mm_la_n hC dX8_reversedLines_13 rfl (mm_ld_n hC dX8_reversedLines_14 rfl (mm_cv hC sp_X8_isReversed ⟨rfl, rfl⟩ cl_7 wd_418 wd_419 wd_420 wd_421 wd_70 ⟨by decide, by decide, by decide +kernel⟩ ⟨by decide, by decide⟩ dX8_reversedLines_15 (mm_if_eq hC (t := 25) dX8_reversedLines_18 (by decide) (mm_ic hC dX8_reversedLines_25 ⟨by decide, by decide⟩ (fun _ _ _ h => h)) (mm_ic hC dX8_reversedLines_21 ⟨by decide, by decide⟩ (mm_goto hC (t := 26) dX8_reversedLines_22 (by decide) (fun _ _ _ h => h))))))))))))), (by unfold b_X8_reversedLines_26; exact (mm_add hC dX8_reversedLines_26 (mm_st_n hC dX8_reversedLines_27 rfl (mm_inc hC dX8_reversedLines_28 (mm_goto hC (t := 4) dX8_reversedLines_31 (by decide) (fun _ _ _ h => h))))))⟩
set_option maxRecDepth 100000 in
set_option maxHeartbeats 8000000 in
theorem pv_X8_reversedLines : ∀ (av : List mm_V) (σ : mm_S) (Post : Option mm_V → mm_S → Prop), (∀ v ∈ av, mm_iv v) → (∀ a j, mm_in (σ.1 a j)) → σ.2.2 ≤ 348 → T_X8_reversedLines av σ Post → ∀ Ok : Nat → mm_K, clo_X8_reversedLines Ok Post σ.2.2 → Ok 0 (av ++ List.replicate (3 - av.length) (.inr none)) [] σ := by
  intro av σ Post hav hin hk hT Ok hcl
  obtain ⟨I, R0⟩ := σ
  unfold T_X8_reversedLines at hT
  split at hT
  · rename_i s
    obtain ⟨h0, hT⟩ := hT
    have h0 : R0 = mm_R0 := h0
    subst h0
    dsimp only at hT hin
    obtain ⟨c0, c4, c26⟩ := hcl
    obtain ⟨rfl, n, L, hn, hS, hP⟩ := hT
    obtain ⟨r0, r1, r2, r3, r4, r5, r6⟩ := Rs_18
    obtain ⟨s0, s1, s2, s3, s4, s5, s6, s7, s8, s9, s10⟩ := sh_18
    obtain ⟨k1, k2, k3, k4, k5, k6, k7, k8, k9⟩ := hS
    have hnb := nr_b L.2.1 (6 * n)
    obtain ⟨N, hN⟩ := Int.eq_ofNat_of_zero_le hnb.1
    have loop : ∀ (d l : Nat) (I' : Nat → Nat → Int) (h : Nat → Int), l + d = N → (∀ b, b ≠ 24 → I' b = I b) → ufi I' 24 (16 * n) → (∀ k, k < 16 * n → rt (fi I' 24) k = L.2.2 k) → (∀ j, j < l → bz (h j) (rv L.2.2 (I 28 j).toNat)) → Ok 4 [.inr (some 18), .inl (sm h l), .inl (l : Int)] [] (I', mm_R0) := by
      intro d
      induction d with
      | zero =>
        intro l I' h hd q1 q2 q3 q4
        have e18 : I' 18 8 = (N : Int) := by rw [q1 18 (by decide), k2, hN]
        refine c4 _ _ _ ?_
        simp only [b_X8_reversedLines_4, i_ld, i_la, i_st, i_sa, i_c, i_inc, i_add, i_sub, i_mul, i_div, i_rem, i_remT, i_xor, i_dup, i_dup2, i_if, i_if2, i_sw, i_gi, i_gr, i_pi, i_pz, i_ial, i_ias, i_len, i_aal, i_gs, i_tal, i_cv, i_cs, i_ir, i_zr, i_vr, i_min, i_max, i_cpy, List.getElem?_cons_zero, List.getElem?_cons_succ, List.set_cons_zero, List.set_cons_succ, List.length_cons, List.length_nil, List.drop_succ_cons, List.drop_zero, List.take_succ_cons, List.take_zero, List.reverse_cons, List.reverse_nil, List.nil_append, List.cons_append, Option.toList_some, Option.toList_none, true_and, and_true, true_or, or_true, Nat.reduceAdd, Nat.reduceLT, Nat.reduceLeDiff, Option.some.injEq, exists_eq_left', Int.toNat_natCast, Nat.reduceSub, List.append_nil, List.replicate_succ, List.replicate_zero, mm_in, s0, e18]
        repeat' first | refine And.intro ?_ ?_ | intro _
        all_goals try omega
        refine hP I' _ q1 ⟨by rw [q1 18 (by decide)]; exact k1, by rw [q1 18 (by decide)]; exact k2, fun c hc => by rw [q1 25 (by decide)]; exact k3 c hc, fun c hc => by rw [q1 26 (by decide)]; exact k4 c hc, fun c hc => by rw [q1 27 (by decide)]; exact k5 c hc, fun c hc => by rw [q1 28 (by decide)]; exact k6 c hc, by rw [q1 23 (by decide)]; exact k7, q2, q3⟩ ⟨fun e => if L.2.1 e = e then h (nr L.2.1 e).toNat else 0, fun e he => ?_, ?_⟩
        · dsimp only
          by_cases z : L.2.1 e = e
          · rw [if_pos z]
            have h6 := k6 e he
            rw [z] at h6
            have hlt : nr L.2.1 e < nr L.2.1 (6 * n) := by
              have h7 := nr_mono L.2.1 (show e + 1 ≤ 6 * n from he)
              have h8 : nr L.2.1 (e + 1) = nr L.2.1 e + if L.2.1 e = e then 1 else 0 := rfl
              rw [h8, if_pos z] at h7
              omega
            have h9 := nr_b L.2.1 e
            have := q4 (nr L.2.1 e).toNat (by omega)
            rw [h6, Int.toNat_natCast] at this
            rcases this with ⟨a1, a2⟩ | ⟨a1, a2⟩
            · exact Or.inl ⟨a1, z, a2⟩
            · exact Or.inr ⟨a1, fun q => a2 q.2⟩
          · rw [if_neg z]
            exact Or.inr ⟨rfl, fun q => z q.1⟩
        · have := sm_roots L.2.1 h (6 * n)
          rw [← this, hN, Int.toNat_natCast, show l = N by omega]
      | succ d ih =>
        intro l I' h hd q1 q2 q3 q4
        have e18 : I' 18 8 = (N : Int) := by rw [q1 18 (by decide), k2, hN]
        obtain ⟨e, a1, a2, a3⟩ := nr_pre L.2.1 (6 * n) l (by omega)
        have h28 : I' 28 l = e := by
          have := k6 e a1
          rw [a2, a3, Int.toNat_natCast] at this
          rw [q1 28 (by decide)]; exact this
        have h28' : I 28 l = e := by rw [← q1 28 (by decide)]; exact h28
        have hb := sm_bound (f := h) (n := l) (c := 1) (fun k hk => by rcases q4 k hk with q | q <;> omega)
        refine c4 _ _ _ ?_
        simp only [b_X8_reversedLines_4, i_ld, i_la, i_st, i_sa, i_c, i_inc, i_add, i_sub, i_mul, i_div, i_rem, i_remT, i_xor, i_dup, i_dup2, i_if, i_if2, i_sw, i_gi, i_gr, i_pi, i_pz, i_ial, i_ias, i_len, i_aal, i_gs, i_tal, i_cv, i_cs, i_ir, i_zr, i_vr, i_min, i_max, i_cpy, List.getElem?_cons_zero, List.getElem?_cons_succ, List.set_cons_zero, List.set_cons_succ, List.length_cons, List.length_nil, List.drop_succ_cons, List.drop_zero, List.take_succ_cons, List.take_zero, List.reverse_cons, List.reverse_nil, List.nil_append, List.cons_append, Option.toList_some, Option.toList_none, true_and, and_true, true_or, or_true, Nat.reduceAdd, Nat.reduceLT, Nat.reduceLeDiff, Option.some.injEq, exists_eq_left', Int.toNat_natCast, Nat.reduceSub, List.append_nil, List.replicate_succ, List.replicate_zero, mm_in, s0, e18, T_X8_isReversed]
        refine fun _ => ⟨fun z => by omega, fun _ => ⟨l, e, n, rfl, by omega, hn, a1, h28, by rw [q1 23 (by decide)]; exact k7, q2, fun I2 z f1 u1 m1 hz => ?_⟩⟩
        have hrv : rv (rt (fi I' 24)) e ↔ rv L.2.2 e := by
          obtain ⟨l1, l2, l3, l4, l5⟩ := elo_b (e % 6) (by omega)
          unfold rv
          rw [q3 _ (by omega), q3 _ (by omega)]
        have go : ∀ y : Int, bz y (rv L.2.2 e) → Ok 26 [.inr (some 18), .inl (sm h l), .inl (l : Int)] [.inl y, .inl (sm h l)] (I2, mm_R0) := by
          intro y hy
          have hy2 : y = 0 ∨ y = 1 := by rcases hy with q | q <;> omega
          refine c26 _ _ _ ?_
          simp only [b_X8_reversedLines_26, i_ld, i_la, i_st, i_sa, i_c, i_inc, i_add, i_sub, i_mul, i_div, i_rem, i_remT, i_xor, i_dup, i_dup2, i_if, i_if2, i_sw, i_gi, i_gr, i_pi, i_pz, i_ial, i_ias, i_len, i_aal, i_gs, i_tal, i_cv, i_cs, i_ir, i_zr, i_vr, i_min, i_max, i_cpy, List.getElem?_cons_zero, List.getElem?_cons_succ, List.set_cons_zero, List.set_cons_succ, List.length_cons, List.length_nil, List.drop_succ_cons, List.drop_zero, List.take_succ_cons, List.take_zero, List.reverse_cons, List.reverse_nil, List.nil_append, List.cons_append, Option.toList_some, Option.toList_none, true_and, and_true, true_or, or_true, Nat.reduceAdd, Nat.reduceLT, Nat.reduceLeDiff, Option.some.injEq, exists_eq_left', Int.toNat_natCast, Nat.reduceSub, List.append_nil, List.replicate_succ, List.replicate_zero, mm_in,]
          repeat' first | refine And.intro ?_ ?_ | intro _
          all_goals try omega
          have hsum : sm (fun j => if j = l then y else h j) (l + 1) = sm h l + y := by
            show sm (fun j => if j = l then y else h j) l + (if l = l then y else h l) = _
            rw [if_pos rfl]
            congr 1
            exact sm_congr (fun k hk => if_neg (by omega))
          rw [← hsum]
          refine ih (l + 1) I2 _ (by omega) (fun b hb => by rw [f1 b hb]; exact q1 b hb) u1 (fun k hk => by rw [m1 k hk]; exact q3 k hk) (fun j hj => ?_)
          by_cases e2 : j = l
          · subst e2
            rw [if_pos rfl, h28', Int.toNat_natCast]
            exact hy
          · rw [if_neg e2]; exact q4 j (by omega)
        refine ⟨fun q => go 0 (bz_0 (fun w => ?_)), fun q => go 1 (bz_1 ?_)⟩
        · rcases hz with ⟨z1, z2⟩ | ⟨z1, z2⟩
          · omega
          · exact z2 (hrv.mpr w)
        · rcases hz with ⟨z1, z2⟩ | ⟨z1, z2⟩
          · exact hrv.mp z2
          · omega
    refine c0 _ _ _ ?_
    simp only [b_X8_reversedLines_0, i_ld, i_la, i_st, i_sa, i_c, i_inc, i_add, i_sub, i_mul, i_div, i_rem, i_remT, i_xor, i_dup, i_dup2, i_if, i_if2, i_sw, i_gi, i_gr, i_pi, i_pz, i_ial, i_ias, i_len, i_aal, i_gs, i_tal, i_cv, i_cs, i_ir, i_zr, i_vr, i_min, i_max, i_cpy, List.getElem?_cons_zero, List.getElem?_cons_succ, List.set_cons_zero, List.set_cons_succ, List.length_cons, List.length_nil, List.drop_succ_cons, List.drop_zero, List.take_succ_cons, List.take_zero, List.reverse_cons, List.reverse_nil, List.nil_append, List.cons_append, Option.toList_some, Option.toList_none, true_and, and_true, true_or, or_true, Nat.reduceAdd, Nat.reduceLT, Nat.reduceLeDiff, Option.some.injEq, exists_eq_left', Int.toNat_natCast, Nat.reduceSub, List.append_nil, List.replicate_succ, List.replicate_zero]
    exact loop N 0 I (fun _ => 0) (by omega) (fun _ _ => rfl) k8 k9 (fun j hj => by omega)
  · exact hT.elim
theorem sp_X8_reversedLines : mm_Sp yX8_reversedLines cX8_reversedLines 3 (some .int) rm_X8_reversedLines T_X8_reversedLines := mm_meth (by decide) (by
  intro av σ Post h
  unfold T_X8_reversedLines at h
  split at h
  · simp
  · exact h.elim) (fun p l e s m args below meth c G av σ Post hC hr _ hav hin hk hT => pv_X8_reversedLines av σ Post hav hin hk hT _ (bk_X8_reversedLines hC hr))
