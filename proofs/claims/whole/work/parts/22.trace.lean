/-! Survey: the pieces and their sides (joined: cells 31, 32; sides: 33, 34; start: 35) -/
def b20 (nb : Nat → Int) : Prop := ∀ i, i < 21 → 0 ≤ nb i ∧ nb i ≤ 20
theorem b20_bd {nb : Nat → Int} (h : b20 nb) : bd nb := fun i hi => by have := h i hi; omega
/-- where the pieces of kind k begin -/
def so (nb : Nat → Int) (k : Nat) : Nat := (sm nb k).toNat
theorem so_s {nb : Nat → Int} (h : b20 nb) {k : Nat} (hk : k < 21) : so nb (k + 1) = so nb k + (nb k).toNat ∧ (so nb k : Int) = sm nb k := by
  have h1 := sm_bound (f := nb) (n := k) (c := 20) (fun j hj => h j (by omega))
  have h2 := h k hk
  have h3 : sm nb (k + 1) = sm nb k + nb k := rfl
  unfold so
  omega
theorem so_mono {nb : Nat → Int} (h : b20 nb) {a b : Nat} (hab : a ≤ b) (hb : b ≤ 21) : so nb a ≤ so nb b := by
  induction hab with
  | refl => exact Nat.le_refl _
  | step _ ih =>
    rename_i m _
    have := (so_s h (k := m) (by omega)).1
    have := ih (by omega)
    show so nb a ≤ so nb (m + 1)
    omega
theorem so_le {nb : Nat → Int} (h : b20 nb) {k : Nat} (hk : k < 21) : so nb k + (nb k).toNat ≤ so nb 21 ∧ so nb 21 ≤ 420 := by
  have h1 := (so_s h hk).1
  have h2 := so_mono h (show k + 1 ≤ 21 from hk) (Nat.le_refl _)
  have h3 := sm_bound (f := nb) (n := 21) (c := 20) h
  unfold so at h1 h2 ⊢
  omega
/-- the side towards corner v of the piece to which arc i at corner v of face f belongs -/
def sd (nb : Nat → Int) (f v i : Nat) : Nat :=
  if i < (nb (7 * (f / 4) + v)).toNat then 2 * (so nb (7 * (f / 4) + v) + i)
  else if v = 0 ∨ f % 4 = 0 then 2 * (so nb (7 * (f / 4) + tg v (f % 4)) + (i - (nb (7 * (f / 4) + v)).toNat))
  else 2 * (so nb (7 * (f / 4) + tg v (f % 4)) + (nb (7 * (f / 4) + tg v (f % 4))).toNat - 1 - (i - (nb (7 * (f / 4) + v)).toNat)) + 1
theorem sd_b {nb : Nat → Int} (h : b20 nb) {f v i : Nat} (hf : f < 12) (hv : v < 4) (hi : (i : Int) < ac nb (f / 4) (f % 4) v) : sd nb f v i < 2 * so nb 21 := by
  have ht := tg_b hv (d := f % 4) (by omega)
  have h1 := so_le h (k := 7 * (f / 4) + v) (by omega)
  have h2 := so_le h (k := 7 * (f / 4) + tg v (f % 4)) (by omega)
  have h3 := h (7 * (f / 4) + v) (by omega)
  have h4 := h (7 * (f / 4) + tg v (f % 4)) (by omega)
  unfold ac at hi
  unfold sd
  split
  · omega
  · split <;> omega
def T_X9_sideAt : mm_T := fun av σ Post => match av with
  | [.inr (some s), .inr (some a), .inl x, .inl y, .inl w] => σ.2 = mm_R0 ∧ s = 1 ∧ (mm_sh a).1 = 6 ∧ ∃ f v i : Nat, x = f ∧ y = v ∧ w = i ∧ f < 12 ∧ v < 4 ∧ v ≠ f % 4 ∧ b20 (σ.1 (a + 1)) ∧ (i : Int) < ac (σ.1 (a + 1)) (f / 4) (f % 4) v ∧ (∀ k, k < 21 → σ.1 35 k = so (σ.1 (a + 1)) k) ∧ Post (some (.inl (sd (σ.1 (a + 1)) f v i : Int))) σ
  | _ => False
theorem sh_35 : mm_sh 35 = (100, 21) ∧ (mm_sh 31).1 = 1 ∧ mm_sh 32 = (100, 420) ∧ (mm_sh 33).1 = 1 ∧ mm_sh 34 = (100, 840) ∧ (mm_sh 36).1 = 6 ∧ (mm_sh 38).1 = 6 ∧ mm_sh 40 = (100, 21) := by decide +kernel
def rm_X9_sideAt : Room := { frames := 1, cells := 0, slots := 0, locals := 21 }
def b_X9_sideAt_0 (Ok : Nat → mm_K) (Post : Option mm_V → mm_S → Prop) (kf : Nat) : mm_K := i_ld 2 (i_c 4 (i_div (i_st 5 (i_ld 2 (i_c 4 (i_rem (i_st 6 (i_la 1 (i_gr 6 0 (i_c 7 (i_ld 5 (i_mul (i_ld 3 (i_add (i_ial (i_st 7 (i_ld 4 (i_ld 7 (i_if2 (fun x y => y ≤ x) (i_c 7 (i_ld 5 (i_mul (i_ld 3 (i_ld 6 (i_cs 2 T_X6_together (i_add (i_st 8 (i_ld 4 (i_ld 7 (i_sub (i_st 9 (i_ld 3 (i_if (fun x => x = 0) (Ok 79) (i_ld 6 (i_if (fun x => ¬ x = 0) (i_c 2 (i_la 0 (i_gr 8 5 (i_ld 8 (i_ial (i_la 1 (i_gr 6 0 (i_ld 8 (i_ial (i_add (i_c 1 (i_sub (i_ld 9 (i_sub (i_mul (i_c 1 (i_add (i_ir Post kf)))))))))))))))))) (Ok 79))))))))))))))))) (i_c 2 (i_la 0 (i_gr 8 5 (i_c 7 (i_ld 5 (i_mul (i_ld 3 (i_add (i_ial (i_ld 4 (i_add (i_mul (i_ir Post kf))))))))))))))))))))))))))))))))
def b_X9_sideAt_79 (Ok : Nat → mm_K) (Post : Option mm_V → mm_S → Prop) (kf : Nat) : mm_K := i_c 2 (i_la 0 (i_gr 8 5 (i_ld 8 (i_ial (i_ld 9 (i_add (i_mul (i_ir Post kf))))))))
def clo_X9_sideAt (Ok : Nat → mm_K) (Post : Option mm_V → mm_S → Prop) (kf : Nat) : Prop := mm_imp (b_X9_sideAt_0 Ok Post kf) (Ok 0) ∧ mm_imp (b_X9_sideAt_79 Ok Post kf) (Ok 79)
set_option maxRecDepth 100000 in
set_option maxHeartbeats 4000000 in
theorem bk_X9_sideAt {p : Program} {l : Launch} {e : Env} {s : State} {m : MethodId} {args : Array Value} {below : List Frame} {meth : Method} {c : Code} {G : mm_G} {σ0 : mm_S} {Post : Option mm_V → mm_S → Prop} (hC : mm_C p G s m args meth c cX9_sideAt yX9_sideAt.cls) (hr : meth.sig.returnType = some .int) : clo_X9_sideAt (mm_O p l e rm_X9_sideAt s m args below meth c G σ0.2.2 (MQ below (mm_Qc G σ0 rm_X9_sideAt.cells rm_X9_sideAt.slots Post) args s rm_X9_sideAt.cells rm_X9_sideAt.slots (mm_A G))) Post σ0.2.2 := ⟨(by unfold b_X9_sideAt_0; exact (mm_ld_n hC dX9_sideAt_0 rfl (mm_ic hC dX9_sideAt_1 ⟨by decide, by decide⟩ (mm_div hC dX9_sideAt_2 (mm_st hC dX9_sideAt_3 (mm_ld_n hC dX9_sideAt_5 rfl (mm_ic hC dX9_sideAt_6 ⟨by decide, by decide⟩ (mm_rem hC dX9_sideAt_7 (mm_st hC dX9_sideAt_8 (mm_la_n hC dX9_sideAt_10 rfl (mm_gr hC cl_6 (by decide) rfl wd_111 dX9_sideAt_11 (mm_bp hC dX9_sideAt_14 ⟨⟨by decide, by decide⟩, by decide⟩ (mm_ld hC dX9_sideAt_16 (mm_mul hC dX9_sideAt_18 (mm_ld_n hC dX9_sideAt_19 rfl (mm_add hC dX9_sideAt_20 (mm_ial hC dX9_sideAt_21 (mm_st hC dX9_sideAt_22 (mm_ld hC dX9_sideAt_24 (mm_ld hC dX9_sideAt_26 (mm_ic_ge hC (t := 49) dX9_sideAt_28 (by decide) (mm_bp hC dX9_sideAt_49 ⟨⟨by decide, by decide⟩, by decide⟩ (mm_ld hC dX9_sideAt_51 (mm_mul hC dX9_sideAt_53 (mm_ld_n hC dX9_sideAt_54 rfl (mm_ld hC dX9_sideAt_55 (mm_cs hC sp_X6_together ⟨rfl, rfl⟩ wd_467 wd_461 wd_462 wd_79 ⟨by decide, by decide, by decide +kernel⟩ ⟨by decide, by decide⟩ dX9_sideAt_57 (mm_add hC dX9_sideAt_60 (mm_st hC dX9_sideAt_61 (mm_ld hC dX9_sideAt_63 (mm_ld hC dX9_sideAt_65 (mm_sub hC dX9_sideAt_67 (mm_st hC dX9_sideAt_68 (mm_ld_n hC dX9_sideAt_70 rfl (mm_if_eq hC (t := 79) dX9_sideAt_71 (by decide) (fun _ _ _ h => h) (mm_ld hC dX9_sideAt_74 (mm_if_ne hC (t := 92) dX9_sideAt_76 (by decide) (mm_ic hC dX9_sideAt_92 ⟨by decide, by decide⟩ (mm_la_n hC dX9_sideAt_93 rfl (mm_gr hC cl_8 (by decide) rfl wd_226 dX9_sideAt_94 (mm_ld hC dX9_sideAt_97 (mm_ial hC dX9_sideAt_99 (mm_la_n hC dX9_sideAt_100 rfl (mm_gr hC cl_6 (by decide) rfl wd_111 dX9_sideAt_101 (mm_ld hC dX9_sideAt_104 (mm_ial hC dX9_sideAt_106 (mm_add hC dX9_sideAt_107 (mm_ic hC dX9_sideAt_108 ⟨by decide, by decide⟩ (mm_sub hC dX9_sideAt_109 (mm_ld hC dX9_sideAt_110 (mm_sub hC dX9_sideAt_112 (mm_mul hC dX9_sideAt_113 (mm_ic hC dX9_sideAt_114 ⟨by decide, by decide⟩ (mm_add hC dX9_sideAt_115 (mm_ir hC ⟨rfl, rfl⟩ hr dX9_sideAt_116)))))))))))))))))) (fun _ _ _ h => h))))))))))))))))) (mm_ic hC dX9_sideAt_31 ⟨by decide, by decide⟩ (mm_la_n hC dX9_sideAt_32 rfl (mm_gr hC cl_8 (by decide) rfl wd_226 dX9_sideAt_33 (mm_bp hC dX9_sideAt_36 ⟨⟨by decide, by decide⟩, by decide⟩ (mm_ld hC dX9_sideAt_38 (mm_mul hC dX9_sideAt_40 (mm_ld_n hC dX9_sideAt_41 rfl (mm_add hC dX9_sideAt_42 (mm_ial hC dX9_sideAt_43 (mm_ld hC dX9_sideAt_44 (mm_add hC dX9_sideAt_46 (mm_mul hC dX9_sideAt_47 (mm_ir hC ⟨rfl, rfl⟩ hr dX9_sideAt_48)))))))))))))))))))))))))))))))))), (by unfold b_X9_sideAt_79; exact (mm_ic hC dX9_sideAt_79 ⟨by decide, by decide⟩ (mm_la_n hC dX9_sideAt_80 rfl (mm_gr hC cl_8 (by decide) rfl wd_226 dX9_sideAt_81 (mm_ld hC dX9_sideAt_84 (mm_ial hC dX9_sideAt_86 (mm_ld hC dX9_sideAt_87 (mm_add hC dX9_sideAt_89 (mm_mul hC dX9_sideAt_90 (mm_ir hC ⟨rfl, rfl⟩ hr dX9_sideAt_91))))))))))⟩
set_option maxRecDepth 100000 in
set_option maxHeartbeats 8000000 in
theorem pv_X9_sideAt : ∀ (av : List mm_V) (σ : mm_S) (Post : Option mm_V → mm_S → Prop), (∀ v ∈ av, mm_iv v) → (∀ a j, mm_in (σ.1 a j)) → σ.2.2 ≤ 348 → T_X9_sideAt av σ Post → ∀ Ok : Nat → mm_K, clo_X9_sideAt Ok Post σ.2.2 → Ok 0 (av ++ List.replicate (10 - av.length) (.inr none)) [] σ := by
  intro av σ Post hav hin hk hT Ok hcl
  obtain ⟨I, R0⟩ := σ
  unfold T_X9_sideAt at hT
  split at hT
  · rename_i s a x y w
    obtain ⟨h0, hT⟩ := hT
    have h0 : R0 = mm_R0 := h0
    subst h0
    dsimp only at hT hin
    obtain ⟨c0, c79⟩ := hcl
    obtain ⟨rfl, h1, f, v, i, rfl, rfl, rfl, h2, h3, h3n, h4, h5, h6, hP⟩ := hT
    have ha := sh_lt h1 (by decide)
    obtain ⟨hs1, hs2⟩ := sh_sheet a ha h1
    have hR : ∀ j, mm_Rs a j = some (a + 1) := fun j => Rs_sheet h1
    obtain ⟨r0, r1, r2, r3, r4, r5, r6, r7, r8, r9⟩ := Rs_1
    have q35 := sh_35.1
    have e1 : (f : Int) / 4 = ((f / 4 : Nat) : Int) := by omega
    have e2 : (f : Int) % 4 = ((f % 4 : Nat) : Int) := by omega
    have ht := tg_b h3 (d := f % 4) (by omega)
    have hx : v ^^^ (f % 4) < 2 ^ 2 := Nat.xor_lt_two_pow (by omega) (by omega)
    have g1 : (7 * ((f / 4 : Nat) : Int) + (v : Int)).toNat = 7 * (f / 4) + v := by omega
    have g2 : 7 * ((f / 4 : Nat) : Int) + (3 + ((v ^^^ f % 4 : Nat) : Int)) = ((7 * (f / 4) + tg v (f % 4) : Nat) : Int) := by unfold tg; omega
    have u1 := so_le h4 (k := 7 * (f / 4) + v) (by omega)
    have u2 := so_le h4 (k := 7 * (f / 4) + tg v (f % 4)) (by omega)
    have u3 := h4 (7 * (f / 4) + v) (by omega)
    have u4 := h4 (7 * (f / 4) + tg v (f % 4)) (by omega)
    have t1 := h6 (7 * (f / 4) + v) (by omega)
    have t2 := h6 (7 * (f / 4) + tg v (f % 4)) (by omega)
    have hac : ac (I (a + 1)) (f / 4) (f % 4) v = I (a + 1) (7 * (f / 4) + v) + I (a + 1) (7 * (f / 4) + tg v (f % 4)) := rfl
    rw [hac] at h5
    obtain ⟨A, hA⟩ := Int.eq_ofNat_of_zero_le u3.1
    obtain ⟨B, hB⟩ := Int.eq_ofNat_of_zero_le u4.1
    rw [hA] at u1 u3 h5
    rw [hB] at u2 u4 h5
    unfold sd at hP
    rw [hA, hB, Int.toNat_natCast, Int.toNat_natCast] at hP
    obtain ⟨S1, hS1⟩ : ∃ z, so (I (a + 1)) (7 * (f / 4) + v) = z := ⟨_, rfl⟩
    obtain ⟨S2, hS2⟩ : ∃ z, so (I (a + 1)) (7 * (f / 4) + tg v (f % 4)) = z := ⟨_, rfl⟩
    rw [hS1] at t1 u1 hP
    rw [hS2] at t2 u2 hP
    have near : ¬ i < A → (v = 0 ∨ f % 4 = 0) → ∀ u5 u6 u7 : mm_V, Ok 79 [.inr (some 1), .inr (some a), .inl (f : Int), .inl (v : Int), .inl (i : Int), u5, u6, u7, .inl ((7 * (f / 4) + tg v (f % 4) : Nat) : Int), .inl ((i : Int) - (A : Int))] [] (I, mm_R0) := by
      intro z1 z2 u5 u6 u7
      rw [if_neg z1, if_pos z2] at hP
      refine c79 _ _ _ ?_
      simp only [b_X9_sideAt_79, i_ld, i_la, i_st, i_sa, i_c, i_inc, i_add, i_sub, i_mul, i_div, i_rem, i_remT, i_xor, i_dup, i_dup2, i_if, i_if2, i_sw, i_gi, i_gr, i_pi, i_pz, i_ial, i_ias, i_len, i_aal, i_gs, i_tal, i_cv, i_cs, i_ir, i_zr, i_vr, i_min, i_max, i_cpy, List.getElem?_cons_zero, List.getElem?_cons_succ, List.set_cons_zero, List.set_cons_succ, List.length_cons, List.length_nil, List.drop_succ_cons, List.drop_zero, List.take_succ_cons, List.take_zero, List.reverse_cons, List.reverse_nil, List.nil_append, List.cons_append, Option.toList_some, Option.toList_none, true_and, and_true, true_or, or_true, Nat.reduceAdd, Nat.reduceLT, Nat.reduceLeDiff, Option.some.injEq, exists_eq_left', Int.toNat_natCast, Nat.reduceSub, List.append_nil, List.replicate_succ, List.replicate_zero, mm_in, r5, r9, q35, t2]
      repeat' first | refine And.intro ?_ ?_ | refine fun (_ : _ ≤ _ ∧ _ < _) => ?_
      all_goals try omega
      rw [show (2 * ((S2 : Int) + ((i : Int) - (A : Int)))) = ((2 * (S2 + (i - A)) : Nat) : Int) by omega]
      exact hP
    refine c0 _ _ _ ?_
    simp only [b_X9_sideAt_0, i_ld, i_la, i_st, i_sa, i_c, i_inc, i_add, i_sub, i_mul, i_div, i_rem, i_remT, i_xor, i_dup, i_dup2, i_if, i_if2, i_sw, i_gi, i_gr, i_pi, i_pz, i_ial, i_ias, i_len, i_aal, i_gs, i_tal, i_cv, i_cs, i_ir, i_zr, i_vr, i_min, i_max, i_cpy, List.getElem?_cons_zero, List.getElem?_cons_succ, List.set_cons_zero, List.set_cons_succ, List.length_cons, List.length_nil, List.drop_succ_cons, List.drop_zero, List.take_succ_cons, List.take_zero, List.reverse_cons, List.reverse_nil, List.nil_append, List.cons_append, Option.toList_some, Option.toList_none, true_and, and_true, true_or, or_true, Nat.reduceAdd, Nat.reduceLT, Nat.reduceLeDiff, Option.some.injEq, exists_eq_left', Int.toNat_natCast, Nat.reduceSub, List.append_nil, List.replicate_succ, List.replicate_zero, mm_in, e1, e2, ha, h1, hs1, hs2, hR, g1, g2, hA, r5, r9, q35, t1, t2, hB, T_X6_together]
    repeat' first | refine And.intro ?_ ?_ | refine fun (_ : _ ≤ _ ∧ _ < _) => ?_
    all_goals try omega
    · intro z
      repeat' first | refine And.intro ?_ ?_ | refine fun (_ : _ ≤ _ ∧ _ < _) => ?_
      all_goals try omega
      intro z2
      · exact near (by omega) (by omega) _ _ _
      · intro z2
        repeat' first | refine And.intro ?_ ?_ | refine fun (_ : _ ≤ _ ∧ _ < _) => ?_
        all_goals try omega
        · intro z3
          repeat' first | refine And.intro ?_ ?_ | refine fun (_ : _ ≤ _ ∧ _ < _) => ?_
          all_goals try omega
          rw [if_neg (by omega), if_neg (by omega)] at hP
          rw [show (2 * ((S2 : Int) + (B : Int) - 1 - ((i : Int) - (A : Int))) + 1) = ((2 * (S2 + B - 1 - (i - A)) + 1 : Nat) : Int) by omega]
          exact hP
        · intro z3
          exact near (by omega) (by omega) _ _ _
    · intro z
      repeat' first | refine And.intro ?_ ?_ | refine fun (_ : _ ≤ _ ∧ _ < _) => ?_
      all_goals try omega
      rw [if_pos (by omega)] at hP
      rw [show (2 * ((S1 : Int) + (i : Int))) = ((2 * (S1 + i) : Nat) : Int) by omega]
      exact hP
  · exact hT.elim
theorem sp_X9_sideAt : mm_Sp yX9_sideAt cX9_sideAt 10 (some .int) rm_X9_sideAt T_X9_sideAt := mm_meth (by decide) (by
  intro av σ Post h
  unfold T_X9_sideAt at h
  split at h
  · simp
  · exact h.elim) (fun p l e s m args below meth c G av σ Post hC hr _ hav hin hk hT => pv_X9_sideAt av σ Post hav hin hk hT _ (bk_X9_sideAt hC hr))

abbrev L2 : Type := (Nat → Nat) × (Nat → Nat)
def jI (pa wy nb : Nat → Int) (f v i : Nat) (L : L2) : L2 := (mg L.1 (sd nb f v i / 2) (sd nb (pa f).toNat ((acr pa wy f v).toNat % 4) i / 2), mg (mg L.2 (sd nb f v i) (sd nb (pa f).toNat ((acr pa wy f v).toNat % 4) i)) (sd nb f v i ^^^ 1) (sd nb (pa f).toNat ((acr pa wy f v).toNat % 4) i ^^^ 1))
def jV (pa wy nb : Nat → Int) (f v : Nat) (L : L2) : L2 := if 0 ≤ acr pa wy f v then fo (jI pa wy nb f v) (ac nb (f / 4) (f % 4) v).toNat L else L
def jF (pa wy nb : Nat → Int) (f : Nat) (L : L2) : L2 := if (f : Int) < pa f then fo (jV pa wy nb f) 4 L else L
def tra (n : Nat) (pa wy nb : Nat → Int) : L2 := fo (jF pa wy nb) (4 * n) (id, id)
def trI (I : Nat → Nat → Int) (T : Nat) : Prop := I 31 1 = T ∧ I 33 1 = (2 * T : Nat) ∧ ufi I 32 T ∧ ufi I 34 (2 * T)
def agr (I : Nat → Nat → Int) (T : Nat) (L : L2) : Prop := (∀ k, k < T → rt (fi I 32) k = L.1 k) ∧ (∀ k, k < 2 * T → rt (fi I 34) k = L.2 k)
theorem xor1 : ∀ x, x < 1024 → x ^^^ 1 = if x % 2 = 0 then x + 1 else x - 1 := by decide +kernel
theorem xor1_b {x T : Nat} (h : x < 2 * T) (hT : T ≤ 420) : x ^^^ 1 < 2 * T := by
  rw [xor1 x (by omega)]
  split <;> omega
def T_X9_joinPieces : mm_T := fun av σ Post => match av with
  | [.inr (some s), .inr (some a), .inl x] => σ.2 = mm_R0 ∧ s = 1 ∧ (mm_sh a).1 = 6 ∧ ∃ f n : Nat, x = f ∧ gw σ.1 n ∧ f < 4 * n ∧ (f : Int) < σ.1 3 f ∧ b20 (σ.1 (a + 1)) ∧ (∀ v, v < 4 → v ≠ f % 4 → mc (σ.1 3) (σ.1 4) (σ.1 (a + 1)) f v) ∧ (∀ k, k < 21 → σ.1 35 k = so (σ.1 (a + 1)) k) ∧ trI σ.1 (so (σ.1 (a + 1)) 21) ∧
    ∀ I' : Nat → Nat → Int, (∀ b, b ≠ 32 → b ≠ 34 → I' b = σ.1 b) → trI I' (so (σ.1 (a + 1)) 21) → (∀ L, agr σ.1 (so (σ.1 (a + 1)) 21) L → agr I' (so (σ.1 (a + 1)) 21) (fo (jV (σ.1 3) (σ.1 4) (σ.1 (a + 1)) f) 4 L)) → Post none (I', mm_R0)
  | _ => False
def rm_X9_joinPieces : Room := { frames := 2, cells := 0, slots := 0, locals := 50 }
def b_X9_joinPieces_0 (Ok : Nat → mm_K) (Post : Option mm_V → mm_S → Prop) (kf : Nat) : mm_K := i_c 0 (i_st 3 (Ok 2))
def b_X9_joinPieces_2 (Ok : Nat → mm_K) (Post : Option mm_V → mm_S → Prop) (kf : Nat) : mm_K := i_ld 3 (i_c 4 (i_if2 (fun x y => y ≤ x) (i_vr Post kf) (i_la 0 (i_gr 8 0 (i_ld 2 (i_ld 3 (i_cv 9 2 T_X10_across (i_st 4 (i_ld 4 (i_if (fun x => 0 ≤ x) (i_la 1 (i_ld 2 (i_c 4 (i_div (i_ld 2 (i_c 4 (i_rem (i_ld 3 (i_cv 6 3 T_X7_arcsAt (i_st 5 (i_c 0 (i_st 6 (Ok 42))))))))))))) (Ok 129)))))))))))
def b_X9_joinPieces_42 (Ok : Nat → mm_K) (Post : Option mm_V → mm_S → Prop) (kf : Nat) : mm_K := i_ld 6 (i_ld 5 (i_if2 (fun x y => y ≤ x) (Ok 129) (i_la 0 (i_la 1 (i_ld 2 (i_ld 3 (i_ld 6 (i_cv 8 4 T_X9_sideAt (i_st 7 (i_la 0 (i_la 1 (i_la 0 (i_gr 8 0 (i_gr 9 2 (i_ld 2 (i_ial (i_ld 4 (i_c 4 (i_rem (i_ld 6 (i_cv 8 4 T_X9_sideAt (i_st 8 (i_la 0 (i_gr 8 3 (i_ld 7 (i_c 2 (i_div (i_ld 8 (i_c 2 (i_div (i_cv 1 2 T_X1_join (i_la 0 (i_gr 8 4 (i_ld 7 (i_ld 8 (i_cv 1 2 T_X1_join (i_la 0 (i_gr 8 4 (i_ld 7 (i_c 1 (i_xor (i_ld 8 (i_c 1 (i_xor (i_cv 1 2 T_X1_join (i_inc 6 1 (Ok 42)))))))))))))))))))))))))))))))))))))))))))))))
def b_X9_joinPieces_129 (Ok : Nat → mm_K) (Post : Option mm_V → mm_S → Prop) (kf : Nat) : mm_K := i_inc 3 1 (Ok 2)
def clo_X9_joinPieces (Ok : Nat → mm_K) (Post : Option mm_V → mm_S → Prop) (kf : Nat) : Prop := mm_imp (b_X9_joinPieces_0 Ok Post kf) (Ok 0) ∧ mm_imp (b_X9_joinPieces_2 Ok Post kf) (Ok 2) ∧ mm_imp (b_X9_joinPieces_42 Ok Post kf) (Ok 42) ∧ mm_imp (b_X9_joinPieces_129 Ok Post kf) (Ok 129)
set_option maxRecDepth 100000 in
set_option maxHeartbeats 4000000 in
theorem bk_X9_joinPieces {p : Program} {l : Launch} {e : Env} {s : State} {m : MethodId} {args : Array Value} {below : List Frame} {meth : Method} {c : Code} {G : mm_G} {σ0 : mm_S} {Post : Option mm_V → mm_S → Prop} (hC : mm_C p G s m args meth c cX9_joinPieces yX9_joinPieces.cls) (hr : meth.sig.returnType = none) : clo_X9_joinPieces (mm_O p l e rm_X9_joinPieces s m args below meth c G σ0.2.2 (MQ below (mm_Qc G σ0 rm_X9_joinPieces.cells rm_X9_joinPieces.slots Post) args s rm_X9_joinPieces.cells rm_X9_joinPieces.slots (mm_A G))) Post σ0.2.2 := ⟨(by unfold b_X9_joinPieces_0; exact (mm_ic hC dX9_joinPieces_0 ⟨by decide, by decide⟩ (mm_st_n hC dX9_joinPieces_1 rfl (fun _ _ _ h => h)))), (by unfold b_X9_joinPieces_2; exact (mm_ld_n hC dX9_joinPieces_2 rfl (mm_ic hC dX9_joinPieces_3 ⟨by decide, by decide⟩ (mm_ic_ge hC (t := 135) dX9_joinPieces_4 (by decide) (mm_vr hC ⟨rfl, rfl⟩ hr dX9_joinPieces_135) (mm_la_n hC dX9_joinPieces_7 rfl (mm_gr hC cl_8 (by decide) rfl wd_219 dX9_joinPieces_8 (mm_ld_n hC dX9_joinPieces_11 rfl (mm_ld_n hC dX9_joinPieces_12 rfl (mm_cv hC sp_X10_across ⟨rfl, rfl⟩ cl_9 wd_455 wd_383 wd_384 wd_385 wd_67 ⟨by decide, by decide, by decide +kernel⟩ ⟨by decide, by decide⟩ dX9_joinPieces_13 (mm_st hC dX9_joinPieces_16 (mm_ld hC dX9_joinPieces_18 (mm_if_ge hC (t := 26) dX9_joinPieces_20 (by decide) (mm_la_n hC dX9_joinPieces_26 rfl (mm_ld_n hC dX9_joinPieces_27 rfl (mm_ic hC dX9_joinPieces_28 ⟨by decide, by decide⟩ (mm_div hC dX9_joinPieces_29 (mm_ld_n hC dX9_joinPieces_30 rfl (mm_ic hC dX9_joinPieces_31 ⟨by decide, by decide⟩ (mm_rem hC dX9_joinPieces_32 (mm_ld_n hC dX9_joinPieces_33 rfl (mm_cv hC sp_X7_arcsAt ⟨rfl, rfl⟩ cl_6 wd_456 wd_457 wd_458 wd_459 wd_68 ⟨by decide, by decide, by decide +kernel⟩ ⟨by decide, by decide⟩ dX9_joinPieces_34 (mm_st hC dX9_joinPieces_37 (mm_ic hC dX9_joinPieces_39 ⟨by decide, by decide⟩ (mm_st hC dX9_joinPieces_40 (fun _ _ _ h => h))))))))))))) (mm_goto hC (t := 129) dX9_joinPieces_23 (by decide) (fun _ _ _ h => h)))))))))))))), (by unfold b_X9_joinPieces_42; exact (mm_ld hC dX9_joinPieces_42 (mm_ld hC dX9_joinPieces_44 (mm_ic_ge hC (t := 129) dX9_joinPieces_46 (by decide) (fun _ _ _ h => h) (mm_la_n hC dX9_joinPieces_49 rfl (mm_la_n hC dX9_joinPieces_50 rfl (mm_ld_n hC dX9_joinPieces_51 rfl (mm_ld_n hC dX9_joinPieces_52 rfl (mm_ld hC dX9_joinPieces_53 (mm_cv hC sp_X9_sideAt ⟨rfl, rfl⟩ cl_8 wd_463 wd_465 wd_6 wd_466 wd_66 ⟨by decide, by decide, by decide +kernel⟩ ⟨by decide, by decide⟩ dX9_joinPieces_55 (mm_st hC dX9_joinPieces_58 (mm_la_n hC dX9_joinPieces_60 rfl (mm_la_n hC dX9_joinPieces_61 rfl (mm_la_n hC dX9_joinPieces_62 rfl (mm_gr hC cl_8 (by decide) rfl wd_219 dX9_joinPieces_63 (mm_gr hC cl_9 (by decide) rfl wd_129 dX9_joinPieces_66 (mm_ld_n hC dX9_joinPieces_69 rfl (mm_ial hC dX9_joinPieces_70 (mm_ld hC dX9_joinPieces_71 (mm_ic hC dX9_joinPieces_73 ⟨by decide, by decide⟩ (mm_rem hC dX9_joinPieces_74 (mm_ld hC dX9_joinPieces_75 (mm_cv hC sp_X9_sideAt ⟨rfl, rfl⟩ cl_8 wd_463 wd_465 wd_6 wd_466 wd_66 ⟨by decide, by decide, by decide +kernel⟩ ⟨by decide, by decide⟩ dX9_joinPieces_77 (mm_st hC dX9_joinPieces_80 (mm_la_n hC dX9_joinPieces_82 rfl (mm_gr hC cl_8 (by decide) rfl wd_224 dX9_joinPieces_83 (mm_ld hC dX9_joinPieces_86 (mm_ic hC dX9_joinPieces_88 ⟨by decide, by decide⟩ (mm_div hC dX9_joinPieces_89 (mm_ld hC dX9_joinPieces_90 (mm_ic hC dX9_joinPieces_92 ⟨by decide, by decide⟩ (mm_div hC dX9_joinPieces_93 (mm_cv hC sp_X1_join ⟨rfl, rfl⟩ cl_1 wd_468 wd_389 wd_390 wd_391 wd_71 ⟨by decide, by decide, by decide +kernel⟩ ⟨by decide, by decide⟩ dX9_joinPieces_94 (mm_la_n hC dX9_joinPieces_97 rfl (mm_gr hC cl_8 (by decide) rfl wd_225 dX9_joinPieces_98 (mm_ld hC dX9_joinPieces_101 (mm_ld hC dX9_joinPieces_103 (mm_cv hC sp_X1_join ⟨rfl, rfl⟩ cl_1 wd_468 wd_389 wd_390 wd_391 wd_71 ⟨by decide, by decide, by decide +kernel⟩ ⟨by decide, by decide⟩ dX9_joinPieces_105 (mm_la_n hC dX9_joinPieces_108 rfl (mm_gr hC cl_8 (by decide) rfl wd_225 dX9_joinPieces_109 (mm_ld hC dX9_joinPieces_112 (mm_ic hC dX9_joinPieces_114 ⟨by decide, by decide⟩ (mm_xor hC dX9_joinPieces_115 (mm_ld hC dX9_joinPieces_116 (mm_ic hC dX9_joinPieces_118 ⟨by decide, by decide⟩ (mm_xor hC dX9_joinPieces_119 (mm_cv hC sp_X1_join ⟨rfl, rfl⟩ cl_1 wd_468 wd_389 wd_390 wd_391 wd_71 ⟨by decide, by decide, by decide +kernel⟩ ⟨by decide, by decide⟩ dX9_joinPieces_120 (mm_inc hC dX9_joinPieces_123 (mm_goto hC (t := 42) dX9_joinPieces_126 (by decide) (fun _ _ _ h => h)))))))))))))))))))))))))))))))))))))))))))))))))), (by unfold b_X9_joinPieces_129; exact (mm_inc hC dX9_joinPieces_129 (mm_goto hC (t := 2) dX9_joinPieces_132 (by decide) (fun _ _ _ h => h))))⟩
set_option maxRecDepth 100000 in
set_option maxHeartbeats 8000000 in
theorem pv_X9_joinPieces : ∀ (av : List mm_V) (σ : mm_S) (Post : Option mm_V → mm_S → Prop), (∀ v ∈ av, mm_iv v) → (∀ a j, mm_in (σ.1 a j)) → σ.2.2 ≤ 348 → T_X9_joinPieces av σ Post → ∀ Ok : Nat → mm_K, clo_X9_joinPieces Ok Post σ.2.2 → Ok 0 (av ++ List.replicate (9 - av.length) (.inr none)) [] σ := by
  intro av σ Post hav hin hk hT Ok hcl
  obtain ⟨I, R0⟩ := σ
  unfold T_X9_joinPieces at hT
  split at hT
  · rename_i s a x
    obtain ⟨h0, hT⟩ := hT
    have h0 : R0 = mm_R0 := h0
    subst h0
    dsimp only at hT hin
    obtain ⟨c0, c2, c42, c129⟩ := hcl
    obtain ⟨rfl, h1, f, n, rfl, ⟨hn, hn1, hn3, hg⟩, h2, h3, h4, h5, h6, hs, hP⟩ := hT
    have ha := sh_lt h1 (by decide)
    obtain ⟨r0, r1, r2, r3, r4, r5, r6, r7, r8, r9⟩ := Rs_1
    obtain ⟨w1, w2, w3, w4, w5, w6⟩ := Rs_2
    obtain ⟨q35, q31, q32, q33, q34, q36, q38, q40⟩ := sh_35
    have na : a + 1 ≠ 32 := fun e => by
      have : a = 31 := by omega
      rw [this, q31] at h1; cases h1
    have na2 : a + 1 ≠ 34 := fun e => by
      have : a = 33 := by omega
      rw [this, q33] at h1; cases h1
    obtain ⟨nb, hnb⟩ : ∃ nb, I (a + 1) = nb := ⟨_, rfl⟩
    rw [hnb] at h4 h5 h6 hs hP
    obtain ⟨T, hTT⟩ : ∃ T, so nb 21 = T := ⟨_, rfl⟩
    rw [hTT] at hs hP
    have hT420 : T ≤ 420 := by rw [← hTT]; exact (so_le h4 (k := 0) (by omega)).2
    obtain ⟨o, ho⟩ := Int.eq_ofNat_of_zero_le (show 0 ≤ I 3 f by omega)
    have hgf : I 3 f < 4 * n ∧ 0 ≤ I 4 f ∧ I 4 f < 6 := by
      rcases hg f (by omega) with q | q
      · omega
      · omega
    obtain ⟨k, hk2⟩ := Int.eq_ofNat_of_zero_le hgf.2.1
    rw [ho, hk2] at hgf
    have hac : ∀ v, v < 4 → v ≠ f % 4 → acr (I 3) (I 4) f v = (acN o k f v : Int) ∧ acN o k f v % 4 ≠ o % 4 := by
      intro v hv hne
      have hb := acN_b (o := o) (k := k) (f := f) (v := v) (by omega) (by omega) hv hne
      refine ⟨?_, hb.2.2⟩
      unfold acr
      rw [if_neg (by omega), ho, hk2]
      rfl
    have hacn : acr (I 3) (I 4) f (f % 4) = -1 := by unfold acr; rw [if_pos (Or.inl rfl)]
    have one1 : (1 : Int).toNat = 1 := rfl
    have ef1 : (f : Int) / 4 = ((f / 4 : Nat) : Int) := by omega
    have ef2 : (f : Int) % 4 = ((f % 4 : Nat) : Int) := by omega
    have inner : ∀ (v : Nat), v < 4 → v ≠ f % 4 → ∀ (L0 : L2 → L2), (∀ (I' : Nat → Nat → Int), (∀ b, b ≠ 32 → b ≠ 34 → I' b = I b) → trI I' T → (∀ L, agr I T L → agr I' T (fo (jI (I 3) (I 4) nb f v) (ac nb (f / 4) (f % 4) v).toNat (L0 L))) → ∀ u4 u5 u6 u7 u8 : mm_V, Ok 129 [.inr (some 1), .inr (some a), .inl (f : Int), .inl (v : Int), u4, u5, u6, u7, u8] [] (I', mm_R0)) →
      ∀ (d i : Nat) (I' : Nat → Nat → Int) (u7 u8 : mm_V), (i + d : Nat) = (ac nb (f / 4) (f % 4) v).toNat → (∀ b, b ≠ 32 → b ≠ 34 → I' b = I b) → trI I' T → (∀ L, agr I T L → agr I' T (fo (jI (I 3) (I 4) nb f v) i (L0 L))) → Ok 42 [.inr (some 1), .inr (some a), .inl (f : Int), .inl (v : Int), .inl (acN o k f v : Int), .inl (ac nb (f / 4) (f % 4) v), .inl (i : Int), u7, u8] [] (I', mm_R0) := by
      intro v hv hvf L0 hnext d
      have hab := ac_b (b20_bd h4) (b := f / 4) (f := f % 4) (v := v) (by omega) (by omega) hv
      obtain ⟨a1, a2⟩ := hac v hv hvf
      have hmc := h5 v hv hvf
      unfold mc at hmc
      rw [ho, hk2, Int.toNat_natCast, Int.toNat_natCast] at hmc
      obtain ⟨A, hA⟩ := Int.eq_ofNat_of_zero_le hab.1
      rw [hA] at hab hmc ⊢
      rw [hA] at hnext
      simp only [Int.toNat_natCast] at hnext ⊢
      induction d with
      | zero =>
        intro i I' u7 u8 hd q1 q2 q3
        refine c42 _ _ _ ?_
        simp only [b_X9_joinPieces_42, i_ld, i_la, i_st, i_sa, i_c, i_inc, i_add, i_sub, i_mul, i_div, i_rem, i_remT, i_xor, i_dup, i_dup2, i_if, i_if2, i_sw, i_gi, i_gr, i_pi, i_pz, i_ial, i_ias, i_len, i_aal, i_gs, i_tal, i_cv, i_cs, i_ir, i_zr, i_vr, i_min, i_max, i_cpy, List.getElem?_cons_zero, List.getElem?_cons_succ, List.set_cons_zero, List.set_cons_succ, List.length_cons, List.length_nil, List.drop_succ_cons, List.drop_zero, List.take_succ_cons, List.take_zero, List.reverse_cons, List.reverse_nil, List.nil_append, List.cons_append, Option.toList_some, Option.toList_none, true_and, and_true, true_or, or_true, Nat.reduceAdd, Nat.reduceLT, Nat.reduceLeDiff, Option.some.injEq, exists_eq_left', Int.toNat_natCast, Nat.reduceSub, List.append_nil, List.replicate_succ, List.replicate_zero, mm_in,]
        repeat' first | refine And.intro ?_ ?_ | intro _
        all_goals try omega
        rw [show i = A by omega] at q3
        exact hnext I' q1 q2 q3 _ _ _ _ _
      | succ d ih =>
        intro i I' u7 u8 hd q1 q2 q3
        have e3 : I' 3 = I 3 := q1 3 (by decide) (by decide)
        have ea : I' (a + 1) = nb := by rw [q1 _ na na2]; exact hnb
        have e35 : I' 35 = I 35 := q1 35 (by decide) (by decide)
        obtain ⟨t1, t2, t3, t4⟩ := id q2
        have et : (acN o k f v : Int) % 4 = ((acN o k f v % 4 : Nat) : Int) := by omega
        have s1 := sd_b h4 (f := f) (v := v) (i := i) (by omega) hv (by rw [hA]; omega)
        have s2 := sd_b h4 (f := o) (v := acN o k f v % 4) (i := i) (by omega) (by omega) (by rw [← hmc]; omega)
        rw [hTT] at s1 s2
        obtain ⟨P, hPp⟩ : ∃ P, sd nb f v i = P := ⟨_, rfl⟩
        obtain ⟨Q, hQ⟩ : ∃ Q, sd nb o (acN o k f v % 4) i = Q := ⟨_, rfl⟩
        rw [hPp] at s1
        rw [hQ] at s2
        have y1 := xor1_b s1 hT420
        have y2 := xor1_b s2 hT420
        have p1 : (P : Int) / 2 = ((P / 2 : Nat) : Int) := by omega
        have p2 : (Q : Int) / 2 = ((Q / 2 : Nat) : Int) := by omega
        refine c42 _ _ _ ?_
        simp only [b_X9_joinPieces_42, i_ld, i_la, i_st, i_sa, i_c, i_inc, i_add, i_sub, i_mul, i_div, i_rem, i_remT, i_xor, i_dup, i_dup2, i_if, i_if2, i_sw, i_gi, i_gr, i_pi, i_pz, i_ial, i_ias, i_len, i_aal, i_gs, i_tal, i_cv, i_cs, i_ir, i_zr, i_vr, i_min, i_max, i_cpy, List.getElem?_cons_zero, List.getElem?_cons_succ, List.set_cons_zero, List.set_cons_succ, List.length_cons, List.length_nil, List.drop_succ_cons, List.drop_zero, List.take_succ_cons, List.take_zero, List.reverse_cons, List.reverse_nil, List.nil_append, List.cons_append, Option.toList_some, Option.toList_none, true_and, and_true, true_or, or_true, Nat.reduceAdd, Nat.reduceLT, Nat.reduceLeDiff, Option.some.injEq, exists_eq_left', Int.toNat_natCast, Nat.reduceSub, List.append_nil, List.replicate_succ, List.replicate_zero, mm_in, T_X9_sideAt, r0, r9, w1, w4, w5, h1, ea, e3, e35, ho, et]
        refine ⟨fun z => by omega, fun _ => ⟨f, v, i, rfl, rfl, rfl, by omega, hv, hvf, h4, by rw [hA]; omega, h6, ?_⟩⟩
        refine ⟨⟨by omega, by omega⟩, fun _ => ⟨⟨by omega, by omega⟩, o, acN o k f v % 4, i, rfl, rfl, rfl, by omega, by omega, a2, h4, by rw [← hmc]; omega, h6, ?_⟩⟩
        rw [hPp, hQ]
        simp only [i_ld, i_la, i_st, i_sa, i_c, i_inc, i_add, i_sub, i_mul, i_div, i_rem, i_remT, i_xor, i_dup, i_dup2, i_if, i_if2, i_sw, i_gi, i_gr, i_pi, i_pz, i_ial, i_ias, i_len, i_aal, i_gs, i_tal, i_cv, i_cs, i_ir, i_zr, i_vr, i_min, i_max, i_cpy, List.getElem?_cons_zero, List.getElem?_cons_succ, List.set_cons_zero, List.set_cons_succ, List.length_cons, List.length_nil, List.drop_succ_cons, List.drop_zero, List.take_succ_cons, List.take_zero, List.reverse_cons, List.reverse_nil, List.nil_append, List.cons_append, Option.toList_some, Option.toList_none, true_and, and_true, true_or, or_true, Nat.reduceAdd, Nat.reduceLT, Nat.reduceLeDiff, Option.some.injEq, exists_eq_left', Int.toNat_natCast, Nat.reduceSub, List.append_nil, List.replicate_succ, List.replicate_zero, r3, r4, r9, one1, p1, p2, T_X1_join, q31, q32, q33, q34, t1]
        repeat' first | refine And.intro ?_ ?_ | refine fun (_ : _ ≤ _ ∧ _ < _) => ?_
        all_goals try omega
        intro I1 f1 u1 m1
        have e33 : I1 33 1 = ((2 * T : Nat) : Int) := by rw [f1 33 (by decide)]; exact t2
        rw [e33]
        simp only [Int.toNat_natCast]
        refine ⟨by omega, by omega, by omega, by omega, by omega, fun j hj => by rw [f1 34 (by decide)]; exact t4 j hj, fun I2 f2 u2 m2 => ?_⟩
        have e33 : I2 33 1 = ((2 * T : Nat) : Int) := by rw [f2 33 (by decide)]; exact e33
        rw [e33]
        simp only [Int.toNat_natCast]
        repeat' first | refine And.intro ?_ ?_ | refine fun (_ : _ ≤ _ ∧ _ < _) => ?_
        all_goals try omega
        intro I3 f3 u3 m3
        repeat' first | refine And.intro ?_ ?_ | refine fun (_ : _ ≤ _ ∧ _ < _) => ?_
        all_goals try omega
        have hch : ∀ j, j < 2 * T → rt (fi I3 34) j = mg (mg (rt (fi I' 34)) P Q) (P ^^^ 1) (Q ^^^ 1) j := by
          intro j hj
          rw [m3 j hj]
          refine mg_ag (fun x hx => ?_) y1 y2 j hj
          rw [m2 x hx]
          have : fi I1 34 = fi I' 34 := fi_congr (f1 34 (by decide))
          rw [this]
        refine ih (i + 1) I3 _ _ (by omega) (fun b z1 z2 => by rw [f3 b z2, f2 b z2, f1 b z1]; exact q1 b z1 z2) ⟨by rw [f3 31 (by decide), f2 31 (by decide), f1 31 (by decide)]; exact t1, by rw [f3 33 (by decide)]; exact e33, fun j hj => by rw [f3 32 (by decide), f2 32 (by decide)]; exact u1 j hj, u3⟩ (fun L hL => ?_)
        have h7 := q3 L hL
        show agr I3 T (jI (I 3) (I 4) nb f v i (fo (jI (I 3) (I 4) nb f v) i (L0 L)))
        obtain ⟨M, hM⟩ : ∃ M, fo (jI (I 3) (I 4) nb f v) i (L0 L) = M := ⟨_, rfl⟩
        rw [hM] at h7 ⊢
        unfold jI
        rw [a1, ho, Int.toNat_natCast, Int.toNat_natCast, hPp, hQ]
        refine ⟨fun j hj => ?_, fun j hj => ?_⟩
        · have : fi I3 32 = fi I1 32 := fi_congr (by rw [f3 32 (by decide), f2 32 (by decide)])
          rw [this, m1 j hj]
          exact mg_ag h7.1 (by omega) (by omega) j hj
        · rw [hch j hj]
          exact mg_ag (fun x hx => mg_ag h7.2 s1 s2 x hx) y1 y2 j hj
    have outer : ∀ (d v : Nat) (I' : Nat → Nat → Int) (u4 u5 u6 u7 u8 : mm_V), v + d = 4 → (∀ b, b ≠ 32 → b ≠ 34 → I' b = I b) → trI I' T → (∀ L, agr I T L → agr I' T (fo (jV (I 3) (I 4) nb f) v L)) → Ok 2 [.inr (some 1), .inr (some a), .inl (f : Int), .inl (v : Int), u4, u5, u6, u7, u8] [] (I', mm_R0) := by
      intro d
      induction d with
      | zero =>
        intro v I' u4 u5 u6 u7 u8 hd q1 q2 q3
        refine c2 _ _ _ ?_
        simp only [b_X9_joinPieces_2, i_ld, i_la, i_st, i_sa, i_c, i_inc, i_add, i_sub, i_mul, i_div, i_rem, i_remT, i_xor, i_dup, i_dup2, i_if, i_if2, i_sw, i_gi, i_gr, i_pi, i_pz, i_ial, i_ias, i_len, i_aal, i_gs, i_tal, i_cv, i_cs, i_ir, i_zr, i_vr, i_min, i_max, i_cpy, List.getElem?_cons_zero, List.getElem?_cons_succ, List.set_cons_zero, List.set_cons_succ, List.length_cons, List.length_nil, List.drop_succ_cons, List.drop_zero, List.take_succ_cons, List.take_zero, List.reverse_cons, List.reverse_nil, List.nil_append, List.cons_append, Option.toList_some, Option.toList_none, true_and, and_true, true_or, or_true, Nat.reduceAdd, Nat.reduceLT, Nat.reduceLeDiff, Option.some.injEq, exists_eq_left', Int.toNat_natCast, Nat.reduceSub, List.append_nil, List.replicate_succ, List.replicate_zero, mm_in,]
        repeat' first | refine And.intro ?_ ?_ | intro _
        all_goals try omega
        rw [show v = 4 by omega] at q3
        exact hP I' q1 q2 q3
      | succ d ih =>
        intro v I' u4 u5 u6 u7 u8 hd q1 q2 q3
        have e3 : I' 3 = I 3 := q1 3 (by decide) (by decide)
        have e4 : I' 4 = I 4 := q1 4 (by decide) (by decide)
        have ea : I' (a + 1) = nb := by rw [q1 _ na na2]; exact hnb
        have skip : ∀ (I2 : Nat → Nat → Int) (u4 u5 u6 u7 u8 : mm_V), (∀ b, b ≠ 32 → b ≠ 34 → I2 b = I b) → trI I2 T → (∀ L, agr I T L → agr I2 T (fo (jV (I 3) (I 4) nb f) (v + 1) L)) → Ok 129 [.inr (some 1), .inr (some a), .inl (f : Int), .inl (v : Int), u4, u5, u6, u7, u8] [] (I2, mm_R0) := by
          intro I2 u4 u5 u6 u7 u8 z1 z2 z3
          refine c129 _ _ _ ?_
          simp only [b_X9_joinPieces_129, i_ld, i_la, i_st, i_sa, i_c, i_inc, i_add, i_sub, i_mul, i_div, i_rem, i_remT, i_xor, i_dup, i_dup2, i_if, i_if2, i_sw, i_gi, i_gr, i_pi, i_pz, i_ial, i_ias, i_len, i_aal, i_gs, i_tal, i_cv, i_cs, i_ir, i_zr, i_vr, i_min, i_max, i_cpy, List.getElem?_cons_zero, List.getElem?_cons_succ, List.set_cons_zero, List.set_cons_succ, List.length_cons, List.length_nil, List.drop_succ_cons, List.drop_zero, List.take_succ_cons, List.take_zero, List.reverse_cons, List.reverse_nil, List.nil_append, List.cons_append, Option.toList_some, Option.toList_none, true_and, and_true, true_or, or_true, Nat.reduceAdd, Nat.reduceLT, Nat.reduceLeDiff, Option.some.injEq, exists_eq_left', Int.toNat_natCast, Nat.reduceSub, List.append_nil, List.replicate_succ, List.replicate_zero, mm_in,]
          repeat' first | refine And.intro ?_ ?_ | intro _
          all_goals try omega
          exact ih (v + 1) I2 _ _ _ _ _ (by omega) z1 z2 z3
        refine c2 _ _ _ ?_
        simp only [b_X9_joinPieces_2, i_ld, i_la, i_st, i_sa, i_c, i_inc, i_add, i_sub, i_mul, i_div, i_rem, i_remT, i_xor, i_dup, i_dup2, i_if, i_if2, i_sw, i_gi, i_gr, i_pi, i_pz, i_ial, i_ias, i_len, i_aal, i_gs, i_tal, i_cv, i_cs, i_ir, i_zr, i_vr, i_min, i_max, i_cpy, List.getElem?_cons_zero, List.getElem?_cons_succ, List.set_cons_zero, List.set_cons_succ, List.length_cons, List.length_nil, List.drop_succ_cons, List.drop_zero, List.take_succ_cons, List.take_zero, List.reverse_cons, List.reverse_nil, List.nil_append, List.cons_append, Option.toList_some, Option.toList_none, true_and, and_true, true_or, or_true, Nat.reduceAdd, Nat.reduceLT, Nat.reduceLeDiff, Option.some.injEq, exists_eq_left', Int.toNat_natCast, Nat.reduceSub, List.append_nil, List.replicate_succ, List.replicate_zero, mm_in, r0, r9, w4, T_X10_across, e3, e4, ef1, ef2, T_X7_arcsAt, h1, ha, ea]
        refine ⟨fun z => by omega, fun _ => ⟨f, v, rfl, rfl, by omega, by omega, fun _ => by omega, ?_⟩⟩
        by_cases hvf : v = f % 4
        · have hav' : acr (I 3) (I 4) f v = -1 := by rw [hvf]; exact hacn
          rw [hav']
          refine ⟨fun z => by omega, fun _ => skip I' _ _ _ _ _ q1 q2 (fun L hL => ?_)⟩
          show agr I' T (jV (I 3) (I 4) nb f v (fo (jV (I 3) (I 4) nb f) v L))
          unfold jV
          rw [if_neg (by rw [hav']; decide)]
          exact q3 L hL
        · obtain ⟨a1, a2⟩ := hac v (by omega) hvf
          have hab := ac_b (b20_bd h4) (b := f / 4) (f := f % 4) (v := v) (by omega) (by omega) (by omega)
          rw [a1]
          refine ⟨fun _ => ?_, fun z => by omega⟩
          refine ⟨⟨by omega, by omega⟩, ⟨by omega, by omega⟩, f / 4, f % 4, v, rfl, rfl, rfl, by omega, by omega, by omega, b20_bd h4, ?_⟩
          refine inner v (by omega) hvf (fun L => fo (jV (I 3) (I 4) nb f) v L) (fun I2 z1 z2 z3 u4 u5 u6 u7 u8 => ?_) (ac nb (f / 4) (f % 4) v).toNat 0 I' _ _ (by omega) q1 q2 q3
          refine skip I2 _ _ _ _ _ z1 z2 (fun L hL => ?_)
          show agr I2 T (jV (I 3) (I 4) nb f v (fo (jV (I 3) (I 4) nb f) v L))
          unfold jV
          rw [if_pos (by rw [a1]; omega)]
          exact z3 L hL
    refine c0 _ _ _ ?_
    simp only [b_X9_joinPieces_0, i_ld, i_la, i_st, i_sa, i_c, i_inc, i_add, i_sub, i_mul, i_div, i_rem, i_remT, i_xor, i_dup, i_dup2, i_if, i_if2, i_sw, i_gi, i_gr, i_pi, i_pz, i_ial, i_ias, i_len, i_aal, i_gs, i_tal, i_cv, i_cs, i_ir, i_zr, i_vr, i_min, i_max, i_cpy, List.getElem?_cons_zero, List.getElem?_cons_succ, List.set_cons_zero, List.set_cons_succ, List.length_cons, List.length_nil, List.drop_succ_cons, List.drop_zero, List.take_succ_cons, List.take_zero, List.reverse_cons, List.reverse_nil, List.nil_append, List.cons_append, Option.toList_some, Option.toList_none, true_and, and_true, true_or, or_true, Nat.reduceAdd, Nat.reduceLT, Nat.reduceLeDiff, Option.some.injEq, exists_eq_left', Int.toNat_natCast, Nat.reduceSub, List.append_nil, List.replicate_succ, List.replicate_zero]
    exact outer 4 0 I _ _ _ _ _ (by omega) (fun _ _ _ => rfl) hs (fun L hL => hL)
  · exact hT.elim
theorem sp_X9_joinPieces : mm_Sp yX9_joinPieces cX9_joinPieces 9 none rm_X9_joinPieces T_X9_joinPieces := mm_meth (by decide) (by
  intro av σ Post h
  unfold T_X9_joinPieces at h
  split at h
  · simp
  · exact h.elim) (fun p l e s m args below meth c G av σ Post hC hr _ hav hin hk hT => pv_X9_joinPieces av σ Post hav hin hk hT _ (bk_X9_joinPieces hC hr))
def T_X9_trace : mm_T := fun av σ Post => match av with
  | [.inr (some s), .inr (some a)] => σ.2 = mm_R0 ∧ s = 1 ∧ (mm_sh a).1 = 6 ∧ ∃ n : Nat, gw σ.1 n ∧ b20 (σ.1 (a + 1)) ∧ mt n (σ.1 3) (σ.1 4) (σ.1 (a + 1)) ∧
    ∀ I' : Nat → Nat → Int, (∀ b, b ≠ 1 → (b < 31 ∨ 35 < b) → I' b = σ.1 b) → I' 1 10 = nr (tra n (σ.1 3) (σ.1 4) (σ.1 (a + 1))).1 (so (σ.1 (a + 1)) 21) → I' 1 11 = nr (tra n (σ.1 3) (σ.1 4) (σ.1 (a + 1))).2 (2 * so (σ.1 (a + 1)) 21) - nr (tra n (σ.1 3) (σ.1 4) (σ.1 (a + 1))).1 (so (σ.1 (a + 1)) 21) → Post none (I', mm_R0)
  | _ => False
def rm_X9_trace : Room := { frames := 3, cells := 0, slots := 0, locals := 78 }
def b_X9_trace_0 (Ok : Nat → mm_K) (Post : Option mm_V → mm_S → Prop) (kf : Nat) : mm_K := i_c 0 (i_st 2 (i_c 0 (i_st 3 (Ok 4))))
def b_X9_trace_4 (Ok : Nat → mm_K) (Post : Option mm_V → mm_S → Prop) (kf : Nat) : mm_K := i_ld 3 (i_c 21 (i_if2 (fun x y => y ≤ x) (i_la 0 (i_gr 8 3 (i_ld 2 (i_cv 1 1 T_X1_begin (i_la 0 (i_gr 8 4 (i_c 2 (i_ld 2 (i_mul (i_cv 1 1 T_X1_begin (i_c 0 (i_st 3 (Ok 52))))))))))))) (i_la 0 (i_gr 8 5 (i_ld 3 (i_ld 2 (i_ias (i_ld 2 (i_la 1 (i_gr 6 0 (i_ld 3 (i_ial (i_add (i_st 2 (i_inc 3 1 (Ok 4))))))))))))))))
def b_X9_trace_52 (Ok : Nat → mm_K) (Post : Option mm_V → mm_S → Prop) (kf : Nat) : mm_K := i_ld 3 (i_la 0 (i_gr 8 0 (i_cv 9 0 T_X10_faces (i_if2 (fun x y => y ≤ x) (i_la 0 (i_la 0 (i_gr 8 3 (i_cv 1 0 T_X1_countClasses (i_pi 8 10 (i_la 0 (i_la 0 (i_gr 8 4 (i_cv 1 0 T_X1_countClasses (i_la 0 (i_gi 8 10 (i_sub (i_pi 8 11 (i_vr Post kf)))))))))))))) (i_la 0 (i_gr 8 0 (i_ld 3 (i_cv 9 1 T_X10_leads (i_if (fun x => x = 0) (Ok 80) (i_la 0 (i_la 1 (i_ld 3 (i_cv 8 2 T_X9_joinPieces (Ok 80))))))))))))))
def b_X9_trace_80 (Ok : Nat → mm_K) (Post : Option mm_V → mm_S → Prop) (kf : Nat) : mm_K := i_inc 3 1 (Ok 52)
def clo_X9_trace (Ok : Nat → mm_K) (Post : Option mm_V → mm_S → Prop) (kf : Nat) : Prop := mm_imp (b_X9_trace_0 Ok Post kf) (Ok 0) ∧ mm_imp (b_X9_trace_4 Ok Post kf) (Ok 4) ∧ mm_imp (b_X9_trace_52 Ok Post kf) (Ok 52) ∧ mm_imp (b_X9_trace_80 Ok Post kf) (Ok 80)
set_option maxRecDepth 100000 in
set_option maxHeartbeats 4000000 in
theorem bk_X9_trace {p : Program} {l : Launch} {e : Env} {s : State} {m : MethodId} {args : Array Value} {below : List Frame} {meth : Method} {c : Code} {G : mm_G} {σ0 : mm_S} {Post : Option mm_V → mm_S → Prop} (hC : mm_C p G s m args meth c cX9_trace yX9_trace.cls) (hr : meth.sig.returnType = none) : clo_X9_trace (mm_O p l e rm_X9_trace s m args below meth c G σ0.2.2 (MQ below (mm_Qc G σ0 rm_X9_trace.cells rm_X9_trace.slots Post) args s rm_X9_trace.cells rm_X9_trace.slots (mm_A G))) Post σ0.2.2 := ⟨(by unfold b_X9_trace_0; exact (mm_ic hC dX9_trace_0 ⟨by decide, by decide⟩ (mm_st_n hC dX9_trace_1 rfl (mm_ic hC dX9_trace_2 ⟨by decide, by decide⟩ (mm_st_n hC dX9_trace_3 rfl (fun _ _ _ h => h)))))), (by unfold b_X9_trace_4; exact (mm_ld_n hC dX9_trace_4 rfl (mm_bp hC dX9_trace_5 ⟨⟨by decide, by decide⟩, by decide⟩ (mm_ic_ge hC (t := 32) dX9_trace_7 (by decide) (mm_la_n hC dX9_trace_32 rfl (mm_gr hC cl_8 (by decide) rfl wd_224 dX9_trace_33 (mm_ld_n hC dX9_trace_36 rfl (mm_cv hC sp_X1_begin ⟨rfl, rfl⟩ cl_1 wd_448 wd_367 wd_368 wd_369 wd_71 ⟨by decide, by decide, by decide +kernel⟩ ⟨by decide, by decide⟩ dX9_trace_37 (mm_la_n hC dX9_trace_40 rfl (mm_gr hC cl_8 (by decide) rfl wd_225 dX9_trace_41 (mm_ic hC dX9_trace_44 ⟨by decide, by decide⟩ (mm_ld_n hC dX9_trace_45 rfl (mm_mul hC dX9_trace_46 (mm_cv hC sp_X1_begin ⟨rfl, rfl⟩ cl_1 wd_448 wd_367 wd_368 wd_369 wd_71 ⟨by decide, by decide, by decide +kernel⟩ ⟨by decide, by decide⟩ dX9_trace_47 (mm_ic hC dX9_trace_50 ⟨by decide, by decide⟩ (mm_st_n hC dX9_trace_51 rfl (fun _ _ _ h => h))))))))))))) (mm_la_n hC dX9_trace_10 rfl (mm_gr hC cl_8 (by decide) rfl wd_226 dX9_trace_11 (mm_ld_n hC dX9_trace_14 rfl (mm_ld_n hC dX9_trace_15 rfl (mm_ias hC dX9_trace_16 (mm_ld_n hC dX9_trace_17 rfl (mm_la_n hC dX9_trace_18 rfl (mm_gr hC cl_6 (by decide) rfl wd_111 dX9_trace_19 (mm_ld_n hC dX9_trace_22 rfl (mm_ial hC dX9_trace_23 (mm_add hC dX9_trace_24 (mm_st_n hC dX9_trace_25 rfl (mm_inc hC dX9_trace_26 (mm_goto hC (t := 4) dX9_trace_29 (by decide) (fun _ _ _ h => h))))))))))))))))))), (by unfold b_X9_trace_52; exact (mm_ld_n hC dX9_trace_52 rfl (mm_la_n hC dX9_trace_53 rfl (mm_gr hC cl_8 (by decide) rfl wd_219 dX9_trace_54 (mm_cv hC sp_X10_faces ⟨rfl, rfl⟩ cl_9 wd_449 wd_358 wd_359 wd_360 wd_67 ⟨by decide, by decide, by decide +kernel⟩ ⟨by decide, by decide⟩ dX9_trace_57 (mm_ic_ge hC (t := 86) dX9_trace_60 (by decide) (mm_la_n hC dX9_trace_86 rfl (mm_la_n hC dX9_trace_87 rfl (mm_gr hC cl_8 (by decide) rfl wd_224 dX9_trace_88 (mm_cv hC sp_X1_countClasses ⟨rfl, rfl⟩ cl_1 wd_469 wd_470 wd_471 wd_472 wd_71 ⟨by decide, by decide, by decide +kernel⟩ ⟨by decide, by decide⟩ dX9_trace_91 (mm_pi hC cl_8 (by decide) rfl rfl rfl wd_231 dX9_trace_94 (mm_la_n hC dX9_trace_97 rfl (mm_la_n hC dX9_trace_98 rfl (mm_gr hC cl_8 (by decide) rfl wd_225 dX9_trace_99 (mm_cv hC sp_X1_countClasses ⟨rfl, rfl⟩ cl_1 wd_469 wd_470 wd_471 wd_472 wd_71 ⟨by decide, by decide, by decide +kernel⟩ ⟨by decide, by decide⟩ dX9_trace_102 (mm_la_n hC dX9_trace_105 rfl (mm_gi hC cl_8 (by decide) rfl wd_231 dX9_trace_106 (mm_sub hC dX9_trace_109 (mm_pi hC cl_8 (by decide) rfl rfl rfl wd_232 dX9_trace_110 (mm_vr hC ⟨rfl, rfl⟩ hr dX9_trace_113)))))))))))))) (mm_la_n hC dX9_trace_63 rfl (mm_gr hC cl_8 (by decide) rfl wd_219 dX9_trace_64 (mm_ld_n hC dX9_trace_67 rfl (mm_cv hC sp_X10_leads ⟨rfl, rfl⟩ cl_9 wd_450 wd_375 wd_376 wd_377 wd_67 ⟨by decide, by decide, by decide +kernel⟩ ⟨by decide, by decide⟩ dX9_trace_68 (mm_if_eq hC (t := 80) dX9_trace_71 (by decide) (fun _ _ _ h => h) (mm_la_n hC dX9_trace_74 rfl (mm_la_n hC dX9_trace_75 rfl (mm_ld_n hC dX9_trace_76 rfl (mm_cv hC sp_X9_joinPieces ⟨rfl, rfl⟩ cl_8 wd_451 wd_453 wd_5 wd_454 wd_66 ⟨by decide, by decide, by decide +kernel⟩ ⟨by decide, by decide⟩ dX9_trace_77 (fun _ _ _ h => h)))))))))))))))), (by unfold b_X9_trace_80; exact (mm_inc hC dX9_trace_80 (mm_goto hC (t := 52) dX9_trace_83 (by decide) (fun _ _ _ h => h))))⟩
set_option maxRecDepth 100000 in
set_option maxHeartbeats 8000000 in
theorem pv_X9_trace : ∀ (av : List mm_V) (σ : mm_S) (Post : Option mm_V → mm_S → Prop), (∀ v ∈ av, mm_iv v) → (∀ a j, mm_in (σ.1 a j)) → σ.2.2 ≤ 348 → T_X9_trace av σ Post → ∀ Ok : Nat → mm_K, clo_X9_trace Ok Post σ.2.2 → Ok 0 (av ++ List.replicate (4 - av.length) (.inr none)) [] σ := by
  intro av σ Post hav hin hk hT Ok hcl
  obtain ⟨I, R0⟩ := σ
  unfold T_X9_trace at hT
  split at hT
  · rename_i s a
    obtain ⟨h0, hT⟩ := hT
    have h0 : R0 = mm_R0 := h0
    subst h0
    dsimp only at hT hin
    obtain ⟨c0, c4, c52, c80⟩ := hcl
    obtain ⟨rfl, h1, n, ⟨hn, hn1, hn3, hg⟩, h4, h5, hP⟩ := hT
    have ha := sh_lt h1 (by decide)
    obtain ⟨hs1, hs2⟩ := sh_sheet a ha h1
    have hR : ∀ j, mm_Rs a j = some (a + 1) := fun j => Rs_sheet h1
    obtain ⟨r0, r1, r2, r3, r4, r5, r6, r7, r8, r9⟩ := Rs_1
    obtain ⟨w1, w2, w3, w4, w5, w6⟩ := Rs_2
    obtain ⟨q35, q31, q32, q33, q34, q36, q38, q40⟩ := sh_35
    have hne : ∀ j, 31 ≤ j → j ≤ 35 → a + 1 ≠ j := by
      intro j z1 z2 e
      have hh : ∀ x, x < 35 → 30 ≤ x → (mm_sh x).1 ≠ 6 := by decide +kernel
      exact hh a (by omega) (by omega) h1
    have hne1 : a + 1 ≠ 1 := fun e => by
      have : a = 0 := by omega
      rw [this] at h1; exact absurd h1 (by decide +kernel)
    obtain ⟨nb, hnb⟩ : ∃ nb, I (a + 1) = nb := ⟨_, rfl⟩
    rw [hnb] at h4 h5 hP
    obtain ⟨T, hTT⟩ : ∃ T, so nb 21 = T := ⟨_, rfl⟩
    rw [hTT] at hP
    have hT420 : T ≤ 420 := by rw [← hTT]; exact (so_le h4 (k := 0) (by omega)).2
    obtain ⟨LL, hLL⟩ : ∃ L, tra n (I 3) (I 4) nb = L := ⟨_, rfl⟩
    rw [hLL] at hP
    have loop2 : ∀ (d f : Nat) (I' : Nat → Nat → Int), f + d = 4 * n → (∀ b, b ≠ 1 → (b < 31 ∨ 35 < b) → I' b = I b) → (∀ k, k < 21 → I' 35 k = so nb k) → trI I' T → agr I' T (fo (jF (I 3) (I 4) nb) f (id, id)) → ∀ u : mm_V, Ok 52 [.inr (some 1), .inr (some a), u, .inl (f : Int)] [] (I', mm_R0) := by
      intro d
      induction d with
      | zero =>
        intro f I' hd q1 q35' q2 q3 u
        have e2 : I' 2 0 = n := by rw [q1 2 (by decide) (by omega)]; exact hn
        obtain ⟨t1, t2, t3, t4⟩ := id q2
        rw [show f = 4 * n by omega] at q3
        have q3 : agr I' T LL := by rw [← hLL]; exact q3
        have c1 : nr (rt (fi I' 32)) T = nr LL.1 T := sm_congr (fun j hj => by rw [q3.1 j hj])
        have c2 : nr (rt (fi I' 34)) (2 * T) = nr LL.2 (2 * T) := sm_congr (fun j hj => by rw [q3.2 j hj])
        have b1 := nr_b LL.1 T
        have b2 := nr_b LL.2 (2 * T)
        have f1 : ∀ z, mm_set I' 1 10 z 33 = I' 33 := fun z => by funext j; simp [mm_set]
        have f2 : ∀ z, mm_set I' 1 10 z 34 = I' 34 := fun z => by funext j; simp [mm_set]
        have f3 : ∀ z, fi (mm_set I' 1 10 z) 34 = fi I' 34 := fun z => fi_congr (f2 z)
        have f4 : ∀ z, mm_set I' 1 10 z 1 10 = z := fun z => by simp [mm_set]
        have f5 : ∀ z, ufi (mm_set I' 1 10 z) 34 (2 * T) := fun z j hj => by rw [f2]; exact t4 j hj
        refine c52 _ _ _ ?_
        simp only [b_X9_trace_52, i_ld, i_la, i_st, i_sa, i_c, i_inc, i_add, i_sub, i_mul, i_div, i_rem, i_remT, i_xor, i_dup, i_dup2, i_if, i_if2, i_sw, i_gi, i_gr, i_pi, i_pz, i_ial, i_ias, i_len, i_aal, i_gs, i_tal, i_cv, i_cs, i_ir, i_zr, i_vr, i_min, i_max, i_cpy, List.getElem?_cons_zero, List.getElem?_cons_succ, List.set_cons_zero, List.set_cons_succ, List.length_cons, List.length_nil, List.drop_succ_cons, List.drop_zero, List.take_succ_cons, List.take_zero, List.reverse_cons, List.reverse_nil, List.nil_append, List.cons_append, Option.toList_some, Option.toList_none, true_and, and_true, true_or, or_true, Nat.reduceAdd, Nat.reduceLT, Nat.reduceLeDiff, Option.some.injEq, exists_eq_left', Int.toNat_natCast, Nat.reduceSub, List.append_nil, List.replicate_succ, List.replicate_zero, mm_in, r0, r3, r4, r9, w4, T_X10_faces, e2, T_X1_countClasses, q31, q32, q33, q34, t1, t2, c1, f1, f3, f4, c2, Int.toNat_natCast]
        refine ⟨by omega, by omega, fun _ => ?_, fun z => by omega⟩
        refine ⟨by omega, by omega, t3, by omega, by omega, f5 _, fun _ => ⟨⟨by omega, by omega⟩, ?_⟩⟩
        refine hP _ (fun b z1 z2 => ?_) ?_ ?_
        · rw [← q1 b z1 z2]; funext j; simp [mm_set, z1]
        · simp [mm_set]
        · simp [mm_set]
      | succ d ih =>
        intro f I' hd q1 q35' q2 q3 u
        have e2 : I' 2 0 = n := by rw [q1 2 (by decide) (by omega)]; exact hn
        have e3 : I' 3 = I 3 := q1 3 (by decide) (by omega)
        have e4 : I' 4 = I 4 := q1 4 (by decide) (by omega)
        have ea : I' (a + 1) = nb := by rw [q1 (a + 1) hne1 (by have := hne 31; have := hne 32; have := hne 33; have := hne 34; have := hne 35; omega)]; exact hnb
        refine c52 _ _ _ ?_
        simp only [b_X9_trace_52, i_ld, i_la, i_st, i_sa, i_c, i_inc, i_add, i_sub, i_mul, i_div, i_rem, i_remT, i_xor, i_dup, i_dup2, i_if, i_if2, i_sw, i_gi, i_gr, i_pi, i_pz, i_ial, i_ias, i_len, i_aal, i_gs, i_tal, i_cv, i_cs, i_ir, i_zr, i_vr, i_min, i_max, i_cpy, List.getElem?_cons_zero, List.getElem?_cons_succ, List.set_cons_zero, List.set_cons_succ, List.length_cons, List.length_nil, List.drop_succ_cons, List.drop_zero, List.take_succ_cons, List.take_zero, List.reverse_cons, List.reverse_nil, List.nil_append, List.cons_append, Option.toList_some, Option.toList_none, true_and, and_true, true_or, or_true, Nat.reduceAdd, Nat.reduceLT, Nat.reduceLeDiff, Option.some.injEq, exists_eq_left', Int.toNat_natCast, Nat.reduceSub, List.append_nil, List.replicate_succ, List.replicate_zero, mm_in, r0, r9, w4, T_X10_faces, e2, T_X10_leads, e3, T_X9_joinPieces, h1, ea, e4, hTT]
        refine ⟨by omega, by omega, fun z => by omega, fun _ => ⟨f, rfl, by omega, fun z hz => ⟨fun q => ?_, fun q => ?_⟩⟩⟩
        · refine c80 _ _ _ ?_
          simp only [b_X9_trace_80, i_ld, i_la, i_st, i_sa, i_c, i_inc, i_add, i_sub, i_mul, i_div, i_rem, i_remT, i_xor, i_dup, i_dup2, i_if, i_if2, i_sw, i_gi, i_gr, i_pi, i_pz, i_ial, i_ias, i_len, i_aal, i_gs, i_tal, i_cv, i_cs, i_ir, i_zr, i_vr, i_min, i_max, i_cpy, List.getElem?_cons_zero, List.getElem?_cons_succ, List.set_cons_zero, List.set_cons_succ, List.length_cons, List.length_nil, List.drop_succ_cons, List.drop_zero, List.take_succ_cons, List.take_zero, List.reverse_cons, List.reverse_nil, List.nil_append, List.cons_append, Option.toList_some, Option.toList_none, true_and, and_true, true_or, or_true, Nat.reduceAdd, Nat.reduceLT, Nat.reduceLeDiff, Option.some.injEq, exists_eq_left', Int.toNat_natCast, Nat.reduceSub, List.append_nil, List.replicate_succ, List.replicate_zero, mm_in,]
          repeat' first | refine And.intro ?_ ?_ | intro _
          all_goals try omega
          refine ih (f + 1) I' (by omega) q1 q35' q2 ?_ _
          show agr I' T (jF (I 3) (I 4) nb f (fo (jF (I 3) (I 4) nb) f (id, id)))
          unfold jF
          rw [if_neg (by rcases hz with ⟨z1, z2⟩ | ⟨z1, z2⟩; omega; exact z2)]
          exact q3
        · have hlead : (f : Int) < I 3 f := by rcases hz with ⟨z1, z2⟩ | ⟨z1, z2⟩; exact z2; omega
          refine ⟨f, n, rfl, ⟨e2, hn1, hn3, by rw [e3, e4]; exact hg⟩, by omega, hlead, h4, fun v hv hvf => h5 f v (by omega) hv hlead hvf, q35', q2, fun I2 f1 f2 f3 => ?_⟩
          refine c80 _ _ _ ?_
          simp only [b_X9_trace_80, i_ld, i_la, i_st, i_sa, i_c, i_inc, i_add, i_sub, i_mul, i_div, i_rem, i_remT, i_xor, i_dup, i_dup2, i_if, i_if2, i_sw, i_gi, i_gr, i_pi, i_pz, i_ial, i_ias, i_len, i_aal, i_gs, i_tal, i_cv, i_cs, i_ir, i_zr, i_vr, i_min, i_max, i_cpy, List.getElem?_cons_zero, List.getElem?_cons_succ, List.set_cons_zero, List.set_cons_succ, List.length_cons, List.length_nil, List.drop_succ_cons, List.drop_zero, List.take_succ_cons, List.take_zero, List.reverse_cons, List.reverse_nil, List.nil_append, List.cons_append, Option.toList_some, Option.toList_none, true_and, and_true, true_or, or_true, Nat.reduceAdd, Nat.reduceLT, Nat.reduceLeDiff, Option.some.injEq, exists_eq_left', Int.toNat_natCast, Nat.reduceSub, List.append_nil, List.replicate_succ, List.replicate_zero, mm_in,]
          repeat' first | refine And.intro ?_ ?_ | intro _
          all_goals try omega
          refine ih (f + 1) I2 (by omega) (fun b z1 z2 => by rw [f1 b (by omega) (by omega)]; exact q1 b z1 z2) (fun k hk => by rw [f1 35 (by decide) (by decide)]; exact q35' k hk) f2 ?_ _
          show agr I2 T (jF (I 3) (I 4) nb f (fo (jF (I 3) (I 4) nb) f (id, id)))
          unfold jF
          rw [if_pos hlead]
          exact f3 _ q3
    have loop1 : ∀ (d k : Nat) (I' : Nat → Nat → Int), k + d = 21 → (∀ b, b ≠ 35 → I' b = I b) → (∀ j, j < k → I' 35 j = so nb j) → Ok 4 [.inr (some 1), .inr (some a), .inl (so nb k : Int), .inl (k : Int)] [] (I', mm_R0) := by
      intro d
      induction d with
      | zero =>
        intro k I' hd q1 q2
        rw [show so nb k = T by rw [← hTT, show k = 21 by omega]]
        refine c4 _ _ _ ?_
        simp only [b_X9_trace_4, i_ld, i_la, i_st, i_sa, i_c, i_inc, i_add, i_sub, i_mul, i_div, i_rem, i_remT, i_xor, i_dup, i_dup2, i_if, i_if2, i_sw, i_gi, i_gr, i_pi, i_pz, i_ial, i_ias, i_len, i_aal, i_gs, i_tal, i_cv, i_cs, i_ir, i_zr, i_vr, i_min, i_max, i_cpy, List.getElem?_cons_zero, List.getElem?_cons_succ, List.set_cons_zero, List.set_cons_succ, List.length_cons, List.length_nil, List.drop_succ_cons, List.drop_zero, List.take_succ_cons, List.take_zero, List.reverse_cons, List.reverse_nil, List.nil_append, List.cons_append, Option.toList_some, Option.toList_none, true_and, and_true, true_or, or_true, Nat.reduceAdd, Nat.reduceLT, Nat.reduceLeDiff, Option.some.injEq, exists_eq_left', Int.toNat_natCast, Nat.reduceSub, List.append_nil, List.replicate_succ, List.replicate_zero, mm_in, r3, r4, r9, q31, q32, q33, q34, T_X1_begin]
        repeat' first | refine And.intro ?_ ?_ | refine fun (_ : _ ≤ _ ∧ _ < _) => ?_
        all_goals try omega
        · intro _
          repeat' first | refine And.intro ?_ ?_ | refine fun (_ : _ ≤ _ ∧ _ < _) => ?_
          all_goals try omega
          intro I1 f1 x1 y1
          repeat' first | refine And.intro ?_ ?_ | refine fun (_ : _ ≤ _ ∧ _ < _) => ?_
          all_goals try omega
          intro I2 f2 x2 y2
          have rid : ∀ (J : Nat → Nat → Int) (u m : Nat), (∀ i, i < m → J u i = i) → (ufi J u m ∧ ∀ k, k < m → rt (fi J u) k = k) := fun J u m h => ⟨fun i hi => by rw [h i hi]; omega, fun k hk => rt_top (by unfold fi; rw [h k hk]; omega)⟩
          have z32 : ∀ i, i < T → I2 32 i = i := fun i hi => by rw [f2 32 (by decide) (by decide)]; exact y1 i (by omega)
          have z34 : ∀ i, i < 2 * T → I2 34 i = i := fun i hi => y2 i (by omega)
          refine loop2 (4 * n) 0 I2 (by omega) (fun b z1 z2 => by rw [f2 b (by omega) (by omega), f1 b (by omega) (by omega)]; exact q1 b (by omega)) (fun j hj => by rw [f2 35 (by decide) (by decide), f1 35 (by decide) (by decide)]; exact q2 j (by omega)) ⟨by rw [f2 31 (by decide) (by decide)]; exact x1, by rw [x2]; omega, (rid I2 32 _ z32).1, (rid I2 34 _ z34).1⟩ ⟨(rid I2 32 _ z32).2, (rid I2 34 _ z34).2⟩ _
      | succ d ih =>
        intro k I' hd q1 q2
        have ea : mm_set I' 35 k (so nb k : Int) (a + 1) = nb := by
          rw [← hnb, ← q1 (a + 1) (hne 35 (by omega) (by omega))]
          have := hne 35 (by omega) (by omega)
          funext j; simp [mm_set, this]
        have b1 := so_s h4 (k := k) (by omega)
        have b2 := so_le h4 (k := k) (by omega)
        have b3 := h4 k (by omega)
        refine c4 _ _ _ ?_
        simp only [b_X9_trace_4, i_ld, i_la, i_st, i_sa, i_c, i_inc, i_add, i_sub, i_mul, i_div, i_rem, i_remT, i_xor, i_dup, i_dup2, i_if, i_if2, i_sw, i_gi, i_gr, i_pi, i_pz, i_ial, i_ias, i_len, i_aal, i_gs, i_tal, i_cv, i_cs, i_ir, i_zr, i_vr, i_min, i_max, i_cpy, List.getElem?_cons_zero, List.getElem?_cons_succ, List.set_cons_zero, List.set_cons_succ, List.length_cons, List.length_nil, List.drop_succ_cons, List.drop_zero, List.take_succ_cons, List.take_zero, List.reverse_cons, List.reverse_nil, List.nil_append, List.cons_append, Option.toList_some, Option.toList_none, true_and, and_true, true_or, or_true, Nat.reduceAdd, Nat.reduceLT, Nat.reduceLeDiff, Option.some.injEq, exists_eq_left', Int.toNat_natCast, Nat.reduceSub, List.append_nil, List.replicate_succ, List.replicate_zero, mm_in, r5, r9, q35, h1, ha, hs1, hs2, hR, ea]
        repeat' first | refine And.intro ?_ ?_ | intro _
        all_goals try omega
        rw [show (so nb k : Int) + nb k = (so nb (k + 1) : Int) by omega]
        refine ih (k + 1) _ (by omega) (fun b hb => ?_) (fun j hj => ?_)
        · rw [← q1 b hb]; funext j; simp [mm_set, hb]
        · by_cases e : j = k
          · subst e; simp [mm_set]
          · simp [mm_set, e]; exact q2 j (by omega)
    refine c0 _ _ _ ?_
    simp only [b_X9_trace_0, i_ld, i_la, i_st, i_sa, i_c, i_inc, i_add, i_sub, i_mul, i_div, i_rem, i_remT, i_xor, i_dup, i_dup2, i_if, i_if2, i_sw, i_gi, i_gr, i_pi, i_pz, i_ial, i_ias, i_len, i_aal, i_gs, i_tal, i_cv, i_cs, i_ir, i_zr, i_vr, i_min, i_max, i_cpy, List.getElem?_cons_zero, List.getElem?_cons_succ, List.set_cons_zero, List.set_cons_succ, List.length_cons, List.length_nil, List.drop_succ_cons, List.drop_zero, List.take_succ_cons, List.take_zero, List.reverse_cons, List.reverse_nil, List.nil_append, List.cons_append, Option.toList_some, Option.toList_none, true_and, and_true, true_or, or_true, Nat.reduceAdd, Nat.reduceLT, Nat.reduceLeDiff, Option.some.injEq, exists_eq_left', Int.toNat_natCast, Nat.reduceSub, List.append_nil, List.replicate_succ, List.replicate_zero]
    exact loop1 21 0 I (by omega) (fun _ _ => rfl) (fun j hj => by omega)
  · exact hT.elim
theorem sp_X9_trace : mm_Sp yX9_trace cX9_trace 4 none rm_X9_trace T_X9_trace := mm_meth (by decide) (by
  intro av σ Post h
  unfold T_X9_trace at h
  split at h
  · simp
  · exact h.elim) (fun p l e s m args below meth c G av σ Post hC hr _ hav hin hk hT => pv_X9_trace av σ Post hav hin hk hT _ (bk_X9_trace hC hr))
