/-! Survey: whether a surface splits -/
theorem ac_congr {p q : Nat → Int} (h : ∀ k, k < 21 → p k = q k) {b f v : Nat} (hb : b < 3) (hf : f < 4) (hv : v < 4) : ac p b f v = ac q b f v := by
  have := tg_b hv hf
  unfold ac
  rw [h _ (by omega), h _ (by omega)]
theorem mc_congr {pa wy p q : Nat → Int} (h : ∀ k, k < 21 → p k = q k) {f v : Nat} (hf : f < 12) (hv : v < 4) (ho : (pa f).toNat < 12) : mc pa wy p f v ↔ mc pa wy q f v := by
  unfold mc
  rw [ac_congr h (by omega) (by omega) hv, ac_congr h (by omega) (by omega) (by omega)]
theorem mt_congr {n : Nat} {pa wy p q : Nat → Int} (hg : gok n pa wy) (hn : n ≤ 3) (h : ∀ k, k < 21 → p k = q k) : mt n pa wy p ↔ mt n pa wy q := by
  have hb : ∀ f, f < 4 * n → (pa f).toNat < 12 := fun f hf => by
    rcases hg f (by omega) with z | z
    · rw [z]; decide
    · omega
  constructor
  · intro z f v h1 h2 h3 h4
    exact (mc_congr h (by omega) h2 (hb f h1)).mp (z f v h1 h2 h3 h4)
  · intro z f v h1 h2 h3 h4
    exact (mc_congr h (by omega) h2 (hb f h1)).mpr (z f v h1 h2 h3 h4)
/-- the capped product of the numbers, each increased by one -/
def cp (nb : Nat → Int) : Nat → Int
  | 0 => 1
  | k + 1 => if cp nb k ≤ 6000 then cp nb k * (nb k + 1) else cp nb k
theorem mul_b {x y : Int} (hx : 1 ≤ x) (hx2 : x ≤ 6000) (hy : 1 ≤ y) (hy2 : y ≤ 21) : 1 ≤ x * y ∧ x * y ≤ 126000 := by
  have h1 : x * 1 ≤ x * y := Int.mul_le_mul_of_nonneg_left hy (by omega)
  have h2 : x * y ≤ x * 21 := Int.mul_le_mul_of_nonneg_left hy2 (by omega)
  omega
theorem cp_b {nb : Nat → Int} (h : b20 nb) {k : Nat} (hk : k ≤ 21) : 1 ≤ cp nb k ∧ cp nb k ≤ 126000 := by
  induction k with
  | zero => exact ⟨(by show (1 : Int) ≤ 1; decide), (by show (1 : Int) ≤ 126000; decide)⟩
  | succ k ih =>
    have h1 := ih (by omega)
    have h2 := h k (by omega)
    unfold cp
    split
    · exact mul_b h1.1 (by assumption) (by omega) (by omega)
    · exact h1
theorem cp_stuck {nb : Nat → Int} {k : Nat} (h : 6000 < cp nb k) {j : Nat} (hj : k ≤ j) : cp nb j = cp nb k := by
  induction hj with
  | refl => rfl
  | step _ ih =>
    rename_i m _
    have h1 : cp nb (m + 1) = if cp nb m ≤ 6000 then cp nb m * (nb m + 1) else cp nb m := rfl
    show cp nb (m + 1) = cp nb k
    rw [h1, ih, if_neg (by omega)]
def T_X9_countParts : mm_T := fun av σ Post => match av with
  | [.inr (some a)] => σ.2 = mm_R0 ∧ (mm_sh a).1 = 6 ∧ b20 (σ.1 (a + 1)) ∧ Post (some (.inl (cp (σ.1 (a + 1)) 21))) σ
  | _ => False
def rm_X9_countParts : Room := { frames := 0, cells := 0, slots := 0, locals := 0 }
def b_X9_countParts_0 (Ok : Nat → mm_K) (Post : Option mm_V → mm_S → Prop) (kf : Nat) : mm_K := i_c 1 (i_st 1 (i_c 0 (i_st 2 (Ok 4))))
def b_X9_countParts_4 (Ok : Nat → mm_K) (Post : Option mm_V → mm_S → Prop) (kf : Nat) : mm_K := i_ld 2 (i_c 21 (i_if2 (fun x y => y ≤ x) (Ok 34) (i_ld 1 (i_c 6000 (i_if2 (fun x y => y < x) (Ok 34) (i_ld 1 (i_la 0 (i_gr 6 0 (i_ld 2 (i_ial (i_c 1 (i_add (i_mul (i_st 1 (i_inc 2 1 (Ok 4))))))))))))))))
def b_X9_countParts_34 (Ok : Nat → mm_K) (Post : Option mm_V → mm_S → Prop) (kf : Nat) : mm_K := i_ld 1 (i_ir Post kf)
def clo_X9_countParts (Ok : Nat → mm_K) (Post : Option mm_V → mm_S → Prop) (kf : Nat) : Prop := mm_imp (b_X9_countParts_0 Ok Post kf) (Ok 0) ∧ mm_imp (b_X9_countParts_4 Ok Post kf) (Ok 4) ∧ mm_imp (b_X9_countParts_34 Ok Post kf) (Ok 34)
set_option maxRecDepth 100000 in
set_option maxHeartbeats 4000000 in
theorem bk_X9_countParts {p : Program} {l : Launch} {e : Env} {s : State} {m : MethodId} {args : Array Value} {below : List Frame} {meth : Method} {c : Code} {G : mm_G} {σ0 : mm_S} {Post : Option mm_V → mm_S → Prop} (hC : mm_C p G s m args meth c cX9_countParts yX9_countParts.cls) (hr : meth.sig.returnType = some .int) : clo_X9_countParts (mm_O p l e rm_X9_countParts s m args below meth c G σ0.2.2 (MQ below (mm_Qc G σ0 rm_X9_countParts.cells rm_X9_countParts.slots Post) args s rm_X9_countParts.cells rm_X9_countParts.slots (mm_A G))) Post σ0.2.2 := ⟨(by unfold b_X9_countParts_0; exact (mm_ic hC dX9_countParts_0 ⟨by decide, by decide⟩ (mm_st_n hC dX9_countParts_1 rfl (mm_ic hC dX9_countParts_2 ⟨by decide, by decide⟩ (mm_st_n hC dX9_countParts_3 rfl (fun _ _ _ h => h)))))), (by unfold b_X9_countParts_4; exact (mm_ld_n hC dX9_countParts_4 rfl (mm_bp hC dX9_countParts_5 ⟨⟨by decide, by decide⟩, by decide⟩ (mm_ic_ge hC (t := 34) dX9_countParts_7 (by decide) (fun _ _ _ h => h) (mm_ld_n hC dX9_countParts_10 rfl (mm_sp hC dX9_countParts_11 ⟨⟨by decide, by decide⟩, by decide⟩ (mm_ic_gt hC (t := 34) dX9_countParts_14 (by decide) (fun _ _ _ h => h) (mm_ld_n hC dX9_countParts_17 rfl (mm_la_n hC dX9_countParts_18 rfl (mm_gr hC cl_6 (by decide) rfl wd_111 dX9_countParts_19 (mm_ld_n hC dX9_countParts_22 rfl (mm_ial hC dX9_countParts_23 (mm_ic hC dX9_countParts_24 ⟨by decide, by decide⟩ (mm_add hC dX9_countParts_25 (mm_mul hC dX9_countParts_26 (mm_st_n hC dX9_countParts_27 rfl (mm_inc hC dX9_countParts_28 (mm_goto hC (t := 4) dX9_countParts_31 (by decide) (fun _ _ _ h => h))))))))))))))))))), (by unfold b_X9_countParts_34; exact (mm_ld_n hC dX9_countParts_34 rfl (mm_ir hC ⟨rfl, rfl⟩ hr dX9_countParts_35)))⟩
set_option maxRecDepth 100000 in
set_option maxHeartbeats 8000000 in
theorem pv_X9_countParts : ∀ (av : List mm_V) (σ : mm_S) (Post : Option mm_V → mm_S → Prop), (∀ v ∈ av, mm_iv v) → (∀ a j, mm_in (σ.1 a j)) → σ.2.2 ≤ 348 → T_X9_countParts av σ Post → ∀ Ok : Nat → mm_K, clo_X9_countParts Ok Post σ.2.2 → Ok 0 (av ++ List.replicate (3 - av.length) (.inr none)) [] σ := by
  intro av σ Post hav hin hk hT Ok hcl
  obtain ⟨I, R0⟩ := σ
  unfold T_X9_countParts at hT
  split at hT
  · rename_i a
    obtain ⟨h0, hT⟩ := hT
    have h0 : R0 = mm_R0 := h0
    subst h0
    dsimp only at hT hin
    obtain ⟨c0, c4, c34⟩ := hcl
    obtain ⟨h1, h2, hP⟩ := hT
    have ha := sh_lt h1 (by decide)
    obtain ⟨hs1, hs2⟩ := sh_sheet a ha h1
    have hR : ∀ j, mm_Rs a j = some (a + 1) := fun j => Rs_sheet h1
    have fin : ∀ (k : Nat), k ≤ 21 → (k = 21 ∨ 6000 < cp (I (a + 1)) k) → Ok 34 [.inr (some a), .inl (cp (I (a + 1)) k), .inl (k : Int)] [] (I, mm_R0) := by
      intro k hk hh
      have e : cp (I (a + 1)) k = cp (I (a + 1)) 21 := by
        rcases hh with z | z
        · rw [z]
        · rw [cp_stuck z hk]
      rw [e]
      refine c34 _ _ _ ?_
      simp only [b_X9_countParts_34, i_ld, i_la, i_st, i_sa, i_c, i_inc, i_add, i_sub, i_mul, i_div, i_rem, i_remT, i_xor, i_dup, i_dup2, i_if, i_if2, i_sw, i_gi, i_gr, i_pi, i_pz, i_ial, i_ias, i_len, i_aal, i_gs, i_tal, i_cv, i_cs, i_ir, i_zr, i_vr, i_min, i_max, i_cpy, List.getElem?_cons_zero, List.getElem?_cons_succ, List.set_cons_zero, List.set_cons_succ, List.length_cons, List.length_nil, List.drop_succ_cons, List.drop_zero, List.take_succ_cons, List.take_zero, List.reverse_cons, List.reverse_nil, List.nil_append, List.cons_append, Option.toList_some, Option.toList_none, true_and, and_true, true_or, or_true, Nat.reduceAdd, Nat.reduceLT, Nat.reduceLeDiff, Option.some.injEq, exists_eq_left', Int.toNat_natCast, Nat.reduceSub, List.append_nil, List.replicate_succ, List.replicate_zero]
      exact hP
    have loop : ∀ (d k : Nat), k + d = 21 → Ok 4 [.inr (some a), .inl (cp (I (a + 1)) k), .inl (k : Int)] [] (I, mm_R0) := by
      intro d
      induction d with
      | zero =>
        intro k hd
        refine c4 _ _ _ ?_
        simp only [b_X9_countParts_4, i_ld, i_la, i_st, i_sa, i_c, i_inc, i_add, i_sub, i_mul, i_div, i_rem, i_remT, i_xor, i_dup, i_dup2, i_if, i_if2, i_sw, i_gi, i_gr, i_pi, i_pz, i_ial, i_ias, i_len, i_aal, i_gs, i_tal, i_cv, i_cs, i_ir, i_zr, i_vr, i_min, i_max, i_cpy, List.getElem?_cons_zero, List.getElem?_cons_succ, List.set_cons_zero, List.set_cons_succ, List.length_cons, List.length_nil, List.drop_succ_cons, List.drop_zero, List.take_succ_cons, List.take_zero, List.reverse_cons, List.reverse_nil, List.nil_append, List.cons_append, Option.toList_some, Option.toList_none, true_and, and_true, true_or, or_true, Nat.reduceAdd, Nat.reduceLT, Nat.reduceLeDiff, Option.some.injEq, exists_eq_left', Int.toNat_natCast, Nat.reduceSub, List.append_nil, List.replicate_succ, List.replicate_zero, mm_in,]
        refine ⟨fun _ => fin k (by omega) (by omega), fun z => by omega⟩
      | succ d ih =>
        intro k hd
        have b1 := cp_b h2 (k := k) (by omega)
        have b2 := h2 k (by omega)
        refine c4 _ _ _ ?_
        simp only [b_X9_countParts_4, i_ld, i_la, i_st, i_sa, i_c, i_inc, i_add, i_sub, i_mul, i_div, i_rem, i_remT, i_xor, i_dup, i_dup2, i_if, i_if2, i_sw, i_gi, i_gr, i_pi, i_pz, i_ial, i_ias, i_len, i_aal, i_gs, i_tal, i_cv, i_cs, i_ir, i_zr, i_vr, i_min, i_max, i_cpy, List.getElem?_cons_zero, List.getElem?_cons_succ, List.set_cons_zero, List.set_cons_succ, List.length_cons, List.length_nil, List.drop_succ_cons, List.drop_zero, List.take_succ_cons, List.take_zero, List.reverse_cons, List.reverse_nil, List.nil_append, List.cons_append, Option.toList_some, Option.toList_none, true_and, and_true, true_or, or_true, Nat.reduceAdd, Nat.reduceLT, Nat.reduceLeDiff, Option.some.injEq, exists_eq_left', Int.toNat_natCast, Nat.reduceSub, List.append_nil, List.replicate_succ, List.replicate_zero, mm_in, h1, ha, hs1, hs2, hR]
        refine ⟨fun z => by omega, fun _ => ⟨fun z => fin k (by omega) (by omega), fun z => ⟨⟨by omega, by omega⟩, fun _ => ⟨⟨by omega, by omega⟩, ?_⟩⟩⟩⟩
        have hm := mul_b b1.1 (by omega) (show 1 ≤ I (a + 1) k + 1 by omega) (by omega)
        refine ⟨⟨by omega, by omega⟩, ⟨by omega, by omega⟩, ?_⟩
        have := ih (k + 1) (by omega)
        have hc : cp (I (a + 1)) (k + 1) = cp (I (a + 1)) k * (I (a + 1) k + 1) := by
          show (if cp (I (a + 1)) k ≤ 6000 then cp (I (a + 1)) k * (I (a + 1) k + 1) else cp (I (a + 1)) k) = _
          rw [if_pos (by omega)]
        rw [hc] at this
        exact this
    refine c0 _ _ _ ?_
    simp only [b_X9_countParts_0, i_ld, i_la, i_st, i_sa, i_c, i_inc, i_add, i_sub, i_mul, i_div, i_rem, i_remT, i_xor, i_dup, i_dup2, i_if, i_if2, i_sw, i_gi, i_gr, i_pi, i_pz, i_ial, i_ias, i_len, i_aal, i_gs, i_tal, i_cv, i_cs, i_ir, i_zr, i_vr, i_min, i_max, i_cpy, List.getElem?_cons_zero, List.getElem?_cons_succ, List.set_cons_zero, List.set_cons_succ, List.length_cons, List.length_nil, List.drop_succ_cons, List.drop_zero, List.take_succ_cons, List.take_zero, List.reverse_cons, List.reverse_nil, List.nil_append, List.cons_append, Option.toList_some, Option.toList_none, true_and, and_true, true_or, or_true, Nat.reduceAdd, Nat.reduceLT, Nat.reduceLeDiff, Option.some.injEq, exists_eq_left', Int.toNat_natCast, Nat.reduceSub, List.append_nil, List.replicate_succ, List.replicate_zero]
    exact loop 21 0 (by omega)
  · exact hT.elim
theorem sp_X9_countParts : mm_Sp yX9_countParts cX9_countParts 3 (some .int) rm_X9_countParts T_X9_countParts := mm_meth (by decide) (by
  intro av σ Post h
  unfold T_X9_countParts at h
  split at h
  · simp
  · exact h.elim) (fun p l e s m args below meth c G av σ Post hC hr _ hav hin hk hT => pv_X9_countParts av σ Post hav hin hk hT _ (bk_X9_countParts hC hr))
/-- the kinds in use, in order -/
def ul (I : Nat → Nat → Int) (nb : Nat → Int) (m k : Nat) : Prop := I 1 9 = m ∧ m ≤ k ∧ (∀ j, j < m → ∃ x : Nat, I 40 j = x ∧ x < k ∧ 0 < nb x) ∧ (∀ i j, i < j → j < m → I 40 i < I 40 j) ∧ ∀ x, x < k → 0 < nb x → ∃ j, j < m ∧ I 40 j = (x : Nat)
def T_X9_listUsed : mm_T := fun av σ Post => match av with
  | [.inr (some s), .inr (some a)] => σ.2 = mm_R0 ∧ s = 1 ∧ (mm_sh a).1 = 6 ∧ (a < 31) ∧
    ∀ (I' : Nat → Nat → Int) (m : Nat), (∀ b, b ≠ 1 → b ≠ 40 → I' b = σ.1 b) → ul I' (σ.1 (a + 1)) m 21 → Post none (I', mm_R0)
  | _ => False
def rm_X9_listUsed : Room := { frames := 0, cells := 0, slots := 0, locals := 0 }
def b_X9_listUsed_0 (Ok : Nat → mm_K) (Post : Option mm_V → mm_S → Prop) (kf : Nat) : mm_K := i_la 0 (i_c 0 (i_pi 8 9 (i_c 0 (i_st 2 (Ok 7)))))
def b_X9_listUsed_7 (Ok : Nat → mm_K) (Post : Option mm_V → mm_S → Prop) (kf : Nat) : mm_K := i_ld 2 (i_c 21 (i_if2 (fun x y => y ≤ x) (i_vr Post kf) (i_la 1 (i_gr 6 0 (i_ld 2 (i_ial (i_if (fun x => x ≤ 0) (Ok 42) (i_la 0 (i_gr 8 8 (i_la 0 (i_gi 8 9 (i_ld 2 (i_ias (i_la 0 (i_dup (i_gi 8 9 (i_c 1 (i_add (i_pi 8 9 (Ok 42))))))))))))))))))))
def b_X9_listUsed_42 (Ok : Nat → mm_K) (Post : Option mm_V → mm_S → Prop) (kf : Nat) : mm_K := i_inc 2 1 (Ok 7)
def clo_X9_listUsed (Ok : Nat → mm_K) (Post : Option mm_V → mm_S → Prop) (kf : Nat) : Prop := mm_imp (b_X9_listUsed_0 Ok Post kf) (Ok 0) ∧ mm_imp (b_X9_listUsed_7 Ok Post kf) (Ok 7) ∧ mm_imp (b_X9_listUsed_42 Ok Post kf) (Ok 42)
set_option maxRecDepth 100000 in
set_option maxHeartbeats 4000000 in
theorem bk_X9_listUsed {p : Program} {l : Launch} {e : Env} {s : State} {m : MethodId} {args : Array Value} {below : List Frame} {meth : Method} {c : Code} {G : mm_G} {σ0 : mm_S} {Post : Option mm_V → mm_S → Prop} (hC : mm_C p G s m args meth c cX9_listUsed yX9_listUsed.cls) (hr : meth.sig.returnType = none) : clo_X9_listUsed (mm_O p l e rm_X9_listUsed s m args below meth c G σ0.2.2 (MQ below (mm_Qc G σ0 rm_X9_listUsed.cells rm_X9_listUsed.slots Post) args s rm_X9_listUsed.cells rm_X9_listUsed.slots (mm_A G))) Post σ0.2.2 := ⟨(by unfold b_X9_listUsed_0; exact (mm_la_n hC dX9_listUsed_0 rfl (mm_ic hC dX9_listUsed_1 ⟨by decide, by decide⟩ (mm_pi hC cl_8 (by decide) rfl rfl rfl wd_230 dX9_listUsed_2 (mm_ic hC dX9_listUsed_5 ⟨by decide, by decide⟩ (mm_st_n hC dX9_listUsed_6 rfl (fun _ _ _ h => h))))))), (by unfold b_X9_listUsed_7; exact (mm_ld_n hC dX9_listUsed_7 rfl (mm_bp hC dX9_listUsed_8 ⟨⟨by decide, by decide⟩, by decide⟩ (mm_ic_ge hC (t := 48) dX9_listUsed_10 (by decide) (mm_vr hC ⟨rfl, rfl⟩ hr dX9_listUsed_48) (mm_la_n hC dX9_listUsed_13 rfl (mm_gr hC cl_6 (by decide) rfl wd_111 dX9_listUsed_14 (mm_ld_n hC dX9_listUsed_17 rfl (mm_ial hC dX9_listUsed_18 (mm_if_le hC (t := 42) dX9_listUsed_19 (by decide) (fun _ _ _ h => h) (mm_la_n hC dX9_listUsed_22 rfl (mm_gr hC cl_8 (by decide) rfl wd_229 dX9_listUsed_23 (mm_la_n hC dX9_listUsed_26 rfl (mm_gi hC cl_8 (by decide) rfl wd_230 dX9_listUsed_27 (mm_ld_n hC dX9_listUsed_30 rfl (mm_ias hC dX9_listUsed_31 (mm_la_n hC dX9_listUsed_32 rfl (mm_dup hC dX9_listUsed_33 (mm_gi hC cl_8 (by decide) rfl wd_230 dX9_listUsed_34 (mm_ic hC dX9_listUsed_37 ⟨by decide, by decide⟩ (mm_add hC dX9_listUsed_38 (mm_pi hC cl_8 (by decide) rfl rfl rfl wd_230 dX9_listUsed_39 (fun _ _ _ h => h)))))))))))))))))))))), (by unfold b_X9_listUsed_42; exact (mm_inc hC dX9_listUsed_42 (mm_goto hC (t := 7) dX9_listUsed_45 (by decide) (fun _ _ _ h => h))))⟩
set_option maxRecDepth 100000 in
set_option maxHeartbeats 8000000 in
theorem pv_X9_listUsed : ∀ (av : List mm_V) (σ : mm_S) (Post : Option mm_V → mm_S → Prop), (∀ v ∈ av, mm_iv v) → (∀ a j, mm_in (σ.1 a j)) → σ.2.2 ≤ 348 → T_X9_listUsed av σ Post → ∀ Ok : Nat → mm_K, clo_X9_listUsed Ok Post σ.2.2 → Ok 0 (av ++ List.replicate (3 - av.length) (.inr none)) [] σ := by
  intro av σ Post hav hin hk hT Ok hcl
  obtain ⟨I, R0⟩ := σ
  unfold T_X9_listUsed at hT
  split at hT
  · rename_i s a
    obtain ⟨h0, hT⟩ := hT
    have h0 : R0 = mm_R0 := h0
    subst h0
    dsimp only at hT hin
    obtain ⟨c0, c7, c42⟩ := hcl
    obtain ⟨rfl, h1, ha31, hP⟩ := hT
    have ha := sh_lt h1 (by decide)
    obtain ⟨hs1, hs2⟩ := sh_sheet a ha h1
    have hR : ∀ j, mm_Rs a j = some (a + 1) := fun j => Rs_sheet h1
    obtain ⟨r0, r1, r2, r3, r4, r5, r6, r7, r8, r9⟩ := Rs_1
    have q40 := sh_35.2.2.2.2.2.2.2
    have hne1 : a + 1 ≠ 1 := fun e => by
      have : a = 0 := by omega
      rw [this] at h1; exact absurd h1 (by decide +kernel)
    have loop : ∀ (d k : Nat) (I' : Nat → Nat → Int) (m : Nat), k + d = 21 → (∀ b, b ≠ 1 → b ≠ 40 → I' b = I b) → ul I' (I (a + 1)) m k → Ok 7 [.inr (some 1), .inr (some a), .inl (k : Int)] [] (I', mm_R0) := by
      intro d
      induction d with
      | zero =>
        intro k I' m hd q1 q2
        refine c7 _ _ _ ?_
        simp only [b_X9_listUsed_7, i_ld, i_la, i_st, i_sa, i_c, i_inc, i_add, i_sub, i_mul, i_div, i_rem, i_remT, i_xor, i_dup, i_dup2, i_if, i_if2, i_sw, i_gi, i_gr, i_pi, i_pz, i_ial, i_ias, i_len, i_aal, i_gs, i_tal, i_cv, i_cs, i_ir, i_zr, i_vr, i_min, i_max, i_cpy, List.getElem?_cons_zero, List.getElem?_cons_succ, List.set_cons_zero, List.set_cons_succ, List.length_cons, List.length_nil, List.drop_succ_cons, List.drop_zero, List.take_succ_cons, List.take_zero, List.reverse_cons, List.reverse_nil, List.nil_append, List.cons_append, Option.toList_some, Option.toList_none, true_and, and_true, true_or, or_true, Nat.reduceAdd, Nat.reduceLT, Nat.reduceLeDiff, Option.some.injEq, exists_eq_left', Int.toNat_natCast, Nat.reduceSub, List.append_nil, List.replicate_succ, List.replicate_zero, mm_in,]
        repeat' first | refine And.intro ?_ ?_ | intro _
        all_goals try omega
        rw [show k = 21 by omega] at q2
        exact hP I' m q1 q2
      | succ d ih =>
        intro k I' m hd q1 q2
        obtain ⟨u1, u2, u3, u4, u5⟩ := q2
        have ea : I' (a + 1) = I (a + 1) := q1 _ hne1 (by omega)
        have e9 : ∀ z, mm_set I' 40 m z 1 9 = m := fun z => by simp [mm_set, u1]
        refine c7 _ _ _ ?_
        simp only [b_X9_listUsed_7, i_ld, i_la, i_st, i_sa, i_c, i_inc, i_add, i_sub, i_mul, i_div, i_rem, i_remT, i_xor, i_dup, i_dup2, i_if, i_if2, i_sw, i_gi, i_gr, i_pi, i_pz, i_ial, i_ias, i_len, i_aal, i_gs, i_tal, i_cv, i_cs, i_ir, i_zr, i_vr, i_min, i_max, i_cpy, List.getElem?_cons_zero, List.getElem?_cons_succ, List.set_cons_zero, List.set_cons_succ, List.length_cons, List.length_nil, List.drop_succ_cons, List.drop_zero, List.take_succ_cons, List.take_zero, List.reverse_cons, List.reverse_nil, List.nil_append, List.cons_append, Option.toList_some, Option.toList_none, true_and, and_true, true_or, or_true, Nat.reduceAdd, Nat.reduceLT, Nat.reduceLeDiff, Option.some.injEq, exists_eq_left', Int.toNat_natCast, Nat.reduceSub, List.append_nil, List.replicate_succ, List.replicate_zero, mm_in, h1, ha, hs1, hs2, hR, ea, r8, r9, q40, u1, e9]
        refine ⟨fun z => by omega, fun _ => ⟨⟨by omega, by omega⟩, fun _ => ⟨fun z => ?_, fun z => fun _ => ⟨⟨by omega, by omega⟩, fun _ => ⟨⟨by omega, by omega⟩, ?_⟩⟩⟩⟩⟩
        · refine c42 _ _ _ ?_
          simp only [b_X9_listUsed_42, i_ld, i_la, i_st, i_sa, i_c, i_inc, i_add, i_sub, i_mul, i_div, i_rem, i_remT, i_xor, i_dup, i_dup2, i_if, i_if2, i_sw, i_gi, i_gr, i_pi, i_pz, i_ial, i_ias, i_len, i_aal, i_gs, i_tal, i_cv, i_cs, i_ir, i_zr, i_vr, i_min, i_max, i_cpy, List.getElem?_cons_zero, List.getElem?_cons_succ, List.set_cons_zero, List.set_cons_succ, List.length_cons, List.length_nil, List.drop_succ_cons, List.drop_zero, List.take_succ_cons, List.take_zero, List.reverse_cons, List.reverse_nil, List.nil_append, List.cons_append, Option.toList_some, Option.toList_none, true_and, and_true, true_or, or_true, Nat.reduceAdd, Nat.reduceLT, Nat.reduceLeDiff, Option.some.injEq, exists_eq_left', Int.toNat_natCast, Nat.reduceSub, List.append_nil, List.replicate_succ, List.replicate_zero, mm_in,]
          refine ⟨⟨by omega, by omega⟩, ih (k + 1) I' m (by omega) q1 ⟨u1, by omega, fun j hj => ?_, u4, fun x hx hp => ?_⟩⟩
          · obtain ⟨x, x1, x2, x3⟩ := u3 j hj
            exact ⟨x, x1, by omega, x3⟩
          · by_cases e : x = k
            · subst e; omega
            · exact u5 x (by omega) hp
        · refine c42 _ _ _ ?_
          simp only [b_X9_listUsed_42, i_ld, i_la, i_st, i_sa, i_c, i_inc, i_add, i_sub, i_mul, i_div, i_rem, i_remT, i_xor, i_dup, i_dup2, i_if, i_if2, i_sw, i_gi, i_gr, i_pi, i_pz, i_ial, i_ias, i_len, i_aal, i_gs, i_tal, i_cv, i_cs, i_ir, i_zr, i_vr, i_min, i_max, i_cpy, List.getElem?_cons_zero, List.getElem?_cons_succ, List.set_cons_zero, List.set_cons_succ, List.length_cons, List.length_nil, List.drop_succ_cons, List.drop_zero, List.take_succ_cons, List.take_zero, List.reverse_cons, List.reverse_nil, List.nil_append, List.cons_append, Option.toList_some, Option.toList_none, true_and, and_true, true_or, or_true, Nat.reduceAdd, Nat.reduceLT, Nat.reduceLeDiff, Option.some.injEq, exists_eq_left', Int.toNat_natCast, Nat.reduceSub, List.append_nil, List.replicate_succ, List.replicate_zero, mm_in,]
          refine ⟨⟨by omega, by omega⟩, ih (k + 1) _ (m + 1) (by omega) (fun b z1 z2 => ?_) ⟨?_, by omega, fun j hj => ?_, fun i j hij hj => ?_, fun x hx hp => ?_⟩⟩
          · rw [← q1 b z1 z2]; funext j; simp [mm_set, z1, z2]
          · simp [mm_set]
          · by_cases e : j = m
            · subst e
              exact ⟨k, by simp [mm_set], by omega, by omega⟩
            · obtain ⟨x, x1, x2, x3⟩ := u3 j (by omega)
              refine ⟨x, ?_, by omega, x3⟩
              simp [mm_set, e]; exact x1
          · by_cases e : j = m
            · subst e
              have e2 : ¬ i = j := by omega
              obtain ⟨x, x1, x2, x3⟩ := u3 i (by omega)
              simp [mm_set, e2]
              omega
            · have e2 : ¬ i = m := by omega
              simp [mm_set, e, e2]
              exact u4 i j hij (by omega)
          · by_cases e : x = k
            · subst e
              exact ⟨m, by omega, by simp [mm_set]⟩
            · obtain ⟨j, j1, j2⟩ := u5 x (by omega) hp
              refine ⟨j, by omega, ?_⟩
              have e2 : ¬ j = m := by omega
              simp [mm_set, e2]; exact j2
    refine c0 _ _ _ ?_
    simp only [b_X9_listUsed_0, i_ld, i_la, i_st, i_sa, i_c, i_inc, i_add, i_sub, i_mul, i_div, i_rem, i_remT, i_xor, i_dup, i_dup2, i_if, i_if2, i_sw, i_gi, i_gr, i_pi, i_pz, i_ial, i_ias, i_len, i_aal, i_gs, i_tal, i_cv, i_cs, i_ir, i_zr, i_vr, i_min, i_max, i_cpy, List.getElem?_cons_zero, List.getElem?_cons_succ, List.set_cons_zero, List.set_cons_succ, List.length_cons, List.length_nil, List.drop_succ_cons, List.drop_zero, List.take_succ_cons, List.take_zero, List.reverse_cons, List.reverse_nil, List.nil_append, List.cons_append, Option.toList_some, Option.toList_none, true_and, and_true, true_or, or_true, Nat.reduceAdd, Nat.reduceLT, Nat.reduceLeDiff, Option.some.injEq, exists_eq_left', Int.toNat_natCast, Nat.reduceSub, List.append_nil, List.replicate_succ, List.replicate_zero, mm_in, r9]
    refine loop 21 0 _ 0 (by omega) (fun b z1 z2 => ?_) ⟨?_, by omega, fun j hj => by omega, fun i j hij hj => by omega, fun x hx => by omega⟩
    · funext j; simp [mm_set, z1]
    · simp [mm_set]
  · exact hT.elim
theorem sp_X9_listUsed : mm_Sp yX9_listUsed cX9_listUsed 3 none rm_X9_listUsed T_X9_listUsed := mm_meth (by decide) (by
  intro av σ Post h
  unfold T_X9_listUsed at h
  split at h
  · simp
  · exact h.elim) (fun p l e s m args below meth c G av σ Post hC hr _ hav hin hk hT => pv_X9_listUsed av σ Post hav hin hk hT _ (bk_X9_listUsed hC hr))
/-- digits -/
def wp (nb : Nat → Int) : Nat → Nat
  | 0 => 1
  | k + 1 => wp nb k * ((nb k).toNat + 1)
def dg (nb : Nat → Int) (i k : Nat) : Nat := i / wp nb k % ((nb k).toNat + 1)
theorem wp_pos (nb : Nat → Int) (k : Nat) : 0 < wp nb k := by
  induction k with
  | zero => exact Nat.one_pos
  | succ k ih => exact Nat.mul_pos ih (Nat.succ_pos _)
theorem dg_le (nb : Nat → Int) (i k : Nat) : dg nb i k ≤ (nb k).toNat := by
  unfold dg
  exact Nat.le_of_lt_succ (Nat.mod_lt _ (Nat.succ_pos _))
theorem div_keep {Y N : Nat} (h : Y % N + 1 < N) : (Y + 1) / N = Y / N := by
  have h1 := Nat.div_add_mod Y N
  have h2 : Y + 1 = N * (Y / N) + (Y % N + 1) := by omega
  rw [h2, Nat.mul_add_div (by omega), Nat.div_eq_of_lt h, Nat.add_zero]
/-- where all lower digits are full, adding one clears them and raises the next -/
theorem dg_step {nb : Nat → Int} {i k : Nat} (h : i % wp nb k = wp nb k - 1) (hd : dg nb i k < (nb k).toNat) : (∀ j, j < k → dg nb (i + 1) j = 0) ∧ dg nb (i + 1) k = dg nb i k + 1 ∧ ∀ j, k < j → dg nb (i + 1) j = dg nb i j := by
  have hw := wp_pos nb k
  have e1 : (i + 1) % wp nb k = 0 := by
    rw [Nat.add_mod, h]
    by_cases z : wp nb k = 1
    · rw [z]
    · rw [Nat.mod_eq_of_lt (show 1 < wp nb k by omega), show wp nb k - 1 + 1 = wp nb k by omega, Nat.mod_self]
  have e2 : (i + 1) / wp nb k = i / wp nb k + 1 := by
    have a := Nat.div_add_mod i (wp nb k)
    have b := Nat.div_add_mod (i + 1) (wp nb k)
    rw [e1] at b
    rw [h] at a
    have : wp nb k * ((i + 1) / wp nb k) = wp nb k * (i / wp nb k + 1) := by rw [Nat.mul_add]; omega
    exact Nat.eq_of_mul_eq_mul_left hw this
  refine ⟨fun j hj => ?_, ?_, fun j hj => ?_⟩
  · have hdv : wp nb (j + 1) ∣ wp nb k := by
      clear h hd e1 e2 hw
      induction k with
      | zero => omega
      | succ k ih =>
        by_cases z : j = k
        · subst z; exact Nat.dvd_refl _
        · exact Nat.dvd_trans (ih (by omega)) (Nat.dvd_mul_right _ _)
    have h3 : wp nb (j + 1) ∣ i + 1 := Nat.dvd_trans hdv (Nat.dvd_of_mod_eq_zero e1)
    obtain ⟨c, hc⟩ := h3
    unfold dg
    have h4 : wp nb (j + 1) = wp nb j * ((nb j).toNat + 1) := rfl
    rw [hc, h4, Nat.mul_assoc, Nat.mul_div_cancel_left _ (wp_pos nb j), Nat.mul_mod_right]
  · unfold dg at hd ⊢
    rw [e2, Nat.add_mod]
    by_cases z : (nb k).toNat = 0
    · omega
    · rw [Nat.mod_eq_of_lt (show 1 < (nb k).toNat + 1 by omega), Nat.mod_eq_of_lt (by omega)]
  · have h5 : ∀ m, k < m → ∃ c, wp nb m = wp nb (k + 1) * c := by
      intro m hm
      induction m with
      | zero => omega
      | succ m ih =>
        by_cases z : k = m
        · subst z; exact ⟨1, by rw [Nat.mul_one]⟩
        · obtain ⟨c, hc⟩ := ih (by omega)
          exact ⟨c * ((nb m).toNat + 1), by show wp nb m * _ = _; rw [hc, Nat.mul_assoc]⟩
    obtain ⟨c, hc⟩ := h5 j hj
    have h6 : (i + 1) / wp nb (k + 1) = i / wp nb (k + 1) := by
      have h7 : wp nb (k + 1) = wp nb k * ((nb k).toNat + 1) := rfl
      rw [h7, ← Nat.div_div_eq_div_mul, ← Nat.div_div_eq_div_mul, e2]
      unfold dg at hd
      exact div_keep (by omega)
    unfold dg
    rw [hc, ← Nat.div_div_eq_div_mul, ← Nat.div_div_eq_div_mul, h6]
theorem dg_full {nb : Nat → Int} {i k : Nat} (h : i % wp nb k = wp nb k - 1) (hd : dg nb i k = (nb k).toNat) : i % wp nb (k + 1) = wp nb (k + 1) - 1 := by
  have h7 : wp nb (k + 1) = wp nb k * ((nb k).toNat + 1) := rfl
  have hw := wp_pos nb k
  rw [h7, Nat.mod_mul, h]
  unfold dg at hd
  rw [hd, Nat.mul_add]
  omega
theorem wp_skip {nb : Nat → Int} {a b : Nat} (h : a ≤ b) (hz : ∀ j, a ≤ j → j < b → (nb j).toNat = 0) : wp nb b = wp nb a := by
  induction h with
  | refl => rfl
  | step hle ih =>
    rename_i m
    show wp nb m * ((nb m).toNat + 1) = wp nb a
    rw [hz m hle (by omega), ih (fun j h1 h2 => hz j h1 (by omega))]
    omega

def T_X9_nextPart : mm_T := fun av σ Post => match av with
  | [.inr (some s), .inr (some a)] => σ.2 = mm_R0 ∧ s = 1 ∧ (mm_sh a).1 = 6 ∧ a < 31 ∧ ∃ i m : Nat, b20 (σ.1 (a + 1)) ∧ ul σ.1 (σ.1 (a + 1)) m 21 ∧ i + 1 < wp (σ.1 (a + 1)) 21 ∧ (∀ k, k < 21 → σ.1 39 k = dg (σ.1 (a + 1)) i k) ∧
    ∀ I' : Nat → Nat → Int, (∀ b, b ≠ 39 → I' b = σ.1 b) → (∀ k, k < 21 → I' 39 k = dg (σ.1 (a + 1)) (i + 1) k) → Post none (I', mm_R0)
  | _ => False
def rm_X9_nextPart : Room := { frames := 0, cells := 0, slots := 0, locals := 0 }
def b_X9_nextPart_0 (Ok : Nat → mm_K) (Post : Option mm_V → mm_S → Prop) (kf : Nat) : mm_K := i_c 0 (i_st 2 (Ok 2))
def b_X9_nextPart_2 (Ok : Nat → mm_K) (Post : Option mm_V → mm_S → Prop) (kf : Nat) : mm_K := i_ld 2 (i_la 0 (i_gi 8 9 (i_if2 (fun x y => y ≤ x) (i_vr Post kf) (i_la 0 (i_gr 8 8 (i_ld 2 (i_ial (i_st 3 (i_la 0 (i_gr 8 7 (i_gr 6 0 (i_ld 3 (i_ial (i_la 1 (i_gr 6 0 (i_ld 3 (i_ial (i_if2 (fun x y => y ≤ x) (i_la 0 (i_gr 8 7 (i_gr 6 0 (i_ld 3 (i_c 0 (i_ias (i_inc 2 1 (Ok 2)))))))) (i_la 0 (i_gr 8 7 (i_gr 6 0 (i_ld 3 (i_dup2 (i_ial (i_c 1 (i_add (i_ias (i_vr Post kf))))))))))))))))))))))))))))
def clo_X9_nextPart (Ok : Nat → mm_K) (Post : Option mm_V → mm_S → Prop) (kf : Nat) : Prop := mm_imp (b_X9_nextPart_0 Ok Post kf) (Ok 0) ∧ mm_imp (b_X9_nextPart_2 Ok Post kf) (Ok 2)
set_option maxRecDepth 100000 in
set_option maxHeartbeats 4000000 in
theorem bk_X9_nextPart {p : Program} {l : Launch} {e : Env} {s : State} {m : MethodId} {args : Array Value} {below : List Frame} {meth : Method} {c : Code} {G : mm_G} {σ0 : mm_S} {Post : Option mm_V → mm_S → Prop} (hC : mm_C p G s m args meth c cX9_nextPart yX9_nextPart.cls) (hr : meth.sig.returnType = none) : clo_X9_nextPart (mm_O p l e rm_X9_nextPart s m args below meth c G σ0.2.2 (MQ below (mm_Qc G σ0 rm_X9_nextPart.cells rm_X9_nextPart.slots Post) args s rm_X9_nextPart.cells rm_X9_nextPart.slots (mm_A G))) Post σ0.2.2 := ⟨(by unfold b_X9_nextPart_0; exact (mm_ic hC dX9_nextPart_0 ⟨by decide, by decide⟩ (mm_st_n hC dX9_nextPart_1 rfl (fun _ _ _ h => h)))), (by unfold b_X9_nextPart_2; exact (mm_ld_n hC dX9_nextPart_2 rfl (mm_la_n hC dX9_nextPart_3 rfl (mm_gi hC cl_8 (by decide) rfl wd_230 dX9_nextPart_4 (mm_ic_ge hC (t := 65) dX9_nextPart_7 (by decide) (mm_vr hC ⟨rfl, rfl⟩ hr dX9_nextPart_65) (mm_la_n hC dX9_nextPart_10 rfl (mm_gr hC cl_8 (by decide) rfl wd_229 dX9_nextPart_11 (mm_ld_n hC dX9_nextPart_14 rfl (mm_ial hC dX9_nextPart_15 (mm_st_n hC dX9_nextPart_16 rfl (mm_la_n hC dX9_nextPart_17 rfl (mm_gr hC cl_8 (by decide) rfl wd_228 dX9_nextPart_18 (mm_gr hC cl_6 (by decide) rfl wd_111 dX9_nextPart_21 (mm_ld_n hC dX9_nextPart_24 rfl (mm_ial hC dX9_nextPart_25 (mm_la_n hC dX9_nextPart_26 rfl (mm_gr hC cl_6 (by decide) rfl wd_111 dX9_nextPart_27 (mm_ld_n hC dX9_nextPart_30 rfl (mm_ial hC dX9_nextPart_31 (mm_ic_ge hC (t := 49) dX9_nextPart_32 (by decide) (mm_la_n hC dX9_nextPart_49 rfl (mm_gr hC cl_8 (by decide) rfl wd_228 dX9_nextPart_50 (mm_gr hC cl_6 (by decide) rfl wd_111 dX9_nextPart_53 (mm_ld_n hC dX9_nextPart_56 rfl (mm_ic hC dX9_nextPart_57 ⟨by decide, by decide⟩ (mm_ias hC dX9_nextPart_58 (mm_inc hC dX9_nextPart_59 (mm_goto hC (t := 2) dX9_nextPart_62 (by decide) (fun _ _ _ h => h))))))))) (mm_la_n hC dX9_nextPart_35 rfl (mm_gr hC cl_8 (by decide) rfl wd_228 dX9_nextPart_36 (mm_gr hC cl_6 (by decide) rfl wd_111 dX9_nextPart_39 (mm_ld_n hC dX9_nextPart_42 rfl (mm_dup2 hC dX9_nextPart_43 (mm_ial hC dX9_nextPart_44 (mm_ic hC dX9_nextPart_45 ⟨by decide, by decide⟩ (mm_add hC dX9_nextPart_46 (mm_ias hC dX9_nextPart_47 (mm_vr hC ⟨rfl, rfl⟩ hr dX9_nextPart_48))))))))))))))))))))))))))))))⟩
set_option maxRecDepth 100000 in
set_option maxHeartbeats 8000000 in
theorem pv_X9_nextPart : ∀ (av : List mm_V) (σ : mm_S) (Post : Option mm_V → mm_S → Prop), (∀ v ∈ av, mm_iv v) → (∀ a j, mm_in (σ.1 a j)) → σ.2.2 ≤ 348 → T_X9_nextPart av σ Post → ∀ Ok : Nat → mm_K, clo_X9_nextPart Ok Post σ.2.2 → Ok 0 (av ++ List.replicate (4 - av.length) (.inr none)) [] σ := by
  intro av σ Post hav hin hk hT Ok hcl
  obtain ⟨I, R0⟩ := σ
  unfold T_X9_nextPart at hT
  split at hT
  · rename_i s a
    obtain ⟨h0, hT⟩ := hT
    have h0 : R0 = mm_R0 := h0
    subst h0
    dsimp only at hT hin
    obtain ⟨c0, c2⟩ := hcl
    obtain ⟨rfl, h1, ha31, i, m, hb, ⟨u1, u2, u3, u4, u5⟩, h2, h3, hP⟩ := hT
    have ha := sh_lt h1 (by decide)
    obtain ⟨hs1, hs2⟩ := sh_sheet a ha h1
    have hR : ∀ j, mm_Rs a j = some (a + 1) := fun j => Rs_sheet h1
    obtain ⟨r0, r1, r2, r3, r4, r5, r6, r7, r8, r9⟩ := Rs_1
    obtain ⟨q35, q31, q32, q33, q34, q36, q38, q40⟩ := sh_35
    have q39 : mm_sh 39 = (100, 21) := by decide +kernel
    have hR38 : ∀ j, mm_Rs 38 j = some 39 := fun j => Rs_sheet q38
    obtain ⟨nb, hnb⟩ : ∃ nb, I (a + 1) = nb := ⟨_, rfl⟩
    rw [hnb] at hb u3 u5 h2 h3 hP
    have loop : ∀ (d j K : Nat) (I' : Nat → Nat → Int) (u : mm_V), j + d = m → (∀ b, b ≠ 39 → I' b = I b) → K ≤ 21 → (∀ x, x < K → 0 < nb x → ∃ t, t < j ∧ I 40 t = (x : Nat)) → (∀ t, t < j → I 40 t < (K : Int)) → i % wp nb K = wp nb K - 1 → (∀ k, k < 21 → I' 39 k = if k < K then 0 else (dg nb i k : Int)) → Ok 2 [.inr (some 1), .inr (some a), .inl (j : Int), u] [] (I', mm_R0) := by
      intro d
      induction d with
      | zero =>
        intro j K I' u hd q1 hK q2 q3 q4 q5
        exfalso
        have h5 : wp nb 21 = wp nb K := wp_skip hK (fun x z1 z2 => by
          by_cases z : 0 < nb x
          · obtain ⟨t, t1, t2⟩ := u5 x z2 z
            have := q3 t (by omega)
            omega
          · omega)
        rw [h5] at h2
        have hw := wp_pos nb K
        rw [Nat.mod_eq_of_lt (by omega)] at q4
        omega
      | succ d ih =>
        intro j K I' u hd q1 hK q2 q3 q4 q5
        have e1 : I' 1 = I 1 := q1 1 (by decide)
        have e40 : I' 40 = I 40 := q1 40 (by decide)
        have ea : I' (a + 1) = nb := by rw [q1 (a + 1) (by omega)]; exact hnb
        obtain ⟨x, x1, x2, x3⟩ := u3 j (by omega)
        have hKx : K ≤ x := by
          by_cases z : x < K
          · obtain ⟨t, t1, t2⟩ := q2 x z x3
            have := u4 t j t1 (by omega)
            omega
          · omega
        have hwx : wp nb x = wp nb K := wp_skip hKx (fun y z1 z2 => by
          by_cases z : 0 < nb y
          · exfalso
            obtain ⟨t, t1, t2⟩ := u5 y (by omega) z
            rcases Nat.lt_trichotomy t j with w | w | w
            · have := q3 t w; omega
            · rw [w] at t2; omega
            · have := u4 j t w t1; omega
          · omega)
        have q4x : i % wp nb x = wp nb x - 1 := by rw [hwx]; exact q4
        have h39 : I' 39 x = (dg nb i x : Int) := by rw [q5 x x2, if_neg (by omega)]
        have hdl := dg_le nb i x
        have hbx := hb x x2
        refine c2 _ _ _ ?_
        simp only [b_X9_nextPart_2, i_ld, i_la, i_st, i_sa, i_c, i_inc, i_add, i_sub, i_mul, i_div, i_rem, i_remT, i_xor, i_dup, i_dup2, i_if, i_if2, i_sw, i_gi, i_gr, i_pi, i_pz, i_ial, i_ias, i_len, i_aal, i_gs, i_tal, i_cv, i_cs, i_ir, i_zr, i_vr, i_min, i_max, i_cpy, List.getElem?_cons_zero, List.getElem?_cons_succ, List.set_cons_zero, List.set_cons_succ, List.length_cons, List.length_nil, List.drop_succ_cons, List.drop_zero, List.take_succ_cons, List.take_zero, List.reverse_cons, List.reverse_nil, List.nil_append, List.cons_append, Option.toList_some, Option.toList_none, true_and, and_true, true_or, or_true, Nat.reduceAdd, Nat.reduceLT, Nat.reduceLeDiff, Option.some.injEq, exists_eq_left', Int.toNat_natCast, Nat.reduceSub, List.append_nil, List.replicate_succ, List.replicate_zero, mm_in, r7, r8, r9, e1, u1, e40, x1, q38, q39, q40, hR38, h39, h1, ha, hs1, hs2, hR, ea]
        refine fun _ => ⟨fun z => by omega, fun _ => ⟨⟨by omega, by omega⟩, fun _ => ⟨⟨by omega, by omega⟩, fun _ => ⟨⟨by omega, by omega⟩, fun _ => ⟨fun z => ⟨⟨by omega, by omega⟩, ⟨by omega, by omega⟩, ?_⟩, fun z => ⟨⟨by omega, by omega⟩, fun _ => ⟨⟨by omega, by omega⟩, ⟨by omega, by omega⟩, ?_⟩⟩⟩⟩⟩⟩⟩
        · refine ih (j + 1) (x + 1) _ _ (by omega) (fun b hb => ?_) (by omega) (fun y z1 z2 => ?_) (fun t ht => ?_) (dg_full q4x (by omega)) (fun k hk => ?_)
          · rw [← q1 b hb]; funext t; simp [mm_set, hb]
          · by_cases e : y = x
            · subst e; exact ⟨j, by omega, x1⟩
            · obtain ⟨t, t1, t2⟩ := u5 y (by omega) z2
              refine ⟨t, ?_, t2⟩
              rcases Nat.lt_trichotomy t j with w | w | w
              · omega
              · omega
              · have := u4 j t w t1; omega
          · by_cases e : t = j
            · rw [e]; omega
            · have := u4 t j (by omega) (by omega); omega
          · by_cases e : k = x
            · subst e; simp [mm_set]
            · simp only [mm_set, e, and_false, if_false]
              rw [q5 k hk]
              by_cases z1 : k < K
              · rw [if_pos z1, if_pos (by omega)]
              · rw [if_neg z1]
                by_cases z2 : k < x
                · rw [if_pos (by omega)]
                  have hz : (nb k).toNat = 0 := by
                    by_cases w : 0 < nb k
                    · exfalso
                      obtain ⟨t, t1, t2⟩ := u5 k hk w
                      rcases Nat.lt_trichotomy t j with y | y | y
                      · have := q3 t y; omega
                      · rw [y] at t2; omega
                      · have := u4 j t y t1; omega
                    · omega
                  have := dg_le nb i k
                  omega
                · rw [if_neg (by omega)]
        · obtain ⟨g1, g2, g3⟩ := dg_step q4x (show dg nb i x < (nb x).toNat by omega)
          refine hP _ (fun b hb => ?_) (fun k hk => ?_)
          · rw [← q1 b hb]; funext t; simp [mm_set, hb]
          · by_cases e : k = x
            · subst e; simp [mm_set]; omega
            · simp only [mm_set, e, and_false, if_false]
              rw [q5 k hk]
              by_cases z2 : k < x
              · rw [g1 k z2]
                by_cases z1 : k < K
                · rw [if_pos z1]; rfl
                · rw [if_neg z1]
                  have hz : (nb k).toNat = 0 := by
                    by_cases w : 0 < nb k
                    · exfalso
                      obtain ⟨t, t1, t2⟩ := u5 k hk w
                      rcases Nat.lt_trichotomy t j with y | y | y
                      · have := q3 t y; omega
                      · rw [y] at t2; omega
                      · have := u4 j t y t1; omega
                    · omega
                  have := dg_le nb i k
                  omega
              · rw [g3 k (by omega), if_neg (by omega)]
    refine c0 _ _ _ ?_
    simp only [b_X9_nextPart_0, i_ld, i_la, i_st, i_sa, i_c, i_inc, i_add, i_sub, i_mul, i_div, i_rem, i_remT, i_xor, i_dup, i_dup2, i_if, i_if2, i_sw, i_gi, i_gr, i_pi, i_pz, i_ial, i_ias, i_len, i_aal, i_gs, i_tal, i_cv, i_cs, i_ir, i_zr, i_vr, i_min, i_max, i_cpy, List.getElem?_cons_zero, List.getElem?_cons_succ, List.set_cons_zero, List.set_cons_succ, List.length_cons, List.length_nil, List.drop_succ_cons, List.drop_zero, List.take_succ_cons, List.take_zero, List.reverse_cons, List.reverse_nil, List.nil_append, List.cons_append, Option.toList_some, Option.toList_none, true_and, and_true, true_or, or_true, Nat.reduceAdd, Nat.reduceLT, Nat.reduceLeDiff, Option.some.injEq, exists_eq_left', Int.toNat_natCast, Nat.reduceSub, List.append_nil, List.replicate_succ, List.replicate_zero]
    refine loop m 0 0 I _ (by omega) (fun _ _ => rfl) (by omega) (fun x hx => by omega) (fun t ht => by omega) ?_ (fun k hk => by rw [h3 k hk, if_neg (by omega)])
    show i % 1 = 1 - 1
    omega
  · exact hT.elim
theorem sp_X9_nextPart : mm_Sp yX9_nextPart cX9_nextPart 4 none rm_X9_nextPart T_X9_nextPart := mm_meth (by decide) (by
  intro av σ Post h
  unfold T_X9_nextPart at h
  split at h
  · simp
  · exact h.elim) (fun p l e s m args below meth c G av σ Post hC hr _ hav hin hk hT => pv_X9_nextPart av σ Post hav hin hk hT _ (bk_X9_nextPart hC hr))
theorem cp_wp {nb : Nat → Int} (h : b20 nb) {k : Nat} (hk : k ≤ 21) (hc : cp nb k ≤ 6000) : cp nb k = (wp nb k : Int) := by
  induction k with
  | zero => rfl
  | succ k ih =>
    have h0 : cp nb (k + 1) = if cp nb k ≤ 6000 then cp nb k * (nb k + 1) else cp nb k := rfl
    by_cases z : cp nb k ≤ 6000
    · have h1 := ih (by omega) z
      have h2 := h k (by omega)
      have h3 : wp nb (k + 1) = wp nb k * ((nb k).toNat + 1) := rfl
      rw [h0, if_pos z, h1, h3, Int.natCast_mul]
      congr 1
      omega
    · rw [h0, if_neg z] at hc
      omega
/-- some part of the first half matches -/
def spl (n : Nat) (pa wy nb : Nat → Int) : Prop := ∃ i : Nat, 1 ≤ i ∧ 2 * (i : Int) < cp nb 21 ∧ mt n pa wy (fun k => (dg nb i k : Int))
def T_X9_splits : mm_T := fun av σ Post => match av with
  | [.inr (some s), .inr (some a)] => σ.2 = mm_R0 ∧ s = 1 ∧ (mm_sh a).1 = 6 ∧ a < 28 ∧ ∃ n : Nat, gw σ.1 n ∧ b20 (σ.1 (a + 1)) ∧
    ∀ (I' : Nat → Nat → Int) (z : Int), (∀ b, b ≠ 1 → b < 29 ∨ 40 < b → I' b = σ.1 b) → (6000 < cp (σ.1 (a + 1)) 21 ∧ z = -1 ∨ cp (σ.1 (a + 1)) 21 ≤ 6000 ∧ bz z (spl n (σ.1 3) (σ.1 4) (σ.1 (a + 1)))) → Post (some (.inl z)) (I', mm_R0)
  | _ => False
def rm_X9_splits : Room := { frames := 3, cells := 0, slots := 0, locals := 75 }
def b_X9_splits_0 (Ok : Nat → mm_K) (Post : Option mm_V → mm_S → Prop) (kf : Nat) : mm_K := i_la 1 (i_cs 1 T_X9_countParts (i_st 2 (i_ld 2 (i_c 6000 (i_if2 (fun x y => x ≤ y) (i_la 0 (i_gr 8 2 (i_la 0 (i_gr 8 0 (i_la 1 (i_cv 4 2 T_X4_read (i_la 0 (i_la 1 (i_cv 8 1 T_X9_listUsed (i_la 0 (i_gr 8 7 (i_cv 6 0 T_X7_clear (i_c 1 (i_st 3 (Ok 40))))))))))))))) (i_c (-1) (i_ir Post kf)))))))
def b_X9_splits_40 (Ok : Nat → mm_K) (Post : Option mm_V → mm_S → Prop) (kf : Nat) : mm_K := i_c 2 (i_ld 3 (i_mul (i_ld 2 (i_if2 (fun x y => y ≤ x) (i_c 0 (i_ir Post kf)) (i_la 0 (i_la 1 (i_cv 8 1 T_X9_nextPart (i_la 0 (i_gr 8 2 (i_la 0 (i_gr 8 7 (i_cv 4 1 T_X4_holds (i_if (fun x => x = 0) (i_inc 3 1 (Ok 40)) (i_c 1 (i_ir Post kf)))))))))))))))
def clo_X9_splits (Ok : Nat → mm_K) (Post : Option mm_V → mm_S → Prop) (kf : Nat) : Prop := mm_imp (b_X9_splits_0 Ok Post kf) (Ok 0) ∧ mm_imp (b_X9_splits_40 Ok Post kf) (Ok 40)
set_option maxRecDepth 100000 in
set_option maxHeartbeats 4000000 in
theorem bk_X9_splits {p : Program} {l : Launch} {e : Env} {s : State} {m : MethodId} {args : Array Value} {below : List Frame} {meth : Method} {c : Code} {G : mm_G} {σ0 : mm_S} {Post : Option mm_V → mm_S → Prop} (hC : mm_C p G s m args meth c cX9_splits yX9_splits.cls) (hr : meth.sig.returnType = some .int) : clo_X9_splits (mm_O p l e rm_X9_splits s m args below meth c G σ0.2.2 (MQ below (mm_Qc G σ0 rm_X9_splits.cells rm_X9_splits.slots Post) args s rm_X9_splits.cells rm_X9_splits.slots (mm_A G))) Post σ0.2.2 := ⟨(by unfold b_X9_splits_0; exact (mm_la_n hC dX9_splits_0 rfl (mm_cs hC sp_X9_countParts ⟨rfl, rfl⟩ wd_596 wd_597 wd_598 wd_66 ⟨by decide, by decide, by decide +kernel⟩ ⟨by decide, by decide⟩ dX9_splits_1 (mm_st_n hC dX9_splits_4 rfl (mm_ld_n hC dX9_splits_5 rfl (mm_sp hC dX9_splits_6 ⟨⟨by decide, by decide⟩, by decide⟩ (mm_ic_le hC (t := 14) dX9_splits_9 (by decide) (mm_la_n hC dX9_splits_14 rfl (mm_gr hC cl_8 (by decide) rfl wd_223 dX9_splits_15 (mm_la_n hC dX9_splits_18 rfl (mm_gr hC cl_8 (by decide) rfl wd_219 dX9_splits_19 (mm_la_n hC dX9_splits_22 rfl (mm_cv hC sp_X4_read ⟨rfl, rfl⟩ cl_4 wd_521 wd_522 wd_523 wd_524 wd_72 ⟨by decide, by decide, by decide +kernel⟩ ⟨by decide, by decide⟩ dX9_splits_23 (mm_la_n hC dX9_splits_26 rfl (mm_la_n hC dX9_splits_27 rfl (mm_cv hC sp_X9_listUsed ⟨rfl, rfl⟩ cl_8 wd_599 wd_601 wd_15 wd_602 wd_66 ⟨by decide, by decide, by decide +kernel⟩ ⟨by decide, by decide⟩ dX9_splits_28 (mm_la_n hC dX9_splits_31 rfl (mm_gr hC cl_8 (by decide) rfl wd_228 dX9_splits_32 (mm_cv hC sp_X7_clear ⟨rfl, rfl⟩ cl_6 wd_439 wd_440 wd_441 wd_442 wd_68 ⟨by decide, by decide, by decide +kernel⟩ ⟨by decide, by decide⟩ dX9_splits_35 (mm_ic hC dX9_splits_38 ⟨by decide, by decide⟩ (mm_st_n hC dX9_splits_39 rfl (fun _ _ _ h => h))))))))))))))) (mm_ic hC dX9_splits_12 ⟨by decide, by decide⟩ (mm_ir hC ⟨rfl, rfl⟩ hr dX9_splits_13))))))))), (by unfold b_X9_splits_40; exact (mm_ic hC dX9_splits_40 ⟨by decide, by decide⟩ (mm_ld_n hC dX9_splits_41 rfl (mm_mul hC dX9_splits_42 (mm_ld_n hC dX9_splits_43 rfl (mm_ic_ge hC (t := 74) dX9_splits_44 (by decide) (mm_ic hC dX9_splits_74 ⟨by decide, by decide⟩ (mm_ir hC ⟨rfl, rfl⟩ hr dX9_splits_75)) (mm_la_n hC dX9_splits_47 rfl (mm_la_n hC dX9_splits_48 rfl (mm_cv hC sp_X9_nextPart ⟨rfl, rfl⟩ cl_8 wd_603 wd_605 wd_16 wd_606 wd_66 ⟨by decide, by decide, by decide +kernel⟩ ⟨by decide, by decide⟩ dX9_splits_49 (mm_la_n hC dX9_splits_52 rfl (mm_gr hC cl_8 (by decide) rfl wd_223 dX9_splits_53 (mm_la_n hC dX9_splits_56 rfl (mm_gr hC cl_8 (by decide) rfl wd_228 dX9_splits_57 (mm_cv hC sp_X4_holds ⟨rfl, rfl⟩ cl_4 wd_533 wd_534 wd_535 wd_536 wd_72 ⟨by decide, by decide, by decide +kernel⟩ ⟨by decide, by decide⟩ dX9_splits_60 (mm_if_eq hC (t := 68) dX9_splits_63 (by decide) (mm_inc hC dX9_splits_68 (mm_goto hC (t := 40) dX9_splits_71 (by decide) (fun _ _ _ h => h))) (mm_ic hC dX9_splits_66 ⟨by decide, by decide⟩ (mm_ir hC ⟨rfl, rfl⟩ hr dX9_splits_67)))))))))))))))))⟩
set_option maxRecDepth 100000 in
set_option maxHeartbeats 8000000 in
theorem pv_X9_splits : ∀ (av : List mm_V) (σ : mm_S) (Post : Option mm_V → mm_S → Prop), (∀ v ∈ av, mm_iv v) → (∀ a j, mm_in (σ.1 a j)) → σ.2.2 ≤ 348 → T_X9_splits av σ Post → ∀ Ok : Nat → mm_K, clo_X9_splits Ok Post σ.2.2 → Ok 0 (av ++ List.replicate (4 - av.length) (.inr none)) [] σ := by
  intro av σ Post hav hin hk hT Ok hcl
  obtain ⟨I, R0⟩ := σ
  unfold T_X9_splits at hT
  split at hT
  · rename_i s a
    obtain ⟨h0, hT⟩ := hT
    have h0 : R0 = mm_R0 := h0
    subst h0
    dsimp only at hT hin
    obtain ⟨c0, c40⟩ := hcl
    obtain ⟨rfl, h1, ha28, n, hg, hb, hP⟩ := hT
    have ha := sh_lt h1 (by decide)
    obtain ⟨r0, r1, r2, r3, r4, r5, r6, r7, r8, r9⟩ := Rs_1
    obtain ⟨q35, q31, q32, q33, q34, q36, q38, q40⟩ := sh_35
    obtain ⟨k1, k2, k3⟩ := sh_29
    have hne1 : a + 1 ≠ 1 := fun e => by
      have : a = 0 := by omega
      rw [this] at h1; exact absurd h1 (by decide +kernel)
    obtain ⟨nb, hnb⟩ : ∃ nb, I (a + 1) = nb := ⟨_, rfl⟩
    rw [hnb] at hb hP
    have hcb := cp_b hb (Nat.le_refl 21)
    obtain ⟨c, hc⟩ := Int.eq_ofNat_of_zero_le (show 0 ≤ cp nb 21 by omega)
    have loop : cp nb 21 ≤ 6000 → ∀ (d i : Nat) (I' : Nat → Nat → Int) (m mu : Nat), (1 ≤ i ∧ i ≤ 3001) → 2 * i + d = c + 1 ∨ (d = 0 ∧ c ≤ 2 * i) → (∀ b, b ≠ 1 → b < 29 ∨ 40 < b → I' b = I b) → m ≤ 18 → mo I' (I 3) (I 4) nb m (fun f v => f < 4 * n ∧ v < 4 ∧ (f : Int) < I 3 f ∧ v ≠ f % 4) → ul I' nb mu 21 → (∀ k, k < 21 → I' 39 k = dg nb (i - 1) k) → (∀ j : Nat, 1 ≤ j → j < i → ¬ mt n (I 3) (I 4) (fun k => (dg nb j k : Int))) → Ok 40 [.inr (some 1), .inr (some a), .inl (c : Int), .inl (i : Int)] [] (I', mm_R0) := by
      intro hc6 d
      induction d using Nat.strongRecOn with
      | ind d ih =>
        intro i I' m mu hi hd q1 hm q2 q3 q4 q5
        have ea : I' (a + 1) = nb := by rw [q1 (a + 1) hne1 (by omega)]; exact hnb
        have hcw := cp_wp hb (Nat.le_refl 21) hc6
        refine c40 _ _ _ ?_
        simp only [b_X9_splits_40, i_ld, i_la, i_st, i_sa, i_c, i_inc, i_add, i_sub, i_mul, i_div, i_rem, i_remT, i_xor, i_dup, i_dup2, i_if, i_if2, i_sw, i_gi, i_gr, i_pi, i_pz, i_ial, i_ias, i_len, i_aal, i_gs, i_tal, i_cv, i_cs, i_ir, i_zr, i_vr, i_min, i_max, i_cpy, List.getElem?_cons_zero, List.getElem?_cons_succ, List.set_cons_zero, List.set_cons_succ, List.length_cons, List.length_nil, List.drop_succ_cons, List.drop_zero, List.take_succ_cons, List.take_zero, List.reverse_cons, List.reverse_nil, List.nil_append, List.cons_append, Option.toList_some, Option.toList_none, true_and, and_true, true_or, or_true, Nat.reduceAdd, Nat.reduceLT, Nat.reduceLeDiff, Option.some.injEq, exists_eq_left', Int.toNat_natCast, Nat.reduceSub, List.append_nil, List.replicate_succ, List.replicate_zero, mm_in, r2, r7, r9, k1, q38, T_X9_nextPart, T_X4_holds, h1, ea]
        refine ⟨⟨by omega, by omega⟩, fun z => ?_, fun z => ?_⟩
        · refine hP I' 0 q1 (Or.inr ⟨hc6, bz_0 ?_⟩)
          rintro ⟨j, j1, j2, j3⟩
          exact q5 j j1 (by omega) j3
        · refine ⟨by omega, i - 1, mu, hb, q3, by omega, q4, fun I2 f1 f2 => ?_⟩
          have hi1 : i - 1 + 1 = i := by omega
          rw [hi1] at f2
          have hdl : ∀ k, k < 21 → 0 ≤ I2 39 k ∧ I2 39 k ≤ nb k := fun k hk => by
            have := dg_le nb i k
            have := hb k hk
            rw [f2 k hk]; omega
          have e30 : I2 30 = I' 30 := f1 30 (by decide)
          refine ⟨m, by rw [f1 29 (by decide)]; exact q2.1, hm, by rw [e30]; exact q2.2.1, fun k hk => by have := hdl k hk; have := hb k hk; omega, fun y hy => ?_⟩
          have hiff : (∀ t, t < m → cnd (I2 30) (I2 39) t) ↔ mt n (I 3) (I 4) (fun k => (dg nb i k : Int)) := by
            rw [e30, q2.2.2 (I2 39) hdl]
            rw [← mt_congr hg.2.2.2 hg.2.2.1 f2]
            unfold mt
            exact ⟨fun h f v x1 x2 x3 x4 => h f v ⟨x1, x2, x3, x4⟩, fun h f v hs => h f v hs.1 hs.2.1 hs.2.2.1 hs.2.2.2⟩
          refine ⟨fun w => ⟨⟨by omega, by omega⟩, ?_⟩, fun w => ?_⟩
          · have hno : ¬ mt n (I 3) (I 4) (fun k => (dg nb i k : Int)) := fun g => by
              rcases hy with ⟨y1, y2⟩ | ⟨y1, y2⟩
              · omega
              · exact y2 (hiff.mpr g)
            refine ih (d - 2) (by omega) (i + 1) I2 m mu (by omega) (by omega) (fun b z1 z2 => by rw [f1 b (by omega)]; exact q1 b z1 z2) hm ⟨by rw [f1 29 (by decide)]; exact q2.1, by rw [e30]; exact q2.2.1, by rw [e30]; exact q2.2.2⟩ ?_ (fun k hk => by rw [f2 k hk]; rfl) (fun j j1 j2 => ?_)
            · obtain ⟨v1, v2, v3, v4, v5⟩ := q3
              refine ⟨by rw [f1 1 (by decide)]; exact v1, v2, ?_, ?_, ?_⟩
              · rw [f1 40 (by decide)]; exact v3
              · rw [f1 40 (by decide)]; exact v4
              · rw [f1 40 (by decide)]; exact v5
            · by_cases e : j = i
              · subst e; exact hno
              · exact q5 j j1 (by omega)
          · refine hP I2 1 (fun b z1 z2 => by rw [f1 b (by omega)]; exact q1 b z1 z2) (Or.inr ⟨hc6, bz_1 ⟨i, hi.1, by omega, ?_⟩⟩)
            rcases hy with ⟨y1, y2⟩ | ⟨y1, y2⟩
            · exact hiff.mp y2
            · omega
    refine c0 _ _ _ ?_
    simp only [b_X9_splits_0, i_ld, i_la, i_st, i_sa, i_c, i_inc, i_add, i_sub, i_mul, i_div, i_rem, i_remT, i_xor, i_dup, i_dup2, i_if, i_if2, i_sw, i_gi, i_gr, i_pi, i_pz, i_ial, i_ias, i_len, i_aal, i_gs, i_tal, i_cv, i_cs, i_ir, i_zr, i_vr, i_min, i_max, i_cpy, List.getElem?_cons_zero, List.getElem?_cons_succ, List.set_cons_zero, List.set_cons_succ, List.length_cons, List.length_nil, List.drop_succ_cons, List.drop_zero, List.take_succ_cons, List.take_zero, List.reverse_cons, List.reverse_nil, List.nil_append, List.cons_append, Option.toList_some, Option.toList_none, true_and, and_true, true_or, or_true, Nat.reduceAdd, Nat.reduceLT, Nat.reduceLeDiff, Option.some.injEq, exists_eq_left', Int.toNat_natCast, Nat.reduceSub, List.append_nil, List.replicate_succ, List.replicate_zero, mm_in, T_X9_countParts, h1, hnb, r0, r2, r7, r9, k1, q38, T_X4_read, T_X9_listUsed, T_X7_clear, hc]
    refine ⟨hb, fun z => ?_, fun z => hP I (-1) (fun _ _ _ => rfl) (Or.inl ⟨by omega, rfl⟩)⟩
    refine ⟨n, hg, b20_bd hb, fun I1 m hm f1 f2 => ?_⟩
    have ea1 : I1 (a + 1) = nb := by rw [f1 (a + 1) (by omega) (by omega)]; exact hnb
    rw [ea1]
    refine ⟨by omega, fun I2 mu g1 g2 => ?_⟩
    intro I3 x1 x2
    refine loop (by omega) (c + 1 - 2) 1 I3 m mu (by omega) (by omega) (fun b z1 z2 => by rw [x1 b (by omega), g1 b z1 (by omega), f1 b (by omega) (by omega)]) hm ⟨by rw [x1 29 (by decide), g1 29 (by decide) (by decide)]; exact f2.1, ?_, ?_⟩ ?_ (fun k hk => ?_) (fun j j1 j2 => by omega)
    · rw [x1 30 (by decide), g1 30 (by decide) (by decide)]; exact f2.2.1
    · rw [x1 30 (by decide), g1 30 (by decide) (by decide)]; exact f2.2.2
    · obtain ⟨v1, v2, v3, v4, v5⟩ := g2
      refine ⟨by rw [x1 1 (by decide)]; exact v1, v2, ?_, ?_, ?_⟩
      · rw [x1 40 (by decide)]; exact v3
      · rw [x1 40 (by decide)]; exact v4
      · rw [x1 40 (by decide)]; exact v5
    · rw [x2 k hk]
      unfold dg
      simp
  · exact hT.elim
theorem sp_X9_splits : mm_Sp yX9_splits cX9_splits 4 (some .int) rm_X9_splits T_X9_splits := mm_meth (by decide) (by
  intro av σ Post h
  unfold T_X9_splits at h
  split at h
  · simp
  · exact h.elim) (fun p l e s m args below meth c G av σ Post hC hr _ hav hin hk hT => pv_X9_splits av σ Post hav hin hk hT _ (bk_X9_splits hC hr))
