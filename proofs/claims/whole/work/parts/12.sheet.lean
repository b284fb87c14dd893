/-! java.util.Arrays.fill, Math.floorMod; Shape.together; PieceSurfaces$Sheet -/
def T_J7_fill_53178 : mm_T := fun av σ Post => match av with
  | [.inr (some u), .inl v] => σ.2 = mm_R0 ∧ (mm_sh u).1 = 100 ∧
    ∀ I' : Nat → Nat → Int, (∀ b, b ≠ u → I' b = σ.1 b) → (∀ i, i < (mm_sh u).2 → I' u i = v) → Post none (I', mm_R0)
  | _ => False
def rm_J7_fill_53178 : Room := { frames := 0, cells := 0, slots := 0, locals := 0 }
def b_J7_fill_53178_0 (Ok : Nat → mm_K) (Post : Option mm_V → mm_S → Prop) (kf : Nat) : mm_K := i_c 0 (i_st 2 (i_la 0 (i_len (i_st 3 (Ok 5)))))
def b_J7_fill_53178_5 (Ok : Nat → mm_K) (Post : Option mm_V → mm_S → Prop) (kf : Nat) : mm_K := i_ld 2 (i_ld 3 (i_if2 (fun x y => y ≤ x) (i_vr Post kf) (i_la 0 (i_ld 2 (i_ld 1 (i_ias (i_inc 2 1 (Ok 5))))))))
def clo_J7_fill_53178 (Ok : Nat → mm_K) (Post : Option mm_V → mm_S → Prop) (kf : Nat) : Prop := mm_imp (b_J7_fill_53178_0 Ok Post kf) (Ok 0) ∧ mm_imp (b_J7_fill_53178_5 Ok Post kf) (Ok 5)
set_option maxRecDepth 100000 in
set_option maxHeartbeats 4000000 in
theorem bk_J7_fill_53178 {p : Program} {l : Launch} {e : Env} {s : State} {m : MethodId} {args : Array Value} {below : List Frame} {meth : Method} {c : Code} {G : mm_G} {σ0 : mm_S} {Post : Option mm_V → mm_S → Prop} (hC : mm_C p G s m args meth c cJ7_fill_53178 yJ7_fill_53178.cls) (hr : meth.sig.returnType = none) : clo_J7_fill_53178 (mm_O p l e rm_J7_fill_53178 s m args below meth c G σ0.2.2 (MQ below (mm_Qc G σ0 rm_J7_fill_53178.cells rm_J7_fill_53178.slots Post) args s rm_J7_fill_53178.cells rm_J7_fill_53178.slots (mm_A G))) Post σ0.2.2 := ⟨(by unfold b_J7_fill_53178_0; exact (mm_ic hC dJ7_fill_53178_0 ⟨by decide, by decide⟩ (mm_st_n hC dJ7_fill_53178_1 rfl (mm_la_n hC dJ7_fill_53178_2 rfl (mm_len hC dJ7_fill_53178_3 (mm_st_n hC dJ7_fill_53178_4 rfl (fun _ _ _ h => h))))))), (by unfold b_J7_fill_53178_5; exact (mm_ld_n hC dJ7_fill_53178_5 rfl (mm_ld_n hC dJ7_fill_53178_6 rfl (mm_ic_ge hC (t := 20) dJ7_fill_53178_7 (by decide) (mm_vr hC ⟨rfl, rfl⟩ hr dJ7_fill_53178_20) (mm_la_n hC dJ7_fill_53178_10 rfl (mm_ld_n hC dJ7_fill_53178_11 rfl (mm_ld_n hC dJ7_fill_53178_12 rfl (mm_ias hC dJ7_fill_53178_13 (mm_inc hC dJ7_fill_53178_14 (mm_goto hC (t := 5) dJ7_fill_53178_17 (by decide) (fun _ _ _ h => h)))))))))))⟩
set_option maxRecDepth 100000 in
set_option maxHeartbeats 8000000 in
theorem pv_J7_fill_53178 : ∀ (av : List mm_V) (σ : mm_S) (Post : Option mm_V → mm_S → Prop), (∀ v ∈ av, mm_iv v) → (∀ a j, mm_in (σ.1 a j)) → σ.2.2 ≤ 348 → T_J7_fill_53178 av σ Post → ∀ Ok : Nat → mm_K, clo_J7_fill_53178 Ok Post σ.2.2 → Ok 0 (av ++ List.replicate (4 - av.length) (.inr none)) [] σ := by
  intro av σ Post hav hin hk hT Ok hcl
  obtain ⟨I, R0⟩ := σ
  unfold T_J7_fill_53178 at hT
  split at hT
  · rename_i u v
    obtain ⟨h0, hT⟩ := hT
    have h0 : R0 = mm_R0 := h0
    subst h0
    dsimp only at hT hin
    obtain ⟨c0, c5⟩ := hcl
    obtain ⟨h1, hP⟩ := hT
    have hu := sh_lt h1 (by decide)
    have hle := (mm_shOk u hu).1
    obtain ⟨n, hn⟩ : ∃ n, (mm_sh u).2 = n := ⟨_, rfl⟩
    rw [hn] at hP hle
    have loop : ∀ (d i : Nat) (I' : Nat → Nat → Int), i + d = n → (∀ b, b ≠ u → I' b = I b) → (∀ j, j < i → I' u j = v) → Ok 5 [.inr (some u), .inl v, .inl (i : Int), .inl (n : Int)] [] (I', mm_R0) := by
      intro d
      induction d with
      | zero =>
        intro i I' hd hI hi
        refine c5 _ _ _ ?_
        simp only [b_J7_fill_53178_5, i_ld, i_la, i_st, i_sa, i_c, i_inc, i_add, i_sub, i_mul, i_div, i_rem, i_remT, i_xor, i_dup, i_dup2, i_if, i_if2, i_sw, i_gi, i_gr, i_pi, i_pz, i_ial, i_ias, i_len, i_aal, i_gs, i_tal, i_cv, i_cs, i_ir, i_zr, i_vr, i_min, i_max, i_cpy, List.getElem?_cons_zero, List.getElem?_cons_succ, List.set_cons_zero, List.set_cons_succ, List.length_cons, List.length_nil, List.drop_succ_cons, List.drop_zero, List.take_succ_cons, List.take_zero, List.reverse_cons, List.reverse_nil, List.nil_append, List.cons_append, Option.toList_some, Option.toList_none, true_and, and_true, true_or, or_true, Nat.reduceAdd, Nat.reduceLT, Nat.reduceLeDiff, Option.some.injEq, exists_eq_left', Int.toNat_natCast, Nat.reduceSub, List.append_nil, List.replicate_succ, List.replicate_zero, hu, h1, hn]
        refine ⟨fun q => hP I' hI (fun j hj => hi j (by omega)), fun q => by omega⟩
      | succ d ih =>
        intro i I' hd hI hi
        refine c5 _ _ _ ?_
        simp only [b_J7_fill_53178_5, i_ld, i_la, i_st, i_sa, i_c, i_inc, i_add, i_sub, i_mul, i_div, i_rem, i_remT, i_xor, i_dup, i_dup2, i_if, i_if2, i_sw, i_gi, i_gr, i_pi, i_pz, i_ial, i_ias, i_len, i_aal, i_gs, i_tal, i_cv, i_cs, i_ir, i_zr, i_vr, i_min, i_max, i_cpy, List.getElem?_cons_zero, List.getElem?_cons_succ, List.set_cons_zero, List.set_cons_succ, List.length_cons, List.length_nil, List.drop_succ_cons, List.drop_zero, List.take_succ_cons, List.take_zero, List.reverse_cons, List.reverse_nil, List.nil_append, List.cons_append, Option.toList_some, Option.toList_none, true_and, and_true, true_or, or_true, Nat.reduceAdd, Nat.reduceLT, Nat.reduceLeDiff, Option.some.injEq, exists_eq_left', Int.toNat_natCast, Nat.reduceSub, List.append_nil, List.replicate_succ, List.replicate_zero, hu, h1, hn]
        refine ⟨fun q => by omega, fun q => ⟨⟨by omega, by omega⟩, ⟨by omega, by omega⟩, ?_⟩⟩
        refine ih (i + 1) _ (by omega) (fun b hb => ?_) (fun j hj => ?_)
        · rw [← hI b hb]; funext j; simp [mm_set, hb]
        · by_cases e : j = i
          · subst e; simp [mm_set]
          · simp [mm_set, e]; exact hi j (by omega)
    refine c0 _ _ _ ?_
    simp only [b_J7_fill_53178_0, i_ld, i_la, i_st, i_sa, i_c, i_inc, i_add, i_sub, i_mul, i_div, i_rem, i_remT, i_xor, i_dup, i_dup2, i_if, i_if2, i_sw, i_gi, i_gr, i_pi, i_pz, i_ial, i_ias, i_len, i_aal, i_gs, i_tal, i_cv, i_cs, i_ir, i_zr, i_vr, i_min, i_max, i_cpy, List.getElem?_cons_zero, List.getElem?_cons_succ, List.set_cons_zero, List.set_cons_succ, List.length_cons, List.length_nil, List.drop_succ_cons, List.drop_zero, List.take_succ_cons, List.take_zero, List.reverse_cons, List.reverse_nil, List.nil_append, List.cons_append, Option.toList_some, Option.toList_none, true_and, and_true, true_or, or_true, Nat.reduceAdd, Nat.reduceLT, Nat.reduceLeDiff, Option.some.injEq, exists_eq_left', Int.toNat_natCast, Nat.reduceSub, List.append_nil, List.replicate_succ, List.replicate_zero, hu, h1, hn]
    exact loop n 0 I (by omega) (fun _ _ => rfl) (fun j hj => by omega)
  · exact hT.elim
theorem sp_J7_fill_53178 : mm_Sp yJ7_fill_53178 cJ7_fill_53178 4 none rm_J7_fill_53178 T_J7_fill_53178 := mm_meth (by decide) (by
  intro av σ Post h
  unfold T_J7_fill_53178 at h
  split at h
  · simp
  · exact h.elim) (fun p l e s m args below meth c G av σ Post hC hr _ hav hin hk hT => pv_J7_fill_53178 av σ Post hav hin hk hT _ (bk_J7_fill_53178 hC hr))
def T_X6_together : mm_T := fun av σ Post => match av with
  | [.inl x, .inl y] => σ.2 = mm_R0 ∧ 0 ≤ x ∧ x < 4 ∧ 0 ≤ y ∧ y < 4 ∧ Post (some (.inl (3 + ((x.toNat ^^^ y.toNat : Nat) : Int)))) σ
  | _ => False
def rm_X6_together : Room := { frames := 0, cells := 0, slots := 0, locals := 0 }
def b_X6_together_0 (Ok : Nat → mm_K) (Post : Option mm_V → mm_S → Prop) (kf : Nat) : mm_K := i_c 3 (i_ld 0 (i_ld 1 (i_xor (i_add (i_ir Post kf)))))
def clo_X6_together (Ok : Nat → mm_K) (Post : Option mm_V → mm_S → Prop) (kf : Nat) : Prop := mm_imp (b_X6_together_0 Ok Post kf) (Ok 0)
set_option maxRecDepth 100000 in
set_option maxHeartbeats 4000000 in
theorem bk_X6_together {p : Program} {l : Launch} {e : Env} {s : State} {m : MethodId} {args : Array Value} {below : List Frame} {meth : Method} {c : Code} {G : mm_G} {σ0 : mm_S} {Post : Option mm_V → mm_S → Prop} (hC : mm_C p G s m args meth c cX6_together yX6_together.cls) (hr : meth.sig.returnType = some .int) : clo_X6_together (mm_O p l e rm_X6_together s m args below meth c G σ0.2.2 (MQ below (mm_Qc G σ0 rm_X6_together.cells rm_X6_together.slots Post) args s rm_X6_together.cells rm_X6_together.slots (mm_A G))) Post σ0.2.2 := (by unfold clo_X6_together b_X6_together_0; exact (mm_ic hC dX6_together_0 ⟨by decide, by decide⟩ (mm_ld_n hC dX6_together_1 rfl (mm_ld_n hC dX6_together_2 rfl (mm_xor hC dX6_together_3 (mm_add hC dX6_together_4 (mm_ir hC ⟨rfl, rfl⟩ hr dX6_together_5)))))))
set_option maxRecDepth 100000 in
set_option maxHeartbeats 8000000 in
theorem pv_X6_together : ∀ (av : List mm_V) (σ : mm_S) (Post : Option mm_V → mm_S → Prop), (∀ v ∈ av, mm_iv v) → (∀ a j, mm_in (σ.1 a j)) → σ.2.2 ≤ 348 → T_X6_together av σ Post → ∀ Ok : Nat → mm_K, clo_X6_together Ok Post σ.2.2 → Ok 0 (av ++ List.replicate (2 - av.length) (.inr none)) [] σ := by
  intro av σ Post hav hin hk hT Ok hcl
  obtain ⟨I, R0⟩ := σ
  unfold T_X6_together at hT
  split at hT
  · rename_i x y
    obtain ⟨h0, hT⟩ := hT
    have h0 : R0 = mm_R0 := h0
    subst h0
    dsimp only at hT hin
    have c0 := hcl
    unfold clo_X6_together at c0
    obtain ⟨h1, h2, h3, h4, hP⟩ := hT
    have hx : x.toNat ^^^ y.toNat < 2 ^ 2 := Nat.xor_lt_two_pow (by omega) (by omega)
    refine c0 _ _ _ ?_
    simp only [b_X6_together_0, i_ld, i_la, i_st, i_sa, i_c, i_inc, i_add, i_sub, i_mul, i_div, i_rem, i_remT, i_xor, i_dup, i_dup2, i_if, i_if2, i_sw, i_gi, i_gr, i_pi, i_pz, i_ial, i_ias, i_len, i_aal, i_gs, i_tal, i_cv, i_cs, i_ir, i_zr, i_vr, i_min, i_max, i_cpy, List.getElem?_cons_zero, List.getElem?_cons_succ, List.set_cons_zero, List.set_cons_succ, List.length_cons, List.length_nil, List.drop_succ_cons, List.drop_zero, List.take_succ_cons, List.take_zero, List.reverse_cons, List.reverse_nil, List.nil_append, List.cons_append, Option.toList_some, Option.toList_none, true_and, and_true, true_or, or_true, Nat.reduceAdd, Nat.reduceLT, Nat.reduceLeDiff, Option.some.injEq, exists_eq_left', Int.toNat_natCast, Nat.reduceSub, List.append_nil, List.replicate_succ, List.replicate_zero]
    exact ⟨⟨h1, h3⟩, ⟨by omega, by omega⟩, hP⟩
  · exact hT.elim
theorem sp_X6_together : mm_Sp yX6_together cX6_together 2 (some .int) rm_X6_together T_X6_together := mm_meth (by decide) (by
  intro av σ Post h
  unfold T_X6_together at h
  split at h
  · simp
  · exact h.elim) (fun p l e s m args below meth c G av σ Post hC hr _ hav hin hk hT => pv_X6_together av σ Post hav hin hk hT _ (bk_X6_together hC hr))
def T_X7_clear : mm_T := fun av σ Post => match av with
  | [.inr (some a)] => σ.2 = mm_R0 ∧ (mm_sh a).1 = 6 ∧ ∀ I' : Nat → Nat → Int, (∀ b, b ≠ a + 1 → I' b = σ.1 b) → (∀ i, i < 21 → I' (a + 1) i = 0) → Post none (I', mm_R0)
  | _ => False
def rm_X7_clear : Room := { frames := 1, cells := 0, slots := 0, locals := 23 }
def b_X7_clear_0 (Ok : Nat → mm_K) (Post : Option mm_V → mm_S → Prop) (kf : Nat) : mm_K := i_la 0 (i_gr 6 0 (i_c 0 (i_cs 2 T_J7_fill_53178 (i_vr Post kf))))
def clo_X7_clear (Ok : Nat → mm_K) (Post : Option mm_V → mm_S → Prop) (kf : Nat) : Prop := mm_imp (b_X7_clear_0 Ok Post kf) (Ok 0)
set_option maxRecDepth 100000 in
set_option maxHeartbeats 4000000 in
theorem bk_X7_clear {p : Program} {l : Launch} {e : Env} {s : State} {m : MethodId} {args : Array Value} {below : List Frame} {meth : Method} {c : Code} {G : mm_G} {σ0 : mm_S} {Post : Option mm_V → mm_S → Prop} (hC : mm_C p G s m args meth c cX7_clear yX7_clear.cls) (hr : meth.sig.returnType = none) : clo_X7_clear (mm_O p l e rm_X7_clear s m args below meth c G σ0.2.2 (MQ below (mm_Qc G σ0 rm_X7_clear.cells rm_X7_clear.slots Post) args s rm_X7_clear.cells rm_X7_clear.slots (mm_A G))) Post σ0.2.2 := (by unfold clo_X7_clear b_X7_clear_0; exact (mm_la_n hC dX7_clear_0 rfl (mm_gr hC cl_6 (by decide) rfl wd_108 dX7_clear_1 (mm_ic hC dX7_clear_4 ⟨by decide, by decide⟩ (mm_cs hC sp_J7_fill_53178 ⟨rfl, rfl⟩ wd_443 wd_117 wd_118 wd_69 ⟨by decide, by decide, by decide +kernel⟩ ⟨by decide, by decide⟩ dX7_clear_5 (mm_vr hC ⟨rfl, rfl⟩ hr dX7_clear_8))))))
set_option maxRecDepth 100000 in
set_option maxHeartbeats 8000000 in
theorem pv_X7_clear : ∀ (av : List mm_V) (σ : mm_S) (Post : Option mm_V → mm_S → Prop), (∀ v ∈ av, mm_iv v) → (∀ a j, mm_in (σ.1 a j)) → σ.2.2 ≤ 348 → T_X7_clear av σ Post → ∀ Ok : Nat → mm_K, clo_X7_clear Ok Post σ.2.2 → Ok 0 (av ++ List.replicate (1 - av.length) (.inr none)) [] σ := by
  intro av σ Post hav hin hk hT Ok hcl
  obtain ⟨I, R0⟩ := σ
  unfold T_X7_clear at hT
  split at hT
  · rename_i a
    obtain ⟨h0, hT⟩ := hT
    have h0 : R0 = mm_R0 := h0
    subst h0
    dsimp only at hT hin
    have c0 := hcl
    unfold clo_X7_clear at c0
    obtain ⟨h1, hP⟩ := hT
    have ha := sh_lt h1 (by decide)
    obtain ⟨hs1, hs2⟩ := sh_sheet a ha h1
    have hR : ∀ j, mm_Rs a j = some (a + 1) := fun j => Rs_sheet h1
    refine c0 _ _ _ ?_
    simp only [b_X7_clear_0, i_ld, i_la, i_st, i_sa, i_c, i_inc, i_add, i_sub, i_mul, i_div, i_rem, i_remT, i_xor, i_dup, i_dup2, i_if, i_if2, i_sw, i_gi, i_gr, i_pi, i_pz, i_ial, i_ias, i_len, i_aal, i_gs, i_tal, i_cv, i_cs, i_ir, i_zr, i_vr, i_min, i_max, i_cpy, List.getElem?_cons_zero, List.getElem?_cons_succ, List.set_cons_zero, List.set_cons_succ, List.length_cons, List.length_nil, List.drop_succ_cons, List.drop_zero, List.take_succ_cons, List.take_zero, List.reverse_cons, List.reverse_nil, List.nil_append, List.cons_append, Option.toList_some, Option.toList_none, true_and, and_true, true_or, or_true, Nat.reduceAdd, Nat.reduceLT, Nat.reduceLeDiff, Option.some.injEq, exists_eq_left', Int.toNat_natCast, Nat.reduceSub, List.append_nil, List.replicate_succ, List.replicate_zero, ha, h1, hs1, hs2, hR, T_J7_fill_53178]
    exact fun I' q1 q2 => hP I' q1 q2
  · exact hT.elim
theorem sp_X7_clear : mm_Sp yX7_clear cX7_clear 1 none rm_X7_clear T_X7_clear := mm_meth (by decide) (by
  intro av σ Post h
  unfold T_X7_clear at h
  split at h
  · simp
  · exact h.elim) (fun p l e s m args below meth c G av σ Post hC hr _ hav hin hk hT => pv_X7_clear av σ Post hav hin hk hT _ (bk_X7_clear hC hr))
def T_X7_copyFrom : mm_T := fun av σ Post => match av with
  | [.inr (some a), .inr (some b)] => σ.2 = mm_R0 ∧ (mm_sh a).1 = 6 ∧ (mm_sh b).1 = 6 ∧ ∀ I' : Nat → Nat → Int, (∀ x, x ≠ a + 1 → I' x = σ.1 x) → (∀ i, i < 21 → I' (a + 1) i = σ.1 (b + 1) i) → Post none (I', mm_R0)
  | _ => False
def rm_X7_copyFrom : Room := { frames := 1, cells := 0, slots := 0, locals := 28 }
def b_X7_copyFrom_0 (Ok : Nat → mm_K) (Post : Option mm_V → mm_S → Prop) (kf : Nat) : mm_K := i_la 1 (i_gr 6 0 (i_c 0 (i_la 0 (i_gr 6 0 (i_c 0 (i_la 0 (i_gr 6 0 (i_len (i_cpy (i_vr Post kf))))))))))
def clo_X7_copyFrom (Ok : Nat → mm_K) (Post : Option mm_V → mm_S → Prop) (kf : Nat) : Prop := mm_imp (b_X7_copyFrom_0 Ok Post kf) (Ok 0)
set_option maxRecDepth 100000 in
set_option maxHeartbeats 4000000 in
theorem bk_X7_copyFrom {p : Program} {l : Launch} {e : Env} {s : State} {m : MethodId} {args : Array Value} {below : List Frame} {meth : Method} {c : Code} {G : mm_G} {σ0 : mm_S} {Post : Option mm_V → mm_S → Prop} (hC : mm_C p G s m args meth c cX7_copyFrom yX7_copyFrom.cls) (hr : meth.sig.returnType = none) : clo_X7_copyFrom (mm_O p l e rm_X7_copyFrom s m args below meth c G σ0.2.2 (MQ below (mm_Qc G σ0 rm_X7_copyFrom.cells rm_X7_copyFrom.slots Post) args s rm_X7_copyFrom.cells rm_X7_copyFrom.slots (mm_A G))) Post σ0.2.2 := (by unfold clo_X7_copyFrom b_X7_copyFrom_0; exact (mm_la_n hC dX7_copyFrom_0 rfl (mm_gr hC cl_6 (by decide) rfl wd_108 dX7_copyFrom_1 (mm_ic hC dX7_copyFrom_4 ⟨by decide, by decide⟩ (mm_la_n hC dX7_copyFrom_5 rfl (mm_gr hC cl_6 (by decide) rfl wd_108 dX7_copyFrom_6 (mm_ic hC dX7_copyFrom_9 ⟨by decide, by decide⟩ (mm_la_n hC dX7_copyFrom_10 rfl (mm_gr hC cl_6 (by decide) rfl wd_108 dX7_copyFrom_11 (mm_len hC dX7_copyFrom_14 (mm_copy hC wd_636 wd_631 wd_630 wd_80 ⟨by decide, by decide⟩ dX7_copyFrom_15 (mm_vr hC ⟨rfl, rfl⟩ hr dX7_copyFrom_18))))))))))))
set_option maxRecDepth 100000 in
set_option maxHeartbeats 8000000 in
theorem pv_X7_copyFrom : ∀ (av : List mm_V) (σ : mm_S) (Post : Option mm_V → mm_S → Prop), (∀ v ∈ av, mm_iv v) → (∀ a j, mm_in (σ.1 a j)) → σ.2.2 ≤ 348 → T_X7_copyFrom av σ Post → ∀ Ok : Nat → mm_K, clo_X7_copyFrom Ok Post σ.2.2 → Ok 0 (av ++ List.replicate (2 - av.length) (.inr none)) [] σ := by
  intro av σ Post hav hin hk hT Ok hcl
  obtain ⟨I, R0⟩ := σ
  unfold T_X7_copyFrom at hT
  split at hT
  · rename_i a b
    obtain ⟨h0, hT⟩ := hT
    have h0 : R0 = mm_R0 := h0
    subst h0
    dsimp only at hT hin
    have c0 := hcl
    unfold clo_X7_copyFrom at c0
    obtain ⟨h1, h2, hP⟩ := hT
    have ha := sh_lt h1 (by decide)
    have hb := sh_lt h2 (by decide)
    obtain ⟨hs1, hs2⟩ := sh_sheet a ha h1
    obtain ⟨hs3, hs4⟩ := sh_sheet b hb h2
    have hR : ∀ j, mm_Rs a j = some (a + 1) := fun j => Rs_sheet h1
    have hR2 : ∀ j, mm_Rs b j = some (b + 1) := fun j => Rs_sheet h2
    refine c0 _ _ _ ?_
    simp only [b_X7_copyFrom_0, i_ld, i_la, i_st, i_sa, i_c, i_inc, i_add, i_sub, i_mul, i_div, i_rem, i_remT, i_xor, i_dup, i_dup2, i_if, i_if2, i_sw, i_gi, i_gr, i_pi, i_pz, i_ial, i_ias, i_len, i_aal, i_gs, i_tal, i_cv, i_cs, i_ir, i_zr, i_vr, i_min, i_max, i_cpy, List.getElem?_cons_zero, List.getElem?_cons_succ, List.set_cons_zero, List.set_cons_succ, List.length_cons, List.length_nil, List.drop_succ_cons, List.drop_zero, List.take_succ_cons, List.take_zero, List.reverse_cons, List.reverse_nil, List.nil_append, List.cons_append, Option.toList_some, Option.toList_none, true_and, and_true, true_or, or_true, Nat.reduceAdd, Nat.reduceLT, Nat.reduceLeDiff, Option.some.injEq, exists_eq_left', Int.toNat_natCast, Nat.reduceSub, List.append_nil, List.replicate_succ, List.replicate_zero, ha, hb, h1, h2, hs1, hs2, hs3, hs4, hR, hR2]
    refine ⟨⟨by omega, by omega, by omega, by omega, by omega⟩, ?_⟩
    refine hP _ (fun x hx => ?_) (fun i hi => ?_)
    · funext j; simp [mm_cpy, hx]
    · simp [mm_cpy, hi]
  · exact hT.elim
theorem sp_X7_copyFrom : mm_Sp yX7_copyFrom cX7_copyFrom 2 none rm_X7_copyFrom T_X7_copyFrom := mm_meth (by decide) (by
  intro av σ Post h
  unfold T_X7_copyFrom at h
  split at h
  · simp
  · exact h.elim) (fun p l e s m args below meth c G av σ Post hC hr _ hav hin hk hT => pv_X7_copyFrom av σ Post hav hin hk hT _ (bk_X7_copyFrom hC hr))
def T_X7_fillSum : mm_T := fun av σ Post => match av with
  | [.inr (some a), .inr (some b), .inr (some c)] => σ.2 = mm_R0 ∧ (mm_sh a).1 = 6 ∧ (mm_sh b).1 = 6 ∧ (mm_sh c).1 = 6 ∧ a ≠ b ∧ a ≠ c ∧ (∀ i, i < 21 → 0 ≤ σ.1 (b + 1) i ∧ σ.1 (b + 1) i ≤ 1000) ∧ (∀ i, i < 21 → 0 ≤ σ.1 (c + 1) i ∧ σ.1 (c + 1) i ≤ 1000) ∧
    ∀ I' : Nat → Nat → Int, (∀ x, x ≠ a + 1 → I' x = σ.1 x) → (∀ i, i < 21 → I' (a + 1) i = σ.1 (b + 1) i + σ.1 (c + 1) i) → Post none (I', mm_R0)
  | _ => False
def rm_X7_fillSum : Room := { frames := 0, cells := 0, slots := 0, locals := 0 }
def b_X7_fillSum_0 (Ok : Nat → mm_K) (Post : Option mm_V → mm_S → Prop) (kf : Nat) : mm_K := i_c 0 (i_st 3 (Ok 2))
def b_X7_fillSum_2 (Ok : Nat → mm_K) (Post : Option mm_V → mm_S → Prop) (kf : Nat) : mm_K := i_ld 3 (i_c 21 (i_if2 (fun x y => y ≤ x) (i_vr Post kf) (i_la 0 (i_gr 6 0 (i_ld 3 (i_la 1 (i_gr 6 0 (i_ld 3 (i_ial (i_la 2 (i_gr 6 0 (i_ld 3 (i_ial (i_add (i_ias (i_inc 3 1 (Ok 2)))))))))))))))))
def clo_X7_fillSum (Ok : Nat → mm_K) (Post : Option mm_V → mm_S → Prop) (kf : Nat) : Prop := mm_imp (b_X7_fillSum_0 Ok Post kf) (Ok 0) ∧ mm_imp (b_X7_fillSum_2 Ok Post kf) (Ok 2)
set_option maxRecDepth 100000 in
set_option maxHeartbeats 4000000 in
theorem bk_X7_fillSum {p : Program} {l : Launch} {e : Env} {s : State} {m : MethodId} {args : Array Value} {below : List Frame} {meth : Method} {c : Code} {G : mm_G} {σ0 : mm_S} {Post : Option mm_V → mm_S → Prop} (hC : mm_C p G s m args meth c cX7_fillSum yX7_fillSum.cls) (hr : meth.sig.returnType = none) : clo_X7_fillSum (mm_O p l e rm_X7_fillSum s m args below meth c G σ0.2.2 (MQ below (mm_Qc G σ0 rm_X7_fillSum.cells rm_X7_fillSum.slots Post) args s rm_X7_fillSum.cells rm_X7_fillSum.slots (mm_A G))) Post σ0.2.2 := ⟨(by unfold b_X7_fillSum_0; exact (mm_ic hC dX7_fillSum_0 ⟨by decide, by decide⟩ (mm_st_n hC dX7_fillSum_1 rfl (fun _ _ _ h => h)))), (by unfold b_X7_fillSum_2; exact (mm_ld_n hC dX7_fillSum_2 rfl (mm_bp hC dX7_fillSum_3 ⟨⟨by decide, by decide⟩, by decide⟩ (mm_ic_ge hC (t := 33) dX7_fillSum_5 (by decide) (mm_vr hC ⟨rfl, rfl⟩ hr dX7_fillSum_33) (mm_la_n hC dX7_fillSum_8 rfl (mm_gr hC cl_6 (by decide) rfl wd_108 dX7_fillSum_9 (mm_ld_n hC dX7_fillSum_12 rfl (mm_la_n hC dX7_fillSum_13 rfl (mm_gr hC cl_6 (by decide) rfl wd_108 dX7_fillSum_14 (mm_ld_n hC dX7_fillSum_17 rfl (mm_ial hC dX7_fillSum_18 (mm_la_n hC dX7_fillSum_19 rfl (mm_gr hC cl_6 (by decide) rfl wd_108 dX7_fillSum_20 (mm_ld_n hC dX7_fillSum_23 rfl (mm_ial hC dX7_fillSum_24 (mm_add hC dX7_fillSum_25 (mm_ias hC dX7_fillSum_26 (mm_inc hC dX7_fillSum_27 (mm_goto hC (t := 2) dX7_fillSum_30 (by decide) (fun _ _ _ h => h))))))))))))))))))))⟩
set_option maxRecDepth 100000 in
set_option maxHeartbeats 8000000 in
theorem pv_X7_fillSum : ∀ (av : List mm_V) (σ : mm_S) (Post : Option mm_V → mm_S → Prop), (∀ v ∈ av, mm_iv v) → (∀ a j, mm_in (σ.1 a j)) → σ.2.2 ≤ 348 → T_X7_fillSum av σ Post → ∀ Ok : Nat → mm_K, clo_X7_fillSum Ok Post σ.2.2 → Ok 0 (av ++ List.replicate (4 - av.length) (.inr none)) [] σ := by
  intro av σ Post hav hin hk hT Ok hcl
  obtain ⟨I, R0⟩ := σ
  unfold T_X7_fillSum at hT
  split at hT
  · rename_i a b c
    obtain ⟨h0, hT⟩ := hT
    have h0 : R0 = mm_R0 := h0
    subst h0
    dsimp only at hT hin
    obtain ⟨c0, c2⟩ := hcl
    obtain ⟨h1, h2, h3, h4, h5, h6, h7, hP⟩ := hT
    have ha := sh_lt h1 (by decide)
    have hb := sh_lt h2 (by decide)
    have hc := sh_lt h3 (by decide)
    obtain ⟨hs1, hs2⟩ := sh_sheet a ha h1
    obtain ⟨hs3, hs4⟩ := sh_sheet b hb h2
    obtain ⟨hs5, hs6⟩ := sh_sheet c hc h3
    have hR : ∀ j, mm_Rs a j = some (a + 1) := fun j => Rs_sheet h1
    have hR2 : ∀ j, mm_Rs b j = some (b + 1) := fun j => Rs_sheet h2
    have hR3 : ∀ j, mm_Rs c j = some (c + 1) := fun j => Rs_sheet h3
    have loop : ∀ (d i : Nat) (I' : Nat → Nat → Int), i + d = 21 → (∀ x, x ≠ a + 1 → I' x = I x) → (∀ j, j < i → I' (a + 1) j = I (b + 1) j + I (c + 1) j) → Ok 2 [.inr (some a), .inr (some b), .inr (some c), .inl (i : Int)] [] (I', mm_R0) := by
      intro d
      induction d with
      | zero =>
        intro i I' hd hI hi
        refine c2 _ _ _ ?_
        simp only [b_X7_fillSum_2, i_ld, i_la, i_st, i_sa, i_c, i_inc, i_add, i_sub, i_mul, i_div, i_rem, i_remT, i_xor, i_dup, i_dup2, i_if, i_if2, i_sw, i_gi, i_gr, i_pi, i_pz, i_ial, i_ias, i_len, i_aal, i_gs, i_tal, i_cv, i_cs, i_ir, i_zr, i_vr, i_min, i_max, i_cpy, List.getElem?_cons_zero, List.getElem?_cons_succ, List.set_cons_zero, List.set_cons_succ, List.length_cons, List.length_nil, List.drop_succ_cons, List.drop_zero, List.take_succ_cons, List.take_zero, List.reverse_cons, List.reverse_nil, List.nil_append, List.cons_append, Option.toList_some, Option.toList_none, true_and, and_true, true_or, or_true, Nat.reduceAdd, Nat.reduceLT, Nat.reduceLeDiff, Option.some.injEq, exists_eq_left', Int.toNat_natCast, Nat.reduceSub, List.append_nil, List.replicate_succ, List.replicate_zero]
        refine ⟨fun q => hP I' hI (fun j hj => hi j (by omega)), fun q => by omega⟩
      | succ d ih =>
        intro i I' hd hI hi
        have e1 : I' (b + 1) = I (b + 1) := hI _ (by omega)
        have e2 : I' (c + 1) = I (c + 1) := hI _ (by omega)
        have b1 := h6 i (by omega)
        have b2 := h7 i (by omega)
        refine c2 _ _ _ ?_
        simp only [b_X7_fillSum_2, i_ld, i_la, i_st, i_sa, i_c, i_inc, i_add, i_sub, i_mul, i_div, i_rem, i_remT, i_xor, i_dup, i_dup2, i_if, i_if2, i_sw, i_gi, i_gr, i_pi, i_pz, i_ial, i_ias, i_len, i_aal, i_gs, i_tal, i_cv, i_cs, i_ir, i_zr, i_vr, i_min, i_max, i_cpy, List.getElem?_cons_zero, List.getElem?_cons_succ, List.set_cons_zero, List.set_cons_succ, List.length_cons, List.length_nil, List.drop_succ_cons, List.drop_zero, List.take_succ_cons, List.take_zero, List.reverse_cons, List.reverse_nil, List.nil_append, List.cons_append, Option.toList_some, Option.toList_none, true_and, and_true, true_or, or_true, Nat.reduceAdd, Nat.reduceLT, Nat.reduceLeDiff, Option.some.injEq, exists_eq_left', Int.toNat_natCast, Nat.reduceSub, List.append_nil, List.replicate_succ, List.replicate_zero, ha, hb, hc, h1, h2, h3, hs1, hs2, hs3, hs4, hs5, hs6, hR, hR2, hR3, e1, e2]
        refine ⟨fun q => by omega, fun q => ⟨⟨by omega, by omega⟩, fun _ => ⟨⟨by omega, by omega⟩, fun _ => ⟨⟨by omega, by omega⟩, ⟨by omega, by omega⟩, ⟨by omega, by omega⟩, ?_⟩⟩⟩⟩
        refine ih (i + 1) _ (by omega) (fun x hx => ?_) (fun j hj => ?_)
        · rw [← hI x hx]; funext j; simp [mm_set, hx]
        · by_cases e : j = i
          · subst e; simp [mm_set]
          · simp [mm_set, e]; exact hi j (by omega)
    refine c0 _ _ _ ?_
    simp only [b_X7_fillSum_0, i_ld, i_la, i_st, i_sa, i_c, i_inc, i_add, i_sub, i_mul, i_div, i_rem, i_remT, i_xor, i_dup, i_dup2, i_if, i_if2, i_sw, i_gi, i_gr, i_pi, i_pz, i_ial, i_ias, i_len, i_aal, i_gs, i_tal, i_cv, i_cs, i_ir, i_zr, i_vr, i_min, i_max, i_cpy, List.getElem?_cons_zero, List.getElem?_cons_succ, List.set_cons_zero, List.set_cons_succ, List.length_cons, List.length_nil, List.drop_succ_cons, List.drop_zero, List.take_succ_cons, List.take_zero, List.reverse_cons, List.reverse_nil, List.nil_append, List.cons_append, Option.toList_some, Option.toList_none, true_and, and_true, true_or, or_true, Nat.reduceAdd, Nat.reduceLT, Nat.reduceLeDiff, Option.some.injEq, exists_eq_left', Int.toNat_natCast, Nat.reduceSub, List.append_nil, List.replicate_succ, List.replicate_zero]
    exact loop 21 0 I (by omega) (fun _ _ => rfl) (fun j hj => by omega)
  · exact hT.elim
theorem sp_X7_fillSum : mm_Sp yX7_fillSum cX7_fillSum 4 none rm_X7_fillSum T_X7_fillSum := mm_meth (by decide) (by
  intro av σ Post h
  unfold T_X7_fillSum at h
  split at h
  · simp
  · exact h.elim) (fun p l e s m args below meth c G av σ Post hC hr _ hav hin hk hT => pv_X7_fillSum av σ Post hav hin hk hT _ (bk_X7_fillSum hC hr))
def T_X7_total : mm_T := fun av σ Post => match av with
  | [.inr (some a)] => σ.2 = mm_R0 ∧ (mm_sh a).1 = 6 ∧ (∀ i, i < 21 → 0 ≤ σ.1 (a + 1) i ∧ σ.1 (a + 1) i ≤ 1000) ∧ Post (some (.inl (sm (σ.1 (a + 1)) 21))) σ
  | _ => False
def rm_X7_total : Room := { frames := 0, cells := 0, slots := 0, locals := 0 }
def b_X7_total_0 (Ok : Nat → mm_K) (Post : Option mm_V → mm_S → Prop) (kf : Nat) : mm_K := i_c 0 (i_st 1 (i_c 0 (i_st 2 (Ok 4))))
def b_X7_total_4 (Ok : Nat → mm_K) (Post : Option mm_V → mm_S → Prop) (kf : Nat) : mm_K := i_ld 2 (i_c 21 (i_if2 (fun x y => y ≤ x) (i_ld 1 (i_ir Post kf)) (i_ld 1 (i_la 0 (i_gr 6 0 (i_ld 2 (i_ial (i_add (i_st 1 (i_inc 2 1 (Ok 4)))))))))))
def clo_X7_total (Ok : Nat → mm_K) (Post : Option mm_V → mm_S → Prop) (kf : Nat) : Prop := mm_imp (b_X7_total_0 Ok Post kf) (Ok 0) ∧ mm_imp (b_X7_total_4 Ok Post kf) (Ok 4)
set_option maxRecDepth 100000 in
set_option maxHeartbeats 4000000 in
theorem bk_X7_total {p : Program} {l : Launch} {e : Env} {s : State} {m : MethodId} {args : Array Value} {below : List Frame} {meth : Method} {c : Code} {G : mm_G} {σ0 : mm_S} {Post : Option mm_V → mm_S → Prop} (hC : mm_C p G s m args meth c cX7_total yX7_total.cls) (hr : meth.sig.returnType = some .int) : clo_X7_total (mm_O p l e rm_X7_total s m args below meth c G σ0.2.2 (MQ below (mm_Qc G σ0 rm_X7_total.cells rm_X7_total.slots Post) args s rm_X7_total.cells rm_X7_total.slots (mm_A G))) Post σ0.2.2 := ⟨(by unfold b_X7_total_0; exact (mm_ic hC dX7_total_0 ⟨by decide, by decide⟩ (mm_st_n hC dX7_total_1 rfl (mm_ic hC dX7_total_2 ⟨by decide, by decide⟩ (mm_st_n hC dX7_total_3 rfl (fun _ _ _ h => h)))))), (by unfold b_X7_total_4; exact (mm_ld_n hC dX7_total_4 rfl (mm_bp hC dX7_total_5 ⟨⟨by decide, by decide⟩, by decide⟩ (mm_ic_ge hC (t := 25) dX7_total_7 (by decide) (mm_ld_n hC dX7_total_25 rfl (mm_ir hC ⟨rfl, rfl⟩ hr dX7_total_26)) (mm_ld_n hC dX7_total_10 rfl (mm_la_n hC dX7_total_11 rfl (mm_gr hC cl_6 (by decide) rfl wd_108 dX7_total_12 (mm_ld_n hC dX7_total_15 rfl (mm_ial hC dX7_total_16 (mm_add hC dX7_total_17 (mm_st_n hC dX7_total_18 rfl (mm_inc hC dX7_total_19 (mm_goto hC (t := 4) dX7_total_22 (by decide) (fun _ _ _ h => h))))))))))))))⟩
set_option maxRecDepth 100000 in
set_option maxHeartbeats 8000000 in
theorem pv_X7_total : ∀ (av : List mm_V) (σ : mm_S) (Post : Option mm_V → mm_S → Prop), (∀ v ∈ av, mm_iv v) → (∀ a j, mm_in (σ.1 a j)) → σ.2.2 ≤ 348 → T_X7_total av σ Post → ∀ Ok : Nat → mm_K, clo_X7_total Ok Post σ.2.2 → Ok 0 (av ++ List.replicate (3 - av.length) (.inr none)) [] σ := by
  intro av σ Post hav hin hk hT Ok hcl
  obtain ⟨I, R0⟩ := σ
  unfold T_X7_total at hT
  split at hT
  · rename_i a
    obtain ⟨h0, hT⟩ := hT
    have h0 : R0 = mm_R0 := h0
    subst h0
    dsimp only at hT hin
    obtain ⟨c0, c4⟩ := hcl
    obtain ⟨h1, h2, hP⟩ := hT
    have ha := sh_lt h1 (by decide)
    obtain ⟨hs1, hs2⟩ := sh_sheet a ha h1
    have hR : ∀ j, mm_Rs a j = some (a + 1) := fun j => Rs_sheet h1
    have loop : ∀ (d i : Nat), i + d = 21 → Ok 4 [.inr (some a), .inl (sm (I (a + 1)) i), .inl (i : Int)] [] (I, mm_R0) := by
      intro d
      induction d with
      | zero =>
        intro i hd
        refine c4 _ _ _ ?_
        simp only [b_X7_total_4, i_ld, i_la, i_st, i_sa, i_c, i_inc, i_add, i_sub, i_mul, i_div, i_rem, i_remT, i_xor, i_dup, i_dup2, i_if, i_if2, i_sw, i_gi, i_gr, i_pi, i_pz, i_ial, i_ias, i_len, i_aal, i_gs, i_tal, i_cv, i_cs, i_ir, i_zr, i_vr, i_min, i_max, i_cpy, List.getElem?_cons_zero, List.getElem?_cons_succ, List.set_cons_zero, List.set_cons_succ, List.length_cons, List.length_nil, List.drop_succ_cons, List.drop_zero, List.take_succ_cons, List.take_zero, List.reverse_cons, List.reverse_nil, List.nil_append, List.cons_append, Option.toList_some, Option.toList_none, true_and, and_true, true_or, or_true, Nat.reduceAdd, Nat.reduceLT, Nat.reduceLeDiff, Option.some.injEq, exists_eq_left', Int.toNat_natCast, Nat.reduceSub, List.append_nil, List.replicate_succ, List.replicate_zero]
        refine ⟨fun q => ?_, fun q => by omega⟩
        rw [show i = 21 by omega]; exact hP
      | succ d ih =>
        intro i hd
        have b1 := h2 i (by omega)
        have b2 := sm_bound (f := I (a + 1)) (n := i) (c := 1000) (fun k hk => h2 k (by omega))
        refine c4 _ _ _ ?_
        simp only [b_X7_total_4, i_ld, i_la, i_st, i_sa, i_c, i_inc, i_add, i_sub, i_mul, i_div, i_rem, i_remT, i_xor, i_dup, i_dup2, i_if, i_if2, i_sw, i_gi, i_gr, i_pi, i_pz, i_ial, i_ias, i_len, i_aal, i_gs, i_tal, i_cv, i_cs, i_ir, i_zr, i_vr, i_min, i_max, i_cpy, List.getElem?_cons_zero, List.getElem?_cons_succ, List.set_cons_zero, List.set_cons_succ, List.length_cons, List.length_nil, List.drop_succ_cons, List.drop_zero, List.take_succ_cons, List.take_zero, List.reverse_cons, List.reverse_nil, List.nil_append, List.cons_append, Option.toList_some, Option.toList_none, true_and, and_true, true_or, or_true, Nat.reduceAdd, Nat.reduceLT, Nat.reduceLeDiff, Option.some.injEq, exists_eq_left', Int.toNat_natCast, Nat.reduceSub, List.append_nil, List.replicate_succ, List.replicate_zero, ha, h1, hs1, hs2, hR]
        refine ⟨fun q => by omega, fun q => ⟨⟨by omega, by omega⟩, fun _ => ⟨⟨by omega, by omega⟩, ⟨by omega, by omega⟩, ih (i + 1) (by omega)⟩⟩⟩
    refine c0 _ _ _ ?_
    simp only [b_X7_total_0, i_ld, i_la, i_st, i_sa, i_c, i_inc, i_add, i_sub, i_mul, i_div, i_rem, i_remT, i_xor, i_dup, i_dup2, i_if, i_if2, i_sw, i_gi, i_gr, i_pi, i_pz, i_ial, i_ias, i_len, i_aal, i_gs, i_tal, i_cv, i_cs, i_ir, i_zr, i_vr, i_min, i_max, i_cpy, List.getElem?_cons_zero, List.getElem?_cons_succ, List.set_cons_zero, List.set_cons_succ, List.length_cons, List.length_nil, List.drop_succ_cons, List.drop_zero, List.take_succ_cons, List.take_zero, List.reverse_cons, List.reverse_nil, List.nil_append, List.cons_append, Option.toList_some, Option.toList_none, true_and, and_true, true_or, or_true, Nat.reduceAdd, Nat.reduceLT, Nat.reduceLeDiff, Option.some.injEq, exists_eq_left', Int.toNat_natCast, Nat.reduceSub, List.append_nil, List.replicate_succ, List.replicate_zero]
    exact loop 21 0 (by omega)
  · exact hT.elim
theorem sp_X7_total : mm_Sp yX7_total cX7_total 3 (some .int) rm_X7_total T_X7_total := mm_meth (by decide) (by
  intro av σ Post h
  unfold T_X7_total at h
  split at h
  · simp
  · exact h.elim) (fun p l e s m args below meth c G av σ Post hC hr _ hav hin hk hT => pv_X7_total av σ Post hav hin hk hT _ (bk_X7_total hC hr))
