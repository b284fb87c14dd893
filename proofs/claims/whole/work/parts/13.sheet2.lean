/-! Sheet: arcs, weights, crossings -/
def bz (z : Int) (P : Prop) : Prop := (z = 1 ∧ P) ∨ (z = 0 ∧ ¬ P)
theorem bz_1 {P : Prop} (h : P) : bz 1 P := Or.inl ⟨rfl, h⟩
theorem bz_0 {P : Prop} (h : ¬ P) : bz 0 P := Or.inr ⟨rfl, h⟩
def bd (nb : Nat → Int) : Prop := ∀ i, i < 21 → 0 ≤ nb i ∧ nb i ≤ 1000
def tg (c d : Nat) : Nat := 3 + (c ^^^ d)
theorem tg_b {c d : Nat} (hc : c < 4) (hd : d < 4) : 3 ≤ tg c d ∧ tg c d ≤ 6 := by
  have : c ^^^ d < 2 ^ 2 := Nat.xor_lt_two_pow (by omega) (by omega)
  unfold tg
  omega
/-- arcs of face f of body b at corner v -/
def ac (nb : Nat → Int) (b f v : Nat) : Int := nb (7 * b + v) + nb (7 * b + tg v f)
def aw (nb : Nat → Int) (b f : Nat) : Int := sm (fun v => if v = f then 0 else ac nb b f v) 4
def elo (e : Nat) : Nat := [0, 0, 0, 1, 1, 2].getD e 0
def ehi (e : Nat) : Nat := [1, 2, 3, 2, 3, 3].getD e 0
def wt (nb : Nat → Int) (b e : Nat) : Int := nb (7 * b + elo e) + nb (7 * b + ehi e) + sm (fun t => if 4 + t = tg (elo e) (ehi e) then 0 else nb (7 * b + (4 + t))) 3
def us (nb : Nat → Int) (b : Nat) : Int := sm (fun t => if 0 < nb (7 * b + (4 + t)) then 1 else 0) 3
def crs (nb : Nat → Int) (n : Nat) : Prop := ∃ b, b < n ∧ 1 < us nb b
theorem ac_b {nb : Nat → Int} (h : bd nb) {b f v : Nat} (hb : b < 3) (hf : f < 4) (hv : v < 4) : 0 ≤ ac nb b f v ∧ ac nb b f v ≤ 2000 := by
  have := tg_b hv hf
  have h1 := h (7 * b + v) (by omega)
  have h2 := h (7 * b + tg v f) (by omega)
  unfold ac
  omega
theorem aw_b {nb : Nat → Int} (h : bd nb) {b f : Nat} (hb : b < 3) (hf : f < 4) : 0 ≤ aw nb b f ∧ aw nb b f ≤ 8000 := by
  have := sm_bound (f := fun v => if v = f then 0 else ac nb b f v) (n := 4) (c := 2000) (fun k hk => by
    split
    · omega
    · exact ac_b h hb hf hk)
  unfold aw
  omega
def T_X7_most : mm_T := fun av σ Post => match av with
  | [.inr (some a)] => σ.2 = mm_R0 ∧ (mm_sh a).1 = 6 ∧ bd (σ.1 (a + 1)) ∧ ∀ z : Int, (∀ c : Int, 0 ≤ c → (z ≤ c ↔ ∀ i, i < 21 → σ.1 (a + 1) i ≤ c)) → Post (some (.inl z)) σ
  | _ => False
def rm_X7_most : Room := { frames := 1, cells := 0, slots := 0, locals := 17 }
def b_X7_most_0 (Ok : Nat → mm_K) (Post : Option mm_V → mm_S → Prop) (kf : Nat) : mm_K := i_c 0 (i_st 1 (i_c 0 (i_st 2 (Ok 4))))
def b_X7_most_4 (Ok : Nat → mm_K) (Post : Option mm_V → mm_S → Prop) (kf : Nat) : mm_K := i_ld 2 (i_c 21 (i_if2 (fun x y => y ≤ x) (i_ld 1 (i_ir Post kf)) (i_ld 1 (i_la 0 (i_gr 6 0 (i_ld 2 (i_ial (i_max (i_st 1 (i_inc 2 1 (Ok 4)))))))))))
def clo_X7_most (Ok : Nat → mm_K) (Post : Option mm_V → mm_S → Prop) (kf : Nat) : Prop := mm_imp (b_X7_most_0 Ok Post kf) (Ok 0) ∧ mm_imp (b_X7_most_4 Ok Post kf) (Ok 4)
set_option maxRecDepth 100000 in
set_option maxHeartbeats 4000000 in
theorem bk_X7_most {p : Program} {l : Launch} {e : Env} {s : State} {m : MethodId} {args : Array Value} {below : List Frame} {meth : Method} {c : Code} {G : mm_G} {σ0 : mm_S} {Post : Option mm_V → mm_S → Prop} (hC : mm_C p G s m args meth c cX7_most yX7_most.cls) (hr : meth.sig.returnType = some .int) : clo_X7_most (mm_O p l e rm_X7_most s m args below meth c G σ0.2.2 (MQ below (mm_Qc G σ0 rm_X7_most.cells rm_X7_most.slots Post) args s rm_X7_most.cells rm_X7_most.slots (mm_A G))) Post σ0.2.2 := ⟨(by unfold b_X7_most_0; exact (mm_ic hC dX7_most_0 ⟨by decide, by decide⟩ (mm_st_n hC dX7_most_1 rfl (mm_ic hC dX7_most_2 ⟨by decide, by decide⟩ (mm_st_n hC dX7_most_3 rfl (fun _ _ _ h => h)))))), (by unfold b_X7_most_4; exact (mm_ld_n hC dX7_most_4 rfl (mm_bp hC dX7_most_5 ⟨⟨by decide, by decide⟩, by decide⟩ (mm_ic_ge hC (t := 27) dX7_most_7 (by decide) (mm_ld_n hC dX7_most_27 rfl (mm_ir hC ⟨rfl, rfl⟩ hr dX7_most_28)) (mm_ld_n hC dX7_most_10 rfl (mm_la_n hC dX7_most_11 rfl (mm_gr hC cl_6 (by decide) rfl wd_108 dX7_most_12 (mm_ld_n hC dX7_most_15 rfl (mm_ial hC dX7_most_16 (mm_max hC wd_700 wd_701 wd_78 wd_702 ⟨by decide, by decide⟩ dX7_most_17 (mm_st_n hC dX7_most_20 rfl (mm_inc hC dX7_most_21 (mm_goto hC (t := 4) dX7_most_24 (by decide) (fun _ _ _ h => h))))))))))))))⟩
set_option maxRecDepth 100000 in
set_option maxHeartbeats 8000000 in
theorem pv_X7_most : ∀ (av : List mm_V) (σ : mm_S) (Post : Option mm_V → mm_S → Prop), (∀ v ∈ av, mm_iv v) → (∀ a j, mm_in (σ.1 a j)) → σ.2.2 ≤ 348 → T_X7_most av σ Post → ∀ Ok : Nat → mm_K, clo_X7_most Ok Post σ.2.2 → Ok 0 (av ++ List.replicate (3 - av.length) (.inr none)) [] σ := by
  intro av σ Post hav hin hk hT Ok hcl
  obtain ⟨I, R0⟩ := σ
  unfold T_X7_most at hT
  split at hT
  · rename_i a
    obtain ⟨h0, hT⟩ := hT
    have h0 : R0 = mm_R0 := h0
    subst h0
    dsimp only at hT hin
    obtain ⟨c0, c4⟩ := hcl
    obtain ⟨h1, h2, hP⟩ := hT
    have ha := sh_lt h1 (by decide)
    obtain ⟨hs1, hs2⟩ := sh_sheet a ha h1
    have hR : ∀ j, mm_Rs a j = some (a + 1) := fun j => Rs_sheet h1
    have loop : ∀ (d i : Nat) (z : Int), i + d = 21 → (∀ c : Int, 0 ≤ c → (z ≤ c ↔ ∀ j, j < i → I (a + 1) j ≤ c)) → Ok 4 [.inr (some a), .inl z, .inl (i : Int)] [] (I, mm_R0) := by
      intro d
      induction d with
      | zero =>
        intro i z hd hz
        refine c4 _ _ _ ?_
        simp only [b_X7_most_4, i_ld, i_la, i_st, i_sa, i_c, i_inc, i_add, i_sub, i_mul, i_div, i_rem, i_remT, i_xor, i_dup, i_dup2, i_if, i_if2, i_sw, i_gi, i_gr, i_pi, i_pz, i_ial, i_ias, i_len, i_aal, i_gs, i_tal, i_cv, i_cs, i_ir, i_zr, i_vr, i_min, i_max, i_cpy, List.getElem?_cons_zero, List.getElem?_cons_succ, List.set_cons_zero, List.set_cons_succ, List.length_cons, List.length_nil, List.drop_succ_cons, List.drop_zero, List.take_succ_cons, List.take_zero, List.reverse_cons, List.reverse_nil, List.nil_append, List.cons_append, Option.toList_some, Option.toList_none, true_and, and_true, true_or, or_true, Nat.reduceAdd, Nat.reduceLT, Nat.reduceLeDiff, Option.some.injEq, exists_eq_left', Int.toNat_natCast, Nat.reduceSub, List.append_nil, List.replicate_succ, List.replicate_zero]
        refine ⟨fun q => ?_, fun q => by omega⟩
        rw [show i = 21 by omega] at hz
        exact hP z hz
      | succ d ih =>
        intro i z hd hz
        refine c4 _ _ _ ?_
        simp only [b_X7_most_4, i_ld, i_la, i_st, i_sa, i_c, i_inc, i_add, i_sub, i_mul, i_div, i_rem, i_remT, i_xor, i_dup, i_dup2, i_if, i_if2, i_sw, i_gi, i_gr, i_pi, i_pz, i_ial, i_ias, i_len, i_aal, i_gs, i_tal, i_cv, i_cs, i_ir, i_zr, i_vr, i_min, i_max, i_cpy, List.getElem?_cons_zero, List.getElem?_cons_succ, List.set_cons_zero, List.set_cons_succ, List.length_cons, List.length_nil, List.drop_succ_cons, List.drop_zero, List.take_succ_cons, List.take_zero, List.reverse_cons, List.reverse_nil, List.nil_append, List.cons_append, Option.toList_some, Option.toList_none, true_and, and_true, true_or, or_true, Nat.reduceAdd, Nat.reduceLT, Nat.reduceLeDiff, Option.some.injEq, exists_eq_left', Int.toNat_natCast, Nat.reduceSub, List.append_nil, List.replicate_succ, List.replicate_zero, ha, h1, hs1, hs2, hR]
        refine ⟨fun q => by omega, fun q => ⟨⟨by omega, by omega⟩, fun _ => ⟨⟨by omega, by omega⟩, ?_⟩⟩⟩
        refine ih (i + 1) _ (by omega) (fun c hc => ?_)
        have hzc := hz c hc
        constructor
        · intro h j hj
          by_cases e : j = i
          · subst e; split at h <;> omega
          · have : z ≤ c := by split at h <;> omega
            exact hzc.mp this j (by omega)
        · intro h
          have h3 := hzc.mpr (fun j hj => h j (by omega))
          have h4 := h i (by omega)
          split <;> omega
    refine c0 _ _ _ ?_
    simp only [b_X7_most_0, i_ld, i_la, i_st, i_sa, i_c, i_inc, i_add, i_sub, i_mul, i_div, i_rem, i_remT, i_xor, i_dup, i_dup2, i_if, i_if2, i_sw, i_gi, i_gr, i_pi, i_pz, i_ial, i_ias, i_len, i_aal, i_gs, i_tal, i_cv, i_cs, i_ir, i_zr, i_vr, i_min, i_max, i_cpy, List.getElem?_cons_zero, List.getElem?_cons_succ, List.set_cons_zero, List.set_cons_succ, List.length_cons, List.length_nil, List.drop_succ_cons, List.drop_zero, List.take_succ_cons, List.take_zero, List.reverse_cons, List.reverse_nil, List.nil_append, List.cons_append, Option.toList_some, Option.toList_none, true_and, and_true, true_or, or_true, Nat.reduceAdd, Nat.reduceLT, Nat.reduceLeDiff, Option.some.injEq, exists_eq_left', Int.toNat_natCast, Nat.reduceSub, List.append_nil, List.replicate_succ, List.replicate_zero]
    exact loop 21 0 0 (by omega) (fun c hc => ⟨fun _ j hj => by omega, fun _ => hc⟩)
  · exact hT.elim
theorem sp_X7_most : mm_Sp yX7_most cX7_most 3 (some .int) rm_X7_most T_X7_most := mm_meth (by decide) (by
  intro av σ Post h
  unfold T_X7_most at h
  split at h
  · simp
  · exact h.elim) (fun p l e s m args below meth c G av σ Post hC hr _ hav hin hk hT => pv_X7_most av σ Post hav hin hk hT _ (bk_X7_most hC hr))
def T_X7_arcsAt : mm_T := fun av σ Post => match av with
  | [.inr (some a), .inl b, .inl f, .inl v] => σ.2 = mm_R0 ∧ (mm_sh a).1 = 6 ∧ ∃ b' f' v' : Nat, b = b' ∧ f = f' ∧ v = v' ∧ b' < 3 ∧ f' < 4 ∧ v' < 4 ∧ bd (σ.1 (a + 1)) ∧ Post (some (.inl (ac (σ.1 (a + 1)) b' f' v'))) σ
  | _ => False
def rm_X7_arcsAt : Room := { frames := 1, cells := 0, slots := 0, locals := 21 }
def b_X7_arcsAt_0 (Ok : Nat → mm_K) (Post : Option mm_V → mm_S → Prop) (kf : Nat) : mm_K := i_la 0 (i_gr 6 0 (i_c 7 (i_ld 1 (i_mul (i_ld 3 (i_add (i_ial (i_la 0 (i_gr 6 0 (i_c 7 (i_ld 1 (i_mul (i_ld 3 (i_ld 2 (i_cs 2 T_X6_together (i_add (i_ial (i_add (i_ir Post kf)))))))))))))))))))
def clo_X7_arcsAt (Ok : Nat → mm_K) (Post : Option mm_V → mm_S → Prop) (kf : Nat) : Prop := mm_imp (b_X7_arcsAt_0 Ok Post kf) (Ok 0)
set_option maxRecDepth 100000 in
set_option maxHeartbeats 4000000 in
theorem bk_X7_arcsAt {p : Program} {l : Launch} {e : Env} {s : State} {m : MethodId} {args : Array Value} {below : List Frame} {meth : Method} {c : Code} {G : mm_G} {σ0 : mm_S} {Post : Option mm_V → mm_S → Prop} (hC : mm_C p G s m args meth c cX7_arcsAt yX7_arcsAt.cls) (hr : meth.sig.returnType = some .int) : clo_X7_arcsAt (mm_O p l e rm_X7_arcsAt s m args below meth c G σ0.2.2 (MQ below (mm_Qc G σ0 rm_X7_arcsAt.cells rm_X7_arcsAt.slots Post) args s rm_X7_arcsAt.cells rm_X7_arcsAt.slots (mm_A G))) Post σ0.2.2 := (by unfold clo_X7_arcsAt b_X7_arcsAt_0; exact (mm_la_n hC dX7_arcsAt_0 rfl (mm_gr hC cl_6 (by decide) rfl wd_108 dX7_arcsAt_1 (mm_bp hC dX7_arcsAt_4 ⟨⟨by decide, by decide⟩, by decide⟩ (mm_ld_n hC dX7_arcsAt_6 rfl (mm_mul hC dX7_arcsAt_7 (mm_ld_n hC dX7_arcsAt_8 rfl (mm_add hC dX7_arcsAt_9 (mm_ial hC dX7_arcsAt_10 (mm_la_n hC dX7_arcsAt_11 rfl (mm_gr hC cl_6 (by decide) rfl wd_108 dX7_arcsAt_12 (mm_bp hC dX7_arcsAt_15 ⟨⟨by decide, by decide⟩, by decide⟩ (mm_ld_n hC dX7_arcsAt_17 rfl (mm_mul hC dX7_arcsAt_18 (mm_ld_n hC dX7_arcsAt_19 rfl (mm_ld_n hC dX7_arcsAt_20 rfl (mm_cs hC sp_X6_together ⟨rfl, rfl⟩ wd_460 wd_461 wd_462 wd_79 ⟨by decide, by decide, by decide +kernel⟩ ⟨by decide, by decide⟩ dX7_arcsAt_21 (mm_add hC dX7_arcsAt_24 (mm_ial hC dX7_arcsAt_25 (mm_add hC dX7_arcsAt_26 (mm_ir hC ⟨rfl, rfl⟩ hr dX7_arcsAt_27)))))))))))))))))))))
set_option maxRecDepth 100000 in
set_option maxHeartbeats 8000000 in
theorem pv_X7_arcsAt : ∀ (av : List mm_V) (σ : mm_S) (Post : Option mm_V → mm_S → Prop), (∀ v ∈ av, mm_iv v) → (∀ a j, mm_in (σ.1 a j)) → σ.2.2 ≤ 348 → T_X7_arcsAt av σ Post → ∀ Ok : Nat → mm_K, clo_X7_arcsAt Ok Post σ.2.2 → Ok 0 (av ++ List.replicate (4 - av.length) (.inr none)) [] σ := by
  intro av σ Post hav hin hk hT Ok hcl
  obtain ⟨I, R0⟩ := σ
  unfold T_X7_arcsAt at hT
  split at hT
  · rename_i a b f v
    obtain ⟨h0, hT⟩ := hT
    have h0 : R0 = mm_R0 := h0
    subst h0
    dsimp only at hT hin
    have c0 := hcl
    unfold clo_X7_arcsAt at c0
    obtain ⟨h1, b, f, v, rfl, rfl, rfl, h2, h3, h4, h5, hP⟩ := hT
    have ha := sh_lt h1 (by decide)
    obtain ⟨hs1, hs2⟩ := sh_sheet a ha h1
    have hR : ∀ j, mm_Rs a j = some (a + 1) := fun j => Rs_sheet h1
    have ht := tg_b h4 h3
    have e1 : (7 * (b : Int) + (v : Int)).toNat = 7 * b + v := by omega
    have e2 : (7 * (b : Int) + (3 + ((v ^^^ f : Nat) : Int))).toNat = 7 * b + tg v f := by unfold tg; omega
    have hx : v ^^^ f < 2 ^ 2 := Nat.xor_lt_two_pow (by omega) (by omega)
    have b1 := h5 (7 * b + v) (by omega)
    have b2 := h5 (7 * b + tg v f) (by omega)
    refine c0 _ _ _ ?_
    simp only [b_X7_arcsAt_0, i_ld, i_la, i_st, i_sa, i_c, i_inc, i_add, i_sub, i_mul, i_div, i_rem, i_remT, i_xor, i_dup, i_dup2, i_if, i_if2, i_sw, i_gi, i_gr, i_pi, i_pz, i_ial, i_ias, i_len, i_aal, i_gs, i_tal, i_cv, i_cs, i_ir, i_zr, i_vr, i_min, i_max, i_cpy, List.getElem?_cons_zero, List.getElem?_cons_succ, List.set_cons_zero, List.set_cons_succ, List.length_cons, List.length_nil, List.drop_succ_cons, List.drop_zero, List.take_succ_cons, List.take_zero, List.reverse_cons, List.reverse_nil, List.nil_append, List.cons_append, Option.toList_some, Option.toList_none, true_and, and_true, true_or, or_true, Nat.reduceAdd, Nat.reduceLT, Nat.reduceLeDiff, Option.some.injEq, exists_eq_left', Int.toNat_natCast, Nat.reduceSub, List.append_nil, List.replicate_succ, List.replicate_zero, ha, h1, hs1, hs2, hR, e1, e2, T_X6_together]
    refine ⟨⟨by omega, by omega⟩, ⟨by omega, by omega⟩, ⟨by omega, by omega⟩, fun _ => ⟨⟨by omega, by omega⟩, ⟨by omega, by omega, by omega, by omega, ⟨by omega, by omega⟩, ⟨by omega, by omega⟩, fun _ => ⟨⟨by omega, by omega⟩, ?_⟩⟩⟩⟩
    exact hP
  · exact hT.elim
theorem sp_X7_arcsAt : mm_Sp yX7_arcsAt cX7_arcsAt 4 (some .int) rm_X7_arcsAt T_X7_arcsAt := mm_meth (by decide) (by
  intro av σ Post h
  unfold T_X7_arcsAt at h
  split at h
  · simp
  · exact h.elim) (fun p l e s m args below meth c G av σ Post hC hr _ hav hin hk hT => pv_X7_arcsAt av σ Post hav hin hk hT _ (bk_X7_arcsAt hC hr))
def T_X7_arcsOn : mm_T := fun av σ Post => match av with
  | [.inr (some a), .inl b, .inl f] => σ.2 = mm_R0 ∧ (mm_sh a).1 = 6 ∧ ∃ b' f' : Nat, b = b' ∧ f = f' ∧ b' < 3 ∧ f' < 4 ∧ bd (σ.1 (a + 1)) ∧ Post (some (.inl (aw (σ.1 (a + 1)) b' f'))) σ
  | _ => False
def rm_X7_arcsOn : Room := { frames := 2, cells := 0, slots := 0, locals := 44 }
def b_X7_arcsOn_0 (Ok : Nat → mm_K) (Post : Option mm_V → mm_S → Prop) (kf : Nat) : mm_K := i_c 0 (i_st 3 (i_c 0 (i_st 4 (Ok 5))))
def b_X7_arcsOn_5 (Ok : Nat → mm_K) (Post : Option mm_V → mm_S → Prop) (kf : Nat) : mm_K := i_ld 4 (i_c 4 (i_if2 (fun x y => y ≤ x) (i_ld 3 (i_ir Post kf)) (i_ld 3 (i_ld 4 (i_ld 2 (i_if2 (fun x y => ¬ x = y) (i_la 0 (i_ld 1 (i_ld 2 (i_ld 4 (i_cv 6 3 T_X7_arcsAt (Ok 30)))))) (i_c 0 (Ok 30))))))))
def b_X7_arcsOn_30 (Ok : Nat → mm_K) (Post : Option mm_V → mm_S → Prop) (kf : Nat) : mm_K := i_add (i_st 3 (i_inc 4 1 (Ok 5)))
def clo_X7_arcsOn (Ok : Nat → mm_K) (Post : Option mm_V → mm_S → Prop) (kf : Nat) : Prop := mm_imp (b_X7_arcsOn_0 Ok Post kf) (Ok 0) ∧ mm_imp (b_X7_arcsOn_5 Ok Post kf) (Ok 5) ∧ mm_imp (b_X7_arcsOn_30 Ok Post kf) (Ok 30)
set_option maxRecDepth 100000 in
set_option maxHeartbeats 4000000 in
theorem bk_X7_arcsOn {p : Program} {l : Launch} {e : Env} {s : State} {m : MethodId} {args : Array Value} {below : List Frame} {meth : Method} {c : Code} {G : mm_G} {σ0 : mm_S} {Post : Option mm_V → mm_S → Prop} (hC : mm_C p G s m args meth c cX7_arcsOn yX7_arcsOn.cls) (hr : meth.sig.returnType = some .int) : clo_X7_arcsOn (mm_O p l e rm_X7_arcsOn s m args below meth c G σ0.2.2 (MQ below (mm_Qc G σ0 rm_X7_arcsOn.cells rm_X7_arcsOn.slots Post) args s rm_X7_arcsOn.cells rm_X7_arcsOn.slots (mm_A G))) Post σ0.2.2 := ⟨(by unfold b_X7_arcsOn_0; exact (mm_ic hC dX7_arcsOn_0 ⟨by decide, by decide⟩ (mm_st_n hC dX7_arcsOn_1 rfl (mm_ic hC dX7_arcsOn_2 ⟨by decide, by decide⟩ (mm_st hC dX7_arcsOn_3 (fun _ _ _ h => h)))))), (by unfold b_X7_arcsOn_5; exact (mm_ld hC dX7_arcsOn_5 (mm_ic hC dX7_arcsOn_7 ⟨by decide, by decide⟩ (mm_ic_ge hC (t := 38) dX7_arcsOn_8 (by decide) (mm_ld_n hC dX7_arcsOn_38 rfl (mm_ir hC ⟨rfl, rfl⟩ hr dX7_arcsOn_39)) (mm_ld_n hC dX7_arcsOn_11 rfl (mm_ld hC dX7_arcsOn_12 (mm_ld_n hC dX7_arcsOn_14 rfl (mm_ic_ne hC (t := 22) dX7_arcsOn_15 (by decide) (mm_la_n hC dX7_arcsOn_22 rfl (mm_ld_n hC dX7_arcsOn_23 rfl (mm_ld_n hC dX7_arcsOn_24 rfl (mm_ld hC dX7_arcsOn_25 (mm_cv hC sp_X7_arcsAt ⟨rfl, rfl⟩ cl_6 wd_481 wd_457 wd_458 wd_459 wd_68 ⟨by decide, by decide, by decide +kernel⟩ ⟨by decide, by decide⟩ dX7_arcsOn_27 (fun _ _ _ h => h)))))) (mm_ic hC dX7_arcsOn_18 ⟨by decide, by decide⟩ (mm_goto hC (t := 30) dX7_arcsOn_19 (by decide) (fun _ _ _ h => h))))))))))), (by unfold b_X7_arcsOn_30; exact (mm_add hC dX7_arcsOn_30 (mm_st_n hC dX7_arcsOn_31 rfl (mm_inc hC dX7_arcsOn_32 (mm_goto hC (t := 5) dX7_arcsOn_35 (by decide) (fun _ _ _ h => h))))))⟩
set_option maxRecDepth 100000 in
set_option maxHeartbeats 8000000 in
theorem pv_X7_arcsOn : ∀ (av : List mm_V) (σ : mm_S) (Post : Option mm_V → mm_S → Prop), (∀ v ∈ av, mm_iv v) → (∀ a j, mm_in (σ.1 a j)) → σ.2.2 ≤ 348 → T_X7_arcsOn av σ Post → ∀ Ok : Nat → mm_K, clo_X7_arcsOn Ok Post σ.2.2 → Ok 0 (av ++ List.replicate (5 - av.length) (.inr none)) [] σ := by
  intro av σ Post hav hin hk hT Ok hcl
  obtain ⟨I, R0⟩ := σ
  unfold T_X7_arcsOn at hT
  split at hT
  · rename_i a b f
    obtain ⟨h0, hT⟩ := hT
    have h0 : R0 = mm_R0 := h0
    subst h0
    dsimp only at hT hin
    obtain ⟨c0, c5, c30⟩ := hcl
    obtain ⟨h1, b, f, rfl, rfl, h2, h3, h5, hP⟩ := hT
    have ha := sh_lt h1 (by decide)
    have loop : ∀ (d i : Nat), i + d = 4 → Ok 5 [.inr (some a), .inl (b : Int), .inl (f : Int), .inl (sm (fun v => if v = f then 0 else ac (I (a + 1)) b f v) i), .inl (i : Int)] [] (I, mm_R0) := by
      intro d
      induction d with
      | zero =>
        intro i hd
        refine c5 _ _ _ ?_
        simp only [b_X7_arcsOn_5, i_ld, i_la, i_st, i_sa, i_c, i_inc, i_add, i_sub, i_mul, i_div, i_rem, i_remT, i_xor, i_dup, i_dup2, i_if, i_if2, i_sw, i_gi, i_gr, i_pi, i_pz, i_ial, i_ias, i_len, i_aal, i_gs, i_tal, i_cv, i_cs, i_ir, i_zr, i_vr, i_min, i_max, i_cpy, List.getElem?_cons_zero, List.getElem?_cons_succ, List.set_cons_zero, List.set_cons_succ, List.length_cons, List.length_nil, List.drop_succ_cons, List.drop_zero, List.take_succ_cons, List.take_zero, List.reverse_cons, List.reverse_nil, List.nil_append, List.cons_append, Option.toList_some, Option.toList_none, true_and, and_true, true_or, or_true, Nat.reduceAdd, Nat.reduceLT, Nat.reduceLeDiff, Option.some.injEq, exists_eq_left', Int.toNat_natCast, Nat.reduceSub, List.append_nil, List.replicate_succ, List.replicate_zero]
        refine ⟨fun q => ?_, fun q => by omega⟩
        rw [show i = 4 by omega]
        exact hP
      | succ d ih =>
        intro i hd
        have hb := sm_bound (f := fun v => if v = f then 0 else ac (I (a + 1)) b f v) (n := i) (c := 2000) (fun k hk => by
          split
          · omega
          · exact ac_b h5 h2 h3 (by omega))
        have hac := ac_b h5 h2 h3 (v := i) (by omega)
        have hs : sm (fun v => if v = f then 0 else ac (I (a + 1)) b f v) (i + 1) = sm (fun v => if v = f then 0 else ac (I (a + 1)) b f v) i + if i = f then 0 else ac (I (a + 1)) b f i := rfl
        refine c5 _ _ _ ?_
        simp only [b_X7_arcsOn_5, i_ld, i_la, i_st, i_sa, i_c, i_inc, i_add, i_sub, i_mul, i_div, i_rem, i_remT, i_xor, i_dup, i_dup2, i_if, i_if2, i_sw, i_gi, i_gr, i_pi, i_pz, i_ial, i_ias, i_len, i_aal, i_gs, i_tal, i_cv, i_cs, i_ir, i_zr, i_vr, i_min, i_max, i_cpy, List.getElem?_cons_zero, List.getElem?_cons_succ, List.set_cons_zero, List.set_cons_succ, List.length_cons, List.length_nil, List.drop_succ_cons, List.drop_zero, List.take_succ_cons, List.take_zero, List.reverse_cons, List.reverse_nil, List.nil_append, List.cons_append, Option.toList_some, Option.toList_none, true_and, and_true, true_or, or_true, Nat.reduceAdd, Nat.reduceLT, Nat.reduceLeDiff, Option.some.injEq, exists_eq_left', Int.toNat_natCast, Nat.reduceSub, List.append_nil, List.replicate_succ, List.replicate_zero, ha, h1, T_X7_arcsAt]
        refine ⟨fun q => by omega, fun q => ⟨fun e => ⟨b, f, i, rfl, rfl, rfl, h2, h3, by omega, h5, ?_⟩, fun e => ?_⟩⟩
        · refine c30 _ _ _ ?_
          simp only [b_X7_arcsOn_30, i_ld, i_la, i_st, i_sa, i_c, i_inc, i_add, i_sub, i_mul, i_div, i_rem, i_remT, i_xor, i_dup, i_dup2, i_if, i_if2, i_sw, i_gi, i_gr, i_pi, i_pz, i_ial, i_ias, i_len, i_aal, i_gs, i_tal, i_cv, i_cs, i_ir, i_zr, i_vr, i_min, i_max, i_cpy, List.getElem?_cons_zero, List.getElem?_cons_succ, List.set_cons_zero, List.set_cons_succ, List.length_cons, List.length_nil, List.drop_succ_cons, List.drop_zero, List.take_succ_cons, List.take_zero, List.reverse_cons, List.reverse_nil, List.nil_append, List.cons_append, Option.toList_some, Option.toList_none, true_and, and_true, true_or, or_true, Nat.reduceAdd, Nat.reduceLT, Nat.reduceLeDiff, Option.some.injEq, exists_eq_left', Int.toNat_natCast, Nat.reduceSub, List.append_nil, List.replicate_succ, List.replicate_zero]
          refine ⟨⟨by omega, by omega⟩, ⟨by omega, by omega⟩, ?_⟩
          have := ih (i + 1) (by omega)
          rw [hs, if_neg (by omega)] at this
          exact this
        · refine c30 _ _ _ ?_
          simp only [b_X7_arcsOn_30, i_ld, i_la, i_st, i_sa, i_c, i_inc, i_add, i_sub, i_mul, i_div, i_rem, i_remT, i_xor, i_dup, i_dup2, i_if, i_if2, i_sw, i_gi, i_gr, i_pi, i_pz, i_ial, i_ias, i_len, i_aal, i_gs, i_tal, i_cv, i_cs, i_ir, i_zr, i_vr, i_min, i_max, i_cpy, List.getElem?_cons_zero, List.getElem?_cons_succ, List.set_cons_zero, List.set_cons_succ, List.length_cons, List.length_nil, List.drop_succ_cons, List.drop_zero, List.take_succ_cons, List.take_zero, List.reverse_cons, List.reverse_nil, List.nil_append, List.cons_append, Option.toList_some, Option.toList_none, true_and, and_true, true_or, or_true, Nat.reduceAdd, Nat.reduceLT, Nat.reduceLeDiff, Option.some.injEq, exists_eq_left', Int.toNat_natCast, Nat.reduceSub, List.append_nil, List.replicate_succ, List.replicate_zero]
          refine ⟨⟨by omega, by omega⟩, ⟨by omega, by omega⟩, ?_⟩
          have := ih (i + 1) (by omega)
          rw [hs, if_pos (by omega)] at this
          exact this
    refine c0 _ _ _ ?_
    simp only [b_X7_arcsOn_0, i_ld, i_la, i_st, i_sa, i_c, i_inc, i_add, i_sub, i_mul, i_div, i_rem, i_remT, i_xor, i_dup, i_dup2, i_if, i_if2, i_sw, i_gi, i_gr, i_pi, i_pz, i_ial, i_ias, i_len, i_aal, i_gs, i_tal, i_cv, i_cs, i_ir, i_zr, i_vr, i_min, i_max, i_cpy, List.getElem?_cons_zero, List.getElem?_cons_succ, List.set_cons_zero, List.set_cons_succ, List.length_cons, List.length_nil, List.drop_succ_cons, List.drop_zero, List.take_succ_cons, List.take_zero, List.reverse_cons, List.reverse_nil, List.nil_append, List.cons_append, Option.toList_some, Option.toList_none, true_and, and_true, true_or, or_true, Nat.reduceAdd, Nat.reduceLT, Nat.reduceLeDiff, Option.some.injEq, exists_eq_left', Int.toNat_natCast, Nat.reduceSub, List.append_nil, List.replicate_succ, List.replicate_zero]
    exact loop 4 0 (by omega)
  · exact hT.elim
theorem sp_X7_arcsOn : mm_Sp yX7_arcsOn cX7_arcsOn 5 (some .int) rm_X7_arcsOn T_X7_arcsOn := mm_meth (by decide) (by
  intro av σ Post h
  unfold T_X7_arcsOn at h
  split at h
  · simp
  · exact h.elim) (fun p l e s m args below meth c G av σ Post hC hr _ hav hin hk hT => pv_X7_arcsOn av σ Post hav hin hk hT _ (bk_X7_arcsOn hC hr))
theorem elo_b : ∀ e, e < 6 → elo e < 4 ∧ ehi e < 4 ∧ elo e < ehi e ∧ mm_tb 2 e = (elo e : Int) ∧ mm_tb 3 e = (ehi e : Int) := by decide +kernel
def T_X7_weightOn : mm_T := fun av σ Post => match av with
  | [.inr (some a), .inl b, .inl e] => σ.2 = mm_R0 ∧ (mm_sh a).1 = 6 ∧ ∃ b' e' : Nat, b = b' ∧ e = e' ∧ b' < 3 ∧ e' < 6 ∧ bd (σ.1 (a + 1)) ∧ Post (some (.inl (wt (σ.1 (a + 1)) b' e'))) σ
  | _ => False
def rm_X7_weightOn : Room := { frames := 1, cells := 0, slots := 0, locals := 21 }
def b_X7_weightOn_0 (Ok : Nat → mm_K) (Post : Option mm_V → mm_S → Prop) (kf : Nat) : mm_K := i_gs 2 (i_ld 2 (i_tal 2 (i_st 3 (i_gs 3 (i_ld 2 (i_tal 3 (i_st 4 (i_la 0 (i_gr 6 0 (i_c 7 (i_ld 1 (i_mul (i_ld 3 (i_add (i_ial (i_la 0 (i_gr 6 0 (i_c 7 (i_ld 1 (i_mul (i_ld 4 (i_add (i_ial (i_add (i_st 5 (i_c 4 (i_st 6 (Ok 42))))))))))))))))))))))))))))
def b_X7_weightOn_42 (Ok : Nat → mm_K) (Post : Option mm_V → mm_S → Prop) (kf : Nat) : mm_K := i_ld 6 (i_c 7 (i_if2 (fun x y => y ≤ x) (i_ld 5 (i_ir Post kf)) (i_ld 5 (i_ld 6 (i_ld 3 (i_ld 4 (i_cs 2 T_X6_together (i_if2 (fun x y => ¬ x = y) (i_la 0 (i_gr 6 0 (i_c 7 (i_ld 1 (i_mul (i_ld 6 (i_add (i_ial (Ok 78))))))))) (i_c 0 (Ok 78))))))))))
def b_X7_weightOn_78 (Ok : Nat → mm_K) (Post : Option mm_V → mm_S → Prop) (kf : Nat) : mm_K := i_add (i_st 5 (i_inc 6 1 (Ok 42)))
def clo_X7_weightOn (Ok : Nat → mm_K) (Post : Option mm_V → mm_S → Prop) (kf : Nat) : Prop := mm_imp (b_X7_weightOn_0 Ok Post kf) (Ok 0) ∧ mm_imp (b_X7_weightOn_42 Ok Post kf) (Ok 42) ∧ mm_imp (b_X7_weightOn_78 Ok Post kf) (Ok 78)
set_option maxRecDepth 100000 in
set_option maxHeartbeats 4000000 in
theorem bk_X7_weightOn {p : Program} {l : Launch} {e : Env} {s : State} {m : MethodId} {args : Array Value} {below : List Frame} {meth : Method} {c : Code} {G : mm_G} {σ0 : mm_S} {Post : Option mm_V → mm_S → Prop} (hC : mm_C p G s m args meth c cX7_weightOn yX7_weightOn.cls) (hr : meth.sig.returnType = some .int) : clo_X7_weightOn (mm_O p l e rm_X7_weightOn s m args below meth c G σ0.2.2 (MQ below (mm_Qc G σ0 rm_X7_weightOn.cells rm_X7_weightOn.slots Post) args s rm_X7_weightOn.cells rm_X7_weightOn.slots (mm_A G))) Post σ0.2.2 := ⟨(by unfold b_X7_weightOn_0; exact (mm_gs hC (by decide) wd_494 dX7_weightOn_0 (mm_ld_n hC dX7_weightOn_3 rfl (mm_tal hC (by decide) (mm_tbin _) dX7_weightOn_4 (mm_st_n hC dX7_weightOn_5 rfl (mm_gs hC (by decide) wd_495 dX7_weightOn_6 (mm_ld_n hC dX7_weightOn_9 rfl (mm_tal hC (by decide) (mm_tbin _) dX7_weightOn_10 (mm_st hC dX7_weightOn_11 (mm_la_n hC dX7_weightOn_13 rfl (mm_gr hC cl_6 (by decide) rfl wd_108 dX7_weightOn_14 (mm_bp hC dX7_weightOn_17 ⟨⟨by decide, by decide⟩, by decide⟩ (mm_ld_n hC dX7_weightOn_19 rfl (mm_mul hC dX7_weightOn_20 (mm_ld_n hC dX7_weightOn_21 rfl (mm_add hC dX7_weightOn_22 (mm_ial hC dX7_weightOn_23 (mm_la_n hC dX7_weightOn_24 rfl (mm_gr hC cl_6 (by decide) rfl wd_108 dX7_weightOn_25 (mm_bp hC dX7_weightOn_28 ⟨⟨by decide, by decide⟩, by decide⟩ (mm_ld_n hC dX7_weightOn_30 rfl (mm_mul hC dX7_weightOn_31 (mm_ld hC dX7_weightOn_32 (mm_add hC dX7_weightOn_34 (mm_ial hC dX7_weightOn_35 (mm_add hC dX7_weightOn_36 (mm_st hC dX7_weightOn_37 (mm_ic hC dX7_weightOn_39 ⟨by decide, by decide⟩ (mm_st hC dX7_weightOn_40 (fun _ _ _ h => h)))))))))))))))))))))))))))))), (by unfold b_X7_weightOn_42; exact (mm_ld hC dX7_weightOn_42 (mm_bp hC dX7_weightOn_44 ⟨⟨by decide, by decide⟩, by decide⟩ (mm_ic_ge hC (t := 87) dX7_weightOn_46 (by decide) (mm_ld hC dX7_weightOn_87 (mm_ir hC ⟨rfl, rfl⟩ hr dX7_weightOn_89)) (mm_ld hC dX7_weightOn_49 (mm_ld hC dX7_weightOn_51 (mm_ld_n hC dX7_weightOn_53 rfl (mm_ld hC dX7_weightOn_54 (mm_cs hC sp_X6_together ⟨rfl, rfl⟩ wd_460 wd_461 wd_462 wd_79 ⟨by decide, by decide, by decide +kernel⟩ ⟨by decide, by decide⟩ dX7_weightOn_56 (mm_ic_ne hC (t := 66) dX7_weightOn_59 (by decide) (mm_la_n hC dX7_weightOn_66 rfl (mm_gr hC cl_6 (by decide) rfl wd_108 dX7_weightOn_67 (mm_bp hC dX7_weightOn_70 ⟨⟨by decide, by decide⟩, by decide⟩ (mm_ld_n hC dX7_weightOn_72 rfl (mm_mul hC dX7_weightOn_73 (mm_ld hC dX7_weightOn_74 (mm_add hC dX7_weightOn_76 (mm_ial hC dX7_weightOn_77 (fun _ _ _ h => h))))))))) (mm_ic hC dX7_weightOn_62 ⟨by decide, by decide⟩ (mm_goto hC (t := 78) dX7_weightOn_63 (by decide) (fun _ _ _ h => h))))))))))))), (by unfold b_X7_weightOn_78; exact (mm_add hC dX7_weightOn_78 (mm_st hC dX7_weightOn_79 (mm_inc hC dX7_weightOn_81 (mm_goto hC (t := 42) dX7_weightOn_84 (by decide) (fun _ _ _ h => h))))))⟩
set_option maxRecDepth 100000 in
set_option maxHeartbeats 8000000 in
theorem pv_X7_weightOn : ∀ (av : List mm_V) (σ : mm_S) (Post : Option mm_V → mm_S → Prop), (∀ v ∈ av, mm_iv v) → (∀ a j, mm_in (σ.1 a j)) → σ.2.2 ≤ 348 → T_X7_weightOn av σ Post → ∀ Ok : Nat → mm_K, clo_X7_weightOn Ok Post σ.2.2 → Ok 0 (av ++ List.replicate (7 - av.length) (.inr none)) [] σ := by
  intro av σ Post hav hin hk hT Ok hcl
  obtain ⟨I, R0⟩ := σ
  unfold T_X7_weightOn at hT
  split at hT
  · rename_i a b e
    obtain ⟨h0, hT⟩ := hT
    have h0 : R0 = mm_R0 := h0
    subst h0
    dsimp only at hT hin
    obtain ⟨c0, c42, c78⟩ := hcl
    obtain ⟨h1, b, e, rfl, rfl, h2, h3, h5, hP⟩ := hT
    have ha := sh_lt h1 (by decide)
    obtain ⟨hs1, hs2⟩ := sh_sheet a ha h1
    have hR : ∀ j, mm_Rs a j = some (a + 1) := fun j => Rs_sheet h1
    obtain ⟨l1, l2, l3, l4, l5⟩ := elo_b e h3
    obtain ⟨c, hc⟩ : ∃ c, elo e = c := ⟨_, rfl⟩
    obtain ⟨d, hd⟩ : ∃ d, ehi e = d := ⟨_, rfl⟩
    rw [hc] at l1 l3 l4
    rw [hd] at l2 l3 l5
    have ht := tg_b l1 l2
    have hx : c ^^^ d < 2 ^ 2 := Nat.xor_lt_two_pow (by omega) (by omega)
    have e1 : (7 * (b : Int) + (c : Int)).toNat = 7 * b + c := by omega
    have e2 : (7 * (b : Int) + (d : Int)).toNat = 7 * b + d := by omega
    have b1 := h5 (7 * b + c) (by omega)
    have b2 := h5 (7 * b + d) (by omega)
    obtain ⟨g, hg⟩ : ∃ g : Nat → Int, g = fun t => if 4 + t = tg c d then 0 else I (a + 1) (7 * b + (4 + t)) := ⟨_, rfl⟩
    have hwt : wt (I (a + 1)) b e = I (a + 1) (7 * b + c) + I (a + 1) (7 * b + d) + sm g 3 := by unfold wt; rw [hc, hd, hg]
    have hgb : ∀ k, k < 3 → 0 ≤ g k ∧ g k ≤ 1000 := fun k hk => by
      rw [hg]
      dsimp only
      split
      · omega
      · exact h5 _ (by omega)
    have loop : ∀ (n t : Nat), t + n = 3 → Ok 42 [.inr (some a), .inl (b : Int), .inl (e : Int), .inl (c : Int), .inl (d : Int), .inl (I (a + 1) (7 * b + c) + I (a + 1) (7 * b + d) + sm g t), .inl (4 + (t : Int))] [] (I, mm_R0) := by
      intro n
      induction n with
      | zero =>
        intro t hn
        refine c42 _ _ _ ?_
        simp only [b_X7_weightOn_42, i_ld, i_la, i_st, i_sa, i_c, i_inc, i_add, i_sub, i_mul, i_div, i_rem, i_remT, i_xor, i_dup, i_dup2, i_if, i_if2, i_sw, i_gi, i_gr, i_pi, i_pz, i_ial, i_ias, i_len, i_aal, i_gs, i_tal, i_cv, i_cs, i_ir, i_zr, i_vr, i_min, i_max, i_cpy, List.getElem?_cons_zero, List.getElem?_cons_succ, List.set_cons_zero, List.set_cons_succ, List.length_cons, List.length_nil, List.drop_succ_cons, List.drop_zero, List.take_succ_cons, List.take_zero, List.reverse_cons, List.reverse_nil, List.nil_append, List.cons_append, Option.toList_some, Option.toList_none, true_and, and_true, true_or, or_true, Nat.reduceAdd, Nat.reduceLT, Nat.reduceLeDiff, Option.some.injEq, exists_eq_left', Int.toNat_natCast, Nat.reduceSub, List.append_nil, List.replicate_succ, List.replicate_zero]
        refine ⟨fun q => ?_, fun q => by omega⟩
        rw [show t = 3 by omega, ← hwt]
        exact hP
      | succ n ih =>
        intro t hn
        have hsb := sm_bound (f := g) (n := t) (c := 1000) (fun k hk => hgb k (by omega))
        have hgt := hgb t (by omega)
        have hs : sm g (t + 1) = sm g t + g t := rfl
        have hgt2 : g t = if 4 + t = tg c d then 0 else I (a + 1) (7 * b + (4 + t)) := by rw [hg]
        have e3 : (7 * (b : Int) + (4 + (t : Int))).toNat = 7 * b + (4 + t) := by omega
        have h5t := h5 (7 * b + (4 + t)) (by omega)
        have go : Ok 42 [.inr (some a), .inl (b : Int), .inl (e : Int), .inl (c : Int), .inl (d : Int), .inl (I (a + 1) (7 * b + c) + I (a + 1) (7 * b + d) + sm g t + g t), .inl (4 + (t : Int) + 1)] [] (I, mm_R0) := by
          have := ih (t + 1) (by omega)
          rw [hs, ← Int.add_assoc, show (4 + ((t + 1 : Nat) : Int)) = 4 + (t : Int) + 1 by omega] at this
          exact this
        refine c42 _ _ _ ?_
        simp only [b_X7_weightOn_42, i_ld, i_la, i_st, i_sa, i_c, i_inc, i_add, i_sub, i_mul, i_div, i_rem, i_remT, i_xor, i_dup, i_dup2, i_if, i_if2, i_sw, i_gi, i_gr, i_pi, i_pz, i_ial, i_ias, i_len, i_aal, i_gs, i_tal, i_cv, i_cs, i_ir, i_zr, i_vr, i_min, i_max, i_cpy, List.getElem?_cons_zero, List.getElem?_cons_succ, List.set_cons_zero, List.set_cons_succ, List.length_cons, List.length_nil, List.drop_succ_cons, List.drop_zero, List.take_succ_cons, List.take_zero, List.reverse_cons, List.reverse_nil, List.nil_append, List.cons_append, Option.toList_some, Option.toList_none, true_and, and_true, true_or, or_true, Nat.reduceAdd, Nat.reduceLT, Nat.reduceLeDiff, Option.some.injEq, exists_eq_left', Int.toNat_natCast, Nat.reduceSub, List.append_nil, List.replicate_succ, List.replicate_zero, ha, h1, hs1, hs2, hR, T_X6_together, e3]
        refine ⟨fun q => by omega, fun q => ⟨by omega, by omega, by omega, by omega, fun z => ⟨⟨by omega, by omega⟩, ⟨by omega, by omega⟩, ⟨by omega, by omega⟩, fun _ => ?_⟩, fun z => ?_⟩⟩
        · refine c78 _ _ _ ?_
          simp only [b_X7_weightOn_78, i_ld, i_la, i_st, i_sa, i_c, i_inc, i_add, i_sub, i_mul, i_div, i_rem, i_remT, i_xor, i_dup, i_dup2, i_if, i_if2, i_sw, i_gi, i_gr, i_pi, i_pz, i_ial, i_ias, i_len, i_aal, i_gs, i_tal, i_cv, i_cs, i_ir, i_zr, i_vr, i_min, i_max, i_cpy, List.getElem?_cons_zero, List.getElem?_cons_succ, List.set_cons_zero, List.set_cons_succ, List.length_cons, List.length_nil, List.drop_succ_cons, List.drop_zero, List.take_succ_cons, List.take_zero, List.reverse_cons, List.reverse_nil, List.nil_append, List.cons_append, Option.toList_some, Option.toList_none, true_and, and_true, true_or, or_true, Nat.reduceAdd, Nat.reduceLT, Nat.reduceLeDiff, Option.some.injEq, exists_eq_left', Int.toNat_natCast, Nat.reduceSub, List.append_nil, List.replicate_succ, List.replicate_zero]
          refine ⟨⟨by omega, by omega⟩, ⟨by omega, by omega⟩, ?_⟩
          rw [hgt2, if_neg (by unfold tg; omega)] at go
          exact go
        · refine c78 _ _ _ ?_
          simp only [b_X7_weightOn_78, i_ld, i_la, i_st, i_sa, i_c, i_inc, i_add, i_sub, i_mul, i_div, i_rem, i_remT, i_xor, i_dup, i_dup2, i_if, i_if2, i_sw, i_gi, i_gr, i_pi, i_pz, i_ial, i_ias, i_len, i_aal, i_gs, i_tal, i_cv, i_cs, i_ir, i_zr, i_vr, i_min, i_max, i_cpy, List.getElem?_cons_zero, List.getElem?_cons_succ, List.set_cons_zero, List.set_cons_succ, List.length_cons, List.length_nil, List.drop_succ_cons, List.drop_zero, List.take_succ_cons, List.take_zero, List.reverse_cons, List.reverse_nil, List.nil_append, List.cons_append, Option.toList_some, Option.toList_none, true_and, and_true, true_or, or_true, Nat.reduceAdd, Nat.reduceLT, Nat.reduceLeDiff, Option.some.injEq, exists_eq_left', Int.toNat_natCast, Nat.reduceSub, List.append_nil, List.replicate_succ, List.replicate_zero]
          refine ⟨⟨by omega, by omega⟩, ⟨by omega, by omega⟩, ?_⟩
          rw [hgt2, if_pos (by unfold tg; omega)] at go
          exact go
    have f2 : ∀ t, t < 5 → (mm_tl 2).length = 6 ∧ (mm_tl 3).length = 6 := fun _ _ => ⟨rfl, rfl⟩
    refine c0 _ _ _ ?_
    simp only [b_X7_weightOn_0, i_ld, i_la, i_st, i_sa, i_c, i_inc, i_add, i_sub, i_mul, i_div, i_rem, i_remT, i_xor, i_dup, i_dup2, i_if, i_if2, i_sw, i_gi, i_gr, i_pi, i_pz, i_ial, i_ias, i_len, i_aal, i_gs, i_tal, i_cv, i_cs, i_ir, i_zr, i_vr, i_min, i_max, i_cpy, List.getElem?_cons_zero, List.getElem?_cons_succ, List.set_cons_zero, List.set_cons_succ, List.length_cons, List.length_nil, List.drop_succ_cons, List.drop_zero, List.take_succ_cons, List.take_zero, List.reverse_cons, List.reverse_nil, List.nil_append, List.cons_append, Option.toList_some, Option.toList_none, true_and, and_true, true_or, or_true, Nat.reduceAdd, Nat.reduceLT, Nat.reduceLeDiff, Option.some.injEq, exists_eq_left', Int.toNat_natCast, Nat.reduceSub, List.append_nil, List.replicate_succ, List.replicate_zero, ha, h1, hs1, hs2, hR, l4, l5, e1, e2]
    refine ⟨⟨by omega, by have := (f2 0 (by omega)).1; omega⟩, ⟨by omega, by have := (f2 0 (by omega)).2; omega⟩, ⟨by omega, by omega⟩, ⟨by omega, by omega⟩, ⟨by omega, by omega⟩, fun _ => ⟨⟨by omega, by omega⟩, ⟨by omega, by omega⟩, ⟨by omega, by omega⟩, fun _ => ⟨⟨by omega, by omega⟩, ?_⟩⟩⟩
    have := loop 3 0 (by omega)
    simpa [sm] using this
  · exact hT.elim
theorem sp_X7_weightOn : mm_Sp yX7_weightOn cX7_weightOn 7 (some .int) rm_X7_weightOn T_X7_weightOn := mm_meth (by decide) (by
  intro av σ Post h
  unfold T_X7_weightOn at h
  split at h
  · simp
  · exact h.elim) (fun p l e s m args below meth c G av σ Post hC hr _ hav hin hk hT => pv_X7_weightOn av σ Post hav hin hk hT _ (bk_X7_weightOn hC hr))
def T_X7_crosses : mm_T := fun av σ Post => match av with
  | [.inr (some a)] => σ.2 = mm_R0 ∧ (mm_sh a).1 = 6 ∧ ∀ z : Int, bz z (crs (σ.1 (a + 1)) 3) → Post (some (.inl z)) σ
  | _ => False
def rm_X7_crosses : Room := { frames := 0, cells := 0, slots := 0, locals := 0 }
def b_X7_crosses_0 (Ok : Nat → mm_K) (Post : Option mm_V → mm_S → Prop) (kf : Nat) : mm_K := i_c 0 (i_st 1 (Ok 2))
def b_X7_crosses_2 (Ok : Nat → mm_K) (Post : Option mm_V → mm_S → Prop) (kf : Nat) : mm_K := i_ld 1 (i_c 3 (i_if2 (fun x y => y ≤ x) (i_c 0 (i_zr Post kf)) (i_c 0 (i_st 2 (i_c 4 (i_st 3 (Ok 11)))))))
def b_X7_crosses_11 (Ok : Nat → mm_K) (Post : Option mm_V → mm_S → Prop) (kf : Nat) : mm_K := i_ld 3 (i_c 7 (i_if2 (fun x y => y ≤ x) (i_ld 2 (i_c 1 (i_if2 (fun x y => x ≤ y) (i_inc 1 1 (Ok 2)) (i_c 1 (i_zr Post kf))))) (i_ld 2 (i_la 0 (i_gr 6 0 (i_c 7 (i_ld 1 (i_mul (i_ld 3 (i_add (i_ial (i_if (fun x => x ≤ 0) (i_c 0 (Ok 37)) (i_c 1 (Ok 37))))))))))))))
def b_X7_crosses_37 (Ok : Nat → mm_K) (Post : Option mm_V → mm_S → Prop) (kf : Nat) : mm_K := i_add (i_st 2 (i_inc 3 1 (Ok 11)))
def clo_X7_crosses (Ok : Nat → mm_K) (Post : Option mm_V → mm_S → Prop) (kf : Nat) : Prop := mm_imp (b_X7_crosses_0 Ok Post kf) (Ok 0) ∧ mm_imp (b_X7_crosses_2 Ok Post kf) (Ok 2) ∧ mm_imp (b_X7_crosses_11 Ok Post kf) (Ok 11) ∧ mm_imp (b_X7_crosses_37 Ok Post kf) (Ok 37)
set_option maxRecDepth 100000 in
set_option maxHeartbeats 4000000 in
theorem bk_X7_crosses {p : Program} {l : Launch} {e : Env} {s : State} {m : MethodId} {args : Array Value} {below : List Frame} {meth : Method} {c : Code} {G : mm_G} {σ0 : mm_S} {Post : Option mm_V → mm_S → Prop} (hC : mm_C p G s m args meth c cX7_crosses yX7_crosses.cls) (hr : meth.sig.returnType = some .boolean) : clo_X7_crosses (mm_O p l e rm_X7_crosses s m args below meth c G σ0.2.2 (MQ below (mm_Qc G σ0 rm_X7_crosses.cells rm_X7_crosses.slots Post) args s rm_X7_crosses.cells rm_X7_crosses.slots (mm_A G))) Post σ0.2.2 := ⟨(by unfold b_X7_crosses_0; exact (mm_ic hC dX7_crosses_0 ⟨by decide, by decide⟩ (mm_st_n hC dX7_crosses_1 rfl (fun _ _ _ h => h)))), (by unfold b_X7_crosses_2; exact (mm_ld_n hC dX7_crosses_2 rfl (mm_ic hC dX7_crosses_3 ⟨by decide, by decide⟩ (mm_ic_ge hC (t := 58) dX7_crosses_4 (by decide) (mm_ic hC dX7_crosses_58 ⟨by decide, by decide⟩ (mm_zr hC ⟨rfl, rfl⟩ hr dX7_crosses_59)) (mm_ic hC dX7_crosses_7 ⟨by decide, by decide⟩ (mm_st_n hC dX7_crosses_8 rfl (mm_ic hC dX7_crosses_9 ⟨by decide, by decide⟩ (mm_st_n hC dX7_crosses_10 rfl (fun _ _ _ h => h))))))))), (by unfold b_X7_crosses_11; exact (mm_ld_n hC dX7_crosses_11 rfl (mm_bp hC dX7_crosses_12 ⟨⟨by decide, by decide⟩, by decide⟩ (mm_ic_ge hC (t := 45) dX7_crosses_14 (by decide) (mm_ld_n hC dX7_crosses_45 rfl (mm_ic hC dX7_crosses_46 ⟨by decide, by decide⟩ (mm_ic_le hC (t := 52) dX7_crosses_47 (by decide) (mm_inc hC dX7_crosses_52 (mm_goto hC (t := 2) dX7_crosses_55 (by decide) (fun _ _ _ h => h))) (mm_ic hC dX7_crosses_50 ⟨by decide, by decide⟩ (mm_zr hC ⟨rfl, rfl⟩ hr dX7_crosses_51))))) (mm_ld_n hC dX7_crosses_17 rfl (mm_la_n hC dX7_crosses_18 rfl (mm_gr hC cl_6 (by decide) rfl wd_108 dX7_crosses_19 (mm_bp hC dX7_crosses_22 ⟨⟨by decide, by decide⟩, by decide⟩ (mm_ld_n hC dX7_crosses_24 rfl (mm_mul hC dX7_crosses_25 (mm_ld_n hC dX7_crosses_26 rfl (mm_add hC dX7_crosses_27 (mm_ial hC dX7_crosses_28 (mm_if_le hC (t := 36) dX7_crosses_29 (by decide) (mm_ic hC dX7_crosses_36 ⟨by decide, by decide⟩ (fun _ _ _ h => h)) (mm_ic hC dX7_crosses_32 ⟨by decide, by decide⟩ (mm_goto hC (t := 37) dX7_crosses_33 (by decide) (fun _ _ _ h => h))))))))))))))))), (by unfold b_X7_crosses_37; exact (mm_add hC dX7_crosses_37 (mm_st_n hC dX7_crosses_38 rfl (mm_inc hC dX7_crosses_39 (mm_goto hC (t := 11) dX7_crosses_42 (by decide) (fun _ _ _ h => h))))))⟩
set_option maxRecDepth 100000 in
set_option maxHeartbeats 8000000 in
theorem pv_X7_crosses : ∀ (av : List mm_V) (σ : mm_S) (Post : Option mm_V → mm_S → Prop), (∀ v ∈ av, mm_iv v) → (∀ a j, mm_in (σ.1 a j)) → σ.2.2 ≤ 348 → T_X7_crosses av σ Post → ∀ Ok : Nat → mm_K, clo_X7_crosses Ok Post σ.2.2 → Ok 0 (av ++ List.replicate (4 - av.length) (.inr none)) [] σ := by
  intro av σ Post hav hin hk hT Ok hcl
  obtain ⟨I, R0⟩ := σ
  unfold T_X7_crosses at hT
  split at hT
  · rename_i a
    obtain ⟨h0, hT⟩ := hT
    have h0 : R0 = mm_R0 := h0
    subst h0
    dsimp only at hT hin
    obtain ⟨c0, c2, c11, c37⟩ := hcl
    obtain ⟨h1, hP⟩ := hT
    have ha := sh_lt h1 (by decide)
    obtain ⟨hs1, hs2⟩ := sh_sheet a ha h1
    have hR : ∀ j, mm_Rs a j = some (a + 1) := fun j => Rs_sheet h1
    have inner : ∀ (b : Nat), b < 3 → (∀ u w : mm_V, Ok 2 [.inr (some a), .inl ((b : Int) + 1), u, w] [] (I, mm_R0) ∨ 1 < us (I (a + 1)) b) → ∀ (n t : Nat), t + n = 3 → Ok 11 [.inr (some a), .inl (b : Int), .inl (sm (fun t => if 0 < I (a + 1) (7 * b + (4 + t)) then 1 else 0) t), .inl (4 + (t : Int))] [] (I, mm_R0) := by
      intro b hb hnext n
      induction n with
      | zero =>
        intro t hn
        refine c11 _ _ _ ?_
        simp only [b_X7_crosses_11, i_ld, i_la, i_st, i_sa, i_c, i_inc, i_add, i_sub, i_mul, i_div, i_rem, i_remT, i_xor, i_dup, i_dup2, i_if, i_if2, i_sw, i_gi, i_gr, i_pi, i_pz, i_ial, i_ias, i_len, i_aal, i_gs, i_tal, i_cv, i_cs, i_ir, i_zr, i_vr, i_min, i_max, i_cpy, List.getElem?_cons_zero, List.getElem?_cons_succ, List.set_cons_zero, List.set_cons_succ, List.length_cons, List.length_nil, List.drop_succ_cons, List.drop_zero, List.take_succ_cons, List.take_zero, List.reverse_cons, List.reverse_nil, List.nil_append, List.cons_append, Option.toList_some, Option.toList_none, true_and, and_true, true_or, or_true, Nat.reduceAdd, Nat.reduceLT, Nat.reduceLeDiff, Option.some.injEq, exists_eq_left', Int.toNat_natCast, Nat.reduceSub, List.append_nil, List.replicate_succ, List.replicate_zero]
        refine ⟨fun q => ?_, fun q => by omega⟩
        rw [show t = 3 by omega]
        refine ⟨fun q2 => ⟨⟨by omega, by omega⟩, ?_⟩, fun q2 => ?_⟩
        · rcases hnext (.inl (sm (fun t => if 0 < I (a + 1) (7 * b + (4 + t)) then 1 else 0) 3)) (.inl (4 + ((3 : Nat) : Int))) with h | h
          · exact h
          · unfold us at h; omega
        · exact hP 1 (bz_1 ⟨b, hb, by unfold us; omega⟩)
      | succ n ih =>
        intro t hn
        have hsb := sm_bound (f := fun t => if 0 < I (a + 1) (7 * b + (4 + t)) then (1 : Int) else 0) (n := t) (c := 1) (fun k hk => by split <;> omega)
        have hs : sm (fun t => if 0 < I (a + 1) (7 * b + (4 + t)) then (1 : Int) else 0) (t + 1) = sm (fun t => if 0 < I (a + 1) (7 * b + (4 + t)) then 1 else 0) t + if 0 < I (a + 1) (7 * b + (4 + t)) then 1 else 0 := rfl
        have e3 : (7 * (b : Int) + (4 + (t : Int))).toNat = 7 * b + (4 + t) := by omega
        have go := ih (t + 1) (by omega)
        rw [hs, show (4 + ((t + 1 : Nat) : Int)) = 4 + (t : Int) + 1 by omega] at go
        refine c11 _ _ _ ?_
        simp only [b_X7_crosses_11, i_ld, i_la, i_st, i_sa, i_c, i_inc, i_add, i_sub, i_mul, i_div, i_rem, i_remT, i_xor, i_dup, i_dup2, i_if, i_if2, i_sw, i_gi, i_gr, i_pi, i_pz, i_ial, i_ias, i_len, i_aal, i_gs, i_tal, i_cv, i_cs, i_ir, i_zr, i_vr, i_min, i_max, i_cpy, List.getElem?_cons_zero, List.getElem?_cons_succ, List.set_cons_zero, List.set_cons_succ, List.length_cons, List.length_nil, List.drop_succ_cons, List.drop_zero, List.take_succ_cons, List.take_zero, List.reverse_cons, List.reverse_nil, List.nil_append, List.cons_append, Option.toList_some, Option.toList_none, true_and, and_true, true_or, or_true, Nat.reduceAdd, Nat.reduceLT, Nat.reduceLeDiff, Option.some.injEq, exists_eq_left', Int.toNat_natCast, Nat.reduceSub, List.append_nil, List.replicate_succ, List.replicate_zero, ha, h1, hs1, hs2, hR, e3]
        refine ⟨fun q => by omega, fun q => ⟨⟨by omega, by omega⟩, ⟨by omega, by omega⟩, ⟨by omega, by omega⟩, fun _ => ⟨fun z => ?_, fun z => ?_⟩⟩⟩
        · refine c37 _ _ _ ?_
          simp only [b_X7_crosses_37, i_ld, i_la, i_st, i_sa, i_c, i_inc, i_add, i_sub, i_mul, i_div, i_rem, i_remT, i_xor, i_dup, i_dup2, i_if, i_if2, i_sw, i_gi, i_gr, i_pi, i_pz, i_ial, i_ias, i_len, i_aal, i_gs, i_tal, i_cv, i_cs, i_ir, i_zr, i_vr, i_min, i_max, i_cpy, List.getElem?_cons_zero, List.getElem?_cons_succ, List.set_cons_zero, List.set_cons_succ, List.length_cons, List.length_nil, List.drop_succ_cons, List.drop_zero, List.take_succ_cons, List.take_zero, List.reverse_cons, List.reverse_nil, List.nil_append, List.cons_append, Option.toList_some, Option.toList_none, true_and, and_true, true_or, or_true, Nat.reduceAdd, Nat.reduceLT, Nat.reduceLeDiff, Option.some.injEq, exists_eq_left', Int.toNat_natCast, Nat.reduceSub, List.append_nil, List.replicate_succ, List.replicate_zero]
          refine ⟨⟨by omega, by omega⟩, ⟨by omega, by omega⟩, ?_⟩
          rw [if_neg (by omega)] at go
          exact go
        · refine c37 _ _ _ ?_
          simp only [b_X7_crosses_37, i_ld, i_la, i_st, i_sa, i_c, i_inc, i_add, i_sub, i_mul, i_div, i_rem, i_remT, i_xor, i_dup, i_dup2, i_if, i_if2, i_sw, i_gi, i_gr, i_pi, i_pz, i_ial, i_ias, i_len, i_aal, i_gs, i_tal, i_cv, i_cs, i_ir, i_zr, i_vr, i_min, i_max, i_cpy, List.getElem?_cons_zero, List.getElem?_cons_succ, List.set_cons_zero, List.set_cons_succ, List.length_cons, List.length_nil, List.drop_succ_cons, List.drop_zero, List.take_succ_cons, List.take_zero, List.reverse_cons, List.reverse_nil, List.nil_append, List.cons_append, Option.toList_some, Option.toList_none, true_and, and_true, true_or, or_true, Nat.reduceAdd, Nat.reduceLT, Nat.reduceLeDiff, Option.some.injEq, exists_eq_left', Int.toNat_natCast, Nat.reduceSub, List.append_nil, List.replicate_succ, List.replicate_zero]
          refine ⟨⟨by omega, by omega⟩, ⟨by omega, by omega⟩, ?_⟩
          rw [if_pos (by omega)] at go
          exact go
    have outer : ∀ (n b : Nat), b + n = 3 → (∀ j, j < b → ¬ 1 < us (I (a + 1)) j) → ∀ u w : mm_V, Ok 2 [.inr (some a), .inl (b : Int), u, w] [] (I, mm_R0) := by
      intro n
      induction n with
      | zero =>
        intro b hn hno u w
        refine c2 _ _ _ ?_
        simp only [b_X7_crosses_2, i_ld, i_la, i_st, i_sa, i_c, i_inc, i_add, i_sub, i_mul, i_div, i_rem, i_remT, i_xor, i_dup, i_dup2, i_if, i_if2, i_sw, i_gi, i_gr, i_pi, i_pz, i_ial, i_ias, i_len, i_aal, i_gs, i_tal, i_cv, i_cs, i_ir, i_zr, i_vr, i_min, i_max, i_cpy, List.getElem?_cons_zero, List.getElem?_cons_succ, List.set_cons_zero, List.set_cons_succ, List.length_cons, List.length_nil, List.drop_succ_cons, List.drop_zero, List.take_succ_cons, List.take_zero, List.reverse_cons, List.reverse_nil, List.nil_append, List.cons_append, Option.toList_some, Option.toList_none, true_and, and_true, true_or, or_true, Nat.reduceAdd, Nat.reduceLT, Nat.reduceLeDiff, Option.some.injEq, exists_eq_left', Int.toNat_natCast, Nat.reduceSub, List.append_nil, List.replicate_succ, List.replicate_zero]
        refine ⟨fun q => hP 0 (bz_0 ?_), fun q => by omega⟩
        rintro ⟨j, h1, h2⟩
        exact hno j (by omega) h2
      | succ n ih =>
        intro b hn hno u w
        refine c2 _ _ _ ?_
        simp only [b_X7_crosses_2, i_ld, i_la, i_st, i_sa, i_c, i_inc, i_add, i_sub, i_mul, i_div, i_rem, i_remT, i_xor, i_dup, i_dup2, i_if, i_if2, i_sw, i_gi, i_gr, i_pi, i_pz, i_ial, i_ias, i_len, i_aal, i_gs, i_tal, i_cv, i_cs, i_ir, i_zr, i_vr, i_min, i_max, i_cpy, List.getElem?_cons_zero, List.getElem?_cons_succ, List.set_cons_zero, List.set_cons_succ, List.length_cons, List.length_nil, List.drop_succ_cons, List.drop_zero, List.take_succ_cons, List.take_zero, List.reverse_cons, List.reverse_nil, List.nil_append, List.cons_append, Option.toList_some, Option.toList_none, true_and, and_true, true_or, or_true, Nat.reduceAdd, Nat.reduceLT, Nat.reduceLeDiff, Option.some.injEq, exists_eq_left', Int.toNat_natCast, Nat.reduceSub, List.append_nil, List.replicate_succ, List.replicate_zero]
        refine ⟨fun q => by omega, fun q => ?_⟩
        have := inner b (by omega) (fun u w => by
          by_cases h : 1 < us (I (a + 1)) b
          · exact Or.inr h
          · refine Or.inl ?_
            have := ih (b + 1) (by omega) (fun j hj => by
              by_cases e : j = b
              · subst e; exact h
              · exact hno j (by omega)) u w
            exact this) 3 0 (by omega)
        simpa [sm] using this
    refine c0 _ _ _ ?_
    simp only [b_X7_crosses_0, i_ld, i_la, i_st, i_sa, i_c, i_inc, i_add, i_sub, i_mul, i_div, i_rem, i_remT, i_xor, i_dup, i_dup2, i_if, i_if2, i_sw, i_gi, i_gr, i_pi, i_pz, i_ial, i_ias, i_len, i_aal, i_gs, i_tal, i_cv, i_cs, i_ir, i_zr, i_vr, i_min, i_max, i_cpy, List.getElem?_cons_zero, List.getElem?_cons_succ, List.set_cons_zero, List.set_cons_succ, List.length_cons, List.length_nil, List.drop_succ_cons, List.drop_zero, List.take_succ_cons, List.take_zero, List.reverse_cons, List.reverse_nil, List.nil_append, List.cons_append, Option.toList_some, Option.toList_none, true_and, and_true, true_or, or_true, Nat.reduceAdd, Nat.reduceLT, Nat.reduceLeDiff, Option.some.injEq, exists_eq_left', Int.toNat_natCast, Nat.reduceSub, List.append_nil, List.replicate_succ, List.replicate_zero]
    exact outer 3 0 (by omega) (fun j hj => by omega) _ _
  · exact hT.elim
theorem sp_X7_crosses : mm_Sp yX7_crosses cX7_crosses 4 (some .boolean) rm_X7_crosses T_X7_crosses := mm_meth (by decide) (by
  intro av σ Post h
  unfold T_X7_crosses at h
  split at h
  · simp
  · exact h.elim) (fun p l e s m args below meth c G av σ Post hC hr _ hav hin hk hT => pv_X7_crosses av σ Post hav hin hk hT _ (bk_X7_crosses hC hr))
