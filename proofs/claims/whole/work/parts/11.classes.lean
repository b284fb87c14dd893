/-! PieceSurfaces$Classes -/
def T_X1_least : mm_T := fun av σ Post => match av with
  | [.inr (some a), .inl x] => σ.2 = mm_R0 ∧ (mm_sh a).1 = 1 ∧ 0 ≤ x ∧ x < σ.1 a 1 ∧ σ.1 a 1 ≤ (mm_sh (a + 1)).2 ∧ ufi σ.1 (a + 1) (σ.1 a 1).toNat ∧
    ∀ I' : Nat → Nat → Int, (∀ b, b ≠ a + 1 → I' b = σ.1 b) → ufi I' (a + 1) (σ.1 a 1).toNat → (∀ y, y < (σ.1 a 1).toNat → rt (fi I' (a + 1)) y = rt (fi σ.1 (a + 1)) y) → Post (some (.inl (rt (fi σ.1 (a + 1)) x.toNat))) (I', mm_R0)
  | _ => False
def rm_X1_least : Room := { frames := 0, cells := 0, slots := 0, locals := 0 }
def b_X1_least_0 (Ok : Nat → mm_K) (Post : Option mm_V → mm_S → Prop) (kf : Nat) : mm_K := i_ld 1 (i_st 2 (i_c 0 (i_st 3 (Ok 4))))
def b_X1_least_4 (Ok : Nat → mm_K) (Post : Option mm_V → mm_S → Prop) (kf : Nat) : mm_K := i_ld 3 (i_la 0 (i_gi 1 1 (i_if2 (fun x y => y ≤ x) (Ok 52) (i_la 0 (i_gr 1 0 (i_ld 2 (i_ial (i_ld 2 (i_if2 (fun x y => x = y) (Ok 52) (i_la 0 (i_gr 1 0 (i_ld 2 (i_la 0 (i_gr 1 0 (i_la 0 (i_gr 1 0 (i_ld 2 (i_ial (i_ial (i_ias (i_la 0 (i_gr 1 0 (i_ld 2 (i_ial (i_st 2 (i_inc 3 1 (Ok 4)))))))))))))))))))))))))))
def b_X1_least_52 (Ok : Nat → mm_K) (Post : Option mm_V → mm_S → Prop) (kf : Nat) : mm_K := i_ld 2 (i_ir Post kf)
def clo_X1_least (Ok : Nat → mm_K) (Post : Option mm_V → mm_S → Prop) (kf : Nat) : Prop := mm_imp (b_X1_least_0 Ok Post kf) (Ok 0) ∧ mm_imp (b_X1_least_4 Ok Post kf) (Ok 4) ∧ mm_imp (b_X1_least_52 Ok Post kf) (Ok 52)
set_option maxRecDepth 100000 in
set_option maxHeartbeats 4000000 in
theorem bk_X1_least {p : Program} {l : Launch} {e : Env} {s : State} {m : MethodId} {args : Array Value} {below : List Frame} {meth : Method} {c : Code} {G : mm_G} {σ0 : mm_S} {Post : Option mm_V → mm_S → Prop} (hC : mm_C p G s m args meth c cX1_least yX1_least.cls) (hr : meth.sig.returnType = some .int) : clo_X1_least (mm_O p l e rm_X1_least s m args below meth c G σ0.2.2 (MQ below (mm_Qc G σ0 rm_X1_least.cells rm_X1_least.slots Post) args s rm_X1_least.cells rm_X1_least.slots (mm_A G))) Post σ0.2.2 := ⟨(by unfold b_X1_least_0; exact (mm_ld_n hC dX1_least_0 rfl (mm_st_n hC dX1_least_1 rfl (mm_ic hC dX1_least_2 ⟨by decide, by decide⟩ (mm_st_n hC dX1_least_3 rfl (fun _ _ _ h => h)))))), (by unfold b_X1_least_4; exact (mm_ld_n hC dX1_least_4 rfl (mm_la_n hC dX1_least_5 rfl (mm_gi hC cl_1 (by decide) rfl wd_159 dX1_least_6 (mm_ic_ge hC (t := 52) dX1_least_9 (by decide) (fun _ _ _ h => h) (mm_la_n hC dX1_least_12 rfl (mm_gr hC cl_1 (by decide) rfl wd_158 dX1_least_13 (mm_ld_n hC dX1_least_16 rfl (mm_ial hC dX1_least_17 (mm_ld_n hC dX1_least_18 rfl (mm_ic_eq hC (t := 52) dX1_least_19 (by decide) (fun _ _ _ h => h) (mm_la_n hC dX1_least_22 rfl (mm_gr hC cl_1 (by decide) rfl wd_158 dX1_least_23 (mm_ld_n hC dX1_least_26 rfl (mm_la_n hC dX1_least_27 rfl (mm_gr hC cl_1 (by decide) rfl wd_158 dX1_least_28 (mm_la_n hC dX1_least_31 rfl (mm_gr hC cl_1 (by decide) rfl wd_158 dX1_least_32 (mm_ld_n hC dX1_least_35 rfl (mm_ial hC dX1_least_36 (mm_ial hC dX1_least_37 (mm_ias hC dX1_least_38 (mm_la_n hC dX1_least_39 rfl (mm_gr hC cl_1 (by decide) rfl wd_158 dX1_least_40 (mm_ld_n hC dX1_least_43 rfl (mm_ial hC dX1_least_44 (mm_st_n hC dX1_least_45 rfl (mm_inc hC dX1_least_46 (mm_goto hC (t := 4) dX1_least_49 (by decide) (fun _ _ _ h => h)))))))))))))))))))))))))))))), (by unfold b_X1_least_52; exact (mm_ld_n hC dX1_least_52 rfl (mm_ir hC ⟨rfl, rfl⟩ hr dX1_least_53)))⟩
set_option maxHeartbeats 4000000 in
theorem pv_X1_least : ∀ (av : List mm_V) (σ : mm_S) (Post : Option mm_V → mm_S → Prop), (∀ v ∈ av, mm_iv v) → (∀ a j, mm_in (σ.1 a j)) → σ.2.2 ≤ 348 → T_X1_least av σ Post → ∀ Ok : Nat → mm_K, clo_X1_least Ok Post σ.2.2 → Ok 0 (av ++ List.replicate (4 - av.length) (.inr none)) [] σ := by
  intro av σ Post hav hin hk hT Ok hcl
  obtain ⟨I, R0⟩ := σ
  unfold T_X1_least at hT
  split at hT
  · rename_i a x
    obtain ⟨h0, h1, h2, h3, h4, h5, hP⟩ := hT
    have h0 : R0 = mm_R0 := h0
    subst h0
    obtain ⟨c0, c4, c52⟩ := hcl
    have ha := sh_lt h1 (by decide)
    obtain ⟨hs1, hs2⟩ := sh_cl a ha h1
    have hR : ∀ j, mm_Rs a j = some (a + 1) := fun j => Rs_cl h1
    have h3 : x < I a 1 := h3
    have h4 : I a 1 ≤ (mm_sh (a + 1)).2 := h4
    have h5 : ufi I (a + 1) (I a 1).toNat := h5
    have loop : ∀ (n : Nat) (t i : Nat) (I' : Nat → Nat → Int), t ≤ n → t + i ≤ x.toNat → (∀ b, b ≠ a + 1 → I' b = I b) → ufi I' (a + 1) (I a 1).toNat → (∀ y, y < (I a 1).toNat → rt (fi I' (a + 1)) y = rt (fi I (a + 1)) y) → rt (fi I (a + 1)) t = rt (fi I (a + 1)) x.toNat → Ok 4 [.inr (some a), .inl x, .inl (t : Int), .inl (i : Int)] [] (I', mm_R0) := by
      intro n
      induction n using Nat.strongRecOn with
      | ind n ih =>
        intro t i I' ht hti hI hu hr hrt
        have hIa : I' a = I a := hI a (by omega)
        have htn : t < (I a 1).toNat := by omega
        have hut := hu t htn
        have hin2 : -2147483648 ≤ I a 1 ∧ I a 1 < 2147483648 := hin a 1
        refine c4 _ _ _ ?_
        simp only [b_X1_least_4, i_ld, i_la, i_st, i_sa, i_c, i_inc, i_add, i_sub, i_mul, i_div, i_rem, i_remT, i_xor, i_dup, i_dup2, i_if, i_if2, i_sw, i_gi, i_gr, i_pi, i_pz, i_ial, i_ias, i_len, i_aal, i_gs, i_tal, i_cv, i_cs, i_ir, i_zr, i_vr, i_min, i_max, i_cpy, List.getElem?_cons_zero, List.getElem?_cons_succ, List.set_cons_zero, List.set_cons_succ, List.length_cons, List.length_nil, List.drop_succ_cons, List.drop_zero, List.take_succ_cons, List.take_zero, List.reverse_cons, List.reverse_nil, List.nil_append, List.cons_append, Option.toList_some, Option.toList_none, true_and, and_true, true_or, or_true, Nat.reduceAdd, Nat.reduceLT, Nat.reduceLeDiff, Option.some.injEq, exists_eq_left', Int.toNat_natCast, Nat.reduceSub, List.append_nil, List.replicate_succ, List.replicate_zero, ha, h1, hs1, hs2, hR, hIa]
        refine fun _ => ⟨fun q => ?_, fun q => ⟨⟨by omega, by omega⟩, fun _ => ⟨fun e => ?_, fun e => ?_⟩⟩⟩
        · omega
        · refine c52 _ _ _ ?_
          simp only [b_X1_least_52, i_ld, i_la, i_st, i_sa, i_c, i_inc, i_add, i_sub, i_mul, i_div, i_rem, i_remT, i_xor, i_dup, i_dup2, i_if, i_if2, i_sw, i_gi, i_gr, i_pi, i_pz, i_ial, i_ias, i_len, i_aal, i_gs, i_tal, i_cv, i_cs, i_ir, i_zr, i_vr, i_min, i_max, i_cpy, List.getElem?_cons_zero, List.getElem?_cons_succ, List.set_cons_zero, List.set_cons_succ, List.length_cons, List.length_nil, List.drop_succ_cons, List.drop_zero, List.take_succ_cons, List.take_zero, List.reverse_cons, List.reverse_nil, List.nil_append, List.cons_append, Option.toList_some, Option.toList_none, true_and, and_true, true_or, or_true, Nat.reduceAdd, Nat.reduceLT, Nat.reduceLeDiff, Option.some.injEq, exists_eq_left', Int.toNat_natCast, Nat.reduceSub, List.append_nil, List.replicate_succ, List.replicate_zero]
          have hroot : rt (fi I (a + 1)) x.toNat = t := by
            rw [← hrt, ← hr t htn]
            exact rt_top (by unfold fi; omega)
          have := hP I' hI hu hr
          rw [show ((rt (fi I (a + 1)) x.toNat : Nat) : Int) = (t : Int) by rw [hroot]] at this
          exact this
        · obtain ⟨f, hf⟩ := Int.eq_ofNat_of_zero_le hut.1
          have hfl : f < t := by omega
          have huf := hu f (by omega)
          obtain ⟨g, hg⟩ := Int.eq_ofNat_of_zero_le huf.1
          simp only [hf, Int.toNat_natCast]
          refine ⟨⟨by omega, by omega⟩, fun _ => ⟨⟨by omega, by omega⟩, fun _ => ⟨⟨by omega, by omega⟩, ⟨by omega, by omega⟩, fun _ => ⟨⟨by omega, by omega⟩, ?_⟩⟩⟩⟩
          rw [hg]
          have hset : mm_set I' (a + 1) t (g : Int) (a + 1) t = (g : Int) := by simp [mm_set]
          rw [hset]
          have hrow : ∀ y, y ≠ t → fi (mm_set I' (a + 1) t (g : Int)) (a + 1) y = fi I' (a + 1) y := fun y hy => by simp [fi, mm_set, hy]
          have hat : fi (mm_set I' (a + 1) t (g : Int)) (a + 1) t = g := by simp [fi, mm_set]
          have hf1 : fi I' (a + 1) t = f := by simp [fi, hf]
          have hf2 : fi I' (a + 1) f = g := by simp [fi, hg]
          have hrr : ∀ y, rt (fi (mm_set I' (a + 1) t (g : Int)) (a + 1)) y = rt (fi I' (a + 1)) y := by
            intro y
            refine rt_half hrow (by omega) (by omega) ?_ y
            rw [hat, ← hf2, rt_up (by omega), ← hf1, rt_up (by omega)]
          refine ih g (by omega) g (i + 1) _ (Nat.le_refl _) (by omega) (fun b hb => ?_) (fun y hy => ?_) (fun y hy => by rw [hrr, hr y hy]) ?_
          · rw [← hI b hb]; funext j; simp [mm_set, hb]
          · by_cases e2 : y = t
            · subst e2
              rw [hset]; omega
            · have := hu y hy
              simp only [mm_set, e2, and_false, if_false]
              exact this
          · rw [← hr g (by omega), ← hf2, rt_up (by omega), ← hf1, rt_up (by omega), hr t htn, hrt]
    refine c0 _ _ _ ?_
    simp only [b_X1_least_0, i_ld, i_la, i_st, i_sa, i_c, i_inc, i_add, i_sub, i_mul, i_div, i_rem, i_remT, i_xor, i_dup, i_dup2, i_if, i_if2, i_sw, i_gi, i_gr, i_pi, i_pz, i_ial, i_ias, i_len, i_aal, i_gs, i_tal, i_cv, i_cs, i_ir, i_zr, i_vr, i_min, i_max, i_cpy, List.getElem?_cons_zero, List.getElem?_cons_succ, List.set_cons_zero, List.set_cons_succ, List.length_cons, List.length_nil, List.drop_succ_cons, List.drop_zero, List.take_succ_cons, List.take_zero, List.reverse_cons, List.reverse_nil, List.nil_append, List.cons_append, Option.toList_some, Option.toList_none, true_and, and_true, true_or, or_true, Nat.reduceAdd, Nat.reduceLT, Nat.reduceLeDiff, Option.some.injEq, exists_eq_left', Int.toNat_natCast, Nat.reduceSub, List.append_nil, List.replicate_succ, List.replicate_zero]
    obtain ⟨y, rfl⟩ := Int.eq_ofNat_of_zero_le h2
    exact loop y y 0 I (Nat.le_refl _) (by simp) (fun _ _ => rfl) h5 (fun _ _ => rfl) rfl
  · exact hT.elim
theorem sp_X1_least : mm_Sp yX1_least cX1_least 4 (some .int) rm_X1_least T_X1_least := mm_meth (by decide) (by
  intro av σ Post h
  unfold T_X1_least at h
  split at h
  · simp
  · exact h.elim) (fun p l e s m args below meth c G av σ Post hC hr _ hav hin hk hT => pv_X1_least av σ Post hav hin hk hT _ (bk_X1_least hC hr))

def T_X1_begin : mm_T := fun av σ Post => match av with
  | [.inr (some a), .inl x] => σ.2 = mm_R0 ∧ (mm_sh a).1 = 1 ∧ 0 ≤ x ∧ x ≤ (mm_sh (a + 1)).2 ∧
    ∀ I' : Nat → Nat → Int, (∀ b, b ≠ a → b ≠ a + 1 → I' b = σ.1 b) → I' a 1 = x → (∀ i : Nat, (i : Int) < x → I' (a + 1) i = i) → Post none (I', mm_R0)
  | _ => False
def rm_X1_begin : Room := { frames := 1, cells := 0, slots := 0, locals := 17 }
def b_X1_begin_0 (Ok : Nat → mm_K) (Post : Option mm_V → mm_S → Prop) (kf : Nat) : mm_K := i_la 0 (i_ld 1 (i_la 0 (i_gr 1 0 (i_len (i_min (i_pi 1 1 (i_c 0 (i_st 2 (Ok 15)))))))))
def b_X1_begin_15 (Ok : Nat → mm_K) (Post : Option mm_V → mm_S → Prop) (kf : Nat) : mm_K := i_ld 2 (i_la 0 (i_gi 1 1 (i_if2 (fun x y => y ≤ x) (i_vr Post kf) (i_la 0 (i_gr 1 0 (i_ld 2 (i_ld 2 (i_ias (i_inc 2 1 (Ok 15))))))))))
def clo_X1_begin (Ok : Nat → mm_K) (Post : Option mm_V → mm_S → Prop) (kf : Nat) : Prop := mm_imp (b_X1_begin_0 Ok Post kf) (Ok 0) ∧ mm_imp (b_X1_begin_15 Ok Post kf) (Ok 15)
set_option maxRecDepth 100000 in
set_option maxHeartbeats 4000000 in
theorem bk_X1_begin {p : Program} {l : Launch} {e : Env} {s : State} {m : MethodId} {args : Array Value} {below : List Frame} {meth : Method} {c : Code} {G : mm_G} {σ0 : mm_S} {Post : Option mm_V → mm_S → Prop} (hC : mm_C p G s m args meth c cX1_begin yX1_begin.cls) (hr : meth.sig.returnType = none) : clo_X1_begin (mm_O p l e rm_X1_begin s m args below meth c G σ0.2.2 (MQ below (mm_Qc G σ0 rm_X1_begin.cells rm_X1_begin.slots Post) args s rm_X1_begin.cells rm_X1_begin.slots (mm_A G))) Post σ0.2.2 := ⟨(by unfold b_X1_begin_0; exact (mm_la_n hC dX1_begin_0 rfl (mm_ld_n hC dX1_begin_1 rfl (mm_la_n hC dX1_begin_2 rfl (mm_gr hC cl_1 (by decide) rfl wd_158 dX1_begin_3 (mm_len hC dX1_begin_6 (mm_min hC wd_370 wd_371 wd_78 wd_372 ⟨by decide, by decide⟩ dX1_begin_7 (mm_pi hC cl_1 (by decide) rfl rfl rfl wd_159 dX1_begin_10 (mm_ic hC dX1_begin_13 ⟨by decide, by decide⟩ (mm_st_n hC dX1_begin_14 rfl (fun _ _ _ h => h))))))))))), (by unfold b_X1_begin_15; exact (mm_ld_n hC dX1_begin_15 rfl (mm_la_n hC dX1_begin_16 rfl (mm_gi hC cl_1 (by decide) rfl wd_159 dX1_begin_17 (mm_ic_ge hC (t := 36) dX1_begin_20 (by decide) (mm_vr hC ⟨rfl, rfl⟩ hr dX1_begin_36) (mm_la_n hC dX1_begin_23 rfl (mm_gr hC cl_1 (by decide) rfl wd_158 dX1_begin_24 (mm_ld_n hC dX1_begin_27 rfl (mm_ld_n hC dX1_begin_28 rfl (mm_ias hC dX1_begin_29 (mm_inc hC dX1_begin_30 (mm_goto hC (t := 15) dX1_begin_33 (by decide) (fun _ _ _ h => h)))))))))))))⟩
set_option maxRecDepth 100000 in
set_option maxHeartbeats 8000000 in
theorem pv_X1_begin : ∀ (av : List mm_V) (σ : mm_S) (Post : Option mm_V → mm_S → Prop), (∀ v ∈ av, mm_iv v) → (∀ a j, mm_in (σ.1 a j)) → σ.2.2 ≤ 348 → T_X1_begin av σ Post → ∀ Ok : Nat → mm_K, clo_X1_begin Ok Post σ.2.2 → Ok 0 (av ++ List.replicate (3 - av.length) (.inr none)) [] σ := by
  intro av σ Post hav hin hk hT Ok hcl
  obtain ⟨I, R0⟩ := σ
  unfold T_X1_begin at hT
  split at hT
  · rename_i a x
    obtain ⟨h0, hT⟩ := hT
    have h0 : R0 = mm_R0 := h0
    subst h0
    dsimp only at hT hin
    obtain ⟨c0, c15⟩ := hcl
    obtain ⟨h1, h2, h3, hP⟩ := hT
    have ha := sh_lt h1 (by decide)
    obtain ⟨hs1, hs2⟩ := sh_cl a ha h1
    have hR : ∀ j, mm_Rs a j = some (a + 1) := fun j => Rs_cl h1
    have hle := (mm_shOk (a + 1) hs2).1
    have loop : ∀ (d i : Nat) (I' : Nat → Nat → Int), (i : Int) + d = x → (∀ b, b ≠ a → b ≠ a + 1 → I' b = I b) → I' a 1 = x → (∀ j : Nat, j < i → I' (a + 1) j = j) → Ok 15 [.inr (some a), .inl x, .inl (i : Int)] [] (I', mm_R0) := by
      intro d
      induction d with
      | zero =>
        intro i I' hd hI hx hi
        refine c15 _ _ _ ?_
        simp only [b_X1_begin_15, i_ld, i_la, i_st, i_sa, i_c, i_inc, i_add, i_sub, i_mul, i_div, i_rem, i_remT, i_xor, i_dup, i_dup2, i_if, i_if2, i_sw, i_gi, i_gr, i_pi, i_pz, i_ial, i_ias, i_len, i_aal, i_gs, i_tal, i_cv, i_cs, i_ir, i_zr, i_vr, i_min, i_max, i_cpy, List.getElem?_cons_zero, List.getElem?_cons_succ, List.set_cons_zero, List.set_cons_succ, List.length_cons, List.length_nil, List.drop_succ_cons, List.drop_zero, List.take_succ_cons, List.take_zero, List.reverse_cons, List.reverse_nil, List.nil_append, List.cons_append, Option.toList_some, Option.toList_none, true_and, and_true, true_or, or_true, Nat.reduceAdd, Nat.reduceLT, Nat.reduceLeDiff, Option.some.injEq, exists_eq_left', Int.toNat_natCast, Nat.reduceSub, List.append_nil, List.replicate_succ, List.replicate_zero, ha, h1, hs1, hs2, hR, hx]
        refine fun _ => ⟨fun q => ?_, fun q => ?_⟩
        · exact hP I' hI hx (fun j hj => hi j (by omega))
        · omega
      | succ d ih =>
        intro i I' hd hI hx hi
        refine c15 _ _ _ ?_
        simp only [b_X1_begin_15, i_ld, i_la, i_st, i_sa, i_c, i_inc, i_add, i_sub, i_mul, i_div, i_rem, i_remT, i_xor, i_dup, i_dup2, i_if, i_if2, i_sw, i_gi, i_gr, i_pi, i_pz, i_ial, i_ias, i_len, i_aal, i_gs, i_tal, i_cv, i_cs, i_ir, i_zr, i_vr, i_min, i_max, i_cpy, List.getElem?_cons_zero, List.getElem?_cons_succ, List.set_cons_zero, List.set_cons_succ, List.length_cons, List.length_nil, List.drop_succ_cons, List.drop_zero, List.take_succ_cons, List.take_zero, List.reverse_cons, List.reverse_nil, List.nil_append, List.cons_append, Option.toList_some, Option.toList_none, true_and, and_true, true_or, or_true, Nat.reduceAdd, Nat.reduceLT, Nat.reduceLeDiff, Option.some.injEq, exists_eq_left', Int.toNat_natCast, Nat.reduceSub, List.append_nil, List.replicate_succ, List.replicate_zero, ha, h1, hs1, hs2, hR, hx]
        refine fun _ => ⟨fun q => ?_, fun q => ?_⟩
        · omega
        · refine ⟨⟨by omega, by omega⟩, ⟨by omega, by omega⟩, ?_⟩
          refine ih (i + 1) _ (by omega) (fun b h1 h2 => ?_) ?_ (fun j hj => ?_)
          · rw [← hI b h1 h2]; funext j; simp [mm_set, h2]
          · simp [mm_set, hx]
          · by_cases e : j = i
            · subst e; simp [mm_set]
            · simp [mm_set, e]; exact hi j (by omega)
    refine c0 _ _ _ ?_
    simp only [b_X1_begin_0, i_ld, i_la, i_st, i_sa, i_c, i_inc, i_add, i_sub, i_mul, i_div, i_rem, i_remT, i_xor, i_dup, i_dup2, i_if, i_if2, i_sw, i_gi, i_gr, i_pi, i_pz, i_ial, i_ias, i_len, i_aal, i_gs, i_tal, i_cv, i_cs, i_ir, i_zr, i_vr, i_min, i_max, i_cpy, List.getElem?_cons_zero, List.getElem?_cons_succ, List.set_cons_zero, List.set_cons_succ, List.length_cons, List.length_nil, List.drop_succ_cons, List.drop_zero, List.take_succ_cons, List.take_zero, List.reverse_cons, List.reverse_nil, List.nil_append, List.cons_append, Option.toList_some, Option.toList_none, true_and, and_true, true_or, or_true, Nat.reduceAdd, Nat.reduceLT, Nat.reduceLeDiff, Option.some.injEq, exists_eq_left', Int.toNat_natCast, Nat.reduceSub, List.append_nil, List.replicate_succ, List.replicate_zero, ha, h1, hs1, hs2, hR]
    have hmin : (if ((mm_sh (a + 1)).2 : Int) < x then ((mm_sh (a + 1)).2 : Int) else x) = x := if_neg (by omega)
    rw [hmin]
    obtain ⟨y, rfl⟩ := Int.eq_ofNat_of_zero_le h2
    refine loop y 0 _ (by omega) (fun b h1 h2 => ?_) ?_ (fun j hj => by omega)
    · funext j; simp [mm_set, h1]
    · simp [mm_set]
  · exact hT.elim
theorem sp_X1_begin : mm_Sp yX1_begin cX1_begin 3 none rm_X1_begin T_X1_begin := mm_meth (by decide) (by
  intro av σ Post h
  unfold T_X1_begin at h
  split at h
  · simp
  · exact h.elim) (fun p l e s m args below meth c G av σ Post hC hr _ hav hin hk hT => pv_X1_begin av σ Post hav hin hk hT _ (bk_X1_begin hC hr))
def T_X1_join : mm_T := fun av σ Post => match av with
  | [.inr (some a), .inl x, .inl y] => σ.2 = mm_R0 ∧ (mm_sh a).1 = 1 ∧ 0 ≤ x ∧ x < σ.1 a 1 ∧ 0 ≤ y ∧ y < σ.1 a 1 ∧ σ.1 a 1 ≤ (mm_sh (a + 1)).2 ∧ ufi σ.1 (a + 1) (σ.1 a 1).toNat ∧
    ∀ I' : Nat → Nat → Int, (∀ b, b ≠ a + 1 → I' b = σ.1 b) → ufi I' (a + 1) (σ.1 a 1).toNat → (∀ k, k < (σ.1 a 1).toNat → rt (fi I' (a + 1)) k = mg (rt (fi σ.1 (a + 1))) x.toNat y.toNat k) → Post none (I', mm_R0)
  | _ => False
def rm_X1_join : Room := { frames := 1, cells := 0, slots := 0, locals := 23 }
def b_X1_join_0 (Ok : Nat → mm_K) (Post : Option mm_V → mm_S → Prop) (kf : Nat) : mm_K := i_la 0 (i_ld 1 (i_cv 1 1 T_X1_least (i_st 3 (i_la 0 (i_ld 2 (i_cv 1 1 T_X1_least (i_st 4 (i_ld 3 (i_ld 4 (i_if2 (fun x y => y ≤ x) (i_la 0 (i_gr 1 0 (i_ld 3 (i_ld 4 (i_ias (Ok 38)))))) (i_la 0 (i_gr 1 0 (i_ld 4 (i_ld 3 (i_ias (Ok 38))))))))))))))))
def b_X1_join_38 (Ok : Nat → mm_K) (Post : Option mm_V → mm_S → Prop) (kf : Nat) : mm_K := i_vr Post kf
def clo_X1_join (Ok : Nat → mm_K) (Post : Option mm_V → mm_S → Prop) (kf : Nat) : Prop := mm_imp (b_X1_join_0 Ok Post kf) (Ok 0) ∧ mm_imp (b_X1_join_38 Ok Post kf) (Ok 38)
set_option maxRecDepth 100000 in
set_option maxHeartbeats 4000000 in
theorem bk_X1_join {p : Program} {l : Launch} {e : Env} {s : State} {m : MethodId} {args : Array Value} {below : List Frame} {meth : Method} {c : Code} {G : mm_G} {σ0 : mm_S} {Post : Option mm_V → mm_S → Prop} (hC : mm_C p G s m args meth c cX1_join yX1_join.cls) (hr : meth.sig.returnType = none) : clo_X1_join (mm_O p l e rm_X1_join s m args below meth c G σ0.2.2 (MQ below (mm_Qc G σ0 rm_X1_join.cells rm_X1_join.slots Post) args s rm_X1_join.cells rm_X1_join.slots (mm_A G))) Post σ0.2.2 := ⟨(by unfold b_X1_join_0; exact (mm_la_n hC dX1_join_0 rfl (mm_ld_n hC dX1_join_1 rfl (mm_cv hC sp_X1_least ⟨rfl, rfl⟩ cl_1 wd_392 wd_393 wd_394 wd_395 wd_71 ⟨by decide, by decide, by decide +kernel⟩ ⟨by decide, by decide⟩ dX1_join_2 (mm_st_n hC dX1_join_5 rfl (mm_la_n hC dX1_join_6 rfl (mm_ld_n hC dX1_join_7 rfl (mm_cv hC sp_X1_least ⟨rfl, rfl⟩ cl_1 wd_392 wd_393 wd_394 wd_395 wd_71 ⟨by decide, by decide, by decide +kernel⟩ ⟨by decide, by decide⟩ dX1_join_8 (mm_st hC dX1_join_11 (mm_ld_n hC dX1_join_13 rfl (mm_ld hC dX1_join_14 (mm_ic_ge hC (t := 30) dX1_join_16 (by decide) (mm_la_n hC dX1_join_30 rfl (mm_gr hC cl_1 (by decide) rfl wd_158 dX1_join_31 (mm_ld_n hC dX1_join_34 rfl (mm_ld hC dX1_join_35 (mm_ias hC dX1_join_37 (fun _ _ _ h => h)))))) (mm_la_n hC dX1_join_19 rfl (mm_gr hC cl_1 (by decide) rfl wd_158 dX1_join_20 (mm_ld hC dX1_join_23 (mm_ld_n hC dX1_join_25 rfl (mm_ias hC dX1_join_26 (mm_goto hC (t := 38) dX1_join_27 (by decide) (fun _ _ _ h => h))))))))))))))))))), (by unfold b_X1_join_38; exact (mm_vr hC ⟨rfl, rfl⟩ hr dX1_join_38))⟩
set_option maxRecDepth 100000 in
set_option maxHeartbeats 8000000 in
theorem pv_X1_join : ∀ (av : List mm_V) (σ : mm_S) (Post : Option mm_V → mm_S → Prop), (∀ v ∈ av, mm_iv v) → (∀ a j, mm_in (σ.1 a j)) → σ.2.2 ≤ 348 → T_X1_join av σ Post → ∀ Ok : Nat → mm_K, clo_X1_join Ok Post σ.2.2 → Ok 0 (av ++ List.replicate (5 - av.length) (.inr none)) [] σ := by
  intro av σ Post hav hin hk hT Ok hcl
  obtain ⟨I, R0⟩ := σ
  unfold T_X1_join at hT
  split at hT
  · rename_i a x y
    obtain ⟨h0, hT⟩ := hT
    have h0 : R0 = mm_R0 := h0
    subst h0
    dsimp only at hT hin
    obtain ⟨c0, c38⟩ := hcl
    obtain ⟨h1, h2, h3, h4, h5, h6, h7, hP⟩ := hT
    have ha := sh_lt h1 (by decide)
    obtain ⟨hs1, hs2⟩ := sh_cl a ha h1
    have hR : ∀ j, mm_Rs a j = some (a + 1) := fun j => Rs_cl h1
    refine c0 _ _ _ ?_
    simp only [b_X1_join_0, i_ld, i_la, i_st, i_sa, i_c, i_inc, i_add, i_sub, i_mul, i_div, i_rem, i_remT, i_xor, i_dup, i_dup2, i_if, i_if2, i_sw, i_gi, i_gr, i_pi, i_pz, i_ial, i_ias, i_len, i_aal, i_gs, i_tal, i_cv, i_cs, i_ir, i_zr, i_vr, i_min, i_max, i_cpy, List.getElem?_cons_zero, List.getElem?_cons_succ, List.set_cons_zero, List.set_cons_succ, List.length_cons, List.length_nil, List.drop_succ_cons, List.drop_zero, List.take_succ_cons, List.take_zero, List.reverse_cons, List.reverse_nil, List.nil_append, List.cons_append, Option.toList_some, Option.toList_none, true_and, and_true, true_or, or_true, Nat.reduceAdd, Nat.reduceLT, Nat.reduceLeDiff, Option.some.injEq, exists_eq_left', Int.toNat_natCast, Nat.reduceSub, List.append_nil, List.replicate_succ, List.replicate_zero, ha, h1, hs1, hs2, hR, T_X1_least, h2, h3, h6, h7]
    intro I1 f1 u1 r1
    have e1 : I1 a = I a := f1 a (by omega)
    rw [e1]
    refine ⟨h4, h5, h6, u1, ?_⟩
    intro I2 f2 u2 r2
    obtain ⟨X, hX⟩ : ∃ X, rt (fi I (a + 1)) x.toNat = X := ⟨_, rfl⟩
    obtain ⟨Y, hY⟩ : ∃ Y, rt (fi I (a + 1)) y.toNat = Y := ⟨_, rfl⟩
    have hY1 : rt (fi I1 (a + 1)) y.toNat = Y := by rw [r1 _ (by omega), hY]
    have r2' : ∀ k, k < (I a 1).toNat → rt (fi I2 (a + 1)) k = rt (fi I (a + 1)) k := fun k hk => by rw [r2 k hk, r1 k hk]
    have hXl : X ≤ x.toNat := by rw [← hX]; exact rt_le _ _
    have hYl : Y ≤ y.toNat := by rw [← hY]; exact rt_le _ _
    have hXn : X < (I a 1).toNat := by omega
    have hYn : Y < (I a 1).toNat := by omega
    have hXr : ¬ fi I2 (a + 1) X < X := by
      have := rt_root (fi I2 (a + 1)) x.toNat
      rw [r2' _ (by omega), hX] at this
      exact this
    have hYr : ¬ fi I2 (a + 1) Y < Y := by
      have := rt_root (fi I2 (a + 1)) y.toNat
      rw [r2' _ (by omega), hY] at this
      exact this
    have e2 : I2 a = I a := by rw [f2 a (by omega), e1]
    have fin : ∀ A B : Nat, A < (I a 1).toNat → B < (I a 1).toNat → A ≤ B → (A = X ∧ B = Y ∨ A = Y ∧ B = X) → ∀ I', I' = mm_set I2 (a + 1) B (A : Int) → Post none (I', mm_R0) := by
      intro A B hA hB hAB hxy I' hI'
      subst hI'
      have hAr : ¬ fi I2 (a + 1) A < A := by rcases hxy with ⟨p, q⟩ | ⟨p, q⟩ <;> rw [p] <;> assumption
      have hBr : ¬ fi I2 (a + 1) B < B := by rcases hxy with ⟨p, q⟩ | ⟨p, q⟩ <;> rw [q] <;> assumption
      refine hP _ (fun b hb => ?_) (fun k hk => ?_) (fun k hk => ?_)
      · rw [← f1 b hb, ← f2 b hb]; funext j; simp [mm_set, hb]
      · by_cases e : k = B
        · subst e; simp [mm_set]; omega
        · simp [mm_set, e]; exact u2 k hk
      · have hmg : mg (rt (fi I (a + 1))) x.toNat y.toNat k = if rt (fi I (a + 1)) k = B then A else rt (fi I (a + 1)) k := by
          unfold mg
          rw [hX, hY]
          rcases hxy with ⟨p, q⟩ | ⟨p, q⟩
          · rw [Nat.max_eq_right (by omega), Nat.min_eq_left (by omega), p, q]
          · rw [Nat.max_eq_left (by omega), Nat.min_eq_right (by omega), p, q]
        rw [hmg, ← r2' k hk]
        by_cases hlt : A < B
        · exact rt_link (fun z hz => by simp [fi, mm_set, hz]) hlt (by simp [fi, mm_set]) hAr hBr k
        · have hAB2 : A = B := by omega
          subst hAB2
          have hrt : rt (fi (mm_set I2 (a + 1) A (A : Int)) (a + 1)) k = rt (fi I2 (a + 1)) k := rt_self (fun z hz => by simp [fi, mm_set, hz]) hAr (by simp [fi, mm_set]) k
          rw [hrt]
          split
          · assumption
          · rfl
    rw [hX, hY1]
    refine ⟨fun q => ⟨⟨by omega, by omega⟩, ?_⟩, fun q => ⟨⟨by omega, by omega⟩, ?_⟩⟩
    · refine c38 _ _ _ ?_
      simp only [b_X1_join_38, i_ld, i_la, i_st, i_sa, i_c, i_inc, i_add, i_sub, i_mul, i_div, i_rem, i_remT, i_xor, i_dup, i_dup2, i_if, i_if2, i_sw, i_gi, i_gr, i_pi, i_pz, i_ial, i_ias, i_len, i_aal, i_gs, i_tal, i_cv, i_cs, i_ir, i_zr, i_vr, i_min, i_max, i_cpy, List.getElem?_cons_zero, List.getElem?_cons_succ, List.set_cons_zero, List.set_cons_succ, List.length_cons, List.length_nil, List.drop_succ_cons, List.drop_zero, List.take_succ_cons, List.take_zero, List.reverse_cons, List.reverse_nil, List.nil_append, List.cons_append, Option.toList_some, Option.toList_none, true_and, and_true, true_or, or_true, Nat.reduceAdd, Nat.reduceLT, Nat.reduceLeDiff, Option.some.injEq, exists_eq_left', Int.toNat_natCast, Nat.reduceSub, List.append_nil, List.replicate_succ, List.replicate_zero]
      exact fin Y X hYn hXn (by omega) (Or.inr ⟨rfl, rfl⟩) _ rfl
    · refine c38 _ _ _ ?_
      simp only [b_X1_join_38, i_ld, i_la, i_st, i_sa, i_c, i_inc, i_add, i_sub, i_mul, i_div, i_rem, i_remT, i_xor, i_dup, i_dup2, i_if, i_if2, i_sw, i_gi, i_gr, i_pi, i_pz, i_ial, i_ias, i_len, i_aal, i_gs, i_tal, i_cv, i_cs, i_ir, i_zr, i_vr, i_min, i_max, i_cpy, List.getElem?_cons_zero, List.getElem?_cons_succ, List.set_cons_zero, List.set_cons_succ, List.length_cons, List.length_nil, List.drop_succ_cons, List.drop_zero, List.take_succ_cons, List.take_zero, List.reverse_cons, List.reverse_nil, List.nil_append, List.cons_append, Option.toList_some, Option.toList_none, true_and, and_true, true_or, or_true, Nat.reduceAdd, Nat.reduceLT, Nat.reduceLeDiff, Option.some.injEq, exists_eq_left', Int.toNat_natCast, Nat.reduceSub, List.append_nil, List.replicate_succ, List.replicate_zero]
      exact fin X Y hXn hYn (by omega) (Or.inl ⟨rfl, rfl⟩) _ rfl
  · exact hT.elim
theorem sp_X1_join : mm_Sp yX1_join cX1_join 5 none rm_X1_join T_X1_join := mm_meth (by decide) (by
  intro av σ Post h
  unfold T_X1_join at h
  split at h
  · simp
  · exact h.elim) (fun p l e s m args below meth c G av σ Post hC hr _ hav hin hk hT => pv_X1_join av σ Post hav hin hk hT _ (bk_X1_join hC hr))

def T_X1_countClasses : mm_T := fun av σ Post => match av with
  | [.inr (some a)] => σ.2 = mm_R0 ∧ (mm_sh a).1 = 1 ∧ 0 ≤ σ.1 a 1 ∧ σ.1 a 1 ≤ (mm_sh (a + 1)).2 ∧ ufi σ.1 (a + 1) (σ.1 a 1).toNat ∧ Post (some (.inl (nr (rt (fi σ.1 (a + 1))) (σ.1 a 1).toNat))) σ
  | _ => False
def rm_X1_countClasses : Room := { frames := 0, cells := 0, slots := 0, locals := 0 }
def b_X1_countClasses_0 (Ok : Nat → mm_K) (Post : Option mm_V → mm_S → Prop) (kf : Nat) : mm_K := i_c 0 (i_st 1 (i_c 0 (i_st 2 (Ok 4))))
def b_X1_countClasses_4 (Ok : Nat → mm_K) (Post : Option mm_V → mm_S → Prop) (kf : Nat) : mm_K := i_ld 2 (i_la 0 (i_gi 1 1 (i_if2 (fun x y => y ≤ x) (i_ld 1 (i_ir Post kf)) (i_ld 1 (i_la 0 (i_gr 1 0 (i_ld 2 (i_ial (i_ld 2 (i_if2 (fun x y => ¬ x = y) (i_c 0 (Ok 28)) (i_c 1 (Ok 28))))))))))))
def b_X1_countClasses_28 (Ok : Nat → mm_K) (Post : Option mm_V → mm_S → Prop) (kf : Nat) : mm_K := i_add (i_st 1 (i_inc 2 1 (Ok 4)))
def clo_X1_countClasses (Ok : Nat → mm_K) (Post : Option mm_V → mm_S → Prop) (kf : Nat) : Prop := mm_imp (b_X1_countClasses_0 Ok Post kf) (Ok 0) ∧ mm_imp (b_X1_countClasses_4 Ok Post kf) (Ok 4) ∧ mm_imp (b_X1_countClasses_28 Ok Post kf) (Ok 28)
set_option maxRecDepth 100000 in
set_option maxHeartbeats 4000000 in
theorem bk_X1_countClasses {p : Program} {l : Launch} {e : Env} {s : State} {m : MethodId} {args : Array Value} {below : List Frame} {meth : Method} {c : Code} {G : mm_G} {σ0 : mm_S} {Post : Option mm_V → mm_S → Prop} (hC : mm_C p G s m args meth c cX1_countClasses yX1_countClasses.cls) (hr : meth.sig.returnType = some .int) : clo_X1_countClasses (mm_O p l e rm_X1_countClasses s m args below meth c G σ0.2.2 (MQ below (mm_Qc G σ0 rm_X1_countClasses.cells rm_X1_countClasses.slots Post) args s rm_X1_countClasses.cells rm_X1_countClasses.slots (mm_A G))) Post σ0.2.2 := ⟨(by unfold b_X1_countClasses_0; exact (mm_ic hC dX1_countClasses_0 ⟨by decide, by decide⟩ (mm_st_n hC dX1_countClasses_1 rfl (mm_ic hC dX1_countClasses_2 ⟨by decide, by decide⟩ (mm_st_n hC dX1_countClasses_3 rfl (fun _ _ _ h => h)))))), (by unfold b_X1_countClasses_4; exact (mm_ld_n hC dX1_countClasses_4 rfl (mm_la_n hC dX1_countClasses_5 rfl (mm_gi hC cl_1 (by decide) rfl wd_159 dX1_countClasses_6 (mm_ic_ge hC (t := 36) dX1_countClasses_9 (by decide) (mm_ld_n hC dX1_countClasses_36 rfl (mm_ir hC ⟨rfl, rfl⟩ hr dX1_countClasses_37)) (mm_ld_n hC dX1_countClasses_12 rfl (mm_la_n hC dX1_countClasses_13 rfl (mm_gr hC cl_1 (by decide) rfl wd_158 dX1_countClasses_14 (mm_ld_n hC dX1_countClasses_17 rfl (mm_ial hC dX1_countClasses_18 (mm_ld_n hC dX1_countClasses_19 rfl (mm_ic_ne hC (t := 27) dX1_countClasses_20 (by decide) (mm_ic hC dX1_countClasses_27 ⟨by decide, by decide⟩ (fun _ _ _ h => h)) (mm_ic hC dX1_countClasses_23 ⟨by decide, by decide⟩ (mm_goto hC (t := 28) dX1_countClasses_24 (by decide) (fun _ _ _ h => h))))))))))))))), (by unfold b_X1_countClasses_28; exact (mm_add hC dX1_countClasses_28 (mm_st_n hC dX1_countClasses_29 rfl (mm_inc hC dX1_countClasses_30 (mm_goto hC (t := 4) dX1_countClasses_33 (by decide) (fun _ _ _ h => h))))))⟩
set_option maxRecDepth 100000 in
set_option maxHeartbeats 8000000 in
theorem pv_X1_countClasses : ∀ (av : List mm_V) (σ : mm_S) (Post : Option mm_V → mm_S → Prop), (∀ v ∈ av, mm_iv v) → (∀ a j, mm_in (σ.1 a j)) → σ.2.2 ≤ 348 → T_X1_countClasses av σ Post → ∀ Ok : Nat → mm_K, clo_X1_countClasses Ok Post σ.2.2 → Ok 0 (av ++ List.replicate (3 - av.length) (.inr none)) [] σ := by
  intro av σ Post hav hin hk hT Ok hcl
  obtain ⟨I, R0⟩ := σ
  unfold T_X1_countClasses at hT
  split at hT
  · rename_i a
    obtain ⟨h0, hT⟩ := hT
    have h0 : R0 = mm_R0 := h0
    subst h0
    dsimp only at hT hin
    obtain ⟨c0, c4, c28⟩ := hcl
    obtain ⟨h1, h2, h3, h4, hP⟩ := hT
    have ha := sh_lt h1 (by decide)
    obtain ⟨hs1, hs2⟩ := sh_cl a ha h1
    have hR : ∀ j, mm_Rs a j = some (a + 1) := fun j => Rs_cl h1
    have hle := (mm_shOk (a + 1) hs2).1
    obtain ⟨n, hn⟩ := Int.eq_ofNat_of_zero_le h2
    rw [hn, Int.toNat_natCast] at h4 hP
    rw [hn] at h3
    have loop : ∀ (d i : Nat), i + d = n → Ok 4 [.inr (some a), .inl (nr (rt (fi I (a + 1))) i), .inl (i : Int)] [] (I, mm_R0) := by
      intro d
      induction d with
      | zero =>
        intro i hd
        refine c4 _ _ _ ?_
        simp only [b_X1_countClasses_4, i_ld, i_la, i_st, i_sa, i_c, i_inc, i_add, i_sub, i_mul, i_div, i_rem, i_remT, i_xor, i_dup, i_dup2, i_if, i_if2, i_sw, i_gi, i_gr, i_pi, i_pz, i_ial, i_ias, i_len, i_aal, i_gs, i_tal, i_cv, i_cs, i_ir, i_zr, i_vr, i_min, i_max, i_cpy, List.getElem?_cons_zero, List.getElem?_cons_succ, List.set_cons_zero, List.set_cons_succ, List.length_cons, List.length_nil, List.drop_succ_cons, List.drop_zero, List.take_succ_cons, List.take_zero, List.reverse_cons, List.reverse_nil, List.nil_append, List.cons_append, Option.toList_some, Option.toList_none, true_and, and_true, true_or, or_true, Nat.reduceAdd, Nat.reduceLT, Nat.reduceLeDiff, Option.some.injEq, exists_eq_left', Int.toNat_natCast, Nat.reduceSub, List.append_nil, List.replicate_succ, List.replicate_zero, ha, h1, hs1, hs2, hR, hn]
        refine fun _ => ⟨fun q => ?_, fun q => ?_⟩
        · rw [show i = n by omega]
          exact hP
        · omega
      | succ d ih =>
        intro i hd
        have hnb := nr_b (rt (fi I (a + 1))) i
        have hi := h4 i (by omega)
        have hiff : I (a + 1) i = (i : Int) ↔ rt (fi I (a + 1)) i = i := by
          constructor
          · intro e; exact rt_top (by unfold fi; omega)
          · intro e
            have := rt_root (fi I (a + 1)) i
            rw [e] at this
            unfold fi at this
            omega
        have hs : nr (rt (fi I (a + 1))) (i + 1) = nr (rt (fi I (a + 1))) i + if rt (fi I (a + 1)) i = i then 1 else 0 := rfl
        refine c4 _ _ _ ?_
        simp only [b_X1_countClasses_4, i_ld, i_la, i_st, i_sa, i_c, i_inc, i_add, i_sub, i_mul, i_div, i_rem, i_remT, i_xor, i_dup, i_dup2, i_if, i_if2, i_sw, i_gi, i_gr, i_pi, i_pz, i_ial, i_ias, i_len, i_aal, i_gs, i_tal, i_cv, i_cs, i_ir, i_zr, i_vr, i_min, i_max, i_cpy, List.getElem?_cons_zero, List.getElem?_cons_succ, List.set_cons_zero, List.set_cons_succ, List.length_cons, List.length_nil, List.drop_succ_cons, List.drop_zero, List.take_succ_cons, List.take_zero, List.reverse_cons, List.reverse_nil, List.nil_append, List.cons_append, Option.toList_some, Option.toList_none, true_and, and_true, true_or, or_true, Nat.reduceAdd, Nat.reduceLT, Nat.reduceLeDiff, Option.some.injEq, exists_eq_left', Int.toNat_natCast, Nat.reduceSub, List.append_nil, List.replicate_succ, List.replicate_zero, ha, h1, hs1, hs2, hR, hn]
        refine fun _ => ⟨fun q => ?_, fun q => ?_⟩
        · omega
        · refine ⟨⟨by omega, by omega⟩, fun _ => ⟨fun e => ?_, fun e => ?_⟩⟩
          · refine c28 _ _ _ ?_
            simp only [b_X1_countClasses_28, i_ld, i_la, i_st, i_sa, i_c, i_inc, i_add, i_sub, i_mul, i_div, i_rem, i_remT, i_xor, i_dup, i_dup2, i_if, i_if2, i_sw, i_gi, i_gr, i_pi, i_pz, i_ial, i_ias, i_len, i_aal, i_gs, i_tal, i_cv, i_cs, i_ir, i_zr, i_vr, i_min, i_max, i_cpy, List.getElem?_cons_zero, List.getElem?_cons_succ, List.set_cons_zero, List.set_cons_succ, List.length_cons, List.length_nil, List.drop_succ_cons, List.drop_zero, List.take_succ_cons, List.take_zero, List.reverse_cons, List.reverse_nil, List.nil_append, List.cons_append, Option.toList_some, Option.toList_none, true_and, and_true, true_or, or_true, Nat.reduceAdd, Nat.reduceLT, Nat.reduceLeDiff, Option.some.injEq, exists_eq_left', Int.toNat_natCast, Nat.reduceSub, List.append_nil, List.replicate_succ, List.replicate_zero]
            refine ⟨⟨by omega, by omega⟩, ⟨by omega, by omega⟩, ?_⟩
            have := ih (i + 1) (by omega)
            rw [hs, if_neg (fun z => e (hiff.mpr z))] at this
            exact this
          · refine c28 _ _ _ ?_
            simp only [b_X1_countClasses_28, i_ld, i_la, i_st, i_sa, i_c, i_inc, i_add, i_sub, i_mul, i_div, i_rem, i_remT, i_xor, i_dup, i_dup2, i_if, i_if2, i_sw, i_gi, i_gr, i_pi, i_pz, i_ial, i_ias, i_len, i_aal, i_gs, i_tal, i_cv, i_cs, i_ir, i_zr, i_vr, i_min, i_max, i_cpy, List.getElem?_cons_zero, List.getElem?_cons_succ, List.set_cons_zero, List.set_cons_succ, List.length_cons, List.length_nil, List.drop_succ_cons, List.drop_zero, List.take_succ_cons, List.take_zero, List.reverse_cons, List.reverse_nil, List.nil_append, List.cons_append, Option.toList_some, Option.toList_none, true_and, and_true, true_or, or_true, Nat.reduceAdd, Nat.reduceLT, Nat.reduceLeDiff, Option.some.injEq, exists_eq_left', Int.toNat_natCast, Nat.reduceSub, List.append_nil, List.replicate_succ, List.replicate_zero]
            refine ⟨⟨by omega, by omega⟩, ⟨by omega, by omega⟩, ?_⟩
            have := ih (i + 1) (by omega)
            rw [hs, if_pos (hiff.mp (by omega))] at this
            exact this
    refine c0 _ _ _ ?_
    simp only [b_X1_countClasses_0, i_ld, i_la, i_st, i_sa, i_c, i_inc, i_add, i_sub, i_mul, i_div, i_rem, i_remT, i_xor, i_dup, i_dup2, i_if, i_if2, i_sw, i_gi, i_gr, i_pi, i_pz, i_ial, i_ias, i_len, i_aal, i_gs, i_tal, i_cv, i_cs, i_ir, i_zr, i_vr, i_min, i_max, i_cpy, List.getElem?_cons_zero, List.getElem?_cons_succ, List.set_cons_zero, List.set_cons_succ, List.length_cons, List.length_nil, List.drop_succ_cons, List.drop_zero, List.take_succ_cons, List.take_zero, List.reverse_cons, List.reverse_nil, List.nil_append, List.cons_append, Option.toList_some, Option.toList_none, true_and, and_true, true_or, or_true, Nat.reduceAdd, Nat.reduceLT, Nat.reduceLeDiff, Option.some.injEq, exists_eq_left', Int.toNat_natCast, Nat.reduceSub, List.append_nil, List.replicate_succ, List.replicate_zero]
    exact loop n 0 (by omega)
  · exact hT.elim
theorem sp_X1_countClasses : mm_Sp yX1_countClasses cX1_countClasses 3 (some .int) rm_X1_countClasses T_X1_countClasses := mm_meth (by decide) (by
  intro av σ Post h
  unfold T_X1_countClasses at h
  split at h
  · simp
  · exact h.elim) (fun p l e s m args below meth c G av σ Post hC hr _ hav hin hk hT => pv_X1_countClasses av σ Post hav hin hk hT _ (bk_X1_countClasses hC hr))

def T_X1_numberThem : mm_T := fun av σ Post => match av with
  | [.inr (some a), .inr (some u)] => σ.2 = mm_R0 ∧ (mm_sh a).1 = 1 ∧ (mm_sh u).1 = 100 ∧ u ≠ a + 1 ∧ 0 ≤ σ.1 a 1 ∧ σ.1 a 1 ≤ (mm_sh (a + 1)).2 ∧ σ.1 a 1 ≤ (mm_sh u).2 ∧ ufi σ.1 (a + 1) (σ.1 a 1).toNat ∧
    ∀ I' : Nat → Nat → Int, (∀ b, b ≠ a + 1 → b ≠ u → I' b = σ.1 b) → ufi I' (a + 1) (σ.1 a 1).toNat → (∀ y, y < (σ.1 a 1).toNat → rt (fi I' (a + 1)) y = rt (fi σ.1 (a + 1)) y) →
      (∀ y, y < (σ.1 a 1).toNat → I' u y = nr (rt (fi σ.1 (a + 1))) (rt (fi σ.1 (a + 1)) y)) → Post (some (.inl (nr (rt (fi σ.1 (a + 1))) (σ.1 a 1).toNat))) (I', mm_R0)
  | _ => False
def rm_X1_numberThem : Room := { frames := 1, cells := 0, slots := 0, locals := 23 }
def b_X1_numberThem_0 (Ok : Nat → mm_K) (Post : Option mm_V → mm_S → Prop) (kf : Nat) : mm_K := i_c 0 (i_st 2 (i_c 0 (i_st 3 (Ok 4))))
def b_X1_numberThem_4 (Ok : Nat → mm_K) (Post : Option mm_V → mm_S → Prop) (kf : Nat) : mm_K := i_ld 3 (i_la 0 (i_gi 1 1 (i_if2 (fun x y => y ≤ x) (i_ld 2 (i_ir Post kf)) (i_la 0 (i_ld 3 (i_cv 1 1 T_X1_least (i_st 4 (i_ld 4 (i_ld 3 (i_if2 (fun x y => ¬ x = y) (i_la 1 (i_ld 3 (i_la 1 (i_ld 4 (i_ial (i_ias (Ok 42))))))) (i_la 1 (i_ld 3 (i_ld 2 (i_ias (i_inc 2 1 (Ok 42))))))))))))))))
def b_X1_numberThem_42 (Ok : Nat → mm_K) (Post : Option mm_V → mm_S → Prop) (kf : Nat) : mm_K := i_inc 3 1 (Ok 4)
def clo_X1_numberThem (Ok : Nat → mm_K) (Post : Option mm_V → mm_S → Prop) (kf : Nat) : Prop := mm_imp (b_X1_numberThem_0 Ok Post kf) (Ok 0) ∧ mm_imp (b_X1_numberThem_4 Ok Post kf) (Ok 4) ∧ mm_imp (b_X1_numberThem_42 Ok Post kf) (Ok 42)
set_option maxRecDepth 100000 in
set_option maxHeartbeats 4000000 in
theorem bk_X1_numberThem {p : Program} {l : Launch} {e : Env} {s : State} {m : MethodId} {args : Array Value} {below : List Frame} {meth : Method} {c : Code} {G : mm_G} {σ0 : mm_S} {Post : Option mm_V → mm_S → Prop} (hC : mm_C p G s m args meth c cX1_numberThem yX1_numberThem.cls) (hr : meth.sig.returnType = some .int) : clo_X1_numberThem (mm_O p l e rm_X1_numberThem s m args below meth c G σ0.2.2 (MQ below (mm_Qc G σ0 rm_X1_numberThem.cells rm_X1_numberThem.slots Post) args s rm_X1_numberThem.cells rm_X1_numberThem.slots (mm_A G))) Post σ0.2.2 := ⟨(by unfold b_X1_numberThem_0; exact (mm_ic hC dX1_numberThem_0 ⟨by decide, by decide⟩ (mm_st_n hC dX1_numberThem_1 rfl (mm_ic hC dX1_numberThem_2 ⟨by decide, by decide⟩ (mm_st_n hC dX1_numberThem_3 rfl (fun _ _ _ h => h)))))), (by unfold b_X1_numberThem_4; exact (mm_ld_n hC dX1_numberThem_4 rfl (mm_la_n hC dX1_numberThem_5 rfl (mm_gi hC cl_1 (by decide) rfl wd_159 dX1_numberThem_6 (mm_ic_ge hC (t := 48) dX1_numberThem_9 (by decide) (mm_ld_n hC dX1_numberThem_48 rfl (mm_ir hC ⟨rfl, rfl⟩ hr dX1_numberThem_49)) (mm_la_n hC dX1_numberThem_12 rfl (mm_ld_n hC dX1_numberThem_13 rfl (mm_cv hC sp_X1_least ⟨rfl, rfl⟩ cl_1 wd_392 wd_393 wd_394 wd_395 wd_71 ⟨by decide, by decide, by decide +kernel⟩ ⟨by decide, by decide⟩ dX1_numberThem_14 (mm_st hC dX1_numberThem_17 (mm_ld hC dX1_numberThem_19 (mm_ld_n hC dX1_numberThem_21 rfl (mm_ic_ne hC (t := 35) dX1_numberThem_22 (by decide) (mm_la_n hC dX1_numberThem_35 rfl (mm_ld_n hC dX1_numberThem_36 rfl (mm_la_n hC dX1_numberThem_37 rfl (mm_ld hC dX1_numberThem_38 (mm_ial hC dX1_numberThem_40 (mm_ias hC dX1_numberThem_41 (fun _ _ _ h => h))))))) (mm_la_n hC dX1_numberThem_25 rfl (mm_ld_n hC dX1_numberThem_26 rfl (mm_ld_n hC dX1_numberThem_27 rfl (mm_ias hC dX1_numberThem_28 (mm_inc hC dX1_numberThem_29 (mm_goto hC (t := 42) dX1_numberThem_32 (by decide) (fun _ _ _ h => h))))))))))))))))))), (by unfold b_X1_numberThem_42; exact (mm_inc hC dX1_numberThem_42 (mm_goto hC (t := 4) dX1_numberThem_45 (by decide) (fun _ _ _ h => h))))⟩
set_option maxRecDepth 100000 in
set_option maxHeartbeats 8000000 in
theorem pv_X1_numberThem : ∀ (av : List mm_V) (σ : mm_S) (Post : Option mm_V → mm_S → Prop), (∀ v ∈ av, mm_iv v) → (∀ a j, mm_in (σ.1 a j)) → σ.2.2 ≤ 348 → T_X1_numberThem av σ Post → ∀ Ok : Nat → mm_K, clo_X1_numberThem Ok Post σ.2.2 → Ok 0 (av ++ List.replicate (5 - av.length) (.inr none)) [] σ := by
  intro av σ Post hav hin hk hT Ok hcl
  obtain ⟨I, R0⟩ := σ
  unfold T_X1_numberThem at hT
  split at hT
  · rename_i a u
    obtain ⟨h0, hT⟩ := hT
    have h0 : R0 = mm_R0 := h0
    subst h0
    dsimp only at hT hin
    obtain ⟨c0, c4, c42⟩ := hcl
    obtain ⟨h1, h2, h3, h4, h5, h6, h7, hP⟩ := hT
    have ha := sh_lt h1 (by decide)
    have hu := sh_lt h2 (by decide)
    obtain ⟨hs1, hs2⟩ := sh_cl a ha h1
    have hua : u ≠ a := fun e => by rw [e, h1] at h2; cases h2
    have hle := (mm_shOk (a + 1) hs2).1
    obtain ⟨n, hn⟩ := Int.eq_ofNat_of_zero_le h4
    rw [hn, Int.toNat_natCast] at h7 hP
    rw [hn] at h5 h6
    obtain ⟨L, hL⟩ : ∃ L, rt (fi I (a + 1)) = L := ⟨_, rfl⟩
    rw [hL] at hP
    have hLr : ∀ y, L (L y) = L y := fun y => by rw [← hL]; exact rt_rt _ _
    have hLl : ∀ y, L y ≤ y := fun y => by rw [← hL]; exact rt_le _ _
    have loop : ∀ (d i : Nat) (I' : Nat → Nat → Int) (w : mm_V), i + d = n → (∀ b, b ≠ a + 1 → b ≠ u → I' b = I b) → ufi I' (a + 1) n → (∀ y, y < n → rt (fi I' (a + 1)) y = L y) → (∀ y, y < i → I' u y = nr L (L y)) → Ok 4 [.inr (some a), .inr (some u), .inl (nr L i), .inl (i : Int), w] [] (I', mm_R0) := by
      intro d
      induction d with
      | zero =>
        intro i I' w hd hI hu1 hr hN
        have hx : I' a 1 = n := by rw [hI a (by omega) (fun e => hua e.symm), hn]
        refine c4 _ _ _ ?_
        simp only [b_X1_numberThem_4, i_ld, i_la, i_st, i_sa, i_c, i_inc, i_add, i_sub, i_mul, i_div, i_rem, i_remT, i_xor, i_dup, i_dup2, i_if, i_if2, i_sw, i_gi, i_gr, i_pi, i_pz, i_ial, i_ias, i_len, i_aal, i_gs, i_tal, i_cv, i_cs, i_ir, i_zr, i_vr, i_min, i_max, i_cpy, List.getElem?_cons_zero, List.getElem?_cons_succ, List.set_cons_zero, List.set_cons_succ, List.length_cons, List.length_nil, List.drop_succ_cons, List.drop_zero, List.take_succ_cons, List.take_zero, List.reverse_cons, List.reverse_nil, List.nil_append, List.cons_append, Option.toList_some, Option.toList_none, true_and, and_true, true_or, or_true, Nat.reduceAdd, Nat.reduceLT, Nat.reduceLeDiff, Option.some.injEq, exists_eq_left', Int.toNat_natCast, Nat.reduceSub, List.append_nil, List.replicate_succ, List.replicate_zero, ha, h1, hx]
        refine fun _ => ⟨fun q => ?_, fun q => ?_⟩
        · have := hP I' hI hu1 hr (fun y hy => hN y (by omega))
          rw [show i = n by omega]
          exact this
        · omega
      | succ d ih =>
        intro i I' w hd hI hu1 hr hN
        have hx : I' a 1 = n := by rw [hI a (by omega) (fun e => hua e.symm), hn]
        have hnb := nr_b L i
        have hs : nr L (i + 1) = nr L i + if L i = i then 1 else 0 := rfl
        have hLi := hLl i
        refine c4 _ _ _ ?_
        simp only [b_X1_numberThem_4, i_ld, i_la, i_st, i_sa, i_c, i_inc, i_add, i_sub, i_mul, i_div, i_rem, i_remT, i_xor, i_dup, i_dup2, i_if, i_if2, i_sw, i_gi, i_gr, i_pi, i_pz, i_ial, i_ias, i_len, i_aal, i_gs, i_tal, i_cv, i_cs, i_ir, i_zr, i_vr, i_min, i_max, i_cpy, List.getElem?_cons_zero, List.getElem?_cons_succ, List.set_cons_zero, List.set_cons_succ, List.length_cons, List.length_nil, List.drop_succ_cons, List.drop_zero, List.take_succ_cons, List.take_zero, List.reverse_cons, List.reverse_nil, List.nil_append, List.cons_append, Option.toList_some, Option.toList_none, true_and, and_true, true_or, or_true, Nat.reduceAdd, Nat.reduceLT, Nat.reduceLeDiff, Option.some.injEq, exists_eq_left', Int.toNat_natCast, Nat.reduceSub, List.append_nil, List.replicate_succ, List.replicate_zero, ha, h1, hx, T_X1_least, hu, h2, hr i (by omega)]
        refine fun _ => ⟨fun q => by omega, fun q => ⟨by omega, by omega, h5, hu1, fun I2 f2 u2 r2 => ?_⟩⟩
        have fu : I2 u = I' u := f2 u h3
        have key : ∀ v : Int, v = nr L (L i) → (∀ b, b ≠ a + 1 → b ≠ u → mm_set I2 u i v b = I b) ∧ ufi (mm_set I2 u i v) (a + 1) n ∧ (∀ y, y < n → rt (fi (mm_set I2 u i v) (a + 1)) y = L y) ∧ (∀ y, y < i + 1 → mm_set I2 u i v u y = nr L (L y)) := by
          intro v hv
          have hrow : mm_set I2 u i v (a + 1) = I2 (a + 1) := by
            funext j
            have : ¬ a + 1 = u := fun e => h3 e.symm
            simp [mm_set, this]
          refine ⟨fun b hb1 hb2 => ?_, ?_, fun y hy => ?_, fun y hy => ?_⟩
          · rw [← hI b hb1 hb2, ← f2 b hb1]; funext j; simp [mm_set, hb2]
          · unfold ufi; rw [hrow]; exact u2
          · unfold fi; rw [hrow]; exact (r2 y hy).trans (hr y hy)
          · by_cases e : y = i
            · subst e; simp [mm_set, hv]
            · simp [mm_set, e]; rw [fu]; exact hN y (by omega)
        refine ⟨fun e => ⟨⟨by omega, by omega⟩, fun _ => ⟨⟨by omega, by omega⟩, ?_⟩⟩, fun e => ⟨⟨by omega, by omega⟩, ⟨by omega, by omega⟩, ?_⟩⟩
        · obtain ⟨q1, q2, q3, q4⟩ := key (I2 u (L i)) (by rw [fu, hN (L i) (by omega), hLr])
          refine c42 _ _ _ ?_
          simp only [b_X1_numberThem_42, i_ld, i_la, i_st, i_sa, i_c, i_inc, i_add, i_sub, i_mul, i_div, i_rem, i_remT, i_xor, i_dup, i_dup2, i_if, i_if2, i_sw, i_gi, i_gr, i_pi, i_pz, i_ial, i_ias, i_len, i_aal, i_gs, i_tal, i_cv, i_cs, i_ir, i_zr, i_vr, i_min, i_max, i_cpy, List.getElem?_cons_zero, List.getElem?_cons_succ, List.set_cons_zero, List.set_cons_succ, List.length_cons, List.length_nil, List.drop_succ_cons, List.drop_zero, List.take_succ_cons, List.take_zero, List.reverse_cons, List.reverse_nil, List.nil_append, List.cons_append, Option.toList_some, Option.toList_none, true_and, and_true, true_or, or_true, Nat.reduceAdd, Nat.reduceLT, Nat.reduceLeDiff, Option.some.injEq, exists_eq_left', Int.toNat_natCast, Nat.reduceSub, List.append_nil, List.replicate_succ, List.replicate_zero]
          refine ⟨⟨by omega, by omega⟩, ?_⟩
          have := ih (i + 1) _ (.inl ((L i : Nat) : Int)) (by omega) q1 q2 q3 q4
          rw [hs, if_neg (by omega), Int.add_zero] at this
          exact this
        · obtain ⟨q1, q2, q3, q4⟩ := key (nr L i) (by rw [show L i = i by omega])
          refine c42 _ _ _ ?_
          simp only [b_X1_numberThem_42, i_ld, i_la, i_st, i_sa, i_c, i_inc, i_add, i_sub, i_mul, i_div, i_rem, i_remT, i_xor, i_dup, i_dup2, i_if, i_if2, i_sw, i_gi, i_gr, i_pi, i_pz, i_ial, i_ias, i_len, i_aal, i_gs, i_tal, i_cv, i_cs, i_ir, i_zr, i_vr, i_min, i_max, i_cpy, List.getElem?_cons_zero, List.getElem?_cons_succ, List.set_cons_zero, List.set_cons_succ, List.length_cons, List.length_nil, List.drop_succ_cons, List.drop_zero, List.take_succ_cons, List.take_zero, List.reverse_cons, List.reverse_nil, List.nil_append, List.cons_append, Option.toList_some, Option.toList_none, true_and, and_true, true_or, or_true, Nat.reduceAdd, Nat.reduceLT, Nat.reduceLeDiff, Option.some.injEq, exists_eq_left', Int.toNat_natCast, Nat.reduceSub, List.append_nil, List.replicate_succ, List.replicate_zero]
          refine ⟨⟨by omega, by omega⟩, ?_⟩
          have := ih (i + 1) _ (.inl ((L i : Nat) : Int)) (by omega) q1 q2 q3 q4
          rw [hs, if_pos (by omega)] at this
          exact this
    refine c0 _ _ _ ?_
    simp only [b_X1_numberThem_0, i_ld, i_la, i_st, i_sa, i_c, i_inc, i_add, i_sub, i_mul, i_div, i_rem, i_remT, i_xor, i_dup, i_dup2, i_if, i_if2, i_sw, i_gi, i_gr, i_pi, i_pz, i_ial, i_ias, i_len, i_aal, i_gs, i_tal, i_cv, i_cs, i_ir, i_zr, i_vr, i_min, i_max, i_cpy, List.getElem?_cons_zero, List.getElem?_cons_succ, List.set_cons_zero, List.set_cons_succ, List.length_cons, List.length_nil, List.drop_succ_cons, List.drop_zero, List.take_succ_cons, List.take_zero, List.reverse_cons, List.reverse_nil, List.nil_append, List.cons_append, Option.toList_some, Option.toList_none, true_and, and_true, true_or, or_true, Nat.reduceAdd, Nat.reduceLT, Nat.reduceLeDiff, Option.some.injEq, exists_eq_left', Int.toNat_natCast, Nat.reduceSub, List.append_nil, List.replicate_succ, List.replicate_zero]
    exact loop n 0 I _ (by omega) (fun _ _ _ => rfl) h7 (fun y _ => by rw [hL]) (fun y hy => by omega)
  · exact hT.elim
theorem sp_X1_numberThem : mm_Sp yX1_numberThem cX1_numberThem 5 (some .int) rm_X1_numberThem T_X1_numberThem := mm_meth (by decide) (by
  intro av σ Post h
  unfold T_X1_numberThem at h
  split at h
  · simp
  · exact h.elim) (fun p l e s m args below meth c G av σ Post hC hr _ hav hin hk hT => pv_X1_numberThem av σ Post hav hin hk hT _ (bk_X1_numberThem hC hr))
