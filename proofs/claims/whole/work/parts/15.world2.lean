/-! World: begin, copyFrom, dropSheet -/
def wlist : List Nat := [2, 43, 59, 75, 91, 107, 123, 139, 155, 171, 187, 203, 219, 235, 251, 267, 283, 305, 322]
theorem w_list : ∀ a, a < 348 → (mm_sh a).1 = 9 → a ∈ wlist := by decide +kernel
theorem w_apart0 : ∀ a ∈ wlist, ∀ b ∈ wlist, a ≠ b → a + 16 ≤ b ∨ b + 16 ≤ a := by decide +kernel
theorem w_apart {a b : Nat} (ha : (mm_sh a).1 = 9) (hb : (mm_sh b).1 = 9) (h : a ≠ b) : a + 16 ≤ b ∨ b + 16 ≤ a :=
  w_apart0 a (w_list a (sh_lt ha (by decide)) ha) b (w_list b (sh_lt hb (by decide)) hb) h
theorem Rs_ws {w : Nat} (h : (mm_sh w).1 = 9) (j : Nat) : mm_Rs (w + 3) j = some (w + 4 + 2 * j) := by
  have hw := sh_lt h (by decide)
  obtain ⟨s0, s1, s2, s3, s4⟩ := sh_world w hw h
  rw [Rs_sheets (by rw [s3])]
def T_X10_begin : mm_T := fun av σ Post => match av with
  | [.inr (some w), .inl x] => σ.2 = mm_R0 ∧ (mm_sh w).1 = 9 ∧
    ∀ I' : Nat → Nat → Int, (∀ b, b ≠ w → b ≠ w + 1 → I' b = σ.1 b) → I' w 0 = x → I' w 1 = 0 → (∀ j, j < 12 → I' (w + 1) j = -1) → Post none (I', mm_R0)
  | _ => False
def rm_X10_begin : Room := { frames := 1, cells := 0, slots := 0, locals := 23 }
def b_X10_begin_0 (Ok : Nat → mm_K) (Post : Option mm_V → mm_S → Prop) (kf : Nat) : mm_K := i_la 0 (i_ld 1 (i_pi 9 0 (i_la 0 (i_c 0 (i_pi 9 1 (i_la 0 (i_gr 9 2 (i_c (-1) (i_cs 2 T_J7_fill_53178 (i_vr Post kf))))))))))
def clo_X10_begin (Ok : Nat → mm_K) (Post : Option mm_V → mm_S → Prop) (kf : Nat) : Prop := mm_imp (b_X10_begin_0 Ok Post kf) (Ok 0)
set_option maxRecDepth 100000 in
set_option maxHeartbeats 4000000 in
theorem bk_X10_begin {p : Program} {l : Launch} {e : Env} {s : State} {m : MethodId} {args : Array Value} {below : List Frame} {meth : Method} {c : Code} {G : mm_G} {σ0 : mm_S} {Post : Option mm_V → mm_S → Prop} (hC : mm_C p G s m args meth c cX10_begin yX10_begin.cls) (hr : meth.sig.returnType = none) : clo_X10_begin (mm_O p l e rm_X10_begin s m args below meth c G σ0.2.2 (MQ below (mm_Qc G σ0 rm_X10_begin.cells rm_X10_begin.slots Post) args s rm_X10_begin.cells rm_X10_begin.slots (mm_A G))) Post σ0.2.2 := (by unfold clo_X10_begin b_X10_begin_0; exact (mm_la_n hC dX10_begin_0 rfl (mm_ld_n hC dX10_begin_1 rfl (mm_pi hC cl_9 (by decide) rfl rfl rfl wd_119 dX10_begin_2 (mm_la_n hC dX10_begin_5 rfl (mm_ic hC dX10_begin_6 ⟨by decide, by decide⟩ (mm_pi hC cl_9 (by decide) rfl rfl rfl wd_123 dX10_begin_7 (mm_la_n hC dX10_begin_10 rfl (mm_gr hC cl_9 (by decide) rfl wd_126 dX10_begin_11 (mm_ic hC dX10_begin_14 ⟨by decide, by decide⟩ (mm_cs hC sp_J7_fill_53178 ⟨rfl, rfl⟩ wd_116 wd_117 wd_118 wd_69 ⟨by decide, by decide, by decide +kernel⟩ ⟨by decide, by decide⟩ dX10_begin_15 (mm_vr hC ⟨rfl, rfl⟩ hr dX10_begin_18))))))))))))
set_option maxRecDepth 100000 in
set_option maxHeartbeats 8000000 in
theorem pv_X10_begin : ∀ (av : List mm_V) (σ : mm_S) (Post : Option mm_V → mm_S → Prop), (∀ v ∈ av, mm_iv v) → (∀ a j, mm_in (σ.1 a j)) → σ.2.2 ≤ 348 → T_X10_begin av σ Post → ∀ Ok : Nat → mm_K, clo_X10_begin Ok Post σ.2.2 → Ok 0 (av ++ List.replicate (2 - av.length) (.inr none)) [] σ := by
  intro av σ Post hav hin hk hT Ok hcl
  obtain ⟨I, R0⟩ := σ
  unfold T_X10_begin at hT
  split at hT
  · rename_i w x
    obtain ⟨h0, hT⟩ := hT
    have h0 : R0 = mm_R0 := h0
    subst h0
    dsimp only at hT hin
    have c0 := hcl
    unfold clo_X10_begin at c0
    obtain ⟨h1, hP⟩ := hT
    have hw := sh_lt h1 (by decide)
    obtain ⟨s0, s1, s2, s3, s4⟩ := sh_world w hw h1
    have hR : ∀ j, mm_Rs w j = some (w + (j - 1)) := fun j => Rs_world h1
    have w1 : w + 1 < 348 := by omega
    refine c0 _ _ _ ?_
    simp only [b_X10_begin_0, i_ld, i_la, i_st, i_sa, i_c, i_inc, i_add, i_sub, i_mul, i_div, i_rem, i_remT, i_xor, i_dup, i_dup2, i_if, i_if2, i_sw, i_gi, i_gr, i_pi, i_pz, i_ial, i_ias, i_len, i_aal, i_gs, i_tal, i_cv, i_cs, i_ir, i_zr, i_vr, i_min, i_max, i_cpy, List.getElem?_cons_zero, List.getElem?_cons_succ, List.set_cons_zero, List.set_cons_succ, List.length_cons, List.length_nil, List.drop_succ_cons, List.drop_zero, List.take_succ_cons, List.take_zero, List.reverse_cons, List.reverse_nil, List.nil_append, List.cons_append, Option.toList_some, Option.toList_none, true_and, and_true, true_or, or_true, Nat.reduceAdd, Nat.reduceLT, Nat.reduceLeDiff, Option.some.injEq, exists_eq_left', Int.toNat_natCast, Nat.reduceSub, List.append_nil, List.replicate_succ, List.replicate_zero, hw, h1, hR, s1, w1, T_J7_fill_53178]
    intro I' q1 q2
    have e1 : I' w = mm_set (mm_set I w 0 x) w 1 0 w := q1 w (by omega)
    refine hP I' (fun b p1 p2 => ?_) ?_ ?_ q2
    · rw [q1 b p2]; funext j; simp [mm_set, p1]
    · rw [e1]; simp [mm_set]
    · rw [e1]; simp [mm_set]
  · exact hT.elim
theorem sp_X10_begin : mm_Sp yX10_begin cX10_begin 2 none rm_X10_begin T_X10_begin := mm_meth (by decide) (by
  intro av σ Post h
  unfold T_X10_begin at h
  split at h
  · simp
  · exact h.elim) (fun p l e s m args below meth c G av σ Post hC hr _ hav hin hk hT => pv_X10_begin av σ Post hav hin hk hT _ (bk_X10_begin hC hr))
def T_X10_copyFrom : mm_T := fun av σ Post => match av with
  | [.inr (some w), .inr (some o)] => σ.2 = mm_R0 ∧ (mm_sh w).1 = 9 ∧ (mm_sh o).1 = 9 ∧ w ≠ o ∧ ∃ n : Nat, σ.1 o 1 = n ∧ n ≤ 6 ∧
    ∀ I' : Nat → Nat → Int, (∀ b, b < w ∨ w + 16 ≤ b → I' b = σ.1 b) → I' w 0 = σ.1 o 0 → I' w 1 = σ.1 o 1 → (∀ j, j < 12 → I' (w + 1) j = σ.1 (o + 1) j) → (∀ j, j < 12 → I' (w + 2) j = σ.1 (o + 2) j) →
      (∀ s, s < n → ∀ i, i < 21 → I' (w + 5 + 2 * s) i = σ.1 (o + 5 + 2 * s) i) → Post none (I', mm_R0)
  | _ => False
def rm_X10_copyFrom : Room := { frames := 2, cells := 0, slots := 0, locals := 49 }
def b_X10_copyFrom_0 (Ok : Nat → mm_K) (Post : Option mm_V → mm_S → Prop) (kf : Nat) : mm_K := i_la 0 (i_la 1 (i_gi 9 0 (i_pi 9 0 (i_la 0 (i_la 1 (i_gi 9 1 (i_pi 9 1 (i_la 1 (i_gr 9 2 (i_c 0 (i_la 0 (i_gr 9 2 (i_c 0 (i_la 0 (i_gr 9 2 (i_len (i_cpy (i_la 1 (i_gr 9 3 (i_c 0 (i_la 0 (i_gr 9 3 (i_c 0 (i_la 0 (i_gr 9 3 (i_len (i_cpy (i_c 0 (i_st 2 (Ok 54))))))))))))))))))))))))))))))
def b_X10_copyFrom_54 (Ok : Nat → mm_K) (Post : Option mm_V → mm_S → Prop) (kf : Nat) : mm_K := i_ld 2 (i_la 0 (i_gi 9 1 (i_if2 (fun x y => y ≤ x) (i_vr Post kf) (i_la 0 (i_gr 9 4 (i_ld 2 (i_aal 101 (i_la 1 (i_gr 9 4 (i_ld 2 (i_aal 101 (i_cv 6 1 T_X7_copyFrom (i_inc 2 1 (Ok 54))))))))))))))
def clo_X10_copyFrom (Ok : Nat → mm_K) (Post : Option mm_V → mm_S → Prop) (kf : Nat) : Prop := mm_imp (b_X10_copyFrom_0 Ok Post kf) (Ok 0) ∧ mm_imp (b_X10_copyFrom_54 Ok Post kf) (Ok 54)
set_option maxRecDepth 100000 in
set_option maxHeartbeats 4000000 in
theorem bk_X10_copyFrom {p : Program} {l : Launch} {e : Env} {s : State} {m : MethodId} {args : Array Value} {below : List Frame} {meth : Method} {c : Code} {G : mm_G} {σ0 : mm_S} {Post : Option mm_V → mm_S → Prop} (hC : mm_C p G s m args meth c cX10_copyFrom yX10_copyFrom.cls) (hr : meth.sig.returnType = none) : clo_X10_copyFrom (mm_O p l e rm_X10_copyFrom s m args below meth c G σ0.2.2 (MQ below (mm_Qc G σ0 rm_X10_copyFrom.cells rm_X10_copyFrom.slots Post) args s rm_X10_copyFrom.cells rm_X10_copyFrom.slots (mm_A G))) Post σ0.2.2 := ⟨(by unfold b_X10_copyFrom_0; exact (mm_la_n hC dX10_copyFrom_0 rfl (mm_la_n hC dX10_copyFrom_1 rfl (mm_gi hC cl_9 (by decide) rfl wd_119 dX10_copyFrom_2 (mm_pi hC cl_9 (by decide) rfl rfl rfl wd_119 dX10_copyFrom_5 (mm_la_n hC dX10_copyFrom_8 rfl (mm_la_n hC dX10_copyFrom_9 rfl (mm_gi hC cl_9 (by decide) rfl wd_123 dX10_copyFrom_10 (mm_pi hC cl_9 (by decide) rfl rfl rfl wd_123 dX10_copyFrom_13 (mm_la_n hC dX10_copyFrom_16 rfl (mm_gr hC cl_9 (by decide) rfl wd_126 dX10_copyFrom_17 (mm_ic hC dX10_copyFrom_20 ⟨by decide, by decide⟩ (mm_la_n hC dX10_copyFrom_21 rfl (mm_gr hC cl_9 (by decide) rfl wd_126 dX10_copyFrom_22 (mm_ic hC dX10_copyFrom_25 ⟨by decide, by decide⟩ (mm_la_n hC dX10_copyFrom_26 rfl (mm_gr hC cl_9 (by decide) rfl wd_126 dX10_copyFrom_27 (mm_len hC dX10_copyFrom_30 (mm_copy hC wd_629 wd_631 wd_630 wd_80 ⟨by decide, by decide⟩ dX10_copyFrom_31 (mm_la_n hC dX10_copyFrom_34 rfl (mm_gr hC cl_9 (by decide) rfl wd_130 dX10_copyFrom_35 (mm_ic hC dX10_copyFrom_38 ⟨by decide, by decide⟩ (mm_la_n hC dX10_copyFrom_39 rfl (mm_gr hC cl_9 (by decide) rfl wd_130 dX10_copyFrom_40 (mm_ic hC dX10_copyFrom_43 ⟨by decide, by decide⟩ (mm_la_n hC dX10_copyFrom_44 rfl (mm_gr hC cl_9 (by decide) rfl wd_130 dX10_copyFrom_45 (mm_len hC dX10_copyFrom_48 (mm_copy hC wd_629 wd_631 wd_630 wd_80 ⟨by decide, by decide⟩ dX10_copyFrom_49 (mm_ic hC dX10_copyFrom_52 ⟨by decide, by decide⟩ (mm_st_n hC dX10_copyFrom_53 rfl (fun _ _ _ h => h)))))))))))))))))))))))))))))))), (by unfold b_X10_copyFrom_54; exact (mm_ld_n hC dX10_copyFrom_54 rfl (mm_la_n hC dX10_copyFrom_55 rfl (mm_gi hC cl_9 (by decide) rfl wd_123 dX10_copyFrom_56 (mm_ic_ge hC (t := 83) dX10_copyFrom_59 (by decide) (mm_vr hC ⟨rfl, rfl⟩ hr dX10_copyFrom_83) (mm_la_n hC dX10_copyFrom_62 rfl (mm_gr hC cl_9 (by decide) rfl wd_132 dX10_copyFrom_63 (mm_ld_n hC dX10_copyFrom_66 rfl (mm_aal hC (t := 1) (by decide) rfl dX10_copyFrom_67 (mm_la_n hC dX10_copyFrom_68 rfl (mm_gr hC cl_9 (by decide) rfl wd_132 dX10_copyFrom_69 (mm_ld_n hC dX10_copyFrom_72 rfl (mm_aal hC (t := 1) (by decide) rfl dX10_copyFrom_73 (mm_cv hC sp_X7_copyFrom ⟨rfl, rfl⟩ cl_6 wd_632 wd_633 wd_634 wd_635 wd_68 ⟨by decide, by decide, by decide +kernel⟩ ⟨by decide, by decide⟩ dX10_copyFrom_74 (mm_inc hC dX10_copyFrom_77 (mm_goto hC (t := 54) dX10_copyFrom_80 (by decide) (fun _ _ _ h => h)))))))))))))))))⟩
set_option maxRecDepth 100000 in
set_option maxHeartbeats 8000000 in
theorem pv_X10_copyFrom : ∀ (av : List mm_V) (σ : mm_S) (Post : Option mm_V → mm_S → Prop), (∀ v ∈ av, mm_iv v) → (∀ a j, mm_in (σ.1 a j)) → σ.2.2 ≤ 348 → T_X10_copyFrom av σ Post → ∀ Ok : Nat → mm_K, clo_X10_copyFrom Ok Post σ.2.2 → Ok 0 (av ++ List.replicate (3 - av.length) (.inr none)) [] σ := by
  intro av σ Post hav hin hk hT Ok hcl
  obtain ⟨I, R0⟩ := σ
  unfold T_X10_copyFrom at hT
  split at hT
  · rename_i w o
    obtain ⟨h0, hT⟩ := hT
    have h0 : R0 = mm_R0 := h0
    subst h0
    dsimp only at hT hin
    obtain ⟨c0, c54⟩ := hcl
    obtain ⟨h1, h2, h3, n, hn, h4, hP⟩ := hT
    have hw := sh_lt h1 (by decide)
    have ho := sh_lt h2 (by decide)
    obtain ⟨s0, s1, s2, s3, s4⟩ := sh_world w hw h1
    obtain ⟨t0, t1, t2, t3, t4⟩ := sh_world o ho h2
    have hR : ∀ j, mm_Rs w j = some (w + (j - 1)) := fun j => Rs_world h1
    have hRo : ∀ j, mm_Rs o j = some (o + (j - 1)) := fun j => Rs_world h2
    have hS : ∀ j, mm_Rs (w + 3) j = some (w + 4 + 2 * j) := fun j => Rs_ws h1 j
    have hSo : ∀ j, mm_Rs (o + 3) j = some (o + 4 + 2 * j) := fun j => Rs_ws h2 j
    have w1 : w + 1 < 348 := by omega
    have w2 : w + 2 < 348 := by omega
    have w3 : w + 3 < 348 := by omega
    have o1 : o + 1 < 348 := by omega
    have o2 : o + 2 < 348 := by omega
    have o3 : o + 3 < 348 := by omega
    have hap := w_apart h1 h2 h3
    have loop : ∀ (d i : Nat) (I' : Nat → Nat → Int), i + d = n → (∀ b, b < w ∨ w + 16 ≤ b → I' b = I b) → I' w 0 = I o 0 → I' w 1 = I o 1 → (∀ j, j < 12 → I' (w + 1) j = I (o + 1) j) → (∀ j, j < 12 → I' (w + 2) j = I (o + 2) j) →
      (∀ s, s < i → ∀ k, k < 21 → I' (w + 5 + 2 * s) k = I (o + 5 + 2 * s) k) → Ok 54 [.inr (some w), .inr (some o), .inl (i : Int)] [] (I', mm_R0) := by
      intro d
      induction d with
      | zero =>
        intro i I' hd q1 q2 q3 q4 q5 q6
        refine c54 _ _ _ ?_
        simp only [b_X10_copyFrom_54, i_ld, i_la, i_st, i_sa, i_c, i_inc, i_add, i_sub, i_mul, i_div, i_rem, i_remT, i_xor, i_dup, i_dup2, i_if, i_if2, i_sw, i_gi, i_gr, i_pi, i_pz, i_ial, i_ias, i_len, i_aal, i_gs, i_tal, i_cv, i_cs, i_ir, i_zr, i_vr, i_min, i_max, i_cpy, List.getElem?_cons_zero, List.getElem?_cons_succ, List.set_cons_zero, List.set_cons_succ, List.length_cons, List.length_nil, List.drop_succ_cons, List.drop_zero, List.take_succ_cons, List.take_zero, List.reverse_cons, List.reverse_nil, List.nil_append, List.cons_append, Option.toList_some, Option.toList_none, true_and, and_true, true_or, or_true, Nat.reduceAdd, Nat.reduceLT, Nat.reduceLeDiff, Option.some.injEq, exists_eq_left', Int.toNat_natCast, Nat.reduceSub, List.append_nil, List.replicate_succ, List.replicate_zero, hw, h1, q3, hn]
        refine fun _ => ⟨fun z => hP I' q1 q2 q3 q4 q5 (fun s hs => q6 s (by omega)), fun z => by omega⟩
      | succ d ih =>
        intro i I' hd q1 q2 q3 q4 q5 q6
        obtain ⟨g1, g2⟩ := s4 i (by omega)
        obtain ⟨g3, g4⟩ := t4 i (by omega)
        have k1 : w + 4 + 2 * i < 348 := by omega
        have k2 : o + 4 + 2 * i < 348 := by omega
        refine c54 _ _ _ ?_
        simp only [b_X10_copyFrom_54, i_ld, i_la, i_st, i_sa, i_c, i_inc, i_add, i_sub, i_mul, i_div, i_rem, i_remT, i_xor, i_dup, i_dup2, i_if, i_if2, i_sw, i_gi, i_gr, i_pi, i_pz, i_ial, i_ias, i_len, i_aal, i_gs, i_tal, i_cv, i_cs, i_ir, i_zr, i_vr, i_min, i_max, i_cpy, List.getElem?_cons_zero, List.getElem?_cons_succ, List.set_cons_zero, List.set_cons_succ, List.length_cons, List.length_nil, List.drop_succ_cons, List.drop_zero, List.take_succ_cons, List.take_zero, List.reverse_cons, List.reverse_nil, List.nil_append, List.cons_append, Option.toList_some, Option.toList_none, true_and, and_true, true_or, or_true, Nat.reduceAdd, Nat.reduceLT, Nat.reduceLeDiff, Option.some.injEq, exists_eq_left', Int.toNat_natCast, Nat.reduceSub, List.append_nil, List.replicate_succ, List.replicate_zero, hw, ho, h1, h2, q3, hn, hR, hRo, hS, hSo, s3, t3, w3, o3, g1, g3, k1, k2, T_X7_copyFrom]
        refine fun _ => ⟨fun z => by omega, fun z => ⟨⟨by omega, by omega⟩, ⟨by omega, by omega⟩, fun I2 f1 f2 => ⟨⟨by omega, by omega⟩, ?_⟩⟩⟩
        refine ih (i + 1) I2 (by omega) (fun b hb => ?_) ?_ ?_ (fun j hj => ?_) (fun j hj => ?_) (fun s hs k hk => ?_)
        · rw [f1 b (by omega)]; exact q1 b hb
        · rw [f1 w (by omega)]; exact q2
        · rw [f1 w (by omega)]; exact q3
        · rw [f1 (w + 1) (by omega)]; exact q4 j hj
        · rw [f1 (w + 2) (by omega)]; exact q5 j hj
        · by_cases e : s = i
          · subst e
            have := f2 k hk
            rw [show w + 4 + 2 * s + 1 = w + 5 + 2 * s by omega, show o + 4 + 2 * s + 1 = o + 5 + 2 * s by omega, q1 (o + 5 + 2 * s) (by omega)] at this
            exact this
          · rw [f1 (w + 5 + 2 * s) (by omega)]; exact q6 s (by omega) k hk
    have r1 : ¬ o = w := fun e => h3 e.symm
    have ea : ∀ z, mm_set I w 0 z o 1 = I o 1 := fun z => by simp [mm_set, r1]
    refine c0 _ _ _ ?_
    simp only [b_X10_copyFrom_0, i_ld, i_la, i_st, i_sa, i_c, i_inc, i_add, i_sub, i_mul, i_div, i_rem, i_remT, i_xor, i_dup, i_dup2, i_if, i_if2, i_sw, i_gi, i_gr, i_pi, i_pz, i_ial, i_ias, i_len, i_aal, i_gs, i_tal, i_cv, i_cs, i_ir, i_zr, i_vr, i_min, i_max, i_cpy, List.getElem?_cons_zero, List.getElem?_cons_succ, List.set_cons_zero, List.set_cons_succ, List.length_cons, List.length_nil, List.drop_succ_cons, List.drop_zero, List.take_succ_cons, List.take_zero, List.reverse_cons, List.reverse_nil, List.nil_append, List.cons_append, Option.toList_some, Option.toList_none, true_and, and_true, true_or, or_true, Nat.reduceAdd, Nat.reduceLT, Nat.reduceLeDiff, Option.some.injEq, exists_eq_left', Int.toNat_natCast, Nat.reduceSub, List.append_nil, List.replicate_succ, List.replicate_zero, hw, ho, h1, h2, hR, hRo, w1, w2, o1, o2, s1, s2, t1, t2, ea]
    refine fun _ _ => ⟨⟨by omega, by omega, by omega, by omega, by omega⟩, ⟨by omega, by omega, by omega, by omega, by omega⟩, ?_⟩
    refine loop n 0 _ (by omega) (fun b hb => ?_) ?_ ?_ (fun j hj => ?_) (fun j hj => ?_) (fun s hs => by omega)
    · have p1 : b ≠ w := by omega
      have p2 : b ≠ w + 1 := by omega
      have p3 : b ≠ w + 2 := by omega
      funext j; simp [mm_cpy, mm_set, p1, p2, p3]
    · simp [mm_cpy, mm_set]
    · simp [mm_cpy, mm_set]
    · have p1 : ¬ o + 1 = w := by omega
      simp [mm_cpy, mm_set, hj, p1]
    · have p1 : ¬ o + 2 = w := by omega
      have p2 : ¬ o + 2 = w + 1 := by omega
      simp [mm_cpy, mm_set, hj, p1, p2]
  · exact hT.elim
theorem sp_X10_copyFrom : mm_Sp yX10_copyFrom cX10_copyFrom 3 none rm_X10_copyFrom T_X10_copyFrom := mm_meth (by decide) (by
  intro av σ Post h
  unfold T_X10_copyFrom at h
  split at h
  · simp
  · exact h.elim) (fun p l e s m args below meth c G av σ Post hC hr _ hav hin hk hT => pv_X10_copyFrom av σ Post hav hin hk hT _ (bk_X10_copyFrom hC hr))
def T_X10_dropSheet : mm_T := fun av σ Post => match av with
  | [.inr (some w), .inl x] => σ.2 = mm_R0 ∧ (mm_sh w).1 = 9 ∧ ∃ s n : Nat, x = s ∧ σ.1 w 1 = n ∧ s < n ∧ n ≤ 6 ∧
    ∀ I' : Nat → Nat → Int, (∀ b, b ≠ w → (∀ t, t < 6 → b ≠ w + 5 + 2 * t) → I' b = σ.1 b) → I' w 0 = σ.1 w 0 → I' w 1 = σ.1 w 1 - 1 → (∀ t, t < n - 1 → ∀ i, i < 21 → I' (w + 5 + 2 * t) i = if t < s then σ.1 (w + 5 + 2 * t) i else σ.1 (w + 5 + 2 * (t + 1)) i) → Post none (I', mm_R0)
  | _ => False
def rm_X10_dropSheet : Room := { frames := 2, cells := 0, slots := 0, locals := 49 }
def b_X10_dropSheet_0 (Ok : Nat → mm_K) (Post : Option mm_V → mm_S → Prop) (kf : Nat) : mm_K := i_ld 1 (i_st 2 (Ok 2))
def b_X10_dropSheet_2 (Ok : Nat → mm_K) (Post : Option mm_V → mm_S → Prop) (kf : Nat) : mm_K := i_ld 2 (i_c 1 (i_add (i_la 0 (i_gi 9 1 (i_if2 (fun x y => y ≤ x) (i_la 0 (i_dup (i_gi 9 1 (i_c 1 (i_sub (i_pi 9 1 (i_vr Post kf))))))) (i_la 0 (i_gr 9 4 (i_ld 2 (i_aal 101 (i_la 0 (i_gr 9 4 (i_ld 2 (i_c 1 (i_add (i_aal 101 (i_cv 6 1 T_X7_copyFrom (i_inc 2 1 (Ok 2))))))))))))))))))
def clo_X10_dropSheet (Ok : Nat → mm_K) (Post : Option mm_V → mm_S → Prop) (kf : Nat) : Prop := mm_imp (b_X10_dropSheet_0 Ok Post kf) (Ok 0) ∧ mm_imp (b_X10_dropSheet_2 Ok Post kf) (Ok 2)
set_option maxRecDepth 100000 in
set_option maxHeartbeats 4000000 in
theorem bk_X10_dropSheet {p : Program} {l : Launch} {e : Env} {s : State} {m : MethodId} {args : Array Value} {below : List Frame} {meth : Method} {c : Code} {G : mm_G} {σ0 : mm_S} {Post : Option mm_V → mm_S → Prop} (hC : mm_C p G s m args meth c cX10_dropSheet yX10_dropSheet.cls) (hr : meth.sig.returnType = none) : clo_X10_dropSheet (mm_O p l e rm_X10_dropSheet s m args below meth c G σ0.2.2 (MQ below (mm_Qc G σ0 rm_X10_dropSheet.cells rm_X10_dropSheet.slots Post) args s rm_X10_dropSheet.cells rm_X10_dropSheet.slots (mm_A G))) Post σ0.2.2 := ⟨(by unfold b_X10_dropSheet_0; exact (mm_ld_n hC dX10_dropSheet_0 rfl (mm_st_n hC dX10_dropSheet_1 rfl (fun _ _ _ h => h)))), (by unfold b_X10_dropSheet_2; exact (mm_ld_n hC dX10_dropSheet_2 rfl (mm_ic hC dX10_dropSheet_3 ⟨by decide, by decide⟩ (mm_add hC dX10_dropSheet_4 (mm_la_n hC dX10_dropSheet_5 rfl (mm_gi hC cl_9 (by decide) rfl wd_123 dX10_dropSheet_6 (mm_ic_ge hC (t := 35) dX10_dropSheet_9 (by decide) (mm_la_n hC dX10_dropSheet_35 rfl (mm_dup hC dX10_dropSheet_36 (mm_gi hC cl_9 (by decide) rfl wd_123 dX10_dropSheet_37 (mm_ic hC dX10_dropSheet_40 ⟨by decide, by decide⟩ (mm_sub hC dX10_dropSheet_41 (mm_pi hC cl_9 (by decide) rfl rfl rfl wd_123 dX10_dropSheet_42 (mm_vr hC ⟨rfl, rfl⟩ hr dX10_dropSheet_45))))))) (mm_la_n hC dX10_dropSheet_12 rfl (mm_gr hC cl_9 (by decide) rfl wd_132 dX10_dropSheet_13 (mm_ld_n hC dX10_dropSheet_16 rfl (mm_aal hC (t := 1) (by decide) rfl dX10_dropSheet_17 (mm_la_n hC dX10_dropSheet_18 rfl (mm_gr hC cl_9 (by decide) rfl wd_132 dX10_dropSheet_19 (mm_ld_n hC dX10_dropSheet_22 rfl (mm_ic hC dX10_dropSheet_23 ⟨by decide, by decide⟩ (mm_add hC dX10_dropSheet_24 (mm_aal hC (t := 1) (by decide) rfl dX10_dropSheet_25 (mm_cv hC sp_X7_copyFrom ⟨rfl, rfl⟩ cl_6 wd_632 wd_633 wd_634 wd_635 wd_68 ⟨by decide, by decide, by decide +kernel⟩ ⟨by decide, by decide⟩ dX10_dropSheet_26 (mm_inc hC dX10_dropSheet_29 (mm_goto hC (t := 2) dX10_dropSheet_32 (by decide) (fun _ _ _ h => h)))))))))))))))))))))⟩
set_option maxRecDepth 100000 in
set_option maxHeartbeats 8000000 in
theorem pv_X10_dropSheet : ∀ (av : List mm_V) (σ : mm_S) (Post : Option mm_V → mm_S → Prop), (∀ v ∈ av, mm_iv v) → (∀ a j, mm_in (σ.1 a j)) → σ.2.2 ≤ 348 → T_X10_dropSheet av σ Post → ∀ Ok : Nat → mm_K, clo_X10_dropSheet Ok Post σ.2.2 → Ok 0 (av ++ List.replicate (3 - av.length) (.inr none)) [] σ := by
  intro av σ Post hav hin hk hT Ok hcl
  obtain ⟨I, R0⟩ := σ
  unfold T_X10_dropSheet at hT
  split at hT
  · rename_i w x
    obtain ⟨h0, hT⟩ := hT
    have h0 : R0 = mm_R0 := h0
    subst h0
    dsimp only at hT hin
    obtain ⟨c0, c2⟩ := hcl
    obtain ⟨h1, s, n, rfl, hn, h2, h3, hP⟩ := hT
    have hw := sh_lt h1 (by decide)
    obtain ⟨s0, s1, s2, s3, s4⟩ := sh_world w hw h1
    have hR : ∀ j, mm_Rs w j = some (w + (j - 1)) := fun j => Rs_world h1
    have hS : ∀ j, mm_Rs (w + 3) j = some (w + 4 + 2 * j) := fun j => Rs_ws h1 j
    have w3 : w + 3 < 348 := by omega
    have loop : ∀ (d i : Nat) (I' : Nat → Nat → Int), i + d + 1 = n → s ≤ i → (∀ b, (∀ t, t < 6 → b ≠ w + 5 + 2 * t) → I' b = I b) → (∀ t, t < n → ∀ k, k < 21 → I' (w + 5 + 2 * t) k = if t < s ∨ i ≤ t then I (w + 5 + 2 * t) k else I (w + 5 + 2 * (t + 1)) k) → Ok 2 [.inr (some w), .inl (s : Int), .inl (i : Int)] [] (I', mm_R0) := by
      intro d
      induction d with
      | zero =>
        intro i I' hd hsi q1 q2
        have e0 : I' w = I w := q1 w (fun t ht => by omega)
        refine c2 _ _ _ ?_
        simp only [b_X10_dropSheet_2, i_ld, i_la, i_st, i_sa, i_c, i_inc, i_add, i_sub, i_mul, i_div, i_rem, i_remT, i_xor, i_dup, i_dup2, i_if, i_if2, i_sw, i_gi, i_gr, i_pi, i_pz, i_ial, i_ias, i_len, i_aal, i_gs, i_tal, i_cv, i_cs, i_ir, i_zr, i_vr, i_min, i_max, i_cpy, List.getElem?_cons_zero, List.getElem?_cons_succ, List.set_cons_zero, List.set_cons_succ, List.length_cons, List.length_nil, List.drop_succ_cons, List.drop_zero, List.take_succ_cons, List.take_zero, List.reverse_cons, List.reverse_nil, List.nil_append, List.cons_append, Option.toList_some, Option.toList_none, true_and, and_true, true_or, or_true, Nat.reduceAdd, Nat.reduceLT, Nat.reduceLeDiff, Option.some.injEq, exists_eq_left', Int.toNat_natCast, Nat.reduceSub, List.append_nil, List.replicate_succ, List.replicate_zero, hw, h1, e0, hn]
        refine ⟨⟨by omega, by omega⟩, fun _ => ⟨fun z _ => ⟨⟨by omega, by omega⟩, ?_⟩, fun z => by omega⟩⟩
        refine hP _ (fun b p1 p2 => ?_) ?_ ?_ (fun t ht k hk => ?_)
        · rw [← q1 b p2]; funext j; simp [mm_set, p1]
        · simp [mm_set]; rw [e0]
        · simp [mm_set, hn]
        · have p1 : ¬ w + 5 + 2 * t = w := by omega
          simp only [mm_set, p1, false_and, if_false]
          rw [q2 t (by omega) k hk]
          by_cases e : t < s
          · rw [if_pos (Or.inl e), if_pos e]
          · rw [if_neg (by omega), if_neg e]
      | succ d ih =>
        intro i I' hd hsi q1 q2
        have e0 : I' w = I w := q1 w (fun t ht => by omega)
        obtain ⟨g1, g2⟩ := s4 i (by omega)
        obtain ⟨g3, g4⟩ := s4 (i + 1) (by omega)
        have k1 : w + 4 + 2 * i < 348 := by omega
        have k2 : w + 4 + 2 * (i + 1) < 348 := by omega
        have e1 : ((i : Int) + 1).toNat = i + 1 := by omega
        refine c2 _ _ _ ?_
        simp only [b_X10_dropSheet_2, i_ld, i_la, i_st, i_sa, i_c, i_inc, i_add, i_sub, i_mul, i_div, i_rem, i_remT, i_xor, i_dup, i_dup2, i_if, i_if2, i_sw, i_gi, i_gr, i_pi, i_pz, i_ial, i_ias, i_len, i_aal, i_gs, i_tal, i_cv, i_cs, i_ir, i_zr, i_vr, i_min, i_max, i_cpy, List.getElem?_cons_zero, List.getElem?_cons_succ, List.set_cons_zero, List.set_cons_succ, List.length_cons, List.length_nil, List.drop_succ_cons, List.drop_zero, List.take_succ_cons, List.take_zero, List.reverse_cons, List.reverse_nil, List.nil_append, List.cons_append, Option.toList_some, Option.toList_none, true_and, and_true, true_or, or_true, Nat.reduceAdd, Nat.reduceLT, Nat.reduceLeDiff, Option.some.injEq, exists_eq_left', Int.toNat_natCast, Nat.reduceSub, List.append_nil, List.replicate_succ, List.replicate_zero, hw, h1, e0, hn, hR, hS, s3, w3, g1, g3, k1, k2, e1, T_X7_copyFrom]
        refine ⟨⟨by omega, by omega⟩, fun _ => ⟨fun z => by omega, fun z => ⟨⟨by omega, by omega⟩, ⟨by omega, by omega⟩, ⟨by omega, by omega⟩, fun I2 f1 f2 => ⟨⟨by omega, by omega⟩, ?_⟩⟩⟩⟩
        refine ih (i + 1) I2 (by omega) (by omega) (fun b hb => ?_) (fun t ht k hk => ?_)
        · rw [f1 b (by have := hb i (by omega); omega)]; exact q1 b hb
        · by_cases e : t = i
          · subst e
            have := f2 k hk
            rw [show w + 4 + 2 * t + 1 = w + 5 + 2 * t by omega, show w + 4 + 2 * (t + 1) + 1 = w + 5 + 2 * (t + 1) by omega, q2 (t + 1) (by omega) k hk, if_pos (by omega)] at this
            rw [if_neg (by omega)]
            exact this
          · rw [f1 (w + 5 + 2 * t) (by omega), q2 t ht k hk]
            by_cases e2 : t < s ∨ i ≤ t
            · rw [if_pos e2, if_pos (by omega)]
            · rw [if_neg e2, if_neg (by omega)]
    refine c0 _ _ _ ?_
    simp only [b_X10_dropSheet_0, i_ld, i_la, i_st, i_sa, i_c, i_inc, i_add, i_sub, i_mul, i_div, i_rem, i_remT, i_xor, i_dup, i_dup2, i_if, i_if2, i_sw, i_gi, i_gr, i_pi, i_pz, i_ial, i_ias, i_len, i_aal, i_gs, i_tal, i_cv, i_cs, i_ir, i_zr, i_vr, i_min, i_max, i_cpy, List.getElem?_cons_zero, List.getElem?_cons_succ, List.set_cons_zero, List.set_cons_succ, List.length_cons, List.length_nil, List.drop_succ_cons, List.drop_zero, List.take_succ_cons, List.take_zero, List.reverse_cons, List.reverse_nil, List.nil_append, List.cons_append, Option.toList_some, Option.toList_none, true_and, and_true, true_or, or_true, Nat.reduceAdd, Nat.reduceLT, Nat.reduceLeDiff, Option.some.injEq, exists_eq_left', Int.toNat_natCast, Nat.reduceSub, List.append_nil, List.replicate_succ, List.replicate_zero]
    refine loop (n - 1 - s) s I (by omega) (Nat.le_refl _) (fun _ _ => rfl) (fun t ht k hk => ?_)
    rw [if_pos (by omega)]
  · exact hT.elim
theorem sp_X10_dropSheet : mm_Sp yX10_dropSheet cX10_dropSheet 3 none rm_X10_dropSheet T_X10_dropSheet := mm_meth (by decide) (by
  intro av σ Post h
  unfold T_X10_dropSheet at h
  split at h
  · simp
  · exact h.elim) (fun p l e s m args below meth c G av σ Post hC hr _ hav hin hk hT => pv_X10_dropSheet av σ Post hav hin hk hT _ (bk_X10_dropSheet hC hr))
