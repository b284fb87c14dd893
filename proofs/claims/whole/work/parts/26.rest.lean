/-! Math.floorMod, Dice, Past, Book, Image -/
theorem mm_methF {y : MethodName} {bytes : ByteArray} {maxL : Nat} {ret : Option FieldType} {rm : Room} {T : mm_T} (hy : plainFor y = true) (hargs : ∀ av σ Post, T av σ Post → av.length ≤ maxL)
    (body : ∀ (p : Program) (l : Launch) (e : Env) (s : State) (m : MethodId) (args : Array Value) (below : List Frame) (meth : Method) (c : Code) (G : mm_G) (av : List mm_V) (σ : mm_S) (Post : Option mm_V → mm_S → Prop), mm_C p G s m args meth c bytes y.cls → meth.sig.returnType = ret → (meth.name = y.name) → (∀ v ∈ av, mm_iv v) → (∀ a j, mm_in (σ.1 a j)) → σ.2.2 ≤ 348 → T av σ Post →
      mm_O p l e rm s m args below meth c G σ.2.2 (MQ below (mm_Qc G σ rm.cells rm.slots Post) args s rm.cells rm.slots (mm_A G)) 0 (av ++ List.replicate (maxL - av.length) (.inr none)) [] σ) : mm_Sp y bytes maxL ret rm T := by
  intro l G av σ Post hav hT
  have hlen := hargs av σ Post hT
  refine va_MetF (cc := bytes) (maxL := maxL) (ret := ret) hy rfl ?_
  intro p e s m args below meth c s₁ B hml hv
  obtain ⟨rfl, ⟨hP, hK, hZ⟩, hG⟩ := hv
  have hts : ∀ w ∈ lw_gd, w.before (av.map (mm_v G)).toArray s = true := fun w hw => atoms_spec (ws := mm_wds y bytes maxL ret) B.pre w (List.mem_cons_of_mem _ hw)
  have hC : mm_C p G s m (av.map (mm_v G)).toArray meth c bytes y.cls := ⟨B.exec, B.bytes, findClass_of_methodNamed B.named, hts, hK, hZ, B.notSynchronized, hG⟩
  have hb := body p l e s m _ below meth c G av σ Post hC B.returns (name_of_methodNamed B.named B.method).1 hav hP.2.1 hP.2.2.2 hT
  have hlv := lv_entry (av.map (mm_v G)) (n := maxL) (by rw [mm_slv]; simpa using hlen)
  rw [lg_entry_eq]
  have hll : (av ++ List.replicate (maxL - av.length) (.inr none : mm_V)).length = maxL := by simp; omega
  have go := hb ?_ (fun v hv => by cases hv) ((lg_sl (av.map (mm_v G)) ++ List.replicate (maxL - (lg_sl (av.map (mm_v G))).length) Slot.unset).toArray) s.heap [] ⟨by rw [hll]; exact hlv.1, hlv.2.1, fun i v hi hv => ?_⟩ (by rw [hll]; exact hml) ⟨hP, Nat.le_refl _, Nat.le_add_right _ _, Nat.le_add_right _ _⟩ va_S.rf
  · rw [Nat.sub_self, Nat.sub_self] at go
    exact go
  · intro v hv
    rcases List.mem_append.mp hv with h | h
    · exact hav v h
    · rw [(List.mem_replicate.mp h).2]; trivial
  · by_cases hi2 : i < av.length
    · rw [List.getElem?_append_left hi2] at hi
      rw [List.getElem?_toArray, mm_slv, List.getElem?_append_left (by simpa using hi2)]
      simp [hi]
    · rw [List.getElem?_append_right (by omega)] at hi
      have := List.mem_of_getElem? hi
      exact absurd (List.mem_replicate.mp this).2 hv
def T_J9_floorMod_7cf53 : mm_T := fun av σ Post => match av with
  | [.inl x, .inl y] => σ.2 = mm_R0 ∧ y = 16 ∧ -16 ≤ x ∧ x < 16 ∧ Post (some (.inl (x % 16))) σ
  | _ => False
def rm_J9_floorMod_7cf53 : Room := { frames := 0, cells := 0, slots := 0, locals := 0 }
def b_J9_floorMod_7cf53_0 (Ok : Nat → mm_K) (Post : Option mm_V → mm_S → Prop) (kf : Nat) : mm_K := i_ld 0 (i_ld 1 (i_remT (i_st 2 (i_ld 0 (i_ld 1 (i_xorg (i_if (fun x => 0 ≤ x) (Ok 18) (i_ld 2 (i_if (fun x => x = 0) (Ok 18) (i_ld 2 (i_ld 1 (i_add (i_ir Post kf)))))))))))))
def b_J9_floorMod_7cf53_18 (Ok : Nat → mm_K) (Post : Option mm_V → mm_S → Prop) (kf : Nat) : mm_K := i_ld 2 (i_ir Post kf)
def clo_J9_floorMod_7cf53 (Ok : Nat → mm_K) (Post : Option mm_V → mm_S → Prop) (kf : Nat) : Prop := mm_imp (b_J9_floorMod_7cf53_0 Ok Post kf) (Ok 0) ∧ mm_imp (b_J9_floorMod_7cf53_18 Ok Post kf) (Ok 18)
set_option maxRecDepth 100000 in
set_option maxHeartbeats 4000000 in
theorem bk_J9_floorMod_7cf53 {p : Program} {l : Launch} {e : Env} {s : State} {m : MethodId} {args : Array Value} {below : List Frame} {meth : Method} {c : Code} {G : mm_G} {σ0 : mm_S} {Post : Option mm_V → mm_S → Prop} (hC : mm_C p G s m args meth c cJ9_floorMod_7cf53 yJ9_floorMod_7cf53.cls) (hr : meth.sig.returnType = some .int) : clo_J9_floorMod_7cf53 (mm_O p l e rm_J9_floorMod_7cf53 s m args below meth c G σ0.2.2 (MQ below (mm_Qc G σ0 rm_J9_floorMod_7cf53.cells rm_J9_floorMod_7cf53.slots Post) args s rm_J9_floorMod_7cf53.cells rm_J9_floorMod_7cf53.slots (mm_A G))) Post σ0.2.2 := ⟨(by unfold b_J9_floorMod_7cf53_0; exact (mm_ld_n hC dJ9_floorMod_7cf53_0 rfl (mm_ld_n hC dJ9_floorMod_7cf53_1 rfl (mm_remt hC dJ9_floorMod_7cf53_2 (mm_st_n hC dJ9_floorMod_7cf53_3 rfl (mm_ld_n hC dJ9_floorMod_7cf53_4 rfl (mm_ld_n hC dJ9_floorMod_7cf53_5 rfl (mm_xorg hC dJ9_floorMod_7cf53_6 (mm_if_ge hC (t := 18) dJ9_floorMod_7cf53_7 (by decide) (fun _ _ _ h => h) (mm_ld_n hC dJ9_floorMod_7cf53_10 rfl (mm_if_eq hC (t := 18) dJ9_floorMod_7cf53_11 (by decide) (fun _ _ _ h => h) (mm_ld_n hC dJ9_floorMod_7cf53_14 rfl (mm_ld_n hC dJ9_floorMod_7cf53_15 rfl (mm_add hC dJ9_floorMod_7cf53_16 (mm_ir hC ⟨rfl, rfl⟩ hr dJ9_floorMod_7cf53_17))))))))))))))), (by unfold b_J9_floorMod_7cf53_18; exact (mm_ld_n hC dJ9_floorMod_7cf53_18 rfl (mm_ir hC ⟨rfl, rfl⟩ hr dJ9_floorMod_7cf53_19)))⟩
set_option maxRecDepth 100000 in
set_option maxHeartbeats 8000000 in
theorem pv_J9_floorMod_7cf53 : ∀ (av : List mm_V) (σ : mm_S) (Post : Option mm_V → mm_S → Prop), (∀ v ∈ av, mm_iv v) → (∀ a j, mm_in (σ.1 a j)) → σ.2.2 ≤ 348 → T_J9_floorMod_7cf53 av σ Post → ∀ Ok : Nat → mm_K, clo_J9_floorMod_7cf53 Ok Post σ.2.2 → Ok 0 (av ++ List.replicate (3 - av.length) (.inr none)) [] σ := by
  intro av σ Post hav hin hk hT Ok hcl
  obtain ⟨I, R0⟩ := σ
  unfold T_J9_floorMod_7cf53 at hT
  split at hT
  · rename_i x y
    obtain ⟨h0, hT⟩ := hT
    have h0 : R0 = mm_R0 := h0
    subst h0
    dsimp only at hT hin
    obtain ⟨c0, c18⟩ := hcl
    obtain ⟨rfl, h1, h2, hP⟩ := hT
    have hm : x.tmod 16 = if 0 ≤ x then x % 16 else if x = -16 then 0 else x := by
      by_cases z : 0 ≤ x
      · rw [if_pos z, Int.tmod_eq_emod_of_nonneg z]
      · rw [if_neg z]
        have : ∀ k : Nat, k ≤ 16 → 0 < k → (-(k : Int)).tmod 16 = if -(k : Int) = -16 then 0 else -(k : Int) := by decide +kernel
        have h3 := this (-x).toNat (by omega) (by omega)
        rw [show -((-x).toNat : Int) = x by omega] at h3
        exact h3
    have fin : ∀ r : Int, r = x % 16 → Ok 18 [.inl x, .inl 16, .inl r] [] (I, mm_R0) := by
      intro r hr
      refine c18 _ _ _ ?_
      simp only [b_J9_floorMod_7cf53_18, i_xorg, i_shl, i_shr, i_ior, i_and1, i_lcg1, i_lcg2, i_ld, i_la, i_st, i_sa, i_c, i_inc, i_add, i_sub, i_mul, i_div, i_rem, i_remT, i_xor, i_dup, i_dup2, i_if, i_if2, i_sw, i_gi, i_gr, i_pi, i_pz, i_ial, i_ias, i_len, i_aal, i_gs, i_tal, i_cv, i_cs, i_ir, i_zr, i_vr, i_min, i_max, i_cpy, List.getElem?_cons_zero, List.getElem?_cons_succ, List.set_cons_zero, List.set_cons_succ, List.length_cons, List.length_nil, List.drop_succ_cons, List.drop_zero, List.take_succ_cons, List.take_zero, List.reverse_cons, List.reverse_nil, List.nil_append, List.cons_append, Option.toList_some, Option.toList_none, true_and, and_true, true_or, or_true, Nat.reduceAdd, Nat.reduceLT, Nat.reduceLeDiff, Option.some.injEq, exists_eq_left', Int.toNat_natCast, Nat.reduceSub, List.append_nil, List.replicate_succ, List.replicate_zero]
      rw [hr]; exact hP
    refine c0 _ _ _ ?_
    simp only [b_J9_floorMod_7cf53_0, i_xorg, i_shl, i_shr, i_ior, i_and1, i_lcg1, i_lcg2, i_ld, i_la, i_st, i_sa, i_c, i_inc, i_add, i_sub, i_mul, i_div, i_rem, i_remT, i_xor, i_dup, i_dup2, i_if, i_if2, i_sw, i_gi, i_gr, i_pi, i_pz, i_ial, i_ias, i_len, i_aal, i_gs, i_tal, i_cv, i_cs, i_ir, i_zr, i_vr, i_min, i_max, i_cpy, List.getElem?_cons_zero, List.getElem?_cons_succ, List.set_cons_zero, List.set_cons_succ, List.length_cons, List.length_nil, List.drop_succ_cons, List.drop_zero, List.take_succ_cons, List.take_zero, List.reverse_cons, List.reverse_nil, List.nil_append, List.cons_append, Option.toList_some, Option.toList_none, true_and, and_true, true_or, or_true, Nat.reduceAdd, Nat.reduceLT, Nat.reduceLeDiff, Option.some.injEq, exists_eq_left', Int.toNat_natCast, Nat.reduceSub, List.append_nil, List.replicate_succ, List.replicate_zero, mm_in, hm]
    refine ⟨by decide, fun z _ hz => ⟨fun q => fin _ ?_, fun q => ⟨fun q2 => fin _ ?_, fun q2 => ⟨⟨?_, ?_⟩, ?_⟩⟩⟩⟩
    · rw [if_pos (by omega)]
    · rw [if_neg (by omega)] at q2 ⊢; split at q2 <;> split <;> omega
    · rw [if_neg (by omega)]; split <;> omega
    · rw [if_neg (by omega)]; split <;> omega
    · rw [if_neg (by omega)] at q2 ⊢
      have : ((if x = -16 then 0 else x) + 16 : Int) = x % 16 := by split at q2 <;> split <;> omega
      rw [this]; exact hP
  · exact hT.elim
theorem sp_J9_floorMod_7cf53 : mm_Sp yJ9_floorMod_7cf53 cJ9_floorMod_7cf53 3 (some .int) rm_J9_floorMod_7cf53 T_J9_floorMod_7cf53 := mm_methF (by decide +kernel) (by
  intro av σ Post h
  unfold T_J9_floorMod_7cf53 at h
  split at h
  · simp
  · exact h.elim) (fun p l e s m args below meth c G av σ Post hC hr _ hav hin hk hT => pv_J9_floorMod_7cf53 av σ Post hav hin hk hT _ (bk_J9_floorMod_7cf53 hC hr))
def T_X2_below : mm_T := fun av σ Post => match av with
  | [.inr (some a), .inl n] => σ.2 = mm_R0 ∧ (mm_sh a).1 = 2 ∧ 0 ≤ σ.1 a 0 ∧ 0 < n ∧ Post (some (.inl (lcg (σ.1 a 0) / 65536 % n))) (mm_set σ.1 a 0 (lcg (σ.1 a 0)), mm_R0)
  | _ => False
def rm_X2_below : Room := { frames := 0, cells := 0, slots := 0, locals := 0 }
def b_X2_below_0 (Ok : Nat → mm_K) (Post : Option mm_V → mm_S → Prop) (kf : Nat) : mm_K := i_la 0 (i_lcg1 (i_pi 2 0 (i_ld 1 (i_if (fun x => x ≤ 0) (i_c 0 (Ok 39)) (i_la 0 (i_gi 2 0 (i_c (65536) (i_div (i_ld 1 (i_rem (Ok 39)))))))))))
def b_X2_below_39 (Ok : Nat → mm_K) (Post : Option mm_V → mm_S → Prop) (kf : Nat) : mm_K := i_ir Post kf
def clo_X2_below (Ok : Nat → mm_K) (Post : Option mm_V → mm_S → Prop) (kf : Nat) : Prop := mm_imp (b_X2_below_0 Ok Post kf) (Ok 0) ∧ mm_imp (b_X2_below_39 Ok Post kf) (Ok 39)
set_option maxRecDepth 100000 in
set_option maxHeartbeats 4000000 in
theorem bk_X2_below {p : Program} {l : Launch} {e : Env} {s : State} {m : MethodId} {args : Array Value} {below : List Frame} {meth : Method} {c : Code} {G : mm_G} {σ0 : mm_S} {Post : Option mm_V → mm_S → Prop} (hC : mm_C p G s m args meth c cX2_below yX2_below.cls) (hr : meth.sig.returnType = some .int) : clo_X2_below (mm_O p l e rm_X2_below s m args below meth c G σ0.2.2 (MQ below (mm_Qc G σ0 rm_X2_below.cells rm_X2_below.slots Post) args s rm_X2_below.cells rm_X2_below.slots (mm_A G))) Post σ0.2.2 := ⟨(by unfold b_X2_below_0; exact (mm_la_n hC dX2_below_0 rfl (mm_lcg1 hC (mm_pi hC cl_2 (by decide) rfl rfl rfl wd_301 dX2_below_19 (mm_ld_n hC dX2_below_22 rfl (mm_if_le hC (t := 38) dX2_below_23 (by decide) (mm_ic hC dX2_below_38 ⟨by decide, by decide⟩ (fun _ _ _ h => h)) (mm_la_n hC dX2_below_26 rfl (mm_gi hC cl_2 (by decide) rfl wd_301 dX2_below_27 (mm_ldc hC dX2_below_30 ⟨by decide, by decide⟩ wd_726 (mm_div hC dX2_below_32 (mm_ld_n hC dX2_below_33 rfl (mm_rem hC dX2_below_34 (mm_goto hC (t := 39) dX2_below_35 (by decide) (fun _ _ _ h => h)))))))))))))), (by unfold b_X2_below_39; exact (mm_ir hC ⟨rfl, rfl⟩ hr dX2_below_39))⟩
set_option maxRecDepth 100000 in
set_option maxHeartbeats 8000000 in
theorem pv_X2_below : ∀ (av : List mm_V) (σ : mm_S) (Post : Option mm_V → mm_S → Prop), (∀ v ∈ av, mm_iv v) → (∀ a j, mm_in (σ.1 a j)) → σ.2.2 ≤ 348 → T_X2_below av σ Post → ∀ Ok : Nat → mm_K, clo_X2_below Ok Post σ.2.2 → Ok 0 (av ++ List.replicate (2 - av.length) (.inr none)) [] σ := by
  intro av σ Post hav hin hk hT Ok hcl
  obtain ⟨I, R0⟩ := σ
  unfold T_X2_below at hT
  split at hT
  · rename_i a n
    obtain ⟨h0, hT⟩ := hT
    have h0 : R0 = mm_R0 := h0
    subst h0
    dsimp only at hT hin
    obtain ⟨c0, c39⟩ := hcl
    obtain ⟨h1, h2, h3, hP⟩ := hT
    have ha := sh_lt h1 (by decide)
    have hb := lcg_b (I a 0)
    have e1 : mm_set I a 0 (lcg (I a 0)) a 0 = lcg (I a 0) := by simp [mm_set]
    refine c0 _ _ _ ?_
    simp only [b_X2_below_0, i_xorg, i_shl, i_shr, i_ior, i_and1, i_lcg1, i_lcg2, i_ld, i_la, i_st, i_sa, i_c, i_inc, i_add, i_sub, i_mul, i_div, i_rem, i_remT, i_xor, i_dup, i_dup2, i_if, i_if2, i_sw, i_gi, i_gr, i_pi, i_pz, i_ial, i_ias, i_len, i_aal, i_gs, i_tal, i_cv, i_cs, i_ir, i_zr, i_vr, i_min, i_max, i_cpy, List.getElem?_cons_zero, List.getElem?_cons_succ, List.set_cons_zero, List.set_cons_succ, List.length_cons, List.length_nil, List.drop_succ_cons, List.drop_zero, List.take_succ_cons, List.take_zero, List.reverse_cons, List.reverse_nil, List.nil_append, List.cons_append, Option.toList_some, Option.toList_none, true_and, and_true, true_or, or_true, Nat.reduceAdd, Nat.reduceLT, Nat.reduceLeDiff, Option.some.injEq, exists_eq_left', Int.toNat_natCast, Nat.reduceSub, List.append_nil, List.replicate_succ, List.replicate_zero, mm_in, ha, h1, e1]
    refine ⟨h2, fun z => by omega, fun z => fun _ => ⟨⟨by omega, by omega⟩, ⟨by have := Int.ediv_nonneg hb.1 (show (0 : Int) ≤ 65536 by decide); omega, h3⟩, ?_⟩⟩
    refine c39 _ _ _ ?_
    simp only [b_X2_below_39, i_xorg, i_shl, i_shr, i_ior, i_and1, i_lcg1, i_lcg2, i_ld, i_la, i_st, i_sa, i_c, i_inc, i_add, i_sub, i_mul, i_div, i_rem, i_remT, i_xor, i_dup, i_dup2, i_if, i_if2, i_sw, i_gi, i_gr, i_pi, i_pz, i_ial, i_ias, i_len, i_aal, i_gs, i_tal, i_cv, i_cs, i_ir, i_zr, i_vr, i_min, i_max, i_cpy, List.getElem?_cons_zero, List.getElem?_cons_succ, List.set_cons_zero, List.set_cons_succ, List.length_cons, List.length_nil, List.drop_succ_cons, List.drop_zero, List.take_succ_cons, List.take_zero, List.reverse_cons, List.reverse_nil, List.nil_append, List.cons_append, Option.toList_some, Option.toList_none, true_and, and_true, true_or, or_true, Nat.reduceAdd, Nat.reduceLT, Nat.reduceLeDiff, Option.some.injEq, exists_eq_left', Int.toNat_natCast, Nat.reduceSub, List.append_nil, List.replicate_succ, List.replicate_zero]
    exact hP
  · exact hT.elim
theorem sp_X2_below : mm_Sp yX2_below cX2_below 2 (some .int) rm_X2_below T_X2_below := mm_meth (by decide) (by
  intro av σ Post h
  unfold T_X2_below at h
  split at h
  · simp
  · exact h.elim) (fun p l e s m args below meth c G av σ Post hC hr _ hav hin hk hT => pv_X2_below av σ Post hav hin hk hT _ (bk_X2_below hC hr))
/-- world w now holds what world o held
-/
def wcp (I' I : Nat → Nat → Int) (w o n : Nat) : Prop := I' w 0 = I o 0 ∧ I' w 1 = I o 1 ∧ (∀ j, j < 12 → I' (w + 1) j = I (o + 1) j) ∧ (∀ j, j < 12 → I' (w + 2) j = I (o + 2) j) ∧ ∀ s, s < n → ∀ i, i < 21 → I' (w + 5 + 2 * s) i = I (o + 5 + 2 * s) i
theorem sh_41 : (mm_sh 41).1 = 5 ∧ mm_sh 42 = (102, 16) ∧ (∀ j, mm_Rs 41 j = some 42) ∧ (∀ j, mm_Rs 42 j = some (43 + 16 * j)) ∧ (∀ i, i < 16 → (mm_sh (43 + 16 * i)).1 = 9) := by
  refine ⟨by decide +kernel, by decide +kernel, fun j => ?_, fun j => ?_, by decide +kernel⟩
  · unfold mm_Rs; rw [show (mm_sh 41).1 = 5 by decide +kernel]; rfl
  · unfold mm_Rs; rw [show (mm_sh 42).1 = 102 by decide +kernel]; rfl
def T_X5_record : mm_T := fun av σ Post => match av with
  | [.inr (some P), .inr (some w)] => σ.2 = mm_R0 ∧ P = 41 ∧ w = 2 ∧ ∃ nx ct n : Nat, σ.1 41 1 = nx ∧ σ.1 41 2 = ct ∧ σ.1 2 1 = n ∧ nx < 16 ∧ ct ≤ 16 ∧ n ≤ 6 ∧
    ∀ I' : Nat → Nat → Int, (∀ b, b ≠ 41 → b < 43 + 16 * nx ∨ 43 + 16 * nx + 16 ≤ b → I' b = σ.1 b) → I' 41 1 = ((nx + 1) % 16 : Nat) → I' 41 2 = (if ct < 16 then ct + 1 else 16 : Nat) → wcp I' σ.1 (43 + 16 * nx) 2 n → Post none (I', mm_R0)
  | _ => False
def rm_X5_record : Room := { frames := 3, cells := 0, slots := 0, locals := 71 }
def b_X5_record_0 (Ok : Nat → mm_K) (Post : Option mm_V → mm_S → Prop) (kf : Nat) : mm_K := i_la 0 (i_gr 5 0 (i_la 0 (i_gi 5 1 (i_aal 102 (i_la 1 (i_cv 9 1 T_X10_copyFrom (i_la 0 (i_la 0 (i_gi 5 1 (i_c 1 (i_add (i_c 16 (i_rem (i_pi 5 1 (i_la 0 (i_la 0 (i_gi 5 2 (i_c 1 (i_add (i_c 16 (i_min (i_pi 5 2 (i_vr Post kf)))))))))))))))))))))))
def clo_X5_record (Ok : Nat → mm_K) (Post : Option mm_V → mm_S → Prop) (kf : Nat) : Prop := mm_imp (b_X5_record_0 Ok Post kf) (Ok 0)
set_option maxRecDepth 100000 in
set_option maxHeartbeats 4000000 in
theorem bk_X5_record {p : Program} {l : Launch} {e : Env} {s : State} {m : MethodId} {args : Array Value} {below : List Frame} {meth : Method} {c : Code} {G : mm_G} {σ0 : mm_S} {Post : Option mm_V → mm_S → Prop} (hC : mm_C p G s m args meth c cX5_record yX5_record.cls) (hr : meth.sig.returnType = none) : clo_X5_record (mm_O p l e rm_X5_record s m args below meth c G σ0.2.2 (MQ below (mm_Qc G σ0 rm_X5_record.cells rm_X5_record.slots Post) args s rm_X5_record.cells rm_X5_record.slots (mm_A G))) Post σ0.2.2 := (by unfold clo_X5_record b_X5_record_0; exact (mm_la_n hC dX5_record_0 rfl (mm_gr hC cl_5 (by decide) rfl wd_267 dX5_record_1 (mm_la_n hC dX5_record_4 rfl (mm_gi hC cl_5 (by decide) rfl wd_268 dX5_record_5 (mm_aal hC (t := 2) (by decide) rfl dX5_record_8 (mm_la_n hC dX5_record_9 rfl (mm_cv hC sp_X10_copyFrom ⟨rfl, rfl⟩ cl_9 wd_625 wd_626 wd_627 wd_628 wd_67 ⟨by decide, by decide, by decide +kernel⟩ ⟨by decide, by decide⟩ dX5_record_10 (mm_la_n hC dX5_record_13 rfl (mm_la_n hC dX5_record_14 rfl (mm_gi hC cl_5 (by decide) rfl wd_268 dX5_record_15 (mm_ic hC dX5_record_18 ⟨by decide, by decide⟩ (mm_add hC dX5_record_19 (mm_bp hC dX5_record_20 ⟨⟨by decide, by decide⟩, by decide⟩ (mm_rem hC dX5_record_22 (mm_pi hC cl_5 (by decide) rfl rfl rfl wd_268 dX5_record_23 (mm_la_n hC dX5_record_26 rfl (mm_la_n hC dX5_record_27 rfl (mm_gi hC cl_5 (by decide) rfl wd_269 dX5_record_28 (mm_ic hC dX5_record_31 ⟨by decide, by decide⟩ (mm_add hC dX5_record_32 (mm_bp hC dX5_record_33 ⟨⟨by decide, by decide⟩, by decide⟩ (mm_min hC wd_637 wd_371 wd_78 wd_372 ⟨by decide, by decide⟩ dX5_record_35 (mm_pi hC cl_5 (by decide) rfl rfl rfl wd_269 dX5_record_38 (mm_vr hC ⟨rfl, rfl⟩ hr dX5_record_41)))))))))))))))))))))))))
set_option maxRecDepth 100000 in
set_option maxHeartbeats 8000000 in
theorem pv_X5_record : ∀ (av : List mm_V) (σ : mm_S) (Post : Option mm_V → mm_S → Prop), (∀ v ∈ av, mm_iv v) → (∀ a j, mm_in (σ.1 a j)) → σ.2.2 ≤ 348 → T_X5_record av σ Post → ∀ Ok : Nat → mm_K, clo_X5_record Ok Post σ.2.2 → Ok 0 (av ++ List.replicate (2 - av.length) (.inr none)) [] σ := by
  intro av σ Post hav hin hk hT Ok hcl
  obtain ⟨I, R0⟩ := σ
  unfold T_X5_record at hT
  split at hT
  · rename_i P w
    obtain ⟨h0, hT⟩ := hT
    have h0 : R0 = mm_R0 := h0
    subst h0
    dsimp only at hT hin
    have c0 := hcl
    unfold clo_X5_record at c0
    obtain ⟨rfl, rfl, nx, ct, n, h1, h2, h3, h4, h5, h6, hP⟩ := hT
    obtain ⟨k1, k2, k3, k4, k5⟩ := sh_41
    have kw := k5 nx h4
    have hwl := sh_lt kw (by decide)
    refine c0 _ _ _ ?_
    simp only [b_X5_record_0, i_xorg, i_shl, i_shr, i_ior, i_and1, i_lcg1, i_lcg2, i_ld, i_la, i_st, i_sa, i_c, i_inc, i_add, i_sub, i_mul, i_div, i_rem, i_remT, i_xor, i_dup, i_dup2, i_if, i_if2, i_sw, i_gi, i_gr, i_pi, i_pz, i_ial, i_ias, i_len, i_aal, i_gs, i_tal, i_cv, i_cs, i_ir, i_zr, i_vr, i_min, i_max, i_cpy, List.getElem?_cons_zero, List.getElem?_cons_succ, List.set_cons_zero, List.set_cons_succ, List.length_cons, List.length_nil, List.drop_succ_cons, List.drop_zero, List.take_succ_cons, List.take_zero, List.reverse_cons, List.reverse_nil, List.nil_append, List.cons_append, Option.toList_some, Option.toList_none, true_and, and_true, true_or, or_true, Nat.reduceAdd, Nat.reduceLT, Nat.reduceLeDiff, Option.some.injEq, exists_eq_left', Int.toNat_natCast, Nat.reduceSub, List.append_nil, List.replicate_succ, List.replicate_zero, mm_in, k1, k2, k3, k4, h1, kw, hwl, T_X10_copyFrom, sh_2]
    refine fun _ => ⟨⟨by omega, by omega⟩, by omega, n, h3, h6, fun I1 f1 c0' c1' c2' c3' c4' => ?_⟩
    have e41 : I1 41 = I 41 := f1 41 (by omega)
    have e1 : mm_set I1 41 1 (((nx : Int) + 1) % 16) 41 2 = ct := by simp [mm_set]; rw [e41]; exact h2
    simp only [e41, h1, e1]
    refine fun _ => ⟨⟨by omega, by omega⟩, ⟨by omega, by omega⟩, fun _ => ⟨⟨by omega, by omega⟩, ?_⟩⟩
    refine hP _ (fun b z1 z2 => ?_) ?_ ?_ ?_
    · rw [← f1 b z2]; funext j; simp [mm_set, z1]
    · simp [mm_set]
    · simp [mm_set]; split <;> split <;> omega
    · have hr : ∀ b, b ≠ 41 → ∀ j x y, mm_set (mm_set I1 41 1 x) 41 2 y b j = I1 b j := fun b hb j x y => by simp [mm_set, hb]
      refine ⟨by rw [hr _ (by omega)]; exact c0', by rw [hr _ (by omega)]; exact c1', fun j hj => by rw [hr _ (by omega)]; exact c2' j hj, fun j hj => by rw [hr _ (by omega)]; exact c3' j hj, fun s hs i hi => by rw [hr _ (by omega)]; exact c4' s hs i hi⟩
  · exact hT.elim
theorem sp_X5_record : mm_Sp yX5_record cX5_record 2 none rm_X5_record T_X5_record := mm_meth (by decide) (by
  intro av σ Post h
  unfold T_X5_record at h
  split at h
  · simp
  · exact h.elim) (fun p l e s m args below meth c G av σ Post hC hr _ hav hin hk hT => pv_X5_record av σ Post hav hin hk hT _ (bk_X5_record hC hr))
def T_X5_restore : mm_T := fun av σ Post => match av with
  | [.inr (some P), .inl x, .inr (some w)] => σ.2 = mm_R0 ∧ P = 41 ∧ w = 2 ∧ ∃ nx ct st n : Nat, x = st ∧ σ.1 41 1 = nx ∧ σ.1 41 2 = ct ∧ nx < 16 ∧ ct ≤ 16 ∧ 1 ≤ st ∧ st ≤ ct ∧ σ.1 (43 + 16 * ((nx + 16 - st) % 16)) 1 = n ∧ n ≤ 6 ∧
    ∀ I' : Nat → Nat → Int, (∀ b, b ≠ 41 → b < 2 ∨ 18 ≤ b → I' b = σ.1 b) → I' 41 1 = ((nx + 16 - st) % 16 : Nat) → I' 41 2 = (ct - st : Nat) → wcp I' σ.1 2 (43 + 16 * ((nx + 16 - st) % 16)) n → Post none (I', mm_R0)
  | _ => False
def rm_X5_restore : Room := { frames := 3, cells := 0, slots := 0, locals := 71 }
def b_X5_restore_0 (Ok : Nat → mm_K) (Post : Option mm_V → mm_S → Prop) (kf : Nat) : mm_K := i_la 0 (i_la 0 (i_gi 5 1 (i_ld 1 (i_sub (i_c 16 (i_cs 2 T_J9_floorMod_7cf53 (i_pi 5 1 (i_la 0 (i_dup (i_gi 5 2 (i_ld 1 (i_sub (i_pi 5 2 (i_la 2 (i_la 0 (i_gr 5 0 (i_la 0 (i_gi 5 1 (i_aal 102 (i_cv 9 1 T_X10_copyFrom (i_vr Post kf)))))))))))))))))))))
def clo_X5_restore (Ok : Nat → mm_K) (Post : Option mm_V → mm_S → Prop) (kf : Nat) : Prop := mm_imp (b_X5_restore_0 Ok Post kf) (Ok 0)
set_option maxRecDepth 100000 in
set_option maxHeartbeats 4000000 in
theorem bk_X5_restore {p : Program} {l : Launch} {e : Env} {s : State} {m : MethodId} {args : Array Value} {below : List Frame} {meth : Method} {c : Code} {G : mm_G} {σ0 : mm_S} {Post : Option mm_V → mm_S → Prop} (hC : mm_C p G s m args meth c cX5_restore yX5_restore.cls) (hr : meth.sig.returnType = none) : clo_X5_restore (mm_O p l e rm_X5_restore s m args below meth c G σ0.2.2 (MQ below (mm_Qc G σ0 rm_X5_restore.cells rm_X5_restore.slots Post) args s rm_X5_restore.cells rm_X5_restore.slots (mm_A G))) Post σ0.2.2 := (by unfold clo_X5_restore b_X5_restore_0; exact (mm_la_n hC dX5_restore_0 rfl (mm_la_n hC dX5_restore_1 rfl (mm_gi hC cl_5 (by decide) rfl wd_268 dX5_restore_2 (mm_ld_n hC dX5_restore_5 rfl (mm_sub hC dX5_restore_6 (mm_bp hC dX5_restore_7 ⟨⟨by decide, by decide⟩, by decide⟩ (mm_cs hC sp_J9_floorMod_7cf53 ⟨rfl, rfl⟩ wd_735 wd_736 wd_737 wd_78 ⟨by decide, by decide, by decide +kernel⟩ ⟨by decide, by decide⟩ dX5_restore_9 (mm_pi hC cl_5 (by decide) rfl rfl rfl wd_268 dX5_restore_12 (mm_la_n hC dX5_restore_15 rfl (mm_dup hC dX5_restore_16 (mm_gi hC cl_5 (by decide) rfl wd_269 dX5_restore_17 (mm_ld_n hC dX5_restore_20 rfl (mm_sub hC dX5_restore_21 (mm_pi hC cl_5 (by decide) rfl rfl rfl wd_269 dX5_restore_22 (mm_la_n hC dX5_restore_25 rfl (mm_la_n hC dX5_restore_26 rfl (mm_gr hC cl_5 (by decide) rfl wd_267 dX5_restore_27 (mm_la_n hC dX5_restore_30 rfl (mm_gi hC cl_5 (by decide) rfl wd_268 dX5_restore_31 (mm_aal hC (t := 2) (by decide) rfl dX5_restore_34 (mm_cv hC sp_X10_copyFrom ⟨rfl, rfl⟩ cl_9 wd_625 wd_626 wd_627 wd_628 wd_67 ⟨by decide, by decide, by decide +kernel⟩ ⟨by decide, by decide⟩ dX5_restore_35 (mm_vr hC ⟨rfl, rfl⟩ hr dX5_restore_38)))))))))))))))))))))))
set_option maxRecDepth 100000 in
set_option maxHeartbeats 8000000 in
theorem pv_X5_restore : ∀ (av : List mm_V) (σ : mm_S) (Post : Option mm_V → mm_S → Prop), (∀ v ∈ av, mm_iv v) → (∀ a j, mm_in (σ.1 a j)) → σ.2.2 ≤ 348 → T_X5_restore av σ Post → ∀ Ok : Nat → mm_K, clo_X5_restore Ok Post σ.2.2 → Ok 0 (av ++ List.replicate (3 - av.length) (.inr none)) [] σ := by
  intro av σ Post hav hin hk hT Ok hcl
  obtain ⟨I, R0⟩ := σ
  unfold T_X5_restore at hT
  split at hT
  · rename_i P x w
    obtain ⟨h0, hT⟩ := hT
    have h0 : R0 = mm_R0 := h0
    subst h0
    dsimp only at hT hin
    have c0 := hcl
    unfold clo_X5_restore at c0
    obtain ⟨rfl, rfl, nx, ct, st, n, rfl, h1, h2, h4, h5, h6, h7, h8, h9, hP⟩ := hT
    obtain ⟨k1, k2, k3, k4, k5⟩ := sh_41
    obtain ⟨q, hq⟩ : ∃ q, (nx + 16 - st) % 16 = q := ⟨_, rfl⟩
    have hq16 : q < 16 := by omega
    rw [hq] at h8 hP
    have kw := k5 q hq16
    have hwl := sh_lt kw (by decide)
    have ex : ((nx : Int) - (st : Int)) % 16 = (q : Int) := by omega
    have e1 : mm_set I 41 1 (q : Int) 41 2 = ct := by simp [mm_set]; exact h2
    have e2 : ∀ y, mm_set (mm_set I 41 1 (q : Int)) 41 2 y 41 1 = q := fun y => by simp [mm_set]
    have hr : ∀ b, b ≠ 41 → ∀ y, mm_set (mm_set I 41 1 (q : Int)) 41 2 y b = I b := fun b hb y => by funext j; simp [mm_set, hb]
    refine c0 _ _ _ ?_
    simp only [b_X5_restore_0, i_xorg, i_shl, i_shr, i_ior, i_and1, i_lcg1, i_lcg2, i_ld, i_la, i_st, i_sa, i_c, i_inc, i_add, i_sub, i_mul, i_div, i_rem, i_remT, i_xor, i_dup, i_dup2, i_if, i_if2, i_sw, i_gi, i_gr, i_pi, i_pz, i_ial, i_ias, i_len, i_aal, i_gs, i_tal, i_cv, i_cs, i_ir, i_zr, i_vr, i_min, i_max, i_cpy, List.getElem?_cons_zero, List.getElem?_cons_succ, List.set_cons_zero, List.set_cons_succ, List.length_cons, List.length_nil, List.drop_succ_cons, List.drop_zero, List.take_succ_cons, List.take_zero, List.reverse_cons, List.reverse_nil, List.nil_append, List.cons_append, Option.toList_some, Option.toList_none, true_and, and_true, true_or, or_true, Nat.reduceAdd, Nat.reduceLT, Nat.reduceLeDiff, Option.some.injEq, exists_eq_left', Int.toNat_natCast, Nat.reduceSub, List.append_nil, List.replicate_succ, List.replicate_zero, mm_in, k1, k2, k3, k4, h1, T_J9_floorMod_7cf53, ex, e1, e2, kw, hwl, T_X10_copyFrom, sh_2]
    refine fun _ => ⟨⟨by omega, by omega⟩, by omega, by omega, fun _ => ⟨⟨by omega, by omega⟩, fun _ => ⟨⟨by omega, by omega⟩, by omega, n, ?_, h9, fun I1 f1 d0 d1 d2 d3 d4 => ?_⟩⟩⟩
    · rw [hr _ (by omega)]; exact h8
    · rw [hr _ (by omega)] at d0 d1
      refine hP I1 (fun b z1 z2 => by rw [f1 b (by omega), hr b z1]) ?_ ?_ ⟨d0, d1, fun j hj => ?_, fun j hj => ?_, fun s hs i hi => ?_⟩
      · rw [f1 41 (by omega)]; exact e2 _
      · rw [f1 41 (by omega)]; simp [mm_set]; omega
      · rw [d2 j hj, hr _ (by omega)]
      · rw [d3 j hj, hr _ (by omega)]
      · rw [d4 s hs i hi, hr _ (by omega)]
  · exact hT.elim
theorem sp_X5_restore : mm_Sp yX5_restore cX5_restore 3 none rm_X5_restore T_X5_restore := mm_meth (by decide) (by
  intro av σ Post h
  unfold T_X5_restore at h
  split at h
  · simp
  · exact h.elim) (fun p l e s m args below meth c G av σ Post hC hr _ hav hin hk hT => pv_X5_restore av σ Post hav hin hk hT _ (bk_X5_restore hC hr))
theorem sh_299 : (mm_sh 299).1 = 0 ∧ mm_sh 300 = (100, 20) ∧ mm_sh 301 = (100, 20) ∧ mm_Rs 299 0 = some 300 ∧ mm_Rs 299 1 = some 301 ∧ (mm_sh 302).1 = 2 ∧ mm_sh 303 = (103, 2) := by decide +kernel
def T_X0_isFull : mm_T := fun av σ Post => match av with
  | [.inr (some a)] => σ.2 = mm_R0 ∧ a = 299 ∧ ∀ z : Int, bz z (20 ≤ σ.1 299 2) → Post (some (.inl z)) σ
  | _ => False
def rm_X0_isFull : Room := { frames := 0, cells := 0, slots := 0, locals := 0 }
def b_X0_isFull_0 (Ok : Nat → mm_K) (Post : Option mm_V → mm_S → Prop) (kf : Nat) : mm_K := i_la 0 (i_gi 0 2 (i_c 20 (i_if2 (fun x y => x < y) (i_c 0 (Ok 14)) (i_c 1 (Ok 14)))))
def b_X0_isFull_14 (Ok : Nat → mm_K) (Post : Option mm_V → mm_S → Prop) (kf : Nat) : mm_K := i_zr Post kf
def clo_X0_isFull (Ok : Nat → mm_K) (Post : Option mm_V → mm_S → Prop) (kf : Nat) : Prop := mm_imp (b_X0_isFull_0 Ok Post kf) (Ok 0) ∧ mm_imp (b_X0_isFull_14 Ok Post kf) (Ok 14)
set_option maxRecDepth 100000 in
set_option maxHeartbeats 4000000 in
theorem bk_X0_isFull {p : Program} {l : Launch} {e : Env} {s : State} {m : MethodId} {args : Array Value} {below : List Frame} {meth : Method} {c : Code} {G : mm_G} {σ0 : mm_S} {Post : Option mm_V → mm_S → Prop} (hC : mm_C p G s m args meth c cX0_isFull yX0_isFull.cls) (hr : meth.sig.returnType = some .boolean) : clo_X0_isFull (mm_O p l e rm_X0_isFull s m args below meth c G σ0.2.2 (MQ below (mm_Qc G σ0 rm_X0_isFull.cells rm_X0_isFull.slots Post) args s rm_X0_isFull.cells rm_X0_isFull.slots (mm_A G))) Post σ0.2.2 := ⟨(by unfold b_X0_isFull_0; exact (mm_la_n hC dX0_isFull_0 rfl (mm_gi hC cl_0 (by decide) rfl wd_286 dX0_isFull_1 (mm_bp hC dX0_isFull_4 ⟨⟨by decide, by decide⟩, by decide⟩ (mm_ic_lt hC (t := 13) dX0_isFull_6 (by decide) (mm_ic hC dX0_isFull_13 ⟨by decide, by decide⟩ (fun _ _ _ h => h)) (mm_ic hC dX0_isFull_9 ⟨by decide, by decide⟩ (mm_goto hC (t := 14) dX0_isFull_10 (by decide) (fun _ _ _ h => h)))))))), (by unfold b_X0_isFull_14; exact (mm_zr hC ⟨rfl, rfl⟩ hr dX0_isFull_14))⟩
set_option maxRecDepth 100000 in
set_option maxHeartbeats 8000000 in
theorem pv_X0_isFull : ∀ (av : List mm_V) (σ : mm_S) (Post : Option mm_V → mm_S → Prop), (∀ v ∈ av, mm_iv v) → (∀ a j, mm_in (σ.1 a j)) → σ.2.2 ≤ 348 → T_X0_isFull av σ Post → ∀ Ok : Nat → mm_K, clo_X0_isFull Ok Post σ.2.2 → Ok 0 (av ++ List.replicate (1 - av.length) (.inr none)) [] σ := by
  intro av σ Post hav hin hk hT Ok hcl
  obtain ⟨I, R0⟩ := σ
  unfold T_X0_isFull at hT
  split at hT
  · rename_i a
    obtain ⟨h0, hT⟩ := hT
    have h0 : R0 = mm_R0 := h0
    subst h0
    dsimp only at hT hin
    obtain ⟨c0, c14⟩ := hcl
    obtain ⟨rfl, hP⟩ := hT
    have k := sh_299.1
    refine c0 _ _ _ ?_
    simp only [b_X0_isFull_0, i_xorg, i_shl, i_shr, i_ior, i_and1, i_lcg1, i_lcg2, i_ld, i_la, i_st, i_sa, i_c, i_inc, i_add, i_sub, i_mul, i_div, i_rem, i_remT, i_xor, i_dup, i_dup2, i_if, i_if2, i_sw, i_gi, i_gr, i_pi, i_pz, i_ial, i_ias, i_len, i_aal, i_gs, i_tal, i_cv, i_cs, i_ir, i_zr, i_vr, i_min, i_max, i_cpy, List.getElem?_cons_zero, List.getElem?_cons_succ, List.set_cons_zero, List.set_cons_succ, List.length_cons, List.length_nil, List.drop_succ_cons, List.drop_zero, List.take_succ_cons, List.take_zero, List.reverse_cons, List.reverse_nil, List.nil_append, List.cons_append, Option.toList_some, Option.toList_none, true_and, and_true, true_or, or_true, Nat.reduceAdd, Nat.reduceLT, Nat.reduceLeDiff, Option.some.injEq, exists_eq_left', Int.toNat_natCast, Nat.reduceSub, List.append_nil, List.replicate_succ, List.replicate_zero, mm_in, k]
    refine fun _ => ⟨fun q => ?_, fun q => ?_⟩
    · refine c14 _ _ _ ?_
      simp only [b_X0_isFull_14, i_xorg, i_shl, i_shr, i_ior, i_and1, i_lcg1, i_lcg2, i_ld, i_la, i_st, i_sa, i_c, i_inc, i_add, i_sub, i_mul, i_div, i_rem, i_remT, i_xor, i_dup, i_dup2, i_if, i_if2, i_sw, i_gi, i_gr, i_pi, i_pz, i_ial, i_ias, i_len, i_aal, i_gs, i_tal, i_cv, i_cs, i_ir, i_zr, i_vr, i_min, i_max, i_cpy, List.getElem?_cons_zero, List.getElem?_cons_succ, List.set_cons_zero, List.set_cons_succ, List.length_cons, List.length_nil, List.drop_succ_cons, List.drop_zero, List.take_succ_cons, List.take_zero, List.reverse_cons, List.reverse_nil, List.nil_append, List.cons_append, Option.toList_some, Option.toList_none, true_and, and_true, true_or, or_true, Nat.reduceAdd, Nat.reduceLT, Nat.reduceLeDiff, Option.some.injEq, exists_eq_left', Int.toNat_natCast, Nat.reduceSub, List.append_nil, List.replicate_succ, List.replicate_zero]
      exact hP 0 (bz_0 (by omega))
    · refine c14 _ _ _ ?_
      simp only [b_X0_isFull_14, i_xorg, i_shl, i_shr, i_ior, i_and1, i_lcg1, i_lcg2, i_ld, i_la, i_st, i_sa, i_c, i_inc, i_add, i_sub, i_mul, i_div, i_rem, i_remT, i_xor, i_dup, i_dup2, i_if, i_if2, i_sw, i_gi, i_gr, i_pi, i_pz, i_ial, i_ias, i_len, i_aal, i_gs, i_tal, i_cv, i_cs, i_ir, i_zr, i_vr, i_min, i_max, i_cpy, List.getElem?_cons_zero, List.getElem?_cons_succ, List.set_cons_zero, List.set_cons_succ, List.length_cons, List.length_nil, List.drop_succ_cons, List.drop_zero, List.take_succ_cons, List.take_zero, List.reverse_cons, List.reverse_nil, List.nil_append, List.cons_append, Option.toList_some, Option.toList_none, true_and, and_true, true_or, or_true, Nat.reduceAdd, Nat.reduceLT, Nat.reduceLeDiff, Option.some.injEq, exists_eq_left', Int.toNat_natCast, Nat.reduceSub, List.append_nil, List.replicate_succ, List.replicate_zero]
      exact hP 1 (bz_1 (by omega))
  · exact hT.elim
theorem sp_X0_isFull : mm_Sp yX0_isFull cX0_isFull 1 (some .boolean) rm_X0_isFull T_X0_isFull := mm_meth (by decide) (by
  intro av σ Post h
  unfold T_X0_isFull at h
  split at h
  · simp
  · exact h.elim) (fun p l e s m args below meth c G av σ Post hC hr _ hav hin hk hT => pv_X0_isFull av σ Post hav hin hk hT _ (bk_X0_isFull hC hr))
def T_X0_enter : mm_T := fun av σ Post => match av with
  | [.inr (some a), .inl x, .inl v] => σ.2 = mm_R0 ∧ a = 299 ∧ ∃ ct : Nat, σ.1 299 2 = ct ∧ ct < 20 ∧ Post none (mm_set (mm_set (mm_set σ.1 300 ct x) 301 ct v) 299 2 (ct + 1 : Nat), mm_R0)
  | _ => False
def rm_X0_enter : Room := { frames := 0, cells := 0, slots := 0, locals := 0 }
def b_X0_enter_0 (Ok : Nat → mm_K) (Post : Option mm_V → mm_S → Prop) (kf : Nat) : mm_K := i_la 0 (i_gr 0 0 (i_la 0 (i_gi 0 2 (i_ld 1 (i_ias (i_la 0 (i_gr 0 1 (i_la 0 (i_gi 0 2 (i_ld 2 (i_ias (i_la 0 (i_dup (i_gi 0 2 (i_c 1 (i_add (i_pi 0 2 (i_vr Post kf))))))))))))))))))
def clo_X0_enter (Ok : Nat → mm_K) (Post : Option mm_V → mm_S → Prop) (kf : Nat) : Prop := mm_imp (b_X0_enter_0 Ok Post kf) (Ok 0)
set_option maxRecDepth 100000 in
set_option maxHeartbeats 4000000 in
theorem bk_X0_enter {p : Program} {l : Launch} {e : Env} {s : State} {m : MethodId} {args : Array Value} {below : List Frame} {meth : Method} {c : Code} {G : mm_G} {σ0 : mm_S} {Post : Option mm_V → mm_S → Prop} (hC : mm_C p G s m args meth c cX0_enter yX0_enter.cls) (hr : meth.sig.returnType = none) : clo_X0_enter (mm_O p l e rm_X0_enter s m args below meth c G σ0.2.2 (MQ below (mm_Qc G σ0 rm_X0_enter.cells rm_X0_enter.slots Post) args s rm_X0_enter.cells rm_X0_enter.slots (mm_A G))) Post σ0.2.2 := (by unfold clo_X0_enter b_X0_enter_0; exact (mm_la_n hC dX0_enter_0 rfl (mm_gr hC cl_0 (by decide) rfl wd_284 dX0_enter_1 (mm_la_n hC dX0_enter_4 rfl (mm_gi hC cl_0 (by decide) rfl wd_286 dX0_enter_5 (mm_ld_n hC dX0_enter_8 rfl (mm_ias hC dX0_enter_9 (mm_la_n hC dX0_enter_10 rfl (mm_gr hC cl_0 (by decide) rfl wd_285 dX0_enter_11 (mm_la_n hC dX0_enter_14 rfl (mm_gi hC cl_0 (by decide) rfl wd_286 dX0_enter_15 (mm_ld_n hC dX0_enter_18 rfl (mm_ias hC dX0_enter_19 (mm_la_n hC dX0_enter_20 rfl (mm_dup hC dX0_enter_21 (mm_gi hC cl_0 (by decide) rfl wd_286 dX0_enter_22 (mm_ic hC dX0_enter_25 ⟨by decide, by decide⟩ (mm_add hC dX0_enter_26 (mm_pi hC cl_0 (by decide) rfl rfl rfl wd_286 dX0_enter_27 (mm_vr hC ⟨rfl, rfl⟩ hr dX0_enter_30))))))))))))))))))))
set_option maxRecDepth 100000 in
set_option maxHeartbeats 8000000 in
theorem pv_X0_enter : ∀ (av : List mm_V) (σ : mm_S) (Post : Option mm_V → mm_S → Prop), (∀ v ∈ av, mm_iv v) → (∀ a j, mm_in (σ.1 a j)) → σ.2.2 ≤ 348 → T_X0_enter av σ Post → ∀ Ok : Nat → mm_K, clo_X0_enter Ok Post σ.2.2 → Ok 0 (av ++ List.replicate (3 - av.length) (.inr none)) [] σ := by
  intro av σ Post hav hin hk hT Ok hcl
  obtain ⟨I, R0⟩ := σ
  unfold T_X0_enter at hT
  split at hT
  · rename_i a x v
    obtain ⟨h0, hT⟩ := hT
    have h0 : R0 = mm_R0 := h0
    subst h0
    dsimp only at hT hin
    have c0 := hcl
    unfold clo_X0_enter at c0
    obtain ⟨rfl, ct, h1, h2, hP⟩ := hT
    obtain ⟨k1, k2, k3, k4, k5, k6, k7⟩ := sh_299
    have e1 : mm_set I 300 ct x 299 2 = ct := by simp [mm_set]; exact h1
    have e2 : mm_set (mm_set I 300 ct x) 301 ct v 299 2 = ct := by simp [mm_set]; exact h1
    refine c0 _ _ _ ?_
    simp only [b_X0_enter_0, i_xorg, i_shl, i_shr, i_ior, i_and1, i_lcg1, i_lcg2, i_ld, i_la, i_st, i_sa, i_c, i_inc, i_add, i_sub, i_mul, i_div, i_rem, i_remT, i_xor, i_dup, i_dup2, i_if, i_if2, i_sw, i_gi, i_gr, i_pi, i_pz, i_ial, i_ias, i_len, i_aal, i_gs, i_tal, i_cv, i_cs, i_ir, i_zr, i_vr, i_min, i_max, i_cpy, List.getElem?_cons_zero, List.getElem?_cons_succ, List.set_cons_zero, List.set_cons_succ, List.length_cons, List.length_nil, List.drop_succ_cons, List.drop_zero, List.take_succ_cons, List.take_zero, List.reverse_cons, List.reverse_nil, List.nil_append, List.cons_append, Option.toList_some, Option.toList_none, true_and, and_true, true_or, or_true, Nat.reduceAdd, Nat.reduceLT, Nat.reduceLeDiff, Option.some.injEq, exists_eq_left', Int.toNat_natCast, Nat.reduceSub, List.append_nil, List.replicate_succ, List.replicate_zero, mm_in, k1, k2, k3, k4, k5, h1, e1, e2]
    refine fun _ => ⟨⟨by omega, by omega⟩, fun _ => ⟨⟨by omega, by omega⟩, fun _ => ⟨⟨by omega, by omega⟩, ?_⟩⟩⟩
    exact hP
  · exact hT.elim
theorem sp_X0_enter : mm_Sp yX0_enter cX0_enter 3 none rm_X0_enter T_X0_enter := mm_meth (by decide) (by
  intro av σ Post h
  unfold T_X0_enter at h
  split at h
  · simp
  · exact h.elim) (fun p l e s m args below meth c G av σ Post hC hr _ hav hin hk hT => pv_X0_enter av σ Post hav hin hk hT _ (bk_X0_enter hC hr))
/-- entry i of the book is true
-/
def btrue (I : Nat → Nat → Int) (n : Nat) (Le : Nat → Nat) (i : Nat) : Prop := I 300 i < I 2 1 ∧ (¬ crs (I (7 + 2 * (I 300 i).toNat)) 3 ∧ mt n (I 3) (I 4) (I (7 + 2 * (I 300 i).toNat))) ∧ eul n (I 3) Le (I (7 + 2 * (I 300 i).toNat)) = I 301 i
def shs (I : Nat → Nat → Int) : Prop := 0 ≤ I 2 1 ∧ I 2 1 ≤ 6 ∧ ∀ s : Nat, (s : Int) < I 2 1 → b20 (I (7 + 2 * s))
def T_X0_isTrue : mm_T := fun av σ Post => match av with
  | [.inr (some a), .inl x, .inr (some w), .inr (some s)] => σ.2 = mm_R0 ∧ a = 299 ∧ w = 2 ∧ s = 1 ∧ ∃ (i n : Nat) (L : LT), x = i ∧ i < 20 ∧ 0 ≤ σ.1 300 i ∧ gw σ.1 n ∧ SK σ.1 n L ∧ shs σ.1 ∧
    ∀ (I' : Nat → Nat → Int) (z : Int), (∀ b, b ≠ 29 → b ≠ 30 → I' b = σ.1 b) → bz z (btrue σ.1 n L.2.1 i) → Post (some (.inl z)) (I', mm_R0)
  | _ => False
def rm_X0_isTrue : Room := { frames := 5, cells := 0, slots := 0, locals := 117 }
def b_X0_isTrue_0 (Ok : Nat → mm_K) (Post : Option mm_V → mm_S → Prop) (kf : Nat) : mm_K := i_la 0 (i_gr 0 0 (i_ld 1 (i_ial (i_la 2 (i_gi 9 1 (i_if2 (fun x y => x < y) (i_la 2 (i_gr 9 4 (i_la 0 (i_gr 0 0 (i_ld 1 (i_ial (i_aal 101 (i_sa 4 (i_la 3 (i_la 4 (i_cv 8 1 T_X9_isNormal (i_if (fun x => x = 0) (Ok 56) (i_la 3 (i_la 4 (i_cv 8 1 T_X9_characteristic (i_la 0 (i_gr 0 1 (i_ld 1 (i_ial (i_if2 (fun x y => ¬ x = y) (Ok 56) (i_c 1 (Ok 57)))))))))))))))))))))) (i_c 0 (i_zr Post kf))))))))
def b_X0_isTrue_56 (Ok : Nat → mm_K) (Post : Option mm_V → mm_S → Prop) (kf : Nat) : mm_K := i_c 0 (Ok 57)
def b_X0_isTrue_57 (Ok : Nat → mm_K) (Post : Option mm_V → mm_S → Prop) (kf : Nat) : mm_K := i_zr Post kf
def clo_X0_isTrue (Ok : Nat → mm_K) (Post : Option mm_V → mm_S → Prop) (kf : Nat) : Prop := mm_imp (b_X0_isTrue_0 Ok Post kf) (Ok 0) ∧ mm_imp (b_X0_isTrue_56 Ok Post kf) (Ok 56) ∧ mm_imp (b_X0_isTrue_57 Ok Post kf) (Ok 57)
set_option maxRecDepth 100000 in
set_option maxHeartbeats 4000000 in
theorem bk_X0_isTrue {p : Program} {l : Launch} {e : Env} {s : State} {m : MethodId} {args : Array Value} {below : List Frame} {meth : Method} {c : Code} {G : mm_G} {σ0 : mm_S} {Post : Option mm_V → mm_S → Prop} (hC : mm_C p G s m args meth c cX0_isTrue yX0_isTrue.cls) (hr : meth.sig.returnType = some .boolean) : clo_X0_isTrue (mm_O p l e rm_X0_isTrue s m args below meth c G σ0.2.2 (MQ below (mm_Qc G σ0 rm_X0_isTrue.cells rm_X0_isTrue.slots Post) args s rm_X0_isTrue.cells rm_X0_isTrue.slots (mm_A G))) Post σ0.2.2 := ⟨(by unfold b_X0_isTrue_0; exact (mm_la_n hC dX0_isTrue_0 rfl (mm_gr hC cl_0 (by decide) rfl wd_284 dX0_isTrue_1 (mm_ld_n hC dX0_isTrue_4 rfl (mm_ial hC dX0_isTrue_5 (mm_la_n hC dX0_isTrue_6 rfl (mm_gi hC cl_9 (by decide) rfl wd_125 dX0_isTrue_7 (mm_ic_lt hC (t := 15) dX0_isTrue_10 (by decide) (mm_la_n hC dX0_isTrue_15 rfl (mm_gr hC cl_9 (by decide) rfl wd_133 dX0_isTrue_16 (mm_la_n hC dX0_isTrue_19 rfl (mm_gr hC cl_0 (by decide) rfl wd_284 dX0_isTrue_20 (mm_ld_n hC dX0_isTrue_23 rfl (mm_ial hC dX0_isTrue_24 (mm_aal hC (t := 1) (by decide) rfl dX0_isTrue_25 (mm_sa hC dX0_isTrue_26 (mm_la_n hC dX0_isTrue_28 rfl (mm_la hC dX0_isTrue_29 (mm_cv hC sp_X9_isNormal ⟨rfl, rfl⟩ cl_8 wd_509 wd_510 wd_511 wd_512 wd_66 ⟨by decide, by decide, by decide +kernel⟩ ⟨by decide, by decide⟩ dX0_isTrue_31 (mm_if_eq hC (t := 56) dX0_isTrue_34 (by decide) (fun _ _ _ h => h) (mm_la_n hC dX0_isTrue_37 rfl (mm_la hC dX0_isTrue_38 (mm_cv hC sp_X9_characteristic ⟨rfl, rfl⟩ cl_8 wd_537 wd_483 wd_484 wd_485 wd_66 ⟨by decide, by decide, by decide +kernel⟩ ⟨by decide, by decide⟩ dX0_isTrue_40 (mm_la_n hC dX0_isTrue_43 rfl (mm_gr hC cl_0 (by decide) rfl wd_285 dX0_isTrue_44 (mm_ld_n hC dX0_isTrue_47 rfl (mm_ial hC dX0_isTrue_48 (mm_ic_ne hC (t := 56) dX0_isTrue_49 (by decide) (fun _ _ _ h => h) (mm_ic hC dX0_isTrue_52 ⟨by decide, by decide⟩ (mm_goto hC (t := 57) dX0_isTrue_53 (by decide) (fun _ _ _ h => h))))))))))))))))))))))) (mm_ic hC dX0_isTrue_13 ⟨by decide, by decide⟩ (mm_zr hC ⟨rfl, rfl⟩ hr dX0_isTrue_14)))))))))), (by unfold b_X0_isTrue_56; exact (mm_ic hC dX0_isTrue_56 ⟨by decide, by decide⟩ (fun _ _ _ h => h))), (by unfold b_X0_isTrue_57; exact (mm_zr hC ⟨rfl, rfl⟩ hr dX0_isTrue_57))⟩
set_option maxRecDepth 100000 in
set_option maxHeartbeats 8000000 in
theorem pv_X0_isTrue : ∀ (av : List mm_V) (σ : mm_S) (Post : Option mm_V → mm_S → Prop), (∀ v ∈ av, mm_iv v) → (∀ a j, mm_in (σ.1 a j)) → σ.2.2 ≤ 348 → T_X0_isTrue av σ Post → ∀ Ok : Nat → mm_K, clo_X0_isTrue Ok Post σ.2.2 → Ok 0 (av ++ List.replicate (5 - av.length) (.inr none)) [] σ := by
  intro av σ Post hav hin hk hT Ok hcl
  obtain ⟨I, R0⟩ := σ
  unfold T_X0_isTrue at hT
  split at hT
  · rename_i a x w s
    obtain ⟨h0, hT⟩ := hT
    have h0 : R0 = mm_R0 := h0
    subst h0
    dsimp only at hT hin
    obtain ⟨c0, c56, c57⟩ := hcl
    obtain ⟨rfl, rfl, rfl, i, n, L, rfl, h1, h2, hg, hS, ⟨h3, h4, h5⟩, hP⟩ := hT
    obtain ⟨k1, k2, k3, k4, k5, k6, k7⟩ := sh_299
    obtain ⟨w1, w2, w3, w4, w5, w6⟩ := Rs_2
    have r9 := Rs_1.2.2.2.2.2.2.2.2.2
    obtain ⟨t, ht⟩ := Int.eq_ofNat_of_zero_le h2
    obtain ⟨s0, s1, s2, s3, s4⟩ := sh_world 2 (by decide) sh_2
    have hw5 : ∀ j, mm_Rs 5 j = some (6 + 2 * j) := fun j => Rs_ws sh_2 j
    have s3' : mm_sh 5 = (101, 6) := s3
    refine c0 _ _ _ ?_
    simp only [b_X0_isTrue_0, i_xorg, i_shl, i_shr, i_ior, i_and1, i_lcg1, i_lcg2, i_ld, i_la, i_st, i_sa, i_c, i_inc, i_add, i_sub, i_mul, i_div, i_rem, i_remT, i_xor, i_dup, i_dup2, i_if, i_if2, i_sw, i_gi, i_gr, i_pi, i_pz, i_ial, i_ias, i_len, i_aal, i_gs, i_tal, i_cv, i_cs, i_ir, i_zr, i_vr, i_min, i_max, i_cpy, List.getElem?_cons_zero, List.getElem?_cons_succ, List.set_cons_zero, List.set_cons_succ, List.length_cons, List.length_nil, List.drop_succ_cons, List.drop_zero, List.take_succ_cons, List.take_zero, List.reverse_cons, List.reverse_nil, List.nil_append, List.cons_append, Option.toList_some, Option.toList_none, true_and, and_true, true_or, or_true, Nat.reduceAdd, Nat.reduceLT, Nat.reduceLeDiff, Option.some.injEq, exists_eq_left', Int.toNat_natCast, Nat.reduceSub, List.append_nil, List.replicate_succ, List.replicate_zero, mm_in, k1, k2, k3, k4, k5, ht, w3, w4, s3', hw5, T_X9_isNormal, T_X9_characteristic, r9]
    refine ⟨⟨by omega, by omega⟩, fun _ _ => ⟨fun z => ?_, fun z => hP I 0 (fun _ _ _ => rfl) (bz_0 (fun w => by have := w.1; omega))⟩⟩
    have hts := (s4 t (by omega)).1
    rw [show 2 + 4 + 2 * t = 6 + 2 * t by omega] at hts
    have hb := h5 t (by omega)
    refine ⟨⟨by omega, by omega⟩, fun _ => ⟨⟨by omega, by omega⟩, by rw [hts], n, hg, ?_, ?_⟩⟩
    · rw [show 6 + 2 * t + 1 = 7 + 2 * t by omega]; exact b20_bd hb
    · rw [show 6 + 2 * t + 1 = 7 + 2 * t by omega]
      intro I' y f1 hy
      have fin : ∀ (z : Int) (u : mm_V), bz z (btrue I n L.2.1 i) → Ok 57 [.inr (some 299), .inl (i : Int), .inr (some 2), .inr (some 1), u] [.inl z] (I', mm_R0) := by
        intro z u hz
        refine c57 _ _ _ ?_
        simp only [b_X0_isTrue_57, i_xorg, i_shl, i_shr, i_ior, i_and1, i_lcg1, i_lcg2, i_ld, i_la, i_st, i_sa, i_c, i_inc, i_add, i_sub, i_mul, i_div, i_rem, i_remT, i_xor, i_dup, i_dup2, i_if, i_if2, i_sw, i_gi, i_gr, i_pi, i_pz, i_ial, i_ias, i_len, i_aal, i_gs, i_tal, i_cv, i_cs, i_ir, i_zr, i_vr, i_min, i_max, i_cpy, List.getElem?_cons_zero, List.getElem?_cons_succ, List.set_cons_zero, List.set_cons_succ, List.length_cons, List.length_nil, List.drop_succ_cons, List.drop_zero, List.take_succ_cons, List.take_zero, List.reverse_cons, List.reverse_nil, List.nil_append, List.cons_append, Option.toList_some, Option.toList_none, true_and, and_true, true_or, or_true, Nat.reduceAdd, Nat.reduceLT, Nat.reduceLeDiff, Option.some.injEq, exists_eq_left', Int.toNat_natCast, Nat.reduceSub, List.append_nil, List.replicate_succ, List.replicate_zero]
        exact ⟨by rcases hz with q | q <;> omega, hP I' z f1 hz⟩
      have no : ¬ btrue I n L.2.1 i → ∀ u : mm_V, Ok 56 [.inr (some 299), .inl (i : Int), .inr (some 2), .inr (some 1), u] [] (I', mm_R0) := by
        intro hh u
        refine c56 _ _ _ ?_
        simp only [b_X0_isTrue_56, i_xorg, i_shl, i_shr, i_ior, i_and1, i_lcg1, i_lcg2, i_ld, i_la, i_st, i_sa, i_c, i_inc, i_add, i_sub, i_mul, i_div, i_rem, i_remT, i_xor, i_dup, i_dup2, i_if, i_if2, i_sw, i_gi, i_gr, i_pi, i_pz, i_ial, i_ias, i_len, i_aal, i_gs, i_tal, i_cv, i_cs, i_ir, i_zr, i_vr, i_min, i_max, i_cpy, List.getElem?_cons_zero, List.getElem?_cons_succ, List.set_cons_zero, List.set_cons_succ, List.length_cons, List.length_nil, List.drop_succ_cons, List.drop_zero, List.take_succ_cons, List.take_zero, List.reverse_cons, List.reverse_nil, List.nil_append, List.cons_append, Option.toList_some, Option.toList_none, true_and, and_true, true_or, or_true, Nat.reduceAdd, Nat.reduceLT, Nat.reduceLeDiff, Option.some.injEq, exists_eq_left', Int.toNat_natCast, Nat.reduceSub, List.append_nil, List.replicate_succ, List.replicate_zero]
        exact fin 0 _ (bz_0 hh)
      have e7 : I' (7 + 2 * t) = I (7 + 2 * t) := f1 _ (by omega) (by omega)
      have x3 : I' 3 = I 3 := f1 3 (by decide) (by decide)
      have x4 : I' 4 = I 4 := f1 4 (by decide) (by decide)
      rw [e7, x3, f1 301 (by decide) (by decide)]
      refine ⟨fun q => no (fun w => ?_) _, fun q => ⟨by rw [hts], n, L, gw_frame hg (by rw [f1 2 (by decide) (by decide)]) x3 x4, SK_frame hS (fun b z1 z2 => f1 b (by omega) (by omega)), b20_bd hb, ⟨by omega, by omega⟩, fun _ => ⟨fun q2 => no (fun w => ?_) _, fun q2 => fin 1 _ (bz_1 ⟨by omega, ?_, ?_⟩)⟩⟩⟩
      · have := w.2.1
        rw [ht, Int.toNat_natCast] at this
        rcases hy with ⟨y1, y2⟩ | ⟨y1, y2⟩
        · omega
        · exact y2 this
      · have := w.2.2
        rw [ht, Int.toNat_natCast] at this
        exact q2 this
      · rw [ht, Int.toNat_natCast]
        rcases hy with ⟨y1, y2⟩ | ⟨y1, y2⟩
        · exact y2
        · omega
      · rw [ht, Int.toNat_natCast]; omega
  · exact hT.elim
theorem sp_X0_isTrue : mm_Sp yX0_isTrue cX0_isTrue 5 (some .boolean) rm_X0_isTrue T_X0_isTrue := mm_meth (by decide) (by
  intro av σ Post h
  unfold T_X0_isTrue at h
  split at h
  · simp
  · exact h.elim) (fun p l e s m args below meth c G av σ Post hC hr _ hav hin hk hT => pv_X0_isTrue av σ Post hav hin hk hT _ (bk_X0_isTrue hC hr))
def fwrong (P : Nat → Prop) (ct : Nat) (z : Int) : Prop := (z = -1 ∧ ∀ i, i < ct → P i) ∨ ∃ i : Nat, i < ct ∧ z = i ∧ ¬ P i ∧ ∀ j, j < i → P j
def T_X0_firstWrong : mm_T := fun av σ Post => match av with
  | [.inr (some a), .inr (some w), .inr (some s)] => σ.2 = mm_R0 ∧ a = 299 ∧ w = 2 ∧ s = 1 ∧ ∃ (ct n : Nat) (L : LT), σ.1 299 2 = ct ∧ ct ≤ 20 ∧ (∀ i, i < ct → 0 ≤ σ.1 300 i) ∧ gw σ.1 n ∧ SK σ.1 n L ∧ shs σ.1 ∧
    ∀ (I' : Nat → Nat → Int) (z : Int), (∀ b, b ≠ 29 → b ≠ 30 → I' b = σ.1 b) → fwrong (btrue σ.1 n L.2.1) ct z → Post (some (.inl z)) (I', mm_R0)
  | _ => False
def rm_X0_firstWrong : Room := { frames := 6, cells := 0, slots := 0, locals := 141 }
def b_X0_firstWrong_0 (Ok : Nat → mm_K) (Post : Option mm_V → mm_S → Prop) (kf : Nat) : mm_K := i_c 0 (i_st 3 (Ok 2))
def b_X0_firstWrong_2 (Ok : Nat → mm_K) (Post : Option mm_V → mm_S → Prop) (kf : Nat) : mm_K := i_ld 3 (i_la 0 (i_gi 0 2 (i_if2 (fun x y => y ≤ x) (i_c (-1) (i_ir Post kf)) (i_la 0 (i_ld 3 (i_la 1 (i_la 2 (i_cv 0 3 T_X0_isTrue (i_if (fun x => ¬ x = 0) (i_inc 3 1 (Ok 2)) (i_ld 3 (i_ir Post kf)))))))))))
def clo_X0_firstWrong (Ok : Nat → mm_K) (Post : Option mm_V → mm_S → Prop) (kf : Nat) : Prop := mm_imp (b_X0_firstWrong_0 Ok Post kf) (Ok 0) ∧ mm_imp (b_X0_firstWrong_2 Ok Post kf) (Ok 2)
set_option maxRecDepth 100000 in
set_option maxHeartbeats 4000000 in
theorem bk_X0_firstWrong {p : Program} {l : Launch} {e : Env} {s : State} {m : MethodId} {args : Array Value} {below : List Frame} {meth : Method} {c : Code} {G : mm_G} {σ0 : mm_S} {Post : Option mm_V → mm_S → Prop} (hC : mm_C p G s m args meth c cX0_firstWrong yX0_firstWrong.cls) (hr : meth.sig.returnType = some .int) : clo_X0_firstWrong (mm_O p l e rm_X0_firstWrong s m args below meth c G σ0.2.2 (MQ below (mm_Qc G σ0 rm_X0_firstWrong.cells rm_X0_firstWrong.slots Post) args s rm_X0_firstWrong.cells rm_X0_firstWrong.slots (mm_A G))) Post σ0.2.2 := ⟨(by unfold b_X0_firstWrong_0; exact (mm_ic hC dX0_firstWrong_0 ⟨by decide, by decide⟩ (mm_st_n hC dX0_firstWrong_1 rfl (fun _ _ _ h => h)))), (by unfold b_X0_firstWrong_2; exact (mm_ld_n hC dX0_firstWrong_2 rfl (mm_la_n hC dX0_firstWrong_3 rfl (mm_gi hC cl_0 (by decide) rfl wd_286 dX0_firstWrong_4 (mm_ic_ge hC (t := 28) dX0_firstWrong_7 (by decide) (mm_ic hC dX0_firstWrong_28 ⟨by decide, by decide⟩ (mm_ir hC ⟨rfl, rfl⟩ hr dX0_firstWrong_29)) (mm_la_n hC dX0_firstWrong_10 rfl (mm_ld_n hC dX0_firstWrong_11 rfl (mm_la_n hC dX0_firstWrong_12 rfl (mm_la_n hC dX0_firstWrong_13 rfl (mm_cv hC sp_X0_isTrue ⟨rfl, rfl⟩ cl_0 wd_505 wd_507 wd_7 wd_508 wd_74 ⟨by decide, by decide, by decide +kernel⟩ ⟨by decide, by decide⟩ dX0_firstWrong_14 (mm_if_ne hC (t := 22) dX0_firstWrong_17 (by decide) (mm_inc hC dX0_firstWrong_22 (mm_goto hC (t := 2) dX0_firstWrong_25 (by decide) (fun _ _ _ h => h))) (mm_ld_n hC dX0_firstWrong_20 rfl (mm_ir hC ⟨rfl, rfl⟩ hr dX0_firstWrong_21)))))))))))))⟩
set_option maxRecDepth 100000 in
set_option maxHeartbeats 8000000 in
theorem pv_X0_firstWrong : ∀ (av : List mm_V) (σ : mm_S) (Post : Option mm_V → mm_S → Prop), (∀ v ∈ av, mm_iv v) → (∀ a j, mm_in (σ.1 a j)) → σ.2.2 ≤ 348 → T_X0_firstWrong av σ Post → ∀ Ok : Nat → mm_K, clo_X0_firstWrong Ok Post σ.2.2 → Ok 0 (av ++ List.replicate (4 - av.length) (.inr none)) [] σ := by
  intro av σ Post hav hin hk hT Ok hcl
  obtain ⟨I, R0⟩ := σ
  unfold T_X0_firstWrong at hT
  split at hT
  · rename_i a w s
    obtain ⟨h0, hT⟩ := hT
    have h0 : R0 = mm_R0 := h0
    subst h0
    dsimp only at hT hin
    obtain ⟨c0, c2⟩ := hcl
    obtain ⟨rfl, rfl, rfl, ct, n, L, h1, h2, h3, hg, hS, h5, hP⟩ := hT
    have k1 := sh_299.1
    have hbt : ∀ (I' : Nat → Nat → Int), (∀ b, b ≠ 29 → b ≠ 30 → I' b = I b) → ∀ i, 0 ≤ I 300 i → (btrue I' n L.2.1 i ↔ btrue I n L.2.1 i) := by
      intro I' f1 i hi
      unfold btrue
      rw [f1 300 (by decide) (by decide), f1 2 (by decide) (by decide), f1 3 (by decide) (by decide), f1 4 (by decide) (by decide), f1 301 (by decide) (by decide)]
      constructor
      · intro z
        have : I 300 i < 6 := by have := h5.2.1; have := z.1; omega
        rw [f1 (7 + 2 * (I 300 i).toNat) (by omega) (by omega)] at z
        exact z
      · intro z
        have : I 300 i < 6 := by have := h5.2.1; have := z.1; omega
        rw [f1 (7 + 2 * (I 300 i).toNat) (by omega) (by omega)]
        exact z
    have loop : ∀ (d i : Nat) (I' : Nat → Nat → Int), i + d = ct → (∀ b, b ≠ 29 → b ≠ 30 → I' b = I b) → (∀ j, j < i → btrue I n L.2.1 j) → Ok 2 [.inr (some 299), .inr (some 2), .inr (some 1), .inl (i : Int)] [] (I', mm_R0) := by
      intro d
      induction d with
      | zero =>
        intro i I' hd q1 q2
        have e1 : I' 299 2 = ct := by rw [q1 299 (by decide) (by decide)]; exact h1
        refine c2 _ _ _ ?_
        simp only [b_X0_firstWrong_2, i_xorg, i_shl, i_shr, i_ior, i_and1, i_lcg1, i_lcg2, i_ld, i_la, i_st, i_sa, i_c, i_inc, i_add, i_sub, i_mul, i_div, i_rem, i_remT, i_xor, i_dup, i_dup2, i_if, i_if2, i_sw, i_gi, i_gr, i_pi, i_pz, i_ial, i_ias, i_len, i_aal, i_gs, i_tal, i_cv, i_cs, i_ir, i_zr, i_vr, i_min, i_max, i_cpy, List.getElem?_cons_zero, List.getElem?_cons_succ, List.set_cons_zero, List.set_cons_succ, List.length_cons, List.length_nil, List.drop_succ_cons, List.drop_zero, List.take_succ_cons, List.take_zero, List.reverse_cons, List.reverse_nil, List.nil_append, List.cons_append, Option.toList_some, Option.toList_none, true_and, and_true, true_or, or_true, Nat.reduceAdd, Nat.reduceLT, Nat.reduceLeDiff, Option.some.injEq, exists_eq_left', Int.toNat_natCast, Nat.reduceSub, List.append_nil, List.replicate_succ, List.replicate_zero, mm_in, k1, e1]
        refine fun _ => ⟨fun _ => hP I' (-1) q1 (Or.inl ⟨rfl, fun j hj => q2 j (by omega)⟩), fun z => by omega⟩
      | succ d ih =>
        intro i I' hd q1 q2
        have e1 : I' 299 2 = ct := by rw [q1 299 (by decide) (by decide)]; exact h1
        refine c2 _ _ _ ?_
        simp only [b_X0_firstWrong_2, i_xorg, i_shl, i_shr, i_ior, i_and1, i_lcg1, i_lcg2, i_ld, i_la, i_st, i_sa, i_c, i_inc, i_add, i_sub, i_mul, i_div, i_rem, i_remT, i_xor, i_dup, i_dup2, i_if, i_if2, i_sw, i_gi, i_gr, i_pi, i_pz, i_ial, i_ias, i_len, i_aal, i_gs, i_tal, i_cv, i_cs, i_ir, i_zr, i_vr, i_min, i_max, i_cpy, List.getElem?_cons_zero, List.getElem?_cons_succ, List.set_cons_zero, List.set_cons_succ, List.length_cons, List.length_nil, List.drop_succ_cons, List.drop_zero, List.take_succ_cons, List.take_zero, List.reverse_cons, List.reverse_nil, List.nil_append, List.cons_append, Option.toList_some, Option.toList_none, true_and, and_true, true_or, or_true, Nat.reduceAdd, Nat.reduceLT, Nat.reduceLeDiff, Option.some.injEq, exists_eq_left', Int.toNat_natCast, Nat.reduceSub, List.append_nil, List.replicate_succ, List.replicate_zero, mm_in, k1, e1, T_X0_isTrue]
        refine fun _ => ⟨fun z => by omega, fun _ => ⟨i, n, L, rfl, by omega, by rw [q1 300 (by decide) (by decide)]; exact h3 i (by omega), gw_frame hg (by rw [q1 2 (by decide) (by decide)]) (q1 3 (by decide) (by decide)) (q1 4 (by decide) (by decide)), SK_frame hS (fun b z1 z2 => q1 b (by omega) (by omega)), ⟨by rw [q1 2 (by decide) (by decide)]; exact h5.1, by rw [q1 2 (by decide) (by decide)]; exact h5.2.1, fun s hs => ?_⟩, fun I2 z f1 hz => ⟨fun q => ⟨⟨by omega, by omega⟩, ?_⟩, fun q => ?_⟩⟩⟩
        · rw [q1 2 (by decide) (by decide)] at hs
          have := h5.2.1
          rw [q1 (7 + 2 * s) (by omega) (by omega)]
          exact h5.2.2 s hs
        · refine ih (i + 1) I2 (by omega) (fun b z1 z2 => by rw [f1 b z1 z2]; exact q1 b z1 z2) (fun j hj => ?_)
          by_cases e : j = i
          · subst e
            rcases hz with ⟨z1, z2⟩ | ⟨z1, z2⟩
            · exact (hbt I' q1 j (h3 j (by omega))).mp z2
            · omega
          · exact q2 j (by omega)
        · refine hP I2 i (fun b z1 z2 => by rw [f1 b z1 z2]; exact q1 b z1 z2) (Or.inr ⟨i, by omega, rfl, fun w => ?_, q2⟩)
          rcases hz with ⟨z1, z2⟩ | ⟨z1, z2⟩
          · omega
          · exact z2 ((hbt I' q1 i (h3 i (by omega))).mpr w)
    refine c0 _ _ _ ?_
    simp only [b_X0_firstWrong_0, i_xorg, i_shl, i_shr, i_ior, i_and1, i_lcg1, i_lcg2, i_ld, i_la, i_st, i_sa, i_c, i_inc, i_add, i_sub, i_mul, i_div, i_rem, i_remT, i_xor, i_dup, i_dup2, i_if, i_if2, i_sw, i_gi, i_gr, i_pi, i_pz, i_ial, i_ias, i_len, i_aal, i_gs, i_tal, i_cv, i_cs, i_ir, i_zr, i_vr, i_min, i_max, i_cpy, List.getElem?_cons_zero, List.getElem?_cons_succ, List.set_cons_zero, List.set_cons_succ, List.length_cons, List.length_nil, List.drop_succ_cons, List.drop_zero, List.take_succ_cons, List.take_zero, List.reverse_cons, List.reverse_nil, List.nil_append, List.cons_append, Option.toList_some, Option.toList_none, true_and, and_true, true_or, or_true, Nat.reduceAdd, Nat.reduceLT, Nat.reduceLeDiff, Option.some.injEq, exists_eq_left', Int.toNat_natCast, Nat.reduceSub, List.append_nil, List.replicate_succ, List.replicate_zero]
    exact loop ct 0 I (by omega) (fun _ _ _ => rfl) (fun j hj => by omega)
  · exact hT.elim
theorem sp_X0_firstWrong : mm_Sp yX0_firstWrong cX0_firstWrong 4 (some .int) rm_X0_firstWrong T_X0_firstWrong := mm_meth (by decide) (by
  intro av σ Post h
  unfold T_X0_firstWrong at h
  split at h
  · simp
  · exact h.elim) (fun p l e s m args below meth c G av σ Post hC hr _ hav hin hk hT => pv_X0_firstWrong av σ Post hav hin hk hT _ (bk_X0_firstWrong hC hr))
theorem sh_img : ∀ i, i < 2 → (mm_sh (304 + 17 * i)).1 = 3 ∧ (mm_sh (304 + 17 * i + 1)).1 = 9 := by decide +kernel
theorem Rs_img {a : Nat} (h : (mm_sh a).1 = 3) (j : Nat) : mm_Rs a j = some (a + 1) := by unfold mm_Rs; rw [h]; rfl
def T_X3_save : mm_T := fun av σ Post => match av with
  | [.inr (some a), .inr (some w), .inr (some d)] => σ.2 = mm_R0 ∧ w = 2 ∧ d = 302 ∧ ∃ i n : Nat, i < 2 ∧ a = 304 + 17 * i ∧ σ.1 2 1 = n ∧ n ≤ 6 ∧
    ∀ I' : Nat → Nat → Int, (∀ b, b < a ∨ a + 17 ≤ b → I' b = σ.1 b) → I' a 1 = σ.1 302 0 → I' a 2 = 1 → wcp I' σ.1 (a + 1) 2 n → Post none (I', mm_R0)
  | _ => False
def rm_X3_save : Room := { frames := 3, cells := 0, slots := 0, locals := 71 }
def b_X3_save_0 (Ok : Nat → mm_K) (Post : Option mm_V → mm_S → Prop) (kf : Nat) : mm_K := i_la 0 (i_gr 3 0 (i_la 1 (i_cv 9 1 T_X10_copyFrom (i_la 0 (i_la 2 (i_gi 2 0 (i_pi 3 1 (i_la 0 (i_c 1 (i_pz 3 2 (i_vr Post kf)))))))))))
def clo_X3_save (Ok : Nat → mm_K) (Post : Option mm_V → mm_S → Prop) (kf : Nat) : Prop := mm_imp (b_X3_save_0 Ok Post kf) (Ok 0)
set_option maxRecDepth 100000 in
set_option maxHeartbeats 4000000 in
theorem bk_X3_save {p : Program} {l : Launch} {e : Env} {s : State} {m : MethodId} {args : Array Value} {below : List Frame} {meth : Method} {c : Code} {G : mm_G} {σ0 : mm_S} {Post : Option mm_V → mm_S → Prop} (hC : mm_C p G s m args meth c cX3_save yX3_save.cls) (hr : meth.sig.returnType = none) : clo_X3_save (mm_O p l e rm_X3_save s m args below meth c G σ0.2.2 (MQ below (mm_Qc G σ0 rm_X3_save.cells rm_X3_save.slots Post) args s rm_X3_save.cells rm_X3_save.slots (mm_A G))) Post σ0.2.2 := (by unfold clo_X3_save b_X3_save_0; exact (mm_la_n hC dX3_save_0 rfl (mm_gr hC cl_3 (by decide) rfl wd_316 dX3_save_1 (mm_la_n hC dX3_save_4 rfl (mm_cv hC sp_X10_copyFrom ⟨rfl, rfl⟩ cl_9 wd_770 wd_626 wd_627 wd_628 wd_67 ⟨by decide, by decide, by decide +kernel⟩ ⟨by decide, by decide⟩ dX3_save_5 (mm_la_n hC dX3_save_8 rfl (mm_la_n hC dX3_save_9 rfl (mm_gi hC cl_2 (by decide) rfl wd_302 dX3_save_10 (mm_pi hC cl_3 (by decide) rfl rfl rfl wd_317 dX3_save_13 (mm_la_n hC dX3_save_16 rfl (mm_ic hC dX3_save_17 ⟨by decide, by decide⟩ (mm_pz hC cl_3 (by decide) rfl rfl rfl wd_318 dX3_save_18 (mm_vr hC ⟨rfl, rfl⟩ hr dX3_save_21)))))))))))))
set_option maxRecDepth 100000 in
set_option maxHeartbeats 8000000 in
theorem pv_X3_save : ∀ (av : List mm_V) (σ : mm_S) (Post : Option mm_V → mm_S → Prop), (∀ v ∈ av, mm_iv v) → (∀ a j, mm_in (σ.1 a j)) → σ.2.2 ≤ 348 → T_X3_save av σ Post → ∀ Ok : Nat → mm_K, clo_X3_save Ok Post σ.2.2 → Ok 0 (av ++ List.replicate (3 - av.length) (.inr none)) [] σ := by
  intro av σ Post hav hin hk hT Ok hcl
  obtain ⟨I, R0⟩ := σ
  unfold T_X3_save at hT
  split at hT
  · rename_i a w d
    obtain ⟨h0, hT⟩ := hT
    have h0 : R0 = mm_R0 := h0
    subst h0
    dsimp only at hT hin
    have c0 := hcl
    unfold clo_X3_save at c0
    obtain ⟨rfl, rfl, i, n, h1, rfl, h2, h3, hP⟩ := hT
    obtain ⟨k1, k2⟩ := sh_img i h1
    have l1 := sh_lt k1 (by decide)
    have l2 := sh_lt k2 (by decide)
    have hR := Rs_img k1
    have k6 := sh_299.2.2.2.2.2.1
    refine c0 _ _ _ ?_
    simp only [b_X3_save_0, i_xorg, i_shl, i_shr, i_ior, i_and1, i_lcg1, i_lcg2, i_ld, i_la, i_st, i_sa, i_c, i_inc, i_add, i_sub, i_mul, i_div, i_rem, i_remT, i_xor, i_dup, i_dup2, i_if, i_if2, i_sw, i_gi, i_gr, i_pi, i_pz, i_ial, i_ias, i_len, i_aal, i_gs, i_tal, i_cv, i_cs, i_ir, i_zr, i_vr, i_min, i_max, i_cpy, List.getElem?_cons_zero, List.getElem?_cons_succ, List.set_cons_zero, List.set_cons_succ, List.length_cons, List.length_nil, List.drop_succ_cons, List.drop_zero, List.take_succ_cons, List.take_zero, List.reverse_cons, List.reverse_nil, List.nil_append, List.cons_append, Option.toList_some, Option.toList_none, true_and, and_true, true_or, or_true, Nat.reduceAdd, Nat.reduceLT, Nat.reduceLeDiff, Option.some.injEq, exists_eq_left', Int.toNat_natCast, Nat.reduceSub, List.append_nil, List.replicate_succ, List.replicate_zero, mm_in, k1, k2, l1, l2, hR, k6, T_X10_copyFrom, sh_2]
    refine ⟨by omega, n, h2, h3, fun I1 f1 c0' c1' c2' c3' c4' => ?_⟩
    have e302 : I1 302 = I 302 := f1 302 (by omega)
    intro _
    rw [e302]
    have hr : ∀ b, b ≠ 304 + 17 * i → ∀ x y, mm_set (mm_set I1 (304 + 17 * i) 1 x) (304 + 17 * i) 2 y b = I1 b := fun b hb x y => by funext j; simp [mm_set, hb]
    refine hP _ (fun b hb => by rw [hr b (by omega), f1 b (by omega)]) ?_ ?_ ⟨by rw [hr _ (by omega)]; exact c0', by rw [hr _ (by omega)]; exact c1', fun j hj => by rw [hr _ (by omega)]; exact c2' j hj, fun j hj => by rw [hr _ (by omega)]; exact c3' j hj, fun s hs i hi => by rw [hr _ (by omega)]; exact c4' s hs i hi⟩
    · simp [mm_set]
    · simp [mm_set]
  · exact hT.elim
theorem sp_X3_save : mm_Sp yX3_save cX3_save 3 none rm_X3_save T_X3_save := mm_meth (by decide) (by
  intro av σ Post h
  unfold T_X3_save at h
  split at h
  · simp
  · exact h.elim) (fun p l e s m args below meth c G av σ Post hC hr _ hav hin hk hT => pv_X3_save av σ Post hav hin hk hT _ (bk_X3_save hC hr))
def T_X3_load : mm_T := fun av σ Post => match av with
  | [.inr (some a), .inr (some w), .inr (some d)] => σ.2 = mm_R0 ∧ w = 2 ∧ d = 302 ∧ ∃ i n : Nat, i < 2 ∧ a = 304 + 17 * i ∧ σ.1 (a + 1) 1 = n ∧ n ≤ 6 ∧
    ∀ I' : Nat → Nat → Int, (∀ b, b ≠ 302 → b < 2 ∨ 18 ≤ b → I' b = σ.1 b) → I' 302 0 = σ.1 a 1 → wcp I' σ.1 2 (a + 1) n → Post none (I', mm_R0)
  | _ => False
def rm_X3_load : Room := { frames := 3, cells := 0, slots := 0, locals := 71 }
def b_X3_load_0 (Ok : Nat → mm_K) (Post : Option mm_V → mm_S → Prop) (kf : Nat) : mm_K := i_la 1 (i_la 0 (i_gr 3 0 (i_cv 9 1 T_X10_copyFrom (i_la 2 (i_la 0 (i_gi 3 1 (i_pi 2 0 (i_vr Post kf))))))))
def clo_X3_load (Ok : Nat → mm_K) (Post : Option mm_V → mm_S → Prop) (kf : Nat) : Prop := mm_imp (b_X3_load_0 Ok Post kf) (Ok 0)
set_option maxRecDepth 100000 in
set_option maxHeartbeats 4000000 in
theorem bk_X3_load {p : Program} {l : Launch} {e : Env} {s : State} {m : MethodId} {args : Array Value} {below : List Frame} {meth : Method} {c : Code} {G : mm_G} {σ0 : mm_S} {Post : Option mm_V → mm_S → Prop} (hC : mm_C p G s m args meth c cX3_load yX3_load.cls) (hr : meth.sig.returnType = none) : clo_X3_load (mm_O p l e rm_X3_load s m args below meth c G σ0.2.2 (MQ below (mm_Qc G σ0 rm_X3_load.cells rm_X3_load.slots Post) args s rm_X3_load.cells rm_X3_load.slots (mm_A G))) Post σ0.2.2 := (by unfold clo_X3_load b_X3_load_0; exact (mm_la_n hC dX3_load_0 rfl (mm_la_n hC dX3_load_1 rfl (mm_gr hC cl_3 (by decide) rfl wd_316 dX3_load_2 (mm_cv hC sp_X10_copyFrom ⟨rfl, rfl⟩ cl_9 wd_770 wd_626 wd_627 wd_628 wd_67 ⟨by decide, by decide, by decide +kernel⟩ ⟨by decide, by decide⟩ dX3_load_5 (mm_la_n hC dX3_load_8 rfl (mm_la_n hC dX3_load_9 rfl (mm_gi hC cl_3 (by decide) rfl wd_317 dX3_load_10 (mm_pi hC cl_2 (by decide) rfl rfl rfl wd_302 dX3_load_13 (mm_vr hC ⟨rfl, rfl⟩ hr dX3_load_16))))))))))
set_option maxRecDepth 100000 in
set_option maxHeartbeats 8000000 in
theorem pv_X3_load : ∀ (av : List mm_V) (σ : mm_S) (Post : Option mm_V → mm_S → Prop), (∀ v ∈ av, mm_iv v) → (∀ a j, mm_in (σ.1 a j)) → σ.2.2 ≤ 348 → T_X3_load av σ Post → ∀ Ok : Nat → mm_K, clo_X3_load Ok Post σ.2.2 → Ok 0 (av ++ List.replicate (3 - av.length) (.inr none)) [] σ := by
  intro av σ Post hav hin hk hT Ok hcl
  obtain ⟨I, R0⟩ := σ
  unfold T_X3_load at hT
  split at hT
  · rename_i a w d
    obtain ⟨h0, hT⟩ := hT
    have h0 : R0 = mm_R0 := h0
    subst h0
    dsimp only at hT hin
    have c0 := hcl
    unfold clo_X3_load at c0
    obtain ⟨rfl, rfl, i, n, h1, rfl, h2, h3, hP⟩ := hT
    obtain ⟨k1, k2⟩ := sh_img i h1
    have l1 := sh_lt k1 (by decide)
    have l2 := sh_lt k2 (by decide)
    have hR := Rs_img k1
    have k6 := sh_299.2.2.2.2.2.1
    refine c0 _ _ _ ?_
    simp only [b_X3_load_0, i_xorg, i_shl, i_shr, i_ior, i_and1, i_lcg1, i_lcg2, i_ld, i_la, i_st, i_sa, i_c, i_inc, i_add, i_sub, i_mul, i_div, i_rem, i_remT, i_xor, i_dup, i_dup2, i_if, i_if2, i_sw, i_gi, i_gr, i_pi, i_pz, i_ial, i_ias, i_len, i_aal, i_gs, i_tal, i_cv, i_cs, i_ir, i_zr, i_vr, i_min, i_max, i_cpy, List.getElem?_cons_zero, List.getElem?_cons_succ, List.set_cons_zero, List.set_cons_succ, List.length_cons, List.length_nil, List.drop_succ_cons, List.drop_zero, List.take_succ_cons, List.take_zero, List.reverse_cons, List.reverse_nil, List.nil_append, List.cons_append, Option.toList_some, Option.toList_none, true_and, and_true, true_or, or_true, Nat.reduceAdd, Nat.reduceLT, Nat.reduceLeDiff, Option.some.injEq, exists_eq_left', Int.toNat_natCast, Nat.reduceSub, List.append_nil, List.replicate_succ, List.replicate_zero, mm_in, k1, k2, l1, l2, hR, k6, T_X10_copyFrom, sh_2]
    refine ⟨by omega, n, h2, h3, fun I1 f1 c0' c1' c2' c3' c4' => ?_⟩
    intro _
    rw [f1 (304 + 17 * i) (by omega)]
    have hr : ∀ b, b ≠ 302 → ∀ x, mm_set I1 302 0 x b = I1 b := fun b hb x => by funext j; simp [mm_set, hb]
    refine hP _ (fun b z1 z2 => by rw [hr b z1, f1 b (by omega)]) ?_ ⟨by rw [hr _ (by omega)]; exact c0', by rw [hr _ (by omega)]; exact c1', fun j hj => by rw [hr _ (by omega)]; exact c2' j hj, fun j hj => by rw [hr _ (by omega)]; exact c3' j hj, fun s hs i hi => by rw [hr _ (by omega)]; exact c4' s hs i hi⟩
    simp [mm_set]
  · exact hT.elim
theorem sp_X3_load : mm_Sp yX3_load cX3_load 3 none rm_X3_load T_X3_load := mm_meth (by decide) (by
  intro av σ Post h
  unfold T_X3_load at h
  split at h
  · simp
  · exact h.elim) (fun p l e s m args below meth c G av σ Post hC hr _ hav hin hk hT => pv_X3_load av σ Post hav hin hk hT _ (bk_X3_load hC hr))
