/-! PieceSurfaces: deeds
-/
def wBeg (W : Nat → Int) (k : Int) : Nat → Int := fun i => if i = 0 then k else if i = 1 then 0 else if i < 14 then -1 else W i
def bodF (S : Nat → Nat → Int) (k : Int) : (Nat → Nat → Int) × Int := if 1 ≤ k ∧ k ≤ 3 then (upW (recS S) (wBeg (S 0) k), S 0 0) else (S, -1000000002)
def dT (F : (Nat → Nat → Int) → (Nat → Nat → Int) × Int) (a : Nat) (σ : mm_S) (Post : Option mm_V → mm_S → Prop) : Prop := σ.2 = mm_R0 ∧ a = 0 ∧ ∃ S, cSt σ.1 S ∧ okS S ∧ ∀ I', hiF I' σ.1 → cSt I' (F S).1 → Post (some (.inl (F S).2)) (I', mm_R0)
theorem hiF_rf (I : Nat → Nat → Int) : hiF I I := fun _ _ => rfl
theorem Rs_41 : (mm_sh 41).1 = 5 := sh_41.1
def T_X11_bodies : mm_T := fun av σ Post => match av with
  | [.inr (some a), .inl k] => dT (fun S => bodF S k) a σ Post
  | _ => False
def rm_X11_bodies : Room := { frames := 4, cells := 0, slots := 0, locals := 92 }
def b_X11_bodies_0 (Ok : Nat → mm_K) (Post : Option mm_V → mm_S → Prop) (kf : Nat) : mm_K := i_ld 1 (i_c 1 (i_if2 (fun x y => x < y) (Ok 10) (i_ld 1 (i_c 3 (i_if2 (fun x y => x ≤ y) (i_la 0 (i_gr 10 3 (i_la 0 (i_gr 10 0 (i_cv 5 1 T_X5_record (i_la 0 (i_gr 10 0 (i_gi 9 0 (i_st 2 (i_la 0 (i_gr 10 0 (i_ld 1 (i_cv 9 1 T_X10_begin (i_ld 2 (i_ir Post kf))))))))))))))) (Ok 10))))))
def b_X11_bodies_10 (Ok : Nat → mm_K) (Post : Option mm_V → mm_S → Prop) (kf : Nat) : mm_K := i_c (-1000000002) (i_ir Post kf)
def clo_X11_bodies (Ok : Nat → mm_K) (Post : Option mm_V → mm_S → Prop) (kf : Nat) : Prop := mm_imp (b_X11_bodies_0 Ok Post kf) (Ok 0) ∧ mm_imp (b_X11_bodies_10 Ok Post kf) (Ok 10)
set_option maxRecDepth 100000 in
set_option maxHeartbeats 4000000 in
theorem bk_X11_bodies {p : Program} {l : Launch} {e : Env} {s : State} {m : MethodId} {args : Array Value} {below : List Frame} {meth : Method} {c : Code} {G : mm_G} {σ0 : mm_S} {Post : Option mm_V → mm_S → Prop} (hC : mm_C p G s m args meth c cX11_bodies yX11_bodies.cls) (hr : meth.sig.returnType = some .int) : clo_X11_bodies (mm_O p l e rm_X11_bodies s m args below meth c G σ0.2.2 (MQ below (mm_Qc G σ0 rm_X11_bodies.cells rm_X11_bodies.slots Post) args s rm_X11_bodies.cells rm_X11_bodies.slots (mm_A G))) Post σ0.2.2 := ⟨(by unfold b_X11_bodies_0; exact (mm_ld_n hC dX11_bodies_0 rfl (mm_ic hC dX11_bodies_1 ⟨by decide, by decide⟩ (mm_ic_lt hC (t := 10) dX11_bodies_2 (by decide) (fun _ _ _ h => h) (mm_ld_n hC dX11_bodies_5 rfl (mm_ic hC dX11_bodies_6 ⟨by decide, by decide⟩ (mm_ic_le hC (t := 13) dX11_bodies_7 (by decide) (mm_la_n hC dX11_bodies_13 rfl (mm_gr hC cl_10 (by decide) rfl wd_330 dX11_bodies_14 (mm_la_n hC dX11_bodies_17 rfl (mm_gr hC cl_10 (by decide) rfl wd_327 dX11_bodies_18 (mm_cv hC sp_X5_record ⟨rfl, rfl⟩ cl_5 wd_621 wd_622 wd_623 wd_624 wd_73 ⟨by decide, by decide, by decide +kernel⟩ ⟨by decide, by decide⟩ dX11_bodies_21 (mm_la_n hC dX11_bodies_24 rfl (mm_gr hC cl_10 (by decide) rfl wd_327 dX11_bodies_25 (mm_gi hC cl_9 (by decide) rfl wd_121 dX11_bodies_28 (mm_st_n hC dX11_bodies_31 rfl (mm_la_n hC dX11_bodies_32 rfl (mm_gr hC cl_10 (by decide) rfl wd_327 dX11_bodies_33 (mm_ld_n hC dX11_bodies_36 rfl (mm_cv hC sp_X10_begin ⟨rfl, rfl⟩ cl_9 wd_638 wd_639 wd_640 wd_641 wd_67 ⟨by decide, by decide, by decide +kernel⟩ ⟨by decide, by decide⟩ dX11_bodies_37 (mm_ld_n hC dX11_bodies_40 rfl (mm_ir hC ⟨rfl, rfl⟩ hr dX11_bodies_41))))))))))))))) (fun _ _ _ h => h)))))))), (by unfold b_X11_bodies_10; exact (mm_ldc hC dX11_bodies_10 ⟨by decide, by decide⟩ wd_361 (mm_ir hC ⟨rfl, rfl⟩ hr dX11_bodies_12)))⟩
set_option maxRecDepth 100000 in
set_option maxHeartbeats 8000000 in
theorem pv_X11_bodies : ∀ (av : List mm_V) (σ : mm_S) (Post : Option mm_V → mm_S → Prop), (∀ v ∈ av, mm_iv v) → (∀ a j, mm_in (σ.1 a j)) → σ.2.2 ≤ 348 → T_X11_bodies av σ Post → ∀ Ok : Nat → mm_K, clo_X11_bodies Ok Post σ.2.2 → Ok 0 (av ++ List.replicate (3 - av.length) (.inr none)) [] σ := by
  intro av σ Post hav hin hk hT Ok hcl
  obtain ⟨I, R0⟩ := σ
  unfold T_X11_bodies at hT
  split at hT
  · rename_i a k
    obtain ⟨h0, hT⟩ := hT
    have h0 : R0 = mm_R0 := h0
    subst h0
    dsimp only at hT hin
    obtain ⟨c0, c10⟩ := hcl
    obtain ⟨rfl, S, hS, ok, hP⟩ := hT
    obtain ⟨k0, k1, k2, k3, k4, k5, k6, k7⟩ := sh_0
    have w4 := sh_2
    have p5 := Rs_41
    have out : ¬ (1 ≤ k ∧ k ≤ 3) → ∀ u : mm_V, Ok 10 [.inr (some 0), .inl k, u] [] (I, mm_R0) := by
      intro h1 u
      refine c10 _ _ _ ?_
      simp only [b_X11_bodies_10, i_xorg, i_shl, i_shr, i_ior, i_and1, i_lcg1, i_lcg2, i_ld, i_la, i_st, i_sa, i_c, i_inc, i_add, i_sub, i_mul, i_div, i_rem, i_remT, i_xor, i_dup, i_dup2, i_if, i_if2, i_sw, i_gi, i_gr, i_pi, i_pz, i_ial, i_ias, i_len, i_aal, i_gs, i_tal, i_cv, i_cs, i_ir, i_zr, i_vr, i_min, i_max, i_cpy, List.getElem?_cons_zero, List.getElem?_cons_succ, List.set_cons_zero, List.set_cons_succ, List.length_cons, List.length_nil, List.drop_succ_cons, List.drop_zero, List.take_succ_cons, List.take_zero, List.reverse_cons, List.reverse_nil, List.nil_append, List.cons_append, Option.toList_some, Option.toList_none, true_and, and_true, true_or, or_true, Nat.reduceAdd, Nat.reduceLT, Nat.reduceLeDiff, Option.some.injEq, exists_eq_left', Int.toNat_natCast, Nat.reduceSub, List.append_nil, List.replicate_succ, List.replicate_zero]
      have e : bodF S k = (S, -1000000002) := if_neg h1
      simp only [e] at hP
      exact hP I (hiF_rf I) hS
    refine c0 _ _ _ ?_
    simp only [b_X11_bodies_0, i_xorg, i_shl, i_shr, i_ior, i_and1, i_lcg1, i_lcg2, i_ld, i_la, i_st, i_sa, i_c, i_inc, i_add, i_sub, i_mul, i_div, i_rem, i_remT, i_xor, i_dup, i_dup2, i_if, i_if2, i_sw, i_gi, i_gr, i_pi, i_pz, i_ial, i_ias, i_len, i_aal, i_gs, i_tal, i_cv, i_cs, i_ir, i_zr, i_vr, i_min, i_max, i_cpy, List.getElem?_cons_zero, List.getElem?_cons_succ, List.set_cons_zero, List.set_cons_succ, List.length_cons, List.length_nil, List.drop_succ_cons, List.drop_zero, List.take_succ_cons, List.take_zero, List.reverse_cons, List.reverse_nil, List.nil_append, List.cons_append, Option.toList_some, Option.toList_none, true_and, and_true, true_or, or_true, Nat.reduceAdd, Nat.reduceLT, Nat.reduceLeDiff, Option.some.injEq, exists_eq_left', Int.toNat_natCast, Nat.reduceSub, List.append_nil, List.replicate_succ, List.replicate_zero, mm_in, k0, k1, k4, p5]
    refine ⟨fun x => out (by omega) _, fun x => ⟨fun x2 => recall hS ok (fun I1 f1 f2 f3 f4 h1 => ?_), fun x2 => out (by omega) _⟩⟩
    simp only [mm_in, k0, k1, k4, p5, w4, T_X10_begin, i_xorg, i_shl, i_shr, i_ior, i_and1, i_lcg1, i_lcg2, i_ld, i_la, i_st, i_sa, i_c, i_inc, i_add, i_sub, i_mul, i_div, i_rem, i_remT, i_xor, i_dup, i_dup2, i_if, i_if2, i_sw, i_gi, i_gr, i_pi, i_pz, i_ial, i_ias, i_len, i_aal, i_gs, i_tal, i_cv, i_cs, i_ir, i_zr, i_vr, i_min, i_max, i_cpy, List.getElem?_cons_zero, List.getElem?_cons_succ, List.set_cons_zero, List.set_cons_succ, List.length_cons, List.length_nil, List.drop_succ_cons, List.drop_zero, List.take_succ_cons, List.take_zero, List.reverse_cons, List.reverse_nil, List.nil_append, List.cons_append, Option.toList_some, Option.toList_none, true_and, and_true, true_or, or_true, Nat.reduceAdd, Nat.reduceLT, Nat.reduceLeDiff, Option.some.injEq, exists_eq_left', Int.toNat_natCast, Nat.reduceSub, List.append_nil, List.replicate_succ, List.replicate_zero]
    intro _ I2 g1 g2 g3 g4
    have e : bodF S k = (upW (recS S) (wBeg (S 0) k), S 0 0) := if_pos (by omega)
    simp only [e] at hP
    have e0 : I1 2 0 = S 0 0 := by rw [f2 2 (by omega)]; exact hS.1.1
    rw [e0]
    refine hP I2 (fun b hb => by rw [g1 b (by omega) (by omega)]; exact f1 b hb) (cSt_up h1 (okS_rec ok) (fun b hb => g1 b (by omega) (by omega)) ?_)
    refine ⟨g2, g3, fun j hj => ?_, fun j hj h => ?_, fun s hs => ?_⟩
    · rw [g4 j hj]
      unfold pw wBeg
      rw [if_neg (by omega), if_neg (by omega), if_pos (by omega)]
    · unfold pw wBeg at h
      rw [if_neg (by omega), if_neg (by omega), if_pos (by omega)] at h
      omega
    · unfold wBeg at hs
      rw [if_neg (by omega), if_pos rfl] at hs
      omega
  · exact hT.elim
theorem sp_X11_bodies : mm_Sp yX11_bodies cX11_bodies 3 (some .int) rm_X11_bodies T_X11_bodies := mm_meth (by decide) (by
  intro av σ Post h
  unfold T_X11_bodies at h
  split at h
  · simp
  · exact h.elim) (fun p l e s m args below meth c G av σ Post hC hr _ hav hin hk hT => pv_X11_bodies av σ Post hav hin hk hT _ (bk_X11_bodies hC hr))
/-- the gluing of two faces -/
def wGlu (W : Nat → Int) (x y : Nat) (k : Int) : Nat → Int := fun i => if i = 1 then 0 else if i = 2 + x then (y : Int) else if i = 2 + y then (x : Int) else if i = 14 + x then k else if i = 14 + y then mm_tb 1 k.toNat else W i
abbrev fcs (W : Nat → Int) (b f : Int) : Prop := (0 ≤ b ∧ b < W 0) ∧ 0 ≤ f ∧ f < 4
abbrev canG (W : Nat → Int) (x y : Nat) : Prop := x ≠ y ∧ pw W x < 0 ∧ pw W y < 0
def gluF (S : Nat → Nat → Int) (b f c g k : Int) : (Nat → Nat → Int) × Int :=
  if ¬ (fcs (S 0) b f ∧ fcs (S 0) c g) then (S, -1000000001) else if ¬ (0 ≤ k ∧ k ≤ 5) then (S, -1000000002) else if ¬ canG (S 0) (4 * b + f).toNat (4 * c + g).toNat then (S, -1000000003)
  else (upW (recS S) (wGlu (S 0) (4 * b + f).toNat (4 * c + g).toNat k), frn (pw (wGlu (S 0) (4 * b + f).toNat (4 * c + g).toNat k)) (4 * (S 0 0).toNat))
theorem pw_glu (W : Nat → Int) (x y : Nat) (k : Int) {j : Nat} (hj : j < 12) : pw (wGlu W x y k) j = if j = x then (y : Int) else if j = y then (x : Int) else pw W j := by
  unfold pw wGlu
  simp only [show ¬ (2 + j = 1) by omega, show ¬ (2 + j = 14 + x) by omega, show ¬ (2 + j = 14 + y) by omega, Nat.add_left_cancel_iff, if_false]
theorem ww_glu (W : Nat → Int) {x y : Nat} (k : Int) {j : Nat} (hx : x < 12) (hy : y < 12) : ww (wGlu W x y k) j = if j = x then k else if j = y then mm_tb 1 k.toNat else ww W j := by
  unfold ww wGlu
  simp only [show ¬ (14 + j = 1) by omega, show ¬ (14 + j = 2 + x) by omega, show ¬ (14 + j = 2 + y) by omega, Nat.add_left_cancel_iff, if_false]
theorem wGlu_0 (W : Nat → Int) (x y : Nat) (k : Int) : wGlu W x y k 0 = W 0 := by
  unfold wGlu
  simp only [show ¬ (0 = 1) by omega, show ¬ (0 = 2 + x) by omega, show ¬ (0 = 2 + y) by omega, show ¬ (0 = 14 + x) by omega, show ¬ (0 = 14 + y) by omega, if_false]
theorem wGlu_1 (W : Nat → Int) (x y : Nat) (k : Int) : wGlu W x y k 1 = 0 := by
  unfold wGlu
  rw [if_pos rfl]
theorem cW_glu {I I2 : Nat → Nat → Int} {W : Nat → Int} {x y k : Nat} (hx : x < 12) (hy : y < 12) (hne : x ≠ y) (h : cW I 2 W) (g1 : I2 2 0 = I 2 0) (g2 : I2 2 1 = 0) (g3 : ∀ j, I2 3 j = if j = x then (y : Int) else if j = y then (x : Int) else I 3 j)
    (g4 : ∀ j, I2 4 j = if j = x then (k : Int) else if j = y then mm_tb 1 k else I 4 j) : cW I2 2 (wGlu W x y k) := by
  obtain ⟨a1, a2, a3, a4, a5⟩ := h
  refine ⟨by rw [g1, a1, wGlu_0], by rw [g2, wGlu_1], fun j hj => ?_, fun j hj h => ?_, fun s hs => ?_⟩
  · rw [show (2 : Nat) + 1 = 3 by omega, g3 j, pw_glu W x y k hj]
    have := a3 j hj
    simp only [Nat.reduceAdd] at this
    rw [this]
  · rw [show (2 : Nat) + 2 = 4 by omega, g4 j, ww_glu W k hx hy, Int.toNat_natCast]
    rw [pw_glu W x y k hj] at h
    by_cases q : j = x
    · rw [if_pos q, if_pos q]
    · rw [if_neg q, if_neg q]
      by_cases r : j = y
      · rw [if_pos r, if_pos r]
      · rw [if_neg r, if_neg r]
        rw [if_neg q, if_neg r] at h
        exact a4 j hj h
  · rw [wGlu_1] at hs
    omega
theorem frn_cg {p q : Nat → Int} {n : Nat} (h : ∀ j, j < n → p j = q j) : frn p n = frn q n := by
  unfold frn
  exact sm_congr (fun k hk => by rw [h k hk])
def T_X11_glue : mm_T := fun av σ Post => match av with
  | [.inr (some a), .inl b, .inl f, .inl c, .inl g, .inl k] => dT (fun S => gluF S b f c g k) a σ Post
  | _ => False
def rm_X11_glue : Room := { frames := 4, cells := 0, slots := 0, locals := 92 }
def b_X11_glue_0 (Ok : Nat → mm_K) (Post : Option mm_V → mm_S → Prop) (kf : Nat) : mm_K := i_la 0 (i_ld 1 (i_ld 2 (i_cv 10 2 T_X11_hasFace (i_if (fun x => x = 0) (Ok 19) (i_la 0 (i_ld 3 (i_ld 4 (i_cv 10 2 T_X11_hasFace (i_if (fun x => ¬ x = 0) (i_ld 5 (i_if (fun x => x < 0) (Ok 33) (i_ld 5 (i_c 5 (i_if2 (fun x y => x ≤ y) (i_la 0 (i_gr 10 0 (i_c 4 (i_ld 1 (i_mul (i_ld 2 (i_add (i_c 4 (i_ld 3 (i_mul (i_ld 4 (i_add (i_cv 9 2 T_X10_canFasten (i_if (fun x => ¬ x = 0) (i_la 0 (i_gr 10 3 (i_la 0 (i_gr 10 0 (i_cv 5 1 T_X5_record (i_la 0 (i_gr 10 0 (i_c 4 (i_ld 1 (i_mul (i_ld 2 (i_add (i_c 4 (i_ld 3 (i_mul (i_ld 4 (i_add (i_ld 5 (i_cv 9 3 T_X10_fasten (i_la 0 (i_gr 10 0 (i_cv 9 0 T_X10_freeFaces (i_ir Post kf))))))))))))))))))))))) (i_c (-1000000003) (i_ir Post kf)))))))))))))))) (Ok 33)))))) (Ok 19))))))))))
def b_X11_glue_19 (Ok : Nat → mm_K) (Post : Option mm_V → mm_S → Prop) (kf : Nat) : mm_K := i_c (-1000000001) (i_ir Post kf)
def b_X11_glue_33 (Ok : Nat → mm_K) (Post : Option mm_V → mm_S → Prop) (kf : Nat) : mm_K := i_c (-1000000002) (i_ir Post kf)
def clo_X11_glue (Ok : Nat → mm_K) (Post : Option mm_V → mm_S → Prop) (kf : Nat) : Prop := mm_imp (b_X11_glue_0 Ok Post kf) (Ok 0) ∧ mm_imp (b_X11_glue_19 Ok Post kf) (Ok 19) ∧ mm_imp (b_X11_glue_33 Ok Post kf) (Ok 33)
set_option maxRecDepth 100000 in
set_option maxHeartbeats 4000000 in
theorem bk_X11_glue {p : Program} {l : Launch} {e : Env} {s : State} {m : MethodId} {args : Array Value} {below : List Frame} {meth : Method} {c : Code} {G : mm_G} {σ0 : mm_S} {Post : Option mm_V → mm_S → Prop} (hC : mm_C p G s m args meth c cX11_glue yX11_glue.cls) (hr : meth.sig.returnType = some .int) : clo_X11_glue (mm_O p l e rm_X11_glue s m args below meth c G σ0.2.2 (MQ below (mm_Qc G σ0 rm_X11_glue.cells rm_X11_glue.slots Post) args s rm_X11_glue.cells rm_X11_glue.slots (mm_A G))) Post σ0.2.2 := ⟨(by unfold b_X11_glue_0; exact (mm_la_n hC dX11_glue_0 rfl (mm_ld_n hC dX11_glue_1 rfl (mm_ld_n hC dX11_glue_2 rfl (mm_cv hC sp_X11_hasFace ⟨rfl, rfl⟩ cl_10 wd_542 wd_544 wd_9 wd_545 wd_65 ⟨by decide, by decide, by decide +kernel⟩ ⟨by decide, by decide⟩ dX11_glue_3 (mm_if_eq hC (t := 19) dX11_glue_6 (by decide) (fun _ _ _ h => h) (mm_la_n hC dX11_glue_9 rfl (mm_ld_n hC dX11_glue_10 rfl (mm_ld hC dX11_glue_11 (mm_cv hC sp_X11_hasFace ⟨rfl, rfl⟩ cl_10 wd_542 wd_544 wd_9 wd_545 wd_65 ⟨by decide, by decide, by decide +kernel⟩ ⟨by decide, by decide⟩ dX11_glue_13 (mm_if_ne hC (t := 22) dX11_glue_16 (by decide) (mm_ld hC dX11_glue_22 (mm_if_lt hC (t := 33) dX11_glue_24 (by decide) (fun _ _ _ h => h) (mm_ld hC dX11_glue_27 (mm_ic hC dX11_glue_29 ⟨by decide, by decide⟩ (mm_ic_le hC (t := 36) dX11_glue_30 (by decide) (mm_la_n hC dX11_glue_36 rfl (mm_gr hC cl_10 (by decide) rfl wd_327 dX11_glue_37 (mm_ic hC dX11_glue_40 ⟨by decide, by decide⟩ (mm_ld_n hC dX11_glue_41 rfl (mm_mul hC dX11_glue_42 (mm_ld_n hC dX11_glue_43 rfl (mm_add hC dX11_glue_44 (mm_ic hC dX11_glue_45 ⟨by decide, by decide⟩ (mm_ld_n hC dX11_glue_46 rfl (mm_mul hC dX11_glue_47 (mm_ld hC dX11_glue_48 (mm_add hC dX11_glue_50 (mm_cv hC sp_X10_canFasten ⟨rfl, rfl⟩ cl_9 wd_646 wd_647 wd_648 wd_649 wd_67 ⟨by decide, by decide, by decide +kernel⟩ ⟨by decide, by decide⟩ dX11_glue_51 (mm_if_ne hC (t := 60) dX11_glue_54 (by decide) (mm_la_n hC dX11_glue_60 rfl (mm_gr hC cl_10 (by decide) rfl wd_330 dX11_glue_61 (mm_la_n hC dX11_glue_64 rfl (mm_gr hC cl_10 (by decide) rfl wd_327 dX11_glue_65 (mm_cv hC sp_X5_record ⟨rfl, rfl⟩ cl_5 wd_621 wd_622 wd_623 wd_624 wd_73 ⟨by decide, by decide, by decide +kernel⟩ ⟨by decide, by decide⟩ dX11_glue_68 (mm_la_n hC dX11_glue_71 rfl (mm_gr hC cl_10 (by decide) rfl wd_327 dX11_glue_72 (mm_ic hC dX11_glue_75 ⟨by decide, by decide⟩ (mm_ld_n hC dX11_glue_76 rfl (mm_mul hC dX11_glue_77 (mm_ld_n hC dX11_glue_78 rfl (mm_add hC dX11_glue_79 (mm_ic hC dX11_glue_80 ⟨by decide, by decide⟩ (mm_ld_n hC dX11_glue_81 rfl (mm_mul hC dX11_glue_82 (mm_ld hC dX11_glue_83 (mm_add hC dX11_glue_85 (mm_ld hC dX11_glue_86 (mm_cv hC sp_X10_fasten ⟨rfl, rfl⟩ cl_9 wd_651 wd_652 wd_653 wd_654 wd_67 ⟨by decide, by decide, by decide +kernel⟩ ⟨by decide, by decide⟩ dX11_glue_88 (mm_la_n hC dX11_glue_91 rfl (mm_gr hC cl_10 (by decide) rfl wd_327 dX11_glue_92 (mm_cv hC sp_X10_freeFaces ⟨rfl, rfl⟩ cl_9 wd_353 wd_354 wd_355 wd_356 wd_67 ⟨by decide, by decide, by decide +kernel⟩ ⟨by decide, by decide⟩ dX11_glue_95 (mm_ir hC ⟨rfl, rfl⟩ hr dX11_glue_98))))))))))))))))))))))) (mm_ldc hC dX11_glue_57 ⟨by decide, by decide⟩ wd_650 (mm_ir hC ⟨rfl, rfl⟩ hr dX11_glue_59)))))))))))))))) (fun _ _ _ h => h)))))) (fun _ _ _ h => h)))))))))))), (by unfold b_X11_glue_19; exact (mm_ldc hC dX11_glue_19 ⟨by decide, by decide⟩ wd_550 (mm_ir hC ⟨rfl, rfl⟩ hr dX11_glue_21))), (by unfold b_X11_glue_33; exact (mm_ldc hC dX11_glue_33 ⟨by decide, by decide⟩ wd_361 (mm_ir hC ⟨rfl, rfl⟩ hr dX11_glue_35)))⟩
set_option maxRecDepth 100000 in
set_option maxHeartbeats 8000000 in
theorem pv_X11_glue : ∀ (av : List mm_V) (σ : mm_S) (Post : Option mm_V → mm_S → Prop), (∀ v ∈ av, mm_iv v) → (∀ a j, mm_in (σ.1 a j)) → σ.2.2 ≤ 348 → T_X11_glue av σ Post → ∀ Ok : Nat → mm_K, clo_X11_glue Ok Post σ.2.2 → Ok 0 (av ++ List.replicate (6 - av.length) (.inr none)) [] σ := by
  intro av σ Post hav hin hk hT Ok hcl
  obtain ⟨I, R0⟩ := σ
  unfold T_X11_glue at hT
  split at hT
  · rename_i a b f c g k
    obtain ⟨h0, hT⟩ := hT
    have h0 : R0 = mm_R0 := h0
    subst h0
    dsimp only at hT hin
    obtain ⟨c0, c19, c33⟩ := hcl
    obtain ⟨rfl, S, hS, ok, hP⟩ := hT
    obtain ⟨k0, k1, k2, k3, k4, k5, k6, k7⟩ := sh_0
    have w4 := sh_2
    have p5 := Rs_41
    obtain ⟨n, hn, ⟨hn0, hn1, hn3, hgk⟩, hsh, hbk⟩ := cSt_gw hS ok
    have hW0 : S 0 0 = I 2 0 := hS.1.1.symm
    have out1 : ¬ (fcs (S 0) b f ∧ fcs (S 0) c g) → Ok 19 [.inr (some 0), .inl b, .inl f, .inl c, .inl g, .inl k] [] (I, mm_R0) := by
      intro h1
      refine c19 _ _ _ ?_
      simp only [b_X11_glue_19, i_xorg, i_shl, i_shr, i_ior, i_and1, i_lcg1, i_lcg2, i_ld, i_la, i_st, i_sa, i_c, i_inc, i_add, i_sub, i_mul, i_div, i_rem, i_remT, i_xor, i_dup, i_dup2, i_if, i_if2, i_sw, i_gi, i_gr, i_pi, i_pz, i_ial, i_ias, i_len, i_aal, i_gs, i_tal, i_cv, i_cs, i_ir, i_zr, i_vr, i_min, i_max, i_cpy, List.getElem?_cons_zero, List.getElem?_cons_succ, List.set_cons_zero, List.set_cons_succ, List.length_cons, List.length_nil, List.drop_succ_cons, List.drop_zero, List.take_succ_cons, List.take_zero, List.reverse_cons, List.reverse_nil, List.nil_append, List.cons_append, Option.toList_some, Option.toList_none, true_and, and_true, true_or, or_true, Nat.reduceAdd, Nat.reduceLT, Nat.reduceLeDiff, Option.some.injEq, exists_eq_left', Int.toNat_natCast, Nat.reduceSub, List.append_nil, List.replicate_succ, List.replicate_zero]
      have e : gluF S b f c g k = (S, -1000000001) := if_pos h1
      simp only [e] at hP
      exact hP I (hiF_rf I) hS
    have out2 : (fcs (S 0) b f ∧ fcs (S 0) c g) → ¬ (0 ≤ k ∧ k ≤ 5) → Ok 33 [.inr (some 0), .inl b, .inl f, .inl c, .inl g, .inl k] [] (I, mm_R0) := by
      intro h1 h2
      refine c33 _ _ _ ?_
      simp only [b_X11_glue_33, i_xorg, i_shl, i_shr, i_ior, i_and1, i_lcg1, i_lcg2, i_ld, i_la, i_st, i_sa, i_c, i_inc, i_add, i_sub, i_mul, i_div, i_rem, i_remT, i_xor, i_dup, i_dup2, i_if, i_if2, i_sw, i_gi, i_gr, i_pi, i_pz, i_ial, i_ias, i_len, i_aal, i_gs, i_tal, i_cv, i_cs, i_ir, i_zr, i_vr, i_min, i_max, i_cpy, List.getElem?_cons_zero, List.getElem?_cons_succ, List.set_cons_zero, List.set_cons_succ, List.length_cons, List.length_nil, List.drop_succ_cons, List.drop_zero, List.take_succ_cons, List.take_zero, List.reverse_cons, List.reverse_nil, List.nil_append, List.cons_append, Option.toList_some, Option.toList_none, true_and, and_true, true_or, or_true, Nat.reduceAdd, Nat.reduceLT, Nat.reduceLeDiff, Option.some.injEq, exists_eq_left', Int.toNat_natCast, Nat.reduceSub, List.append_nil, List.replicate_succ, List.replicate_zero]
      have e : gluF S b f c g k = (S, -1000000002) := by unfold gluF; rw [if_neg (fun w => w h1), if_pos h2]
      simp only [e] at hP
      exact hP I (hiF_rf I) hS
    refine c0 _ _ _ ?_
    simp only [b_X11_glue_0, i_xorg, i_shl, i_shr, i_ior, i_and1, i_lcg1, i_lcg2, i_ld, i_la, i_st, i_sa, i_c, i_inc, i_add, i_sub, i_mul, i_div, i_rem, i_remT, i_xor, i_dup, i_dup2, i_if, i_if2, i_sw, i_gi, i_gr, i_pi, i_pz, i_ial, i_ias, i_len, i_aal, i_gs, i_tal, i_cv, i_cs, i_ir, i_zr, i_vr, i_min, i_max, i_cpy, List.getElem?_cons_zero, List.getElem?_cons_succ, List.set_cons_zero, List.set_cons_succ, List.length_cons, List.length_nil, List.drop_succ_cons, List.drop_zero, List.take_succ_cons, List.take_zero, List.reverse_cons, List.reverse_nil, List.nil_append, List.cons_append, Option.toList_some, Option.toList_none, true_and, and_true, true_or, or_true, Nat.reduceAdd, Nat.reduceLT, Nat.reduceLeDiff, Option.some.injEq, exists_eq_left', Int.toNat_natCast, Nat.reduceSub, List.append_nil, List.replicate_succ, List.replicate_zero, mm_in, k0, k1, k4, p5, w4, T_X11_hasFace, T_X10_canFasten, T_X10_fasten, T_X10_freeFaces]
    intro z hz
    refine ⟨fun x => out1 (fun w => bz_f hz x (by rw [← hW0]; exact w.1)), fun x z2 hz2 => ⟨fun x2 => ?_, fun x2 => out1 (fun w => bz_f hz2 (by omega) (by rw [← hW0]; exact w.2))⟩⟩
    have hf1 := bz_t hz x
    have hf2 := bz_t hz2 x2
    have hff : fcs (S 0) b f ∧ fcs (S 0) c g := by unfold fcs; rw [hW0]; exact ⟨hf1, hf2⟩
    refine ⟨fun x3 => out2 hff (by omega), fun x3 => ⟨fun x4 => ?_, fun x4 => out2 hff (by omega)⟩⟩
    obtain ⟨X, hX⟩ : ∃ X, (4 * b + f).toNat = X := ⟨_, rfl⟩
    obtain ⟨Y, hY⟩ : ∃ Y, (4 * c + g).toNat = Y := ⟨_, rfl⟩
    have hX12 : X < 12 := by omega
    have hY12 : Y < 12 := by omega
    have hpX : I 3 X = pw (S 0) X := hS.1.2.2.1 X hX12
    have hpY : I 3 Y = pw (S 0) Y := hS.1.2.2.1 Y hY12
    repeat' first | refine And.intro ?_ ?_ | refine fun (_ : _ ≤ _ ∧ _ < _) => ?_
    all_goals try omega
    refine ⟨X, Y, by omega, by omega, hX12, hY12, fun z3 hz3 => ⟨fun x5 => recall hS ok (fun I1 f1 f2 f3 f4 h1 => ?_), fun x5 => ?_⟩⟩
    · have hcan : canG (S 0) X Y := by
        have := bz_t hz3 x5
        rw [hpX, hpY] at this
        exact this
      have e : gluF S b f c g k = (upW (recS S) (wGlu (S 0) X Y k), frn (pw (wGlu (S 0) X Y k)) (4 * (S 0 0).toNat)) := by
        unfold gluF
        rw [if_neg (fun w => w hff), if_neg (fun w => w ⟨by omega, by omega⟩), hX, hY, if_neg (fun w => w hcan)]
      simp only [e] at hP
      simp only [mm_in, k0, k1, k4, p5, w4, T_X10_fasten, T_X10_freeFaces, i_xorg, i_shl, i_shr, i_ior, i_and1, i_lcg1, i_lcg2, i_ld, i_la, i_st, i_sa, i_c, i_inc, i_add, i_sub, i_mul, i_div, i_rem, i_remT, i_xor, i_dup, i_dup2, i_if, i_if2, i_sw, i_gi, i_gr, i_pi, i_pz, i_ial, i_ias, i_len, i_aal, i_gs, i_tal, i_cv, i_cs, i_ir, i_zr, i_vr, i_min, i_max, i_cpy, List.getElem?_cons_zero, List.getElem?_cons_succ, List.set_cons_zero, List.set_cons_succ, List.length_cons, List.length_nil, List.drop_succ_cons, List.drop_zero, List.take_succ_cons, List.take_zero, List.reverse_cons, List.reverse_nil, List.nil_append, List.cons_append, Option.toList_some, Option.toList_none, true_and, and_true, true_or, or_true, Nat.reduceAdd, Nat.reduceLT, Nat.reduceLeDiff, Option.some.injEq, exists_eq_left', Int.toNat_natCast, Nat.reduceSub, List.append_nil, List.replicate_succ, List.replicate_zero]
      repeat' first | refine And.intro ?_ ?_ | refine fun (_ : _ ≤ _ ∧ _ < _) => ?_
      all_goals try omega
      refine ⟨X, Y, k.toNat, by omega, by omega, by omega, hX12, hY12, by omega, hcan.1, fun I2 g1 g2 g3 g4 g5 => ?_⟩
      refine ⟨n, by rw [g2, f2 2 (by omega)]; exact hn0, hn3, ?_⟩
      have hcw : cW I2 2 (wGlu (S 0) X Y k) := by
        have := cW_glu (I := I) (I2 := I2) (k := k.toNat) hX12 hY12 hcan.1 hS.1 (by rw [g2, f2 2 (by omega)]) g3 (fun j => by rw [← f2 3 (by omega)]; exact g4 j) (fun j => by rw [← f2 4 (by omega)]; exact g5 j)
        rw [show ((k.toNat : Nat) : Int) = k by omega] at this
        exact this
      rw [frn_cg (q := pw (wGlu (S 0) X Y k)) (fun j hj => hcw.2.2.1 j (by omega)), show n = (S 0 0).toNat by omega]
      exact hP I2 (fun b hb => by rw [g1 b (by omega) (by omega) (by omega)]; exact f1 b hb) (cSt_up h1 (okS_rec ok) (fun b hb => g1 b (by omega) (by omega) (by omega)) hcw)
    · have hcan : ¬ canG (S 0) X Y := by
        have := bz_f hz3 (by omega)
        rw [hpX, hpY] at this
        exact this
      have e : gluF S b f c g k = (S, -1000000003) := by
        unfold gluF
        rw [if_neg (fun w => w hff), if_neg (fun w => w ⟨by omega, by omega⟩), hX, hY, if_pos hcan]
      simp only [e] at hP
      exact hP I (hiF_rf I) hS
  · exact hT.elim
theorem sp_X11_glue : mm_Sp yX11_glue cX11_glue 6 (some .int) rm_X11_glue T_X11_glue := mm_meth (by decide) (by
  intro av σ Post h
  unfold T_X11_glue at h
  split at h
  · simp
  · exact h.elim) (fun p l e s m args below meth c G av σ Post hC hr _ hav hin hk hT => pv_X11_glue av σ Post hav hin hk hT _ (bk_X11_glue hC hr))
