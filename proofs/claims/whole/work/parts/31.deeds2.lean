/-! PieceSurfaces: free, put, piece, take
-/
theorem mset_ne {I : Nat → Nat → Int} {a j : Nat} {z : Int} {b : Nat} (h : b ≠ a) : mm_set I a j z b = I b := by
  funext i
  unfold mm_set
  rw [if_neg (fun w => h w.1)]
theorem mset_n2 {I : Nat → Nat → Int} {a j : Nat} {z : Int} {b i : Nat} (h : i ≠ j) : mm_set I a j z b i = I b i := by
  unfold mm_set
  rw [if_neg (fun w => h w.2)]
theorem mset_eq {I : Nat → Nat → Int} {a j : Nat} {z : Int} : mm_set I a j z a j = z := by
  unfold mm_set
  rw [if_pos ⟨rfl, rfl⟩]
def wFre (W : Nat → Int) (x y : Nat) : Nat → Int := fun i => if i = 1 then 0 else if i = 2 + x ∨ i = 2 + y ∨ i = 14 + x ∨ i = 14 + y then -1 else W i
def freF (S : Nat → Nat → Int) (b f : Int) : (Nat → Nat → Int) × Int :=
  if ¬ fcs (S 0) b f then (S, -1000000001) else if pw (S 0) (4 * b + f).toNat < 0 then (S, -1000000003)
  else (upW (recS S) (wFre (S 0) (4 * b + f).toNat (pw (S 0) (4 * b + f).toNat).toNat), frn (pw (wFre (S 0) (4 * b + f).toNat (pw (S 0) (4 * b + f).toNat).toNat)) (4 * (S 0 0).toNat))
theorem pw_fre (W : Nat → Int) (x y : Nat) {j : Nat} (hj : j < 12) : pw (wFre W x y) j = if j = x ∨ j = y then -1 else pw W j := by
  unfold pw wFre
  simp only [show ¬ (2 + j = 1) by omega, show ¬ (2 + j = 14 + x) by omega, show ¬ (2 + j = 14 + y) by omega, Nat.add_left_cancel_iff, if_false, or_false]
theorem ww_fre (W : Nat → Int) {x y : Nat} {j : Nat} (hx : x < 12) (hy : y < 12) (h1 : j ≠ x) (h2 : j ≠ y) : ww (wFre W x y) j = ww W j := by
  unfold ww wFre
  rw [if_neg (by omega), if_neg (by omega)]
theorem wFre_0 (W : Nat → Int) (x y : Nat) : wFre W x y 0 = W 0 := by
  unfold wFre
  rw [if_neg (by omega), if_neg (by omega)]
theorem wFre_1 (W : Nat → Int) (x y : Nat) : wFre W x y 1 = 0 := by
  unfold wFre
  rw [if_pos rfl]
def T_X11_free : mm_T := fun av σ Post => match av with
  | [.inr (some a), .inl b, .inl f] => dT (fun S => freF S b f) a σ Post
  | _ => False
def rm_X11_free : Room := { frames := 4, cells := 0, slots := 0, locals := 92 }
def b_X11_free_0 (Ok : Nat → mm_K) (Post : Option mm_V → mm_S → Prop) (kf : Nat) : mm_K := i_la 0 (i_ld 1 (i_ld 2 (i_cv 10 2 T_X11_hasFace (i_if (fun x => ¬ x = 0) (i_la 0 (i_gr 10 0 (i_gr 9 2 (i_c 4 (i_ld 1 (i_mul (i_ld 2 (i_add (i_ial (i_if (fun x => 0 ≤ x) (i_la 0 (i_gr 10 3 (i_la 0 (i_gr 10 0 (i_cv 5 1 T_X5_record (i_la 0 (i_gr 10 0 (i_c 4 (i_ld 1 (i_mul (i_ld 2 (i_add (i_cv 9 1 T_X10_loosen (i_la 0 (i_gr 10 0 (i_cv 9 0 T_X10_freeFaces (i_ir Post kf))))))))))))))))) (i_c (-1000000003) (i_ir Post kf)))))))))))) (i_c (-1000000001) (i_ir Post kf))))))
def clo_X11_free (Ok : Nat → mm_K) (Post : Option mm_V → mm_S → Prop) (kf : Nat) : Prop := mm_imp (b_X11_free_0 Ok Post kf) (Ok 0)
set_option maxRecDepth 100000 in
set_option maxHeartbeats 4000000 in
theorem bk_X11_free {p : Program} {l : Launch} {e : Env} {s : State} {m : MethodId} {args : Array Value} {below : List Frame} {meth : Method} {c : Code} {G : mm_G} {σ0 : mm_S} {Post : Option mm_V → mm_S → Prop} (hC : mm_C p G s m args meth c cX11_free yX11_free.cls) (hr : meth.sig.returnType = some .int) : clo_X11_free (mm_O p l e rm_X11_free s m args below meth c G σ0.2.2 (MQ below (mm_Qc G σ0 rm_X11_free.cells rm_X11_free.slots Post) args s rm_X11_free.cells rm_X11_free.slots (mm_A G))) Post σ0.2.2 := (by unfold clo_X11_free b_X11_free_0; exact (mm_la_n hC dX11_free_0 rfl (mm_ld_n hC dX11_free_1 rfl (mm_ld_n hC dX11_free_2 rfl (mm_cv hC sp_X11_hasFace ⟨rfl, rfl⟩ cl_10 wd_542 wd_544 wd_9 wd_545 wd_65 ⟨by decide, by decide, by decide +kernel⟩ ⟨by decide, by decide⟩ dX11_free_3 (mm_if_ne hC (t := 12) dX11_free_6 (by decide) (mm_la_n hC dX11_free_12 rfl (mm_gr hC cl_10 (by decide) rfl wd_327 dX11_free_13 (mm_gr hC cl_9 (by decide) rfl wd_128 dX11_free_16 (mm_ic hC dX11_free_19 ⟨by decide, by decide⟩ (mm_ld_n hC dX11_free_20 rfl (mm_mul hC dX11_free_21 (mm_ld_n hC dX11_free_22 rfl (mm_add hC dX11_free_23 (mm_ial hC dX11_free_24 (mm_if_ge hC (t := 31) dX11_free_25 (by decide) (mm_la_n hC dX11_free_31 rfl (mm_gr hC cl_10 (by decide) rfl wd_330 dX11_free_32 (mm_la_n hC dX11_free_35 rfl (mm_gr hC cl_10 (by decide) rfl wd_327 dX11_free_36 (mm_cv hC sp_X5_record ⟨rfl, rfl⟩ cl_5 wd_621 wd_622 wd_623 wd_624 wd_73 ⟨by decide, by decide, by decide +kernel⟩ ⟨by decide, by decide⟩ dX11_free_39 (mm_la_n hC dX11_free_42 rfl (mm_gr hC cl_10 (by decide) rfl wd_327 dX11_free_43 (mm_ic hC dX11_free_46 ⟨by decide, by decide⟩ (mm_ld_n hC dX11_free_47 rfl (mm_mul hC dX11_free_48 (mm_ld_n hC dX11_free_49 rfl (mm_add hC dX11_free_50 (mm_cv hC sp_X10_loosen ⟨rfl, rfl⟩ cl_9 wd_661 wd_662 wd_663 wd_664 wd_67 ⟨by decide, by decide, by decide +kernel⟩ ⟨by decide, by decide⟩ dX11_free_51 (mm_la_n hC dX11_free_54 rfl (mm_gr hC cl_10 (by decide) rfl wd_327 dX11_free_55 (mm_cv hC sp_X10_freeFaces ⟨rfl, rfl⟩ cl_9 wd_353 wd_354 wd_355 wd_356 wd_67 ⟨by decide, by decide, by decide +kernel⟩ ⟨by decide, by decide⟩ dX11_free_58 (mm_ir hC ⟨rfl, rfl⟩ hr dX11_free_61))))))))))))))))) (mm_ldc hC dX11_free_28 ⟨by decide, by decide⟩ wd_650 (mm_ir hC ⟨rfl, rfl⟩ hr dX11_free_30)))))))))))) (mm_ldc hC dX11_free_9 ⟨by decide, by decide⟩ wd_550 (mm_ir hC ⟨rfl, rfl⟩ hr dX11_free_11))))))))
set_option maxRecDepth 100000 in
set_option maxHeartbeats 8000000 in
theorem pv_X11_free : ∀ (av : List mm_V) (σ : mm_S) (Post : Option mm_V → mm_S → Prop), (∀ v ∈ av, mm_iv v) → (∀ a j, mm_in (σ.1 a j)) → σ.2.2 ≤ 348 → T_X11_free av σ Post → ∀ Ok : Nat → mm_K, clo_X11_free Ok Post σ.2.2 → Ok 0 (av ++ List.replicate (3 - av.length) (.inr none)) [] σ := by
  intro av σ Post hav hin hk hT Ok hcl
  obtain ⟨I, R0⟩ := σ
  unfold T_X11_free at hT
  split at hT
  · rename_i a b f
    obtain ⟨h0, hT⟩ := hT
    have h0 : R0 = mm_R0 := h0
    subst h0
    dsimp only at hT hin
    have c0 := hcl
    unfold clo_X11_free at c0
    obtain ⟨rfl, S, hS, ok, hP⟩ := hT
    obtain ⟨k0, k1, k2, k3, k4, k5, k6, k7⟩ := sh_0
    obtain ⟨w1, w2, w3, w4, w5, w6⟩ := Rs_2
    have p5 := Rs_41
    obtain ⟨n, hn, ⟨hn0, hn1, hn3, hgk⟩, hsh, hbk⟩ := cSt_gw hS ok
    have hW0 : S 0 0 = I 2 0 := hS.1.1.symm
    refine c0 _ _ _ ?_
    simp only [b_X11_free_0, i_xorg, i_shl, i_shr, i_ior, i_and1, i_lcg1, i_lcg2, i_ld, i_la, i_st, i_sa, i_c, i_inc, i_add, i_sub, i_mul, i_div, i_rem, i_remT, i_xor, i_dup, i_dup2, i_if, i_if2, i_sw, i_gi, i_gr, i_pi, i_pz, i_ial, i_ias, i_len, i_aal, i_gs, i_tal, i_cv, i_cs, i_ir, i_zr, i_vr, i_min, i_max, i_cpy, List.getElem?_cons_zero, List.getElem?_cons_succ, List.set_cons_zero, List.set_cons_succ, List.length_cons, List.length_nil, List.drop_succ_cons, List.drop_zero, List.take_succ_cons, List.take_zero, List.reverse_cons, List.reverse_nil, List.nil_append, List.cons_append, Option.toList_some, Option.toList_none, true_and, and_true, true_or, or_true, Nat.reduceAdd, Nat.reduceLT, Nat.reduceLeDiff, Option.some.injEq, exists_eq_left', Int.toNat_natCast, Nat.reduceSub, List.append_nil, List.replicate_succ, List.replicate_zero, mm_in, k0, k1, k4, p5, w1, w4, w5, T_X11_hasFace]
    intro z hz
    refine ⟨fun x => ?_, fun x => ?_⟩
    · have hf1 := bz_t hz x
      have hff : fcs (S 0) b f := by unfold fcs; rw [hW0]; exact hf1
      obtain ⟨X, hX⟩ : ∃ X, (4 * b + f).toNat = X := ⟨_, rfl⟩
      have hX12 : X < 12 := by omega
      have hpX : I 3 X = pw (S 0) X := hS.1.2.2.1 X hX12
      repeat' first | refine And.intro ?_ ?_ | refine fun (_ : _ ≤ _ ∧ _ < _) => ?_
      all_goals try omega
      all_goals rw [hX]
      · intro x2
        refine recall hS ok (fun I1 f1 f2 f3 f4 h1 => ?_)
        obtain ⟨Y, hY⟩ := Int.eq_ofNat_of_zero_le x2
        have hpY : pw (S 0) X = (Y : Int) := by rw [← hpX]; exact hY
        have hY12 : Y < 12 := by
          rcases hgk X hX12 with q | q
          · omega
          · omega
        have e : freF S b f = (upW (recS S) (wFre (S 0) X Y), frn (pw (wFre (S 0) X Y)) (4 * (S 0 0).toNat)) := by
          unfold freF
          rw [if_neg (fun w => w hff), hX, hpY, if_neg (by omega), Int.toNat_natCast]
        simp only [e] at hP
        simp only [mm_in, k0, k1, k4, p5, w4, T_X10_loosen, T_X10_freeFaces, i_xorg, i_shl, i_shr, i_ior, i_and1, i_lcg1, i_lcg2, i_ld, i_la, i_st, i_sa, i_c, i_inc, i_add, i_sub, i_mul, i_div, i_rem, i_remT, i_xor, i_dup, i_dup2, i_if, i_if2, i_sw, i_gi, i_gr, i_pi, i_pz, i_ial, i_ias, i_len, i_aal, i_gs, i_tal, i_cv, i_cs, i_ir, i_zr, i_vr, i_min, i_max, i_cpy, List.getElem?_cons_zero, List.getElem?_cons_succ, List.set_cons_zero, List.set_cons_succ, List.length_cons, List.length_nil, List.drop_succ_cons, List.drop_zero, List.take_succ_cons, List.take_zero, List.reverse_cons, List.reverse_nil, List.nil_append, List.cons_append, Option.toList_some, Option.toList_none, true_and, and_true, true_or, or_true, Nat.reduceAdd, Nat.reduceLT, Nat.reduceLeDiff, Option.some.injEq, exists_eq_left', Int.toNat_natCast, Nat.reduceSub, List.append_nil, List.replicate_succ, List.replicate_zero]
        repeat' first | refine And.intro ?_ ?_ | refine fun (_ : _ ≤ _ ∧ _ < _) => ?_
        all_goals try omega
        refine ⟨X, Y, by omega, hX12, hY12, by rw [f2 3 (by omega)]; exact hY, fun I2 g1 g2 g3 g4 => ⟨n, by rw [g2, f2 2 (by omega)]; exact hn0, hn3, ?_⟩⟩
        obtain ⟨a1, a2, a3, a4, a5⟩ := hS.1
        have hcw : cW I2 2 (wFre (S 0) X Y) := by
          refine ⟨by rw [g2, f2 2 (by omega), a1, wFre_0], by rw [g3, wFre_1], fun j hj => ?_, fun j hj h => ?_, fun s hs => ?_⟩
          · rw [pw_fre _ _ _ hj, ← a3 j hj, ← f2 3 (by omega)]
            exact g4 j
          · rw [pw_fre _ _ _ hj] at h
            by_cases q : j = X ∨ j = Y
            · rw [if_pos q] at h
              omega
            · rw [if_neg q] at h
              rw [ww_fre _ hX12 hY12 (by omega) (by omega), ← a4 j hj h, ← f2 4 (by omega), ← g1 4 (by omega) (by omega)]
          · rw [wFre_1] at hs
            omega
        rw [frn_cg (q := pw (wFre (S 0) X Y)) (fun j hj => hcw.2.2.1 j (by omega)), show n = (S 0 0).toNat by omega]
        exact hP I2 (fun b hb => by rw [g1 b (by omega) (by omega)]; exact f1 b hb) (cSt_up h1 (okS_rec ok) (fun b hb => g1 b (by omega) (by omega)) hcw)
      · intro x2
        have e : freF S b f = (S, -1000000003) := by
          unfold freF
          rw [if_neg (fun w => w hff), hX, if_pos (by omega)]
        simp only [e] at hP
        exact hP I (hiF_rf I) hS
    · have e : freF S b f = (S, -1000000001) := by
        unfold freF
        rw [if_pos (fun w => bz_f hz (by omega) (by rw [← hW0]; exact w))]
      simp only [e] at hP
      exact hP I (hiF_rf I) hS
  · exact hT.elim
theorem sp_X11_free : mm_Sp yX11_free cX11_free 3 (some .int) rm_X11_free T_X11_free := mm_meth (by decide) (by
  intro av σ Post h
  unfold T_X11_free at h
  split at h
  · simp
  · exact h.elim) (fun p l e s m args below meth c G av σ Post hC hr _ hav hin hk hT => pv_X11_free av σ Post hav hin hk hT _ (bk_X11_free hC hr))
/-- one surface more -/
def wNew (W : Nat → Int) (nb : Nat → Int) : Nat → Int := fun i => if i = 1 then W 1 + 1 else if 26 + 21 * (W 1).toNat ≤ i ∧ i < 26 + 21 * (W 1).toNat + 21 then nb (i - (26 + 21 * (W 1).toNat)) else W i
theorem wNew_0 (W nb : Nat → Int) : wNew W nb 0 = W 0 := by
  unfold wNew
  rw [if_neg (by omega), if_neg (by omega)]
theorem wNew_1 (W nb : Nat → Int) : wNew W nb 1 = W 1 + 1 := by
  unfold wNew
  rw [if_pos rfl]
theorem pw_new (W nb : Nat → Int) {j : Nat} (hj : j < 12) : pw (wNew W nb) j = pw W j := by
  unfold pw wNew
  rw [if_neg (by omega), if_neg (by omega)]
theorem ww_new (W nb : Nat → Int) {j : Nat} (hj : j < 12) : ww (wNew W nb) j = ww W j := by
  unfold ww wNew
  rw [if_neg (by omega), if_neg (by omega)]
theorem nw_new (W nb : Nat → Int) {s i : Nat} (hi : i < 21) : nw (wNew W nb) s i = if s = (W 1).toNat then nb i else nw W s i := by
  unfold nw wNew
  rw [if_neg (by omega)]
  by_cases q : s = (W 1).toNat
  · rw [if_pos q, if_pos (by omega)]
    congr 1
    omega
  · rw [if_neg q, if_neg (by omega)]
theorem cW_new {I I2 : Nat → Nat → Int} {W nb : Nat → Int} {m : Nat} (h : cW I 2 W) (hm : W 1 = m) (g1 : I2 2 0 = I 2 0) (g2 : I2 2 1 = I 2 1 + 1) (g3 : I2 3 = I 3) (g4 : I2 4 = I 4) (g5 : ∀ s, s < m → I2 (7 + 2 * s) = I (7 + 2 * s)) (g6 : ∀ i, i < 21 → I2 (7 + 2 * m) i = nb i) : cW I2 2 (wNew W nb) := by
  obtain ⟨a1, a2, a3, a4, a5⟩ := h
  refine ⟨by rw [g1, a1, wNew_0], by rw [g2, a2, wNew_1], fun j hj => ?_, fun j hj h => ?_, fun s hs i hi => ?_⟩
  · rw [pw_new _ _ hj, ← a3 j hj, show (2 : Nat) + 1 = 3 by omega, g3]
  · rw [pw_new _ _ hj] at h
    rw [ww_new _ _ hj, ← a4 j hj h, show (2 : Nat) + 2 = 4 by omega, g4]
  · rw [nw_new _ _ hi]
    rw [wNew_1] at hs
    by_cases q : s = m
    · subst q
      rw [if_pos (by omega)]
      exact g6 i hi
    · rw [if_neg (by omega), ← a5 s (by omega) i hi, show (2 : Nat) + 5 = 7 by omega, g5 s (by omega)]
def putF (S : Nat → Nat → Int) : (Nat → Nat → Int) × Int := if 6 ≤ S 0 1 then (S, -1000000004) else (upW (recS S) (wNew (S 0) (fun _ => 0)), S 0 1)
def T_X11_put : mm_T := fun av σ Post => match av with
  | [.inr (some a)] => dT putF a σ Post
  | _ => False
def rm_X11_put : Room := { frames := 4, cells := 0, slots := 0, locals := 92 }
def b_X11_put_0 (Ok : Nat → mm_K) (Post : Option mm_V → mm_S → Prop) (kf : Nat) : mm_K := i_la 0 (i_gr 10 0 (i_cv 9 0 T_X10_isFull (i_if (fun x => x = 0) (i_la 0 (i_gr 10 3 (i_la 0 (i_gr 10 0 (i_cv 5 1 T_X5_record (i_la 0 (i_gr 10 0 (i_gr 9 4 (i_la 0 (i_gr 10 0 (i_gi 9 1 (i_aal 101 (i_cv 6 0 T_X7_clear (i_la 0 (i_gr 10 0 (i_cv 9 0 T_X10_lastGrown (i_ir Post kf))))))))))))))))) (i_c (-1000000004) (i_ir Post kf)))))
def clo_X11_put (Ok : Nat → mm_K) (Post : Option mm_V → mm_S → Prop) (kf : Nat) : Prop := mm_imp (b_X11_put_0 Ok Post kf) (Ok 0)
set_option maxRecDepth 100000 in
set_option maxHeartbeats 4000000 in
theorem bk_X11_put {p : Program} {l : Launch} {e : Env} {s : State} {m : MethodId} {args : Array Value} {below : List Frame} {meth : Method} {c : Code} {G : mm_G} {σ0 : mm_S} {Post : Option mm_V → mm_S → Prop} (hC : mm_C p G s m args meth c cX11_put yX11_put.cls) (hr : meth.sig.returnType = some .int) : clo_X11_put (mm_O p l e rm_X11_put s m args below meth c G σ0.2.2 (MQ below (mm_Qc G σ0 rm_X11_put.cells rm_X11_put.slots Post) args s rm_X11_put.cells rm_X11_put.slots (mm_A G))) Post σ0.2.2 := (by unfold clo_X11_put b_X11_put_0; exact (mm_la_n hC dX11_put_0 rfl (mm_gr hC cl_10 (by decide) rfl wd_327 dX11_put_1 (mm_cv hC sp_X10_isFull ⟨rfl, rfl⟩ cl_9 wd_669 wd_670 wd_671 wd_672 wd_67 ⟨by decide, by decide, by decide +kernel⟩ ⟨by decide, by decide⟩ dX11_put_4 (mm_if_eq hC (t := 13) dX11_put_7 (by decide) (mm_la_n hC dX11_put_13 rfl (mm_gr hC cl_10 (by decide) rfl wd_330 dX11_put_14 (mm_la_n hC dX11_put_17 rfl (mm_gr hC cl_10 (by decide) rfl wd_327 dX11_put_18 (mm_cv hC sp_X5_record ⟨rfl, rfl⟩ cl_5 wd_621 wd_622 wd_623 wd_624 wd_73 ⟨by decide, by decide, by decide +kernel⟩ ⟨by decide, by decide⟩ dX11_put_21 (mm_la_n hC dX11_put_24 rfl (mm_gr hC cl_10 (by decide) rfl wd_327 dX11_put_25 (mm_gr hC cl_9 (by decide) rfl wd_134 dX11_put_28 (mm_la_n hC dX11_put_31 rfl (mm_gr hC cl_10 (by decide) rfl wd_327 dX11_put_32 (mm_gi hC cl_9 (by decide) rfl wd_124 dX11_put_35 (mm_aal hC (t := 1) (by decide) rfl dX11_put_38 (mm_cv hC sp_X7_clear ⟨rfl, rfl⟩ cl_6 wd_674 wd_440 wd_441 wd_442 wd_68 ⟨by decide, by decide, by decide +kernel⟩ ⟨by decide, by decide⟩ dX11_put_39 (mm_la_n hC dX11_put_42 rfl (mm_gr hC cl_10 (by decide) rfl wd_327 dX11_put_43 (mm_cv hC sp_X10_lastGrown ⟨rfl, rfl⟩ cl_9 wd_675 wd_676 wd_677 wd_678 wd_67 ⟨by decide, by decide, by decide +kernel⟩ ⟨by decide, by decide⟩ dX11_put_46 (mm_ir hC ⟨rfl, rfl⟩ hr dX11_put_49))))))))))))))))) (mm_ldc hC dX11_put_10 ⟨by decide, by decide⟩ wd_673 (mm_ir hC ⟨rfl, rfl⟩ hr dX11_put_12)))))))
set_option maxRecDepth 100000 in
set_option maxHeartbeats 8000000 in
theorem pv_X11_put : ∀ (av : List mm_V) (σ : mm_S) (Post : Option mm_V → mm_S → Prop), (∀ v ∈ av, mm_iv v) → (∀ a j, mm_in (σ.1 a j)) → σ.2.2 ≤ 348 → T_X11_put av σ Post → ∀ Ok : Nat → mm_K, clo_X11_put Ok Post σ.2.2 → Ok 0 (av ++ List.replicate (1 - av.length) (.inr none)) [] σ := by
  intro av σ Post hav hin hk hT Ok hcl
  obtain ⟨I, R0⟩ := σ
  unfold T_X11_put at hT
  split at hT
  · rename_i a
    obtain ⟨h0, hT⟩ := hT
    have h0 : R0 = mm_R0 := h0
    subst h0
    dsimp only at hT hin
    have c0 := hcl
    unfold clo_X11_put at c0
    obtain ⟨rfl, S, hS, ok, hP⟩ := hT
    obtain ⟨k0, k1, k2, k3, k4, k5, k6, k7⟩ := sh_0
    obtain ⟨w1, w2, w3, w4, w5, w6⟩ := Rs_2
    have p5 := Rs_41
    have hW1 : I 2 1 = S 0 1 := hS.1.2.1
    refine c0 _ _ _ ?_
    simp only [b_X11_put_0, i_xorg, i_shl, i_shr, i_ior, i_and1, i_lcg1, i_lcg2, i_ld, i_la, i_st, i_sa, i_c, i_inc, i_add, i_sub, i_mul, i_div, i_rem, i_remT, i_xor, i_dup, i_dup2, i_if, i_if2, i_sw, i_gi, i_gr, i_pi, i_pz, i_ial, i_ias, i_len, i_aal, i_gs, i_tal, i_cv, i_cs, i_ir, i_zr, i_vr, i_min, i_max, i_cpy, List.getElem?_cons_zero, List.getElem?_cons_succ, List.set_cons_zero, List.set_cons_succ, List.length_cons, List.length_nil, List.drop_succ_cons, List.drop_zero, List.take_succ_cons, List.take_zero, List.reverse_cons, List.reverse_nil, List.nil_append, List.cons_append, Option.toList_some, Option.toList_none, true_and, and_true, true_or, or_true, Nat.reduceAdd, Nat.reduceLT, Nat.reduceLeDiff, Option.some.injEq, exists_eq_left', Int.toNat_natCast, Nat.reduceSub, List.append_nil, List.replicate_succ, List.replicate_zero, mm_in, k0, k1, k4, p5, w4, T_X10_isFull]
    intro z hz
    refine ⟨fun x => recall hS ok (fun I1 f1 f2 f3 f4 h1 => ?_), fun x => ?_⟩
    · have hlt := bz_f hz x
      have e : putF S = (upW (recS S) (wNew (S 0) (fun _ => 0)), S 0 1) := if_neg (by omega)
      simp only [e] at hP
      obtain ⟨n, m, q1, q2, q3⟩ := ok.1
      have e1 : I1 2 1 = (m : Int) := by rw [f2 2 (by omega), hW1, q2]
      have hm6 : m < 6 := by omega
      obtain ⟨b1, b2, b3⟩ := sheet2 hm6
      simp only [mm_in, k0, k1, k4, p5, w3, w4, sh_5, Rs_5, e1, Int.toNat_natCast, b1, T_X7_clear, T_X10_lastGrown, i_xorg, i_shl, i_shr, i_ior, i_and1, i_lcg1, i_lcg2, i_ld, i_la, i_st, i_sa, i_c, i_inc, i_add, i_sub, i_mul, i_div, i_rem, i_remT, i_xor, i_dup, i_dup2, i_if, i_if2, i_sw, i_gi, i_gr, i_pi, i_pz, i_ial, i_ias, i_len, i_aal, i_gs, i_tal, i_cv, i_cs, i_ir, i_zr, i_vr, i_min, i_max, i_cpy, List.getElem?_cons_zero, List.getElem?_cons_succ, List.set_cons_zero, List.set_cons_succ, List.length_cons, List.length_nil, List.drop_succ_cons, List.drop_zero, List.take_succ_cons, List.take_zero, List.reverse_cons, List.reverse_nil, List.nil_append, List.cons_append, Option.toList_some, Option.toList_none, true_and, and_true, true_or, or_true, Nat.reduceAdd, Nat.reduceLT, Nat.reduceLeDiff, Option.some.injEq, exists_eq_left', Int.toNat_natCast, Nat.reduceSub, List.append_nil, List.replicate_succ, List.replicate_zero]
      repeat' first | refine And.intro ?_ ?_ | refine fun (_ : _ ≤ _ ∧ _ < _) => ?_
      all_goals try omega
      intro I2 g1 g2
      have e2 : I2 2 1 = (m : Int) := by rw [g1 2 (by omega)]; exact e1
      rw [e2]
      refine ⟨by omega, by omega, ?_⟩
      rw [← q2]
      have fr : ∀ b, b ≠ 2 → b ≠ 7 + 2 * m → mm_set I2 2 1 (S 0 1 + 1) b = I1 b := fun b h1 h2 => by rw [mset_ne h1, g1 b (by omega)]
      refine hP _ (fun b hb => by rw [fr b (by omega) (by omega)]; exact f1 b hb) (cSt_up h1 (okS_rec ok) (fun b hb => fr b (by omega) (by omega)) ?_)
      refine cW_new (m := m) hS.1 q2 ?_ ?_ ?_ ?_ ?_ ?_
      · rw [mset_n2 (by omega), g1 2 (by omega), f2 2 (by omega)]
      · rw [mset_eq, hW1]
      · rw [fr 3 (by omega) (by omega), f2 3 (by omega)]
      · rw [fr 4 (by omega) (by omega), f2 4 (by omega)]
      · intro s hs
        rw [fr _ (by omega) (by omega), f2 _ (by omega)]
      · intro i hi
        rw [mset_ne (by omega), show 7 + 2 * m = 6 + 2 * m + 1 by omega]
        exact g2 i hi
    · have hlt := bz_t hz (by omega)
      have e : putF S = (S, -1000000004) := if_pos (by omega)
      simp only [e] at hP
      exact hP I (hiF_rf I) hS
  · exact hT.elim
theorem sp_X11_put : mm_Sp yX11_put cX11_put 1 (some .int) rm_X11_put T_X11_put := mm_meth (by decide) (by
  intro av σ Post h
  unfold T_X11_put at h
  split at h
  · simp
  · exact h.elim) (fun p l e s m args below meth c G av σ Post hC hr _ hav hin hk hT => pv_X11_put av σ Post hav hin hk hT _ (bk_X11_put hC hr))
