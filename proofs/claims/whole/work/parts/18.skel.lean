/-! PieceSurfaces$Skeleton (cell 18): joining -/
def fo {α : Type} (g : Nat → α → α) : Nat → α → α
  | 0, a => a
  | k + 1, a => g k (fo g k a)
abbrev LT : Type := (Nat → Nat) × (Nat → Nat) × (Nat → Nat)
def eof (x : Nat) : Nat := 6 * (x / 16) + (mm_tb 4 (x % 16)).toNat
def sUx (f v u : Nat) : Nat := 4 * (4 * (f / 4) + v) + u
def sUy (pa wy : Nat → Int) (f v u : Nat) : Nat := 4 * (acr pa wy f v).toNat + (acr pa wy f u).toNat % 4
def sU (pa wy : Nat → Int) (f v u : Nat) (L : LT) : LT := if u ≠ v ∧ 0 ≤ acr pa wy f u then (L.1, mg L.2.1 (eof (sUx f v u)) (eof (sUy pa wy f v u)), mg L.2.2 (sUx f v u) (sUy pa wy f v u)) else L
def sV (pa wy : Nat → Int) (f v : Nat) (L : LT) : LT := if 0 ≤ acr pa wy f v then fo (sU pa wy f v) 4 (mg L.1 (4 * (f / 4) + v) (acr pa wy f v).toNat, L.2) else L
def sF (pa wy : Nat → Int) (f : Nat) (L : LT) : LT := if (f : Int) < pa f then fo (sV pa wy f) 4 L else L
def skel (n : Nat) (pa wy : Nat → Int) : LT := fo (sF pa wy) (4 * n) (id, id, id)
def skI (I : Nat → Nat → Int) (n : Nat) : Prop := I 19 1 = (4 * n : Nat) ∧ I 21 1 = (6 * n : Nat) ∧ I 23 1 = (16 * n : Nat) ∧ ufi I 20 (4 * n) ∧ ufi I 22 (6 * n) ∧ ufi I 24 (16 * n)
def ag (I : Nat → Nat → Int) (n : Nat) (L : LT) : Prop := (∀ k, k < 4 * n → rt (fi I 20) k = L.1 k) ∧ (∀ k, k < 6 * n → rt (fi I 22) k = L.2.1 k) ∧ (∀ k, k < 16 * n → rt (fi I 24) k = L.2.2 k)
theorem sh_18 : (mm_sh 18).1 = 7 ∧ (mm_sh 19).1 = 1 ∧ mm_sh 20 = (100, 12) ∧ (mm_sh 21).1 = 1 ∧ mm_sh 22 = (100, 18) ∧ (mm_sh 23).1 = 1 ∧ mm_sh 24 = (100, 48) ∧ mm_sh 25 = (100, 12) ∧ mm_sh 26 = (100, 18) ∧ mm_sh 27 = (100, 18) ∧ mm_sh 28 = (100, 18) := by decide +kernel
theorem Rs_18 : mm_Rs 18 0 = some 19 ∧ mm_Rs 18 1 = some 21 ∧ mm_Rs 18 2 = some 23 ∧ mm_Rs 18 3 = some 25 ∧ mm_Rs 18 4 = some 26 ∧ mm_Rs 18 5 = some 27 ∧ mm_Rs 18 6 = some 28 := by decide +kernel
theorem mg_ag {A B : Nat → Nat} {m p q : Nat} (h : ∀ k, k < m → A k = B k) (hp : p < m) (hq : q < m) : ∀ k, k < m → mg A p q k = mg B p q k := by
  intro k hk
  unfold mg
  rw [h k hk, h p hp, h q hq]
theorem eof_b {x n : Nat} (hx : x < 16 * n) (h : 0 ≤ mm_tb 4 (x % 16)) : eof x < 6 * n := by
  have : ∀ i, i < 16 → mm_tb 4 i ≤ 5 := by decide +kernel
  have := this (x % 16) (by omega)
  unfold eof
  omega
def T_X8_edgeOf : mm_T := fun av σ Post => match av with
  | [.inl x] => σ.2 = mm_R0 ∧ ∃ k : Nat, x = k ∧ k < 48 ∧ 0 ≤ mm_tb 4 (k % 16) ∧ Post (some (.inl (eof k : Int))) σ
  | _ => False
def rm_X8_edgeOf : Room := { frames := 0, cells := 0, slots := 0, locals := 0 }
def b_X8_edgeOf_0 (Ok : Nat → mm_K) (Post : Option mm_V → mm_S → Prop) (kf : Nat) : mm_K := i_c 6 (i_ld 0 (i_c 16 (i_div (i_mul (i_gs 4 (i_ld 0 (i_c 16 (i_rem (i_tal 4 (i_add (i_ir Post kf)))))))))))
def clo_X8_edgeOf (Ok : Nat → mm_K) (Post : Option mm_V → mm_S → Prop) (kf : Nat) : Prop := mm_imp (b_X8_edgeOf_0 Ok Post kf) (Ok 0)
set_option maxRecDepth 100000 in
set_option maxHeartbeats 4000000 in
theorem bk_X8_edgeOf {p : Program} {l : Launch} {e : Env} {s : State} {m : MethodId} {args : Array Value} {below : List Frame} {meth : Method} {c : Code} {G : mm_G} {σ0 : mm_S} {Post : Option mm_V → mm_S → Prop} (hC : mm_C p G s m args meth c cX8_edgeOf yX8_edgeOf.cls) (hr : meth.sig.returnType = some .int) : clo_X8_edgeOf (mm_O p l e rm_X8_edgeOf s m args below meth c G σ0.2.2 (MQ below (mm_Qc G σ0 rm_X8_edgeOf.cells rm_X8_edgeOf.slots Post) args s rm_X8_edgeOf.cells rm_X8_edgeOf.slots (mm_A G))) Post σ0.2.2 := (by unfold clo_X8_edgeOf b_X8_edgeOf_0; exact (mm_bp hC dX8_edgeOf_0 ⟨⟨by decide, by decide⟩, by decide⟩ (mm_ld_n hC dX8_edgeOf_2 rfl (mm_bp hC dX8_edgeOf_3 ⟨⟨by decide, by decide⟩, by decide⟩ (mm_div hC dX8_edgeOf_5 (mm_mul hC dX8_edgeOf_6 (mm_gs hC (by decide) wd_403 dX8_edgeOf_7 (mm_ld_n hC dX8_edgeOf_10 rfl (mm_bp hC dX8_edgeOf_11 ⟨⟨by decide, by decide⟩, by decide⟩ (mm_rem hC dX8_edgeOf_13 (mm_tal hC (by decide) (mm_tbin _) dX8_edgeOf_14 (mm_add hC dX8_edgeOf_15 (mm_ir hC ⟨rfl, rfl⟩ hr dX8_edgeOf_16)))))))))))))
set_option maxRecDepth 100000 in
set_option maxHeartbeats 8000000 in
theorem pv_X8_edgeOf : ∀ (av : List mm_V) (σ : mm_S) (Post : Option mm_V → mm_S → Prop), (∀ v ∈ av, mm_iv v) → (∀ a j, mm_in (σ.1 a j)) → σ.2.2 ≤ 348 → T_X8_edgeOf av σ Post → ∀ Ok : Nat → mm_K, clo_X8_edgeOf Ok Post σ.2.2 → Ok 0 (av ++ List.replicate (1 - av.length) (.inr none)) [] σ := by
  intro av σ Post hav hin hk hT Ok hcl
  obtain ⟨I, R0⟩ := σ
  unfold T_X8_edgeOf at hT
  split at hT
  · rename_i x
    obtain ⟨h0, hT⟩ := hT
    have h0 : R0 = mm_R0 := h0
    subst h0
    dsimp only at hT hin
    have c0 := hcl
    unfold clo_X8_edgeOf at c0
    obtain ⟨k, rfl, h1, h2, hP⟩ := hT
    have e1 : (k : Int) / 16 = ((k / 16 : Nat) : Int) := by omega
    have e2 : (k : Int) % 16 = ((k % 16 : Nat) : Int) := by omega
    have l4 : (mm_tl 4).length = 16 := rfl
    have h3 := eof_b (x := k) (n := 3) (by omega) h2
    have e3 : 6 * ((k / 16 : Nat) : Int) + mm_tb 4 (k % 16) = (eof k : Int) := by unfold eof; omega
    refine c0 _ _ _ ?_
    simp only [b_X8_edgeOf_0, i_ld, i_la, i_st, i_sa, i_c, i_inc, i_add, i_sub, i_mul, i_div, i_rem, i_remT, i_xor, i_dup, i_dup2, i_if, i_if2, i_sw, i_gi, i_gr, i_pi, i_pz, i_ial, i_ias, i_len, i_aal, i_gs, i_tal, i_cv, i_cs, i_ir, i_zr, i_vr, i_min, i_max, i_cpy, List.getElem?_cons_zero, List.getElem?_cons_succ, List.set_cons_zero, List.set_cons_succ, List.length_cons, List.length_nil, List.drop_succ_cons, List.drop_zero, List.take_succ_cons, List.take_zero, List.reverse_cons, List.reverse_nil, List.nil_append, List.cons_append, Option.toList_some, Option.toList_none, true_and, and_true, true_or, or_true, Nat.reduceAdd, Nat.reduceLT, Nat.reduceLeDiff, Option.some.injEq, exists_eq_left', Int.toNat_natCast, Nat.reduceSub, List.append_nil, List.replicate_succ, List.replicate_zero, mm_in, e1, e2, l4, e3]
    repeat' first | refine And.intro ?_ ?_ | intro _
    all_goals try omega
  · exact hT.elim
theorem sp_X8_edgeOf : mm_Sp yX8_edgeOf cX8_edgeOf 1 (some .int) rm_X8_edgeOf T_X8_edgeOf := mm_meth (by decide) (by
  intro av σ Post h
  unfold T_X8_edgeOf at h
  split at h
  · simp
  · exact h.elim) (fun p l e s m args below meth c G av σ Post hC hr _ hav hin hk hT => pv_X8_edgeOf av σ Post hav hin hk hT _ (bk_X8_edgeOf hC hr))
def T_X8_joinArrows : mm_T := fun av σ Post => match av with
  | [.inr (some s), .inl x, .inl y] => σ.2 = mm_R0 ∧ s = 18 ∧ ∃ p q n : Nat, x = p ∧ y = q ∧ n ≤ 3 ∧ skI σ.1 n ∧ p < 16 * n ∧ q < 16 * n ∧ 0 ≤ mm_tb 4 (p % 16) ∧ 0 ≤ mm_tb 4 (q % 16) ∧
    ∀ I' : Nat → Nat → Int, (∀ b, b ≠ 22 → b ≠ 24 → I' b = σ.1 b) → skI I' n → (∀ L, ag σ.1 n L → ag I' n (L.1, mg L.2.1 (eof p) (eof q), mg L.2.2 p q)) → Post none (I', mm_R0)
  | _ => False
def rm_X8_joinArrows : Room := { frames := 2, cells := 0, slots := 0, locals := 47 }
def b_X8_joinArrows_0 (Ok : Nat → mm_K) (Post : Option mm_V → mm_S → Prop) (kf : Nat) : mm_K := i_la 0 (i_gr 7 2 (i_ld 1 (i_ld 2 (i_cv 1 2 T_X1_join (i_la 0 (i_gr 7 1 (i_ld 1 (i_cs 1 T_X8_edgeOf (i_ld 2 (i_cs 1 T_X8_edgeOf (i_cv 1 2 T_X1_join (i_vr Post kf))))))))))))
def clo_X8_joinArrows (Ok : Nat → mm_K) (Post : Option mm_V → mm_S → Prop) (kf : Nat) : Prop := mm_imp (b_X8_joinArrows_0 Ok Post kf) (Ok 0)
set_option maxRecDepth 100000 in
set_option maxHeartbeats 4000000 in
theorem bk_X8_joinArrows {p : Program} {l : Launch} {e : Env} {s : State} {m : MethodId} {args : Array Value} {below : List Frame} {meth : Method} {c : Code} {G : mm_G} {σ0 : mm_S} {Post : Option mm_V → mm_S → Prop} (hC : mm_C p G s m args meth c cX8_joinArrows yX8_joinArrows.cls) (hr : meth.sig.returnType = none) : clo_X8_joinArrows (mm_O p l e rm_X8_joinArrows s m args below meth c G σ0.2.2 (MQ below (mm_Qc G σ0 rm_X8_joinArrows.cells rm_X8_joinArrows.slots Post) args s rm_X8_joinArrows.cells rm_X8_joinArrows.slots (mm_A G))) Post σ0.2.2 := (by unfold clo_X8_joinArrows b_X8_joinArrows_0; exact (mm_la_n hC dX8_joinArrows_0 rfl (mm_gr hC cl_7 (by decide) rfl wd_167 dX8_joinArrows_1 (mm_ld_n hC dX8_joinArrows_4 rfl (mm_ld_n hC dX8_joinArrows_5 rfl (mm_cv hC sp_X1_join ⟨rfl, rfl⟩ cl_1 wd_388 wd_389 wd_390 wd_391 wd_71 ⟨by decide, by decide, by decide +kernel⟩ ⟨by decide, by decide⟩ dX8_joinArrows_6 (mm_la_n hC dX8_joinArrows_9 rfl (mm_gr hC cl_7 (by decide) rfl wd_166 dX8_joinArrows_10 (mm_ld_n hC dX8_joinArrows_13 rfl (mm_cs hC sp_X8_edgeOf ⟨rfl, rfl⟩ wd_400 wd_401 wd_402 wd_70 ⟨by decide, by decide, by decide +kernel⟩ ⟨by decide, by decide⟩ dX8_joinArrows_14 (mm_ld_n hC dX8_joinArrows_17 rfl (mm_cs hC sp_X8_edgeOf ⟨rfl, rfl⟩ wd_400 wd_401 wd_402 wd_70 ⟨by decide, by decide, by decide +kernel⟩ ⟨by decide, by decide⟩ dX8_joinArrows_18 (mm_cv hC sp_X1_join ⟨rfl, rfl⟩ cl_1 wd_388 wd_389 wd_390 wd_391 wd_71 ⟨by decide, by decide, by decide +kernel⟩ ⟨by decide, by decide⟩ dX8_joinArrows_21 (mm_vr hC ⟨rfl, rfl⟩ hr dX8_joinArrows_24))))))))))))))
set_option maxRecDepth 100000 in
set_option maxHeartbeats 8000000 in
theorem pv_X8_joinArrows : ∀ (av : List mm_V) (σ : mm_S) (Post : Option mm_V → mm_S → Prop), (∀ v ∈ av, mm_iv v) → (∀ a j, mm_in (σ.1 a j)) → σ.2.2 ≤ 348 → T_X8_joinArrows av σ Post → ∀ Ok : Nat → mm_K, clo_X8_joinArrows Ok Post σ.2.2 → Ok 0 (av ++ List.replicate (3 - av.length) (.inr none)) [] σ := by
  intro av σ Post hav hin hk hT Ok hcl
  obtain ⟨I, R0⟩ := σ
  unfold T_X8_joinArrows at hT
  split at hT
  · rename_i s x y
    obtain ⟨h0, hT⟩ := hT
    have h0 : R0 = mm_R0 := h0
    subst h0
    dsimp only at hT hin
    have c0 := hcl
    unfold clo_X8_joinArrows at c0
    obtain ⟨rfl, p, q, n, rfl, rfl, hn, hs, h1, h2, h3, h4, hP⟩ := hT
    obtain ⟨r0, r1, r2, r3, r4, r5, r6⟩ := Rs_18
    obtain ⟨s0, s1, s2, s3, s4, s5, s6, s7, s8, s9, s10⟩ := sh_18
    obtain ⟨g1, g2, g3, g4, g5, g6⟩ := hs
    have b1 := eof_b h1 h3
    have b2 := eof_b h2 h4
    refine c0 _ _ _ ?_
    simp only [b_X8_joinArrows_0, i_ld, i_la, i_st, i_sa, i_c, i_inc, i_add, i_sub, i_mul, i_div, i_rem, i_remT, i_xor, i_dup, i_dup2, i_if, i_if2, i_sw, i_gi, i_gr, i_pi, i_pz, i_ial, i_ias, i_len, i_aal, i_gs, i_tal, i_cv, i_cs, i_ir, i_zr, i_vr, i_min, i_max, i_cpy, List.getElem?_cons_zero, List.getElem?_cons_succ, List.set_cons_zero, List.set_cons_succ, List.length_cons, List.length_nil, List.drop_succ_cons, List.drop_zero, List.take_succ_cons, List.take_zero, List.reverse_cons, List.reverse_nil, List.nil_append, List.cons_append, Option.toList_some, Option.toList_none, true_and, and_true, true_or, or_true, Nat.reduceAdd, Nat.reduceLT, Nat.reduceLeDiff, Option.some.injEq, exists_eq_left', Int.toNat_natCast, Nat.reduceSub, List.append_nil, List.replicate_succ, List.replicate_zero, mm_in, r1, r2, s0, s3, s4, s5, s6, T_X1_join, T_X8_edgeOf, g3, Int.toNat_natCast]
    refine ⟨by omega, by omega, by omega, by omega, by omega, g6, fun I1 f1 u1 m1 => ?_⟩
    have e21 : I1 21 = I 21 := f1 21 (by decide)
    have e22 : I1 22 = I 22 := f1 22 (by decide)
    refine ⟨p, rfl, by omega, h3, q, rfl, by omega, h4, ?_⟩
    rw [e21, g2]
    simp only [Int.toNat_natCast]
    refine ⟨by omega, by omega, by omega, by omega, by omega, fun k hk => by rw [e22]; exact g5 k hk, fun I2 f2 u2 m2 => ?_⟩
    have e24 : I2 24 = I1 24 := f2 24 (by decide)
    refine hP I2 (fun b z1 z2 => by rw [f2 b z1, f1 b z2]) ⟨by rw [f2 19 (by decide), f1 19 (by decide)]; exact g1, by rw [f2 21 (by decide), f1 21 (by decide)]; exact g2, by rw [f2 23 (by decide), f1 23 (by decide)]; exact g3, fun k hk => by rw [f2 20 (by decide), f1 20 (by decide)]; exact g4 k hk, u2, fun k hk => by rw [e24]; exact u1 k hk⟩ (fun L hL => ⟨fun k hk => ?_, fun k hk => ?_, fun k hk => ?_⟩)
    · have : fi I2 20 = fi I 20 := by unfold fi; rw [f2 20 (by decide), f1 20 (by decide)]
      rw [this]; exact hL.1 k hk
    · have e : fi I1 22 = fi I 22 := by unfold fi; rw [e22]
      rw [m2 k hk, e]
      exact mg_ag hL.2.1 b1 b2 k hk
    · have e : fi I2 24 = fi I1 24 := by unfold fi; rw [e24]
      rw [e, m1 k hk]
      exact mg_ag hL.2.2 h1 h2 k hk
  · exact hT.elim
theorem sp_X8_joinArrows : mm_Sp yX8_joinArrows cX8_joinArrows 3 none rm_X8_joinArrows T_X8_joinArrows := mm_meth (by decide) (by
  intro av σ Post h
  unfold T_X8_joinArrows at h
  split at h
  · simp
  · exact h.elim) (fun p l e s m args below meth c G av σ Post hC hr _ hav hin hk hT => pv_X8_joinArrows av σ Post hav hin hk hT _ (bk_X8_joinArrows hC hr))
theorem etab : ∀ c, c < 4 → ∀ d, d < 4 → c ≠ d → 0 ≤ mm_tb 4 (4 * c + d) := by decide +kernel
def T_X8_joinFaces : mm_T := fun av σ Post => match av with
  | [.inr (some s), .inr (some w), .inl x] => σ.2 = mm_R0 ∧ s = 18 ∧ w = 2 ∧ ∃ f n : Nat, x = f ∧ gw σ.1 n ∧ skI σ.1 n ∧ f < 4 * n ∧ (f : Int) < σ.1 3 f ∧
    ∀ I' : Nat → Nat → Int, (∀ b, b ≠ 20 → b ≠ 22 → b ≠ 24 → I' b = σ.1 b) → skI I' n → (∀ L, ag σ.1 n L → ag I' n (fo (sV (σ.1 3) (σ.1 4) f) 4 L)) → Post none (I', mm_R0)
  | _ => False
def rm_X8_joinFaces : Room := { frames := 3, cells := 0, slots := 0, locals := 69 }
def b_X8_joinFaces_0 (Ok : Nat → mm_K) (Post : Option mm_V → mm_S → Prop) (kf : Nat) : mm_K := i_ld 2 (i_c 4 (i_rem (i_st 3 (i_c 0 (i_st 4 (Ok 7))))))
def b_X8_joinFaces_7 (Ok : Nat → mm_K) (Post : Option mm_V → mm_S → Prop) (kf : Nat) : mm_K := i_ld 4 (i_c 4 (i_if2 (fun x y => y ≤ x) (i_vr Post kf) (i_ld 2 (i_ld 3 (i_sub (i_ld 4 (i_add (i_st 5 (i_la 1 (i_ld 2 (i_ld 4 (i_cv 9 2 T_X10_across (i_st 6 (i_ld 6 (i_if (fun x => 0 ≤ x) (i_la 0 (i_gr 7 0 (i_ld 5 (i_ld 6 (i_cv 1 2 T_X1_join (i_c 0 (i_st 7 (Ok 52)))))))) (Ok 105))))))))))))))))
def b_X8_joinFaces_52 (Ok : Nat → mm_K) (Post : Option mm_V → mm_S → Prop) (kf : Nat) : mm_K := i_ld 7 (i_c 4 (i_if2 (fun x y => y ≤ x) (Ok 105) (i_la 1 (i_ld 2 (i_ld 7 (i_cv 9 2 T_X10_across (i_st 8 (i_ld 7 (i_ld 4 (i_if2 (fun x y => x = y) (Ok 99) (i_ld 8 (i_if (fun x => x < 0) (Ok 99) (i_la 0 (i_c 4 (i_ld 5 (i_mul (i_ld 7 (i_add (i_c 4 (i_ld 6 (i_mul (i_ld 8 (i_c 4 (i_rem (i_add (i_cv 7 2 T_X8_joinArrows (Ok 99)))))))))))))))))))))))))))
def b_X8_joinFaces_99 (Ok : Nat → mm_K) (Post : Option mm_V → mm_S → Prop) (kf : Nat) : mm_K := i_inc 7 1 (Ok 52)
def b_X8_joinFaces_105 (Ok : Nat → mm_K) (Post : Option mm_V → mm_S → Prop) (kf : Nat) : mm_K := i_inc 4 1 (Ok 7)
def clo_X8_joinFaces (Ok : Nat → mm_K) (Post : Option mm_V → mm_S → Prop) (kf : Nat) : Prop := mm_imp (b_X8_joinFaces_0 Ok Post kf) (Ok 0) ∧ mm_imp (b_X8_joinFaces_7 Ok Post kf) (Ok 7) ∧ mm_imp (b_X8_joinFaces_52 Ok Post kf) (Ok 52) ∧ mm_imp (b_X8_joinFaces_99 Ok Post kf) (Ok 99) ∧ mm_imp (b_X8_joinFaces_105 Ok Post kf) (Ok 105)
set_option maxRecDepth 100000 in
set_option maxHeartbeats 4000000 in
theorem bk_X8_joinFaces {p : Program} {l : Launch} {e : Env} {s : State} {m : MethodId} {args : Array Value} {below : List Frame} {meth : Method} {c : Code} {G : mm_G} {σ0 : mm_S} {Post : Option mm_V → mm_S → Prop} (hC : mm_C p G s m args meth c cX8_joinFaces yX8_joinFaces.cls) (hr : meth.sig.returnType = none) : clo_X8_joinFaces (mm_O p l e rm_X8_joinFaces s m args below meth c G σ0.2.2 (MQ below (mm_Qc G σ0 rm_X8_joinFaces.cells rm_X8_joinFaces.slots Post) args s rm_X8_joinFaces.cells rm_X8_joinFaces.slots (mm_A G))) Post σ0.2.2 := ⟨(by unfold b_X8_joinFaces_0; exact (mm_ld_n hC dX8_joinFaces_0 rfl (mm_ic hC dX8_joinFaces_1 ⟨by decide, by decide⟩ (mm_rem hC dX8_joinFaces_2 (mm_st_n hC dX8_joinFaces_3 rfl (mm_ic hC dX8_joinFaces_4 ⟨by decide, by decide⟩ (mm_st hC dX8_joinFaces_5 (fun _ _ _ h => h)))))))), (by unfold b_X8_joinFaces_7; exact (mm_ld hC dX8_joinFaces_7 (mm_ic hC dX8_joinFaces_9 ⟨by decide, by decide⟩ (mm_ic_ge hC (t := 111) dX8_joinFaces_10 (by decide) (mm_vr hC ⟨rfl, rfl⟩ hr dX8_joinFaces_111) (mm_ld_n hC dX8_joinFaces_13 rfl (mm_ld_n hC dX8_joinFaces_14 rfl (mm_sub hC dX8_joinFaces_15 (mm_ld hC dX8_joinFaces_16 (mm_add hC dX8_joinFaces_18 (mm_st hC dX8_joinFaces_19 (mm_la_n hC dX8_joinFaces_21 rfl (mm_ld_n hC dX8_joinFaces_22 rfl (mm_ld hC dX8_joinFaces_23 (mm_cv hC sp_X10_across ⟨rfl, rfl⟩ cl_9 wd_382 wd_383 wd_384 wd_385 wd_67 ⟨by decide, by decide, by decide +kernel⟩ ⟨by decide, by decide⟩ dX8_joinFaces_25 (mm_st hC dX8_joinFaces_28 (mm_ld hC dX8_joinFaces_30 (mm_if_ge hC (t := 38) dX8_joinFaces_32 (by decide) (mm_la_n hC dX8_joinFaces_38 rfl (mm_gr hC cl_7 (by decide) rfl wd_165 dX8_joinFaces_39 (mm_ld hC dX8_joinFaces_42 (mm_ld hC dX8_joinFaces_44 (mm_cv hC sp_X1_join ⟨rfl, rfl⟩ cl_1 wd_388 wd_389 wd_390 wd_391 wd_71 ⟨by decide, by decide, by decide +kernel⟩ ⟨by decide, by decide⟩ dX8_joinFaces_46 (mm_ic hC dX8_joinFaces_49 ⟨by decide, by decide⟩ (mm_st hC dX8_joinFaces_50 (fun _ _ _ h => h)))))))) (mm_goto hC (t := 105) dX8_joinFaces_35 (by decide) (fun _ _ _ h => h))))))))))))))))))), (by unfold b_X8_joinFaces_52; exact (mm_ld hC dX8_joinFaces_52 (mm_ic hC dX8_joinFaces_54 ⟨by decide, by decide⟩ (mm_ic_ge hC (t := 105) dX8_joinFaces_55 (by decide) (fun _ _ _ h => h) (mm_la_n hC dX8_joinFaces_58 rfl (mm_ld_n hC dX8_joinFaces_59 rfl (mm_ld hC dX8_joinFaces_60 (mm_cv hC sp_X10_across ⟨rfl, rfl⟩ cl_9 wd_382 wd_383 wd_384 wd_385 wd_67 ⟨by decide, by decide, by decide +kernel⟩ ⟨by decide, by decide⟩ dX8_joinFaces_62 (mm_st hC dX8_joinFaces_65 (mm_ld hC dX8_joinFaces_67 (mm_ld hC dX8_joinFaces_69 (mm_ic_eq hC (t := 99) dX8_joinFaces_71 (by decide) (fun _ _ _ h => h) (mm_ld hC dX8_joinFaces_74 (mm_if_lt hC (t := 99) dX8_joinFaces_76 (by decide) (fun _ _ _ h => h) (mm_la_n hC dX8_joinFaces_79 rfl (mm_ic hC dX8_joinFaces_80 ⟨by decide, by decide⟩ (mm_ld hC dX8_joinFaces_81 (mm_mul hC dX8_joinFaces_83 (mm_ld hC dX8_joinFaces_84 (mm_add hC dX8_joinFaces_86 (mm_ic hC dX8_joinFaces_87 ⟨by decide, by decide⟩ (mm_ld hC dX8_joinFaces_88 (mm_mul hC dX8_joinFaces_90 (mm_ld hC dX8_joinFaces_91 (mm_ic hC dX8_joinFaces_93 ⟨by decide, by decide⟩ (mm_rem hC dX8_joinFaces_94 (mm_add hC dX8_joinFaces_95 (mm_cv hC sp_X8_joinArrows ⟨rfl, rfl⟩ cl_7 wd_396 wd_398 wd_1 wd_399 wd_70 ⟨by decide, by decide, by decide +kernel⟩ ⟨by decide, by decide⟩ dX8_joinFaces_96 (fun _ _ _ h => h))))))))))))))))))))))))))))), (by unfold b_X8_joinFaces_99; exact (mm_inc hC dX8_joinFaces_99 (mm_goto hC (t := 52) dX8_joinFaces_102 (by decide) (fun _ _ _ h => h)))), (by unfold b_X8_joinFaces_105; exact (mm_inc hC dX8_joinFaces_105 (mm_goto hC (t := 7) dX8_joinFaces_108 (by decide) (fun _ _ _ h => h))))⟩
set_option maxRecDepth 100000 in
set_option maxHeartbeats 8000000 in
theorem pv_X8_joinFaces : ∀ (av : List mm_V) (σ : mm_S) (Post : Option mm_V → mm_S → Prop), (∀ v ∈ av, mm_iv v) → (∀ a j, mm_in (σ.1 a j)) → σ.2.2 ≤ 348 → T_X8_joinFaces av σ Post → ∀ Ok : Nat → mm_K, clo_X8_joinFaces Ok Post σ.2.2 → Ok 0 (av ++ List.replicate (9 - av.length) (.inr none)) [] σ := by
  intro av σ Post hav hin hk hT Ok hcl
  obtain ⟨I, R0⟩ := σ
  unfold T_X8_joinFaces at hT
  split at hT
  · rename_i s w x
    obtain ⟨h0, hT⟩ := hT
    have h0 : R0 = mm_R0 := h0
    subst h0
    dsimp only at hT hin
    obtain ⟨c0, c7, c52, c99, c105⟩ := hcl
    obtain ⟨rfl, rfl, f, n, rfl, ⟨hn, hn1, hn3, hg⟩, hs, h1, h2, hP⟩ := hT
    obtain ⟨r0, r1, r2, r3, r4, r5, r6⟩ := Rs_18
    obtain ⟨s0, s1, s2, s3, s4, s5, s6, s7, s8, s9, s10⟩ := sh_18
    obtain ⟨o, ho⟩ := Int.eq_ofNat_of_zero_le (show 0 ≤ I 3 f by omega)
    have hgf : I 3 f < 4 * n ∧ 0 ≤ I 4 f ∧ I 4 f < 6 := by
      rcases hg f (by omega) with q | q
      · omega
      · omega
    obtain ⟨k, hk2⟩ := Int.eq_ofNat_of_zero_le hgf.2.1
    rw [ho, hk2] at hgf
    have hac : ∀ v, v < 4 → v ≠ f % 4 → acr (I 3) (I 4) f v = (acN o k f v : Int) ∧ acN o k f v < 4 * n ∧ acN o k f v / 4 = o / 4 := by
      intro v hv hne
      have hb := acN_b (o := o) (k := k) (f := f) (v := v) (by omega) (by omega) hv hne
      refine ⟨?_, by omega, hb.2.1⟩
      unfold acr
      rw [if_neg (by omega), ho, hk2]
      rfl
    have hacn : acr (I 3) (I 4) f (f % 4) = -1 := by unfold acr; rw [if_pos (Or.inl rfl)]
    have ef : (f : Int) % 4 = ((f % 4 : Nat) : Int) := by omega
    have hne2 : ∀ u v, u < 4 → v < 4 → u ≠ f % 4 → v ≠ f % 4 → u ≠ v → acN o k f u % 4 ≠ acN o k f v % 4 := by
      intro u v hu hv h1 h2 h3
      have hw : ∀ k, k < 6 → ∀ i, i < 3 → ∀ j, j < 3 → i ≠ j → mm_tb 0 (3 * k + i) ≠ mm_tb 0 (3 * k + j) := by decide +kernel
      have hu3 : (if u < f % 4 then u else u - 1) < 3 := by split <;> omega
      have hv3 : (if v < f % 4 then v else v - 1) < 3 := by split <;> omega
      have hd := hw k (by omega) _ hu3 _ hv3 (by split <;> split <;> omega)
      have b1 := wtab_b (3 * k + (if u < f % 4 then u else u - 1)) (by omega)
      have b2 := wtab_b (3 * k + (if v < f % 4 then v else v - 1)) (by omega)
      unfold acN
      dsimp only
      obtain ⟨p, hp⟩ := Int.eq_ofNat_of_zero_le b1.1
      obtain ⟨q, hq⟩ := Int.eq_ofNat_of_zero_le b2.1
      rw [hp, hq] at hd
      rw [hp] at b1
      rw [hq] at b2
      rw [hp, hq]
      rw [Int.toNat_natCast, Int.toNat_natCast]
      split <;> split <;> omega
    have inner : ∀ (v : Nat), v < 4 → v ≠ f % 4 → ∀ (L0 : LT → LT) , (∀ (I' : Nat → Nat → Int) (u7 u8 : mm_V), (∀ b, b ≠ 20 → b ≠ 22 → b ≠ 24 → I' b = I b) → skI I' n → (∀ L, ag I n L → ag I' n (fo (sU (I 3) (I 4) f v) 4 (L0 L))) → ∀ u5 u6 : mm_V, Ok 105 [.inr (some 18), .inr (some 2), .inl (f : Int), .inl ((f % 4 : Nat) : Int), .inl (v : Int), u5, u6, u7, u8] [] (I', mm_R0)) →
      ∀ (d u : Nat) (I' : Nat → Nat → Int) (u8 : mm_V), u + d = 4 → (∀ b, b ≠ 20 → b ≠ 22 → b ≠ 24 → I' b = I b) → skI I' n → (∀ L, ag I n L → ag I' n (fo (sU (I 3) (I 4) f v) u (L0 L))) → Ok 52 [.inr (some 18), .inr (some 2), .inl (f : Int), .inl ((f % 4 : Nat) : Int), .inl (v : Int), .inl ((f : Int) - ((f % 4 : Nat) : Int) + (v : Int)), .inl (acN o k f v : Int), .inl (u : Int), u8] [] (I', mm_R0) := by
      intro v hv hvf L0 hnext d
      obtain ⟨a1, a2, a3⟩ := hac v hv hvf
      induction d with
      | zero =>
        intro u I' u8 hd q1 q2 q3
        refine c52 _ _ _ ?_
        simp only [b_X8_joinFaces_52, i_ld, i_la, i_st, i_sa, i_c, i_inc, i_add, i_sub, i_mul, i_div, i_rem, i_remT, i_xor, i_dup, i_dup2, i_if, i_if2, i_sw, i_gi, i_gr, i_pi, i_pz, i_ial, i_ias, i_len, i_aal, i_gs, i_tal, i_cv, i_cs, i_ir, i_zr, i_vr, i_min, i_max, i_cpy, List.getElem?_cons_zero, List.getElem?_cons_succ, List.set_cons_zero, List.set_cons_succ, List.length_cons, List.length_nil, List.drop_succ_cons, List.drop_zero, List.take_succ_cons, List.take_zero, List.reverse_cons, List.reverse_nil, List.nil_append, List.cons_append, Option.toList_some, Option.toList_none, true_and, and_true, true_or, or_true, Nat.reduceAdd, Nat.reduceLT, Nat.reduceLeDiff, Option.some.injEq, exists_eq_left', Int.toNat_natCast, Nat.reduceSub, List.append_nil, List.replicate_succ, List.replicate_zero, mm_in,]
        repeat' first | refine And.intro ?_ ?_ | intro _
        all_goals try omega
        rw [show u = 4 by omega] at q3
        exact hnext I' _ _ q1 q2 q3 _ _
      | succ d ih =>
        intro u I' u8 hd q1 q2 q3
        have e3 : I' 3 = I 3 := q1 3 (by decide) (by decide) (by decide)
        have e4 : I' 4 = I 4 := q1 4 (by decide) (by decide) (by decide)
        have skip : ¬ (u ≠ v ∧ 0 ≤ acr (I 3) (I 4) f u) → ∀ u8 : mm_V, Ok 99 [.inr (some 18), .inr (some 2), .inl (f : Int), .inl ((f % 4 : Nat) : Int), .inl (v : Int), .inl ((f : Int) - ((f % 4 : Nat) : Int) + (v : Int)), .inl (acN o k f v : Int), .inl (u : Int), u8] [] (I', mm_R0) := by
          intro hno u8
          refine c99 _ _ _ ?_
          simp only [b_X8_joinFaces_99, i_ld, i_la, i_st, i_sa, i_c, i_inc, i_add, i_sub, i_mul, i_div, i_rem, i_remT, i_xor, i_dup, i_dup2, i_if, i_if2, i_sw, i_gi, i_gr, i_pi, i_pz, i_ial, i_ias, i_len, i_aal, i_gs, i_tal, i_cv, i_cs, i_ir, i_zr, i_vr, i_min, i_max, i_cpy, List.getElem?_cons_zero, List.getElem?_cons_succ, List.set_cons_zero, List.set_cons_succ, List.length_cons, List.length_nil, List.drop_succ_cons, List.drop_zero, List.take_succ_cons, List.take_zero, List.reverse_cons, List.reverse_nil, List.nil_append, List.cons_append, Option.toList_some, Option.toList_none, true_and, and_true, true_or, or_true, Nat.reduceAdd, Nat.reduceLT, Nat.reduceLeDiff, Option.some.injEq, exists_eq_left', Int.toNat_natCast, Nat.reduceSub, List.append_nil, List.replicate_succ, List.replicate_zero, mm_in,]
          repeat' first | refine And.intro ?_ ?_ | intro _
          all_goals try omega
          refine ih (u + 1) I' u8 (by omega) q1 q2 (fun L hL => ?_)
          show ag I' n (sU (I 3) (I 4) f v u (fo (sU (I 3) (I 4) f v) u (L0 L)))
          unfold sU
          rw [if_neg hno]
          exact q3 L hL
        refine c52 _ _ _ ?_
        simp only [b_X8_joinFaces_52, i_ld, i_la, i_st, i_sa, i_c, i_inc, i_add, i_sub, i_mul, i_div, i_rem, i_remT, i_xor, i_dup, i_dup2, i_if, i_if2, i_sw, i_gi, i_gr, i_pi, i_pz, i_ial, i_ias, i_len, i_aal, i_gs, i_tal, i_cv, i_cs, i_ir, i_zr, i_vr, i_min, i_max, i_cpy, List.getElem?_cons_zero, List.getElem?_cons_succ, List.set_cons_zero, List.set_cons_succ, List.length_cons, List.length_nil, List.drop_succ_cons, List.drop_zero, List.take_succ_cons, List.take_zero, List.reverse_cons, List.reverse_nil, List.nil_append, List.cons_append, Option.toList_some, Option.toList_none, true_and, and_true, true_or, or_true, Nat.reduceAdd, Nat.reduceLT, Nat.reduceLeDiff, Option.some.injEq, exists_eq_left', Int.toNat_natCast, Nat.reduceSub, List.append_nil, List.replicate_succ, List.replicate_zero, mm_in, T_X10_across, Rs_2.2.2.2.1, e3, e4]
        refine ⟨fun z => by omega, fun _ => ⟨f, u, rfl, rfl, by omega, by omega, fun _ => by omega, ?_⟩⟩
        refine ⟨fun z => skip (fun hh => hh.1 (by omega)) _, fun z => ?_⟩
        by_cases huf : u = f % 4
        · rw [huf, hacn]
          refine ⟨fun _ => ?_, fun z => by omega⟩
          have := skip (fun hh => by rw [huf, hacn] at hh; omega) (.inl (-1))
          rw [huf] at this
          exact this
        · obtain ⟨c1, c2, c3⟩ := hac u (by omega) huf
          rw [c1]
          refine ⟨fun z => by omega, fun _ => ?_⟩
          have x1 : 4 * ((f : Int) - ((f % 4 : Nat) : Int) + (v : Int)) + (u : Int) = (sUx f v u : Int) := by unfold sUx; omega
          have x2 : 4 * (acN o k f v : Int) + (acN o k f u : Int) % 4 = (sUy (I 3) (I 4) f v u : Int) := by unfold sUy; rw [a1, c1]; simp
          have y1 : sUx f v u < 16 * n := by unfold sUx; omega
          have y2 : sUy (I 3) (I 4) f v u < 16 * n := by unfold sUy; rw [a1, c1]; simp; omega
          have t1 : 0 ≤ mm_tb 4 (sUx f v u % 16) := by
            have := etab v hv u (by omega) (by omega)
            rw [show sUx f v u % 16 = 4 * v + u by unfold sUx; omega]
            exact this
          have t2 : 0 ≤ mm_tb 4 (sUy (I 3) (I 4) f v u % 16) := by
            have := etab (acN o k f v % 4) (by omega) (acN o k f u % 4) (by omega) (fun e => hne2 u v (by omega) hv huf hvf (by omega) e.symm)
            rw [show sUy (I 3) (I 4) f v u % 16 = 4 * (acN o k f v % 4) + acN o k f u % 4 by unfold sUy; rw [a1, c1]; simp; omega]
            exact this
          rw [x1, x2]
          simp only [T_X8_joinArrows]
          refine ⟨⟨by omega, by omega⟩, ⟨by omega, by omega⟩, ⟨by omega, by omega⟩, ⟨by omega, by omega⟩, ⟨by omega, by omega⟩, s0, trivial, trivial, _, _, n, rfl, rfl, hn3, q2, y1, y2, t1, t2, fun I2 f1 f2 f3 => ?_⟩
          refine c99 _ _ _ ?_
          simp only [b_X8_joinFaces_99, i_ld, i_la, i_st, i_sa, i_c, i_inc, i_add, i_sub, i_mul, i_div, i_rem, i_remT, i_xor, i_dup, i_dup2, i_if, i_if2, i_sw, i_gi, i_gr, i_pi, i_pz, i_ial, i_ias, i_len, i_aal, i_gs, i_tal, i_cv, i_cs, i_ir, i_zr, i_vr, i_min, i_max, i_cpy, List.getElem?_cons_zero, List.getElem?_cons_succ, List.set_cons_zero, List.set_cons_succ, List.length_cons, List.length_nil, List.drop_succ_cons, List.drop_zero, List.take_succ_cons, List.take_zero, List.reverse_cons, List.reverse_nil, List.nil_append, List.cons_append, Option.toList_some, Option.toList_none, true_and, and_true, true_or, or_true, Nat.reduceAdd, Nat.reduceLT, Nat.reduceLeDiff, Option.some.injEq, exists_eq_left', Int.toNat_natCast, Nat.reduceSub, List.append_nil, List.replicate_succ, List.replicate_zero, mm_in,]
          repeat' first | refine And.intro ?_ ?_ | intro _
          all_goals try omega
          refine ih (u + 1) I2 _ (by omega) (fun b z1 z2 z3 => by rw [f1 b z2 z3]; exact q1 b z1 z2 z3) f2 (fun L hL => ?_)
          show ag I2 n (sU (I 3) (I 4) f v u (fo (sU (I 3) (I 4) f v) u (L0 L)))
          unfold sU
          rw [if_pos ⟨by omega, by rw [c1]; omega⟩]
          exact f3 _ (q3 L hL)
    have outer : ∀ (d v : Nat) (I' : Nat → Nat → Int) (u5 u6 u7 u8 : mm_V), v + d = 4 → (∀ b, b ≠ 20 → b ≠ 22 → b ≠ 24 → I' b = I b) → skI I' n → (∀ L, ag I n L → ag I' n (fo (sV (I 3) (I 4) f) v L)) → Ok 7 [.inr (some 18), .inr (some 2), .inl (f : Int), .inl ((f % 4 : Nat) : Int), .inl (v : Int), u5, u6, u7, u8] [] (I', mm_R0) := by
      intro d
      induction d with
      | zero =>
        intro v I' u5 u6 u7 u8 hd q1 q2 q3
        refine c7 _ _ _ ?_
        simp only [b_X8_joinFaces_7, i_ld, i_la, i_st, i_sa, i_c, i_inc, i_add, i_sub, i_mul, i_div, i_rem, i_remT, i_xor, i_dup, i_dup2, i_if, i_if2, i_sw, i_gi, i_gr, i_pi, i_pz, i_ial, i_ias, i_len, i_aal, i_gs, i_tal, i_cv, i_cs, i_ir, i_zr, i_vr, i_min, i_max, i_cpy, List.getElem?_cons_zero, List.getElem?_cons_succ, List.set_cons_zero, List.set_cons_succ, List.length_cons, List.length_nil, List.drop_succ_cons, List.drop_zero, List.take_succ_cons, List.take_zero, List.reverse_cons, List.reverse_nil, List.nil_append, List.cons_append, Option.toList_some, Option.toList_none, true_and, and_true, true_or, or_true, Nat.reduceAdd, Nat.reduceLT, Nat.reduceLeDiff, Option.some.injEq, exists_eq_left', Int.toNat_natCast, Nat.reduceSub, List.append_nil, List.replicate_succ, List.replicate_zero, mm_in,]
        repeat' first | refine And.intro ?_ ?_ | intro _
        all_goals try omega
        rw [show v = 4 by omega] at q3
        exact hP I' q1 q2 q3
      | succ d ih =>
        intro v I' u5 u6 u7 u8 hd q1 q2 q3
        have e3 : I' 3 = I 3 := q1 3 (by decide) (by decide) (by decide)
        have e4 : I' 4 = I 4 := q1 4 (by decide) (by decide) (by decide)
        obtain ⟨g1, g2, g3, g4, g5, g6⟩ := id q2
        refine c7 _ _ _ ?_
        simp only [b_X8_joinFaces_7, i_ld, i_la, i_st, i_sa, i_c, i_inc, i_add, i_sub, i_mul, i_div, i_rem, i_remT, i_xor, i_dup, i_dup2, i_if, i_if2, i_sw, i_gi, i_gr, i_pi, i_pz, i_ial, i_ias, i_len, i_aal, i_gs, i_tal, i_cv, i_cs, i_ir, i_zr, i_vr, i_min, i_max, i_cpy, List.getElem?_cons_zero, List.getElem?_cons_succ, List.set_cons_zero, List.set_cons_succ, List.length_cons, List.length_nil, List.drop_succ_cons, List.drop_zero, List.take_succ_cons, List.take_zero, List.reverse_cons, List.reverse_nil, List.nil_append, List.cons_append, Option.toList_some, Option.toList_none, true_and, and_true, true_or, or_true, Nat.reduceAdd, Nat.reduceLT, Nat.reduceLeDiff, Option.some.injEq, exists_eq_left', Int.toNat_natCast, Nat.reduceSub, List.append_nil, List.replicate_succ, List.replicate_zero, mm_in, T_X10_across, Rs_2.2.2.2.1, e3, e4, r0, s0]
        refine ⟨fun z => by omega, fun _ => ⟨⟨by omega, by omega⟩, ⟨by omega, by omega⟩, f, v, rfl, rfl, by omega, by omega, fun _ => by omega, ?_⟩⟩
        by_cases hvf : v = f % 4
        · have hav' : acr (I 3) (I 4) f v = -1 := by rw [hvf]; exact hacn
          rw [hav']
          refine ⟨fun z => by omega, fun _ => ?_⟩
          refine c105 _ _ _ ?_
          simp only [b_X8_joinFaces_105, i_ld, i_la, i_st, i_sa, i_c, i_inc, i_add, i_sub, i_mul, i_div, i_rem, i_remT, i_xor, i_dup, i_dup2, i_if, i_if2, i_sw, i_gi, i_gr, i_pi, i_pz, i_ial, i_ias, i_len, i_aal, i_gs, i_tal, i_cv, i_cs, i_ir, i_zr, i_vr, i_min, i_max, i_cpy, List.getElem?_cons_zero, List.getElem?_cons_succ, List.set_cons_zero, List.set_cons_succ, List.length_cons, List.length_nil, List.drop_succ_cons, List.drop_zero, List.take_succ_cons, List.take_zero, List.reverse_cons, List.reverse_nil, List.nil_append, List.cons_append, Option.toList_some, Option.toList_none, true_and, and_true, true_or, or_true, Nat.reduceAdd, Nat.reduceLT, Nat.reduceLeDiff, Option.some.injEq, exists_eq_left', Int.toNat_natCast, Nat.reduceSub, List.append_nil, List.replicate_succ, List.replicate_zero, mm_in,]
          repeat' first | refine And.intro ?_ ?_ | intro _
          all_goals try omega
          refine ih (v + 1) I' _ _ _ _ (by omega) q1 q2 (fun L hL => ?_)
          show ag I' n (sV (I 3) (I 4) f v (fo (sV (I 3) (I 4) f) v L))
          unfold sV
          rw [if_neg (by rw [hav']; decide)]
          exact q3 L hL
        · obtain ⟨a1, a2, a3⟩ := hac v (by omega) hvf
          rw [a1]
          refine ⟨fun _ => ?_, fun z => by omega⟩
          simp only [T_X1_join, g1, s1, s2, Int.toNat_natCast]
          have hx : ((f : Int) - ((f % 4 : Nat) : Int) + (v : Int)).toNat = 4 * (f / 4) + v := by omega
          refine ⟨by decide, trivial, trivial, by omega, by omega, by omega, by omega, by omega, g4, fun I2 f1 u1 m1 => ?_⟩
          refine inner v (by omega) hvf (fun L => (mg (fo (sV (I 3) (I 4) f) v L).1 (4 * (f / 4) + v) (acN o k f v), (fo (sV (I 3) (I 4) f) v L).2)) (fun I3 u7 u8 p1 p2 p3 u5 u6 => ?_) 4 0 I2 _ (by omega) (fun b z1 z2 z3 => by rw [f1 b z1]; exact q1 b z1 z2 z3) ⟨by rw [f1 19 (by decide)]; exact g1, by rw [f1 21 (by decide)]; exact g2, by rw [f1 23 (by decide)]; exact g3, u1, fun j hj => by rw [f1 22 (by decide)]; exact g5 j hj, fun j hj => by rw [f1 24 (by decide)]; exact g6 j hj⟩ (fun L hL => ?_)
          · refine c105 _ _ _ ?_
            simp only [b_X8_joinFaces_105, i_ld, i_la, i_st, i_sa, i_c, i_inc, i_add, i_sub, i_mul, i_div, i_rem, i_remT, i_xor, i_dup, i_dup2, i_if, i_if2, i_sw, i_gi, i_gr, i_pi, i_pz, i_ial, i_ias, i_len, i_aal, i_gs, i_tal, i_cv, i_cs, i_ir, i_zr, i_vr, i_min, i_max, i_cpy, List.getElem?_cons_zero, List.getElem?_cons_succ, List.set_cons_zero, List.set_cons_succ, List.length_cons, List.length_nil, List.drop_succ_cons, List.drop_zero, List.take_succ_cons, List.take_zero, List.reverse_cons, List.reverse_nil, List.nil_append, List.cons_append, Option.toList_some, Option.toList_none, true_and, and_true, true_or, or_true, Nat.reduceAdd, Nat.reduceLT, Nat.reduceLeDiff, Option.some.injEq, exists_eq_left', Int.toNat_natCast, Nat.reduceSub, List.append_nil, List.replicate_succ, List.replicate_zero, mm_in,]
            repeat' first | refine And.intro ?_ ?_ | intro _
            all_goals try omega
            refine ih (v + 1) I3 _ _ _ _ (by omega) p1 p2 (fun L hL => ?_)
            show ag I3 n (sV (I 3) (I 4) f v (fo (sV (I 3) (I 4) f) v L))
            unfold sV
            rw [if_pos (by rw [a1]; omega), a1, Int.toNat_natCast]
            exact p3 L hL
          · have hq := q3 L hL
            refine ⟨fun j hj => ?_, fun j hj => ?_, fun j hj => ?_⟩
            · rw [m1 j hj, hx]
              exact mg_ag hq.1 (by omega) a2 j hj
            · have e : fi I2 22 = fi I' 22 := by unfold fi; rw [f1 22 (by decide)]
              rw [e]; exact hq.2.1 j hj
            · have e : fi I2 24 = fi I' 24 := by unfold fi; rw [f1 24 (by decide)]
              rw [e]; exact hq.2.2 j hj
    refine c0 _ _ _ ?_
    simp only [b_X8_joinFaces_0, i_ld, i_la, i_st, i_sa, i_c, i_inc, i_add, i_sub, i_mul, i_div, i_rem, i_remT, i_xor, i_dup, i_dup2, i_if, i_if2, i_sw, i_gi, i_gr, i_pi, i_pz, i_ial, i_ias, i_len, i_aal, i_gs, i_tal, i_cv, i_cs, i_ir, i_zr, i_vr, i_min, i_max, i_cpy, List.getElem?_cons_zero, List.getElem?_cons_succ, List.set_cons_zero, List.set_cons_succ, List.length_cons, List.length_nil, List.drop_succ_cons, List.drop_zero, List.take_succ_cons, List.take_zero, List.reverse_cons, List.reverse_nil, List.nil_append, List.cons_append, Option.toList_some, Option.toList_none, true_and, and_true, true_or, or_true, Nat.reduceAdd, Nat.reduceLT, Nat.reduceLeDiff, Option.some.injEq, exists_eq_left', Int.toNat_natCast, Nat.reduceSub, List.append_nil, List.replicate_succ, List.replicate_zero, mm_in, ef]
    repeat' first | refine And.intro ?_ ?_ | intro _
    all_goals try omega
    exact outer 4 0 I _ _ _ _ (by omega) (fun _ _ _ _ => rfl) hs (fun L hL => hL)
  · exact hT.elim
theorem sp_X8_joinFaces : mm_Sp yX8_joinFaces cX8_joinFaces 9 none rm_X8_joinFaces T_X8_joinFaces := mm_meth (by decide) (by
  intro av σ Post h
  unfold T_X8_joinFaces at h
  split at h
  · simp
  · exact h.elim) (fun p l e s m args below meth c G av σ Post hC hr _ hav hin hk hT => pv_X8_joinFaces av σ Post hav hin hk hT _ (bk_X8_joinFaces hC hr))
