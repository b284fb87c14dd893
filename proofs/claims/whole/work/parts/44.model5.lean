/-! the other program: sums over a surface
-/
theorem sm_bd {f : Nat → Int} {c : Int} (n : Nat) (h : ∀ k, k < n → 0 ≤ f k ∧ f k ≤ c) : 0 ≤ sm f n ∧ sm f n ≤ c * n := by
  induction n with
  | zero => exact ⟨Int.le_refl _, by simp [sm]⟩
  | succ n ih =>
    have a := ih (fun k hk => h k (by omega))
    have b := h n (by omega)
    show 0 ≤ sm f n + f n ∧ sm f n + f n ≤ c * ((n + 1 : Nat) : Int)
    rw [Int.natCast_add, Int.mul_add]
    omega
theorem ac_bd {nb : Nat → Int} (h : bd nb) {b f v : Nat} (hb : b < 3) (hf : f < 4) (hv : v < 4) (hne : v ≠ f) : 0 ≤ ac nb b f v ∧ ac nb b f v ≤ 2000 := by
  have hr := (tg_tab v hv f hf hne).2
  have b1 := h (7 * b + v) (by omega)
  have b2 := h (7 * b + tg v f) (by omega)
  unfold ac
  omega
theorem awf_bd {nb : Nat → Int} (h : bd nb) {b f : Nat} (hb : b < 3) (hf : f < 4) : ∀ v, v < 4 → 0 ≤ (if v = f then 0 else ac nb b f v) ∧ (if v = f then 0 else ac nb b f v) ≤ 2000 := by
  intro v hv
  split
  · omega
  · rename_i q
    exact ac_bd h hb hf hv q
theorem aw_bd {nb : Nat → Int} (h : bd nb) {b f : Nat} (hb : b < 3) (hf : f < 4) : 0 ≤ aw nb b f ∧ aw nb b f ≤ 8000 := by
  have := sm_bd (f := fun v => if v = f then 0 else ac nb b f v) (c := 2000) 4 (awf_bd h hb hf)
  unfold aw
  omega
def T_X12_arcsOfWall : mm_T := fun av σ Post => match av with
  | [.inr (some a), .inl s, .inl x] => σ.2 = mm_R0 ∧ a = 338 ∧ ∃ o f : Nat, s = o ∧ x = f ∧ o ≤ 2888 ∧ f < 12 ∧ bd (MN σ.1 o) ∧ Post (some (.inl (aw (MN σ.1 o) (f / 4) (f % 4)))) σ
  | _ => False
def rm_X12_arcsOfWall : Room := { frames := 2, cells := 0, slots := 0, locals := 45 }
def b_X12_arcsOfWall_0 (Ok : Nat → mm_K) (Post : Option mm_V → mm_S → Prop) (kf : Nat) : mm_K := i_c 0 (i_st 3 (i_c 0 (i_st 4 (Ok 5))))
def b_X12_arcsOfWall_5 (Ok : Nat → mm_K) (Post : Option mm_V → mm_S → Prop) (kf : Nat) : mm_K := i_ld 4 (i_c 4 (i_if2 (fun x y => y ≤ x) (i_ld 3 (i_ir Post kf)) (i_ld 3 (i_ld 4 (i_ld 2 (i_c 4 (i_rem (i_if2 (fun x y => x = y) (i_c 0 (Ok 32)) (i_la 0 (i_ld 1 (i_ld 2 (i_ld 4 (i_cv 11 3 T_X12_arcsOf (Ok 32))))))))))))))
def b_X12_arcsOfWall_32 (Ok : Nat → mm_K) (Post : Option mm_V → mm_S → Prop) (kf : Nat) : mm_K := i_add (i_st 3 (i_inc 4 1 (Ok 5)))
def clo_X12_arcsOfWall (Ok : Nat → mm_K) (Post : Option mm_V → mm_S → Prop) (kf : Nat) : Prop := mm_imp (b_X12_arcsOfWall_0 Ok Post kf) (Ok 0) ∧ mm_imp (b_X12_arcsOfWall_5 Ok Post kf) (Ok 5) ∧ mm_imp (b_X12_arcsOfWall_32 Ok Post kf) (Ok 32)
set_option maxRecDepth 100000 in
set_option maxHeartbeats 4000000 in
theorem bk_X12_arcsOfWall {p : Program} {l : Launch} {e : Env} {s : State} {m : MethodId} {args : Array Value} {below : List Frame} {meth : Method} {c : Code} {G : mm_G} {σ0 : mm_S} {Post : Option mm_V → mm_S → Prop} (hC : mm_C p G s m args meth c cX12_arcsOfWall yX12_arcsOfWall.cls) (hr : meth.sig.returnType = some .int) : clo_X12_arcsOfWall (mm_O p l e rm_X12_arcsOfWall s m args below meth c G σ0.2.2 (MQ below (mm_Qc G σ0 rm_X12_arcsOfWall.cells rm_X12_arcsOfWall.slots Post) args s rm_X12_arcsOfWall.cells rm_X12_arcsOfWall.slots (mm_A G))) Post σ0.2.2 := ⟨(by unfold b_X12_arcsOfWall_0; exact (mm_ic hC dX12_arcsOfWall_0 ⟨by decide, by decide⟩ (mm_st_n hC dX12_arcsOfWall_1 rfl (mm_ic hC dX12_arcsOfWall_2 ⟨by decide, by decide⟩ (mm_st hC dX12_arcsOfWall_3 (fun _ _ _ h => h)))))), (by unfold b_X12_arcsOfWall_5; exact (mm_ld hC dX12_arcsOfWall_5 (mm_ic hC dX12_arcsOfWall_7 ⟨by decide, by decide⟩ (mm_ic_ge hC (t := 40) dX12_arcsOfWall_8 (by decide) (mm_ld_n hC dX12_arcsOfWall_40 rfl (mm_ir hC ⟨rfl, rfl⟩ hr dX12_arcsOfWall_41)) (mm_ld_n hC dX12_arcsOfWall_11 rfl (mm_ld hC dX12_arcsOfWall_12 (mm_ld_n hC dX12_arcsOfWall_14 rfl (mm_ic hC dX12_arcsOfWall_15 ⟨by decide, by decide⟩ (mm_rem hC dX12_arcsOfWall_16 (mm_ic_eq hC (t := 31) dX12_arcsOfWall_17 (by decide) (mm_ic hC dX12_arcsOfWall_31 ⟨by decide, by decide⟩ (fun _ _ _ h => h)) (mm_la_n hC dX12_arcsOfWall_20 rfl (mm_ld_n hC dX12_arcsOfWall_21 rfl (mm_ld_n hC dX12_arcsOfWall_22 rfl (mm_ld hC dX12_arcsOfWall_23 (mm_cv hC sp_X12_arcsOf ⟨rfl, rfl⟩ cl_11 wd_913 wd_915 wd_37 wd_916 wd_77 ⟨by decide, by decide, by decide +kernel⟩ ⟨by decide, by decide⟩ dX12_arcsOfWall_25 (mm_goto hC (t := 32) dX12_arcsOfWall_28 (by decide) (fun _ _ _ h => h))))))))))))))))), (by unfold b_X12_arcsOfWall_32; exact (mm_add hC dX12_arcsOfWall_32 (mm_st_n hC dX12_arcsOfWall_33 rfl (mm_inc hC dX12_arcsOfWall_34 (mm_goto hC (t := 5) dX12_arcsOfWall_37 (by decide) (fun _ _ _ h => h))))))⟩
set_option maxRecDepth 100000 in
set_option maxHeartbeats 8000000 in
theorem pv_X12_arcsOfWall : ∀ (av : List mm_V) (σ : mm_S) (Post : Option mm_V → mm_S → Prop), (∀ v ∈ av, mm_iv v) → (∀ a j, mm_in (σ.1 a j)) → σ.2.2 ≤ 348 → T_X12_arcsOfWall av σ Post → ∀ Ok : Nat → mm_K, clo_X12_arcsOfWall Ok Post σ.2.2 → Ok 0 (av ++ List.replicate (5 - av.length) (.inr none)) [] σ := by
  intro av σ Post hav hin hk hT Ok hcl
  obtain ⟨I, R0⟩ := σ
  unfold T_X12_arcsOfWall at hT
  split at hT
  · rename_i a s x
    obtain ⟨h0, hT⟩ := hT
    have h0 : R0 = mm_R0 := h0
    subst h0
    dsimp only at hT hin
    obtain ⟨c0, c5, c32⟩ := hcl
    obtain ⟨rfl, o, f, rfl, rfl, ho, hf, hb, hP⟩ := hT
    have w0 := m0
    obtain ⟨g, hg⟩ : ∃ g : Nat → Int, (fun v => if v = f % 4 then 0 else ac (MN I o) (f / 4) (f % 4) v) = g := ⟨_, rfl⟩
    have hgb : ∀ v, v < 4 → 0 ≤ g v ∧ g v ≤ 2000 := by
      intro v hv
      rw [← hg]
      exact awf_bd hb (by omega) (by omega) v hv
    have hP2 : Post (some (.inl (sm g 4))) (I, mm_R0) := by
      rw [← hg]
      exact hP
    have loop : ∀ (d v : Nat), v + d = 4 → Ok 5 [.inr (some 338), .inl (o : Int), .inl (f : Int), .inl (sm g v), .inl (v : Int)] [] (I, mm_R0) := by
      intro d
      induction d with
      | zero =>
        intro v hd
        refine c5 _ _ _ ?_
        simp only [b_X12_arcsOfWall_5, i_xorg, i_shl, i_shr, i_ior, i_and1, i_lcg1, i_lcg2, i_ld, i_la, i_st, i_sa, i_c, i_inc, i_add, i_sub, i_mul, i_div, i_rem, i_remT, i_xor, i_dup, i_dup2, i_if, i_if2, i_sw, i_gi, i_gr, i_pi, i_pz, i_ial, i_ias, i_len, i_aal, i_gs, i_tal, i_cv, i_cs, i_ir, i_zr, i_vr, i_min, i_max, i_cpy, List.getElem?_cons_zero, List.getElem?_cons_succ, List.set_cons_zero, List.set_cons_succ, List.length_cons, List.length_nil, List.drop_succ_cons, List.drop_zero, List.take_succ_cons, List.take_zero, List.reverse_cons, List.reverse_nil, List.nil_append, List.cons_append, Option.toList_some, Option.toList_none, true_and, and_true, true_or, or_true, Nat.reduceAdd, Nat.reduceLT, Nat.reduceLeDiff, Option.some.injEq, exists_eq_left', Int.toNat_natCast, Nat.reduceSub, List.append_nil, List.replicate_succ, List.replicate_zero, mm_in,]
        rw [show v = 4 by omega]
        repeat' first | refine And.intro ?_ ?_ | refine fun (_ : _ ≤ _ ∧ _ < _) => ?_
        all_goals try omega
        exact fun _ => hP2
      | succ d ih =>
        intro v hd
        have s1 := sm_bd (f := g) (c := 2000) v (fun k hk => hgb k (by omega))
        have s2 := hgb v (by omega)
        have f32 : ∀ z : Int, z = g v → Ok 32 [.inr (some 338), .inl (o : Int), .inl (f : Int), .inl (sm g v), .inl (v : Int)] [.inl z, .inl (sm g v)] (I, mm_R0) := by
          intro z hz
          have hs : sm g (v + 1) = sm g v + z := by rw [hz]; rfl
          have := ih (v + 1) (by omega)
          rw [hs, Int.natCast_add] at this
          refine c32 _ _ _ ?_
          simp only [b_X12_arcsOfWall_32, i_xorg, i_shl, i_shr, i_ior, i_and1, i_lcg1, i_lcg2, i_ld, i_la, i_st, i_sa, i_c, i_inc, i_add, i_sub, i_mul, i_div, i_rem, i_remT, i_xor, i_dup, i_dup2, i_if, i_if2, i_sw, i_gi, i_gr, i_pi, i_pz, i_ial, i_ias, i_len, i_aal, i_gs, i_tal, i_cv, i_cs, i_ir, i_zr, i_vr, i_min, i_max, i_cpy, List.getElem?_cons_zero, List.getElem?_cons_succ, List.set_cons_zero, List.set_cons_succ, List.length_cons, List.length_nil, List.drop_succ_cons, List.drop_zero, List.take_succ_cons, List.take_zero, List.reverse_cons, List.reverse_nil, List.nil_append, List.cons_append, Option.toList_some, Option.toList_none, true_and, and_true, true_or, or_true, Nat.reduceAdd, Nat.reduceLT, Nat.reduceLeDiff, Option.some.injEq, exists_eq_left', Int.toNat_natCast, Nat.reduceSub, List.append_nil, List.replicate_succ, List.replicate_zero, mm_in,]
          repeat' first | refine And.intro ?_ ?_ | refine fun (_ : _ ≤ _ ∧ _ < _) => ?_
          all_goals try omega
        refine c5 _ _ _ ?_
        simp only [b_X12_arcsOfWall_5, i_xorg, i_shl, i_shr, i_ior, i_and1, i_lcg1, i_lcg2, i_ld, i_la, i_st, i_sa, i_c, i_inc, i_add, i_sub, i_mul, i_div, i_rem, i_remT, i_xor, i_dup, i_dup2, i_if, i_if2, i_sw, i_gi, i_gr, i_pi, i_pz, i_ial, i_ias, i_len, i_aal, i_gs, i_tal, i_cv, i_cs, i_ir, i_zr, i_vr, i_min, i_max, i_cpy, List.getElem?_cons_zero, List.getElem?_cons_succ, List.set_cons_zero, List.set_cons_succ, List.length_cons, List.length_nil, List.drop_succ_cons, List.drop_zero, List.take_succ_cons, List.take_zero, List.reverse_cons, List.reverse_nil, List.nil_append, List.cons_append, Option.toList_some, Option.toList_none, true_and, and_true, true_or, or_true, Nat.reduceAdd, Nat.reduceLT, Nat.reduceLeDiff, Option.some.injEq, exists_eq_left', Int.toNat_natCast, Nat.reduceSub, List.append_nil, List.replicate_succ, List.replicate_zero, mm_in, w0, T_X12_arcsOf]
        repeat' first | refine And.intro ?_ ?_ | refine fun (_ : _ ≤ _ ∧ _ < _) => ?_
        all_goals try omega
        · intro q
          repeat' first | refine And.intro ?_ ?_ | refine fun (_ : _ ≤ _ ∧ _ < _) => ?_
          all_goals try omega
          · intro q2
            refine f32 0 ?_
            rw [← hg]
            show _ = if _ then _ else _
            rw [if_pos (by omega)]
          · intro q2
            refine ⟨o, f, v, rfl, rfl, rfl, ho, hf, by omega, by omega, hb, f32 _ ?_⟩
            rw [← hg]
            show _ = if _ then _ else _
            rw [if_neg (by omega)]
    refine c0 _ _ _ ?_
    simp only [b_X12_arcsOfWall_0, i_xorg, i_shl, i_shr, i_ior, i_and1, i_lcg1, i_lcg2, i_ld, i_la, i_st, i_sa, i_c, i_inc, i_add, i_sub, i_mul, i_div, i_rem, i_remT, i_xor, i_dup, i_dup2, i_if, i_if2, i_sw, i_gi, i_gr, i_pi, i_pz, i_ial, i_ias, i_len, i_aal, i_gs, i_tal, i_cv, i_cs, i_ir, i_zr, i_vr, i_min, i_max, i_cpy, List.getElem?_cons_zero, List.getElem?_cons_succ, List.set_cons_zero, List.set_cons_succ, List.length_cons, List.length_nil, List.drop_succ_cons, List.drop_zero, List.take_succ_cons, List.take_zero, List.reverse_cons, List.reverse_nil, List.nil_append, List.cons_append, Option.toList_some, Option.toList_none, true_and, and_true, true_or, or_true, Nat.reduceAdd, Nat.reduceLT, Nat.reduceLeDiff, Option.some.injEq, exists_eq_left', Int.toNat_natCast, Nat.reduceSub, List.append_nil, List.replicate_succ, List.replicate_zero, mm_in,]
    exact loop 4 0 (by omega)
  · exact hT.elim
theorem sp_X12_arcsOfWall : mm_Sp yX12_arcsOfWall cX12_arcsOfWall 5 (some .int) rm_X12_arcsOfWall T_X12_arcsOfWall := mm_meth (by decide) (by
  intro av σ Post h
  unfold T_X12_arcsOfWall at h
  split at h
  · simp
  · exact h.elim) (fun p l e s m args below meth c G av σ Post hC hr _ hav hin hk hT => pv_X12_arcsOfWall av σ Post hav hin hk hT _ (bk_X12_arcsOfWall hC hr))
def T_X12_allPieces : mm_T := fun av σ Post => match av with
  | [.inr (some a), .inl s] => σ.2 = mm_R0 ∧ a = 338 ∧ ∃ o n : Nat, s = o ∧ o ≤ 2888 ∧ σ.1 339 0 = n ∧ n ≤ 3 ∧ bd (MN σ.1 o) ∧ Post (some (.inl (sm (MN σ.1 o) (7 * n)))) σ
  | _ => False
theorem ton (o k : Nat) : ((o : Int) + (k : Int)).toNat = o + k := by omega
def rm_X12_allPieces : Room := { frames := 0, cells := 0, slots := 0, locals := 0 }
def b_X12_allPieces_0 (Ok : Nat → mm_K) (Post : Option mm_V → mm_S → Prop) (kf : Nat) : mm_K := i_c 0 (i_st 2 (i_c 0 (i_st 3 (Ok 4))))
def b_X12_allPieces_4 (Ok : Nat → mm_K) (Post : Option mm_V → mm_S → Prop) (kf : Nat) : mm_K := i_ld 3 (i_c 7 (i_la 0 (i_gr 11 0 (i_c 0 (i_ial (i_mul (i_if2 (fun x y => y ≤ x) (i_ld 2 (i_ir Post kf)) (i_ld 2 (i_la 0 (i_gr 11 0 (i_ld 1 (i_ld 3 (i_add (i_ial (i_add (i_st 2 (i_inc 3 1 (Ok 4))))))))))))))))))
def clo_X12_allPieces (Ok : Nat → mm_K) (Post : Option mm_V → mm_S → Prop) (kf : Nat) : Prop := mm_imp (b_X12_allPieces_0 Ok Post kf) (Ok 0) ∧ mm_imp (b_X12_allPieces_4 Ok Post kf) (Ok 4)
set_option maxRecDepth 100000 in
set_option maxHeartbeats 4000000 in
theorem bk_X12_allPieces {p : Program} {l : Launch} {e : Env} {s : State} {m : MethodId} {args : Array Value} {below : List Frame} {meth : Method} {c : Code} {G : mm_G} {σ0 : mm_S} {Post : Option mm_V → mm_S → Prop} (hC : mm_C p G s m args meth c cX12_allPieces yX12_allPieces.cls) (hr : meth.sig.returnType = some .int) : clo_X12_allPieces (mm_O p l e rm_X12_allPieces s m args below meth c G σ0.2.2 (MQ below (mm_Qc G σ0 rm_X12_allPieces.cells rm_X12_allPieces.slots Post) args s rm_X12_allPieces.cells rm_X12_allPieces.slots (mm_A G))) Post σ0.2.2 := ⟨(by unfold b_X12_allPieces_0; exact (mm_ic hC dX12_allPieces_0 ⟨by decide, by decide⟩ (mm_st_n hC dX12_allPieces_1 rfl (mm_ic hC dX12_allPieces_2 ⟨by decide, by decide⟩ (mm_st_n hC dX12_allPieces_3 rfl (fun _ _ _ h => h)))))), (by unfold b_X12_allPieces_4; exact (mm_ld_n hC dX12_allPieces_4 rfl (mm_bp hC dX12_allPieces_5 ⟨⟨by decide, by decide⟩, by decide⟩ (mm_la_n hC dX12_allPieces_7 rfl (mm_gr hC cl_11 (by decide) rfl wd_789 dX12_allPieces_8 (mm_ic hC dX12_allPieces_11 ⟨by decide, by decide⟩ (mm_ial hC dX12_allPieces_12 (mm_mul hC dX12_allPieces_13 (mm_ic_ge hC (t := 34) dX12_allPieces_14 (by decide) (mm_ld_n hC dX12_allPieces_34 rfl (mm_ir hC ⟨rfl, rfl⟩ hr dX12_allPieces_35)) (mm_ld_n hC dX12_allPieces_17 rfl (mm_la_n hC dX12_allPieces_18 rfl (mm_gr hC cl_11 (by decide) rfl wd_789 dX12_allPieces_19 (mm_ld_n hC dX12_allPieces_22 rfl (mm_ld_n hC dX12_allPieces_23 rfl (mm_add hC dX12_allPieces_24 (mm_ial hC dX12_allPieces_25 (mm_add hC dX12_allPieces_26 (mm_st_n hC dX12_allPieces_27 rfl (mm_inc hC dX12_allPieces_28 (mm_goto hC (t := 4) dX12_allPieces_31 (by decide) (fun _ _ _ h => h)))))))))))))))))))))⟩
set_option maxRecDepth 100000 in
set_option maxHeartbeats 8000000 in
theorem pv_X12_allPieces : ∀ (av : List mm_V) (σ : mm_S) (Post : Option mm_V → mm_S → Prop), (∀ v ∈ av, mm_iv v) → (∀ a j, mm_in (σ.1 a j)) → σ.2.2 ≤ 348 → T_X12_allPieces av σ Post → ∀ Ok : Nat → mm_K, clo_X12_allPieces Ok Post σ.2.2 → Ok 0 (av ++ List.replicate (4 - av.length) (.inr none)) [] σ := by
  intro av σ Post hav hin hk hT Ok hcl
  obtain ⟨I, R0⟩ := σ
  unfold T_X12_allPieces at hT
  split at hT
  · rename_i a s
    obtain ⟨h0, hT⟩ := hT
    have h0 : R0 = mm_R0 := h0
    subst h0
    dsimp only at hT hin
    obtain ⟨c0, c4⟩ := hcl
    obtain ⟨rfl, o, n, rfl, ho, hn, hn3, hb, hP⟩ := hT
    have w0 := m0
    have w1 := m1
    have w2 := m2
    have loop : ∀ (d k : Nat), k + d = 7 * n → Ok 4 [.inr (some 338), .inl (o : Int), .inl (sm (MN I o) k), .inl (k : Int)] [] (I, mm_R0) := by
      intro d
      induction d with
      | zero =>
        intro k hd
        refine c4 _ _ _ ?_
        simp only [b_X12_allPieces_4, i_xorg, i_shl, i_shr, i_ior, i_and1, i_lcg1, i_lcg2, i_ld, i_la, i_st, i_sa, i_c, i_inc, i_add, i_sub, i_mul, i_div, i_rem, i_remT, i_xor, i_dup, i_dup2, i_if, i_if2, i_sw, i_gi, i_gr, i_pi, i_pz, i_ial, i_ias, i_len, i_aal, i_gs, i_tal, i_cv, i_cs, i_ir, i_zr, i_vr, i_min, i_max, i_cpy, List.getElem?_cons_zero, List.getElem?_cons_succ, List.set_cons_zero, List.set_cons_succ, List.length_cons, List.length_nil, List.drop_succ_cons, List.drop_zero, List.take_succ_cons, List.take_zero, List.reverse_cons, List.reverse_nil, List.nil_append, List.cons_append, Option.toList_some, Option.toList_none, true_and, and_true, true_or, or_true, Nat.reduceAdd, Nat.reduceLT, Nat.reduceLeDiff, Option.some.injEq, exists_eq_left', Int.toNat_natCast, Nat.reduceSub, List.append_nil, List.replicate_succ, List.replicate_zero, mm_in, w0, w1, w2, t0, hn]
        rw [show k = 7 * n by omega]
        repeat' first | refine And.intro ?_ ?_ | refine fun (_ : _ ≤ _ ∧ _ < _) => ?_
        all_goals try omega
        exact fun _ => hP
      | succ d ih =>
        intro k hd
        have s1 := sm_bd (f := MN I o) (c := 1000) k (fun k hk => hb k (by omega))
        have s2 := hb k (by omega)
        have := ih (k + 1) (by omega)
        rw [show sm (MN I o) (k + 1) = sm (MN I o) k + I 339 (o + k) from rfl, Int.natCast_add] at this
        unfold MN at s2
        refine c4 _ _ _ ?_
        simp only [b_X12_allPieces_4, i_xorg, i_shl, i_shr, i_ior, i_and1, i_lcg1, i_lcg2, i_ld, i_la, i_st, i_sa, i_c, i_inc, i_add, i_sub, i_mul, i_div, i_rem, i_remT, i_xor, i_dup, i_dup2, i_if, i_if2, i_sw, i_gi, i_gr, i_pi, i_pz, i_ial, i_ias, i_len, i_aal, i_gs, i_tal, i_cv, i_cs, i_ir, i_zr, i_vr, i_min, i_max, i_cpy, List.getElem?_cons_zero, List.getElem?_cons_succ, List.set_cons_zero, List.set_cons_succ, List.length_cons, List.length_nil, List.drop_succ_cons, List.drop_zero, List.take_succ_cons, List.take_zero, List.reverse_cons, List.reverse_nil, List.nil_append, List.cons_append, Option.toList_some, Option.toList_none, true_and, and_true, true_or, or_true, Nat.reduceAdd, Nat.reduceLT, Nat.reduceLeDiff, Option.some.injEq, exists_eq_left', Int.toNat_natCast, Nat.reduceSub, List.append_nil, List.replicate_succ, List.replicate_zero, mm_in, w0, w1, w2, t0, hn, ton]
        repeat' first | refine And.intro ?_ ?_ | refine fun (_ : _ ≤ _ ∧ _ < _) => ?_
        all_goals try omega
        intro q
        repeat' first | refine And.intro ?_ ?_ | refine fun (_ : _ ≤ _ ∧ _ < _) => ?_
        all_goals try omega
    refine c0 _ _ _ ?_
    simp only [b_X12_allPieces_0, i_xorg, i_shl, i_shr, i_ior, i_and1, i_lcg1, i_lcg2, i_ld, i_la, i_st, i_sa, i_c, i_inc, i_add, i_sub, i_mul, i_div, i_rem, i_remT, i_xor, i_dup, i_dup2, i_if, i_if2, i_sw, i_gi, i_gr, i_pi, i_pz, i_ial, i_ias, i_len, i_aal, i_gs, i_tal, i_cv, i_cs, i_ir, i_zr, i_vr, i_min, i_max, i_cpy, List.getElem?_cons_zero, List.getElem?_cons_succ, List.set_cons_zero, List.set_cons_succ, List.length_cons, List.length_nil, List.drop_succ_cons, List.drop_zero, List.take_succ_cons, List.take_zero, List.reverse_cons, List.reverse_nil, List.nil_append, List.cons_append, Option.toList_some, Option.toList_none, true_and, and_true, true_or, or_true, Nat.reduceAdd, Nat.reduceLT, Nat.reduceLeDiff, Option.some.injEq, exists_eq_left', Int.toNat_natCast, Nat.reduceSub, List.append_nil, List.replicate_succ, List.replicate_zero, mm_in,]
    exact loop (7 * n) 0 (by omega)
  · exact hT.elim
theorem sp_X12_allPieces : mm_Sp yX12_allPieces cX12_allPieces 4 (some .int) rm_X12_allPieces T_X12_allPieces := mm_meth (by decide) (by
  intro av σ Post h
  unfold T_X12_allPieces at h
  split at h
  · simp
  · exact h.elim) (fun p l e s m args below meth c G av σ Post hC hr _ hav hin hk hT => pv_X12_allPieces av σ Post hav hin hk hT _ (bk_X12_allPieces hC hr))
def T_X12_border : mm_T := fun av σ Post => match av with
  | [.inr (some a), .inl s] => σ.2 = mm_R0 ∧ a = 338 ∧ ∃ o n : Nat, s = o ∧ o ≤ 2888 ∧ σ.1 339 0 = n ∧ n ≤ 3 ∧ bd (MN σ.1 o) ∧ (∀ j, j < 12 → -1 ≤ MP σ.1 j) ∧ Post (some (.inl (bdy n (MP σ.1) (MN σ.1 o)))) σ
  | _ => False
def rm_X12_border : Room := { frames := 3, cells := 0, slots := 0, locals := 69 }
def b_X12_border_0 (Ok : Nat → mm_K) (Post : Option mm_V → mm_S → Prop) (kf : Nat) : mm_K := i_c 0 (i_st 2 (i_c 0 (i_st 3 (Ok 4))))
def b_X12_border_4 (Ok : Nat → mm_K) (Post : Option mm_V → mm_S → Prop) (kf : Nat) : mm_K := i_ld 3 (i_la 0 (i_cv 11 0 T_X12_walls (i_if2 (fun x y => y ≤ x) (i_ld 2 (i_ir Post kf)) (i_ld 2 (i_la 0 (i_ld 3 (i_cv 11 1 T_X12_isFree (i_if (fun x => x = 0) (i_c 0 (Ok 31)) (i_la 0 (i_ld 1 (i_ld 3 (i_cv 11 2 T_X12_arcsOfWall (Ok 31)))))))))))))
def b_X12_border_31 (Ok : Nat → mm_K) (Post : Option mm_V → mm_S → Prop) (kf : Nat) : mm_K := i_add (i_st 2 (i_inc 3 1 (Ok 4)))
def clo_X12_border (Ok : Nat → mm_K) (Post : Option mm_V → mm_S → Prop) (kf : Nat) : Prop := mm_imp (b_X12_border_0 Ok Post kf) (Ok 0) ∧ mm_imp (b_X12_border_4 Ok Post kf) (Ok 4) ∧ mm_imp (b_X12_border_31 Ok Post kf) (Ok 31)
set_option maxRecDepth 100000 in
set_option maxHeartbeats 4000000 in
theorem bk_X12_border {p : Program} {l : Launch} {e : Env} {s : State} {m : MethodId} {args : Array Value} {below : List Frame} {meth : Method} {c : Code} {G : mm_G} {σ0 : mm_S} {Post : Option mm_V → mm_S → Prop} (hC : mm_C p G s m args meth c cX12_border yX12_border.cls) (hr : meth.sig.returnType = some .int) : clo_X12_border (mm_O p l e rm_X12_border s m args below meth c G σ0.2.2 (MQ below (mm_Qc G σ0 rm_X12_border.cells rm_X12_border.slots Post) args s rm_X12_border.cells rm_X12_border.slots (mm_A G))) Post σ0.2.2 := ⟨(by unfold b_X12_border_0; exact (mm_ic hC dX12_border_0 ⟨by decide, by decide⟩ (mm_st_n hC dX12_border_1 rfl (mm_ic hC dX12_border_2 ⟨by decide, by decide⟩ (mm_st_n hC dX12_border_3 rfl (fun _ _ _ h => h)))))), (by unfold b_X12_border_4; exact (mm_ld_n hC dX12_border_4 rfl (mm_la_n hC dX12_border_5 rfl (mm_cv hC sp_X12_walls ⟨rfl, rfl⟩ cl_11 wd_837 wd_839 wd_21 wd_840 wd_77 ⟨by decide, by decide, by decide +kernel⟩ ⟨by decide, by decide⟩ dX12_border_6 (mm_ic_ge hC (t := 39) dX12_border_9 (by decide) (mm_ld_n hC dX12_border_39 rfl (mm_ir hC ⟨rfl, rfl⟩ hr dX12_border_40)) (mm_ld_n hC dX12_border_12 rfl (mm_la_n hC dX12_border_13 rfl (mm_ld_n hC dX12_border_14 rfl (mm_cv hC sp_X12_isFree ⟨rfl, rfl⟩ cl_11 wd_841 wd_843 wd_22 wd_844 wd_77 ⟨by decide, by decide, by decide +kernel⟩ ⟨by decide, by decide⟩ dX12_border_15 (mm_if_eq hC (t := 30) dX12_border_18 (by decide) (mm_ic hC dX12_border_30 ⟨by decide, by decide⟩ (fun _ _ _ h => h)) (mm_la_n hC dX12_border_21 rfl (mm_ld_n hC dX12_border_22 rfl (mm_ld_n hC dX12_border_23 rfl (mm_cv hC sp_X12_arcsOfWall ⟨rfl, rfl⟩ cl_11 wd_956 wd_958 wd_44 wd_959 wd_77 ⟨by decide, by decide, by decide +kernel⟩ ⟨by decide, by decide⟩ dX12_border_24 (mm_goto hC (t := 31) dX12_border_27 (by decide) (fun _ _ _ h => h)))))))))))))))), (by unfold b_X12_border_31; exact (mm_add hC dX12_border_31 (mm_st_n hC dX12_border_32 rfl (mm_inc hC dX12_border_33 (mm_goto hC (t := 4) dX12_border_36 (by decide) (fun _ _ _ h => h))))))⟩
set_option maxRecDepth 100000 in
set_option maxHeartbeats 8000000 in
theorem pv_X12_border : ∀ (av : List mm_V) (σ : mm_S) (Post : Option mm_V → mm_S → Prop), (∀ v ∈ av, mm_iv v) → (∀ a j, mm_in (σ.1 a j)) → σ.2.2 ≤ 348 → T_X12_border av σ Post → ∀ Ok : Nat → mm_K, clo_X12_border Ok Post σ.2.2 → Ok 0 (av ++ List.replicate (4 - av.length) (.inr none)) [] σ := by
  intro av σ Post hav hin hk hT Ok hcl
  obtain ⟨I, R0⟩ := σ
  unfold T_X12_border at hT
  split at hT
  · rename_i a s
    obtain ⟨h0, hT⟩ := hT
    have h0 : R0 = mm_R0 := h0
    subst h0
    dsimp only at hT hin
    obtain ⟨c0, c4, c31⟩ := hcl
    obtain ⟨rfl, o, n, rfl, ho, hn, hn3, hb, hj, hP⟩ := hT
    have w0 := m0
    obtain ⟨g, hg⟩ : ∃ g : Nat → Int, (fun f => if MP I f < 0 then aw (MN I o) (f / 4) (f % 4) else 0) = g := ⟨_, rfl⟩
    have hgb : ∀ v, v < 4 * n → 0 ≤ g v ∧ g v ≤ 8000 := by
      intro v hv
      rw [← hg]
      have := aw_bd (b := v / 4) (f := v % 4) hb (by omega) (by omega)
      simp only
      split <;> omega
    have hP2 : Post (some (.inl (sm g (4 * n)))) (I, mm_R0) := by
      rw [← hg]
      exact hP
    have loop : ∀ (d v : Nat), v + d = 4 * n → Ok 4 [.inr (some 338), .inl (o : Int), .inl (sm g v), .inl (v : Int)] [] (I, mm_R0) := by
      intro d
      induction d with
      | zero =>
        intro v hd
        refine c4 _ _ _ ?_
        simp only [b_X12_border_4, i_xorg, i_shl, i_shr, i_ior, i_and1, i_lcg1, i_lcg2, i_ld, i_la, i_st, i_sa, i_c, i_inc, i_add, i_sub, i_mul, i_div, i_rem, i_remT, i_xor, i_dup, i_dup2, i_if, i_if2, i_sw, i_gi, i_gr, i_pi, i_pz, i_ial, i_ias, i_len, i_aal, i_gs, i_tal, i_cv, i_cs, i_ir, i_zr, i_vr, i_min, i_max, i_cpy, List.getElem?_cons_zero, List.getElem?_cons_succ, List.set_cons_zero, List.set_cons_succ, List.length_cons, List.length_nil, List.drop_succ_cons, List.drop_zero, List.take_succ_cons, List.take_zero, List.reverse_cons, List.reverse_nil, List.nil_append, List.cons_append, Option.toList_some, Option.toList_none, true_and, and_true, true_or, or_true, Nat.reduceAdd, Nat.reduceLT, Nat.reduceLeDiff, Option.some.injEq, exists_eq_left', Int.toNat_natCast, Nat.reduceSub, List.append_nil, List.replicate_succ, List.replicate_zero, mm_in, w0, T_X12_walls]
        rw [show v = 4 * n by omega, hn]
        exact ⟨by omega, by omega, fun _ => hP2, fun q => by omega⟩
      | succ d ih =>
        intro v hd
        have s1 := sm_bd (f := g) (c := 8000) v (fun k hk => hgb k (by omega))
        have s2 := hgb v (by omega)
        have f31 : ∀ z : Int, z = g v → Ok 31 [.inr (some 338), .inl (o : Int), .inl (sm g v), .inl (v : Int)] [.inl z, .inl (sm g v)] (I, mm_R0) := by
          intro z hz
          have hs : sm g (v + 1) = sm g v + z := by rw [hz]; rfl
          have := ih (v + 1) (by omega)
          rw [hs, Int.natCast_add] at this
          refine c31 _ _ _ ?_
          simp only [b_X12_border_31, i_xorg, i_shl, i_shr, i_ior, i_and1, i_lcg1, i_lcg2, i_ld, i_la, i_st, i_sa, i_c, i_inc, i_add, i_sub, i_mul, i_div, i_rem, i_remT, i_xor, i_dup, i_dup2, i_if, i_if2, i_sw, i_gi, i_gr, i_pi, i_pz, i_ial, i_ias, i_len, i_aal, i_gs, i_tal, i_cv, i_cs, i_ir, i_zr, i_vr, i_min, i_max, i_cpy, List.getElem?_cons_zero, List.getElem?_cons_succ, List.set_cons_zero, List.set_cons_succ, List.length_cons, List.length_nil, List.drop_succ_cons, List.drop_zero, List.take_succ_cons, List.take_zero, List.reverse_cons, List.reverse_nil, List.nil_append, List.cons_append, Option.toList_some, Option.toList_none, true_and, and_true, true_or, or_true, Nat.reduceAdd, Nat.reduceLT, Nat.reduceLeDiff, Option.some.injEq, exists_eq_left', Int.toNat_natCast, Nat.reduceSub, List.append_nil, List.replicate_succ, List.replicate_zero, mm_in,]
          repeat' first | refine And.intro ?_ ?_ | refine fun (_ : _ ≤ _ ∧ _ < _) => ?_
          all_goals try omega
        refine c4 _ _ _ ?_
        simp only [b_X12_border_4, i_xorg, i_shl, i_shr, i_ior, i_and1, i_lcg1, i_lcg2, i_ld, i_la, i_st, i_sa, i_c, i_inc, i_add, i_sub, i_mul, i_div, i_rem, i_remT, i_xor, i_dup, i_dup2, i_if, i_if2, i_sw, i_gi, i_gr, i_pi, i_pz, i_ial, i_ias, i_len, i_aal, i_gs, i_tal, i_cv, i_cs, i_ir, i_zr, i_vr, i_min, i_max, i_cpy, List.getElem?_cons_zero, List.getElem?_cons_succ, List.set_cons_zero, List.set_cons_succ, List.length_cons, List.length_nil, List.drop_succ_cons, List.drop_zero, List.take_succ_cons, List.take_zero, List.reverse_cons, List.reverse_nil, List.nil_append, List.cons_append, Option.toList_some, Option.toList_none, true_and, and_true, true_or, or_true, Nat.reduceAdd, Nat.reduceLT, Nat.reduceLeDiff, Option.some.injEq, exists_eq_left', Int.toNat_natCast, Nat.reduceSub, List.append_nil, List.replicate_succ, List.replicate_zero, mm_in, w0, T_X12_walls, T_X12_isFree, T_X12_arcsOfWall]
        rw [hn]
        have hjv := hj v (by omega)
        unfold MP at hjv
        refine ⟨by omega, by omega, fun q => by omega, fun q => ⟨v, rfl, by omega, fun z hz => ⟨fun y => f31 0 ?_, fun y => ⟨o, v, rfl, rfl, ho, by omega, hb, f31 _ ?_⟩⟩⟩⟩
        · have := bz_f hz y
          rw [← hg]
          show _ = if MP I v < 0 then _ else _
          unfold MP
          rw [if_neg (by omega)]
        · have := bz_t hz y
          rw [← hg]
          show _ = if MP I v < 0 then _ else _
          unfold MP
          rw [if_pos (by omega)]
    refine c0 _ _ _ ?_
    simp only [b_X12_border_0, i_xorg, i_shl, i_shr, i_ior, i_and1, i_lcg1, i_lcg2, i_ld, i_la, i_st, i_sa, i_c, i_inc, i_add, i_sub, i_mul, i_div, i_rem, i_remT, i_xor, i_dup, i_dup2, i_if, i_if2, i_sw, i_gi, i_gr, i_pi, i_pz, i_ial, i_ias, i_len, i_aal, i_gs, i_tal, i_cv, i_cs, i_ir, i_zr, i_vr, i_min, i_max, i_cpy, List.getElem?_cons_zero, List.getElem?_cons_succ, List.set_cons_zero, List.set_cons_succ, List.length_cons, List.length_nil, List.drop_succ_cons, List.drop_zero, List.take_succ_cons, List.take_zero, List.reverse_cons, List.reverse_nil, List.nil_append, List.cons_append, Option.toList_some, Option.toList_none, true_and, and_true, true_or, or_true, Nat.reduceAdd, Nat.reduceLT, Nat.reduceLeDiff, Option.some.injEq, exists_eq_left', Int.toNat_natCast, Nat.reduceSub, List.append_nil, List.replicate_succ, List.replicate_zero, mm_in,]
    exact loop (4 * n) 0 (by omega)
  · exact hT.elim
theorem sp_X12_border : mm_Sp yX12_border cX12_border 4 (some .int) rm_X12_border T_X12_border := mm_meth (by decide) (by
  intro av σ Post h
  unfold T_X12_border at h
  split at h
  · simp
  · exact h.elim) (fun p l e s m args below meth c G av σ Post hC hr _ hav hin hk hT => pv_X12_border av σ Post hav hin hk hT _ (bk_X12_border hC hr))
