/-! the other program: the queries
-/
def T_X12_wall : mm_T := fun av σ Post => match av with
  | [.inr (some a), .inl b', .inl f', .inl q'] => σ.2 = mm_R0 ∧ a = 338 ∧ ∃ n' : Nat, gM σ.1 n' ∧ ∀ z' : Int, wallR (MP σ.1) (MY σ.1) n' b' f' q' z' → Post (some (.inl z')) σ
  | _ => False
def rm_X12_wall : Room := { frames := 2, cells := 0, slots := 0, locals := 43 }
def b_X12_wall_0 (Ok : Nat → mm_K) (Post : Option mm_V → mm_S → Prop) (kf : Nat) : mm_K := i_la 0 (i_ld 1 (i_cv 11 1 T_X12_isBody (i_if (fun x => x = 0) (Ok 15) (i_ld 2 (i_cs 1 T_X12_isSide (i_if (fun x => ¬ x = 0) (i_ld 3 (i_c 0 (i_c 2 (i_cs 3 T_X12_in (i_if (fun x => ¬ x = 0) (i_c 4 (i_ld 1 (i_mul (i_ld 2 (i_add (i_st 4 (i_la 0 (i_ld 4 (i_cv 11 1 T_X12_isFree (i_if (fun x => x = 0) (i_ld 3 (i_if (fun x => ¬ x = 0) (i_ld 3 (i_c 1 (i_if2 (fun x y => ¬ x = y) (i_la 0 (i_gr 11 0 (i_c 14 (i_ld 4 (i_add (i_ial (Ok 95))))))) (i_la 0 (i_gr 11 0 (i_c 2 (i_ld 4 (i_add (i_ial (i_c 4 (i_rem (Ok 95)))))))))))) (i_la 0 (i_gr 11 0 (i_c 2 (i_ld 4 (i_add (i_ial (i_c 4 (i_div (Ok 95))))))))))) (i_c (-1) (i_ir Post kf)))))))))))) (i_c (-1000000002) (i_ir Post kf))))))) (Ok 15)))))))
def b_X12_wall_15 (Ok : Nat → mm_K) (Post : Option mm_V → mm_S → Prop) (kf : Nat) : mm_K := i_c (-1000000001) (i_ir Post kf)
def b_X12_wall_95 (Ok : Nat → mm_K) (Post : Option mm_V → mm_S → Prop) (kf : Nat) : mm_K := i_ir Post kf
def clo_X12_wall (Ok : Nat → mm_K) (Post : Option mm_V → mm_S → Prop) (kf : Nat) : Prop := mm_imp (b_X12_wall_0 Ok Post kf) (Ok 0) ∧ mm_imp (b_X12_wall_15 Ok Post kf) (Ok 15) ∧ mm_imp (b_X12_wall_95 Ok Post kf) (Ok 95)
set_option maxRecDepth 100000 in
set_option maxHeartbeats 4000000 in
theorem bk_X12_wall {p : Program} {l : Launch} {e : Env} {s : State} {m : MethodId} {args : Array Value} {below : List Frame} {meth : Method} {c : Code} {G : mm_G} {σ0 : mm_S} {Post : Option mm_V → mm_S → Prop} (hC : mm_C p G s m args meth c cX12_wall yX12_wall.cls) (hr : meth.sig.returnType = some .int) : clo_X12_wall (mm_O p l e rm_X12_wall s m args below meth c G σ0.2.2 (MQ below (mm_Qc G σ0 rm_X12_wall.cells rm_X12_wall.slots Post) args s rm_X12_wall.cells rm_X12_wall.slots (mm_A G))) Post σ0.2.2 := ⟨(by unfold b_X12_wall_0; exact (mm_la_n hC dX12_wall_0 rfl (mm_ld_n hC dX12_wall_1 rfl (mm_cv hC sp_X12_isBody ⟨rfl, rfl⟩ cl_11 wd_999 wd_1001 wd_52 wd_1002 wd_77 ⟨by decide, by decide, by decide +kernel⟩ ⟨by decide, by decide⟩ dX12_wall_2 (mm_if_eq hC (t := 15) dX12_wall_5 (by decide) (fun _ _ _ h => h) (mm_ld_n hC dX12_wall_8 rfl (mm_cs hC sp_X12_isSide ⟨rfl, rfl⟩ wd_1003 wd_1004 wd_1005 wd_77 ⟨by decide, by decide, by decide +kernel⟩ ⟨by decide, by decide⟩ dX12_wall_9 (mm_if_ne hC (t := 18) dX12_wall_12 (by decide) (mm_ld_n hC dX12_wall_18 rfl (mm_ic hC dX12_wall_19 ⟨by decide, by decide⟩ (mm_ic hC dX12_wall_20 ⟨by decide, by decide⟩ (mm_cs hC sp_X12_in ⟨rfl, rfl⟩ wd_979 wd_980 wd_981 wd_77 ⟨by decide, by decide, by decide +kernel⟩ ⟨by decide, by decide⟩ dX12_wall_21 (mm_if_ne hC (t := 30) dX12_wall_24 (by decide) (mm_ic hC dX12_wall_30 ⟨by decide, by decide⟩ (mm_ld_n hC dX12_wall_31 rfl (mm_mul hC dX12_wall_32 (mm_ld_n hC dX12_wall_33 rfl (mm_add hC dX12_wall_34 (mm_st hC dX12_wall_35 (mm_la_n hC dX12_wall_37 rfl (mm_ld hC dX12_wall_38 (mm_cv hC sp_X12_isFree ⟨rfl, rfl⟩ cl_11 wd_841 wd_843 wd_22 wd_844 wd_77 ⟨by decide, by decide, by decide +kernel⟩ ⟨by decide, by decide⟩ dX12_wall_40 (mm_if_eq hC (t := 48) dX12_wall_43 (by decide) (mm_ld_n hC dX12_wall_48 rfl (mm_if_ne hC (t := 66) dX12_wall_49 (by decide) (mm_ld_n hC dX12_wall_66 rfl (mm_ic hC dX12_wall_67 ⟨by decide, by decide⟩ (mm_ic_ne hC (t := 85) dX12_wall_68 (by decide) (mm_la_n hC dX12_wall_85 rfl (mm_gr hC cl_11 (by decide) rfl wd_789 dX12_wall_86 (mm_bp hC dX12_wall_89 ⟨⟨by decide, by decide⟩, by decide⟩ (mm_ld hC dX12_wall_91 (mm_add hC dX12_wall_93 (mm_ial hC dX12_wall_94 (fun _ _ _ h => h))))))) (mm_la_n hC dX12_wall_71 rfl (mm_gr hC cl_11 (by decide) rfl wd_789 dX12_wall_72 (mm_ic hC dX12_wall_75 ⟨by decide, by decide⟩ (mm_ld hC dX12_wall_76 (mm_add hC dX12_wall_78 (mm_ial hC dX12_wall_79 (mm_ic hC dX12_wall_80 ⟨by decide, by decide⟩ (mm_rem hC dX12_wall_81 (mm_goto hC (t := 95) dX12_wall_82 (by decide) (fun _ _ _ h => h))))))))))))) (mm_la_n hC dX12_wall_52 rfl (mm_gr hC cl_11 (by decide) rfl wd_789 dX12_wall_53 (mm_ic hC dX12_wall_56 ⟨by decide, by decide⟩ (mm_ld hC dX12_wall_57 (mm_add hC dX12_wall_59 (mm_ial hC dX12_wall_60 (mm_ic hC dX12_wall_61 ⟨by decide, by decide⟩ (mm_div hC dX12_wall_62 (mm_goto hC (t := 95) dX12_wall_63 (by decide) (fun _ _ _ h => h)))))))))))) (mm_ic hC dX12_wall_46 ⟨by decide, by decide⟩ (mm_ir hC ⟨rfl, rfl⟩ hr dX12_wall_47)))))))))))) (mm_ldc hC dX12_wall_27 ⟨by decide, by decide⟩ wd_994 (mm_ir hC ⟨rfl, rfl⟩ hr dX12_wall_29))))))) (fun _ _ _ h => h))))))))), (by unfold b_X12_wall_15; exact (mm_ldc hC dX12_wall_15 ⟨by decide, by decide⟩ wd_1006 (mm_ir hC ⟨rfl, rfl⟩ hr dX12_wall_17))), (by unfold b_X12_wall_95; exact (mm_ir hC ⟨rfl, rfl⟩ hr dX12_wall_95))⟩
set_option maxRecDepth 100000 in
set_option maxHeartbeats 8000000 in
theorem pv_X12_wall : ∀ (av : List mm_V) (σ : mm_S) (Post : Option mm_V → mm_S → Prop), (∀ v ∈ av, mm_iv v) → (∀ a j, mm_in (σ.1 a j)) → σ.2.2 ≤ 348 → T_X12_wall av σ Post → ∀ Ok : Nat → mm_K, clo_X12_wall Ok Post σ.2.2 → Ok 0 (av ++ List.replicate (5 - av.length) (.inr none)) [] σ := by
  intro av σ Post hav hin hk hT Ok hcl
  obtain ⟨I, R0⟩ := σ
  unfold T_X12_wall at hT
  split at hT
  · rename_i a b' f' q'
    obtain ⟨h0, hT⟩ := hT
    have h0 : R0 = mm_R0 := h0
    subst h0
    dsimp only at hT hin
    obtain ⟨c0, c15, c95⟩ := hcl
    obtain ⟨rfl, n', hgm, hP⟩ := hT
    have w0' := m0
    have w1' := m1
    have w2' := m2
    obtain ⟨hn, hn1, hn3, hg⟩ := id hgm
    unfold wallR at hP
    have no' : ¬ ((0 ≤ b' ∧ b' < (n' : Int)) ∧ 0 ≤ f' ∧ f' < 4) → Ok 15 [.inr (some 338), .inl b', .inl f', .inl q', .inr none] [] (I, mm_R0) := by
      intro h'
      refine c15 _ _ _ ?_
      simp only [b_X12_wall_15, i_xorg, i_shl, i_shr, i_ior, i_and1, i_lcg1, i_lcg2, i_ld, i_la, i_st, i_sa, i_c, i_inc, i_add, i_sub, i_mul, i_div, i_rem, i_remT, i_xor, i_dup, i_dup2, i_if, i_if2, i_sw, i_gi, i_gr, i_pi, i_pz, i_ial, i_ias, i_len, i_aal, i_gs, i_tal, i_cv, i_cs, i_ir, i_zr, i_vr, i_min, i_max, i_cpy, List.getElem?_cons_zero, List.getElem?_cons_succ, List.set_cons_zero, List.set_cons_succ, List.length_cons, List.length_nil, List.drop_succ_cons, List.drop_zero, List.take_succ_cons, List.take_zero, List.reverse_cons, List.reverse_nil, List.nil_append, List.cons_append, Option.toList_some, Option.toList_none, true_and, and_true, true_or, or_true, Nat.reduceAdd, Nat.reduceLT, Nat.reduceLeDiff, Option.some.injEq, exists_eq_left', Int.toNat_natCast, Nat.reduceSub, List.append_nil, List.replicate_succ, List.replicate_zero]
      exact hP _ (by rw [if_pos h'])
    refine c0 _ _ _ ?_
    simp only [b_X12_wall_0, i_xorg, i_shl, i_shr, i_ior, i_and1, i_lcg1, i_lcg2, i_ld, i_la, i_st, i_sa, i_c, i_inc, i_add, i_sub, i_mul, i_div, i_rem, i_remT, i_xor, i_dup, i_dup2, i_if, i_if2, i_sw, i_gi, i_gr, i_pi, i_pz, i_ial, i_ias, i_len, i_aal, i_gs, i_tal, i_cv, i_cs, i_ir, i_zr, i_vr, i_min, i_max, i_cpy, List.getElem?_cons_zero, List.getElem?_cons_succ, List.set_cons_zero, List.set_cons_succ, List.length_cons, List.length_nil, List.drop_succ_cons, List.drop_zero, List.take_succ_cons, List.take_zero, List.reverse_cons, List.reverse_nil, List.nil_append, List.cons_append, Option.toList_some, Option.toList_none, true_and, and_true, true_or, or_true, Nat.reduceAdd, Nat.reduceLT, Nat.reduceLeDiff, Option.some.injEq, exists_eq_left', Int.toNat_natCast, Nat.reduceSub, List.append_nil, List.replicate_succ, List.replicate_zero, mm_in, w0', w1', w2', hn, T_X12_isBody, T_X12_isSide, T_X12_in, T_X12_isFree]
    refine ⟨by omega, fun z1 hz1 => ⟨fun y' => no' (fun w' => bz_f hz1 y' w'.1), fun y1 => ?_⟩⟩
    have h1 := bz_t hz1 y1
    refine fun z2 hz2 => ⟨fun y2 => ?_, fun y' => no' (fun w' => bz_f hz2 (by omega) w'.2)⟩
    have h2 := bz_t hz2 y2
    refine fun z3 hz3 => ⟨fun y3 => ?_, fun y' => hP _ (by rw [if_neg (fun w' => w' ⟨h1, h2⟩), if_pos (by have := bz_f hz3 (by omega); omega)])⟩
    have h3 := bz_t hz3 y3
    obtain ⟨j', hj⟩ := Int.eq_ofNat_of_zero_le (show 0 ≤ 4 * b' + f' by omega)
    have hP2 : ∀ z' : Int, (if MP I j' < 0 then z' = -1 else if q' = 0 then z' = MP I j' / 4 else if q' = 1 then z' = MP I j' % 4 else z' = MY I j') → Post (some (.inl z')) (I, mm_R0) := by
      intro z' h'
      refine hP z' ?_
      rw [if_neg (fun w' => w' ⟨h1, h2⟩), if_neg (by omega), hj, Int.toNat_natCast]
      exact h'
    rw [hj]
    repeat' first | refine And.intro ?_ ?_ | refine fun (_ : _ ≤ _ ∧ _ < _) => ?_
    all_goals try omega
    refine ⟨j', rfl, by omega, fun z4 hz4 => ⟨fun y4 => ?_, fun y' => hP2 _ (by rw [if_pos (by have := bz_t hz4 y'; unfold MP; omega)])⟩⟩
    have h4 := bz_f hz4 y4
    obtain ⟨q1', q2', q3', q4', q5', q6, q7', q8'⟩ : j' < 4 * n' ∧ 0 ≤ MP I j' ∧ MP I j' < 4 * n' ∧ MP I j' ≠ j' ∧ MP I (MP I j').toNat = j' ∧ 0 ≤ MY I j' ∧ MY I j' < 6 ∧ MY I (MP I j').toNat = mm_tb 1 (MY I j').toNat := by
      rcases hg j' (by omega) with e' | e'
      · exact absurd e' h4
      · exact e'
    have f95 : ∀ z' : Int, (if q' = 0 then z' = MP I j' / 4 else if q' = 1 then z' = MP I j' % 4 else z' = MY I j') → Ok 95 [.inr (some 338), .inl b', .inl f', .inl q', .inl (j' : Int)] [.inl z'] (I, mm_R0) := by
      intro z' hz
      refine c95 _ _ _ ?_
      simp only [b_X12_wall_95, i_xorg, i_shl, i_shr, i_ior, i_and1, i_lcg1, i_lcg2, i_ld, i_la, i_st, i_sa, i_c, i_inc, i_add, i_sub, i_mul, i_div, i_rem, i_remT, i_xor, i_dup, i_dup2, i_if, i_if2, i_sw, i_gi, i_gr, i_pi, i_pz, i_ial, i_ias, i_len, i_aal, i_gs, i_tal, i_cv, i_cs, i_ir, i_zr, i_vr, i_min, i_max, i_cpy, List.getElem?_cons_zero, List.getElem?_cons_succ, List.set_cons_zero, List.set_cons_succ, List.length_cons, List.length_nil, List.drop_succ_cons, List.drop_zero, List.take_succ_cons, List.take_zero, List.reverse_cons, List.reverse_nil, List.nil_append, List.cons_append, Option.toList_some, Option.toList_none, true_and, and_true, true_or, or_true, Nat.reduceAdd, Nat.reduceLT, Nat.reduceLeDiff, Option.some.injEq, exists_eq_left', Int.toNat_natCast, Nat.reduceSub, List.append_nil, List.replicate_succ, List.replicate_zero]
      refine hP2 z' ?_
      rw [if_neg (by omega)]
      exact hz
    have q2' : 0 ≤ I 339 (2 + j') := q2'
    simp only [t2, t14]
    refine ⟨fun k0' => ⟨fun k1' => ?_, fun k1' => ?_⟩, fun k0' => ?_⟩
    · repeat' first | refine And.intro ?_ ?_ | refine fun (_ : _ ≤ _ ∧ _ < _) => ?_
      all_goals try omega
      exact f95 _ (by rw [if_neg k0', if_neg k1']; rfl)
    · repeat' first | refine And.intro ?_ ?_ | refine fun (_ : _ ≤ _ ∧ _ < _) => ?_
      all_goals try omega
      exact f95 _ (by rw [if_neg k0', if_pos (by omega)]; rfl)
    · repeat' first | refine And.intro ?_ ?_ | refine fun (_ : _ ≤ _ ∧ _ < _) => ?_
      all_goals try omega
      exact f95 _ (by rw [if_pos (by omega)]; rfl)
  · exact hT.elim
theorem sp_X12_wall : mm_Sp yX12_wall cX12_wall 5 (some .int) rm_X12_wall T_X12_wall := mm_meth (by decide) (by
  intro av σ Post h
  unfold T_X12_wall at h
  split at h
  · simp
  · exact h.elim) (fun p l e s m args below meth c G av σ Post hC hr _ hav hin hk hT => pv_X12_wall av σ Post hav hin hk hT _ (bk_X12_wall hC hr))
def cornerM (n' : Nat) (L' : LT) (pa wy : Nat → Int) (b' v' q' z' : Int) : Prop :=
  if ¬ ((0 ≤ b' ∧ b' < n') ∧ 0 ≤ v' ∧ v' < 4) then z' = -1000000001 else if q' < 0 ∨ 4 < q' then z' = -1000000002
  else if q' = 0 then z' = nr L'.1 (L'.1 (4 * b' + v').toNat) else z' = acr pa wy (4 * b' + q' - 1).toNat v'.toNat
def T_X12_corner : mm_T := fun av σ Post => match av with
  | [.inr (some a), .inl b', .inl f', .inl q'] => σ.2 = mm_R0 ∧ a = 338 ∧ ∃ n' : Nat, gM σ.1 n' ∧ ∀ (I' : Nat → Nat → Int) (z' : Int), scM I' σ.1 → cornerM n' (room n' (MP σ.1) (MY σ.1)) (MP σ.1) (MY σ.1) b' f' q' z' → Post (some (.inl z')) (I', mm_R0)
  | _ => False
def rm_X12_corner : Room := { frames := 4, cells := 0, slots := 0, locals := 99 }
def b_X12_corner_0 (Ok : Nat → mm_K) (Post : Option mm_V → mm_S → Prop) (kf : Nat) : mm_K := i_la 0 (i_ld 1 (i_cv 11 1 T_X12_isBody (i_if (fun x => x = 0) (Ok 15) (i_ld 2 (i_cs 1 T_X12_isSide (i_if (fun x => ¬ x = 0) (i_ld 3 (i_c 0 (i_c 4 (i_cs 3 T_X12_in (i_if (fun x => ¬ x = 0) (i_ld 3 (i_if (fun x => ¬ x = 0) (i_c 4 (i_ld 1 (i_mul (i_ld 3 (i_add (i_c 1 (i_sub (i_st 4 (i_ld 2 (i_ld 3 (i_c 1 (i_sub (i_if2 (fun x y => x = y) (Ok 81) (i_la 0 (i_ld 4 (i_cv 11 1 T_X12_isFree (i_if (fun x => x = 0) (i_la 0 (i_ld 4 (i_ld 2 (i_cv 11 2 T_X12_goesTo (Ok 92))))) (Ok 81)))))))))))))))))) (i_la 0 (i_cv 11 0 T_X12_layRoom (i_la 0 (i_gr 11 8 (i_la 0 (i_gr 11 8 (i_c 4 (i_ld 1 (i_mul (i_ld 2 (i_add (i_ial (i_cs 2 T_X12_firsts (i_ir Post kf)))))))))))))))) (i_c (-1000000002) (i_ir Post kf))))))) (Ok 15)))))))
def b_X12_corner_15 (Ok : Nat → mm_K) (Post : Option mm_V → mm_S → Prop) (kf : Nat) : mm_K := i_c (-1000000001) (i_ir Post kf)
def b_X12_corner_81 (Ok : Nat → mm_K) (Post : Option mm_V → mm_S → Prop) (kf : Nat) : mm_K := i_c (-1) (Ok 92)
def b_X12_corner_92 (Ok : Nat → mm_K) (Post : Option mm_V → mm_S → Prop) (kf : Nat) : mm_K := i_ir Post kf
def clo_X12_corner (Ok : Nat → mm_K) (Post : Option mm_V → mm_S → Prop) (kf : Nat) : Prop := mm_imp (b_X12_corner_0 Ok Post kf) (Ok 0) ∧ mm_imp (b_X12_corner_15 Ok Post kf) (Ok 15) ∧ mm_imp (b_X12_corner_81 Ok Post kf) (Ok 81) ∧ mm_imp (b_X12_corner_92 Ok Post kf) (Ok 92)
set_option maxRecDepth 100000 in
set_option maxHeartbeats 4000000 in
theorem bk_X12_corner {p : Program} {l : Launch} {e : Env} {s : State} {m : MethodId} {args : Array Value} {below : List Frame} {meth : Method} {c : Code} {G : mm_G} {σ0 : mm_S} {Post : Option mm_V → mm_S → Prop} (hC : mm_C p G s m args meth c cX12_corner yX12_corner.cls) (hr : meth.sig.returnType = some .int) : clo_X12_corner (mm_O p l e rm_X12_corner s m args below meth c G σ0.2.2 (MQ below (mm_Qc G σ0 rm_X12_corner.cells rm_X12_corner.slots Post) args s rm_X12_corner.cells rm_X12_corner.slots (mm_A G))) Post σ0.2.2 := ⟨(by unfold b_X12_corner_0; exact (mm_la_n hC dX12_corner_0 rfl (mm_ld_n hC dX12_corner_1 rfl (mm_cv hC sp_X12_isBody ⟨rfl, rfl⟩ cl_11 wd_999 wd_1001 wd_52 wd_1002 wd_77 ⟨by decide, by decide, by decide +kernel⟩ ⟨by decide, by decide⟩ dX12_corner_2 (mm_if_eq hC (t := 15) dX12_corner_5 (by decide) (fun _ _ _ h => h) (mm_ld_n hC dX12_corner_8 rfl (mm_cs hC sp_X12_isSide ⟨rfl, rfl⟩ wd_1003 wd_1004 wd_1005 wd_77 ⟨by decide, by decide, by decide +kernel⟩ ⟨by decide, by decide⟩ dX12_corner_9 (mm_if_ne hC (t := 18) dX12_corner_12 (by decide) (mm_ld_n hC dX12_corner_18 rfl (mm_ic hC dX12_corner_19 ⟨by decide, by decide⟩ (mm_ic hC dX12_corner_20 ⟨by decide, by decide⟩ (mm_cs hC sp_X12_in ⟨rfl, rfl⟩ wd_979 wd_980 wd_981 wd_77 ⟨by decide, by decide, by decide +kernel⟩ ⟨by decide, by decide⟩ dX12_corner_21 (mm_if_ne hC (t := 30) dX12_corner_24 (by decide) (mm_ld_n hC dX12_corner_30 rfl (mm_if_ne hC (t := 56) dX12_corner_31 (by decide) (mm_ic hC dX12_corner_56 ⟨by decide, by decide⟩ (mm_ld_n hC dX12_corner_57 rfl (mm_mul hC dX12_corner_58 (mm_ld_n hC dX12_corner_59 rfl (mm_add hC dX12_corner_60 (mm_ic hC dX12_corner_61 ⟨by decide, by decide⟩ (mm_sub hC dX12_corner_62 (mm_st hC dX12_corner_63 (mm_ld_n hC dX12_corner_65 rfl (mm_ld_n hC dX12_corner_66 rfl (mm_ic hC dX12_corner_67 ⟨by decide, by decide⟩ (mm_sub hC dX12_corner_68 (mm_ic_eq hC (t := 81) dX12_corner_69 (by decide) (fun _ _ _ h => h) (mm_la_n hC dX12_corner_72 rfl (mm_ld hC dX12_corner_73 (mm_cv hC sp_X12_isFree ⟨rfl, rfl⟩ cl_11 wd_841 wd_843 wd_22 wd_844 wd_77 ⟨by decide, by decide, by decide +kernel⟩ ⟨by decide, by decide⟩ dX12_corner_75 (mm_if_eq hC (t := 85) dX12_corner_78 (by decide) (mm_la_n hC dX12_corner_85 rfl (mm_ld hC dX12_corner_86 (mm_ld_n hC dX12_corner_88 rfl (mm_cv hC sp_X12_goesTo ⟨rfl, rfl⟩ cl_11 wd_857 wd_859 wd_26 wd_860 wd_77 ⟨by decide, by decide, by decide +kernel⟩ ⟨by decide, by decide⟩ dX12_corner_89 (fun _ _ _ h => h))))) (fun _ _ _ h => h)))))))))))))))))) (mm_la_n hC dX12_corner_34 rfl (mm_cv hC sp_X12_layRoom ⟨rfl, rfl⟩ cl_11 wd_849 wd_851 wd_24 wd_852 wd_77 ⟨by decide, by decide, by decide +kernel⟩ ⟨by decide, by decide⟩ dX12_corner_35 (mm_la_n hC dX12_corner_38 rfl (mm_gr hC cl_11 (by decide) rfl wd_797 dX12_corner_39 (mm_la_n hC dX12_corner_42 rfl (mm_gr hC cl_11 (by decide) rfl wd_797 dX12_corner_43 (mm_ic hC dX12_corner_46 ⟨by decide, by decide⟩ (mm_ld_n hC dX12_corner_47 rfl (mm_mul hC dX12_corner_48 (mm_ld_n hC dX12_corner_49 rfl (mm_add hC dX12_corner_50 (mm_ial hC dX12_corner_51 (mm_cs hC sp_X12_firsts ⟨rfl, rfl⟩ wd_870 wd_871 wd_872 wd_77 ⟨by decide, by decide, by decide +kernel⟩ ⟨by decide, by decide⟩ dX12_corner_52 (mm_ir hC ⟨rfl, rfl⟩ hr dX12_corner_55)))))))))))))))) (mm_ldc hC dX12_corner_27 ⟨by decide, by decide⟩ wd_994 (mm_ir hC ⟨rfl, rfl⟩ hr dX12_corner_29))))))) (fun _ _ _ h => h))))))))), (by unfold b_X12_corner_15; exact (mm_ldc hC dX12_corner_15 ⟨by decide, by decide⟩ wd_1006 (mm_ir hC ⟨rfl, rfl⟩ hr dX12_corner_17))), (by unfold b_X12_corner_81; exact (mm_ic hC dX12_corner_81 ⟨by decide, by decide⟩ (mm_goto hC (t := 92) dX12_corner_82 (by decide) (fun _ _ _ h => h)))), (by unfold b_X12_corner_92; exact (mm_ir hC ⟨rfl, rfl⟩ hr dX12_corner_92))⟩
set_option maxRecDepth 100000 in
set_option maxHeartbeats 8000000 in
theorem pv_X12_corner : ∀ (av : List mm_V) (σ : mm_S) (Post : Option mm_V → mm_S → Prop), (∀ v ∈ av, mm_iv v) → (∀ a j, mm_in (σ.1 a j)) → σ.2.2 ≤ 348 → T_X12_corner av σ Post → ∀ Ok : Nat → mm_K, clo_X12_corner Ok Post σ.2.2 → Ok 0 (av ++ List.replicate (5 - av.length) (.inr none)) [] σ := by
  intro av σ Post hav hin hk hT Ok hcl
  obtain ⟨I, R0⟩ := σ
  unfold T_X12_corner at hT
  split at hT
  · rename_i a b' f' q'
    obtain ⟨h0, hT⟩ := hT
    have h0 : R0 = mm_R0 := h0
    subst h0
    dsimp only at hT hin
    obtain ⟨c0, c15, c81, c92⟩ := hcl
    obtain ⟨rfl, n', hgm, hP⟩ := hT
    have w0' := m0
    have w1' := m1
    have w2' := m2
    have r4 := Rs_338.2.2.2.2.1
    have s5 := sh_338.2.2.2.2.2.1
    obtain ⟨hn, hn1, hn3, hg⟩ := id hgm
    unfold cornerM at hP
    have no' : ¬ ((0 ≤ b' ∧ b' < (n' : Int)) ∧ 0 ≤ f' ∧ f' < 4) → Ok 15 [.inr (some 338), .inl b', .inl f', .inl q', .inr none] [] (I, mm_R0) := by
      intro h'
      refine c15 _ _ _ ?_
      simp only [b_X12_corner_15, i_xorg, i_shl, i_shr, i_ior, i_and1, i_lcg1, i_lcg2, i_ld, i_la, i_st, i_sa, i_c, i_inc, i_add, i_sub, i_mul, i_div, i_rem, i_remT, i_xor, i_dup, i_dup2, i_if, i_if2, i_sw, i_gi, i_gr, i_pi, i_pz, i_ial, i_ias, i_len, i_aal, i_gs, i_tal, i_cv, i_cs, i_ir, i_zr, i_vr, i_min, i_max, i_cpy, List.getElem?_cons_zero, List.getElem?_cons_succ, List.set_cons_zero, List.set_cons_succ, List.length_cons, List.length_nil, List.drop_succ_cons, List.drop_zero, List.take_succ_cons, List.take_zero, List.reverse_cons, List.reverse_nil, List.nil_append, List.cons_append, Option.toList_some, Option.toList_none, true_and, and_true, true_or, or_true, Nat.reduceAdd, Nat.reduceLT, Nat.reduceLeDiff, Option.some.injEq, exists_eq_left', Int.toNat_natCast, Nat.reduceSub, List.append_nil, List.replicate_succ, List.replicate_zero]
      exact hP I _ (scM_rf I) (by rw [if_pos h'])
    refine c0 _ _ _ ?_
    simp only [b_X12_corner_0, i_xorg, i_shl, i_shr, i_ior, i_and1, i_lcg1, i_lcg2, i_ld, i_la, i_st, i_sa, i_c, i_inc, i_add, i_sub, i_mul, i_div, i_rem, i_remT, i_xor, i_dup, i_dup2, i_if, i_if2, i_sw, i_gi, i_gr, i_pi, i_pz, i_ial, i_ias, i_len, i_aal, i_gs, i_tal, i_cv, i_cs, i_ir, i_zr, i_vr, i_min, i_max, i_cpy, List.getElem?_cons_zero, List.getElem?_cons_succ, List.set_cons_zero, List.set_cons_succ, List.length_cons, List.length_nil, List.drop_succ_cons, List.drop_zero, List.take_succ_cons, List.take_zero, List.reverse_cons, List.reverse_nil, List.nil_append, List.cons_append, Option.toList_some, Option.toList_none, true_and, and_true, true_or, or_true, Nat.reduceAdd, Nat.reduceLT, Nat.reduceLeDiff, Option.some.injEq, exists_eq_left', Int.toNat_natCast, Nat.reduceSub, List.append_nil, List.replicate_succ, List.replicate_zero, mm_in, w0', w1', w2', hn, r4, s5, T_X12_isBody, T_X12_isSide, T_X12_in, T_X12_isFree, T_X12_layRoom]
    refine ⟨by omega, fun z1 hz1 => ⟨fun y' => no' (fun w' => bz_f hz1 y' w'.1), fun y1 => ?_⟩⟩
    have h1 := bz_t hz1 y1
    refine fun z2 hz2 => ⟨fun y2 => ?_, fun y' => no' (fun w' => bz_f hz2 (by omega) w'.2)⟩
    have h2 := bz_t hz2 y2
    refine fun z3 hz3 => ⟨fun y3 => ?_, fun y' => hP I _ (scM_rf I) (by rw [if_neg (fun w' => w' ⟨h1, h2⟩), if_pos (by have := bz_f hz3 (by omega); omega)])⟩
    have h3 := bz_t hz3 y3
    have fin' : ∀ (I' : Nat → Nat → Int) (z' : Int), scM I' I → (if q' = 0 then z' = nr (room n' (MP I) (MY I)).1 ((room n' (MP I) (MY I)).1 (4 * b' + f').toNat) else z' = acr (MP I) (MY I) (4 * b' + q' - 1).toNat f'.toNat) → Post (some (.inl z')) (I', mm_R0) := fun I' z' h4 h5 => hP I' z' h4 (by rw [if_neg (fun w' => w' ⟨h1, h2⟩), if_neg (by omega)]; exact h5)
    refine ⟨fun c0' => ?_, fun c0' => ?_⟩
    · have fin2 : ∀ z' : Int, z' = acr (MP I) (MY I) (4 * b' + q' - 1).toNat f'.toNat → Post (some (.inl z')) (I, mm_R0) := fun z' h' => fin' I z' (scM_rf I) (by rw [if_neg c0']; exact h')
      obtain ⟨j', hj⟩ := Int.eq_ofNat_of_zero_le (show 0 ≤ 4 * b' + q' - 1 by omega)
      obtain ⟨v', rfl⟩ := Int.eq_ofNat_of_zero_le h2.1
      rw [hj, Int.toNat_natCast, Int.toNat_natCast] at fin2
      have n81 : (v' = j' % 4 ∨ MP I j' < 0) → Ok 81 [.inr (some 338), .inl b', .inl (v' : Int), .inl q', .inl (j' : Int)] [] (I, mm_R0) := by
        intro h'
        refine c81 _ _ _ ?_
        simp only [b_X12_corner_81, i_xorg, i_shl, i_shr, i_ior, i_and1, i_lcg1, i_lcg2, i_ld, i_la, i_st, i_sa, i_c, i_inc, i_add, i_sub, i_mul, i_div, i_rem, i_remT, i_xor, i_dup, i_dup2, i_if, i_if2, i_sw, i_gi, i_gr, i_pi, i_pz, i_ial, i_ias, i_len, i_aal, i_gs, i_tal, i_cv, i_cs, i_ir, i_zr, i_vr, i_min, i_max, i_cpy, List.getElem?_cons_zero, List.getElem?_cons_succ, List.set_cons_zero, List.set_cons_succ, List.length_cons, List.length_nil, List.drop_succ_cons, List.drop_zero, List.take_succ_cons, List.take_zero, List.reverse_cons, List.reverse_nil, List.nil_append, List.cons_append, Option.toList_some, Option.toList_none, true_and, and_true, true_or, or_true, Nat.reduceAdd, Nat.reduceLT, Nat.reduceLeDiff, Option.some.injEq, exists_eq_left', Int.toNat_natCast, Nat.reduceSub, List.append_nil, List.replicate_succ, List.replicate_zero]
        refine c92 _ _ _ ?_
        simp only [b_X12_corner_92, i_xorg, i_shl, i_shr, i_ior, i_and1, i_lcg1, i_lcg2, i_ld, i_la, i_st, i_sa, i_c, i_inc, i_add, i_sub, i_mul, i_div, i_rem, i_remT, i_xor, i_dup, i_dup2, i_if, i_if2, i_sw, i_gi, i_gr, i_pi, i_pz, i_ial, i_ias, i_len, i_aal, i_gs, i_tal, i_cv, i_cs, i_ir, i_zr, i_vr, i_min, i_max, i_cpy, List.getElem?_cons_zero, List.getElem?_cons_succ, List.set_cons_zero, List.set_cons_succ, List.length_cons, List.length_nil, List.drop_succ_cons, List.drop_zero, List.take_succ_cons, List.take_zero, List.reverse_cons, List.reverse_nil, List.nil_append, List.cons_append, Option.toList_some, Option.toList_none, true_and, and_true, true_or, or_true, Nat.reduceAdd, Nat.reduceLT, Nat.reduceLeDiff, Option.some.injEq, exists_eq_left', Int.toNat_natCast, Nat.reduceSub, List.append_nil, List.replicate_succ, List.replicate_zero]
        refine fin2 _ ?_
        unfold acr
        rw [if_pos h']
      rw [hj]
      refine ⟨⟨by omega, by omega⟩, ⟨by omega, by omega⟩, ⟨by omega, by omega⟩, ⟨by omega, by omega⟩, fun k1' => n81 (Or.inl (by omega)), fun k1' => ⟨j', rfl, by omega, fun z4 hz4 => ⟨fun k2' => ?_, fun k2' => n81 (Or.inr (by have := bz_t hz4 k2'; unfold MP; omega))⟩⟩⟩
      have h4 := bz_f hz4 k2'
      obtain ⟨q1', q2', q3', q4', q5', q6, q7', q8'⟩ : j' < 4 * n' ∧ 0 ≤ MP I j' ∧ MP I j' < 4 * n' ∧ MP I j' ≠ j' ∧ MP I (MP I j').toNat = j' ∧ 0 ≤ MY I j' ∧ MY I j' < 6 ∧ MY I (MP I j').toNat = mm_tb 1 (MY I j').toNat := by
        rcases hg j' (by omega) with e' | e'
        · exact absurd e' h4
        · exact e'
      simp only [T_X12_goesTo, i_xorg, i_shl, i_shr, i_ior, i_and1, i_lcg1, i_lcg2, i_ld, i_la, i_st, i_sa, i_c, i_inc, i_add, i_sub, i_mul, i_div, i_rem, i_remT, i_xor, i_dup, i_dup2, i_if, i_if2, i_sw, i_gi, i_gr, i_pi, i_pz, i_ial, i_ias, i_len, i_aal, i_gs, i_tal, i_cv, i_cs, i_ir, i_zr, i_vr, i_min, i_max, i_cpy, List.getElem?_cons_zero, List.getElem?_cons_succ, List.set_cons_zero, List.set_cons_succ, List.length_cons, List.length_nil, List.drop_succ_cons, List.drop_zero, List.take_succ_cons, List.take_zero, List.reverse_cons, List.reverse_nil, List.nil_append, List.cons_append, Option.toList_some, Option.toList_none, true_and, and_true, true_or, or_true, Nat.reduceAdd, Nat.reduceLT, Nat.reduceLeDiff, Option.some.injEq, exists_eq_left', Int.toNat_natCast, Nat.reduceSub, List.append_nil, List.replicate_succ, List.replicate_zero]
      refine ⟨j', v', (MP I j').toNat, (MY I j').toNat, rfl, rfl, by omega, by omega, by omega, (Int.toNat_of_nonneg q2').symm, by omega, (Int.toNat_of_nonneg q6).symm, by omega, ?_⟩
      refine c92 _ _ _ ?_
      simp only [b_X12_corner_92, i_xorg, i_shl, i_shr, i_ior, i_and1, i_lcg1, i_lcg2, i_ld, i_la, i_st, i_sa, i_c, i_inc, i_add, i_sub, i_mul, i_div, i_rem, i_remT, i_xor, i_dup, i_dup2, i_if, i_if2, i_sw, i_gi, i_gr, i_pi, i_pz, i_ial, i_ias, i_len, i_aal, i_gs, i_tal, i_cv, i_cs, i_ir, i_zr, i_vr, i_min, i_max, i_cpy, List.getElem?_cons_zero, List.getElem?_cons_succ, List.set_cons_zero, List.set_cons_succ, List.length_cons, List.length_nil, List.drop_succ_cons, List.drop_zero, List.take_succ_cons, List.take_zero, List.reverse_cons, List.reverse_nil, List.nil_append, List.cons_append, Option.toList_some, Option.toList_none, true_and, and_true, true_or, or_true, Nat.reduceAdd, Nat.reduceLT, Nat.reduceLeDiff, Option.some.injEq, exists_eq_left', Int.toNat_natCast, Nat.reduceSub, List.append_nil, List.replicate_succ, List.replicate_zero]
      refine fin2 _ ?_
      unfold acr
      rw [if_neg (by omega)]
    · refine ⟨n', hgm, fun I1 f1' ag1 => ?_⟩
      obtain ⟨j', hj⟩ := Int.eq_ofNat_of_zero_le (show 0 ≤ 4 * b' + f' by omega)
      rw [hj, Int.toNat_natCast] at fin'
      rw [hj, Int.toNat_natCast]
      have ej := ag1.1 j' (by omega)
      rw [ej.1]
      simp only [T_X12_firsts, s5, i_xorg, i_shl, i_shr, i_ior, i_and1, i_lcg1, i_lcg2, i_ld, i_la, i_st, i_sa, i_c, i_inc, i_add, i_sub, i_mul, i_div, i_rem, i_remT, i_xor, i_dup, i_dup2, i_if, i_if2, i_sw, i_gi, i_gr, i_pi, i_pz, i_ial, i_ias, i_len, i_aal, i_gs, i_tal, i_cv, i_cs, i_ir, i_zr, i_vr, i_min, i_max, i_cpy, List.getElem?_cons_zero, List.getElem?_cons_succ, List.set_cons_zero, List.set_cons_succ, List.length_cons, List.length_nil, List.drop_succ_cons, List.drop_zero, List.take_succ_cons, List.take_zero, List.reverse_cons, List.reverse_nil, List.nil_append, List.cons_append, Option.toList_some, Option.toList_none, true_and, and_true, true_or, or_true, Nat.reduceAdd, Nat.reduceLT, Nat.reduceLeDiff, Option.some.injEq, exists_eq_left', Int.toNat_natCast, Nat.reduceSub, List.append_nil, List.replicate_succ, List.replicate_zero]
      repeat' first | refine And.intro ?_ ?_ | refine fun (_ : _ ≤ _ ∧ _ < _) => ?_
      all_goals try omega
      refine ⟨(room n' (MP I) (MY I)).1 j', (room n' (MP I) (MY I)).1, rfl, by omega, by omega, fun k' hk => (ag1.1 k' (by omega)).1, fin' I1 _ (scM_hi (fun b' hb' => f1' b' (by omega))) (by rw [if_pos (by omega)])⟩
  · exact hT.elim
theorem sp_X12_corner : mm_Sp yX12_corner cX12_corner 5 (some .int) rm_X12_corner T_X12_corner := mm_meth (by decide) (by
  intro av σ Post h
  unfold T_X12_corner at h
  split at h
  · simp
  · exact h.elim) (fun p l e s m args below meth c G av σ Post hC hr _ hav hin hk hT => pv_X12_corner av σ Post hav hin hk hT _ (bk_X12_corner hC hr))
def edgeM (n' : Nat) (L' : LT) (b' e' q' z' : Int) : Prop :=
  if ¬ ((0 ≤ b' ∧ b' < n') ∧ 0 ≤ e' ∧ e' < 6) then z' = -1000000001 else if q' < 0 ∨ 2 < q' then z' = -1000000002
  else if q' = 0 then z' = nr L'.2.1 (L'.2.1 (6 * b' + e').toNat) else if q' = 1 then z' = sm (fun k' => if L'.2.1 k' = L'.2.1 (6 * b' + e').toNat then 1 else 0) (6 * n') else bz z' (bent L' n' (6 * b' + e').toNat (6 * n'))
def T_X12_edge : mm_T := fun av σ Post => match av with
  | [.inr (some a), .inl b', .inl f', .inl q'] => σ.2 = mm_R0 ∧ a = 338 ∧ ∃ n' : Nat, gM σ.1 n' ∧ ∀ (I' : Nat → Nat → Int) (z' : Int), scM I' σ.1 → edgeM n' (room n' (MP σ.1) (MY σ.1)) b' f' q' z' → Post (some (.inl z')) (I', mm_R0)
  | _ => False
def rm_X12_edge : Room := { frames := 4, cells := 0, slots := 0, locals := 99 }
def b_X12_edge_0 (Ok : Nat → mm_K) (Post : Option mm_V → mm_S → Prop) (kf : Nat) : mm_K := i_la 0 (i_ld 1 (i_cv 11 1 T_X12_isBody (i_if (fun x => x = 0) (Ok 17) (i_ld 2 (i_c 0 (i_c 5 (i_cs 3 T_X12_in (i_if (fun x => ¬ x = 0) (i_la 0 (i_cv 11 0 T_X12_layRoom (i_c 6 (i_ld 1 (i_mul (i_ld 2 (i_add (i_st 4 (i_ld 3 (i_sw Ok 97 [(0, 60), (1, 75), (2, 82)])))))))))) (Ok 17)))))))))
def b_X12_edge_17 (Ok : Nat → mm_K) (Post : Option mm_V → mm_S → Prop) (kf : Nat) : mm_K := i_c (-1000000001) (i_ir Post kf)
def b_X12_edge_60 (Ok : Nat → mm_K) (Post : Option mm_V → mm_S → Prop) (kf : Nat) : mm_K := i_la 0 (i_gr 11 9 (i_la 0 (i_gr 11 9 (i_ld 4 (i_ial (i_cs 2 T_X12_firsts (i_ir Post kf)))))))
def b_X12_edge_75 (Ok : Nat → mm_K) (Post : Option mm_V → mm_S → Prop) (kf : Nat) : mm_K := i_la 0 (i_ld 4 (i_cv 11 1 T_X12_aroundOf (i_ir Post kf)))
def b_X12_edge_82 (Ok : Nat → mm_K) (Post : Option mm_V → mm_S → Prop) (kf : Nat) : mm_K := i_la 0 (i_ld 4 (i_cv 11 1 T_X12_isBent (i_if (fun x => x = 0) (i_c 0 (Ok 96)) (i_c 1 (Ok 96)))))
def b_X12_edge_96 (Ok : Nat → mm_K) (Post : Option mm_V → mm_S → Prop) (kf : Nat) : mm_K := i_ir Post kf
def b_X12_edge_97 (Ok : Nat → mm_K) (Post : Option mm_V → mm_S → Prop) (kf : Nat) : mm_K := i_c (-1000000002) (i_ir Post kf)
def clo_X12_edge (Ok : Nat → mm_K) (Post : Option mm_V → mm_S → Prop) (kf : Nat) : Prop := mm_imp (b_X12_edge_0 Ok Post kf) (Ok 0) ∧ mm_imp (b_X12_edge_17 Ok Post kf) (Ok 17) ∧ mm_imp (b_X12_edge_60 Ok Post kf) (Ok 60) ∧ mm_imp (b_X12_edge_75 Ok Post kf) (Ok 75) ∧ mm_imp (b_X12_edge_82 Ok Post kf) (Ok 82) ∧ mm_imp (b_X12_edge_96 Ok Post kf) (Ok 96) ∧ mm_imp (b_X12_edge_97 Ok Post kf) (Ok 97)
set_option maxRecDepth 100000 in
set_option maxHeartbeats 4000000 in
theorem bk_X12_edge {p : Program} {l : Launch} {e : Env} {s : State} {m : MethodId} {args : Array Value} {below : List Frame} {meth : Method} {c : Code} {G : mm_G} {σ0 : mm_S} {Post : Option mm_V → mm_S → Prop} (hC : mm_C p G s m args meth c cX12_edge yX12_edge.cls) (hr : meth.sig.returnType = some .int) : clo_X12_edge (mm_O p l e rm_X12_edge s m args below meth c G σ0.2.2 (MQ below (mm_Qc G σ0 rm_X12_edge.cells rm_X12_edge.slots Post) args s rm_X12_edge.cells rm_X12_edge.slots (mm_A G))) Post σ0.2.2 := ⟨(by unfold b_X12_edge_0; exact (mm_la_n hC dX12_edge_0 rfl (mm_ld_n hC dX12_edge_1 rfl (mm_cv hC sp_X12_isBody ⟨rfl, rfl⟩ cl_11 wd_999 wd_1001 wd_52 wd_1002 wd_77 ⟨by decide, by decide, by decide +kernel⟩ ⟨by decide, by decide⟩ dX12_edge_2 (mm_if_eq hC (t := 17) dX12_edge_5 (by decide) (fun _ _ _ h => h) (mm_ld_n hC dX12_edge_8 rfl (mm_ic hC dX12_edge_9 ⟨by decide, by decide⟩ (mm_ic hC dX12_edge_10 ⟨by decide, by decide⟩ (mm_cs hC sp_X12_in ⟨rfl, rfl⟩ wd_979 wd_980 wd_981 wd_77 ⟨by decide, by decide, by decide +kernel⟩ ⟨by decide, by decide⟩ dX12_edge_11 (mm_if_ne hC (t := 20) dX12_edge_14 (by decide) (mm_la_n hC dX12_edge_20 rfl (mm_cv hC sp_X12_layRoom ⟨rfl, rfl⟩ cl_11 wd_849 wd_851 wd_24 wd_852 wd_77 ⟨by decide, by decide, by decide +kernel⟩ ⟨by decide, by decide⟩ dX12_edge_21 (mm_bp hC dX12_edge_24 ⟨⟨by decide, by decide⟩, by decide⟩ (mm_ld_n hC dX12_edge_26 rfl (mm_mul hC dX12_edge_27 (mm_ld_n hC dX12_edge_28 rfl (mm_add hC dX12_edge_29 (mm_st hC dX12_edge_30 (mm_ld_n hC dX12_edge_32 rfl (mm_tsw hC dX12_edge_33 rfl (by decide) (by decide) (by decide))))))))))) (fun _ _ _ h => h))))))))))), (by unfold b_X12_edge_17; exact (mm_ldc hC dX12_edge_17 ⟨by decide, by decide⟩ wd_1006 (mm_ir hC ⟨rfl, rfl⟩ hr dX12_edge_19))), (by unfold b_X12_edge_60; exact (mm_la_n hC dX12_edge_60 rfl (mm_gr hC cl_11 (by decide) rfl wd_798 dX12_edge_61 (mm_la_n hC dX12_edge_64 rfl (mm_gr hC cl_11 (by decide) rfl wd_798 dX12_edge_65 (mm_ld hC dX12_edge_68 (mm_ial hC dX12_edge_70 (mm_cs hC sp_X12_firsts ⟨rfl, rfl⟩ wd_870 wd_871 wd_872 wd_77 ⟨by decide, by decide, by decide +kernel⟩ ⟨by decide, by decide⟩ dX12_edge_71 (mm_ir hC ⟨rfl, rfl⟩ hr dX12_edge_74))))))))), (by unfold b_X12_edge_75; exact (mm_la_n hC dX12_edge_75 rfl (mm_ld hC dX12_edge_76 (mm_cv hC sp_X12_aroundOf ⟨rfl, rfl⟩ cl_11 wd_1015 wd_1017 wd_53 wd_1018 wd_77 ⟨by decide, by decide, by decide +kernel⟩ ⟨by decide, by decide⟩ dX12_edge_78 (mm_ir hC ⟨rfl, rfl⟩ hr dX12_edge_81))))), (by unfold b_X12_edge_82; exact (mm_la_n hC dX12_edge_82 rfl (mm_ld hC dX12_edge_83 (mm_cv hC sp_X12_isBent ⟨rfl, rfl⟩ cl_11 wd_885 wd_887 wd_30 wd_888 wd_77 ⟨by decide, by decide, by decide +kernel⟩ ⟨by decide, by decide⟩ dX12_edge_85 (mm_if_eq hC (t := 95) dX12_edge_88 (by decide) (mm_ic hC dX12_edge_95 ⟨by decide, by decide⟩ (fun _ _ _ h => h)) (mm_ic hC dX12_edge_91 ⟨by decide, by decide⟩ (mm_goto hC (t := 96) dX12_edge_92 (by decide) (fun _ _ _ h => h)))))))), (by unfold b_X12_edge_96; exact (mm_ir hC ⟨rfl, rfl⟩ hr dX12_edge_96)), (by unfold b_X12_edge_97; exact (mm_ldc hC dX12_edge_97 ⟨by decide, by decide⟩ wd_994 (mm_ir hC ⟨rfl, rfl⟩ hr dX12_edge_99)))⟩
set_option maxRecDepth 100000 in
set_option maxHeartbeats 8000000 in
theorem pv_X12_edge : ∀ (av : List mm_V) (σ : mm_S) (Post : Option mm_V → mm_S → Prop), (∀ v ∈ av, mm_iv v) → (∀ a j, mm_in (σ.1 a j)) → σ.2.2 ≤ 348 → T_X12_edge av σ Post → ∀ Ok : Nat → mm_K, clo_X12_edge Ok Post σ.2.2 → Ok 0 (av ++ List.replicate (5 - av.length) (.inr none)) [] σ := by
  intro av σ Post hav hin hk hT Ok hcl
  obtain ⟨I, R0⟩ := σ
  unfold T_X12_edge at hT
  split at hT
  · rename_i a b' f' q'
    obtain ⟨h0, hT⟩ := hT
    have h0 : R0 = mm_R0 := h0
    subst h0
    dsimp only at hT hin
    obtain ⟨c0, c17, c60, c75, c82, c96, c97⟩ := hcl
    obtain ⟨rfl, n', hgm, hP⟩ := hT
    have w0' := m0
    have w1' := m1
    have w2' := m2
    have r5' := Rs_338.2.2.2.2.2.1
    have s6' := sh_338.2.2.2.2.2.2.1
    obtain ⟨hn, hn1, hn3, hg⟩ := id hgm
    unfold edgeM at hP
    have no' : ¬ ((0 ≤ b' ∧ b' < (n' : Int)) ∧ 0 ≤ f' ∧ f' < 6) → Ok 17 [.inr (some 338), .inl b', .inl f', .inl q', .inr none] [] (I, mm_R0) := by
      intro h'
      refine c17 _ _ _ ?_
      simp only [b_X12_edge_17, i_xorg, i_shl, i_shr, i_ior, i_and1, i_lcg1, i_lcg2, i_ld, i_la, i_st, i_sa, i_c, i_inc, i_add, i_sub, i_mul, i_div, i_rem, i_remT, i_xor, i_dup, i_dup2, i_if, i_if2, i_sw, i_gi, i_gr, i_pi, i_pz, i_ial, i_ias, i_len, i_aal, i_gs, i_tal, i_cv, i_cs, i_ir, i_zr, i_vr, i_min, i_max, i_cpy, List.getElem?_cons_zero, List.getElem?_cons_succ, List.set_cons_zero, List.set_cons_succ, List.length_cons, List.length_nil, List.drop_succ_cons, List.drop_zero, List.take_succ_cons, List.take_zero, List.reverse_cons, List.reverse_nil, List.nil_append, List.cons_append, Option.toList_some, Option.toList_none, true_and, and_true, true_or, or_true, Nat.reduceAdd, Nat.reduceLT, Nat.reduceLeDiff, Option.some.injEq, exists_eq_left', Int.toNat_natCast, Nat.reduceSub, List.append_nil, List.replicate_succ, List.replicate_zero]
      exact hP I _ (scM_rf I) (by rw [if_pos h'])
    refine c0 _ _ _ ?_
    simp only [b_X12_edge_0, i_xorg, i_shl, i_shr, i_ior, i_and1, i_lcg1, i_lcg2, i_ld, i_la, i_st, i_sa, i_c, i_inc, i_add, i_sub, i_mul, i_div, i_rem, i_remT, i_xor, i_dup, i_dup2, i_if, i_if2, i_sw, i_gi, i_gr, i_pi, i_pz, i_ial, i_ias, i_len, i_aal, i_gs, i_tal, i_cv, i_cs, i_ir, i_zr, i_vr, i_min, i_max, i_cpy, List.getElem?_cons_zero, List.getElem?_cons_succ, List.set_cons_zero, List.set_cons_succ, List.length_cons, List.length_nil, List.drop_succ_cons, List.drop_zero, List.take_succ_cons, List.take_zero, List.reverse_cons, List.reverse_nil, List.nil_append, List.cons_append, Option.toList_some, Option.toList_none, true_and, and_true, true_or, or_true, Nat.reduceAdd, Nat.reduceLT, Nat.reduceLeDiff, Option.some.injEq, exists_eq_left', Int.toNat_natCast, Nat.reduceSub, List.append_nil, List.replicate_succ, List.replicate_zero, mm_in, w0', w1', w2', hn, T_X12_isBody, T_X12_in, T_X12_layRoom]
    refine ⟨by omega, fun z1 hz1 => ⟨fun y' => no' (fun w' => bz_f hz1 y' w'.1), fun y1 => ?_⟩⟩
    have h1 := bz_t hz1 y1
    refine fun z2 hz2 => ⟨fun y2 => ?_, fun y' => no' (fun w' => bz_f hz2 (by omega) (by omega))⟩
    have h2 := bz_t hz2 y2
    refine ⟨n', hgm, fun I1 f1' ag1 => ?_⟩
    obtain ⟨L', hL⟩ : ∃ L', room n' (MP I) (MY I) = L' := ⟨_, rfl⟩
    rw [hL] at ag1 hP
    obtain ⟨j', hj⟩ := Int.eq_ofNat_of_zero_le (show 0 ≤ 6 * b' + f' by omega)
    rw [hj, Int.toNat_natCast] at hP
    rw [hj]
    have ej := ag1.2.1 j' (by omega)
    have s1' : scM I1 I := scM_hi (fun b' hb' => f1' b' (by omega))
    have hn' : I1 339 0 = n' := by rw [f1' 339 (by omega)]; exact hn
    have fin' : ∀ z' : Int, (if q' < 0 ∨ 2 < q' then z' = -1000000002 else if q' = 0 then z' = nr L'.2.1 (L'.2.1 j') else if q' = 1 then z' = sm (fun k' => if L'.2.1 k' = L'.2.1 j' then 1 else 0) (6 * n') else bz z' (bent L' n' j' (6 * n'))) → Post (some (.inl z')) (I1, mm_R0) := fun z' h' => hP I1 z' s1' (by rw [if_neg (fun w' => w' ⟨h1, by omega⟩)]; exact h')
    refine ⟨⟨by omega, by omega⟩, ⟨by omega, by omega⟩, fun k0' => ?_, fun k0' => ⟨fun k1' => ?_, fun k1' => ⟨fun k2' => ?_, fun k2' => ?_⟩⟩⟩
    · refine c60 _ _ _ ?_
      simp only [b_X12_edge_60, i_xorg, i_shl, i_shr, i_ior, i_and1, i_lcg1, i_lcg2, i_ld, i_la, i_st, i_sa, i_c, i_inc, i_add, i_sub, i_mul, i_div, i_rem, i_remT, i_xor, i_dup, i_dup2, i_if, i_if2, i_sw, i_gi, i_gr, i_pi, i_pz, i_ial, i_ias, i_len, i_aal, i_gs, i_tal, i_cv, i_cs, i_ir, i_zr, i_vr, i_min, i_max, i_cpy, List.getElem?_cons_zero, List.getElem?_cons_succ, List.set_cons_zero, List.set_cons_succ, List.length_cons, List.length_nil, List.drop_succ_cons, List.drop_zero, List.take_succ_cons, List.take_zero, List.reverse_cons, List.reverse_nil, List.nil_append, List.cons_append, Option.toList_some, Option.toList_none, true_and, and_true, true_or, or_true, Nat.reduceAdd, Nat.reduceLT, Nat.reduceLeDiff, Option.some.injEq, exists_eq_left', Int.toNat_natCast, Nat.reduceSub, List.append_nil, List.replicate_succ, List.replicate_zero, mm_in, w0', r5', s6', ej.1, T_X12_firsts]
      repeat' first | refine And.intro ?_ ?_ | refine fun (_ : _ ≤ _ ∧ _ < _) => ?_
      all_goals try omega
      refine ⟨L'.2.1 j', L'.2.1, rfl, by omega, by omega, fun k' hk => (ag1.2.1 k' (by omega)).1, fin' _ (by rw [if_neg (by omega), if_pos k0'])⟩
    · refine c75 _ _ _ ?_
      simp only [b_X12_edge_75, i_xorg, i_shl, i_shr, i_ior, i_and1, i_lcg1, i_lcg2, i_ld, i_la, i_st, i_sa, i_c, i_inc, i_add, i_sub, i_mul, i_div, i_rem, i_remT, i_xor, i_dup, i_dup2, i_if, i_if2, i_sw, i_gi, i_gr, i_pi, i_pz, i_ial, i_ias, i_len, i_aal, i_gs, i_tal, i_cv, i_cs, i_ir, i_zr, i_vr, i_min, i_max, i_cpy, List.getElem?_cons_zero, List.getElem?_cons_succ, List.set_cons_zero, List.set_cons_succ, List.length_cons, List.length_nil, List.drop_succ_cons, List.drop_zero, List.take_succ_cons, List.take_zero, List.reverse_cons, List.reverse_nil, List.nil_append, List.cons_append, Option.toList_some, Option.toList_none, true_and, and_true, true_or, or_true, Nat.reduceAdd, Nat.reduceLT, Nat.reduceLeDiff, Option.some.injEq, exists_eq_left', Int.toNat_natCast, Nat.reduceSub, List.append_nil, List.replicate_succ, List.replicate_zero, mm_in, w0', T_X12_aroundOf]
      refine ⟨j', n', L', rfl, hn', hn3, by omega, ag1, fin' _ (by rw [if_neg (by omega), if_neg k0', if_pos k1'])⟩
    · refine c82 _ _ _ ?_
      simp only [b_X12_edge_82, i_xorg, i_shl, i_shr, i_ior, i_and1, i_lcg1, i_lcg2, i_ld, i_la, i_st, i_sa, i_c, i_inc, i_add, i_sub, i_mul, i_div, i_rem, i_remT, i_xor, i_dup, i_dup2, i_if, i_if2, i_sw, i_gi, i_gr, i_pi, i_pz, i_ial, i_ias, i_len, i_aal, i_gs, i_tal, i_cv, i_cs, i_ir, i_zr, i_vr, i_min, i_max, i_cpy, List.getElem?_cons_zero, List.getElem?_cons_succ, List.set_cons_zero, List.set_cons_succ, List.length_cons, List.length_nil, List.drop_succ_cons, List.drop_zero, List.take_succ_cons, List.take_zero, List.reverse_cons, List.reverse_nil, List.nil_append, List.cons_append, Option.toList_some, Option.toList_none, true_and, and_true, true_or, or_true, Nat.reduceAdd, Nat.reduceLT, Nat.reduceLeDiff, Option.some.injEq, exists_eq_left', Int.toNat_natCast, Nat.reduceSub, List.append_nil, List.replicate_succ, List.replicate_zero, mm_in, w0', T_X12_isBent]
      have f96 : ∀ z' : Int, bz z' (bent L' n' j' (6 * n')) → Ok 96 [.inr (some 338), .inl b', .inl f', .inl q', .inl (j' : Int)] [.inl z'] (I1, mm_R0) := by
        intro z' hz
        refine c96 _ _ _ ?_
        simp only [b_X12_edge_96, i_xorg, i_shl, i_shr, i_ior, i_and1, i_lcg1, i_lcg2, i_ld, i_la, i_st, i_sa, i_c, i_inc, i_add, i_sub, i_mul, i_div, i_rem, i_remT, i_xor, i_dup, i_dup2, i_if, i_if2, i_sw, i_gi, i_gr, i_pi, i_pz, i_ial, i_ias, i_len, i_aal, i_gs, i_tal, i_cv, i_cs, i_ir, i_zr, i_vr, i_min, i_max, i_cpy, List.getElem?_cons_zero, List.getElem?_cons_succ, List.set_cons_zero, List.set_cons_succ, List.length_cons, List.length_nil, List.drop_succ_cons, List.drop_zero, List.take_succ_cons, List.take_zero, List.reverse_cons, List.reverse_nil, List.nil_append, List.cons_append, Option.toList_some, Option.toList_none, true_and, and_true, true_or, or_true, Nat.reduceAdd, Nat.reduceLT, Nat.reduceLeDiff, Option.some.injEq, exists_eq_left', Int.toNat_natCast, Nat.reduceSub, List.append_nil, List.replicate_succ, List.replicate_zero]
        exact fin' _ (by rw [if_neg (by omega), if_neg k0', if_neg k1']; exact hz)
      refine ⟨j', n', L', rfl, hn', hn3, by omega, ag1, fun z' hz => ⟨fun r' => f96 0 (bz_0 (bz_f hz r')), fun r' => f96 1 (bz_1 (bz_t hz r'))⟩⟩
    · refine c97 _ _ _ ?_
      simp only [b_X12_edge_97, i_xorg, i_shl, i_shr, i_ior, i_and1, i_lcg1, i_lcg2, i_ld, i_la, i_st, i_sa, i_c, i_inc, i_add, i_sub, i_mul, i_div, i_rem, i_remT, i_xor, i_dup, i_dup2, i_if, i_if2, i_sw, i_gi, i_gr, i_pi, i_pz, i_ial, i_ias, i_len, i_aal, i_gs, i_tal, i_cv, i_cs, i_ir, i_zr, i_vr, i_min, i_max, i_cpy, List.getElem?_cons_zero, List.getElem?_cons_succ, List.set_cons_zero, List.set_cons_succ, List.length_cons, List.length_nil, List.drop_succ_cons, List.drop_zero, List.take_succ_cons, List.take_zero, List.reverse_cons, List.reverse_nil, List.nil_append, List.cons_append, Option.toList_some, Option.toList_none, true_and, and_true, true_or, or_true, Nat.reduceAdd, Nat.reduceLT, Nat.reduceLeDiff, Option.some.injEq, exists_eq_left', Int.toNat_natCast, Nat.reduceSub, List.append_nil, List.replicate_succ, List.replicate_zero]
      exact fin' _ (by rw [if_pos (by omega)])
  · exact hT.elim
theorem sp_X12_edge : mm_Sp yX12_edge cX12_edge 5 (some .int) rm_X12_edge T_X12_edge := mm_meth (by decide) (by
  intro av σ Post h
  unfold T_X12_edge at h
  split at h
  · simp
  · exact h.elim) (fun p l e s m args below meth c G av σ Post hC hr _ hav hin hk hT => pv_X12_edge av σ Post hav hin hk hT _ (bk_X12_edge hC hr))
def shM (I : Nat → Nat → Int) : Prop := 0 ≤ I 339 1 ∧ I 339 1 ≤ 6 ∧ ∀ s' : Nat, (s' : Int) < I 339 1 → b20 (MN I (26 + 21 * s'))
def piecesM (I : Nat → Nat → Int) (s' b' k' z' : Int) : Prop :=
  if ¬ ((0 ≤ s' ∧ s' < I 339 1) ∧ (0 ≤ b' ∧ b' < I 339 0)) then z' = -1000000001 else if ¬ (0 ≤ k' ∧ k' < 7) then z' = -1000000002 else z' = MN I (26 + 21 * s'.toNat) (7 * b' + k').toNat
def T_X12_pieces : mm_T := fun av σ Post => match av with
  | [.inr (some a), .inl s', .inl b', .inl k'] => σ.2 = mm_R0 ∧ a = 338 ∧ (∃ n' : Nat, gM σ.1 n') ∧ shM σ.1 ∧ ∀ z' : Int, piecesM σ.1 s' b' k' z' → Post (some (.inl z')) σ
  | _ => False
def rm_X12_pieces : Room := { frames := 2, cells := 0, slots := 0, locals := 43 }
def b_X12_pieces_0 (Ok : Nat → mm_K) (Post : Option mm_V → mm_S → Prop) (kf : Nat) : mm_K := i_la 0 (i_ld 1 (i_cv 11 1 T_X12_isSurface (i_if (fun x => x = 0) (Ok 16) (i_la 0 (i_ld 2 (i_cv 11 1 T_X12_isBody (i_if (fun x => ¬ x = 0) (i_ld 3 (i_c 0 (i_c 6 (i_cs 3 T_X12_in (i_if (fun x => x = 0) (i_c (-1000000002) (Ok 50)) (i_la 0 (i_gr 11 0 (i_ld 1 (i_cs 1 T_X12_surfaceAt (i_c 7 (i_ld 2 (i_mul (i_add (i_ld 3 (i_add (i_ial (Ok 50))))))))))))))))) (Ok 16))))))))
def b_X12_pieces_16 (Ok : Nat → mm_K) (Post : Option mm_V → mm_S → Prop) (kf : Nat) : mm_K := i_c (-1000000001) (i_ir Post kf)
def b_X12_pieces_50 (Ok : Nat → mm_K) (Post : Option mm_V → mm_S → Prop) (kf : Nat) : mm_K := i_ir Post kf
def clo_X12_pieces (Ok : Nat → mm_K) (Post : Option mm_V → mm_S → Prop) (kf : Nat) : Prop := mm_imp (b_X12_pieces_0 Ok Post kf) (Ok 0) ∧ mm_imp (b_X12_pieces_16 Ok Post kf) (Ok 16) ∧ mm_imp (b_X12_pieces_50 Ok Post kf) (Ok 50)
set_option maxRecDepth 100000 in
set_option maxHeartbeats 4000000 in
theorem bk_X12_pieces {p : Program} {l : Launch} {e : Env} {s : State} {m : MethodId} {args : Array Value} {below : List Frame} {meth : Method} {c : Code} {G : mm_G} {σ0 : mm_S} {Post : Option mm_V → mm_S → Prop} (hC : mm_C p G s m args meth c cX12_pieces yX12_pieces.cls) (hr : meth.sig.returnType = some .int) : clo_X12_pieces (mm_O p l e rm_X12_pieces s m args below meth c G σ0.2.2 (MQ below (mm_Qc G σ0 rm_X12_pieces.cells rm_X12_pieces.slots Post) args s rm_X12_pieces.cells rm_X12_pieces.slots (mm_A G))) Post σ0.2.2 := ⟨(by unfold b_X12_pieces_0; exact (mm_la_n hC dX12_pieces_0 rfl (mm_ld_n hC dX12_pieces_1 rfl (mm_cv hC sp_X12_isSurface ⟨rfl, rfl⟩ cl_11 wd_975 wd_977 wd_48 wd_978 wd_77 ⟨by decide, by decide, by decide +kernel⟩ ⟨by decide, by decide⟩ dX12_pieces_2 (mm_if_eq hC (t := 16) dX12_pieces_5 (by decide) (fun _ _ _ h => h) (mm_la_n hC dX12_pieces_8 rfl (mm_ld_n hC dX12_pieces_9 rfl (mm_cv hC sp_X12_isBody ⟨rfl, rfl⟩ cl_11 wd_999 wd_1001 wd_52 wd_1002 wd_77 ⟨by decide, by decide, by decide +kernel⟩ ⟨by decide, by decide⟩ dX12_pieces_10 (mm_if_ne hC (t := 19) dX12_pieces_13 (by decide) (mm_ld_n hC dX12_pieces_19 rfl (mm_ic hC dX12_pieces_20 ⟨by decide, by decide⟩ (mm_bp hC dX12_pieces_21 ⟨⟨by decide, by decide⟩, by decide⟩ (mm_cs hC sp_X12_in ⟨rfl, rfl⟩ wd_979 wd_980 wd_981 wd_77 ⟨by decide, by decide, by decide +kernel⟩ ⟨by decide, by decide⟩ dX12_pieces_23 (mm_if_eq hC (t := 48) dX12_pieces_26 (by decide) (mm_ldc hC dX12_pieces_48 ⟨by decide, by decide⟩ wd_994 (fun _ _ _ h => h)) (mm_la_n hC dX12_pieces_29 rfl (mm_gr hC cl_11 (by decide) rfl wd_789 dX12_pieces_30 (mm_ld_n hC dX12_pieces_33 rfl (mm_cs hC sp_X12_surfaceAt ⟨rfl, rfl⟩ wd_972 wd_973 wd_974 wd_77 ⟨by decide, by decide, by decide +kernel⟩ ⟨by decide, by decide⟩ dX12_pieces_34 (mm_bp hC dX12_pieces_37 ⟨⟨by decide, by decide⟩, by decide⟩ (mm_ld_n hC dX12_pieces_39 rfl (mm_mul hC dX12_pieces_40 (mm_add hC dX12_pieces_41 (mm_ld_n hC dX12_pieces_42 rfl (mm_add hC dX12_pieces_43 (mm_ial hC dX12_pieces_44 (mm_goto hC (t := 50) dX12_pieces_45 (by decide) (fun _ _ _ h => h)))))))))))))))))) (fun _ _ _ h => h)))))))))), (by unfold b_X12_pieces_16; exact (mm_ldc hC dX12_pieces_16 ⟨by decide, by decide⟩ wd_1006 (mm_ir hC ⟨rfl, rfl⟩ hr dX12_pieces_18))), (by unfold b_X12_pieces_50; exact (mm_ir hC ⟨rfl, rfl⟩ hr dX12_pieces_50))⟩
set_option maxRecDepth 100000 in
set_option maxHeartbeats 8000000 in
theorem pv_X12_pieces : ∀ (av : List mm_V) (σ : mm_S) (Post : Option mm_V → mm_S → Prop), (∀ v ∈ av, mm_iv v) → (∀ a j, mm_in (σ.1 a j)) → σ.2.2 ≤ 348 → T_X12_pieces av σ Post → ∀ Ok : Nat → mm_K, clo_X12_pieces Ok Post σ.2.2 → Ok 0 (av ++ List.replicate (4 - av.length) (.inr none)) [] σ := by
  intro av σ Post hav hin hk hT Ok hcl
  obtain ⟨I, R0⟩ := σ
  unfold T_X12_pieces at hT
  split at hT
  · rename_i a s' b' k'
    obtain ⟨h0, hT⟩ := hT
    have h0 : R0 = mm_R0 := h0
    subst h0
    dsimp only at hT hin
    obtain ⟨c0, c16, c50⟩ := hcl
    obtain ⟨rfl, ⟨n', hgm⟩, ⟨v1', v2, v3⟩, hP⟩ := hT
    have w0' := m0
    have w1' := m1
    have w2' := m2
    obtain ⟨hn, hn1, hn3, hg⟩ := id hgm
    unfold piecesM at hP
    have no' : ¬ ((0 ≤ s' ∧ s' < I 339 1) ∧ (0 ≤ b' ∧ b' < I 339 0)) → Ok 16 [.inr (some 338), .inl s', .inl b', .inl k'] [] (I, mm_R0) := by
      intro h'
      refine c16 _ _ _ ?_
      simp only [b_X12_pieces_16, i_xorg, i_shl, i_shr, i_ior, i_and1, i_lcg1, i_lcg2, i_ld, i_la, i_st, i_sa, i_c, i_inc, i_add, i_sub, i_mul, i_div, i_rem, i_remT, i_xor, i_dup, i_dup2, i_if, i_if2, i_sw, i_gi, i_gr, i_pi, i_pz, i_ial, i_ias, i_len, i_aal, i_gs, i_tal, i_cv, i_cs, i_ir, i_zr, i_vr, i_min, i_max, i_cpy, List.getElem?_cons_zero, List.getElem?_cons_succ, List.set_cons_zero, List.set_cons_succ, List.length_cons, List.length_nil, List.drop_succ_cons, List.drop_zero, List.take_succ_cons, List.take_zero, List.reverse_cons, List.reverse_nil, List.nil_append, List.cons_append, Option.toList_some, Option.toList_none, true_and, and_true, true_or, or_true, Nat.reduceAdd, Nat.reduceLT, Nat.reduceLeDiff, Option.some.injEq, exists_eq_left', Int.toNat_natCast, Nat.reduceSub, List.append_nil, List.replicate_succ, List.replicate_zero]
      exact hP _ (by rw [if_pos h'])
    have f50 : ∀ z' : Int, (0 ≤ s' ∧ s' < I 339 1) ∧ (0 ≤ b' ∧ b' < I 339 0) → (if ¬ (0 ≤ k' ∧ k' < 7) then z' = -1000000002 else z' = MN I (26 + 21 * s'.toNat) (7 * b' + k').toNat) → Ok 50 [.inr (some 338), .inl s', .inl b', .inl k'] [.inl z'] (I, mm_R0) := by
      intro z' h1 h2
      refine c50 _ _ _ ?_
      simp only [b_X12_pieces_50, i_xorg, i_shl, i_shr, i_ior, i_and1, i_lcg1, i_lcg2, i_ld, i_la, i_st, i_sa, i_c, i_inc, i_add, i_sub, i_mul, i_div, i_rem, i_remT, i_xor, i_dup, i_dup2, i_if, i_if2, i_sw, i_gi, i_gr, i_pi, i_pz, i_ial, i_ias, i_len, i_aal, i_gs, i_tal, i_cv, i_cs, i_ir, i_zr, i_vr, i_min, i_max, i_cpy, List.getElem?_cons_zero, List.getElem?_cons_succ, List.set_cons_zero, List.set_cons_succ, List.length_cons, List.length_nil, List.drop_succ_cons, List.drop_zero, List.take_succ_cons, List.take_zero, List.reverse_cons, List.reverse_nil, List.nil_append, List.cons_append, Option.toList_some, Option.toList_none, true_and, and_true, true_or, or_true, Nat.reduceAdd, Nat.reduceLT, Nat.reduceLeDiff, Option.some.injEq, exists_eq_left', Int.toNat_natCast, Nat.reduceSub, List.append_nil, List.replicate_succ, List.replicate_zero]
      exact hP z' (by rw [if_neg (fun w' => w' h1)]; exact h2)
    refine c0 _ _ _ ?_
    simp only [b_X12_pieces_0, i_xorg, i_shl, i_shr, i_ior, i_and1, i_lcg1, i_lcg2, i_ld, i_la, i_st, i_sa, i_c, i_inc, i_add, i_sub, i_mul, i_div, i_rem, i_remT, i_xor, i_dup, i_dup2, i_if, i_if2, i_sw, i_gi, i_gr, i_pi, i_pz, i_ial, i_ias, i_len, i_aal, i_gs, i_tal, i_cv, i_cs, i_ir, i_zr, i_vr, i_min, i_max, i_cpy, List.getElem?_cons_zero, List.getElem?_cons_succ, List.set_cons_zero, List.set_cons_succ, List.length_cons, List.length_nil, List.drop_succ_cons, List.drop_zero, List.take_succ_cons, List.take_zero, List.reverse_cons, List.reverse_nil, List.nil_append, List.cons_append, Option.toList_some, Option.toList_none, true_and, and_true, true_or, or_true, Nat.reduceAdd, Nat.reduceLT, Nat.reduceLeDiff, Option.some.injEq, exists_eq_left', Int.toNat_natCast, Nat.reduceSub, List.append_nil, List.replicate_succ, List.replicate_zero, mm_in, w0', w1', w2', T_X12_isBody, T_X12_isSurface, T_X12_in, T_X12_surfaceAt]
    refine ⟨by omega, fun z1 hz1 => ⟨fun y' => no' (fun w' => bz_f hz1 y' w'.1), fun y1 => ⟨by omega, fun z2 hz2 => ⟨fun y2 => ?_, fun y' => no' (fun w' => bz_f hz2 (by omega) w'.2)⟩⟩⟩⟩
    have h1 := bz_t hz1 y1
    have h2 := bz_t hz2 y2
    refine fun z3 hz3 => ⟨fun y3 => f50 _ ⟨h1, h2⟩ (by rw [if_pos (by have := bz_f hz3 y3; omega)]), fun y3 => ?_⟩
    have h3 := bz_t hz3 y3
    repeat' first | refine And.intro ?_ ?_ | refine fun (_ : _ ≤ _ ∧ _ < _) => ?_
    all_goals try omega
    refine f50 _ ⟨h1, h2⟩ ?_
    rw [if_neg (by omega)]
    unfold MN
    rw [show (26 + 21 * s' + 7 * b' + k').toNat = 26 + 21 * s'.toNat + (7 * b' + k').toNat by omega]
  · exact hT.elim
theorem sp_X12_pieces : mm_Sp yX12_pieces cX12_pieces 4 (some .int) rm_X12_pieces T_X12_pieces := mm_meth (by decide) (by
  intro av σ Post h
  unfold T_X12_pieces at h
  split at h
  · simp
  · exact h.elim) (fun p l e s m args below meth c G av σ Post hC hr _ hav hin hk hT => pv_X12_pieces av σ Post hav hin hk hT _ (bk_X12_pieces hC hr))
def weightM (I : Nat → Nat → Int) (s' b' e' z' : Int) : Prop :=
  if ¬ ((0 ≤ s' ∧ s' < I 339 1) ∧ (0 ≤ b' ∧ b' < I 339 0) ∧ 0 ≤ e' ∧ e' < 6) then z' = -1000000001 else z' = wt (MN I (26 + 21 * s'.toNat)) b'.toNat e'.toNat
def T_X12_weight : mm_T := fun av σ Post => match av with
  | [.inr (some a), .inl s', .inl b', .inl k'] => σ.2 = mm_R0 ∧ a = 338 ∧ (∃ n' : Nat, gM σ.1 n') ∧ shM σ.1 ∧ ∀ z' : Int, weightM σ.1 s' b' k' z' → Post (some (.inl z')) σ
  | _ => False
def rm_X12_weight : Room := { frames := 3, cells := 0, slots := 0, locals := 66 }
def b_X12_weight_0 (Ok : Nat → mm_K) (Post : Option mm_V → mm_S → Prop) (kf : Nat) : mm_K := i_la 0 (i_ld 1 (i_cv 11 1 T_X12_isSurface (i_if (fun x => x = 0) (Ok 29) (i_la 0 (i_ld 2 (i_cv 11 1 T_X12_isBody (i_if (fun x => x = 0) (Ok 29) (i_ld 3 (i_c 0 (i_c 5 (i_cs 3 T_X12_in (i_if (fun x => x = 0) (Ok 29) (i_c 1 (Ok 30))))))))))))))
def b_X12_weight_29 (Ok : Nat → mm_K) (Post : Option mm_V → mm_S → Prop) (kf : Nat) : mm_K := i_c 0 (Ok 30)
def b_X12_weight_30 (Ok : Nat → mm_K) (Post : Option mm_V → mm_S → Prop) (kf : Nat) : mm_K := i_st 4 (i_ld 4 (i_if (fun x => x = 0) (i_c (-1000000001) (Ok 52)) (i_la 0 (i_ld 1 (i_cs 1 T_X12_surfaceAt (i_ld 2 (i_ld 3 (i_cv 11 3 T_X12_weightOf (Ok 52)))))))))
def b_X12_weight_52 (Ok : Nat → mm_K) (Post : Option mm_V → mm_S → Prop) (kf : Nat) : mm_K := i_ir Post kf
def clo_X12_weight (Ok : Nat → mm_K) (Post : Option mm_V → mm_S → Prop) (kf : Nat) : Prop := mm_imp (b_X12_weight_0 Ok Post kf) (Ok 0) ∧ mm_imp (b_X12_weight_29 Ok Post kf) (Ok 29) ∧ mm_imp (b_X12_weight_30 Ok Post kf) (Ok 30) ∧ mm_imp (b_X12_weight_52 Ok Post kf) (Ok 52)
set_option maxRecDepth 100000 in
set_option maxHeartbeats 4000000 in
theorem bk_X12_weight {p : Program} {l : Launch} {e : Env} {s : State} {m : MethodId} {args : Array Value} {below : List Frame} {meth : Method} {c : Code} {G : mm_G} {σ0 : mm_S} {Post : Option mm_V → mm_S → Prop} (hC : mm_C p G s m args meth c cX12_weight yX12_weight.cls) (hr : meth.sig.returnType = some .int) : clo_X12_weight (mm_O p l e rm_X12_weight s m args below meth c G σ0.2.2 (MQ below (mm_Qc G σ0 rm_X12_weight.cells rm_X12_weight.slots Post) args s rm_X12_weight.cells rm_X12_weight.slots (mm_A G))) Post σ0.2.2 := ⟨(by unfold b_X12_weight_0; exact (mm_la_n hC dX12_weight_0 rfl (mm_ld_n hC dX12_weight_1 rfl (mm_cv hC sp_X12_isSurface ⟨rfl, rfl⟩ cl_11 wd_975 wd_977 wd_48 wd_978 wd_77 ⟨by decide, by decide, by decide +kernel⟩ ⟨by decide, by decide⟩ dX12_weight_2 (mm_if_eq hC (t := 29) dX12_weight_5 (by decide) (fun _ _ _ h => h) (mm_la_n hC dX12_weight_8 rfl (mm_ld_n hC dX12_weight_9 rfl (mm_cv hC sp_X12_isBody ⟨rfl, rfl⟩ cl_11 wd_999 wd_1001 wd_52 wd_1002 wd_77 ⟨by decide, by decide, by decide +kernel⟩ ⟨by decide, by decide⟩ dX12_weight_10 (mm_if_eq hC (t := 29) dX12_weight_13 (by decide) (fun _ _ _ h => h) (mm_ld_n hC dX12_weight_16 rfl (mm_ic hC dX12_weight_17 ⟨by decide, by decide⟩ (mm_ic hC dX12_weight_18 ⟨by decide, by decide⟩ (mm_cs hC sp_X12_in ⟨rfl, rfl⟩ wd_979 wd_980 wd_981 wd_77 ⟨by decide, by decide, by decide +kernel⟩ ⟨by decide, by decide⟩ dX12_weight_19 (mm_if_eq hC (t := 29) dX12_weight_22 (by decide) (fun _ _ _ h => h) (mm_ic hC dX12_weight_25 ⟨by decide, by decide⟩ (mm_goto hC (t := 30) dX12_weight_26 (by decide) (fun _ _ _ h => h))))))))))))))))), (by unfold b_X12_weight_29; exact (mm_ic hC dX12_weight_29 ⟨by decide, by decide⟩ (fun _ _ _ h => h))), (by unfold b_X12_weight_30; exact (mm_st hC dX12_weight_30 (mm_ld hC dX12_weight_32 (mm_if_eq hC (t := 50) dX12_weight_34 (by decide) (mm_ldc hC dX12_weight_50 ⟨by decide, by decide⟩ wd_1006 (fun _ _ _ h => h)) (mm_la_n hC dX12_weight_37 rfl (mm_ld_n hC dX12_weight_38 rfl (mm_cs hC sp_X12_surfaceAt ⟨rfl, rfl⟩ wd_972 wd_973 wd_974 wd_77 ⟨by decide, by decide, by decide +kernel⟩ ⟨by decide, by decide⟩ dX12_weight_39 (mm_ld_n hC dX12_weight_42 rfl (mm_ld_n hC dX12_weight_43 rfl (mm_cv hC sp_X12_weightOf ⟨rfl, rfl⟩ cl_11 wd_946 wd_948 wd_43 wd_949 wd_77 ⟨by decide, by decide, by decide +kernel⟩ ⟨by decide, by decide⟩ dX12_weight_44 (mm_goto hC (t := 52) dX12_weight_47 (by decide) (fun _ _ _ h => h)))))))))))), (by unfold b_X12_weight_52; exact (mm_ir hC ⟨rfl, rfl⟩ hr dX12_weight_52))⟩
set_option maxRecDepth 100000 in
set_option maxHeartbeats 8000000 in
theorem pv_X12_weight : ∀ (av : List mm_V) (σ : mm_S) (Post : Option mm_V → mm_S → Prop), (∀ v ∈ av, mm_iv v) → (∀ a j, mm_in (σ.1 a j)) → σ.2.2 ≤ 348 → T_X12_weight av σ Post → ∀ Ok : Nat → mm_K, clo_X12_weight Ok Post σ.2.2 → Ok 0 (av ++ List.replicate (5 - av.length) (.inr none)) [] σ := by
  intro av σ Post hav hin hk hT Ok hcl
  obtain ⟨I, R0⟩ := σ
  unfold T_X12_weight at hT
  split at hT
  · rename_i a s' b' k'
    obtain ⟨h0, hT⟩ := hT
    have h0 : R0 = mm_R0 := h0
    subst h0
    dsimp only at hT hin
    obtain ⟨c0, c29, c30, c52⟩ := hcl
    obtain ⟨rfl, ⟨n', hgm⟩, ⟨v1', v2, v3⟩, hP⟩ := hT
    have w0' := m0
    have w1' := m1
    have w2' := m2
    obtain ⟨hn, hn1, hn3, hg⟩ := id hgm
    unfold weightM at hP
    have f52 : ∀ (z' : Int) (u' : mm_V), (if ¬ ((0 ≤ s' ∧ s' < I 339 1) ∧ (0 ≤ b' ∧ b' < I 339 0) ∧ 0 ≤ k' ∧ k' < 6) then z' = -1000000001 else z' = wt (MN I (26 + 21 * s'.toNat)) b'.toNat k'.toNat) → Ok 52 [.inr (some 338), .inl s', .inl b', .inl k', u'] [.inl z'] (I, mm_R0) := by
      intro z' u' h'
      refine c52 _ _ _ ?_
      simp only [b_X12_weight_52, i_xorg, i_shl, i_shr, i_ior, i_and1, i_lcg1, i_lcg2, i_ld, i_la, i_st, i_sa, i_c, i_inc, i_add, i_sub, i_mul, i_div, i_rem, i_remT, i_xor, i_dup, i_dup2, i_if, i_if2, i_sw, i_gi, i_gr, i_pi, i_pz, i_ial, i_ias, i_len, i_aal, i_gs, i_tal, i_cv, i_cs, i_ir, i_zr, i_vr, i_min, i_max, i_cpy, List.getElem?_cons_zero, List.getElem?_cons_succ, List.set_cons_zero, List.set_cons_succ, List.length_cons, List.length_nil, List.drop_succ_cons, List.drop_zero, List.take_succ_cons, List.take_zero, List.reverse_cons, List.reverse_nil, List.nil_append, List.cons_append, Option.toList_some, Option.toList_none, true_and, and_true, true_or, or_true, Nat.reduceAdd, Nat.reduceLT, Nat.reduceLeDiff, Option.some.injEq, exists_eq_left', Int.toNat_natCast, Nat.reduceSub, List.append_nil, List.replicate_succ, List.replicate_zero]
      exact hP z' h'
    have no' : ¬ ((0 ≤ s' ∧ s' < I 339 1) ∧ (0 ≤ b' ∧ b' < I 339 0) ∧ 0 ≤ k' ∧ k' < 6) → Ok 29 [.inr (some 338), .inl s', .inl b', .inl k', .inr none] [] (I, mm_R0) := by
      intro h'
      refine c29 _ _ _ ?_
      simp only [b_X12_weight_29, i_xorg, i_shl, i_shr, i_ior, i_and1, i_lcg1, i_lcg2, i_ld, i_la, i_st, i_sa, i_c, i_inc, i_add, i_sub, i_mul, i_div, i_rem, i_remT, i_xor, i_dup, i_dup2, i_if, i_if2, i_sw, i_gi, i_gr, i_pi, i_pz, i_ial, i_ias, i_len, i_aal, i_gs, i_tal, i_cv, i_cs, i_ir, i_zr, i_vr, i_min, i_max, i_cpy, List.getElem?_cons_zero, List.getElem?_cons_succ, List.set_cons_zero, List.set_cons_succ, List.length_cons, List.length_nil, List.drop_succ_cons, List.drop_zero, List.take_succ_cons, List.take_zero, List.reverse_cons, List.reverse_nil, List.nil_append, List.cons_append, Option.toList_some, Option.toList_none, true_and, and_true, true_or, or_true, Nat.reduceAdd, Nat.reduceLT, Nat.reduceLeDiff, Option.some.injEq, exists_eq_left', Int.toNat_natCast, Nat.reduceSub, List.append_nil, List.replicate_succ, List.replicate_zero]
      refine c30 _ _ _ ?_
      simp only [b_X12_weight_30, i_xorg, i_shl, i_shr, i_ior, i_and1, i_lcg1, i_lcg2, i_ld, i_la, i_st, i_sa, i_c, i_inc, i_add, i_sub, i_mul, i_div, i_rem, i_remT, i_xor, i_dup, i_dup2, i_if, i_if2, i_sw, i_gi, i_gr, i_pi, i_pz, i_ial, i_ias, i_len, i_aal, i_gs, i_tal, i_cv, i_cs, i_ir, i_zr, i_vr, i_min, i_max, i_cpy, List.getElem?_cons_zero, List.getElem?_cons_succ, List.set_cons_zero, List.set_cons_succ, List.length_cons, List.length_nil, List.drop_succ_cons, List.drop_zero, List.take_succ_cons, List.take_zero, List.reverse_cons, List.reverse_nil, List.nil_append, List.cons_append, Option.toList_some, Option.toList_none, true_and, and_true, true_or, or_true, Nat.reduceAdd, Nat.reduceLT, Nat.reduceLeDiff, Option.some.injEq, exists_eq_left', Int.toNat_natCast, Nat.reduceSub, List.append_nil, List.replicate_succ, List.replicate_zero]
      exact ⟨fun _ => f52 _ _ (by rw [if_pos h']), fun w' => absurd trivial w'⟩
    refine c0 _ _ _ ?_
    simp only [b_X12_weight_0, i_xorg, i_shl, i_shr, i_ior, i_and1, i_lcg1, i_lcg2, i_ld, i_la, i_st, i_sa, i_c, i_inc, i_add, i_sub, i_mul, i_div, i_rem, i_remT, i_xor, i_dup, i_dup2, i_if, i_if2, i_sw, i_gi, i_gr, i_pi, i_pz, i_ial, i_ias, i_len, i_aal, i_gs, i_tal, i_cv, i_cs, i_ir, i_zr, i_vr, i_min, i_max, i_cpy, List.getElem?_cons_zero, List.getElem?_cons_succ, List.set_cons_zero, List.set_cons_succ, List.length_cons, List.length_nil, List.drop_succ_cons, List.drop_zero, List.take_succ_cons, List.take_zero, List.reverse_cons, List.reverse_nil, List.nil_append, List.cons_append, Option.toList_some, Option.toList_none, true_and, and_true, true_or, or_true, Nat.reduceAdd, Nat.reduceLT, Nat.reduceLeDiff, Option.some.injEq, exists_eq_left', Int.toNat_natCast, Nat.reduceSub, List.append_nil, List.replicate_succ, List.replicate_zero, mm_in, w0', w1', w2', T_X12_isBody, T_X12_isSurface, T_X12_in]
    refine ⟨by omega, fun z1 hz1 => ⟨fun y' => no' (fun w' => bz_f hz1 y' w'.1), fun y1 => ⟨by omega, fun z2 hz2 => ⟨fun y' => no' (fun w' => bz_f hz2 (by omega) w'.2.1), fun y2 => ?_⟩⟩⟩⟩
    have h1 := bz_t hz1 y1
    have h2 := bz_t hz2 y2
    refine fun z3 hz3 => ⟨fun y3 => no' (fun w' => by have := bz_f hz3 y3; omega), fun y3 => ?_⟩
    have h3 := bz_t hz3 y3
    refine c30 _ _ _ ?_
    simp only [b_X12_weight_30, i_xorg, i_shl, i_shr, i_ior, i_and1, i_lcg1, i_lcg2, i_ld, i_la, i_st, i_sa, i_c, i_inc, i_add, i_sub, i_mul, i_div, i_rem, i_remT, i_xor, i_dup, i_dup2, i_if, i_if2, i_sw, i_gi, i_gr, i_pi, i_pz, i_ial, i_ias, i_len, i_aal, i_gs, i_tal, i_cv, i_cs, i_ir, i_zr, i_vr, i_min, i_max, i_cpy, List.getElem?_cons_zero, List.getElem?_cons_succ, List.set_cons_zero, List.set_cons_succ, List.length_cons, List.length_nil, List.drop_succ_cons, List.drop_zero, List.take_succ_cons, List.take_zero, List.reverse_cons, List.reverse_nil, List.nil_append, List.cons_append, Option.toList_some, Option.toList_none, true_and, and_true, true_or, or_true, Nat.reduceAdd, Nat.reduceLT, Nat.reduceLeDiff, Option.some.injEq, exists_eq_left', Int.toNat_natCast, Nat.reduceSub, List.append_nil, List.replicate_succ, List.replicate_zero, mm_in, w0', T_X12_surfaceAt, T_X12_weightOf]
    refine ⟨fun w' => by omega, fun _ => ?_⟩
    obtain ⟨t', rfl⟩ := Int.eq_ofNat_of_zero_le h1.1
    refine ⟨by omega, by omega, 26 + 21 * t', b'.toNat, k'.toNat, by omega, by omega, by omega, by omega, by omega, by omega, b20_bd (v3 t' (by omega)), f52 _ _ ?_⟩
    rw [if_neg (by omega), Int.toNat_natCast]
  · exact hT.elim
theorem sp_X12_weight : mm_Sp yX12_weight cX12_weight 5 (some .int) rm_X12_weight T_X12_weight := mm_meth (by decide) (by
  intro av σ Post h
  unfold T_X12_weight at h
  split at h
  · simp
  · exact h.elim) (fun p l e s m args below meth c G av σ Post hC hr _ hav hin hk hT => pv_X12_weight av σ Post hav hin hk hT _ (bk_X12_weight hC hr))
def arcsM (I : Nat → Nat → Int) (s' b' f' v' z' : Int) : Prop :=
  if ¬ ((0 ≤ s' ∧ s' < I 339 1) ∧ ((0 ≤ b' ∧ b' < I 339 0) ∧ 0 ≤ f' ∧ f' < 4) ∧ (0 ≤ v' ∧ v' < 4) ∧ v' ≠ f') then z' = -1000000001 else z' = ac (MN I (26 + 21 * s'.toNat)) b'.toNat f'.toNat v'.toNat
def T_X12_arcs : mm_T := fun av σ Post => match av with
  | [.inr (some a), .inl s', .inl b', .inl f', .inl v'] => σ.2 = mm_R0 ∧ a = 338 ∧ (∃ n' : Nat, gM σ.1 n') ∧ shM σ.1 ∧ ∀ z' : Int, arcsM σ.1 s' b' f' v' z' → Post (some (.inl z')) σ
  | _ => False
def rm_X12_arcs : Room := { frames := 2, cells := 0, slots := 0, locals := 45 }
def b_X12_arcs_0 (Ok : Nat → mm_K) (Post : Option mm_V → mm_S → Prop) (kf : Nat) : mm_K := i_la 0 (i_ld 1 (i_cv 11 1 T_X12_isSurface (i_if (fun x => x = 0) (Ok 41) (i_la 0 (i_ld 2 (i_cv 11 1 T_X12_isBody (i_if (fun x => x = 0) (Ok 41) (i_ld 3 (i_cs 1 T_X12_isSide (i_if (fun x => x = 0) (Ok 41) (i_ld 4 (i_cs 1 T_X12_isSide (i_if (fun x => x = 0) (Ok 41) (i_ld 3 (i_ld 4 (i_if2 (fun x y => x = y) (Ok 41) (i_c 1 (Ok 42))))))))))))))))))
def b_X12_arcs_41 (Ok : Nat → mm_K) (Post : Option mm_V → mm_S → Prop) (kf : Nat) : mm_K := i_c 0 (Ok 42)
def b_X12_arcs_42 (Ok : Nat → mm_K) (Post : Option mm_V → mm_S → Prop) (kf : Nat) : mm_K := i_st 5 (i_ld 5 (i_if (fun x => x = 0) (i_c (-1000000001) (Ok 69)) (i_la 0 (i_ld 1 (i_cs 1 T_X12_surfaceAt (i_c 4 (i_ld 2 (i_mul (i_ld 3 (i_add (i_ld 4 (i_cv 11 3 T_X12_arcsOf (Ok 69)))))))))))))
def b_X12_arcs_69 (Ok : Nat → mm_K) (Post : Option mm_V → mm_S → Prop) (kf : Nat) : mm_K := i_ir Post kf
def clo_X12_arcs (Ok : Nat → mm_K) (Post : Option mm_V → mm_S → Prop) (kf : Nat) : Prop := mm_imp (b_X12_arcs_0 Ok Post kf) (Ok 0) ∧ mm_imp (b_X12_arcs_41 Ok Post kf) (Ok 41) ∧ mm_imp (b_X12_arcs_42 Ok Post kf) (Ok 42) ∧ mm_imp (b_X12_arcs_69 Ok Post kf) (Ok 69)
set_option maxRecDepth 100000 in
set_option maxHeartbeats 4000000 in
theorem bk_X12_arcs {p : Program} {l : Launch} {e : Env} {s : State} {m : MethodId} {args : Array Value} {below : List Frame} {meth : Method} {c : Code} {G : mm_G} {σ0 : mm_S} {Post : Option mm_V → mm_S → Prop} (hC : mm_C p G s m args meth c cX12_arcs yX12_arcs.cls) (hr : meth.sig.returnType = some .int) : clo_X12_arcs (mm_O p l e rm_X12_arcs s m args below meth c G σ0.2.2 (MQ below (mm_Qc G σ0 rm_X12_arcs.cells rm_X12_arcs.slots Post) args s rm_X12_arcs.cells rm_X12_arcs.slots (mm_A G))) Post σ0.2.2 := ⟨(by unfold b_X12_arcs_0; exact (mm_la_n hC dX12_arcs_0 rfl (mm_ld_n hC dX12_arcs_1 rfl (mm_cv hC sp_X12_isSurface ⟨rfl, rfl⟩ cl_11 wd_975 wd_977 wd_48 wd_978 wd_77 ⟨by decide, by decide, by decide +kernel⟩ ⟨by decide, by decide⟩ dX12_arcs_2 (mm_if_eq hC (t := 41) dX12_arcs_5 (by decide) (fun _ _ _ h => h) (mm_la_n hC dX12_arcs_8 rfl (mm_ld_n hC dX12_arcs_9 rfl (mm_cv hC sp_X12_isBody ⟨rfl, rfl⟩ cl_11 wd_999 wd_1001 wd_52 wd_1002 wd_77 ⟨by decide, by decide, by decide +kernel⟩ ⟨by decide, by decide⟩ dX12_arcs_10 (mm_if_eq hC (t := 41) dX12_arcs_13 (by decide) (fun _ _ _ h => h) (mm_ld_n hC dX12_arcs_16 rfl (mm_cs hC sp_X12_isSide ⟨rfl, rfl⟩ wd_1003 wd_1004 wd_1005 wd_77 ⟨by decide, by decide, by decide +kernel⟩ ⟨by decide, by decide⟩ dX12_arcs_17 (mm_if_eq hC (t := 41) dX12_arcs_20 (by decide) (fun _ _ _ h => h) (mm_ld hC dX12_arcs_23 (mm_cs hC sp_X12_isSide ⟨rfl, rfl⟩ wd_1003 wd_1004 wd_1005 wd_77 ⟨by decide, by decide, by decide +kernel⟩ ⟨by decide, by decide⟩ dX12_arcs_25 (mm_if_eq hC (t := 41) dX12_arcs_28 (by decide) (fun _ _ _ h => h) (mm_ld_n hC dX12_arcs_31 rfl (mm_ld hC dX12_arcs_32 (mm_ic_eq hC (t := 41) dX12_arcs_34 (by decide) (fun _ _ _ h => h) (mm_ic hC dX12_arcs_37 ⟨by decide, by decide⟩ (mm_goto hC (t := 42) dX12_arcs_38 (by decide) (fun _ _ _ h => h))))))))))))))))))))), (by unfold b_X12_arcs_41; exact (mm_ic hC dX12_arcs_41 ⟨by decide, by decide⟩ (fun _ _ _ h => h))), (by unfold b_X12_arcs_42; exact (mm_st hC dX12_arcs_42 (mm_ld hC dX12_arcs_44 (mm_if_eq hC (t := 67) dX12_arcs_46 (by decide) (mm_ldc hC dX12_arcs_67 ⟨by decide, by decide⟩ wd_1006 (fun _ _ _ h => h)) (mm_la_n hC dX12_arcs_49 rfl (mm_ld_n hC dX12_arcs_50 rfl (mm_cs hC sp_X12_surfaceAt ⟨rfl, rfl⟩ wd_972 wd_973 wd_974 wd_77 ⟨by decide, by decide, by decide +kernel⟩ ⟨by decide, by decide⟩ dX12_arcs_51 (mm_ic hC dX12_arcs_54 ⟨by decide, by decide⟩ (mm_ld_n hC dX12_arcs_55 rfl (mm_mul hC dX12_arcs_56 (mm_ld_n hC dX12_arcs_57 rfl (mm_add hC dX12_arcs_58 (mm_ld hC dX12_arcs_59 (mm_cv hC sp_X12_arcsOf ⟨rfl, rfl⟩ cl_11 wd_913 wd_915 wd_37 wd_916 wd_77 ⟨by decide, by decide, by decide +kernel⟩ ⟨by decide, by decide⟩ dX12_arcs_61 (mm_goto hC (t := 69) dX12_arcs_64 (by decide) (fun _ _ _ h => h)))))))))))))))), (by unfold b_X12_arcs_69; exact (mm_ir hC ⟨rfl, rfl⟩ hr dX12_arcs_69))⟩
set_option maxRecDepth 100000 in
set_option maxHeartbeats 8000000 in
theorem pv_X12_arcs : ∀ (av : List mm_V) (σ : mm_S) (Post : Option mm_V → mm_S → Prop), (∀ v ∈ av, mm_iv v) → (∀ a j, mm_in (σ.1 a j)) → σ.2.2 ≤ 348 → T_X12_arcs av σ Post → ∀ Ok : Nat → mm_K, clo_X12_arcs Ok Post σ.2.2 → Ok 0 (av ++ List.replicate (6 - av.length) (.inr none)) [] σ := by
  intro av σ Post hav hin hk hT Ok hcl
  obtain ⟨I, R0⟩ := σ
  unfold T_X12_arcs at hT
  split at hT
  · rename_i a s' b' f' v'
    obtain ⟨h0, hT⟩ := hT
    have h0 : R0 = mm_R0 := h0
    subst h0
    dsimp only at hT hin
    obtain ⟨c0, c41, c42, c69⟩ := hcl
    obtain ⟨rfl, ⟨n', hgm⟩, ⟨v1', v2, v3⟩, hP⟩ := hT
    have w0' := m0
    have w1' := m1
    have w2' := m2
    obtain ⟨hn, hn1, hn3, hg⟩ := id hgm
    unfold arcsM at hP
    have f69 : ∀ (z' : Int) (u' : mm_V), (if ¬ ((0 ≤ s' ∧ s' < I 339 1) ∧ ((0 ≤ b' ∧ b' < I 339 0) ∧ 0 ≤ f' ∧ f' < 4) ∧ (0 ≤ v' ∧ v' < 4) ∧ v' ≠ f') then z' = -1000000001 else z' = ac (MN I (26 + 21 * s'.toNat)) b'.toNat f'.toNat v'.toNat) → Ok 69 [.inr (some 338), .inl s', .inl b', .inl f', .inl v', u'] [.inl z'] (I, mm_R0) := by
      intro z' u' h'
      refine c69 _ _ _ ?_
      simp only [b_X12_arcs_69, i_xorg, i_shl, i_shr, i_ior, i_and1, i_lcg1, i_lcg2, i_ld, i_la, i_st, i_sa, i_c, i_inc, i_add, i_sub, i_mul, i_div, i_rem, i_remT, i_xor, i_dup, i_dup2, i_if, i_if2, i_sw, i_gi, i_gr, i_pi, i_pz, i_ial, i_ias, i_len, i_aal, i_gs, i_tal, i_cv, i_cs, i_ir, i_zr, i_vr, i_min, i_max, i_cpy, List.getElem?_cons_zero, List.getElem?_cons_succ, List.set_cons_zero, List.set_cons_succ, List.length_cons, List.length_nil, List.drop_succ_cons, List.drop_zero, List.take_succ_cons, List.take_zero, List.reverse_cons, List.reverse_nil, List.nil_append, List.cons_append, Option.toList_some, Option.toList_none, true_and, and_true, true_or, or_true, Nat.reduceAdd, Nat.reduceLT, Nat.reduceLeDiff, Option.some.injEq, exists_eq_left', Int.toNat_natCast, Nat.reduceSub, List.append_nil, List.replicate_succ, List.replicate_zero]
      exact hP z' h'
    have no' : ¬ ((0 ≤ s' ∧ s' < I 339 1) ∧ ((0 ≤ b' ∧ b' < I 339 0) ∧ 0 ≤ f' ∧ f' < 4) ∧ (0 ≤ v' ∧ v' < 4) ∧ v' ≠ f') → Ok 41 [.inr (some 338), .inl s', .inl b', .inl f', .inl v', .inr none] [] (I, mm_R0) := by
      intro h'
      refine c41 _ _ _ ?_
      simp only [b_X12_arcs_41, i_xorg, i_shl, i_shr, i_ior, i_and1, i_lcg1, i_lcg2, i_ld, i_la, i_st, i_sa, i_c, i_inc, i_add, i_sub, i_mul, i_div, i_rem, i_remT, i_xor, i_dup, i_dup2, i_if, i_if2, i_sw, i_gi, i_gr, i_pi, i_pz, i_ial, i_ias, i_len, i_aal, i_gs, i_tal, i_cv, i_cs, i_ir, i_zr, i_vr, i_min, i_max, i_cpy, List.getElem?_cons_zero, List.getElem?_cons_succ, List.set_cons_zero, List.set_cons_succ, List.length_cons, List.length_nil, List.drop_succ_cons, List.drop_zero, List.take_succ_cons, List.take_zero, List.reverse_cons, List.reverse_nil, List.nil_append, List.cons_append, Option.toList_some, Option.toList_none, true_and, and_true, true_or, or_true, Nat.reduceAdd, Nat.reduceLT, Nat.reduceLeDiff, Option.some.injEq, exists_eq_left', Int.toNat_natCast, Nat.reduceSub, List.append_nil, List.replicate_succ, List.replicate_zero]
      refine c42 _ _ _ ?_
      simp only [b_X12_arcs_42, i_xorg, i_shl, i_shr, i_ior, i_and1, i_lcg1, i_lcg2, i_ld, i_la, i_st, i_sa, i_c, i_inc, i_add, i_sub, i_mul, i_div, i_rem, i_remT, i_xor, i_dup, i_dup2, i_if, i_if2, i_sw, i_gi, i_gr, i_pi, i_pz, i_ial, i_ias, i_len, i_aal, i_gs, i_tal, i_cv, i_cs, i_ir, i_zr, i_vr, i_min, i_max, i_cpy, List.getElem?_cons_zero, List.getElem?_cons_succ, List.set_cons_zero, List.set_cons_succ, List.length_cons, List.length_nil, List.drop_succ_cons, List.drop_zero, List.take_succ_cons, List.take_zero, List.reverse_cons, List.reverse_nil, List.nil_append, List.cons_append, Option.toList_some, Option.toList_none, true_and, and_true, true_or, or_true, Nat.reduceAdd, Nat.reduceLT, Nat.reduceLeDiff, Option.some.injEq, exists_eq_left', Int.toNat_natCast, Nat.reduceSub, List.append_nil, List.replicate_succ, List.replicate_zero]
      exact ⟨fun _ => f69 _ _ (by rw [if_pos h']), fun w' => absurd trivial w'⟩
    refine c0 _ _ _ ?_
    simp only [b_X12_arcs_0, i_xorg, i_shl, i_shr, i_ior, i_and1, i_lcg1, i_lcg2, i_ld, i_la, i_st, i_sa, i_c, i_inc, i_add, i_sub, i_mul, i_div, i_rem, i_remT, i_xor, i_dup, i_dup2, i_if, i_if2, i_sw, i_gi, i_gr, i_pi, i_pz, i_ial, i_ias, i_len, i_aal, i_gs, i_tal, i_cv, i_cs, i_ir, i_zr, i_vr, i_min, i_max, i_cpy, List.getElem?_cons_zero, List.getElem?_cons_succ, List.set_cons_zero, List.set_cons_succ, List.length_cons, List.length_nil, List.drop_succ_cons, List.drop_zero, List.take_succ_cons, List.take_zero, List.reverse_cons, List.reverse_nil, List.nil_append, List.cons_append, Option.toList_some, Option.toList_none, true_and, and_true, true_or, or_true, Nat.reduceAdd, Nat.reduceLT, Nat.reduceLeDiff, Option.some.injEq, exists_eq_left', Int.toNat_natCast, Nat.reduceSub, List.append_nil, List.replicate_succ, List.replicate_zero, mm_in, w0', w1', w2', T_X12_isBody, T_X12_isSurface, T_X12_isSide]
    refine ⟨by omega, fun z1 hz1 => ⟨fun y' => no' (fun w' => bz_f hz1 y' w'.1), fun y1 => ⟨by omega, fun z2 hz2 => ⟨fun y' => no' (fun w' => bz_f hz2 (by omega) w'.2.1.1), fun y2 => ?_⟩⟩⟩⟩
    have h1 := bz_t hz1 y1
    have h2 := bz_t hz2 y2
    refine fun z3 hz3 => ⟨fun y3 => no' (fun w' => bz_f hz3 y3 w'.2.1.2), fun y3 => ?_⟩
    have h3 := bz_t hz3 y3
    refine fun z4 hz4 => ⟨fun y4 => no' (fun w' => bz_f hz4 y4 w'.2.2.1), fun y4 => ?_⟩
    have h4 := bz_t hz4 y4
    refine ⟨fun e' => no' (fun w' => w'.2.2.2 e'.symm), fun e' => ?_⟩
    refine c42 _ _ _ ?_
    simp only [b_X12_arcs_42, i_xorg, i_shl, i_shr, i_ior, i_and1, i_lcg1, i_lcg2, i_ld, i_la, i_st, i_sa, i_c, i_inc, i_add, i_sub, i_mul, i_div, i_rem, i_remT, i_xor, i_dup, i_dup2, i_if, i_if2, i_sw, i_gi, i_gr, i_pi, i_pz, i_ial, i_ias, i_len, i_aal, i_gs, i_tal, i_cv, i_cs, i_ir, i_zr, i_vr, i_min, i_max, i_cpy, List.getElem?_cons_zero, List.getElem?_cons_succ, List.set_cons_zero, List.set_cons_succ, List.length_cons, List.length_nil, List.drop_succ_cons, List.drop_zero, List.take_succ_cons, List.take_zero, List.reverse_cons, List.reverse_nil, List.nil_append, List.cons_append, Option.toList_some, Option.toList_none, true_and, and_true, true_or, or_true, Nat.reduceAdd, Nat.reduceLT, Nat.reduceLeDiff, Option.some.injEq, exists_eq_left', Int.toNat_natCast, Nat.reduceSub, List.append_nil, List.replicate_succ, List.replicate_zero, mm_in, w0', T_X12_surfaceAt, T_X12_arcsOf]
    refine ⟨fun w' => by omega, fun _ => ?_⟩
    obtain ⟨t', rfl⟩ := Int.eq_ofNat_of_zero_le h1.1
    refine ⟨by omega, by omega, ?_⟩
    repeat' first | refine And.intro ?_ ?_ | refine fun (_ : _ ≤ _ ∧ _ < _) => ?_
    all_goals try omega
    refine ⟨26 + 21 * t', (4 * b' + f').toNat, v'.toNat, by omega, by omega, by omega, by omega, by omega, by omega, by omega, b20_bd (v3 t' (by omega)), f69 _ _ ?_⟩
    rw [if_neg (fun w' => w' ⟨h1, ⟨h2, h3⟩, h4, fun w' => e' w'.symm⟩), Int.toNat_natCast, show (4 * b' + f').toNat / 4 = b'.toNat by omega, show (4 * b' + f').toNat % 4 = f'.toNat by omega]
  · exact hT.elim
theorem sp_X12_arcs : mm_Sp yX12_arcs cX12_arcs 6 (some .int) rm_X12_arcs T_X12_arcs := mm_meth (by decide) (by
  intro av σ Post h
  unfold T_X12_arcs at h
  split at h
  · simp
  · exact h.elim) (fun p l e s m args below meth c G av σ Post hC hr _ hav hin hk hT => pv_X12_arcs av σ Post hav hin hk hT _ (bk_X12_arcs hC hr))
