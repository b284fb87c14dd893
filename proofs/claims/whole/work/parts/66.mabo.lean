/-! the other program: about
-/
theorem wNew_cg (W : Nat → Int) {p q : Nat → Int} (h' : ∀ i', i' < 21 → p i' = q i') : wNew W p = wNew W q := by
  funext i'
  unfold wNew
  by_cases c' : 26 + 21 * (W 1).toNat ≤ i' ∧ i' < 26 + 21 * (W 1).toNat + 21
  · rw [if_pos c', if_pos c', h' _ (by omega)]
  · rw [if_neg c', if_neg c']
theorem nr_eqL {L M' : Nat → Nat} (h' : ∀ x', L x' = M' x') (N : Nat) : nr L N = nr M' N := by
  unfold nr
  exact sm_congr (fun k' _ => by rw [h' k'])
theorem lkM_lk {n' : Nat} {pa wy : Nat → Int} (hn : n' ≤ 3) (hg : gok n' pa wy) {r : Nat} (hr : (room n' pa wy).1 r = r) (i' : Nat) : lkM n' (room n' pa wy).1 r i' = lk n' (vno (skel n' pa wy)) (nr (skel n' pa wy).1 r) i' := by
  unfold lkM lk vno
  have e' : ∀ x', (room n' pa wy).1 x' = (skel n' pa wy).1 x' := room_skC hn hg
  have key' : (room n' pa wy).1 (4 * (i' / 7) + i' % 7) = r ↔ nr (skel n' pa wy).1 ((skel n' pa wy).1 (4 * (i' / 7) + i' % 7)) = nr (skel n' pa wy).1 r := by
    rw [← e', ← nr_eqL e', ← nr_eqL e']
    exact ⟨fun w' => by rw [w'], fun w' => nr_inj (isLab_idem (room_C n' pa wy) _) hr w'⟩
  by_cases c' : i' % 7 < 4 ∧ i' / 7 < n' ∧ (room n' pa wy).1 (4 * (i' / 7) + i' % 7) = r
  · rw [if_pos c', if_pos ⟨c'.1, c'.2.1, key'.mp c'.2.2⟩]
  · rw [if_neg c', if_neg (fun w' => c' ⟨w'.1, w'.2.1, key'.mpr w'.2.2⟩)]
def T_X12_about : mm_T := fun av σ Post => match av with
  | [.inr (some a), .inl p] => mT (fun S' => aboF S' p) a σ Post
  | _ => False
def rm_X12_about : Room := { frames := 5, cells := 0, slots := 0, locals := 119 }
def b_X12_about_0 (Ok : Nat → mm_K) (Post : Option mm_V → mm_S → Prop) (kf : Nat) : mm_K := i_ld 1 (i_c 0 (i_la 0 (i_cv 11 0 T_X12_points (i_c 1 (i_sub (i_cs 3 T_X12_in (i_if (fun x => ¬ x = 0) (i_la 0 (i_gr 11 0 (i_c 1 (i_ial (i_c 6 (i_if2 (fun x y => ¬ x = y) (i_la 0 (i_cv 11 0 T_X12_remember (i_la 0 (i_cv 11 0 T_X12_newSurface (i_st 2 (i_la 0 (i_cv 11 0 T_X12_layRoom (i_c 0 (i_st 3 (Ok 46)))))))))) (i_c (-1000000004) (i_ir Post kf)))))))) (i_c (-1000000001) (i_ir Post kf)))))))))
def b_X12_about_46 (Ok : Nat → mm_K) (Post : Option mm_V → mm_S → Prop) (kf : Nat) : mm_K := i_ld 3 (i_la 0 (i_cv 11 0 T_X12_walls (i_if2 (fun x y => y ≤ x) (i_la 0 (i_gr 11 0 (i_c 1 (i_ial (i_c 1 (i_sub (i_ir Post kf))))))) (i_la 0 (i_gr 11 8 (i_ld 3 (i_ial (i_ld 3 (i_if2 (fun x y => ¬ x = y) (Ok 82) (i_la 0 (i_gr 11 8 (i_ld 3 (i_cs 2 T_X12_firsts (i_ld 1 (i_if2 (fun x y => ¬ x = y) (Ok 82) (i_la 0 (i_ld 3 (i_ld 2 (i_cv 11 2 T_X12_layAbout (Ok 82))))))))))))))))))))
def b_X12_about_82 (Ok : Nat → mm_K) (Post : Option mm_V → mm_S → Prop) (kf : Nat) : mm_K := i_inc 3 1 (Ok 46)
def clo_X12_about (Ok : Nat → mm_K) (Post : Option mm_V → mm_S → Prop) (kf : Nat) : Prop := mm_imp (b_X12_about_0 Ok Post kf) (Ok 0) ∧ mm_imp (b_X12_about_46 Ok Post kf) (Ok 46) ∧ mm_imp (b_X12_about_82 Ok Post kf) (Ok 82)
set_option maxRecDepth 100000 in
set_option maxHeartbeats 4000000 in
theorem bk_X12_about {p : Program} {l : Launch} {e : Env} {s : State} {m : MethodId} {args : Array Value} {below : List Frame} {meth : Method} {c : Code} {G : mm_G} {σ0 : mm_S} {Post : Option mm_V → mm_S → Prop} (hC : mm_C p G s m args meth c cX12_about yX12_about.cls) (hr : meth.sig.returnType = some .int) : clo_X12_about (mm_O p l e rm_X12_about s m args below meth c G σ0.2.2 (MQ below (mm_Qc G σ0 rm_X12_about.cells rm_X12_about.slots Post) args s rm_X12_about.cells rm_X12_about.slots (mm_A G))) Post σ0.2.2 := ⟨(by unfold b_X12_about_0; exact (mm_ld_n hC dX12_about_0 rfl (mm_ic hC dX12_about_1 ⟨by decide, by decide⟩ (mm_la_n hC dX12_about_2 rfl (mm_cv hC sp_X12_points ⟨rfl, rfl⟩ cl_11 wd_845 wd_847 wd_23 wd_848 wd_77 ⟨by decide, by decide, by decide +kernel⟩ ⟨by decide, by decide⟩ dX12_about_3 (mm_ic hC dX12_about_6 ⟨by decide, by decide⟩ (mm_sub hC dX12_about_7 (mm_cs hC sp_X12_in ⟨rfl, rfl⟩ wd_979 wd_980 wd_981 wd_77 ⟨by decide, by decide, by decide +kernel⟩ ⟨by decide, by decide⟩ dX12_about_8 (mm_if_ne hC (t := 17) dX12_about_11 (by decide) (mm_la_n hC dX12_about_17 rfl (mm_gr hC cl_11 (by decide) rfl wd_789 dX12_about_18 (mm_ic hC dX12_about_21 ⟨by decide, by decide⟩ (mm_ial hC dX12_about_22 (mm_bp hC dX12_about_23 ⟨⟨by decide, by decide⟩, by decide⟩ (mm_ic_ne hC (t := 31) dX12_about_25 (by decide) (mm_la_n hC dX12_about_31 rfl (mm_cv hC sp_X12_remember ⟨rfl, rfl⟩ cl_11 wd_1051 wd_1053 wd_57 wd_1054 wd_77 ⟨by decide, by decide, by decide +kernel⟩ ⟨by decide, by decide⟩ dX12_about_32 (mm_la_n hC dX12_about_35 rfl (mm_cv hC sp_X12_newSurface ⟨rfl, rfl⟩ cl_11 wd_1084 wd_1086 wd_61 wd_1087 wd_77 ⟨by decide, by decide, by decide +kernel⟩ ⟨by decide, by decide⟩ dX12_about_36 (mm_st_n hC dX12_about_39 rfl (mm_la_n hC dX12_about_40 rfl (mm_cv hC sp_X12_layRoom ⟨rfl, rfl⟩ cl_11 wd_849 wd_851 wd_24 wd_852 wd_77 ⟨by decide, by decide, by decide +kernel⟩ ⟨by decide, by decide⟩ dX12_about_41 (mm_ic hC dX12_about_44 ⟨by decide, by decide⟩ (mm_st_n hC dX12_about_45 rfl (fun _ _ _ h => h)))))))))) (mm_ldc hC dX12_about_28 ⟨by decide, by decide⟩ wd_1083 (mm_ir hC ⟨rfl, rfl⟩ hr dX12_about_30)))))))) (mm_ldc hC dX12_about_14 ⟨by decide, by decide⟩ wd_1006 (mm_ir hC ⟨rfl, rfl⟩ hr dX12_about_16))))))))))), (by unfold b_X12_about_46; exact (mm_ld_n hC dX12_about_46 rfl (mm_la_n hC dX12_about_47 rfl (mm_cv hC sp_X12_walls ⟨rfl, rfl⟩ cl_11 wd_837 wd_839 wd_21 wd_840 wd_77 ⟨by decide, by decide, by decide +kernel⟩ ⟨by decide, by decide⟩ dX12_about_48 (mm_ic_ge hC (t := 88) dX12_about_51 (by decide) (mm_la_n hC dX12_about_88 rfl (mm_gr hC cl_11 (by decide) rfl wd_789 dX12_about_89 (mm_ic hC dX12_about_92 ⟨by decide, by decide⟩ (mm_ial hC dX12_about_93 (mm_ic hC dX12_about_94 ⟨by decide, by decide⟩ (mm_sub hC dX12_about_95 (mm_ir hC ⟨rfl, rfl⟩ hr dX12_about_96))))))) (mm_la_n hC dX12_about_54 rfl (mm_gr hC cl_11 (by decide) rfl wd_797 dX12_about_55 (mm_ld_n hC dX12_about_58 rfl (mm_ial hC dX12_about_59 (mm_ld_n hC dX12_about_60 rfl (mm_ic_ne hC (t := 82) dX12_about_61 (by decide) (fun _ _ _ h => h) (mm_la_n hC dX12_about_64 rfl (mm_gr hC cl_11 (by decide) rfl wd_797 dX12_about_65 (mm_ld_n hC dX12_about_68 rfl (mm_cs hC sp_X12_firsts ⟨rfl, rfl⟩ wd_870 wd_871 wd_872 wd_77 ⟨by decide, by decide, by decide +kernel⟩ ⟨by decide, by decide⟩ dX12_about_69 (mm_ld_n hC dX12_about_72 rfl (mm_ic_ne hC (t := 82) dX12_about_73 (by decide) (fun _ _ _ h => h) (mm_la_n hC dX12_about_76 rfl (mm_ld_n hC dX12_about_77 rfl (mm_ld_n hC dX12_about_78 rfl (mm_cv hC sp_X12_layAbout ⟨rfl, rfl⟩ cl_11 wd_897 wd_899 wd_33 wd_900 wd_77 ⟨by decide, by decide, by decide +kernel⟩ ⟨by decide, by decide⟩ dX12_about_79 (fun _ _ _ h => h)))))))))))))))))))))), (by unfold b_X12_about_82; exact (mm_inc hC dX12_about_82 (mm_goto hC (t := 46) dX12_about_85 (by decide) (fun _ _ _ h => h))))⟩
set_option maxRecDepth 100000 in
set_option maxHeartbeats 8000000 in
theorem pv_X12_about : ∀ (av : List mm_V) (σ : mm_S) (Post : Option mm_V → mm_S → Prop), (∀ v ∈ av, mm_iv v) → (∀ a j, mm_in (σ.1 a j)) → σ.2.2 ≤ 348 → T_X12_about av σ Post → ∀ Ok : Nat → mm_K, clo_X12_about Ok Post σ.2.2 → Ok 0 (av ++ List.replicate (4 - av.length) (.inr none)) [] σ := by
  intro av σ Post hav hin hk hT Ok hcl
  obtain ⟨I, R0⟩ := σ
  unfold T_X12_about at hT
  split at hT
  · rename_i a p
    obtain ⟨h0, hT⟩ := hT
    have h0 : R0 = mm_R0 := h0
    subst h0
    dsimp only at hT hin
    obtain ⟨c0, c46, c82⟩ := hcl
    obtain ⟨rfl, S', hS', ok, hP⟩ := hT
    have w0' := m0
    have w1' := m1
    have w2' := m2
    have r4 := Rs_338.2.2.2.2.1
    have s5 := sh_338.2.2.2.2.2.1
    obtain ⟨nn, m', okA, okB, okC, okD, okE, okF, okG⟩ := id ok.1
    obtain ⟨n', hn, hgm, hsh, hbk, hag⟩ := mSt_gM hS' ok
    have hn3 := hgm.2.2.1
    have enn : nn = n' := by omega
    subst enn
    have hm' : I 339 1 = (m' : Int) := by rw [(mW_0 hS'.1).2.1, okB]
    have eR : room nn (MP I) (MY I) = room nn (pw (S' 0)) (ww (S' 0)) := room_cg hn3 hag hgm.2.2.2
    have eC' : ∀ x', (room nn (pw (S' 0)) (ww (S' 0))).1 x' = (skel nn (pw (S' 0)) (ww (S' 0))).1 x' := room_skC hn3 okF
    obtain ⟨L, hL⟩ : ∃ L, room nn (pw (S' 0)) (ww (S' 0)) = L := ⟨_, rfl⟩
    have eF : aboF S' p = if ¬ (0 ≤ p ∧ p < nr L.1 (4 * nn)) then (S', -1000000001) else if 6 ≤ S' 0 1 then (S', -1000000004)
      else (upW (recS S') (wNew (S' 0) (lk nn (vno (skel nn (pw (S' 0)) (ww (S' 0)))) p)), S' 0 1) := by
      unfold aboF
      rw [hn, Int.toNat_natCast, ← nr_eqL eC', hL]
    rw [okB] at eF
    rw [hL] at eR
    have hNb := nr_b L.1 (4 * nn)
    refine c0 _ _ _ ?_
    simp only [b_X12_about_0, i_xorg, i_shl, i_shr, i_ior, i_and1, i_lcg1, i_lcg2, i_ld, i_la, i_st, i_sa, i_c, i_inc, i_add, i_sub, i_mul, i_div, i_rem, i_remT, i_xor, i_dup, i_dup2, i_if, i_if2, i_sw, i_gi, i_gr, i_pi, i_pz, i_ial, i_ias, i_len, i_aal, i_gs, i_tal, i_cv, i_cs, i_ir, i_zr, i_vr, i_min, i_max, i_cpy, List.getElem?_cons_zero, List.getElem?_cons_succ, List.set_cons_zero, List.set_cons_succ, List.length_cons, List.length_nil, List.drop_succ_cons, List.drop_zero, List.take_succ_cons, List.take_zero, List.reverse_cons, List.reverse_nil, List.nil_append, List.cons_append, Option.toList_some, Option.toList_none, true_and, and_true, true_or, or_true, Nat.reduceAdd, Nat.reduceLT, Nat.reduceLeDiff, Option.some.injEq, exists_eq_left', Int.toNat_natCast, Nat.reduceSub, List.append_nil, List.replicate_succ, List.replicate_zero, mm_in, w0', T_X12_points]
    refine ⟨nn, hgm, fun H' sH => ?_⟩
    rw [eR]
    have hSH' := mSt_fr hS' ok sH
    have hmH : H' 339 1 = (m' : Int) := by rw [sH.2.1 1 (by omega)]; exact hm'
    simp only [mm_in, w0', w1', w2', t1, hmH, T_X12_in, i_xorg, i_shl, i_shr, i_ior, i_and1, i_lcg1, i_lcg2, i_ld, i_la, i_st, i_sa, i_c, i_inc, i_add, i_sub, i_mul, i_div, i_rem, i_remT, i_xor, i_dup, i_dup2, i_if, i_if2, i_sw, i_gi, i_gr, i_pi, i_pz, i_ial, i_ias, i_len, i_aal, i_gs, i_tal, i_cv, i_cs, i_ir, i_zr, i_vr, i_min, i_max, i_cpy, List.getElem?_cons_zero, List.getElem?_cons_succ, List.set_cons_zero, List.set_cons_succ, List.length_cons, List.length_nil, List.drop_succ_cons, List.drop_zero, List.take_succ_cons, List.take_zero, List.reverse_cons, List.reverse_nil, List.nil_append, List.cons_append, Option.toList_some, Option.toList_none, true_and, and_true, true_or, or_true, Nat.reduceAdd, Nat.reduceLT, Nat.reduceLeDiff, Option.some.injEq, exists_eq_left', Int.toNat_natCast, Nat.reduceSub, List.append_nil, List.replicate_succ, List.replicate_zero]
    refine ⟨⟨by omega, by omega⟩, fun z' hz => ⟨fun y' => ?_, fun y' => ?_⟩⟩
    rotate_left
    · have hf := bz_f hz (by omega)
      rw [if_pos (by omega)] at eF
      simp only [eF] at hP
      exact hP H' (fun b' hb' => sH.1 b' (by omega)) hSH'
    have hp := bz_t hz y'
    rw [if_neg (by omega)] at eF
    refine ⟨⟨by omega, by omega⟩, fun _ => ⟨fun yA => mrecall hSH' ok (fun J' fA fB' hJ => ?_), fun yA => ?_⟩⟩
    rotate_left
    · rw [if_pos (by omega)] at eF
      simp only [eF] at hP
      exact hP H' (fun b' hb' => sH.1 b' (by omega)) hSH'
    rw [if_neg (by omega)] at eF
    simp only [eF] at hP
    obtain ⟨pn, hpn⟩ := Int.eq_ofNat_of_zero_le hp.1
    obtain ⟨r, hr1, hr2, hr3⟩ := nr_pre L.1 (4 * nn) pn (by omega)
    have elk : ∀ i', i' < 21 → lkM nn L.1 r i' = lk nn (vno (skel nn (pw (S' 0)) (ww (S' 0)))) p i' := by
      intro i' _
      have := lkM_lk hn3 okF (r := r) (by rw [hL]; exact hr2) i'
      rw [hL, ← nr_eqL eC', hL, hr3, ← hpn] at this
      exact this
    rw [← wNew_cg (S' 0) elk] at hP
    have hWJ := recW0 hJ
    have hmJ : J' 339 1 = (m' : Int) := by rw [(mW_0 hWJ).2.1, okB]
    simp only [mm_in, w0', T_X12_newSurface, T_X12_layRoom, i_xorg, i_shl, i_shr, i_ior, i_and1, i_lcg1, i_lcg2, i_ld, i_la, i_st, i_sa, i_c, i_inc, i_add, i_sub, i_mul, i_div, i_rem, i_remT, i_xor, i_dup, i_dup2, i_if, i_if2, i_sw, i_gi, i_gr, i_pi, i_pz, i_ial, i_ias, i_len, i_aal, i_gs, i_tal, i_cv, i_cs, i_ir, i_zr, i_vr, i_min, i_max, i_cpy, List.getElem?_cons_zero, List.getElem?_cons_succ, List.set_cons_zero, List.set_cons_succ, List.length_cons, List.length_nil, List.drop_succ_cons, List.drop_zero, List.take_succ_cons, List.take_zero, List.reverse_cons, List.reverse_nil, List.nil_append, List.cons_append, Option.toList_some, Option.toList_none, true_and, and_true, true_or, or_true, Nat.reduceAdd, Nat.reduceLT, Nat.reduceLeDiff, Option.some.injEq, exists_eq_left', Int.toNat_natCast, Nat.reduceSub, List.append_nil, List.replicate_succ, List.replicate_zero]
    refine ⟨m', hmJ, by omega, fun K' gA gB => ?_⟩
    have hWK := mW_0 (mW_new hWJ (fun i' _ => gB i') (by omega))
    have agK : agW (pw (S' 0)) (ww (S' 0)) (MP K') (MY K') := ⟨fun j' hj => by unfold MP; rw [hWK.2.2.1 j' hj, pw_new _ _ hj], fun j' hj h' => by unfold MY; rw [hWK.2.2.2.1 j' hj (by rw [pw_new _ _ hj]; exact h'), ww_new _ _ hj]⟩
    have gmK : gM K' nn := ⟨by rw [hWK.1, wNew_0]; exact hn, okC, okD, gok_cg hn3 agK okF⟩
    refine ⟨nn, gmK, fun M' fM' agM' => ?_⟩
    rw [← room_cg hn3 agK okF, hL] at agM'
    have loop' : ∀ (d' k' : Nat) (Q : Nat → Nat → Int), k' + d' = 4 * nn → (∀ b', b' ≠ 339 → Q b' = M' b') → (∀ i', Q 339 i' = wNew (J' 339) (fun j' => if r < k' then lkM nn L.1 r j' else 0) i') → Ok 46 [.inr (some 338), .inl p, .inl (26 + 21 * (m' : Int)), .inl (k' : Int)] [] (Q, mm_R0) := by
      intro d'
      induction d' with
      | zero =>
        intro k' Q hd' qA qB
        have eQ0 : Q 339 0 = (nn : Int) := by rw [qB, wNew_0, (mW_0 hWJ).1, okA]
        have eQ1 : Q 339 1 = (m' : Int) + 1 := by rw [qB, wNew_1, hmJ]
        refine c46 _ _ _ ?_
        simp only [b_X12_about_46, i_xorg, i_shl, i_shr, i_ior, i_and1, i_lcg1, i_lcg2, i_ld, i_la, i_st, i_sa, i_c, i_inc, i_add, i_sub, i_mul, i_div, i_rem, i_remT, i_xor, i_dup, i_dup2, i_if, i_if2, i_sw, i_gi, i_gr, i_pi, i_pz, i_ial, i_ias, i_len, i_aal, i_gs, i_tal, i_cv, i_cs, i_ir, i_zr, i_vr, i_min, i_max, i_cpy, List.getElem?_cons_zero, List.getElem?_cons_succ, List.set_cons_zero, List.set_cons_succ, List.length_cons, List.length_nil, List.drop_succ_cons, List.drop_zero, List.take_succ_cons, List.take_zero, List.reverse_cons, List.reverse_nil, List.nil_append, List.cons_append, Option.toList_some, Option.toList_none, true_and, and_true, true_or, or_true, Nat.reduceAdd, Nat.reduceLT, Nat.reduceLeDiff, Option.some.injEq, exists_eq_left', Int.toNat_natCast, Nat.reduceSub, List.append_nil, List.replicate_succ, List.replicate_zero, mm_in, w0', w1', w2', t1, T_X12_walls, eQ0, eQ1]
        refine ⟨by omega, by omega, fun _ => ⟨⟨by omega, by omega⟩, fun _ => ⟨⟨by omega, by omega⟩, ?_⟩⟩, fun h' => by omega⟩
        have qC : ∀ i', Q 339 i' = wNew (J' 339) (lkM nn L.1 r) i' := by
          intro i'
          rw [qB i', wNew_cg (J' 339) (q := lkM nn L.1 r) (fun j' _ => by rw [if_pos (by omega)])]
        rw [show (m' : Int) + 1 - 1 = (m' : Int) by omega]
        refine hP Q (fun b' hb' => by rw [qA b' (by omega), fM' b' (by omega), gA b' (by omega), fA b' (by omega) (by omega)]; exact sH.1 b' (by omega)) (mSt_up hJ (okS_rec ok) (fun b' _ hb' hc' => by rw [qA b' hc', fM' b' (by omega), gA b' hc']) (fun j' hj _ => ?_) (fun i' hi' => ?_) (mW_new hWJ (fun i' _ => qC i') (by omega)))
        · rw [qC]
          unfold wNew
          rw [hmJ, if_neg (by omega), if_neg (by omega)]
        · have := hJ.2.2.2.2.2.2.2.2 i' hi'
          unfold MN at this ⊢
          rw [qC]
          unfold wNew
          rw [hmJ, if_neg (by omega), if_neg (by omega)]
          exact this
      | succ d' ih =>
        intro k' Q hd' qA qB
        have eQ0 : Q 339 0 = (nn : Int) := by rw [qB, wNew_0, (mW_0 hWJ).1, okA]
        have ek : Q 343 k' = (L.1 k' : Int) := by rw [qA 343 (by omega)]; exact (agM'.1 k' (by omega)).1
        have eall : ∀ j', j' < 12 → Q 343 j' = (L.1 j' : Int) := fun j' hj => by rw [qA 343 (by omega)]; exact (agM'.1 j' hj).1
        have stp : ∀ (T : Nat → Nat → Int), (∀ b', b' ≠ 339 → T b' = M' b') → (∀ i', T 339 i' = wNew (J' 339) (fun j' => if r < k' + 1 then lkM nn L.1 r j' else 0) i') → Ok 82 [.inr (some 338), .inl p, .inl (26 + 21 * (m' : Int)), .inl (k' : Int)] [] (T, mm_R0) := by
          intro T tA tB'
          have := ih (k' + 1) T (by omega) tA tB'
          rw [Int.natCast_add] at this
          refine c82 _ _ _ ?_
          simp only [b_X12_about_82, i_xorg, i_shl, i_shr, i_ior, i_and1, i_lcg1, i_lcg2, i_ld, i_la, i_st, i_sa, i_c, i_inc, i_add, i_sub, i_mul, i_div, i_rem, i_remT, i_xor, i_dup, i_dup2, i_if, i_if2, i_sw, i_gi, i_gr, i_pi, i_pz, i_ial, i_ias, i_len, i_aal, i_gs, i_tal, i_cv, i_cs, i_ir, i_zr, i_vr, i_min, i_max, i_cpy, List.getElem?_cons_zero, List.getElem?_cons_succ, List.set_cons_zero, List.set_cons_succ, List.length_cons, List.length_nil, List.drop_succ_cons, List.drop_zero, List.take_succ_cons, List.take_zero, List.reverse_cons, List.reverse_nil, List.nil_append, List.cons_append, Option.toList_some, Option.toList_none, true_and, and_true, true_or, or_true, Nat.reduceAdd, Nat.reduceLT, Nat.reduceLeDiff, Option.some.injEq, exists_eq_left', Int.toNat_natCast, Nat.reduceSub, List.append_nil, List.replicate_succ, List.replicate_zero, mm_in,]
          exact ⟨⟨by omega, by omega⟩, this⟩
        have skip' : k' ≠ r → Ok 82 [.inr (some 338), .inl p, .inl (26 + 21 * (m' : Int)), .inl (k' : Int)] [] (Q, mm_R0) := by
          intro h'
          refine stp Q qA (fun i' => ?_)
          rw [qB i']
          refine congrFun (wNew_cg (J' 339) (fun j' _ => ?_)) i'
          by_cases c' : r < k'
          · rw [if_pos c', if_pos (by omega)]
          · rw [if_neg c', if_neg (by omega)]
        refine c46 _ _ _ ?_
        simp only [b_X12_about_46, i_xorg, i_shl, i_shr, i_ior, i_and1, i_lcg1, i_lcg2, i_ld, i_la, i_st, i_sa, i_c, i_inc, i_add, i_sub, i_mul, i_div, i_rem, i_remT, i_xor, i_dup, i_dup2, i_if, i_if2, i_sw, i_gi, i_gr, i_pi, i_pz, i_ial, i_ias, i_len, i_aal, i_gs, i_tal, i_cv, i_cs, i_ir, i_zr, i_vr, i_min, i_max, i_cpy, List.getElem?_cons_zero, List.getElem?_cons_succ, List.set_cons_zero, List.set_cons_succ, List.length_cons, List.length_nil, List.drop_succ_cons, List.drop_zero, List.take_succ_cons, List.take_zero, List.reverse_cons, List.reverse_nil, List.nil_append, List.cons_append, Option.toList_some, Option.toList_none, true_and, and_true, true_or, or_true, Nat.reduceAdd, Nat.reduceLT, Nat.reduceLeDiff, Option.some.injEq, exists_eq_left', Int.toNat_natCast, Nat.reduceSub, List.append_nil, List.replicate_succ, List.replicate_zero, mm_in, w0', w1', w2', r4, s5, T_X12_walls, T_X12_firsts, T_X12_layAbout, eQ0, ek]
        refine ⟨by omega, by omega, fun h' => by omega, fun h' => ⟨⟨by omega, by omega⟩, fun _ => ⟨fun h1 => skip' (fun w' => h1 (by rw [w', hr2])), fun h1 => ⟨k', L.1, rfl, by omega, by omega, fun j' hj => eall j' (by omega), fun h2 => skip' (fun w' => h2 (by rw [w', hr3]; omega)), fun h2 => ?_⟩⟩⟩⟩
        have hkr : k' = r := nr_inj (L := L.1) (by omega) hr2 (by omega)
        refine ⟨k', 26 + 21 * m', nn, L.1, rfl, by omega, by omega, by omega, rfl, hn3, eall, fun T tA tB' tC => ?_⟩
        refine stp T (fun b' hb' => by rw [tA b' hb', qA b' hb']) (fun i' => ?_)
        by_cases c' : i' < 26 + 21 * m' ∨ 26 + 21 * m' + 21 ≤ i'
        · rw [tB' i' c', qB i']
          unfold wNew
          rw [hmJ, Int.toNat_natCast, if_neg (show ¬ (26 + 21 * m' ≤ i' ∧ i' < 26 + 21 * m' + 21) by omega), if_neg (show ¬ (26 + 21 * m' ≤ i' ∧ i' < 26 + 21 * m' + 21) by omega)]
        · have := tC (i' - (26 + 21 * m')) (by omega)
          rw [show 26 + 21 * m' + (i' - (26 + 21 * m')) = i' by omega] at this
          rw [this]
          unfold wNew
          rw [hmJ, Int.toNat_natCast, if_neg (show ¬ i' = 1 by omega), if_pos (show 26 + 21 * m' ≤ i' ∧ i' < 26 + 21 * m' + 21 by omega)]
          dsimp only
          rw [if_pos (by omega), hkr]
    refine loop' (4 * nn) 0 M' (by omega) (fun _ _ => rfl) (fun i' => ?_)
    rw [fM' 339 (by omega), gB i']
    refine congrFun (wNew_cg (J' 339) (fun j' _ => ?_)) i'
    rw [if_neg (by omega)]
  · exact hT.elim
theorem sp_X12_about : mm_Sp yX12_about cX12_about 4 (some .int) rm_X12_about T_X12_about := mm_meth (by decide) (by
  intro av σ Post h
  unfold T_X12_about at h
  split at h
  · simp
  · exact h.elim) (fun p l e s m args below meth c G av σ Post hC hr _ hav hin hk hT => pv_X12_about av σ Post hav hin hk hT _ (bk_X12_about hC hr))
