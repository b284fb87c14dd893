/-! Matching.read, Survey.matches, Survey.isNormal -/
theorem sh_2 : (mm_sh 2).1 = 9 := by decide +kernel
theorem Rs_1 : mm_Rs 1 0 = some 2 ∧ mm_Rs 1 1 = some 18 ∧ mm_Rs 1 2 = some 29 ∧ mm_Rs 1 3 = some 31 ∧ mm_Rs 1 4 = some 33 ∧ mm_Rs 1 5 = some 35 ∧ mm_Rs 1 6 = some 36 ∧ mm_Rs 1 7 = some 38 ∧ mm_Rs 1 8 = some 40 ∧ (mm_sh 1).1 = 8 := by decide +kernel
theorem Rs_2 : mm_Rs 2 2 = some 3 ∧ mm_Rs 2 3 = some 4 ∧ mm_Rs 2 4 = some 5 ∧ (mm_sh 2).1 = 9 ∧ mm_sh 3 = (100, 12) ∧ mm_sh 4 = (100, 12) := by decide +kernel
theorem acN_b {o k f v : Nat} (ho : o < 12) (hk : k < 6) (hv : v < 4) (hne : v ≠ f % 4) : acN o k f v < 12 ∧ acN o k f v / 4 = o / 4 ∧ acN o k f v % 4 ≠ o % 4 := by
  have hi : 3 * k + (if v < f % 4 then v else v - 1) < 18 := by split <;> omega
  have hp := wtab_b _ hi
  unfold acN
  obtain ⟨p, hp2⟩ := Int.eq_ofNat_of_zero_le hp.1
  rw [hp2]
  have hp3 : p ≤ 2 := by omega
  show o - o % 4 + (if (p : Int).toNat < o % 4 then (p : Int).toNat else (p : Int).toNat + 1) < 12 ∧ _
  rw [Int.toNat_natCast]
  by_cases q : p < o % 4
  · simp only [q, if_true]; omega
  · simp only [q, if_false]; omega
/-- what stands in the list of conditions speaks for all that S names, of surfaces within the bound -/
def mo (I : Nat → Nat → Int) (pa wy bnd : Nat → Int) (m : Nat) (S : Nat → Nat → Prop) : Prop := I 29 1 = m ∧ cin (I 30) m ∧ ∀ nb : Nat → Int, (∀ i, i < 21 → 0 ≤ nb i ∧ nb i ≤ bnd i) → ((∀ t, t < m → cnd (I 30) nb t) ↔ ∀ f v, S f v → mc pa wy nb f v)
def mS (n : Nat) (pa : Nat → Int) (f v : Nat) : Nat → Nat → Prop := fun f' v' => (f' < f ∨ (f' = f ∧ v' < v)) ∧ f' < 4 * n ∧ v' < 4 ∧ (f' : Int) < pa f' ∧ v' ≠ f' % 4
theorem mo_same {I : Nat → Nat → Int} {pa wy bnd : Nat → Int} {m : Nat} {S S' : Nat → Nat → Prop} (h : mo I pa wy bnd m S) (hS : ∀ f v, S f v ↔ S' f v) : mo I pa wy bnd m S' := by
  refine ⟨h.1, h.2.1, fun nb hnb => (h.2.2 nb hnb).trans ⟨fun q f v hs => q f v ((hS f v).mpr hs), fun q f v hs => q f v ((hS f v).mp hs)⟩⟩
def gw (I : Nat → Nat → Int) (n : Nat) : Prop := I 2 0 = n ∧ 1 ≤ n ∧ n ≤ 3 ∧ gok n (I 3) (I 4)
def T_X4_read : mm_T := fun av σ Post => match av with
  | [.inr (some M), .inr (some w), .inr (some a)] => σ.2 = mm_R0 ∧ M = 29 ∧ w = 2 ∧ (mm_sh a).1 = 6 ∧ ∃ n : Nat, gw σ.1 n ∧ bd (σ.1 (a + 1)) ∧
    ∀ (I' : Nat → Nat → Int) (m : Nat), m ≤ 18 → (∀ b, b ≠ 29 → b ≠ 30 → I' b = σ.1 b) → mo I' (σ.1 3) (σ.1 4) (σ.1 (a + 1)) m (fun f v => f < 4 * n ∧ v < 4 ∧ (f : Int) < σ.1 3 f ∧ v ≠ f % 4) → Post none (I', mm_R0)
  | _ => False
def rm_X4_read : Room := { frames := 2, cells := 0, slots := 0, locals := 50 }
def b_X4_read_0 (Ok : Nat → mm_K) (Post : Option mm_V → mm_S → Prop) (kf : Nat) : mm_K := i_la 0 (i_c 0 (i_pi 4 1 (i_c 0 (i_st 3 (Ok 7)))))
def b_X4_read_7 (Ok : Nat → mm_K) (Post : Option mm_V → mm_S → Prop) (kf : Nat) : mm_K := i_ld 3 (i_la 1 (i_cv 9 0 T_X10_faces (i_if2 (fun x y => y ≤ x) (i_vr Post kf) (i_c 0 (i_st 4 (Ok 18))))))
def b_X4_read_18 (Ok : Nat → mm_K) (Post : Option mm_V → mm_S → Prop) (kf : Nat) : mm_K := i_ld 4 (i_c 4 (i_if2 (fun x y => y ≤ x) (i_inc 3 1 (Ok 7)) (i_la 1 (i_ld 3 (i_ld 4 (i_cv 9 2 T_X10_across (i_st 5 (i_la 1 (i_ld 3 (i_cv 9 1 T_X10_leads (i_if (fun x => x = 0) (Ok 62) (i_ld 5 (i_if (fun x => x < 0) (Ok 62) (i_la 0 (i_ld 3 (i_ld 4 (i_ld 5 (i_la 1 (i_gr 9 2 (i_ld 3 (i_ial (i_la 2 (i_cv 4 5 T_X4_enter (Ok 62))))))))))))))))))))))))
def b_X4_read_62 (Ok : Nat → mm_K) (Post : Option mm_V → mm_S → Prop) (kf : Nat) : mm_K := i_inc 4 1 (Ok 18)
def clo_X4_read (Ok : Nat → mm_K) (Post : Option mm_V → mm_S → Prop) (kf : Nat) : Prop := mm_imp (b_X4_read_0 Ok Post kf) (Ok 0) ∧ mm_imp (b_X4_read_7 Ok Post kf) (Ok 7) ∧ mm_imp (b_X4_read_18 Ok Post kf) (Ok 18) ∧ mm_imp (b_X4_read_62 Ok Post kf) (Ok 62)
set_option maxRecDepth 100000 in
set_option maxHeartbeats 4000000 in
theorem bk_X4_read {p : Program} {l : Launch} {e : Env} {s : State} {m : MethodId} {args : Array Value} {below : List Frame} {meth : Method} {c : Code} {G : mm_G} {σ0 : mm_S} {Post : Option mm_V → mm_S → Prop} (hC : mm_C p G s m args meth c cX4_read yX4_read.cls) (hr : meth.sig.returnType = none) : clo_X4_read (mm_O p l e rm_X4_read s m args below meth c G σ0.2.2 (MQ below (mm_Qc G σ0 rm_X4_read.cells rm_X4_read.slots Post) args s rm_X4_read.cells rm_X4_read.slots (mm_A G))) Post σ0.2.2 := ⟨(by unfold b_X4_read_0; exact (mm_la_n hC dX4_read_0 rfl (mm_ic hC dX4_read_1 ⟨by decide, by decide⟩ (mm_pi hC cl_4 (by decide) rfl rfl rfl wd_209 dX4_read_2 (mm_ic hC dX4_read_5 ⟨by decide, by decide⟩ (mm_st_n hC dX4_read_6 rfl (fun _ _ _ h => h))))))), (by unfold b_X4_read_7; exact (mm_ld_n hC dX4_read_7 rfl (mm_la_n hC dX4_read_8 rfl (mm_cv hC sp_X10_faces ⟨rfl, rfl⟩ cl_9 wd_525 wd_358 wd_359 wd_360 wd_67 ⟨by decide, by decide, by decide +kernel⟩ ⟨by decide, by decide⟩ dX4_read_9 (mm_ic_ge hC (t := 74) dX4_read_12 (by decide) (mm_vr hC ⟨rfl, rfl⟩ hr dX4_read_74) (mm_ic hC dX4_read_15 ⟨by decide, by decide⟩ (mm_st hC dX4_read_16 (fun _ _ _ h => h)))))))), (by unfold b_X4_read_18; exact (mm_ld hC dX4_read_18 (mm_ic hC dX4_read_20 ⟨by decide, by decide⟩ (mm_ic_ge hC (t := 68) dX4_read_21 (by decide) (mm_inc hC dX4_read_68 (mm_goto hC (t := 7) dX4_read_71 (by decide) (fun _ _ _ h => h))) (mm_la_n hC dX4_read_24 rfl (mm_ld_n hC dX4_read_25 rfl (mm_ld hC dX4_read_26 (mm_cv hC sp_X10_across ⟨rfl, rfl⟩ cl_9 wd_526 wd_383 wd_384 wd_385 wd_67 ⟨by decide, by decide, by decide +kernel⟩ ⟨by decide, by decide⟩ dX4_read_28 (mm_st hC dX4_read_31 (mm_la_n hC dX4_read_33 rfl (mm_ld_n hC dX4_read_34 rfl (mm_cv hC sp_X10_leads ⟨rfl, rfl⟩ cl_9 wd_527 wd_375 wd_376 wd_377 wd_67 ⟨by decide, by decide, by decide +kernel⟩ ⟨by decide, by decide⟩ dX4_read_35 (mm_if_eq hC (t := 62) dX4_read_38 (by decide) (fun _ _ _ h => h) (mm_ld hC dX4_read_41 (mm_if_lt hC (t := 62) dX4_read_43 (by decide) (fun _ _ _ h => h) (mm_la_n hC dX4_read_46 rfl (mm_ld_n hC dX4_read_47 rfl (mm_ld hC dX4_read_48 (mm_ld hC dX4_read_50 (mm_la_n hC dX4_read_52 rfl (mm_gr hC cl_9 (by decide) rfl wd_127 dX4_read_53 (mm_ld_n hC dX4_read_56 rfl (mm_ial hC dX4_read_57 (mm_la_n hC dX4_read_58 rfl (mm_cv hC sp_X4_enter ⟨rfl, rfl⟩ cl_4 wd_528 wd_530 wd_8 wd_531 wd_72 ⟨by decide, by decide, by decide +kernel⟩ ⟨by decide, by decide⟩ dX4_read_59 (fun _ _ _ h => h)))))))))))))))))))))))))), (by unfold b_X4_read_62; exact (mm_inc hC dX4_read_62 (mm_goto hC (t := 18) dX4_read_65 (by decide) (fun _ _ _ h => h))))⟩
set_option maxRecDepth 100000 in
set_option maxHeartbeats 8000000 in
theorem pv_X4_read : ∀ (av : List mm_V) (σ : mm_S) (Post : Option mm_V → mm_S → Prop), (∀ v ∈ av, mm_iv v) → (∀ a j, mm_in (σ.1 a j)) → σ.2.2 ≤ 348 → T_X4_read av σ Post → ∀ Ok : Nat → mm_K, clo_X4_read Ok Post σ.2.2 → Ok 0 (av ++ List.replicate (6 - av.length) (.inr none)) [] σ := by
  intro av σ Post hav hin hk hT Ok hcl
  obtain ⟨I, R0⟩ := σ
  unfold T_X4_read at hT
  split at hT
  · rename_i M w a
    obtain ⟨h0, hT⟩ := hT
    have h0 : R0 = mm_R0 := h0
    subst h0
    dsimp only at hT hin
    obtain ⟨c0, c7, c18, c62⟩ := hcl
    obtain ⟨rfl, rfl, h1, n, ⟨hn, hn1, hn3, hg⟩, h4, hP⟩ := hT
    have ha := sh_lt h1 (by decide)
    obtain ⟨k1, k2, k3⟩ := sh_29
    obtain ⟨r1, r2, r3, r4, r5, r6⟩ := Rs_2
    have na : a + 1 ≠ 30 := fun e => by
      have : a = 29 := by omega
      rw [this, k1] at h1; cases h1
    have na2 : a + 1 ≠ 29 := fun e => by
      have : a = 28 := by omega
      rw [this] at h1; exact absurd h1 (by decide +kernel)
    have hl6 := nlead_le hg hn3
    have inner : ∀ (f : Nat), f < 4 * n → (∀ (I' : Nat → Nat → Int) (m : Nat) (u1 u2 : mm_V), (∀ b, b ≠ 29 → b ≠ 30 → I' b = I b) → mo I' (I 3) (I 4) (I (a + 1)) m (mS n (I 3) (f + 1) 0) → (m : Int) ≤ 3 * nlead (I 3) (f + 1) → Ok 7 [.inr (some 29), .inr (some 2), .inr (some a), .inl ((f : Int) + 1), u1, u2] [] (I', mm_R0)) →
      ∀ (d v : Nat) (I' : Nat → Nat → Int) (m : Nat) (u2 : mm_V), v + d = 4 → (∀ b, b ≠ 29 → b ≠ 30 → I' b = I b) → mo I' (I 3) (I 4) (I (a + 1)) m (mS n (I 3) f v) → (m : Int) ≤ 3 * nlead (I 3) f + (if (f : Int) < I 3 f then (if f % 4 < v then (v : Int) - 1 else v) else 0) → Ok 18 [.inr (some 29), .inr (some 2), .inr (some a), .inl (f : Int), .inl (v : Int), u2] [] (I', mm_R0) := by
      intro f hf hnext d
      have hsuc : nlead (I 3) (f + 1) = nlead (I 3) f + if (f : Int) < I 3 f then 1 else 0 := rfl
      induction d with
      | zero =>
        intro v I' m u2 hd q1 q2 q3
        refine c18 _ _ _ ?_
        simp only [b_X4_read_18, i_ld, i_la, i_st, i_sa, i_c, i_inc, i_add, i_sub, i_mul, i_div, i_rem, i_remT, i_xor, i_dup, i_dup2, i_if, i_if2, i_sw, i_gi, i_gr, i_pi, i_pz, i_ial, i_ias, i_len, i_aal, i_gs, i_tal, i_cv, i_cs, i_ir, i_zr, i_vr, i_min, i_max, i_cpy, List.getElem?_cons_zero, List.getElem?_cons_succ, List.set_cons_zero, List.set_cons_succ, List.length_cons, List.length_nil, List.drop_succ_cons, List.drop_zero, List.take_succ_cons, List.take_zero, List.reverse_cons, List.reverse_nil, List.nil_append, List.cons_append, Option.toList_some, Option.toList_none, true_and, and_true, true_or, or_true, Nat.reduceAdd, Nat.reduceLT, Nat.reduceLeDiff, Option.some.injEq, exists_eq_left', Int.toNat_natCast, Nat.reduceSub, List.append_nil, List.replicate_succ, List.replicate_zero, mm_in,]
        repeat' first | refine And.intro ?_ ?_ | intro _
        all_goals try omega
        refine hnext I' m _ _ q1 (mo_same q2 (fun f' v' => ?_)) ?_
        · unfold mS; omega
        · rw [hsuc]; split at q3 <;> split <;> omega
      | succ d ih =>
        intro v I' m u2 hd q1 q2 q3
        have e3 : I' 3 = I 3 := q1 3 (by decide) (by decide)
        have e4 : I' 4 = I 4 := q1 4 (by decide) (by decide)
        have e2 : I' 2 = I 2 := q1 2 (by decide) (by decide)
        have ea : I' (a + 1) = I (a + 1) := q1 _ na2 na
        have skip : ¬ ((f : Int) < I 3 f ∧ v ≠ f % 4) → ∀ u : mm_V, Ok 62 [.inr (some 29), .inr (some 2), .inr (some a), .inl (f : Int), .inl (v : Int), u] [] (I', mm_R0) := by
          intro hno u
          refine c62 _ _ _ ?_
          simp only [b_X4_read_62, i_ld, i_la, i_st, i_sa, i_c, i_inc, i_add, i_sub, i_mul, i_div, i_rem, i_remT, i_xor, i_dup, i_dup2, i_if, i_if2, i_sw, i_gi, i_gr, i_pi, i_pz, i_ial, i_ias, i_len, i_aal, i_gs, i_tal, i_cv, i_cs, i_ir, i_zr, i_vr, i_min, i_max, i_cpy, List.getElem?_cons_zero, List.getElem?_cons_succ, List.set_cons_zero, List.set_cons_succ, List.length_cons, List.length_nil, List.drop_succ_cons, List.drop_zero, List.take_succ_cons, List.take_zero, List.reverse_cons, List.reverse_nil, List.nil_append, List.cons_append, Option.toList_some, Option.toList_none, true_and, and_true, true_or, or_true, Nat.reduceAdd, Nat.reduceLT, Nat.reduceLeDiff, Option.some.injEq, exists_eq_left', Int.toNat_natCast, Nat.reduceSub, List.append_nil, List.replicate_succ, List.replicate_zero, mm_in,]
          repeat' first | refine And.intro ?_ ?_ | intro _
          all_goals try omega
          refine ih (v + 1) I' m u (by omega) q1 (mo_same q2 (fun f' v' => ?_)) ?_
          · unfold mS
            constructor
            · intro h; refine ⟨by omega, h.2⟩
            · intro h
              refine ⟨?_, h.2⟩
              by_cases e : f' = f ∧ v' = v
              · obtain ⟨rfl, rfl⟩ := e
                exact absurd ⟨h.2.2.2.1, h.2.2.2.2⟩ hno
              · omega
          · by_cases hlead : (f : Int) < I 3 f
            · rw [if_pos hlead] at q3 ⊢
              have : v = f % 4 := by
                by_cases z : v = f % 4
                · exact z
                · exact absurd ⟨hlead, z⟩ hno
              split at q3 <;> split <;> omega
            · rw [if_neg hlead] at q3 ⊢; exact q3
        have hgf : 0 ≤ I 3 f → I 3 f < 12 ∧ 0 ≤ I 4 f ∧ I 4 f < 6 := fun z => by
          rcases hg f (by omega) with q | q
          · omega
          · omega
        refine c18 _ _ _ ?_
        simp only [b_X4_read_18, i_ld, i_la, i_st, i_sa, i_c, i_inc, i_add, i_sub, i_mul, i_div, i_rem, i_remT, i_xor, i_dup, i_dup2, i_if, i_if2, i_sw, i_gi, i_gr, i_pi, i_pz, i_ial, i_ias, i_len, i_aal, i_gs, i_tal, i_cv, i_cs, i_ir, i_zr, i_vr, i_min, i_max, i_cpy, List.getElem?_cons_zero, List.getElem?_cons_succ, List.set_cons_zero, List.set_cons_succ, List.length_cons, List.length_nil, List.drop_succ_cons, List.drop_zero, List.take_succ_cons, List.take_zero, List.reverse_cons, List.reverse_nil, List.nil_append, List.cons_append, Option.toList_some, Option.toList_none, true_and, and_true, true_or, or_true, Nat.reduceAdd, Nat.reduceLT, Nat.reduceLeDiff, Option.some.injEq, exists_eq_left', Int.toNat_natCast, Nat.reduceSub, List.append_nil, List.replicate_succ, List.replicate_zero, mm_in, T_X10_across, T_X10_leads, r1, r4, r5, e3, e4, T_X4_enter, k1, ea, h1, q2.1]
        refine ⟨fun z => by omega, fun _ => ⟨f, v, rfl, rfl, by omega, by omega, hgf, f, rfl, by omega, fun z hz => ⟨fun z0 => ?_, fun z0 => ?_⟩⟩⟩
        · refine skip (fun hh => ?_) _
          rcases hz with ⟨z1, z2⟩ | ⟨z1, z2⟩
          · omega
          · exact z2 hh.1
        · have hlead : (f : Int) < I 3 f := by
            rcases hz with ⟨z1, z2⟩ | ⟨z1, z2⟩
            · exact z2
            · omega
          obtain ⟨o, ho⟩ := Int.eq_ofNat_of_zero_le (show 0 ≤ I 3 f by omega)
          have hgf' := hgf (by omega)
          obtain ⟨k, hk2⟩ := Int.eq_ofNat_of_zero_le hgf'.2.1
          rw [ho, hk2] at hgf'
          by_cases hv : v = f % 4
          · have hac : acr (I 3) (I 4) f v = -1 := by unfold acr; rw [if_pos (Or.inl hv)]
            rw [hac]
            refine ⟨fun _ => skip (fun hh => hh.2 hv) _, fun z => by omega⟩
          · have hac : acr (I 3) (I 4) f v = (acN o k f v : Int) := by
              unfold acr
              rw [if_neg (by omega), ho, hk2]
              rfl
            have hb := acN_b (o := o) (k := k) (f := f) (v := v) (by omega) (by omega) (by omega) hv
            rw [hac]
            have hmb : m < 18 := by
              have h5 := nlead_mono (I 3) (show f + 1 ≤ 12 by omega)
              rw [hsuc, if_pos hlead] at h5
              rw [if_pos hlead] at q3
              split at q3 <;> omega
            rw [ho]
            refine ⟨fun z => by omega, fun _ => ⟨⟨by omega, by omega⟩, fun _ => ?_⟩⟩
            refine ⟨f, v, acN o k f v, o, m, rfl, rfl, rfl, rfl, rfl, by omega, by omega, hb.1, by omega, hmb, h4, ?_⟩
            intro I2 m' f1 f2 f3 f4
            refine c62 _ _ _ ?_
            simp only [b_X4_read_62, i_ld, i_la, i_st, i_sa, i_c, i_inc, i_add, i_sub, i_mul, i_div, i_rem, i_remT, i_xor, i_dup, i_dup2, i_if, i_if2, i_sw, i_gi, i_gr, i_pi, i_pz, i_ial, i_ias, i_len, i_aal, i_gs, i_tal, i_cv, i_cs, i_ir, i_zr, i_vr, i_min, i_max, i_cpy, List.getElem?_cons_zero, List.getElem?_cons_succ, List.set_cons_zero, List.set_cons_succ, List.length_cons, List.length_nil, List.drop_succ_cons, List.drop_zero, List.take_succ_cons, List.take_zero, List.reverse_cons, List.reverse_nil, List.nil_append, List.cons_append, Option.toList_some, Option.toList_none, true_and, and_true, true_or, or_true, Nat.reduceAdd, Nat.reduceLT, Nat.reduceLeDiff, Option.some.injEq, exists_eq_left', Int.toNat_natCast, Nat.reduceSub, List.append_nil, List.replicate_succ, List.replicate_zero, mm_in,]
            repeat' first | refine And.intro ?_ ?_ | intro _
            all_goals try omega
            have hcin : cin (I2 30) m' := by
              intro j hj
              by_cases z : j < 4 * m
              · rw [f3 j z]; exact q2.2.1 j z
              · rcases f4 with ⟨z1, _⟩ | ⟨z1, z2, z3, z4, z5⟩
                · omega
                · have t1 := tg_b (c := v) (d := f % 4) (by omega) (by omega)
                  have t2 := tg_b (c := acN o k f v % 4) (d := o % 4) (by omega) (by omega)
                  rcases (show j = 4 * m ∨ j = 4 * m + 1 ∨ j = 4 * m + 2 ∨ j = 4 * m + 3 by omega) with e | e | e | e
                  · rw [e, z2]; omega
                  · rw [e, z3]; omega
                  · rw [e, z4]; omega
                  · rw [e, z5]; omega
            have hold : ∀ nb t, t < m → (cnd (I2 30) nb t ↔ cnd (I' 30) nb t) := by
              intro nb t ht
              unfold cnd
              rw [f3 (4 * t) (by omega), f3 (4 * t + 1) (by omega), f3 (4 * t + 2) (by omega), f3 (4 * t + 3) (by omega)]
            refine ih (v + 1) I2 m' _ (by omega) (fun b p1 p2 => by rw [f1 b p1 p2]; exact q1 b p1 p2) ⟨f2, hcin, fun nb hnb => ?_⟩ ?_
            · have h6 := q2.2.2 nb hnb
              have hSS : (∀ f' v', mS n (I 3) f (v + 1) f' v' → mc (I 3) (I 4) nb f' v') ↔ ((∀ f' v', mS n (I 3) f v f' v' → mc (I 3) (I 4) nb f' v') ∧ mc (I 3) (I 4) nb f v) := by
                constructor
                · intro h
                  refine ⟨fun f' v' hs => h f' v' ?_, h f v ⟨Or.inr ⟨rfl, by omega⟩, hf, by omega, hlead, hv⟩⟩
                  unfold mS at hs ⊢
                  exact ⟨by omega, hs.2⟩
                · intro h f' v' hs
                  by_cases e : f' = f ∧ v' = v
                  · obtain ⟨rfl, rfl⟩ := e; exact h.2
                  · refine h.1 f' v' ?_
                    unfold mS at hs ⊢
                    exact ⟨by omega, hs.2⟩
              rw [hSS, ← h6]
              have hmc : mc (I 3) (I 4) nb f v ↔ nb (7 * (f / 4) + v) + nb (7 * (f / 4) + tg v (f % 4)) = nb (7 * (o / 4) + acN o k f v % 4) + nb (7 * (o / 4) + tg (acN o k f v % 4) (o % 4)) := by
                unfold mc ac
                rw [ho, hk2]
                rfl
              rcases f4 with ⟨z1, z2, z3, z4, z5⟩ | ⟨z1, z2, z3, z4, z5⟩
              · subst z1
                have t1 := tg_b (c := v) (d := f % 4) (by omega) (by omega)
                have t2 := tg_b (c := acN o k f v % 4) (d := o % 4) (by omega) (by omega)
                have y1 := hnb (7 * (f / 4) + v) (by omega)
                have y2 := hnb (7 * (f / 4) + tg v (f % 4)) (by omega)
                have y3 := hnb (7 * (o / 4) + acN o k f v % 4) (by omega)
                have y4 := hnb (7 * (o / 4) + tg (acN o k f v % 4) (o % 4)) (by omega)
                constructor
                · intro h
                  exact ⟨fun t ht => (hold nb t ht).mp (h t ht), hmc.mpr (by omega)⟩
                · intro h t ht
                  exact (hold nb t ht).mpr (h.1 t ht)
              · subst z1
                have hnew : cnd (I2 30) nb m ↔ mc (I 3) (I 4) nb f v := by
                  rw [hmc]
                  unfold cnd
                  rw [z2, z3, z4, z5]
                  rfl
                constructor
                · intro h
                  exact ⟨fun t ht => (hold nb t ht).mp (h t (by omega)), hnew.mp (h m (by omega))⟩
                · intro h t ht
                  by_cases e : t = m
                  · subst e; exact hnew.mpr h.2
                  · exact (hold nb t (by omega)).mpr (h.1 t (by omega))
            · rw [if_pos hlead] at q3 ⊢
              have : m' ≤ m + 1 := by rcases f4 with ⟨z1, _⟩ | ⟨z1, _⟩ <;> omega
              split at q3 <;> split <;> omega
    have outer : ∀ (d f : Nat) (I' : Nat → Nat → Int) (m : Nat) (u1 u2 : mm_V), f + d = 4 * n → (∀ b, b ≠ 29 → b ≠ 30 → I' b = I b) → mo I' (I 3) (I 4) (I (a + 1)) m (mS n (I 3) f 0) → (m : Int) ≤ 3 * nlead (I 3) f → Ok 7 [.inr (some 29), .inr (some 2), .inr (some a), .inl (f : Int), u1, u2] [] (I', mm_R0) := by
      intro d
      induction d with
      | zero =>
        intro f I' m u1 u2 hd q1 q2 q3
        have e2 : I' 2 = I 2 := q1 2 (by decide) (by decide)
        refine c7 _ _ _ ?_
        simp only [b_X4_read_7, i_ld, i_la, i_st, i_sa, i_c, i_inc, i_add, i_sub, i_mul, i_div, i_rem, i_remT, i_xor, i_dup, i_dup2, i_if, i_if2, i_sw, i_gi, i_gr, i_pi, i_pz, i_ial, i_ias, i_len, i_aal, i_gs, i_tal, i_cv, i_cs, i_ir, i_zr, i_vr, i_min, i_max, i_cpy, List.getElem?_cons_zero, List.getElem?_cons_succ, List.set_cons_zero, List.set_cons_succ, List.length_cons, List.length_nil, List.drop_succ_cons, List.drop_zero, List.take_succ_cons, List.take_zero, List.reverse_cons, List.reverse_nil, List.nil_append, List.cons_append, Option.toList_some, Option.toList_none, true_and, and_true, true_or, or_true, Nat.reduceAdd, Nat.reduceLT, Nat.reduceLeDiff, Option.some.injEq, exists_eq_left', Int.toNat_natCast, Nat.reduceSub, List.append_nil, List.replicate_succ, List.replicate_zero, mm_in, T_X10_faces, r4, e2, hn]
        refine ⟨by omega, by omega, fun z => ?_, fun z => by omega⟩
        have h5 := nlead_mono (I 3) (show f ≤ 12 by omega)
        refine hP I' m (by omega) q1 (mo_same q2 (fun f' v' => ?_))
        unfold mS
        omega
      | succ d ih =>
        intro f I' m u1 u2 hd q1 q2 q3
        have e2 : I' 2 = I 2 := q1 2 (by decide) (by decide)
        refine c7 _ _ _ ?_
        simp only [b_X4_read_7, i_ld, i_la, i_st, i_sa, i_c, i_inc, i_add, i_sub, i_mul, i_div, i_rem, i_remT, i_xor, i_dup, i_dup2, i_if, i_if2, i_sw, i_gi, i_gr, i_pi, i_pz, i_ial, i_ias, i_len, i_aal, i_gs, i_tal, i_cv, i_cs, i_ir, i_zr, i_vr, i_min, i_max, i_cpy, List.getElem?_cons_zero, List.getElem?_cons_succ, List.set_cons_zero, List.set_cons_succ, List.length_cons, List.length_nil, List.drop_succ_cons, List.drop_zero, List.take_succ_cons, List.take_zero, List.reverse_cons, List.reverse_nil, List.nil_append, List.cons_append, Option.toList_some, Option.toList_none, true_and, and_true, true_or, or_true, Nat.reduceAdd, Nat.reduceLT, Nat.reduceLeDiff, Option.some.injEq, exists_eq_left', Int.toNat_natCast, Nat.reduceSub, List.append_nil, List.replicate_succ, List.replicate_zero, mm_in, T_X10_faces, r4, e2, hn]
        refine ⟨by omega, by omega, fun z => by omega, fun z => ?_⟩
        refine inner f (by omega) (fun I2 m2 u1 u2 p1 p2 p3 => ?_) 4 0 I' m _ (by omega) q1 q2 (by split <;> simp <;> omega)
        exact ih (f + 1) I2 m2 u1 u2 (by omega) p1 p2 p3
    refine c0 _ _ _ ?_
    simp only [b_X4_read_0, i_ld, i_la, i_st, i_sa, i_c, i_inc, i_add, i_sub, i_mul, i_div, i_rem, i_remT, i_xor, i_dup, i_dup2, i_if, i_if2, i_sw, i_gi, i_gr, i_pi, i_pz, i_ial, i_ias, i_len, i_aal, i_gs, i_tal, i_cv, i_cs, i_ir, i_zr, i_vr, i_min, i_max, i_cpy, List.getElem?_cons_zero, List.getElem?_cons_succ, List.set_cons_zero, List.set_cons_succ, List.length_cons, List.length_nil, List.drop_succ_cons, List.drop_zero, List.take_succ_cons, List.take_zero, List.reverse_cons, List.reverse_nil, List.nil_append, List.cons_append, Option.toList_some, Option.toList_none, true_and, and_true, true_or, or_true, Nat.reduceAdd, Nat.reduceLT, Nat.reduceLeDiff, Option.some.injEq, exists_eq_left', Int.toNat_natCast, Nat.reduceSub, List.append_nil, List.replicate_succ, List.replicate_zero, mm_in, k1]
    refine outer (4 * n) 0 _ 0 _ _ (by omega) (fun b p1 p2 => ?_) ⟨?_, fun j hj => by omega, fun nb hnb => ?_⟩ ?_
    · funext j; simp [mm_set, p1]
    · simp [mm_set]
    · constructor
      · intro _ f v hs; unfold mS at hs; omega
      · intro _ t ht; omega
    · show ((0 : Nat) : Int) ≤ 3 * 0
      decide
  · exact hT.elim
theorem sp_X4_read : mm_Sp yX4_read cX4_read 6 none rm_X4_read T_X4_read := mm_meth (by decide) (by
  intro av σ Post h
  unfold T_X4_read at h
  split at h
  · simp
  · exact h.elim) (fun p l e s m args below meth c G av σ Post hC hr _ hav hin hk hT => pv_X4_read av σ Post hav hin hk hT _ (bk_X4_read hC hr))
def T_X9_matches : mm_T := fun av σ Post => match av with
  | [.inr (some s), .inr (some a)] => σ.2 = mm_R0 ∧ s = 1 ∧ (mm_sh a).1 = 6 ∧ ∃ n : Nat, gw σ.1 n ∧ bd (σ.1 (a + 1)) ∧
    ∀ (I' : Nat → Nat → Int) (z : Int), (∀ b, b ≠ 29 → b ≠ 30 → I' b = σ.1 b) → bz z (mt n (σ.1 3) (σ.1 4) (σ.1 (a + 1))) → Post (some (.inl z)) (I', mm_R0)
  | _ => False
def rm_X9_matches : Room := { frames := 3, cells := 0, slots := 0, locals := 75 }
def b_X9_matches_0 (Ok : Nat → mm_K) (Post : Option mm_V → mm_S → Prop) (kf : Nat) : mm_K := i_la 0 (i_gr 8 2 (i_la 0 (i_gr 8 0 (i_la 1 (i_cv 4 2 T_X4_read (i_la 0 (i_gr 8 2 (i_la 1 (i_cv 4 1 T_X4_holds (i_zr Post kf))))))))))
def clo_X9_matches (Ok : Nat → mm_K) (Post : Option mm_V → mm_S → Prop) (kf : Nat) : Prop := mm_imp (b_X9_matches_0 Ok Post kf) (Ok 0)
set_option maxRecDepth 100000 in
set_option maxHeartbeats 4000000 in
theorem bk_X9_matches {p : Program} {l : Launch} {e : Env} {s : State} {m : MethodId} {args : Array Value} {below : List Frame} {meth : Method} {c : Code} {G : mm_G} {σ0 : mm_S} {Post : Option mm_V → mm_S → Prop} (hC : mm_C p G s m args meth c cX9_matches yX9_matches.cls) (hr : meth.sig.returnType = some .boolean) : clo_X9_matches (mm_O p l e rm_X9_matches s m args below meth c G σ0.2.2 (MQ below (mm_Qc G σ0 rm_X9_matches.cells rm_X9_matches.slots Post) args s rm_X9_matches.cells rm_X9_matches.slots (mm_A G))) Post σ0.2.2 := (by unfold clo_X9_matches b_X9_matches_0; exact (mm_la_n hC dX9_matches_0 rfl (mm_gr hC cl_8 (by decide) rfl wd_223 dX9_matches_1 (mm_la_n hC dX9_matches_4 rfl (mm_gr hC cl_8 (by decide) rfl wd_219 dX9_matches_5 (mm_la_n hC dX9_matches_8 rfl (mm_cv hC sp_X4_read ⟨rfl, rfl⟩ cl_4 wd_521 wd_522 wd_523 wd_524 wd_72 ⟨by decide, by decide, by decide +kernel⟩ ⟨by decide, by decide⟩ dX9_matches_9 (mm_la_n hC dX9_matches_12 rfl (mm_gr hC cl_8 (by decide) rfl wd_223 dX9_matches_13 (mm_la_n hC dX9_matches_16 rfl (mm_cv hC sp_X4_holds ⟨rfl, rfl⟩ cl_4 wd_533 wd_534 wd_535 wd_536 wd_72 ⟨by decide, by decide, by decide +kernel⟩ ⟨by decide, by decide⟩ dX9_matches_17 (mm_zr hC ⟨rfl, rfl⟩ hr dX9_matches_20))))))))))))
set_option maxRecDepth 100000 in
set_option maxHeartbeats 8000000 in
theorem pv_X9_matches : ∀ (av : List mm_V) (σ : mm_S) (Post : Option mm_V → mm_S → Prop), (∀ v ∈ av, mm_iv v) → (∀ a j, mm_in (σ.1 a j)) → σ.2.2 ≤ 348 → T_X9_matches av σ Post → ∀ Ok : Nat → mm_K, clo_X9_matches Ok Post σ.2.2 → Ok 0 (av ++ List.replicate (2 - av.length) (.inr none)) [] σ := by
  intro av σ Post hav hin hk hT Ok hcl
  obtain ⟨I, R0⟩ := σ
  unfold T_X9_matches at hT
  split at hT
  · rename_i s a
    obtain ⟨h0, hT⟩ := hT
    have h0 : R0 = mm_R0 := h0
    subst h0
    dsimp only at hT hin
    have c0 := hcl
    unfold clo_X9_matches at c0
    obtain ⟨rfl, h1, n, hg, h4, hP⟩ := hT
    obtain ⟨r0, r1, r2, r3, r4, r5, r6, r7, r8, r9⟩ := Rs_1
    obtain ⟨k1, k2, k3⟩ := sh_29
    have ha := sh_lt h1 (by decide)
    have na : a + 1 ≠ 30 := fun e => by
      have : a = 29 := by omega
      rw [this, k1] at h1; cases h1
    have na2 : a + 1 ≠ 29 := fun e => by
      have : a = 28 := by omega
      rw [this] at h1; exact absurd h1 (by decide +kernel)
    refine c0 _ _ _ ?_
    simp only [b_X9_matches_0, i_ld, i_la, i_st, i_sa, i_c, i_inc, i_add, i_sub, i_mul, i_div, i_rem, i_remT, i_xor, i_dup, i_dup2, i_if, i_if2, i_sw, i_gi, i_gr, i_pi, i_pz, i_ial, i_ias, i_len, i_aal, i_gs, i_tal, i_cv, i_cs, i_ir, i_zr, i_vr, i_min, i_max, i_cpy, List.getElem?_cons_zero, List.getElem?_cons_succ, List.set_cons_zero, List.set_cons_succ, List.length_cons, List.length_nil, List.drop_succ_cons, List.drop_zero, List.take_succ_cons, List.take_zero, List.reverse_cons, List.reverse_nil, List.nil_append, List.cons_append, Option.toList_some, Option.toList_none, true_and, and_true, true_or, or_true, Nat.reduceAdd, Nat.reduceLT, Nat.reduceLeDiff, Option.some.injEq, exists_eq_left', Int.toNat_natCast, Nat.reduceSub, List.append_nil, List.replicate_succ, List.replicate_zero, mm_in, T_X4_read, T_X4_holds, r0, r2, r9, k1, h1]
    refine ⟨n, hg, h4, fun I' m hm f1 f2 => ?_⟩
    have ea : I' (a + 1) = I (a + 1) := f1 _ na2 na
    rw [ea]
    refine ⟨m, f2.1, hm, f2.2.1, h4, fun z hz => ?_⟩
    have hiff := f2.2.2 (I (a + 1)) (fun i hi => ⟨(h4 i hi).1, Int.le_refl _⟩)
    have hmt : mt n (I 3) (I 4) (I (a + 1)) ↔ ∀ t, t < m → cnd (I' 30) (I (a + 1)) t := by
      rw [hiff]
      unfold mt
      exact ⟨fun h f v hs => h f v hs.1 hs.2.1 hs.2.2.1 hs.2.2.2, fun h f v x1 x2 x3 x4 => h f v ⟨x1, x2, x3, x4⟩⟩
    have hz01 : z = 0 ∨ z = 1 := by rcases hz with q | q <;> omega
    refine ⟨hz01, hP I' z f1 ?_⟩
    rcases hz with ⟨q1, q2⟩ | ⟨q1, q2⟩
    · exact Or.inl ⟨q1, hmt.mpr q2⟩
    · exact Or.inr ⟨q1, fun q => q2 (hmt.mp q)⟩
  · exact hT.elim
theorem sp_X9_matches : mm_Sp yX9_matches cX9_matches 2 (some .boolean) rm_X9_matches T_X9_matches := mm_meth (by decide) (by
  intro av σ Post h
  unfold T_X9_matches at h
  split at h
  · simp
  · exact h.elim) (fun p l e s m args below meth c G av σ Post hC hr _ hav hin hk hT => pv_X9_matches av σ Post hav hin hk hT _ (bk_X9_matches hC hr))
def T_X9_isNormal : mm_T := fun av σ Post => match av with
  | [.inr (some s), .inr (some a)] => σ.2 = mm_R0 ∧ s = 1 ∧ (mm_sh a).1 = 6 ∧ ∃ n : Nat, gw σ.1 n ∧ bd (σ.1 (a + 1)) ∧
    ∀ (I' : Nat → Nat → Int) (z : Int), (∀ b, b ≠ 29 → b ≠ 30 → I' b = σ.1 b) → bz z (¬ crs (σ.1 (a + 1)) 3 ∧ mt n (σ.1 3) (σ.1 4) (σ.1 (a + 1))) → Post (some (.inl z)) (I', mm_R0)
  | _ => False
def rm_X9_isNormal : Room := { frames := 4, cells := 0, slots := 0, locals := 96 }
def b_X9_isNormal_0 (Ok : Nat → mm_K) (Post : Option mm_V → mm_S → Prop) (kf : Nat) : mm_K := i_la 1 (i_cv 6 0 T_X7_crosses (i_if (fun x => ¬ x = 0) (Ok 19) (i_la 0 (i_la 1 (i_cv 8 1 T_X9_matches (i_if (fun x => x = 0) (Ok 19) (i_c 1 (Ok 20))))))))
def b_X9_isNormal_19 (Ok : Nat → mm_K) (Post : Option mm_V → mm_S → Prop) (kf : Nat) : mm_K := i_c 0 (Ok 20)
def b_X9_isNormal_20 (Ok : Nat → mm_K) (Post : Option mm_V → mm_S → Prop) (kf : Nat) : mm_K := i_zr Post kf
def clo_X9_isNormal (Ok : Nat → mm_K) (Post : Option mm_V → mm_S → Prop) (kf : Nat) : Prop := mm_imp (b_X9_isNormal_0 Ok Post kf) (Ok 0) ∧ mm_imp (b_X9_isNormal_19 Ok Post kf) (Ok 19) ∧ mm_imp (b_X9_isNormal_20 Ok Post kf) (Ok 20)
set_option maxRecDepth 100000 in
set_option maxHeartbeats 4000000 in
theorem bk_X9_isNormal {p : Program} {l : Launch} {e : Env} {s : State} {m : MethodId} {args : Array Value} {below : List Frame} {meth : Method} {c : Code} {G : mm_G} {σ0 : mm_S} {Post : Option mm_V → mm_S → Prop} (hC : mm_C p G s m args meth c cX9_isNormal yX9_isNormal.cls) (hr : meth.sig.returnType = some .boolean) : clo_X9_isNormal (mm_O p l e rm_X9_isNormal s m args below meth c G σ0.2.2 (MQ below (mm_Qc G σ0 rm_X9_isNormal.cells rm_X9_isNormal.slots Post) args s rm_X9_isNormal.cells rm_X9_isNormal.slots (mm_A G))) Post σ0.2.2 := ⟨(by unfold b_X9_isNormal_0; exact (mm_la_n hC dX9_isNormal_0 rfl (mm_cv hC sp_X7_crosses ⟨rfl, rfl⟩ cl_6 wd_513 wd_514 wd_515 wd_516 wd_68 ⟨by decide, by decide, by decide +kernel⟩ ⟨by decide, by decide⟩ dX9_isNormal_1 (mm_if_ne hC (t := 19) dX9_isNormal_4 (by decide) (fun _ _ _ h => h) (mm_la_n hC dX9_isNormal_7 rfl (mm_la_n hC dX9_isNormal_8 rfl (mm_cv hC sp_X9_matches ⟨rfl, rfl⟩ cl_8 wd_517 wd_518 wd_519 wd_520 wd_66 ⟨by decide, by decide, by decide +kernel⟩ ⟨by decide, by decide⟩ dX9_isNormal_9 (mm_if_eq hC (t := 19) dX9_isNormal_12 (by decide) (fun _ _ _ h => h) (mm_ic hC dX9_isNormal_15 ⟨by decide, by decide⟩ (mm_goto hC (t := 20) dX9_isNormal_16 (by decide) (fun _ _ _ h => h))))))))))), (by unfold b_X9_isNormal_19; exact (mm_ic hC dX9_isNormal_19 ⟨by decide, by decide⟩ (fun _ _ _ h => h))), (by unfold b_X9_isNormal_20; exact (mm_zr hC ⟨rfl, rfl⟩ hr dX9_isNormal_20))⟩
set_option maxRecDepth 100000 in
set_option maxHeartbeats 8000000 in
theorem pv_X9_isNormal : ∀ (av : List mm_V) (σ : mm_S) (Post : Option mm_V → mm_S → Prop), (∀ v ∈ av, mm_iv v) → (∀ a j, mm_in (σ.1 a j)) → σ.2.2 ≤ 348 → T_X9_isNormal av σ Post → ∀ Ok : Nat → mm_K, clo_X9_isNormal Ok Post σ.2.2 → Ok 0 (av ++ List.replicate (2 - av.length) (.inr none)) [] σ := by
  intro av σ Post hav hin hk hT Ok hcl
  obtain ⟨I, R0⟩ := σ
  unfold T_X9_isNormal at hT
  split at hT
  · rename_i s a
    obtain ⟨h0, hT⟩ := hT
    have h0 : R0 = mm_R0 := h0
    subst h0
    dsimp only at hT hin
    obtain ⟨c0, c19, c20⟩ := hcl
    obtain ⟨rfl, h1, n, hg, h4, hP⟩ := hT
    obtain ⟨r0, r1, r2, r3, r4, r5, r6, r7, r8, r9⟩ := Rs_1
    have ha := sh_lt h1 (by decide)
    refine c0 _ _ _ ?_
    simp only [b_X9_isNormal_0, i_ld, i_la, i_st, i_sa, i_c, i_inc, i_add, i_sub, i_mul, i_div, i_rem, i_remT, i_xor, i_dup, i_dup2, i_if, i_if2, i_sw, i_gi, i_gr, i_pi, i_pz, i_ial, i_ias, i_len, i_aal, i_gs, i_tal, i_cv, i_cs, i_ir, i_zr, i_vr, i_min, i_max, i_cpy, List.getElem?_cons_zero, List.getElem?_cons_succ, List.set_cons_zero, List.set_cons_succ, List.length_cons, List.length_nil, List.drop_succ_cons, List.drop_zero, List.take_succ_cons, List.take_zero, List.reverse_cons, List.reverse_nil, List.nil_append, List.cons_append, Option.toList_some, Option.toList_none, true_and, and_true, true_or, or_true, Nat.reduceAdd, Nat.reduceLT, Nat.reduceLeDiff, Option.some.injEq, exists_eq_left', Int.toNat_natCast, Nat.reduceSub, List.append_nil, List.replicate_succ, List.replicate_zero, mm_in, T_X7_crosses, T_X9_matches, r9, h1, ha]
    intro z hz
    have fin : ∀ (y : Int) (I' : Nat → Nat → Int), (∀ b, b ≠ 29 → b ≠ 30 → I' b = I b) → bz y (¬ crs (I (a + 1)) 3 ∧ mt n (I 3) (I 4) (I (a + 1))) → Ok 20 [.inr (some 1), .inr (some a)] [.inl y] (I', mm_R0) := by
      intro y I' f1 hh
      refine c20 _ _ _ ?_
      simp only [b_X9_isNormal_20, i_ld, i_la, i_st, i_sa, i_c, i_inc, i_add, i_sub, i_mul, i_div, i_rem, i_remT, i_xor, i_dup, i_dup2, i_if, i_if2, i_sw, i_gi, i_gr, i_pi, i_pz, i_ial, i_ias, i_len, i_aal, i_gs, i_tal, i_cv, i_cs, i_ir, i_zr, i_vr, i_min, i_max, i_cpy, List.getElem?_cons_zero, List.getElem?_cons_succ, List.set_cons_zero, List.set_cons_succ, List.length_cons, List.length_nil, List.drop_succ_cons, List.drop_zero, List.take_succ_cons, List.take_zero, List.reverse_cons, List.reverse_nil, List.nil_append, List.cons_append, Option.toList_some, Option.toList_none, true_and, and_true, true_or, or_true, Nat.reduceAdd, Nat.reduceLT, Nat.reduceLeDiff, Option.some.injEq, exists_eq_left', Int.toNat_natCast, Nat.reduceSub, List.append_nil, List.replicate_succ, List.replicate_zero]
      exact ⟨by rcases hh with q | q <;> omega, hP I' y f1 hh⟩
    refine ⟨fun q => ?_, fun q => ⟨n, hg, h4, fun I' y f1 f2 => ⟨fun q2 => ?_, fun q2 => ?_⟩⟩⟩
    · refine c19 _ _ _ ?_
      simp only [b_X9_isNormal_19, i_ld, i_la, i_st, i_sa, i_c, i_inc, i_add, i_sub, i_mul, i_div, i_rem, i_remT, i_xor, i_dup, i_dup2, i_if, i_if2, i_sw, i_gi, i_gr, i_pi, i_pz, i_ial, i_ias, i_len, i_aal, i_gs, i_tal, i_cv, i_cs, i_ir, i_zr, i_vr, i_min, i_max, i_cpy, List.getElem?_cons_zero, List.getElem?_cons_succ, List.set_cons_zero, List.set_cons_succ, List.length_cons, List.length_nil, List.drop_succ_cons, List.drop_zero, List.take_succ_cons, List.take_zero, List.reverse_cons, List.reverse_nil, List.nil_append, List.cons_append, Option.toList_some, Option.toList_none, true_and, and_true, true_or, or_true, Nat.reduceAdd, Nat.reduceLT, Nat.reduceLeDiff, Option.some.injEq, exists_eq_left', Int.toNat_natCast, Nat.reduceSub, List.append_nil, List.replicate_succ, List.replicate_zero]
      refine fin 0 I (fun _ _ _ => rfl) (bz_0 (fun hh => ?_))
      rcases hz with ⟨q1, q2⟩ | ⟨q1, q2⟩
      · exact hh.1 q2
      · exact q q1
    · refine c19 _ _ _ ?_
      simp only [b_X9_isNormal_19, i_ld, i_la, i_st, i_sa, i_c, i_inc, i_add, i_sub, i_mul, i_div, i_rem, i_remT, i_xor, i_dup, i_dup2, i_if, i_if2, i_sw, i_gi, i_gr, i_pi, i_pz, i_ial, i_ias, i_len, i_aal, i_gs, i_tal, i_cv, i_cs, i_ir, i_zr, i_vr, i_min, i_max, i_cpy, List.getElem?_cons_zero, List.getElem?_cons_succ, List.set_cons_zero, List.set_cons_succ, List.length_cons, List.length_nil, List.drop_succ_cons, List.drop_zero, List.take_succ_cons, List.take_zero, List.reverse_cons, List.reverse_nil, List.nil_append, List.cons_append, Option.toList_some, Option.toList_none, true_and, and_true, true_or, or_true, Nat.reduceAdd, Nat.reduceLT, Nat.reduceLeDiff, Option.some.injEq, exists_eq_left', Int.toNat_natCast, Nat.reduceSub, List.append_nil, List.replicate_succ, List.replicate_zero]
      refine fin 0 I' f1 (bz_0 (fun hh => ?_))
      rcases f2 with ⟨p1, p2⟩ | ⟨p1, p2⟩
      · omega
      · exact p2 hh.2
    · refine fin 1 I' f1 (bz_1 ⟨?_, ?_⟩)
      · rcases hz with ⟨q1, q2⟩ | ⟨q1, q2⟩
        · omega
        · exact q2
      · rcases f2 with ⟨p1, p2⟩ | ⟨p1, p2⟩
        · exact p2
        · omega
  · exact hT.elim
theorem sp_X9_isNormal : mm_Sp yX9_isNormal cX9_isNormal 2 (some .boolean) rm_X9_isNormal T_X9_isNormal := mm_meth (by decide) (by
  intro av σ Post h
  unfold T_X9_isNormal at h
  split at h
  · simp
  · exact h.elim) (fun p l e s m args below meth c G av σ Post hC hr _ hav hin hk hT => pv_X9_isNormal av σ Post hav hin hk hT _ (bk_X9_isNormal hC hr))
