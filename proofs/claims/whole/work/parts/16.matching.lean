/-! gluings; PieceSurfaces$Matching (cell 29, its row 30) -/
/-- a well-formed gluing of n tetrahedra: partners and ways of the twelve faces -/
def gok (n : Nat) (pa wy : Nat → Int) : Prop := ∀ f, f < 12 → (pa f = -1 ∨ (f < 4 * n ∧ 0 ≤ pa f ∧ pa f < 4 * n ∧ pa f ≠ f ∧ pa (pa f).toNat = f ∧ 0 ≤ wy f ∧ wy f < 6 ∧ wy (pa f).toNat = mm_tb 1 (wy f).toNat))
/-- the condition at corner v of face f -/
def mc (pa wy : Nat → Int) (nb : Nat → Int) (f v : Nat) : Prop := ac nb (f / 4) (f % 4) v = ac nb ((pa f).toNat / 4) ((pa f).toNat % 4) (acN (pa f).toNat (wy f).toNat f v % 4)
def mt (n : Nat) (pa wy : Nat → Int) (nb : Nat → Int) : Prop := ∀ f v, f < 4 * n → v < 4 → (f : Int) < pa f → v ≠ f % 4 → mc pa wy nb f v
theorem sm_le {f g : Nat → Int} {n : Nat} (h : ∀ k, k < n → f k ≤ g k) : sm f n ≤ sm g n := by
  induction n with
  | zero => exact Int.le_refl _
  | succ n ih => unfold sm; have := ih (fun k hk => h k (by omega)); have := h n (by omega); omega
theorem sm_add (f g : Nat → Int) (n : Nat) : sm (fun k => f k + g k) n = sm f n + sm g n := by
  induction n with
  | zero => rfl
  | succ n ih => unfold sm; rw [ih]; omega
theorem sm_const (c : Int) (n : Nat) : sm (fun _ => c) n = c * n := by
  induction n with
  | zero => simp [sm]
  | succ n ih => unfold sm; rw [ih, Int.natCast_add, Int.mul_add]; simp
theorem sm_swap (F : Nat → Nat → Int) (n m : Nat) : sm (fun g => sm (fun f => F f g) n) m = sm (fun f => sm (fun g => F f g) m) n := by
  induction n with
  | zero =>
    show sm (fun _ => 0) m = 0
    rw [sm_const]; simp
  | succ n ih =>
    show sm (fun g => sm (fun f => F f g) n + F n g) m = _
    rw [sm_add, ih]
    rfl
theorem sm_delta {n a : Nat} (h : a < n) (c : Nat → Int) : sm (fun k => if k = a then c k else 0) n = c a := by
  induction n with
  | zero => omega
  | succ n ih =>
    unfold sm
    by_cases e : a = n
    · subst e
      rw [if_pos rfl]
      have : sm (fun k => if k = a then c k else 0) a = sm (fun _ => 0) a := sm_congr (fun k hk => if_neg (by omega))
      rw [this, sm_const]; simp
    · rw [ih (by omega), if_neg (by omega)]; simp
/-- at most six faces lead -/
def nlead (pa : Nat → Int) (m : Nat) : Int := sm (fun f => if (f : Int) < pa f then 1 else 0) m
theorem nlead_le {n : Nat} {pa wy : Nat → Int} (h : gok n pa wy) (hn : n ≤ 3) : nlead pa 12 ≤ 6 := by
  have h1 : sm (fun g => sm (fun f => if (f : Int) < pa f ∧ pa f = (g : Int) then (1 : Int) else 0) 12) 12 = nlead pa 12 := by
    rw [sm_swap]
    refine sm_congr (fun f hf => ?_)
    by_cases e : (f : Int) < pa f
    · rcases h f hf with q | ⟨q1, q2, q3, q4, q5⟩
      · omega
      · have h2 : sm (fun g => if (f : Int) < pa f ∧ pa f = (g : Int) then (1 : Int) else 0) 12 = sm (fun k => if k = (pa f).toNat then (fun _ => (1 : Int)) k else 0) 12 := sm_congr (fun k hk => by
          by_cases z : k = (pa f).toNat
          · rw [if_pos z, if_pos ⟨e, by omega⟩]
          · rw [if_neg z, if_neg (by omega)])
        rw [h2, sm_delta (by omega), if_pos e]
    · rw [if_neg e]
      have h2 : sm (fun g => if (f : Int) < pa f ∧ pa f = (g : Int) then (1 : Int) else 0) 12 = sm (fun _ => 0) 12 := sm_congr (fun k hk => if_neg (fun z => e z.1))
      rw [h2, sm_const]; simp
  have h3 : ∀ g : Nat, g < 12 → sm (fun f => if (f : Int) < pa f ∧ pa f = (g : Int) then (1 : Int) else 0) 12 ≤ 1 - if (g : Int) < pa g then 1 else 0 := by
    intro g hg
    have h4 : ∀ f : Nat, f < 12 → (f : Int) < pa f ∧ pa f = (g : Int) → (f : Int) = pa g ∧ 0 ≤ pa g ∧ pa g < g := by
      intro f hf ⟨a1, a2⟩
      rcases h f hf with q | ⟨q1, q2, q3, q4, q5, q6⟩
      · omega
      · rw [a2, Int.toNat_natCast] at q5
        omega
    by_cases e : 0 ≤ pa g ∧ pa g < g
    · have h5 : sm (fun f => if (f : Int) < pa f ∧ pa f = (g : Int) then (1 : Int) else 0) 12 ≤ sm (fun k => if k = (pa g).toNat then (fun _ => (1 : Int)) k else 0) 12 := sm_le (fun f hf => by
        by_cases z : (f : Int) < pa f ∧ pa f = (g : Int)
        · have := h4 f hf z
          rw [if_pos z, if_pos (by omega)]
          exact Int.le_refl _
        · rw [if_neg z]
          show (0 : Int) ≤ if f = (pa g).toNat then 1 else 0
          split <;> decide)
      rw [sm_delta (by omega)] at h5
      rw [if_neg (by omega)]
      exact h5
    · have h5 : sm (fun f => if (f : Int) < pa f ∧ pa f = (g : Int) then (1 : Int) else 0) 12 = sm (fun _ => 0) 12 := sm_congr (fun f hf => if_neg (fun z => e (h4 f hf z).2))
      rw [h5, sm_const]
      split <;> decide
  have h6 := sm_le h3
  rw [h1] at h6
  have h7 : sm (fun g => (1 : Int) - if (g : Int) < pa g then 1 else 0) 12 = 12 - nlead pa 12 := by
    have : sm (fun g => (1 : Int) - if (g : Int) < pa g then 1 else 0) 12 + nlead pa 12 = sm (fun g => ((1 : Int) - if (g : Int) < pa g then 1 else 0) + if (g : Int) < pa g then 1 else 0) 12 := (sm_add _ _ _).symm
    have h8 : sm (fun g => ((1 : Int) - if (g : Int) < pa g then 1 else 0) + if (g : Int) < pa g then 1 else 0) 12 = sm (fun _ => 1) 12 := sm_congr (fun k hk => by split <;> decide)
    rw [h8, sm_const] at this
    omega
  rw [h7] at h6
  omega
theorem nlead_mono (pa : Nat → Int) {m k : Nat} (h : m ≤ k) : nlead pa m ≤ nlead pa k := by
  induction h with
  | refl => exact Int.le_refl _
  | step _ ih =>
    refine Int.le_trans ih ?_
    rename_i k _
    show nlead pa k ≤ nlead pa k + if (k : Int) < pa k then 1 else 0
    split <;> omega
/-- one condition of the list: four places of a surface's numbers -/
def cnd (T nb : Nat → Int) (t : Nat) : Prop := nb (T (4 * t)).toNat + nb (T (4 * t + 1)).toNat = nb (T (4 * t + 2)).toNat + nb (T (4 * t + 3)).toNat
def cin (T : Nat → Int) (m : Nat) : Prop := ∀ j, j < 4 * m → 0 ≤ T j ∧ T j < 21
def T_X4_enter : mm_T := fun av σ Post => match av with
  | [.inr (some M), .inl x, .inl y, .inl th, .inl ot, .inr (some a)] => σ.2 = mm_R0 ∧ M = 29 ∧ (mm_sh a).1 = 6 ∧ ∃ f v t o m : Nat, x = f ∧ y = v ∧ th = t ∧ ot = o ∧ σ.1 29 1 = m ∧ f < 12 ∧ v < 4 ∧ t < 12 ∧ o < 12 ∧ m < 18 ∧ bd (σ.1 (a + 1)) ∧
    ∀ (I' : Nat → Nat → Int) (m' : Nat), (∀ b, b ≠ 29 → b ≠ 30 → I' b = σ.1 b) → I' 29 1 = m' → (∀ j, j < 4 * m → I' 30 j = σ.1 30 j) →
      (m' = m ∧ σ.1 (a + 1) (7 * (f / 4) + v) = 0 ∧ σ.1 (a + 1) (7 * (f / 4) + tg v (f % 4)) = 0 ∧ σ.1 (a + 1) (7 * (o / 4) + t % 4) = 0 ∧ σ.1 (a + 1) (7 * (o / 4) + tg (t % 4) (o % 4)) = 0 ∨
        m' = m + 1 ∧ I' 30 (4 * m) = (7 * (f / 4) + v : Nat) ∧ I' 30 (4 * m + 1) = (7 * (f / 4) + tg v (f % 4) : Nat) ∧ I' 30 (4 * m + 2) = (7 * (o / 4) + t % 4 : Nat) ∧ I' 30 (4 * m + 3) = (7 * (o / 4) + tg (t % 4) (o % 4) : Nat)) → Post none (I', mm_R0)
  | _ => False
def rm_X4_enter : Room := { frames := 1, cells := 0, slots := 0, locals := 21 }
def b_X4_enter_0 (Ok : Nat → mm_K) (Post : Option mm_V → mm_S → Prop) (kf : Nat) : mm_K := i_c 4 (i_la 0 (i_gi 4 1 (i_mul (i_st 6 (i_ld 6 (i_c 3 (i_add (i_la 0 (i_gr 4 0 (i_len (i_if2 (fun x y => x < y) (i_ld 1 (i_c 4 (i_div (i_st 7 (i_ld 4 (i_c 4 (i_div (i_st 8 (i_la 0 (i_gr 4 0 (i_ld 6 (i_c 7 (i_ld 7 (i_mul (i_ld 2 (i_add (i_ias (i_la 0 (i_gr 4 0 (i_ld 6 (i_c 1 (i_add (i_c 7 (i_ld 7 (i_mul (i_ld 2 (i_ld 1 (i_c 4 (i_rem (i_cs 2 T_X6_together (i_add (i_ias (i_la 0 (i_gr 4 0 (i_ld 6 (i_c 2 (i_add (i_c 7 (i_ld 8 (i_mul (i_ld 3 (i_c 4 (i_rem (i_add (i_ias (i_la 0 (i_gr 4 0 (i_ld 6 (i_c 3 (i_add (i_c 7 (i_ld 8 (i_mul (i_ld 3 (i_c 4 (i_rem (i_ld 4 (i_c 4 (i_rem (i_cs 2 T_X6_together (i_add (i_ias (i_la 5 (i_gr 6 0 (i_sa 9 (i_la 9 (i_la 0 (i_gr 4 0 (i_ld 6 (i_ial (i_ial (i_la 9 (i_la 0 (i_gr 4 0 (i_ld 6 (i_c 1 (i_add (i_ial (i_ial (i_add (i_la 9 (i_la 0 (i_gr 4 0 (i_ld 6 (i_c 2 (i_add (i_ial (i_ial (i_add (i_la 9 (i_la 0 (i_gr 4 0 (i_ld 6 (i_c 3 (i_add (i_ial (i_ial (i_add (i_if (fun x => x ≤ 0) (Ok 180) (i_la 0 (i_dup (i_gi 4 1 (i_c 1 (i_add (i_pi 4 1 (Ok 180)))))))))))))))))))))))))))))))))))))))))))))))))))))))))))))))))))))))))))))))))))))))))))))))))))))))))) (i_vr Post kf))))))))))))
def b_X4_enter_180 (Ok : Nat → mm_K) (Post : Option mm_V → mm_S → Prop) (kf : Nat) : mm_K := i_vr Post kf
def clo_X4_enter (Ok : Nat → mm_K) (Post : Option mm_V → mm_S → Prop) (kf : Nat) : Prop := mm_imp (b_X4_enter_0 Ok Post kf) (Ok 0) ∧ mm_imp (b_X4_enter_180 Ok Post kf) (Ok 180)
set_option maxRecDepth 100000 in
set_option maxHeartbeats 4000000 in
theorem bk_X4_enter {p : Program} {l : Launch} {e : Env} {s : State} {m : MethodId} {args : Array Value} {below : List Frame} {meth : Method} {c : Code} {G : mm_G} {σ0 : mm_S} {Post : Option mm_V → mm_S → Prop} (hC : mm_C p G s m args meth c cX4_enter yX4_enter.cls) (hr : meth.sig.returnType = none) : clo_X4_enter (mm_O p l e rm_X4_enter s m args below meth c G σ0.2.2 (MQ below (mm_Qc G σ0 rm_X4_enter.cells rm_X4_enter.slots Post) args s rm_X4_enter.cells rm_X4_enter.slots (mm_A G))) Post σ0.2.2 := ⟨(by unfold b_X4_enter_0; exact (mm_ic hC dX4_enter_0 ⟨by decide, by decide⟩ (mm_la_n hC dX4_enter_1 rfl (mm_gi hC cl_4 (by decide) rfl wd_209 dX4_enter_2 (mm_mul hC dX4_enter_5 (mm_st hC dX4_enter_6 (mm_ld hC dX4_enter_8 (mm_ic hC dX4_enter_10 ⟨by decide, by decide⟩ (mm_add hC dX4_enter_11 (mm_la_n hC dX4_enter_12 rfl (mm_gr hC cl_4 (by decide) rfl wd_208 dX4_enter_13 (mm_len hC dX4_enter_16 (mm_ic_lt hC (t := 21) dX4_enter_17 (by decide) (mm_ld_n hC dX4_enter_21 rfl (mm_ic hC dX4_enter_22 ⟨by decide, by decide⟩ (mm_div hC dX4_enter_23 (mm_st hC dX4_enter_24 (mm_ld hC dX4_enter_26 (mm_ic hC dX4_enter_28 ⟨by decide, by decide⟩ (mm_div hC dX4_enter_29 (mm_st hC dX4_enter_30 (mm_la_n hC dX4_enter_32 rfl (mm_gr hC cl_4 (by decide) rfl wd_208 dX4_enter_33 (mm_ld hC dX4_enter_36 (mm_bp hC dX4_enter_38 ⟨⟨by decide, by decide⟩, by decide⟩ (mm_ld hC dX4_enter_40 (mm_mul hC dX4_enter_42 (mm_ld_n hC dX4_enter_43 rfl (mm_add hC dX4_enter_44 (mm_ias hC dX4_enter_45 (mm_la_n hC dX4_enter_46 rfl (mm_gr hC cl_4 (by decide) rfl wd_208 dX4_enter_47 (mm_ld hC dX4_enter_50 (mm_ic hC dX4_enter_52 ⟨by decide, by decide⟩ (mm_add hC dX4_enter_53 (mm_bp hC dX4_enter_54 ⟨⟨by decide, by decide⟩, by decide⟩ (mm_ld hC dX4_enter_56 (mm_mul hC dX4_enter_58 (mm_ld_n hC dX4_enter_59 rfl (mm_ld_n hC dX4_enter_60 rfl (mm_ic hC dX4_enter_61 ⟨by decide, by decide⟩ (mm_rem hC dX4_enter_62 (mm_cs hC sp_X6_together ⟨rfl, rfl⟩ wd_532 wd_461 wd_462 wd_79 ⟨by decide, by decide, by decide +kernel⟩ ⟨by decide, by decide⟩ dX4_enter_63 (mm_add hC dX4_enter_66 (mm_ias hC dX4_enter_67 (mm_la_n hC dX4_enter_68 rfl (mm_gr hC cl_4 (by decide) rfl wd_208 dX4_enter_69 (mm_ld hC dX4_enter_72 (mm_ic hC dX4_enter_74 ⟨by decide, by decide⟩ (mm_add hC dX4_enter_75 (mm_bp hC dX4_enter_76 ⟨⟨by decide, by decide⟩, by decide⟩ (mm_ld hC dX4_enter_78 (mm_mul hC dX4_enter_80 (mm_ld_n hC dX4_enter_81 rfl (mm_ic hC dX4_enter_82 ⟨by decide, by decide⟩ (mm_rem hC dX4_enter_83 (mm_add hC dX4_enter_84 (mm_ias hC dX4_enter_85 (mm_la_n hC dX4_enter_86 rfl (mm_gr hC cl_4 (by decide) rfl wd_208 dX4_enter_87 (mm_ld hC dX4_enter_90 (mm_ic hC dX4_enter_92 ⟨by decide, by decide⟩ (mm_add hC dX4_enter_93 (mm_bp hC dX4_enter_94 ⟨⟨by decide, by decide⟩, by decide⟩ (mm_ld hC dX4_enter_96 (mm_mul hC dX4_enter_98 (mm_ld_n hC dX4_enter_99 rfl (mm_ic hC dX4_enter_100 ⟨by decide, by decide⟩ (mm_rem hC dX4_enter_101 (mm_ld hC dX4_enter_102 (mm_ic hC dX4_enter_104 ⟨by decide, by decide⟩ (mm_rem hC dX4_enter_105 (mm_cs hC sp_X6_together ⟨rfl, rfl⟩ wd_532 wd_461 wd_462 wd_79 ⟨by decide, by decide, by decide +kernel⟩ ⟨by decide, by decide⟩ dX4_enter_106 (mm_add hC dX4_enter_109 (mm_ias hC dX4_enter_110 (mm_la hC dX4_enter_111 (mm_gr hC cl_6 (by decide) rfl wd_109 dX4_enter_113 (mm_sa hC dX4_enter_116 (mm_la hC dX4_enter_118 (mm_la_n hC dX4_enter_120 rfl (mm_gr hC cl_4 (by decide) rfl wd_208 dX4_enter_121 (mm_ld hC dX4_enter_124 (mm_ial hC dX4_enter_126 (mm_ial hC dX4_enter_127 (mm_la hC dX4_enter_128 (mm_la_n hC dX4_enter_130 rfl (mm_gr hC cl_4 (by decide) rfl wd_208 dX4_enter_131 (mm_ld hC dX4_enter_134 (mm_ic hC dX4_enter_136 ⟨by decide, by decide⟩ (mm_add hC dX4_enter_137 (mm_ial hC dX4_enter_138 (mm_ial hC dX4_enter_139 (mm_add hC dX4_enter_140 (mm_la hC dX4_enter_141 (mm_la_n hC dX4_enter_143 rfl (mm_gr hC cl_4 (by decide) rfl wd_208 dX4_enter_144 (mm_ld hC dX4_enter_147 (mm_ic hC dX4_enter_149 ⟨by decide, by decide⟩ (mm_add hC dX4_enter_150 (mm_ial hC dX4_enter_151 (mm_ial hC dX4_enter_152 (mm_add hC dX4_enter_153 (mm_la hC dX4_enter_154 (mm_la_n hC dX4_enter_156 rfl (mm_gr hC cl_4 (by decide) rfl wd_208 dX4_enter_157 (mm_ld hC dX4_enter_160 (mm_ic hC dX4_enter_162 ⟨by decide, by decide⟩ (mm_add hC dX4_enter_163 (mm_ial hC dX4_enter_164 (mm_ial hC dX4_enter_165 (mm_add hC dX4_enter_166 (mm_if_le hC (t := 180) dX4_enter_167 (by decide) (fun _ _ _ h => h) (mm_la_n hC dX4_enter_170 rfl (mm_dup hC dX4_enter_171 (mm_gi hC cl_4 (by decide) rfl wd_209 dX4_enter_172 (mm_ic hC dX4_enter_175 ⟨by decide, by decide⟩ (mm_add hC dX4_enter_176 (mm_pi hC cl_4 (by decide) rfl rfl rfl wd_209 dX4_enter_177 (fun _ _ _ h => h)))))))))))))))))))))))))))))))))))))))))))))))))))))))))))))))))))))))))))))))))))))))))))))))))))))))))) (mm_vr hC ⟨rfl, rfl⟩ hr dX4_enter_20)))))))))))))), (by unfold b_X4_enter_180; exact (mm_vr hC ⟨rfl, rfl⟩ hr dX4_enter_180))⟩
theorem sh_29 : (mm_sh 29).1 = 4 ∧ mm_sh 30 = (100, 72) ∧ (∀ j, mm_Rs 29 j = some 30) := ⟨by decide +kernel, by decide +kernel, fun j => by unfold mm_Rs; rw [show (mm_sh 29).1 = 4 by decide +kernel]; rfl⟩
set_option maxRecDepth 100000 in
set_option maxHeartbeats 8000000 in
theorem pv_X4_enter : ∀ (av : List mm_V) (σ : mm_S) (Post : Option mm_V → mm_S → Prop), (∀ v ∈ av, mm_iv v) → (∀ a j, mm_in (σ.1 a j)) → σ.2.2 ≤ 348 → T_X4_enter av σ Post → ∀ Ok : Nat → mm_K, clo_X4_enter Ok Post σ.2.2 → Ok 0 (av ++ List.replicate (10 - av.length) (.inr none)) [] σ := by
  intro av σ Post hav hin hk hT Ok hcl
  obtain ⟨I, R0⟩ := σ
  unfold T_X4_enter at hT
  split at hT
  · rename_i M x y th ot a
    obtain ⟨h0, hT⟩ := hT
    have h0 : R0 = mm_R0 := h0
    subst h0
    dsimp only at hT hin
    obtain ⟨c0, c180⟩ := hcl
    obtain ⟨rfl, h1, f, v, t, o, m, rfl, rfl, rfl, rfl, hm, h2, h3, h4, h5, h6, h7, hP⟩ := hT
    have ha := sh_lt h1 (by decide)
    obtain ⟨hs1, hs2⟩ := sh_sheet a ha h1
    have hR : ∀ j, mm_Rs a j = some (a + 1) := fun j => Rs_sheet h1
    obtain ⟨k1, k2, k3⟩ := sh_29
    have e1 : (f : Int) / 4 = ((f / 4 : Nat) : Int) := by omega
    have e2 : (f : Int) % 4 = ((f % 4 : Nat) : Int) := by omega
    have e3 : (o : Int) / 4 = ((o / 4 : Nat) : Int) := by omega
    have e4 : (o : Int) % 4 = ((o % 4 : Nat) : Int) := by omega
    have e5 : (t : Int) % 4 = ((t % 4 : Nat) : Int) := by omega
    have x1 : v ^^^ (f % 4) < 2 ^ 2 := Nat.xor_lt_two_pow (by omega) (by omega)
    have x2 : (t % 4) ^^^ (o % 4) < 2 ^ 2 := Nat.xor_lt_two_pow (by omega) (by omega)
    have g0 : (4 * (m : Int)).toNat = 4 * m := by omega
    have g1 : (4 * (m : Int) + 1).toNat = 4 * m + 1 := by omega
    have g2 : (4 * (m : Int) + 2).toNat = 4 * m + 2 := by omega
    have g3 : (4 * (m : Int) + 3).toNat = 4 * m + 3 := by omega
    have l29 : (29 : Nat) < 348 := by decide
    have l30 : (30 : Nat) < 348 := by decide
    have na : a + 1 ≠ 30 := fun e => by
      have : a = 29 := by omega
      rw [this, k1] at h1; cases h1
    have na2 : a + 1 ≠ 29 := fun e => by
      have : a = 28 := by omega
      rw [this] at h1; exact absurd h1 (by decide +kernel)
    obtain ⟨J, hJ⟩ : ∃ J : Nat → Nat → Int, J = mm_set (mm_set (mm_set (mm_set I 30 (4 * m) (7 * ((f / 4 : Nat) : Int) + (v : Int))) 30 (4 * m + 1) (7 * ((f / 4 : Nat) : Int) + (3 + ((v ^^^ f % 4 : Nat) : Int)))) 30 (4 * m + 2) (7 * ((o / 4 : Nat) : Int) + ((t % 4 : Nat) : Int))) 30 (4 * m + 3) (7 * ((o / 4 : Nat) : Int) + (3 + ((t % 4 ^^^ o % 4 : Nat) : Int))) := ⟨_, rfl⟩
    have j0 : J 30 (4 * m) = ((7 * (f / 4) + v : Nat) : Int) := by rw [hJ]; simp [mm_set]
    have j1 : J 30 (4 * m + 1) = ((7 * (f / 4) + tg v (f % 4) : Nat) : Int) := by rw [hJ]; simp [mm_set, tg]
    have j2 : J 30 (4 * m + 2) = ((7 * (o / 4) + t % 4 : Nat) : Int) := by rw [hJ]; simp [mm_set]
    have j3 : J 30 (4 * m + 3) = ((7 * (o / 4) + tg (t % 4) (o % 4) : Nat) : Int) := by rw [hJ]; simp [mm_set, tg]
    have ja : J (a + 1) = I (a + 1) := by rw [hJ]; funext q; simp [mm_set, na]
    have j9 : J 29 = I 29 := by rw [hJ]; funext q; simp [mm_set]
    have jo : ∀ b, b ≠ 30 → J b = I b := fun b hb => by rw [hJ]; funext q; simp [mm_set, hb]
    have jl : ∀ q, q < 4 * m → J 30 q = I 30 q := fun q hq => by
      have z0 : ¬ q = 4 * m := by omega
      have z1 : ¬ q = 4 * m + 1 := by omega
      have z2 : ¬ q = 4 * m + 2 := by omega
      have z3 : ¬ q = 4 * m + 3 := by omega
      rw [hJ]; simp [mm_set, z0, z1, z2, z3]
    have t1 := tg_b h3 (d := f % 4) (by omega)
    have t2 := tg_b (c := t % 4) (d := o % 4) (by omega) (by omega)
    have b0 := h7 (7 * (f / 4) + v) (by omega)
    have b1 := h7 (7 * (f / 4) + tg v (f % 4)) (by omega)
    have b2 := h7 (7 * (o / 4) + t % 4) (by omega)
    have b3 := h7 (7 * (o / 4) + tg (t % 4) (o % 4)) (by omega)
    refine c0 _ _ _ ?_
    simp only [b_X4_enter_0, i_ld, i_la, i_st, i_sa, i_c, i_inc, i_add, i_sub, i_mul, i_div, i_rem, i_remT, i_xor, i_dup, i_dup2, i_if, i_if2, i_sw, i_gi, i_gr, i_pi, i_pz, i_ial, i_ias, i_len, i_aal, i_gs, i_tal, i_cv, i_cs, i_ir, i_zr, i_vr, i_min, i_max, i_cpy, List.getElem?_cons_zero, List.getElem?_cons_succ, List.set_cons_zero, List.set_cons_succ, List.length_cons, List.length_nil, List.drop_succ_cons, List.drop_zero, List.take_succ_cons, List.take_zero, List.reverse_cons, List.reverse_nil, List.nil_append, List.cons_append, Option.toList_some, Option.toList_none, true_and, and_true, true_or, or_true, Nat.reduceAdd, Nat.reduceLT, Nat.reduceLeDiff, Option.some.injEq, exists_eq_left', Int.toNat_natCast, Nat.reduceSub, List.append_nil, List.replicate_succ, List.replicate_zero, k1, k2, k3, hm, T_X6_together, ha, h1, hs1, hs2, hR, e1, e2, e3, e4, e5, g0, g1, g2, g3]
    simp only [← hJ, j0, j1, j2, j3, ja, j9, hm, mm_in, Int.toNat_natCast]
    repeat' first | refine And.intro ?_ ?_ | intro _
    all_goals try omega
    · refine c180 _ _ _ ?_
      simp only [b_X4_enter_180, i_ld, i_la, i_st, i_sa, i_c, i_inc, i_add, i_sub, i_mul, i_div, i_rem, i_remT, i_xor, i_dup, i_dup2, i_if, i_if2, i_sw, i_gi, i_gr, i_pi, i_pz, i_ial, i_ias, i_len, i_aal, i_gs, i_tal, i_cv, i_cs, i_ir, i_zr, i_vr, i_min, i_max, i_cpy, List.getElem?_cons_zero, List.getElem?_cons_succ, List.set_cons_zero, List.set_cons_succ, List.length_cons, List.length_nil, List.drop_succ_cons, List.drop_zero, List.take_succ_cons, List.take_zero, List.reverse_cons, List.reverse_nil, List.nil_append, List.cons_append, Option.toList_some, Option.toList_none, true_and, and_true, true_or, or_true, Nat.reduceAdd, Nat.reduceLT, Nat.reduceLeDiff, Option.some.injEq, exists_eq_left', Int.toNat_natCast, Nat.reduceSub, List.append_nil, List.replicate_succ, List.replicate_zero]
      refine hP J m (fun b p1 p2 => jo b p2) (by rw [j9, hm]) jl (Or.inl ⟨rfl, by omega, by omega, by omega, by omega⟩)
    · refine c180 _ _ _ ?_
      simp only [b_X4_enter_180, i_ld, i_la, i_st, i_sa, i_c, i_inc, i_add, i_sub, i_mul, i_div, i_rem, i_remT, i_xor, i_dup, i_dup2, i_if, i_if2, i_sw, i_gi, i_gr, i_pi, i_pz, i_ial, i_ias, i_len, i_aal, i_gs, i_tal, i_cv, i_cs, i_ir, i_zr, i_vr, i_min, i_max, i_cpy, List.getElem?_cons_zero, List.getElem?_cons_succ, List.set_cons_zero, List.set_cons_succ, List.length_cons, List.length_nil, List.drop_succ_cons, List.drop_zero, List.take_succ_cons, List.take_zero, List.reverse_cons, List.reverse_nil, List.nil_append, List.cons_append, Option.toList_some, Option.toList_none, true_and, and_true, true_or, or_true, Nat.reduceAdd, Nat.reduceLT, Nat.reduceLeDiff, Option.some.injEq, exists_eq_left', Int.toNat_natCast, Nat.reduceSub, List.append_nil, List.replicate_succ, List.replicate_zero]
      refine hP _ (m + 1) (fun b p1 p2 => ?_) ?_ (fun q hq => ?_) (Or.inr ⟨rfl, ?_, ?_, ?_, ?_⟩)
      · rw [← jo b p2]; funext q; simp [mm_set, p1]
      · simp [mm_set]
      · simp [mm_set]; exact jl q hq
      · simp [mm_set]; rw [j0]; simp
      · simp [mm_set]; rw [j1]; simp
      · simp [mm_set]; rw [j2]; simp
      · simp [mm_set]; rw [j3]; simp
  · exact hT.elim
theorem sp_X4_enter : mm_Sp yX4_enter cX4_enter 10 none rm_X4_enter T_X4_enter := mm_meth (by decide) (by
  intro av σ Post h
  unfold T_X4_enter at h
  split at h
  · simp
  · exact h.elim) (fun p l e s m args below meth c G av σ Post hC hr _ hav hin hk hT => pv_X4_enter av σ Post hav hin hk hT _ (bk_X4_enter hC hr))

def T_X4_holds : mm_T := fun av σ Post => match av with
  | [.inr (some M), .inr (some a)] => σ.2 = mm_R0 ∧ M = 29 ∧ (mm_sh a).1 = 6 ∧ ∃ m : Nat, σ.1 29 1 = m ∧ m ≤ 18 ∧ cin (σ.1 30) m ∧ bd (σ.1 (a + 1)) ∧ ∀ z : Int, bz z (∀ t, t < m → cnd (σ.1 30) (σ.1 (a + 1)) t) → Post (some (.inl z)) σ
  | _ => False
def rm_X4_holds : Room := { frames := 0, cells := 0, slots := 0, locals := 0 }
def b_X4_holds_0 (Ok : Nat → mm_K) (Post : Option mm_V → mm_S → Prop) (kf : Nat) : mm_K := i_la 1 (i_gr 6 0 (i_sa 2 (i_c 0 (i_st 3 (Ok 7)))))
def b_X4_holds_7 (Ok : Nat → mm_K) (Post : Option mm_V → mm_S → Prop) (kf : Nat) : mm_K := i_ld 3 (i_c 4 (i_la 0 (i_gi 4 1 (i_mul (i_if2 (fun x y => y ≤ x) (i_c 1 (i_zr Post kf)) (i_la 2 (i_la 0 (i_gr 4 0 (i_ld 3 (i_ial (i_ial (i_la 2 (i_la 0 (i_gr 4 0 (i_ld 3 (i_c 1 (i_add (i_ial (i_ial (i_add (i_la 2 (i_la 0 (i_gr 4 0 (i_ld 3 (i_c 2 (i_add (i_ial (i_ial (i_la 2 (i_la 0 (i_gr 4 0 (i_ld 3 (i_c 3 (i_add (i_ial (i_ial (i_add (i_if2 (fun x y => x = y) (i_inc 3 4 (Ok 7)) (i_c 0 (i_zr Post kf))))))))))))))))))))))))))))))))))))))))
def clo_X4_holds (Ok : Nat → mm_K) (Post : Option mm_V → mm_S → Prop) (kf : Nat) : Prop := mm_imp (b_X4_holds_0 Ok Post kf) (Ok 0) ∧ mm_imp (b_X4_holds_7 Ok Post kf) (Ok 7)
set_option maxRecDepth 100000 in
set_option maxHeartbeats 4000000 in
theorem bk_X4_holds {p : Program} {l : Launch} {e : Env} {s : State} {m : MethodId} {args : Array Value} {below : List Frame} {meth : Method} {c : Code} {G : mm_G} {σ0 : mm_S} {Post : Option mm_V → mm_S → Prop} (hC : mm_C p G s m args meth c cX4_holds yX4_holds.cls) (hr : meth.sig.returnType = some .boolean) : clo_X4_holds (mm_O p l e rm_X4_holds s m args below meth c G σ0.2.2 (MQ below (mm_Qc G σ0 rm_X4_holds.cells rm_X4_holds.slots Post) args s rm_X4_holds.cells rm_X4_holds.slots (mm_A G))) Post σ0.2.2 := ⟨(by unfold b_X4_holds_0; exact (mm_la_n hC dX4_holds_0 rfl (mm_gr hC cl_6 (by decide) rfl wd_109 dX4_holds_1 (mm_sa_n hC dX4_holds_4 rfl (mm_ic hC dX4_holds_5 ⟨by decide, by decide⟩ (mm_st_n hC dX4_holds_6 rfl (fun _ _ _ h => h))))))), (by unfold b_X4_holds_7; exact (mm_ld_n hC dX4_holds_7 rfl (mm_ic hC dX4_holds_8 ⟨by decide, by decide⟩ (mm_la_n hC dX4_holds_9 rfl (mm_gi hC cl_4 (by decide) rfl wd_209 dX4_holds_10 (mm_mul hC dX4_holds_13 (mm_ic_ge hC (t := 68) dX4_holds_14 (by decide) (mm_ic hC dX4_holds_68 ⟨by decide, by decide⟩ (mm_zr hC ⟨rfl, rfl⟩ hr dX4_holds_69)) (mm_la_n hC dX4_holds_17 rfl (mm_la_n hC dX4_holds_18 rfl (mm_gr hC cl_4 (by decide) rfl wd_208 dX4_holds_19 (mm_ld_n hC dX4_holds_22 rfl (mm_ial hC dX4_holds_23 (mm_ial hC dX4_holds_24 (mm_la_n hC dX4_holds_25 rfl (mm_la_n hC dX4_holds_26 rfl (mm_gr hC cl_4 (by decide) rfl wd_208 dX4_holds_27 (mm_ld_n hC dX4_holds_30 rfl (mm_ic hC dX4_holds_31 ⟨by decide, by decide⟩ (mm_add hC dX4_holds_32 (mm_ial hC dX4_holds_33 (mm_ial hC dX4_holds_34 (mm_add hC dX4_holds_35 (mm_la_n hC dX4_holds_36 rfl (mm_la_n hC dX4_holds_37 rfl (mm_gr hC cl_4 (by decide) rfl wd_208 dX4_holds_38 (mm_ld_n hC dX4_holds_41 rfl (mm_ic hC dX4_holds_42 ⟨by decide, by decide⟩ (mm_add hC dX4_holds_43 (mm_ial hC dX4_holds_44 (mm_ial hC dX4_holds_45 (mm_la_n hC dX4_holds_46 rfl (mm_la_n hC dX4_holds_47 rfl (mm_gr hC cl_4 (by decide) rfl wd_208 dX4_holds_48 (mm_ld_n hC dX4_holds_51 rfl (mm_ic hC dX4_holds_52 ⟨by decide, by decide⟩ (mm_add hC dX4_holds_53 (mm_ial hC dX4_holds_54 (mm_ial hC dX4_holds_55 (mm_add hC dX4_holds_56 (mm_ic_eq hC (t := 62) dX4_holds_57 (by decide) (mm_inc hC dX4_holds_62 (mm_goto hC (t := 7) dX4_holds_65 (by decide) (fun _ _ _ h => h))) (mm_ic hC dX4_holds_60 ⟨by decide, by decide⟩ (mm_zr hC ⟨rfl, rfl⟩ hr dX4_holds_61))))))))))))))))))))))))))))))))))))))))))⟩
set_option maxRecDepth 100000 in
set_option maxHeartbeats 8000000 in
theorem pv_X4_holds : ∀ (av : List mm_V) (σ : mm_S) (Post : Option mm_V → mm_S → Prop), (∀ v ∈ av, mm_iv v) → (∀ a j, mm_in (σ.1 a j)) → σ.2.2 ≤ 348 → T_X4_holds av σ Post → ∀ Ok : Nat → mm_K, clo_X4_holds Ok Post σ.2.2 → Ok 0 (av ++ List.replicate (4 - av.length) (.inr none)) [] σ := by
  intro av σ Post hav hin hk hT Ok hcl
  obtain ⟨I, R0⟩ := σ
  unfold T_X4_holds at hT
  split at hT
  · rename_i M a
    obtain ⟨h0, hT⟩ := hT
    have h0 : R0 = mm_R0 := h0
    subst h0
    dsimp only at hT hin
    obtain ⟨c0, c7⟩ := hcl
    obtain ⟨rfl, h1, m, hm, h2, h3, h4, hP⟩ := hT
    have ha := sh_lt h1 (by decide)
    obtain ⟨hs1, hs2⟩ := sh_sheet a ha h1
    have hR : ∀ j, mm_Rs a j = some (a + 1) := fun j => Rs_sheet h1
    obtain ⟨k1, k2, k3⟩ := sh_29
    have l29 : (29 : Nat) < 348 := by decide
    have l30 : (30 : Nat) < 348 := by decide
    have loop : ∀ (d t : Nat), t + d = m → (∀ q, q < t → cnd (I 30) (I (a + 1)) q) → Ok 7 [.inr (some 29), .inr (some a), .inr (some (a + 1)), .inl (4 * (t : Int))] [] (I, mm_R0) := by
      intro d
      induction d with
      | zero =>
        intro t hd hq
        refine c7 _ _ _ ?_
        simp only [b_X4_holds_7, i_ld, i_la, i_st, i_sa, i_c, i_inc, i_add, i_sub, i_mul, i_div, i_rem, i_remT, i_xor, i_dup, i_dup2, i_if, i_if2, i_sw, i_gi, i_gr, i_pi, i_pz, i_ial, i_ias, i_len, i_aal, i_gs, i_tal, i_cv, i_cs, i_ir, i_zr, i_vr, i_min, i_max, i_cpy, List.getElem?_cons_zero, List.getElem?_cons_succ, List.set_cons_zero, List.set_cons_succ, List.length_cons, List.length_nil, List.drop_succ_cons, List.drop_zero, List.take_succ_cons, List.take_zero, List.reverse_cons, List.reverse_nil, List.nil_append, List.cons_append, Option.toList_some, Option.toList_none, true_and, and_true, true_or, or_true, Nat.reduceAdd, Nat.reduceLT, Nat.reduceLeDiff, Option.some.injEq, exists_eq_left', Int.toNat_natCast, Nat.reduceSub, List.append_nil, List.replicate_succ, List.replicate_zero, mm_in, k1, k2, k3, hm]
        repeat' first | refine And.intro ?_ ?_ | intro _
        all_goals try omega
        exact hP 1 (bz_1 (fun q hq2 => hq q (by omega)))
      | succ d ih =>
        intro t hd hq
        have g0 : (4 * (t : Int)).toNat = 4 * t := by omega
        have g1 : (4 * (t : Int) + 1).toNat = 4 * t + 1 := by omega
        have g2 : (4 * (t : Int) + 2).toNat = 4 * t + 2 := by omega
        have g3 : (4 * (t : Int) + 3).toNat = 4 * t + 3 := by omega
        have c0' := h3 (4 * t) (by omega)
        have c1' := h3 (4 * t + 1) (by omega)
        have c2' := h3 (4 * t + 2) (by omega)
        have c3' := h3 (4 * t + 3) (by omega)
        have d0 := h4 (I 30 (4 * t)).toNat (by omega)
        have d1 := h4 (I 30 (4 * t + 1)).toNat (by omega)
        have d2 := h4 (I 30 (4 * t + 2)).toNat (by omega)
        have d3 := h4 (I 30 (4 * t + 3)).toNat (by omega)
        refine c7 _ _ _ ?_
        simp only [b_X4_holds_7, i_ld, i_la, i_st, i_sa, i_c, i_inc, i_add, i_sub, i_mul, i_div, i_rem, i_remT, i_xor, i_dup, i_dup2, i_if, i_if2, i_sw, i_gi, i_gr, i_pi, i_pz, i_ial, i_ias, i_len, i_aal, i_gs, i_tal, i_cv, i_cs, i_ir, i_zr, i_vr, i_min, i_max, i_cpy, List.getElem?_cons_zero, List.getElem?_cons_succ, List.set_cons_zero, List.set_cons_succ, List.length_cons, List.length_nil, List.drop_succ_cons, List.drop_zero, List.take_succ_cons, List.take_zero, List.reverse_cons, List.reverse_nil, List.nil_append, List.cons_append, Option.toList_some, Option.toList_none, true_and, and_true, true_or, or_true, Nat.reduceAdd, Nat.reduceLT, Nat.reduceLeDiff, Option.some.injEq, exists_eq_left', Int.toNat_natCast, Nat.reduceSub, List.append_nil, List.replicate_succ, List.replicate_zero, mm_in, k1, k2, k3, hm, ha, h1, hs1, hs2, hR, g0, g1, g2, g3]
        repeat' first | refine And.intro ?_ ?_ | intro _
        all_goals try omega
        · have e4 : 4 * (t : Int) + 4 = 4 * ((t + 1 : Nat) : Int) := by omega
          rw [e4]
          refine ih (t + 1) (by omega) (fun q hq2 => ?_)
          by_cases e : q = t
          · subst e; assumption
          · exact hq q (by omega)
        · refine hP 0 (bz_0 (fun z => ?_))
          have := z t (by omega)
          unfold cnd at this
          contradiction
    refine c0 _ _ _ ?_
    simp only [b_X4_holds_0, i_ld, i_la, i_st, i_sa, i_c, i_inc, i_add, i_sub, i_mul, i_div, i_rem, i_remT, i_xor, i_dup, i_dup2, i_if, i_if2, i_sw, i_gi, i_gr, i_pi, i_pz, i_ial, i_ias, i_len, i_aal, i_gs, i_tal, i_cv, i_cs, i_ir, i_zr, i_vr, i_min, i_max, i_cpy, List.getElem?_cons_zero, List.getElem?_cons_succ, List.set_cons_zero, List.set_cons_succ, List.length_cons, List.length_nil, List.drop_succ_cons, List.drop_zero, List.take_succ_cons, List.take_zero, List.reverse_cons, List.reverse_nil, List.nil_append, List.cons_append, Option.toList_some, Option.toList_none, true_and, and_true, true_or, or_true, Nat.reduceAdd, Nat.reduceLT, Nat.reduceLeDiff, Option.some.injEq, exists_eq_left', Int.toNat_natCast, Nat.reduceSub, List.append_nil, List.replicate_succ, List.replicate_zero, ha, h1, hR]
    exact loop m 0 (by omega) (fun q hq => by omega)
  · exact hT.elim
theorem sp_X4_holds : mm_Sp yX4_holds cX4_holds 4 (some .boolean) rm_X4_holds T_X4_holds := mm_meth (by decide) (by
  intro av σ Post h
  unfold T_X4_holds at h
  split at h
  · simp
  · exact h.elim) (fun p l e s m args below meth c G av σ Post hC hr _ hav hin hk hT => pv_X4_holds av σ Post hav hin hk hT _ (bk_X4_holds hC hr))
