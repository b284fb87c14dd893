/-! the other program: corners, edges, arrows
-/
theorem tb0_ne : ∀ k, k < 6 → ∀ i, i < 3 → ∀ j, j < 3 → i ≠ j → mm_tb 0 (3 * k + i) ≠ mm_tb 0 (3 * k + j) := by decide +kernel
theorem acN_ne {o k f v u : Nat} (hk : k < 6) (hv : v < 4) (hu : u < 4) (h1 : v ≠ f % 4) (h2 : u ≠ f % 4) (h3 : v ≠ u) : acN o k f v ≠ acN o k f u := by
  obtain ⟨i, ei⟩ : ∃ i, (if v < f % 4 then v else v - 1) = i := ⟨_, rfl⟩
  obtain ⟨j, ej⟩ : ∃ j, (if u < f % 4 then u else u - 1) = j := ⟨_, rfl⟩
  have hi : i < 3 := by rw [← ei]; split <;> omega
  have hj : j < 3 := by rw [← ej]; split <;> omega
  have hne : i ≠ j := by rw [← ei, ← ej]; split <;> split <;> omega
  have a := tb0_ne k hk _ hi _ hj hne
  have b := wtab_b (3 * k + i) (by omega)
  have c := wtab_b (3 * k + j) (by omega)
  simp only [acN, ei, ej]
  split <;> split <;> omega
def gM (I : Nat → Nat → Int) (n : Nat) : Prop := I 339 0 = n ∧ 1 ≤ n ∧ n ≤ 3 ∧ gok n (MP I) (MY I)
def ged (x y : Nat) : Nat := 6 * (x / 4) + (mm_tb 4 (4 * (x % 4) + y % 4)).toNat
def gU (pa wy : Nat → Int) (f v u : Nat) (L : LT) : LT := if v = f % 4 ∨ u = f % 4 then L else if v < u then
    (mg L.1 (4 * (f / 4) + v) (acN (pa f).toNat (wy f).toNat f v), mg L.2.1 (ged (4 * (f / 4) + v) (4 * (f / 4) + u)) (ged (acN (pa f).toNat (wy f).toNat f v) (acN (pa f).toNat (wy f).toNat f u)),
      mg (mg L.2.2 (2 * ged (4 * (f / 4) + v) (4 * (f / 4) + u)) (2 * ged (acN (pa f).toNat (wy f).toNat f v) (acN (pa f).toNat (wy f).toNat f u) + if acN (pa f).toNat (wy f).toNat f u ≤ acN (pa f).toNat (wy f).toNat f v then 1 else 0))
        (2 * ged (4 * (f / 4) + v) (4 * (f / 4) + u) + 1) (2 * ged (acN (pa f).toNat (wy f).toNat f v) (acN (pa f).toNat (wy f).toNat f u) + 1 - if acN (pa f).toNat (wy f).toNat f u ≤ acN (pa f).toNat (wy f).toNat f v then 1 else 0))
  else (mg L.1 (4 * (f / 4) + v) (acN (pa f).toNat (wy f).toNat f v), L.2)
def gV (pa wy : Nat → Int) (f v : Nat) (L : LT) : LT := fo (gU pa wy f v) 4 L
def gF (pa wy : Nat → Int) (f : Nat) (L : LT) : LT := fo (gV pa wy f) 4 L
def gR (pa wy : Nat → Int) (f : Nat) (L : LT) : LT := if pa f = -1 then L else gF pa wy f L
def room (n : Nat) (pa wy : Nat → Int) : LT := fo (gR pa wy) (4 * n) (id, id, id)
def agM (I : Nat → Nat → Int) (L : LT) : Prop := (∀ k, k < 12 → I 343 k = L.1 k ∧ L.1 k ≤ k) ∧ (∀ k, k < 18 → I 344 k = L.2.1 k ∧ L.2.1 k ≤ k) ∧ ∀ k, k < 36 → I 345 k = L.2.2 k ∧ L.2.2 k ≤ k
theorem mg_lt {L : Nat → Nat} {p q k m : Nat} (h : ∀ k, k < m → L k ≤ k) (hp : p < m) (hq : q < m) (hk : k < m) : mg L p q k ≤ k := by
  unfold mg
  have h1 := h k hk
  have h2 := h p hp
  have h3 := h q hq
  split
  · rename_i e
    rcases Nat.le_total (L p) (L q) with z | z
    · rw [Nat.max_eq_right z] at e
      rw [Nat.min_eq_left z]
      omega
    · rw [Nat.max_eq_left z] at e
      rw [Nat.min_eq_right z]
      omega
  · exact h1
/-- a step of one label row -/
theorem lb_st {I I' : Nat → Nat → Int} {u n p q : Nat} {L : Nat → Nat} (h : ∀ k, k < n → I u k = L k ∧ L k ≤ k) (hp : p < n) (hq : q < n) (g : ∀ k, k < n → I' u k = (mg (fi I u) p q k : Int)) : ∀ k, k < n → I' u k = mg L p q k ∧ mg L p q k ≤ k := by
  intro k hk
  have e : ∀ k, k < n → fi I u k = L k := fun k hk => by unfold fi; rw [(h k hk).1, Int.toNat_natCast]
  rw [g k hk, mg_ag e hp hq k hk]
  exact ⟨rfl, mg_lt (fun k hk => (h k hk).2) hp hq hk⟩
theorem lb_lb {I : Nat → Nat → Int} {u n : Nat} {L : Nat → Nat} (h : ∀ k, k < n → I u k = L k ∧ L k ≤ k) : lb I u n := fun k hk => by
  have := h k hk
  omega
theorem al_call {I : Nat → Nat → Int} {u n x y : Nat} {p q : Int} {L : Nat → Nat} (hs : mm_sh u = (100, n)) (hn : n ≤ 840) (h : ∀ k, k < n → I u k = L k ∧ L k ≤ k) (hp : p = x) (hq : q = y) (hx : x < n) (hy : y < n) {Post : Option mm_V → mm_S → Prop}
    (hP : ∀ I' : Nat → Nat → Int, (∀ b, b ≠ u → I' b = I b) → (∀ k, k < n → I' u k = (mg L x y k : Int) ∧ mg L x y k ≤ k) → Post none (I', mm_R0)) : T_X12_alike [.inr (some u), .inl (n : Int), .inl p, .inl q] (I, mm_R0) Post := by
  refine ⟨rfl, n, x, y, by rw [hs], rfl, by rw [hs]; exact Nat.le_refl _, hn, hp, hq, hx, hy, lb_lb h, fun I' f g => hP I' f (lb_st h hx hy g)⟩
def T_X12_glueCorners : mm_T := fun av σ Post => match av with
  | [.inr (some a), .inl x] => σ.2 = mm_R0 ∧ a = 338 ∧ ∃ (f n : Nat) (L : LT), x = f ∧ gM σ.1 n ∧ f < 4 * n ∧ 0 ≤ MP σ.1 f ∧ agM σ.1 L ∧ ∀ I' : Nat → Nat → Int, (∀ b, b < 343 ∨ 345 < b → I' b = σ.1 b) → agM I' (gF (MP σ.1) (MY σ.1) f L) → Post none (I', mm_R0)
  | _ => False
def rm_X12_glueCorners : Room := { frames := 2, cells := 0, slots := 0, locals := 48 }
def b_X12_glueCorners_0 (Ok : Nat → mm_K) (Post : Option mm_V → mm_S → Prop) (kf : Nat) : mm_K := i_ld 1 (i_c 4 (i_rem (i_st 2 (i_ld 1 (i_c 4 (i_div (i_st 3 (i_c 0 (i_st 4 (Ok 11))))))))))
def b_X12_glueCorners_11 (Ok : Nat → mm_K) (Post : Option mm_V → mm_S → Prop) (kf : Nat) : mm_K := i_ld 4 (i_c 4 (i_if2 (fun x y => y ≤ x) (i_vr Post kf) (i_c 0 (i_st 5 (Ok 20)))))
def b_X12_glueCorners_20 (Ok : Nat → mm_K) (Post : Option mm_V → mm_S → Prop) (kf : Nat) : mm_K := i_ld 5 (i_c 4 (i_if2 (fun x y => y ≤ x) (i_inc 4 1 (Ok 11)) (i_ld 4 (i_ld 2 (i_if2 (fun x y => x = y) (Ok 186) (i_ld 5 (i_ld 2 (i_if2 (fun x y => x = y) (Ok 186) (i_la 0 (i_ld 1 (i_ld 4 (i_cv 11 2 T_X12_goesTo (i_st 6 (i_la 0 (i_ld 1 (i_ld 5 (i_cv 11 2 T_X12_goesTo (i_st 7 (i_la 0 (i_gr 11 8 (i_c 12 (i_c 4 (i_ld 3 (i_mul (i_ld 4 (i_add (i_ld 6 (i_cs 4 T_X12_alike (i_ld 4 (i_ld 5 (i_if2 (fun x y => y ≤ x) (Ok 186) (i_c 6 (i_ld 3 (i_mul (i_ld 4 (i_ld 5 (i_cs 2 T_X12_edgeOf (i_add (i_st 8 (i_c 6 (i_ld 6 (i_c 4 (i_div (i_mul (i_ld 6 (i_c 4 (i_rem (i_ld 7 (i_c 4 (i_rem (i_cs 2 T_X12_edgeOf (i_add (i_st 9 (i_ld 6 (i_ld 7 (i_if2 (fun x y => y ≤ x) (i_c 1 (Ok 127)) (i_c 0 (Ok 127))))))))))))))))))))))))))))))))))))))))))))))))))))))))))
def b_X12_glueCorners_127 (Ok : Nat → mm_K) (Post : Option mm_V → mm_S → Prop) (kf : Nat) : mm_K := i_st 10 (i_la 0 (i_gr 11 9 (i_c 18 (i_ld 8 (i_ld 9 (i_cs 4 T_X12_alike (i_la 0 (i_gr 11 10 (i_c 36 (i_c 2 (i_ld 8 (i_mul (i_c 2 (i_ld 9 (i_mul (i_ld 10 (i_add (i_cs 4 T_X12_alike (i_la 0 (i_gr 11 10 (i_c 36 (i_c 2 (i_ld 8 (i_mul (i_c 1 (i_add (i_c 2 (i_ld 9 (i_mul (i_c 1 (i_add (i_ld 10 (i_sub (i_cs 4 T_X12_alike (Ok 186)))))))))))))))))))))))))))))))))))
def b_X12_glueCorners_186 (Ok : Nat → mm_K) (Post : Option mm_V → mm_S → Prop) (kf : Nat) : mm_K := i_inc 5 1 (Ok 20)
def clo_X12_glueCorners (Ok : Nat → mm_K) (Post : Option mm_V → mm_S → Prop) (kf : Nat) : Prop := mm_imp (b_X12_glueCorners_0 Ok Post kf) (Ok 0) ∧ mm_imp (b_X12_glueCorners_11 Ok Post kf) (Ok 11) ∧ mm_imp (b_X12_glueCorners_20 Ok Post kf) (Ok 20) ∧ mm_imp (b_X12_glueCorners_127 Ok Post kf) (Ok 127) ∧ mm_imp (b_X12_glueCorners_186 Ok Post kf) (Ok 186)
set_option maxRecDepth 100000 in
set_option maxHeartbeats 4000000 in
theorem bk_X12_glueCorners {p : Program} {l : Launch} {e : Env} {s : State} {m : MethodId} {args : Array Value} {below : List Frame} {meth : Method} {c : Code} {G : mm_G} {σ0 : mm_S} {Post : Option mm_V → mm_S → Prop} (hC : mm_C p G s m args meth c cX12_glueCorners yX12_glueCorners.cls) (hr : meth.sig.returnType = none) : clo_X12_glueCorners (mm_O p l e rm_X12_glueCorners s m args below meth c G σ0.2.2 (MQ below (mm_Qc G σ0 rm_X12_glueCorners.cells rm_X12_glueCorners.slots Post) args s rm_X12_glueCorners.cells rm_X12_glueCorners.slots (mm_A G))) Post σ0.2.2 := ⟨(by unfold b_X12_glueCorners_0; exact (mm_ld_n hC dX12_glueCorners_0 rfl (mm_ic hC dX12_glueCorners_1 ⟨by decide, by decide⟩ (mm_rem hC dX12_glueCorners_2 (mm_st_n hC dX12_glueCorners_3 rfl (mm_ld_n hC dX12_glueCorners_4 rfl (mm_ic hC dX12_glueCorners_5 ⟨by decide, by decide⟩ (mm_div hC dX12_glueCorners_6 (mm_st_n hC dX12_glueCorners_7 rfl (mm_ic hC dX12_glueCorners_8 ⟨by decide, by decide⟩ (mm_st hC dX12_glueCorners_9 (fun _ _ _ h => h)))))))))))), (by unfold b_X12_glueCorners_11; exact (mm_ld hC dX12_glueCorners_11 (mm_ic hC dX12_glueCorners_13 ⟨by decide, by decide⟩ (mm_ic_ge hC (t := 198) dX12_glueCorners_14 (by decide) (mm_vr hC ⟨rfl, rfl⟩ hr dX12_glueCorners_198) (mm_ic hC dX12_glueCorners_17 ⟨by decide, by decide⟩ (mm_st hC dX12_glueCorners_18 (fun _ _ _ h => h))))))), (by unfold b_X12_glueCorners_20; exact (mm_ld hC dX12_glueCorners_20 (mm_ic hC dX12_glueCorners_22 ⟨by decide, by decide⟩ (mm_ic_ge hC (t := 192) dX12_glueCorners_23 (by decide) (mm_inc hC dX12_glueCorners_192 (mm_goto hC (t := 11) dX12_glueCorners_195 (by decide) (fun _ _ _ h => h))) (mm_ld hC dX12_glueCorners_26 (mm_ld_n hC dX12_glueCorners_28 rfl (mm_ic_eq hC (t := 186) dX12_glueCorners_29 (by decide) (fun _ _ _ h => h) (mm_ld hC dX12_glueCorners_32 (mm_ld_n hC dX12_glueCorners_34 rfl (mm_ic_eq hC (t := 186) dX12_glueCorners_35 (by decide) (fun _ _ _ h => h) (mm_la_n hC dX12_glueCorners_38 rfl (mm_ld_n hC dX12_glueCorners_39 rfl (mm_ld hC dX12_glueCorners_40 (mm_cv hC sp_X12_goesTo ⟨rfl, rfl⟩ cl_11 wd_857 wd_859 wd_26 wd_860 wd_77 ⟨by decide, by decide, by decide +kernel⟩ ⟨by decide, by decide⟩ dX12_glueCorners_42 (mm_st hC dX12_glueCorners_45 (mm_la_n hC dX12_glueCorners_47 rfl (mm_ld_n hC dX12_glueCorners_48 rfl (mm_ld hC dX12_glueCorners_49 (mm_cv hC sp_X12_goesTo ⟨rfl, rfl⟩ cl_11 wd_857 wd_859 wd_26 wd_860 wd_77 ⟨by decide, by decide, by decide +kernel⟩ ⟨by decide, by decide⟩ dX12_glueCorners_51 (mm_st hC dX12_glueCorners_54 (mm_la_n hC dX12_glueCorners_56 rfl (mm_gr hC cl_11 (by decide) rfl wd_797 dX12_glueCorners_57 (mm_bp hC dX12_glueCorners_60 ⟨⟨by decide, by decide⟩, by decide⟩ (mm_ic hC dX12_glueCorners_62 ⟨by decide, by decide⟩ (mm_ld_n hC dX12_glueCorners_63 rfl (mm_mul hC dX12_glueCorners_64 (mm_ld hC dX12_glueCorners_65 (mm_add hC dX12_glueCorners_67 (mm_ld hC dX12_glueCorners_68 (mm_cs hC sp_X12_alike ⟨rfl, rfl⟩ wd_864 wd_865 wd_866 wd_77 ⟨by decide, by decide, by decide +kernel⟩ ⟨by decide, by decide⟩ dX12_glueCorners_70 (mm_ld hC dX12_glueCorners_73 (mm_ld hC dX12_glueCorners_75 (mm_ic_ge hC (t := 186) dX12_glueCorners_77 (by decide) (fun _ _ _ h => h) (mm_bp hC dX12_glueCorners_80 ⟨⟨by decide, by decide⟩, by decide⟩ (mm_ld_n hC dX12_glueCorners_82 rfl (mm_mul hC dX12_glueCorners_83 (mm_ld hC dX12_glueCorners_84 (mm_ld hC dX12_glueCorners_86 (mm_cs hC sp_X12_edgeOf ⟨rfl, rfl⟩ wd_867 wd_868 wd_869 wd_77 ⟨by decide, by decide, by decide +kernel⟩ ⟨by decide, by decide⟩ dX12_glueCorners_88 (mm_add hC dX12_glueCorners_91 (mm_st hC dX12_glueCorners_92 (mm_bp hC dX12_glueCorners_94 ⟨⟨by decide, by decide⟩, by decide⟩ (mm_ld hC dX12_glueCorners_96 (mm_ic hC dX12_glueCorners_98 ⟨by decide, by decide⟩ (mm_div hC dX12_glueCorners_99 (mm_mul hC dX12_glueCorners_100 (mm_ld hC dX12_glueCorners_101 (mm_ic hC dX12_glueCorners_103 ⟨by decide, by decide⟩ (mm_rem hC dX12_glueCorners_104 (mm_ld hC dX12_glueCorners_105 (mm_ic hC dX12_glueCorners_107 ⟨by decide, by decide⟩ (mm_rem hC dX12_glueCorners_108 (mm_cs hC sp_X12_edgeOf ⟨rfl, rfl⟩ wd_867 wd_868 wd_869 wd_77 ⟨by decide, by decide, by decide +kernel⟩ ⟨by decide, by decide⟩ dX12_glueCorners_109 (mm_add hC dX12_glueCorners_112 (mm_st hC dX12_glueCorners_113 (mm_ld hC dX12_glueCorners_115 (mm_ld hC dX12_glueCorners_117 (mm_ic_ge hC (t := 126) dX12_glueCorners_119 (by decide) (mm_ic hC dX12_glueCorners_126 ⟨by decide, by decide⟩ (fun _ _ _ h => h)) (mm_ic hC dX12_glueCorners_122 ⟨by decide, by decide⟩ (mm_goto hC (t := 127) dX12_glueCorners_123 (by decide) (fun _ _ _ h => h))))))))))))))))))))))))))))))))))))))))))))))))))))))))))))), (by unfold b_X12_glueCorners_127; exact (mm_st hC dX12_glueCorners_127 (mm_la_n hC dX12_glueCorners_129 rfl (mm_gr hC cl_11 (by decide) rfl wd_798 dX12_glueCorners_130 (mm_bp hC dX12_glueCorners_133 ⟨⟨by decide, by decide⟩, by decide⟩ (mm_ld hC dX12_glueCorners_135 (mm_ld hC dX12_glueCorners_137 (mm_cs hC sp_X12_alike ⟨rfl, rfl⟩ wd_864 wd_865 wd_866 wd_77 ⟨by decide, by decide, by decide +kernel⟩ ⟨by decide, by decide⟩ dX12_glueCorners_139 (mm_la_n hC dX12_glueCorners_142 rfl (mm_gr hC cl_11 (by decide) rfl wd_799 dX12_glueCorners_143 (mm_bp hC dX12_glueCorners_146 ⟨⟨by decide, by decide⟩, by decide⟩ (mm_ic hC dX12_glueCorners_148 ⟨by decide, by decide⟩ (mm_ld hC dX12_glueCorners_149 (mm_mul hC dX12_glueCorners_151 (mm_ic hC dX12_glueCorners_152 ⟨by decide, by decide⟩ (mm_ld hC dX12_glueCorners_153 (mm_mul hC dX12_glueCorners_155 (mm_ld hC dX12_glueCorners_156 (mm_add hC dX12_glueCorners_158 (mm_cs hC sp_X12_alike ⟨rfl, rfl⟩ wd_864 wd_865 wd_866 wd_77 ⟨by decide, by decide, by decide +kernel⟩ ⟨by decide, by decide⟩ dX12_glueCorners_159 (mm_la_n hC dX12_glueCorners_162 rfl (mm_gr hC cl_11 (by decide) rfl wd_799 dX12_glueCorners_163 (mm_bp hC dX12_glueCorners_166 ⟨⟨by decide, by decide⟩, by decide⟩ (mm_ic hC dX12_glueCorners_168 ⟨by decide, by decide⟩ (mm_ld hC dX12_glueCorners_169 (mm_mul hC dX12_glueCorners_171 (mm_ic hC dX12_glueCorners_172 ⟨by decide, by decide⟩ (mm_add hC dX12_glueCorners_173 (mm_ic hC dX12_glueCorners_174 ⟨by decide, by decide⟩ (mm_ld hC dX12_glueCorners_175 (mm_mul hC dX12_glueCorners_177 (mm_ic hC dX12_glueCorners_178 ⟨by decide, by decide⟩ (mm_add hC dX12_glueCorners_179 (mm_ld hC dX12_glueCorners_180 (mm_sub hC dX12_glueCorners_182 (mm_cs hC sp_X12_alike ⟨rfl, rfl⟩ wd_864 wd_865 wd_866 wd_77 ⟨by decide, by decide, by decide +kernel⟩ ⟨by decide, by decide⟩ dX12_glueCorners_183 (fun _ _ _ h => h))))))))))))))))))))))))))))))))))))), (by unfold b_X12_glueCorners_186; exact (mm_inc hC dX12_glueCorners_186 (mm_goto hC (t := 20) dX12_glueCorners_189 (by decide) (fun _ _ _ h => h))))⟩
set_option maxRecDepth 100000 in
set_option maxHeartbeats 8000000 in
theorem pv_X12_glueCorners : ∀ (av : List mm_V) (σ : mm_S) (Post : Option mm_V → mm_S → Prop), (∀ v ∈ av, mm_iv v) → (∀ a j, mm_in (σ.1 a j)) → σ.2.2 ≤ 348 → T_X12_glueCorners av σ Post → ∀ Ok : Nat → mm_K, clo_X12_glueCorners Ok Post σ.2.2 → Ok 0 (av ++ List.replicate (11 - av.length) (.inr none)) [] σ := by
  intro av σ Post hav hin hk hT Ok hcl
  obtain ⟨I, R0⟩ := σ
  unfold T_X12_glueCorners at hT
  split at hT
  · rename_i a x
    obtain ⟨h0, hT⟩ := hT
    have h0 : R0 = mm_R0 := h0
    subst h0
    dsimp only at hT hin
    obtain ⟨c0, c11, c20, c127, c186⟩ := hcl
    obtain ⟨rfl, f, n, L, rfl, ⟨hn, hn1, hn3, hg⟩, hf, hpf, hag, hP⟩ := hT
    have w0 := m0
    obtain ⟨r0, r1, r2, r3, r4, r5, r6, r7, r8⟩ := Rs_338
    obtain ⟨s0, s1, s2, s3, s4, s5, s6, s7, s8, s9⟩ := sh_338
    obtain ⟨o, ho⟩ := Int.eq_ofNat_of_zero_le hpf
    obtain ⟨q1, q2, q3, q4, q5, q6, q7, q8⟩ : f < 4 * n ∧ 0 ≤ MP I f ∧ MP I f < 4 * n ∧ MP I f ≠ f ∧ MP I (MP I f).toNat = f ∧ 0 ≤ MY I f ∧ MY I f < 6 ∧ MY I (MP I f).toNat = mm_tb 1 (MY I f).toNat := by
      rcases hg f (by omega) with e | e
      · omega
      · exact e
    obtain ⟨k, hk⟩ := Int.eq_ofNat_of_zero_le q6
    have ho12 : o < 12 := by omega
    have hk6 : k < 6 := by omega
    have eU : ∀ v u M, gU (MP I) (MY I) f v u M = if v = f % 4 ∨ u = f % 4 then M else if v < u then
      (mg M.1 (4 * (f / 4) + v) (acN o k f v), mg M.2.1 (ged (4 * (f / 4) + v) (4 * (f / 4) + u)) (ged (acN o k f v) (acN o k f u)),
        mg (mg M.2.2 (2 * ged (4 * (f / 4) + v) (4 * (f / 4) + u)) (2 * ged (acN o k f v) (acN o k f u) + if acN o k f u ≤ acN o k f v then 1 else 0))
        (2 * ged (4 * (f / 4) + v) (4 * (f / 4) + u) + 1) (2 * ged (acN o k f v) (acN o k f u) + 1 - if acN o k f u ≤ acN o k f v then 1 else 0))
      else (mg M.1 (4 * (f / 4) + v) (acN o k f v), M.2) := by
      intro v u M
      unfold gU
      rw [ho, hk, Int.toNat_natCast, Int.toNat_natCast]
    have eq4 : (f : Int) % 4 = ((f % 4 : Nat) : Int) := by omega
    have ed4 : (f : Int) / 4 = ((f / 4 : Nat) : Int) := by omega
    have outer : ∀ (d v : Nat) (I1 : Nat → Nat → Int), v + d = 4 → (∀ b, b < 343 ∨ 345 < b → I1 b = I b) → agM I1 (fo (gV (MP I) (MY I) f) v L) → ∀ u5 u6 u7 u8 u9 u10 : mm_V, Ok 11 [.inr (some 338), .inl (f : Int), .inl ((f % 4 : Nat) : Int), .inl ((f / 4 : Nat) : Int), .inl (v : Int), u5, u6, u7, u8, u9, u10] [] (I1, mm_R0) := by
      intro d
      induction d with
      | zero =>
        intro v I1 hd h1 h2 u5 u6 u7 u8 u9 u10
        refine c11 _ _ _ ?_
        simp only [b_X12_glueCorners_11, i_xorg, i_shl, i_shr, i_ior, i_and1, i_lcg1, i_lcg2, i_ld, i_la, i_st, i_sa, i_c, i_inc, i_add, i_sub, i_mul, i_div, i_rem, i_remT, i_xor, i_dup, i_dup2, i_if, i_if2, i_sw, i_gi, i_gr, i_pi, i_pz, i_ial, i_ias, i_len, i_aal, i_gs, i_tal, i_cv, i_cs, i_ir, i_zr, i_vr, i_min, i_max, i_cpy, List.getElem?_cons_zero, List.getElem?_cons_succ, List.set_cons_zero, List.set_cons_succ, List.length_cons, List.length_nil, List.drop_succ_cons, List.drop_zero, List.take_succ_cons, List.take_zero, List.reverse_cons, List.reverse_nil, List.nil_append, List.cons_append, Option.toList_some, Option.toList_none, true_and, and_true, true_or, or_true, Nat.reduceAdd, Nat.reduceLT, Nat.reduceLeDiff, Option.some.injEq, exists_eq_left', Int.toNat_natCast, Nat.reduceSub, List.append_nil, List.replicate_succ, List.replicate_zero, mm_in,]
        refine ⟨fun _ => hP I1 h1 ?_, fun z => by omega⟩
        rw [show v = 4 by omega] at h2
        exact h2
      | succ d ih =>
        intro v I1 hd h1 h2 u5 u6 u7 u8 u9 u10
        have inner : ∀ (e u : Nat) (I2 : Nat → Nat → Int), u + e = 4 → (∀ b, b < 343 ∨ 345 < b → I2 b = I b) → agM I2 (fo (gU (MP I) (MY I) f v) u (fo (gV (MP I) (MY I) f) v L)) → ∀ u6 u7 u8 u9 u10 : mm_V, Ok 20 [.inr (some 338), .inl (f : Int), .inl ((f % 4 : Nat) : Int), .inl ((f / 4 : Nat) : Int), .inl (v : Int), .inl (u : Int), u6, u7, u8, u9, u10] [] (I2, mm_R0) := by
          intro e
          induction e with
          | zero =>
            intro u I2 he g1 g2 u6 u7 u8 u9 u10
            refine c20 _ _ _ ?_
            simp only [b_X12_glueCorners_20, i_xorg, i_shl, i_shr, i_ior, i_and1, i_lcg1, i_lcg2, i_ld, i_la, i_st, i_sa, i_c, i_inc, i_add, i_sub, i_mul, i_div, i_rem, i_remT, i_xor, i_dup, i_dup2, i_if, i_if2, i_sw, i_gi, i_gr, i_pi, i_pz, i_ial, i_ias, i_len, i_aal, i_gs, i_tal, i_cv, i_cs, i_ir, i_zr, i_vr, i_min, i_max, i_cpy, List.getElem?_cons_zero, List.getElem?_cons_succ, List.set_cons_zero, List.set_cons_succ, List.length_cons, List.length_nil, List.drop_succ_cons, List.drop_zero, List.take_succ_cons, List.take_zero, List.reverse_cons, List.reverse_nil, List.nil_append, List.cons_append, Option.toList_some, Option.toList_none, true_and, and_true, true_or, or_true, Nat.reduceAdd, Nat.reduceLT, Nat.reduceLeDiff, Option.some.injEq, exists_eq_left', Int.toNat_natCast, Nat.reduceSub, List.append_nil, List.replicate_succ, List.replicate_zero, mm_in,]
            refine ⟨fun _ => ⟨⟨by omega, by omega⟩, ?_⟩, fun z => by omega⟩
            rw [show u = 4 by omega] at g2 ⊢
            have := ih (v + 1) I2 (by omega) g1 g2 (.inl 4) u6 u7 u8 u9 u10
            rw [Int.natCast_add] at this
            exact this
          | succ e ih2 =>
            intro u I2 he g1 g2 u6 u7 u8 u9 u10
            obtain ⟨M, hM⟩ : ∃ M, fo (gU (MP I) (MY I) f v) u (fo (gV (MP I) (MY I) f) v L) = M := ⟨_, rfl⟩
            rw [hM] at g2
            have nx : ∀ (I3 : Nat → Nat → Int), (∀ b, b < 343 ∨ 345 < b → I3 b = I b) → agM I3 (gU (MP I) (MY I) f v u M) → ∀ u6 u7 u8 u9 u10 : mm_V, Ok 186 [.inr (some 338), .inl (f : Int), .inl ((f % 4 : Nat) : Int), .inl ((f / 4 : Nat) : Int), .inl (v : Int), .inl (u : Int), u6, u7, u8, u9, u10] [] (I3, mm_R0) := by
              intro I3 z1 z2 u6 u7 u8 u9 u10
              refine c186 _ _ _ ?_
              simp only [b_X12_glueCorners_186, i_xorg, i_shl, i_shr, i_ior, i_and1, i_lcg1, i_lcg2, i_ld, i_la, i_st, i_sa, i_c, i_inc, i_add, i_sub, i_mul, i_div, i_rem, i_remT, i_xor, i_dup, i_dup2, i_if, i_if2, i_sw, i_gi, i_gr, i_pi, i_pz, i_ial, i_ias, i_len, i_aal, i_gs, i_tal, i_cv, i_cs, i_ir, i_zr, i_vr, i_min, i_max, i_cpy, List.getElem?_cons_zero, List.getElem?_cons_succ, List.set_cons_zero, List.set_cons_succ, List.length_cons, List.length_nil, List.drop_succ_cons, List.drop_zero, List.take_succ_cons, List.take_zero, List.reverse_cons, List.reverse_nil, List.nil_append, List.cons_append, Option.toList_some, Option.toList_none, true_and, and_true, true_or, or_true, Nat.reduceAdd, Nat.reduceLT, Nat.reduceLeDiff, Option.some.injEq, exists_eq_left', Int.toNat_natCast, Nat.reduceSub, List.append_nil, List.replicate_succ, List.replicate_zero, mm_in,]
              refine ⟨⟨by omega, by omega⟩, ?_⟩
              have := ih2 (u + 1) I3 (by omega) z1 (by show agM I3 (gU (MP I) (MY I) f v u (fo (gU (MP I) (MY I) f v) u _)); rw [hM]; exact z2) u6 u7 u8 u9 u10
              rw [Int.natCast_add] at this
              exact this
            refine c20 _ _ _ ?_
            simp only [b_X12_glueCorners_20, i_xorg, i_shl, i_shr, i_ior, i_and1, i_lcg1, i_lcg2, i_ld, i_la, i_st, i_sa, i_c, i_inc, i_add, i_sub, i_mul, i_div, i_rem, i_remT, i_xor, i_dup, i_dup2, i_if, i_if2, i_sw, i_gi, i_gr, i_pi, i_pz, i_ial, i_ias, i_len, i_aal, i_gs, i_tal, i_cv, i_cs, i_ir, i_zr, i_vr, i_min, i_max, i_cpy, List.getElem?_cons_zero, List.getElem?_cons_succ, List.set_cons_zero, List.set_cons_succ, List.length_cons, List.length_nil, List.drop_succ_cons, List.drop_zero, List.take_succ_cons, List.take_zero, List.reverse_cons, List.reverse_nil, List.nil_append, List.cons_append, Option.toList_some, Option.toList_none, true_and, and_true, true_or, or_true, Nat.reduceAdd, Nat.reduceLT, Nat.reduceLeDiff, Option.some.injEq, exists_eq_left', Int.toNat_natCast, Nat.reduceSub, List.append_nil, List.replicate_succ, List.replicate_zero, mm_in, w0, r4, T_X12_goesTo]
            refine ⟨fun z => by omega, fun z => ⟨fun z1 => nx I2 g1 (by rw [eU, if_pos (by omega)]; exact g2) _ _ _ _ _, fun z1 => ⟨fun z2 => nx I2 g1 (by rw [eU, if_pos (by omega)]; exact g2) _ _ _ _ _, fun z2 => ?_⟩⟩⟩
            have av := acN_b (v := v) ho12 hk6 (by omega) (show v ≠ f % 4 by omega)
            have au := acN_b (v := u) ho12 hk6 (by omega) (show u ≠ f % 4 by omega)
            refine ⟨f, v, o, k, rfl, rfl, by omega, by omega, by omega, by rw [g1 339 (by omega)]; exact ho, ho12, by rw [g1 339 (by omega)]; exact hk, hk6, ?_⟩
            refine ⟨f, u, o, k, rfl, rfl, by omega, by omega, by omega, by rw [g1 339 (by omega)]; exact ho, ho12, by rw [g1 339 (by omega)]; exact hk, hk6, ?_⟩
            refine ⟨⟨by omega, by omega⟩, ⟨by omega, by omega⟩, al_call s5 (by omega) g2.1 (x := 4 * (f / 4) + v) (y := acN o k f v) (by omega) rfl (by omega) av.1 (fun I3 g3 g4 => ?_)⟩
            have g5 : ∀ b, b < 343 ∨ 345 < b → I3 b = I b := fun b hb => by rw [g3 b (by omega)]; exact g1 b hb
            have g6 := g2.2
            rw [← g3 344 (by omega), ← g3 345 (by omega)] at g6
            simp only [w0, r5, T_X12_edgeOf, i_xorg, i_shl, i_shr, i_ior, i_and1, i_lcg1, i_lcg2, i_ld, i_la, i_st, i_sa, i_c, i_inc, i_add, i_sub, i_mul, i_div, i_rem, i_remT, i_xor, i_dup, i_dup2, i_if, i_if2, i_sw, i_gi, i_gr, i_pi, i_pz, i_ial, i_ias, i_len, i_aal, i_gs, i_tal, i_cv, i_cs, i_ir, i_zr, i_vr, i_min, i_max, i_cpy, List.getElem?_cons_zero, List.getElem?_cons_succ, List.set_cons_zero, List.set_cons_succ, List.length_cons, List.length_nil, List.drop_succ_cons, List.drop_zero, List.take_succ_cons, List.take_zero, List.reverse_cons, List.reverse_nil, List.nil_append, List.cons_append, Option.toList_some, Option.toList_none, true_and, and_true, true_or, or_true, Nat.reduceAdd, Nat.reduceLT, Nat.reduceLeDiff, Option.some.injEq, exists_eq_left', Int.toNat_natCast, Nat.reduceSub, List.append_nil, List.replicate_succ, List.replicate_zero]
            refine ⟨fun z3 => nx I3 g5 (by rw [eU, if_neg (by omega), if_neg (by omega)]; exact ⟨g4, g6⟩) _ _ _ _ _, fun z3 => ?_⟩
            have ne := acN_ne (o := o) hk6 (show v < 4 by omega) (show u < 4 by omega) (show v ≠ f % 4 by omega) (show u ≠ f % 4 by omega) (by omega)
            have t1 := eg_b v (by omega) u (by omega) (by omega)
            have t2 := eg_b (acN o k f v % 4) (by omega) (acN o k f u % 4) (by omega) (by omega)
            obtain ⟨E1, hE1⟩ : ∃ E1, ged (4 * (f / 4) + v) (4 * (f / 4) + u) = E1 := ⟨_, rfl⟩
            obtain ⟨E2, hE2⟩ : ∃ E2, ged (acN o k f v) (acN o k f u) = E2 := ⟨_, rfl⟩
            have x1 : 6 * ((f / 4 : Nat) : Int) + mm_tb 4 (4 * v + u) = (E1 : Int) := by
              rw [← hE1]
              unfold ged
              rw [show (4 * (f / 4) + v) / 4 = f / 4 by omega, show (4 * (f / 4) + v) % 4 = v by omega, show (4 * (f / 4) + u) % 4 = u by omega]
              omega
            have x2 : 6 * ((acN o k f v : Int) / 4) + mm_tb 4 (4 * (acN o k f v % 4) + acN o k f u % 4) = (E2 : Int) := by
              rw [← hE2]
              unfold ged
              omega
            have b1 : E1 < 18 := by omega
            have b2 : E2 < 18 := by omega
            have f127 : ∀ sg : Nat, sg = (if acN o k f u ≤ acN o k f v then 1 else 0) → Ok 127 [.inr (some 338), .inl (f : Int), .inl ((f % 4 : Nat) : Int), .inl ((f / 4 : Nat) : Int), .inl (v : Int), .inl (u : Int), .inl (acN o k f v : Int), .inl (acN o k f u : Int), .inl (E1 : Int), .inl (E2 : Int), u10] [.inl (sg : Int)] (I3, mm_R0) := by
              intro sg hsg
              have hsg1 : sg ≤ 1 := by rw [hsg]; split <;> omega
              refine c127 _ _ _ ?_
              simp only [b_X12_glueCorners_127, i_xorg, i_shl, i_shr, i_ior, i_and1, i_lcg1, i_lcg2, i_ld, i_la, i_st, i_sa, i_c, i_inc, i_add, i_sub, i_mul, i_div, i_rem, i_remT, i_xor, i_dup, i_dup2, i_if, i_if2, i_sw, i_gi, i_gr, i_pi, i_pz, i_ial, i_ias, i_len, i_aal, i_gs, i_tal, i_cv, i_cs, i_ir, i_zr, i_vr, i_min, i_max, i_cpy, List.getElem?_cons_zero, List.getElem?_cons_succ, List.set_cons_zero, List.set_cons_succ, List.length_cons, List.length_nil, List.drop_succ_cons, List.drop_zero, List.take_succ_cons, List.take_zero, List.reverse_cons, List.reverse_nil, List.nil_append, List.cons_append, Option.toList_some, Option.toList_none, true_and, and_true, true_or, or_true, Nat.reduceAdd, Nat.reduceLT, Nat.reduceLeDiff, Option.some.injEq, exists_eq_left', Int.toNat_natCast, Nat.reduceSub, List.append_nil, List.replicate_succ, List.replicate_zero, mm_in, w0, r5, r6]
              refine al_call s6 (by omega) g6.1 rfl rfl b1 b2 (fun I4 k1 k2 => ?_)
              have g7 := g6.2
              rw [← k1 345 (by omega)] at g7
              simp only [mm_in, w0, r6, i_xorg, i_shl, i_shr, i_ior, i_and1, i_lcg1, i_lcg2, i_ld, i_la, i_st, i_sa, i_c, i_inc, i_add, i_sub, i_mul, i_div, i_rem, i_remT, i_xor, i_dup, i_dup2, i_if, i_if2, i_sw, i_gi, i_gr, i_pi, i_pz, i_ial, i_ias, i_len, i_aal, i_gs, i_tal, i_cv, i_cs, i_ir, i_zr, i_vr, i_min, i_max, i_cpy, List.getElem?_cons_zero, List.getElem?_cons_succ, List.set_cons_zero, List.set_cons_succ, List.length_cons, List.length_nil, List.drop_succ_cons, List.drop_zero, List.take_succ_cons, List.take_zero, List.reverse_cons, List.reverse_nil, List.nil_append, List.cons_append, Option.toList_some, Option.toList_none, true_and, and_true, true_or, or_true, Nat.reduceAdd, Nat.reduceLT, Nat.reduceLeDiff, Option.some.injEq, exists_eq_left', Int.toNat_natCast, Nat.reduceSub, List.append_nil, List.replicate_succ, List.replicate_zero]
              refine ⟨⟨by omega, by omega⟩, ⟨by omega, by omega⟩, ⟨by omega, by omega⟩, al_call s7 (by omega) g7 (x := 2 * E1) (y := 2 * E2 + sg) (by omega) (by omega) (by omega) (by omega) (fun I5 k3 k4 => ?_)⟩
              simp only [mm_in, w0, r6, i_xorg, i_shl, i_shr, i_ior, i_and1, i_lcg1, i_lcg2, i_ld, i_la, i_st, i_sa, i_c, i_inc, i_add, i_sub, i_mul, i_div, i_rem, i_remT, i_xor, i_dup, i_dup2, i_if, i_if2, i_sw, i_gi, i_gr, i_pi, i_pz, i_ial, i_ias, i_len, i_aal, i_gs, i_tal, i_cv, i_cs, i_ir, i_zr, i_vr, i_min, i_max, i_cpy, List.getElem?_cons_zero, List.getElem?_cons_succ, List.set_cons_zero, List.set_cons_succ, List.length_cons, List.length_nil, List.drop_succ_cons, List.drop_zero, List.take_succ_cons, List.take_zero, List.reverse_cons, List.reverse_nil, List.nil_append, List.cons_append, Option.toList_some, Option.toList_none, true_and, and_true, true_or, or_true, Nat.reduceAdd, Nat.reduceLT, Nat.reduceLeDiff, Option.some.injEq, exists_eq_left', Int.toNat_natCast, Nat.reduceSub, List.append_nil, List.replicate_succ, List.replicate_zero]
              refine ⟨⟨by omega, by omega⟩, ⟨by omega, by omega⟩, ⟨by omega, by omega⟩, ⟨by omega, by omega⟩, ⟨by omega, by omega⟩, al_call s7 (by omega) k4 (x := 2 * E1 + 1) (y := 2 * E2 + 1 - sg) (by omega) (by omega) (by omega) (by omega) (fun I6 k5 k6 => ?_)⟩
              refine nx I6 (fun b hb => by rw [k5 b (by omega), k3 b (by omega), k1 b (by omega)]; exact g5 b hb) ?_ _ _ _ _ _
              rw [eU, if_neg (by omega), if_pos (by omega), hE1, hE2, ← hsg]
              refine ⟨?_, ?_, k6⟩
              · rw [k5 343 (by omega), k3 343 (by omega), k1 343 (by omega)]
                exact g4
              · rw [k5 344 (by omega), k3 344 (by omega)]
                exact k2
            refine ⟨⟨by omega, by omega⟩, v, u, rfl, rfl, by omega, by omega, by omega, ?_⟩
            rw [x1]
            refine ⟨⟨by omega, by omega⟩, ⟨by omega, by omega⟩, ⟨by omega, by omega⟩, ⟨by omega, by omega⟩, ⟨by omega, by omega⟩, acN o k f v % 4, acN o k f u % 4, by omega, by omega, by omega, by omega, by omega, ?_⟩
            rw [x2]
            refine ⟨⟨by omega, by omega⟩, fun z4 => f127 1 (by rw [if_pos (by omega)]), fun z4 => f127 0 (by rw [if_neg (by omega)])⟩
        refine c11 _ _ _ ?_
        simp only [b_X12_glueCorners_11, i_xorg, i_shl, i_shr, i_ior, i_and1, i_lcg1, i_lcg2, i_ld, i_la, i_st, i_sa, i_c, i_inc, i_add, i_sub, i_mul, i_div, i_rem, i_remT, i_xor, i_dup, i_dup2, i_if, i_if2, i_sw, i_gi, i_gr, i_pi, i_pz, i_ial, i_ias, i_len, i_aal, i_gs, i_tal, i_cv, i_cs, i_ir, i_zr, i_vr, i_min, i_max, i_cpy, List.getElem?_cons_zero, List.getElem?_cons_succ, List.set_cons_zero, List.set_cons_succ, List.length_cons, List.length_nil, List.drop_succ_cons, List.drop_zero, List.take_succ_cons, List.take_zero, List.reverse_cons, List.reverse_nil, List.nil_append, List.cons_append, Option.toList_some, Option.toList_none, true_and, and_true, true_or, or_true, Nat.reduceAdd, Nat.reduceLT, Nat.reduceLeDiff, Option.some.injEq, exists_eq_left', Int.toNat_natCast, Nat.reduceSub, List.append_nil, List.replicate_succ, List.replicate_zero, mm_in,]
        refine ⟨fun z => by omega, fun _ => inner 4 0 I1 (by omega) h1 h2 _ _ _ _ _⟩
    refine c0 _ _ _ ?_
    simp only [b_X12_glueCorners_0, i_xorg, i_shl, i_shr, i_ior, i_and1, i_lcg1, i_lcg2, i_ld, i_la, i_st, i_sa, i_c, i_inc, i_add, i_sub, i_mul, i_div, i_rem, i_remT, i_xor, i_dup, i_dup2, i_if, i_if2, i_sw, i_gi, i_gr, i_pi, i_pz, i_ial, i_ias, i_len, i_aal, i_gs, i_tal, i_cv, i_cs, i_ir, i_zr, i_vr, i_min, i_max, i_cpy, List.getElem?_cons_zero, List.getElem?_cons_succ, List.set_cons_zero, List.set_cons_succ, List.length_cons, List.length_nil, List.drop_succ_cons, List.drop_zero, List.take_succ_cons, List.take_zero, List.reverse_cons, List.reverse_nil, List.nil_append, List.cons_append, Option.toList_some, Option.toList_none, true_and, and_true, true_or, or_true, Nat.reduceAdd, Nat.reduceLT, Nat.reduceLeDiff, Option.some.injEq, exists_eq_left', Int.toNat_natCast, Nat.reduceSub, List.append_nil, List.replicate_succ, List.replicate_zero, mm_in, eq4, ed4]
    repeat' first | refine And.intro ?_ ?_ | refine fun (_ : _ ≤ _ ∧ _ < _) => ?_
    all_goals try omega
    exact outer 4 0 I (by omega) (fun _ _ => rfl) hag _ _ _ _ _ _
  · exact hT.elim
theorem sp_X12_glueCorners : mm_Sp yX12_glueCorners cX12_glueCorners 11 none rm_X12_glueCorners T_X12_glueCorners := mm_meth (by decide) (by
  intro av σ Post h
  unfold T_X12_glueCorners at h
  split at h
  · simp
  · exact h.elim) (fun p l e s m args below meth c G av σ Post hC hr _ hav hin hk hT => pv_X12_glueCorners av σ Post hav hin hk hT _ (bk_X12_glueCorners hC hr))
