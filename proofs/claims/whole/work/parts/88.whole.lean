/-! the law, from its entry; the claim
-/
--@nomend
theorem wl_102 : Cond.arrayOver (.object "PieceSurfaces$Sheet") ∈ lw_tbl := in_t1 (List.mem_of_getElem? (i := 38) rfl)
theorem wl_265 : Cond.arrayOver (.object "PieceSurfaces$World") ∈ lw_tbl := in_t1 (List.mem_of_getElem? (i := 201) rfl)
theorem wl_308 : Cond.arrayOver (.object "PieceSurfaces$Image") ∈ lw_tbl := in_t2 (List.mem_of_getElem? (i := 4) rfl)
theorem wl_297 : Cond.methodLinkNest "PieceSurfaces" 42 yX2_init "PieceSurfaces" ∈ lw_tbl := in_t1 (List.mem_of_getElem? (i := 233) rfl)
theorem wl_s0 : Cond.laysStatic "PieceSurfaces$Shape" "WAYS" "[I" ∈ lw_tbl := in_t2 (List.mem_of_getElem? (i := 83) rfl)
theorem wl_s4 : Cond.laysStatic "PieceSurfaces$Shape" "EDGE" "[I" ∈ lw_tbl := in_t2 (List.mem_of_getElem? (i := 100) rfl)
theorem wl_s2 : Cond.laysStatic "PieceSurfaces$Shape" "LOW" "[I" ∈ lw_tbl := in_t2 (List.mem_of_getElem? (i := 119) rfl)
theorem wl_s3 : Cond.laysStatic "PieceSurfaces$Shape" "HIGH" "[I" ∈ lw_tbl := in_t2 (List.mem_of_getElem? (i := 121) rfl)
theorem wl_s1 : Cond.laysStatic "PieceSurfaces$Shape" "BACK" "[I" ∈ lw_tbl := in_t3 (List.mem_of_getElem? (i := 112) rfl)
theorem wt_0 {args : Array Value} {s : State} {A : Nat → Prop} (hts : ∀ w ∈ lw_tbl, w.before args s = true) (hgv : (Jvm.Cond.and given_1 narrow_1).before args s = true) (hA : ∀ a : Nat, a < s.heap.size → ¬ A a) : ∃ q : Nat, va_Z RX6 (mm_tn 0) "[I" (.ref q) A s s.heap ∧ va_T .int q (mm_tl 0).length (fun j => .int (Int32.ofInt (mm_tb 0 j))) A s s.heap := by
  have hs := flat_of_before _ hgv
  have hel : ∀ j : Nat, j < 18 → (Cond.eq (.elem (.static "PieceSurfaces$Shape" "WAYS" "[I") (.int (Int32.ofNat j))) (.int (Int32.ofInt (mm_tb 0 j)))).before args s = true := by
    intro j hj
    match j, hj with
    | 0, _ => exact hs _ (by decide +kernel)
    | 1, _ => exact hs _ (by decide +kernel)
    | 2, _ => exact hs _ (by decide +kernel)
    | 3, _ => exact hs _ (by decide +kernel)
    | 4, _ => exact hs _ (by decide +kernel)
    | 5, _ => exact hs _ (by decide +kernel)
    | 6, _ => exact hs _ (by decide +kernel)
    | 7, _ => exact hs _ (by decide +kernel)
    | 8, _ => exact hs _ (by decide +kernel)
    | 9, _ => exact hs _ (by decide +kernel)
    | 10, _ => exact hs _ (by decide +kernel)
    | 11, _ => exact hs _ (by decide +kernel)
    | 12, _ => exact hs _ (by decide +kernel)
    | 13, _ => exact hs _ (by decide +kernel)
    | 14, _ => exact hs _ (by decide +kernel)
    | 15, _ => exact hs _ (by decide +kernel)
    | 16, _ => exact hs _ (by decide +kernel)
    | 17, _ => exact hs _ (by decide +kernel)
    | j + 18, hj => exact absurd hj (by omega)
  obtain ⟨q, hq, hT⟩ := va_Tof (N := 18) (f := fun j => .int (Int32.ofInt (mm_tb 0 j))) (A := A) (by decide) (hs (Cond.arrayOf (.static "PieceSurfaces$Shape" "WAYS" "[I") .int) (by decide +kernel)) (va_eqt (hs (Cond.eq (.length (.static "PieceSurfaces$Shape" "WAYS" "[I")) (.int 18)) (by decide +kernel))) (fun j hj => va_eqt (hel j hj)) hA
  exact ⟨q, va_Zref (hts _ wl_s0) (hts _ (List.mem_filter.mp wd_79).1) hq hA, hT⟩
theorem wt_1 {args : Array Value} {s : State} {A : Nat → Prop} (hts : ∀ w ∈ lw_tbl, w.before args s = true) (hgv : (Jvm.Cond.and given_1 narrow_1).before args s = true) (hA : ∀ a : Nat, a < s.heap.size → ¬ A a) : ∃ q : Nat, va_Z RX6 (mm_tn 1) "[I" (.ref q) A s s.heap ∧ va_T .int q (mm_tl 1).length (fun j => .int (Int32.ofInt (mm_tb 1 j))) A s s.heap := by
  have hs := flat_of_before _ hgv
  have hel : ∀ j : Nat, j < 6 → (Cond.eq (.elem (.static "PieceSurfaces$Shape" "BACK" "[I") (.int (Int32.ofNat j))) (.int (Int32.ofInt (mm_tb 1 j)))).before args s = true := by
    intro j hj
    match j, hj with
    | 0, _ => exact hs _ (by decide +kernel)
    | 1, _ => exact hs _ (by decide +kernel)
    | 2, _ => exact hs _ (by decide +kernel)
    | 3, _ => exact hs _ (by decide +kernel)
    | 4, _ => exact hs _ (by decide +kernel)
    | 5, _ => exact hs _ (by decide +kernel)
  obtain ⟨q, hq, hT⟩ := va_Tof (N := 6) (f := fun j => .int (Int32.ofInt (mm_tb 1 j))) (A := A) (by decide) (hs (Cond.arrayOf (.static "PieceSurfaces$Shape" "BACK" "[I") .int) (by decide +kernel)) (va_eqt (hs (Cond.eq (.length (.static "PieceSurfaces$Shape" "BACK" "[I")) (.int 6)) (by decide +kernel))) (fun j hj => va_eqt (hel j hj)) hA
  exact ⟨q, va_Zref (hts _ wl_s1) (hts _ (List.mem_filter.mp wd_79).1) hq hA, hT⟩
theorem wt_2 {args : Array Value} {s : State} {A : Nat → Prop} (hts : ∀ w ∈ lw_tbl, w.before args s = true) (hgv : (Jvm.Cond.and given_1 narrow_1).before args s = true) (hA : ∀ a : Nat, a < s.heap.size → ¬ A a) : ∃ q : Nat, va_Z RX6 (mm_tn 2) "[I" (.ref q) A s s.heap ∧ va_T .int q (mm_tl 2).length (fun j => .int (Int32.ofInt (mm_tb 2 j))) A s s.heap := by
  have hs := flat_of_before _ hgv
  have hel : ∀ j : Nat, j < 6 → (Cond.eq (.elem (.static "PieceSurfaces$Shape" "LOW" "[I") (.int (Int32.ofNat j))) (.int (Int32.ofInt (mm_tb 2 j)))).before args s = true := by
    intro j hj
    match j, hj with
    | 0, _ => exact hs _ (by decide +kernel)
    | 1, _ => exact hs _ (by decide +kernel)
    | 2, _ => exact hs _ (by decide +kernel)
    | 3, _ => exact hs _ (by decide +kernel)
    | 4, _ => exact hs _ (by decide +kernel)
    | 5, _ => exact hs _ (by decide +kernel)
  obtain ⟨q, hq, hT⟩ := va_Tof (N := 6) (f := fun j => .int (Int32.ofInt (mm_tb 2 j))) (A := A) (by decide) (hs (Cond.arrayOf (.static "PieceSurfaces$Shape" "LOW" "[I") .int) (by decide +kernel)) (va_eqt (hs (Cond.eq (.length (.static "PieceSurfaces$Shape" "LOW" "[I")) (.int 6)) (by decide +kernel))) (fun j hj => va_eqt (hel j hj)) hA
  exact ⟨q, va_Zref (hts _ wl_s2) (hts _ (List.mem_filter.mp wd_79).1) hq hA, hT⟩
theorem wt_3 {args : Array Value} {s : State} {A : Nat → Prop} (hts : ∀ w ∈ lw_tbl, w.before args s = true) (hgv : (Jvm.Cond.and given_1 narrow_1).before args s = true) (hA : ∀ a : Nat, a < s.heap.size → ¬ A a) : ∃ q : Nat, va_Z RX6 (mm_tn 3) "[I" (.ref q) A s s.heap ∧ va_T .int q (mm_tl 3).length (fun j => .int (Int32.ofInt (mm_tb 3 j))) A s s.heap := by
  have hs := flat_of_before _ hgv
  have hel : ∀ j : Nat, j < 6 → (Cond.eq (.elem (.static "PieceSurfaces$Shape" "HIGH" "[I") (.int (Int32.ofNat j))) (.int (Int32.ofInt (mm_tb 3 j)))).before args s = true := by
    intro j hj
    match j, hj with
    | 0, _ => exact hs _ (by decide +kernel)
    | 1, _ => exact hs _ (by decide +kernel)
    | 2, _ => exact hs _ (by decide +kernel)
    | 3, _ => exact hs _ (by decide +kernel)
    | 4, _ => exact hs _ (by decide +kernel)
    | 5, _ => exact hs _ (by decide +kernel)
  obtain ⟨q, hq, hT⟩ := va_Tof (N := 6) (f := fun j => .int (Int32.ofInt (mm_tb 3 j))) (A := A) (by decide) (hs (Cond.arrayOf (.static "PieceSurfaces$Shape" "HIGH" "[I") .int) (by decide +kernel)) (va_eqt (hs (Cond.eq (.length (.static "PieceSurfaces$Shape" "HIGH" "[I")) (.int 6)) (by decide +kernel))) (fun j hj => va_eqt (hel j hj)) hA
  exact ⟨q, va_Zref (hts _ wl_s3) (hts _ (List.mem_filter.mp wd_79).1) hq hA, hT⟩
theorem wt_4 {args : Array Value} {s : State} {A : Nat → Prop} (hts : ∀ w ∈ lw_tbl, w.before args s = true) (hgv : (Jvm.Cond.and given_1 narrow_1).before args s = true) (hA : ∀ a : Nat, a < s.heap.size → ¬ A a) : ∃ q : Nat, va_Z RX6 (mm_tn 4) "[I" (.ref q) A s s.heap ∧ va_T .int q (mm_tl 4).length (fun j => .int (Int32.ofInt (mm_tb 4 j))) A s s.heap := by
  have hs := flat_of_before _ hgv
  have hel : ∀ j : Nat, j < 16 → (Cond.eq (.elem (.static "PieceSurfaces$Shape" "EDGE" "[I") (.int (Int32.ofNat j))) (.int (Int32.ofInt (mm_tb 4 j)))).before args s = true := by
    intro j hj
    match j, hj with
    | 0, _ => exact hs _ (by decide +kernel)
    | 1, _ => exact hs _ (by decide +kernel)
    | 2, _ => exact hs _ (by decide +kernel)
    | 3, _ => exact hs _ (by decide +kernel)
    | 4, _ => exact hs _ (by decide +kernel)
    | 5, _ => exact hs _ (by decide +kernel)
    | 6, _ => exact hs _ (by decide +kernel)
    | 7, _ => exact hs _ (by decide +kernel)
    | 8, _ => exact hs _ (by decide +kernel)
    | 9, _ => exact hs _ (by decide +kernel)
    | 10, _ => exact hs _ (by decide +kernel)
    | 11, _ => exact hs _ (by decide +kernel)
    | 12, _ => exact hs _ (by decide +kernel)
    | 13, _ => exact hs _ (by decide +kernel)
    | 14, _ => exact hs _ (by decide +kernel)
    | 15, _ => exact hs _ (by decide +kernel)
    | j + 16, hj => exact absurd hj (by omega)
  obtain ⟨q, hq, hT⟩ := va_Tof (N := 16) (f := fun j => .int (Int32.ofInt (mm_tb 4 j))) (A := A) (by decide) (hs (Cond.arrayOf (.static "PieceSurfaces$Shape" "EDGE" "[I") .int) (by decide +kernel)) (va_eqt (hs (Cond.eq (.length (.static "PieceSurfaces$Shape" "EDGE" "[I")) (.int 16)) (by decide +kernel))) (fun j hj => va_eqt (hel j hj)) hA
  exact ⟨q, va_Zref (hts _ wl_s4) (hts _ (List.mem_filter.mp wd_79).1) hq hA, hT⟩
theorem wk_cls {args : Array Value} {s : State} (hts : ∀ w ∈ lw_gd, w.before args s = true) : ∃ D : Nat → ClassId × (Nat → Nat), ∀ (k : Nat) (q : vw_C), vwCl[k]? = some q → u_Kn s q.1 q.2.1 q.2.2 (D k).1 (D k).2 := by
  have h0 : ∀ k : Nat, ∃ y : ClassId × (Nat → Nat), ∀ q : vw_C, vwCl[k]? = some q → u_Kn s q.1 q.2.1 q.2.2 y.1 y.2 := by
    intro k
    match k with
    | 0 =>
      obtain ⟨a, b, h⟩ := u_known hts cl_0.2.1 (hts _ wd_279)
      exact ⟨(a, b), fun q hq => by rw [cl_0.1] at hq; cases hq; exact h⟩
    | 1 =>
      obtain ⟨a, b, h⟩ := u_known hts cl_1.2.1 (hts _ wd_153)
      exact ⟨(a, b), fun q hq => by rw [cl_1.1] at hq; cases hq; exact h⟩
    | 2 =>
      obtain ⟨a, b, h⟩ := u_known hts cl_2.2.1 (hts _ wd_296)
      exact ⟨(a, b), fun q hq => by rw [cl_2.1] at hq; cases hq; exact h⟩
    | 3 =>
      obtain ⟨a, b, h⟩ := u_known hts cl_3.2.1 (hts _ wd_309)
      exact ⟨(a, b), fun q hq => by rw [cl_3.1] at hq; cases hq; exact h⟩
    | 4 =>
      obtain ⟨a, b, h⟩ := u_known hts cl_4.2.1 (hts _ wd_203)
      exact ⟨(a, b), fun q hq => by rw [cl_4.1] at hq; cases hq; exact h⟩
    | 5 =>
      obtain ⟨a, b, h⟩ := u_known hts cl_5.2.1 (hts _ wd_259)
      exact ⟨(a, b), fun q hq => by rw [cl_5.1] at hq; cases hq; exact h⟩
    | 6 =>
      obtain ⟨a, b, h⟩ := u_known hts cl_6.2.1 (hts _ wd_103)
      exact ⟨(a, b), fun q hq => by rw [cl_6.1] at hq; cases hq; exact h⟩
    | 7 =>
      obtain ⟨a, b, h⟩ := u_known hts cl_7.2.1 (hts _ wd_147)
      exact ⟨(a, b), fun q hq => by rw [cl_7.1] at hq; cases hq; exact h⟩
    | 8 =>
      obtain ⟨a, b, h⟩ := u_known hts cl_8.2.1 (hts _ wd_90)
      exact ⟨(a, b), fun q hq => by rw [cl_8.1] at hq; cases hq; exact h⟩
    | 9 =>
      obtain ⟨a, b, h⟩ := u_known hts cl_9.2.1 (hts _ wd_96)
      exact ⟨(a, b), fun q hq => by rw [cl_9.1] at hq; cases hq; exact h⟩
    | 10 =>
      obtain ⟨a, b, h⟩ := u_known hts cl_10.2.1 (hts _ wd_82)
      exact ⟨(a, b), fun q hq => by rw [cl_10.1] at hq; cases hq; exact h⟩
    | 11 =>
      obtain ⟨a, b, h⟩ := u_known hts cl_11.2.1 (hts _ wd_780)
      exact ⟨(a, b), fun q hq => by rw [cl_11.1] at hq; cases hq; exact h⟩
    | k + 12 => exact ⟨(0, fun _ => 0), fun q hq => by simp [vwCl] at hq⟩
  obtain ⟨f, hf⟩ := Classical.axiomOfChoice h0
  exact ⟨f, fun k q hq => hf k q hq⟩
theorem wk_over {args : Array Value} {s : State} {C : String} (h : (Cond.arrayOver (.object C)).before args s = true) : ∃ cA : ClassId, ArrOfT s cA (.object C) ∧ va_RA s cA (.object C) := by
  obtain ⟨comp, c, k, h1, h2, h3, h4, h5⟩ := Cond.arrayOver_spec h
  exact ⟨c, fun N z => ⟨(fun k h => by cases h), k, h3, comp, h4⟩, k, comp, h3, h4, h1, h5⟩
theorem wk_int {args : Array Value} {s : State} (h : (Cond.arrayClass .int).before args s = true) : ∃ cA : ClassId, ArrOfT s cA .int ∧ va_RA s cA .int := by
  obtain ⟨c, k, comp, h1, h2, h3⟩ := Cond.arrayClass_spec h
  exact ⟨c, fun N z => ⟨(fun k h => by cases h), k, h2, comp, h3⟩, h1⟩
set_option maxHeartbeats 4000000 in
/-- from the entry, for every script of at most 3072 ints, the law comes to its end with true -/
theorem whole_start {p : Program} {e : Env} {s : State} {m : MethodId} {below : List Frame} {meth : Method} {c : Code} (l : Launch) (hflags : l.flags = flags0) {b L : Nat} {xs : Nat → Int32} (hL : L ≤ 3072) (C0 : lw_At p s m meth c b L xs) : W p l e room_1 s m #[Value.ref b] below meth c s.heap [] 0 0 (lw_Z below #[Value.ref b] s) (entryFrame m ([Value.ref b] : List Value).toArray 4) := by
  obtain ⟨hx, hb, hr, hml, hown, hts, hX, hbl, hlocks, hgv⟩ := C0
  have htg : ∀ w ∈ lw_gd, w.before #[Value.ref b] s = true := fun w hw => hts w (List.mem_filter.mp hw).1
  have hA : ∀ a : Nat, a < s.heap.size → ¬ (fun q : Nat => s.heap.size ≤ q) a := fun a h => Nat.not_le.mpr h
  obtain ⟨D, hD⟩ := wk_cls htg
  obtain ⟨wc0, wk0⟩ := wk_int (htg _ wd_115)
  obtain ⟨wc1, wk1⟩ := wk_over (hts _ wl_102)
  obtain ⟨wc2, wk2⟩ := wk_over (hts _ wl_265)
  obtain ⟨wc3, wk3⟩ := wk_over (hts _ wl_308)
  obtain ⟨wq0, wz0⟩ := wt_0 (A := fun q : Nat => s.heap.size ≤ q) hts hgv hA
  obtain ⟨wq1, wz1⟩ := wt_1 (A := fun q : Nat => s.heap.size ≤ q) hts hgv hA
  obtain ⟨wq2, wz2⟩ := wt_2 (A := fun q : Nat => s.heap.size ≤ q) hts hgv hA
  obtain ⟨wq3, wz3⟩ := wt_3 (A := fun q : Nat => s.heap.size ≤ q) hts hgv hA
  obtain ⟨wq4, wz4⟩ := wt_4 (A := fun q : Nat => s.heap.size ≤ q) hts hgv hA
  obtain ⟨G, hG⟩ : ∃ G : mm_G, G = (s.heap.size, (fun k => (D k).1, fun k => (D k).2), (fun k => if k = 100 then wc0 else if k = 101 then wc1 else if k = 102 then wc2 else wc3), (fun t => if t = 0 then wq0 else if t = 1 then wq1 else if t = 2 then wq2 else if t = 3 then wq3 else if t = 4 then wq4 else b)) := ⟨_, rfl⟩
  have hK : va_K G.2.1 vwCl (mm_tys G) s := by
    subst hG
    refine ⟨fun k q hq => hD k q hq, fun k q hq => ?_⟩
    match k, hq with
    | 0, hq => cases hq; exact wk0
    | 1, hq => cases hq; exact wk1
    | 2, hq => cases hq; exact wk2
    | 3, hq => cases hq; exact wk3
    | k + 4, hq => simp [mm_tys] at hq
  have hZ : mm_Z G s := by
    subst hG
    intro t ht
    match t, ht with
    | 0, _ => exact wz0
    | 1, _ => exact wz1
    | 2, _ => exact wz2
    | 3, _ => exact wz3
    | 4, _ => exact wz4
  have hg1 : G.1 = s.heap.size := by subst hG; rfl
  have hg5 : G.2.2.2 5 = b := by subst hG; rfl
  have hC : mm_C p G s m #[Value.ref b] meth c code "PieceSurfacesLaw" := ⟨hx, hb, hown, htg, hK, hZ, hlocks, by omega⟩
  have hXX : mm_X s := ⟨va_AO.of (hts _ wl_102), va_AO.of (hts _ wl_265), va_AO.of (hts _ wl_308), va_Nw.of rfl (hts _ wl_297)⟩
  have hS : lwS G s b L (fun j => (xs j).toInt) := ⟨hg1, hg5, hbl, hL, xs, hX, fun _ => rfl⟩
  have go := pv_law (sx := fun j => (xs j).toInt) (N := L) (fun j => mm_ofI _) hL (bk_law (p := p) (l := l) (e := e) (below := below) hC hXX hS hr)
  have hlv := lv_entry ([.ref b]) (n := 4) (Nat.le_of_ble_eq_true rfl)
  rw [lg_entry_eq]
  generalize (lg_sl ([.ref b]) ++ List.replicate (4 - (lg_sl ([.ref b])).length) Slot.unset).toArray = lsM at hlv ⊢
  have hlv : lv_has lsM 4 [(0, .ref b)] := hlv
  have := go ?_ (fun v hv => by cases hv) lsM s.heap [] ⟨hlv.1, hlv.2.1, fun i v hi hv => ?_⟩ hml ⟨⟨fun a ha => absurd ha (Nat.not_lt_zero a), fun _ _ => mm_in0, Or.inr (by show s.heap.size = G.1 + 0; omega), Nat.zero_le _⟩, Nat.le_refl _, Nat.zero_le _, Nat.le_add_right _ _⟩ va_S.rf
  · exact this
  · intro v hv
    simp at hv
    rcases hv with rfl | rfl <;> trivial
  · match i, hi with
    | 0, hi =>
      cases hi
      show lsM[0]? = some (.val (.ref (mm_ad G 1000005)))
      rw [show mm_ad G 1000005 = b from hg5]
      exact lv_at hlv 0 rfl
    | 1, hi => cases hi; exact absurd rfl hv
    | 2, hi => cases hi; exact absurd rfl hv
    | 3, hi => cases hi; exact absurd rfl hv
    | i + 4, hi => cases hi
set_option maxHeartbeats 4000000 in
theorem lw_walk (l : Launch) (hflags : l.flags = flags0) (b : Addr) (xs : List Int32) : MetFree l x (headSpec (Jvm.Cond.code x code maxLocals ret :: tables_1) room_1) (lw_P b xs) (fun _ _ _ _ _ => True) lw_Q := by
  refine MetFree.of_bodyS (code := code) (maxLocals := maxLocals) (ret := ret) (by decide) ?_ ?_
  · intro args s m h hn
    obtain ⟨meth, c, h1, h2, h3, h4, h5, h6, -, -⟩ := Cond.code_spec hn (atoms_spec (ws := Jvm.Cond.code x code maxLocals ret :: tables_1) h _ List.mem_cons_self)
    exact ⟨meth, c, h1, h2, h3, h4, h5, h6⟩
  · intro p e s m args below meth c s₁ B hml0 hP _
    obtain ⟨rfl, hx, hbd, hgv⟩ := hP
    obtain ⟨scr, harrAt, hlist, hof, hsmall⟩ := hx
    obtain ⟨hcb, hkn, -, -⟩ := State.arrayAt?_spec harrAt
    have hown : s.vm.findClass R_law = some m.cls := findClass_of_methodNamed B.named
    have hts0 : ∀ c ∈ (Jvm.Cond.code x code maxLocals ret :: tables_1), c.before #[Value.ref b] s = true := atoms_spec (ws := Jvm.Cond.code x code maxLocals ret :: tables_1) B.pre
    have hts : ∀ w ∈ lw_tbl, w.before #[Value.ref b] s = true := k2_hts_sels lw_privs (fun w hw => hts0 w (List.mem_cons_of_mem _ hw)) lw_privs_ok
    have hml : c.maxLocals = 4 := B.maxLocals_eq (hts0 _ List.mem_cons_self)
    have X₀ : Stand p l e room_1 s m #[Value.ref b] below meth c s₁ [] 0 0 := Stand.of_body B
    have hh0 : s₁.heap = s.heap := by rw [B.state]; rfl
    have hsz : scr.slots.size = xs.length := by rw [← Array.length_toList, hlist, List.length_map]
    have hval : ∀ j : Nat, j < xs.length → scr.slots[j]? = some (.int (xs.getD j 0)) := fun j hj => by
      rw [← Array.getElem?_toList, hlist]
      simp [hj]
    have hbl : b < s.heap.size := (Array.getElem?_eq_some_iff.mp hcb).1
    have hX : va_X b xs.length (fun j => xs.getD j 0) s s.heap := ⟨scr, hcb, hof, hkn, hsz, hval⟩
    have K : W p l e room_1 s m #[Value.ref b] below meth c s₁.heap [] 0 0 (lw_Z below #[Value.ref b] s) (entryFrame m ([Value.ref b] : List Value).toArray 4) := by
      rw [hh0]
      exact whole_start l hflags hbd ⟨B.exec, B.bytes, B.returns, hml, hown, hts, hX, hbl, B.notSynchronized, hgv⟩
    obtain ⟨t, a1, o, b1, b2, b3⟩ := K s₁ rfl X₀
    exact ⟨t, o, a1, b1, b2, b3⟩
theorem lw_pre_spec {args : Array Value} {s : State} (h : (Jvm.Cond.and given_1 narrow_1).before args s = true) (hr : rest_1_c.before args s = true) : ∃ (b : Addr) (xs : List Int32), lw_P b xs args s := by
  have hs := flat_of_before _ h
  have hq := flat_of_before _ hr
  have hc : (Cond.count 1).before args s = true := hs _ (by decide +kernel)
  have harr : (Cond.arrayOf (.arg 0) .int).before args s = true := hs _ (by decide +kernel)
  have hle : (Cond.le (.length (.arg 0)) (.int 3072)).before args s = true := hs _ (by decide +kernel)
  have hlen : (Cond.isInt (.length (.arg 0))).before args s = true := hq _ (by decide +kernel)
  have hall : (Cond.all (.arg 0) (.isInt (.elem (.arg 0) (.index 0)))).before args s = true := hq _ (by decide +kernel)
  obtain ⟨b, xs, hb, hx⟩ := State.ints_of_pre rfl harr hlen hall
  have hsm : xs.length < 2 ^ 31 := hx.choose_spec.2.2.2
  have hev : (Term.length (.arg 0)).eval args s none [] s = some (.int xs.length.toInt32) := hx.length_eval hb
  have hv := Cond.le_ints hev (show (Term.int 3072).eval args s none [] s = some (.int 3072) from rfl)
  have hd : xs.length.toInt32 ≤ 3072 := by
    simpa [Cond.before, Cond.holds, hv] using hle
  have hN : xs.length ≤ 3072 := (Int32.ofNat_le_ofNat hsm (by decide)).mp (show Int32.ofNat xs.length ≤ Int32.ofNat 3072 from hd)
  exact ⟨b, xs, Cond.one_arg hc (show args[0]? = some (.ref b) from hb), hx, hN, h⟩
theorem lw_comes (l : Launch) (hflags : l.flags = flags0) : Comes l x (Jvm.Cond.code x code maxLocals ret :: tables_1) room_1 (fun tb e args s => Calls_1 tb e args s ∧ rest_1 tb e args s ∧ Pre_1 tb e args s)
    (fun _ _ args s o t => lw_Q args s o t) := by
  intro p e ha hc hk s m args below hf hfit hheap happ hpre
  obtain ⟨b, xs, hP⟩ := lw_pre_spec hpre.2.2 hpre.2.1
  obtain ⟨k, o, h1, h2, h3, hQ⟩ := lw_walk l hflags b xs p e ha hc hk s m args below hf ((Spec.applies_iff_loose hf).mp happ).1 hP trivial
  exact ⟨k, o, h1, h2, h3, hQ⟩
theorem lw_frame {s t : State} {o : Outcome} {args : Array Value} (h : Framed s o t [] 600000 7302250) :
    Framed s o t (fieldLocs frame_1_writes args s ++ arrayLocs frame_1_arrays args s ++ staticLocs frame_1_statics s) 600000 7302250 := h
theorem lw_limb (L : Cond) (hL : ∀ (args : Array Value) (s t : State), L.after args s (.returned (some (.int 1))) t = true) :
    ArmFor flags0 classFile x code maxLocals ret World_1 tables_1 room_1 Calls_1 rest_1 Pre_1
      (fun tb e a s o t => postC L tb e a s o t ∧ Framed s o t (fieldLocs frame_1_writes a s ++ arrayLocs frame_1_arrays a s ++ staticLocs frame_1_statics s) 600000 7302250) := by
  intro l hflags _ _ p e ha hc hk s m args below hf hfit hheap happ hpre
  obtain ⟨k, o, h1, h2, h3, rfl, hF⟩ := lw_comes l hflags p e ha hc hk s m args below hf hfit hheap happ hpre
  exact ⟨k, _, h1, h2, h3, hL args s _, lw_frame hF⟩
theorem i_vc : Claimed_1_1 ∧ Claimed_1_2 := ⟨lw_limb limb_1_1 (fun args s t => by simp [limb_1_1, Cond.after, Cond.holds, Cond.value]), lw_limb limb_1_2 (fun args s t => Cond.after_iff.mpr (by
  first | (rw [show limb_1_2 = Cond.eq .result (.int 1) from rfl, Cond.eq_ints (x := 1) (y := 1) rfl rfl]; simp; done) | (simp [limb_1_2, Cond.value, Term.eval]; done)))⟩
