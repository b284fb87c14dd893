/-! calls, switches, the method rule -/
theorem mm_goodAll : ∀ w ∈ lw_gd, goodWord w = true := fun w h => (List.mem_filter.mp h).2
theorem mm_goodW {y : MethodName} {bytes : ByteArray} {maxL : Nat} {ret : Option FieldType} (h : Cond.code y bytes maxL ret ∈ lw_gd) : GoodIn lw_gd (mm_wds y bytes maxL ret) := by
  intro w hw
  have hm : w ∈ lw_gd := by
    rcases List.mem_cons.mp hw with q | q
    · rw [q]; exact h
    · exact q
  exact ⟨hm, good_of_word (mm_goodAll w hm)⟩
theorem mm_blind {G : mm_G} {av : List mm_V} {σ : mm_S} : FrameBlind (mm_Pc G av σ) := by
  intro a U g mk h
  obtain ⟨h1, ⟨h2, h3, h4⟩, h5⟩ := h
  refine ⟨h1, ⟨h2, va_K.moved (u := U) (U := U.calling g mk a) (Vm.Alike.refl U.vm) h3, fun t ht => ?_⟩, h5⟩
  obtain ⟨q1, q2⟩ := h4 t ht
  exact ⟨va_Z.moved (u := U) (U := U.calling g mk a) (Vm.Alike.refl U.vm) q1, va_T.moved (u := U) (U := U.calling g mk a) (Vm.Alike.refl U.vm) q2⟩
section MMC
variable {p : Program} {l : Launch} {e : Env} {R : Room} {s : State} {m : MethodId} {args : Array Value} {below : List Frame} {meth : Method} {c : Code} {G : mm_G} {k0 : Nat} {Q : State → Prop} {cc : ByteArray} {own : String} {pc : Nat} {K : mm_K}
theorem mm_after {σ : mm_S} {mc ms : Nat} {Post : Option mm_V → mm_S → Prop} {H : Heap} {locs : List Loc} {lsM : Array Slot} {ls r : List mm_V} {st0 : List Value} {a : Array Value}
    (hrun : va_Run p l e R s m args below meth c H locs (σ.2.2 - k0) (mm_ss σ.2.2 - mm_ss k0) mc ms (F0 m pc lsM st0) (r.map (mm_v G)) (mm_Qc G σ mc ms Post a) (mm_A G)) (hP : mm_PP G k0 R σ H) (hk0 : mm_ss k0 ≤ mm_ss σ.2.2)
    (hb : σ.2.2 + mc ≤ k0 + R.cells ∧ mm_ss σ.2.2 + ms ≤ mm_ss k0 + R.slots) (hS : va_S (mm_A G) s.heap H locs) (hl : ∀ v ∈ ls, mm_iv v) (hr : ∀ v ∈ r, mm_iv v) (hL : mm_L G lsM ls) (hml : c.maxLocals = ls.length)
    (hpost : ∀ v τ, Post v τ → mm_O p l e R s m args below meth c G k0 Q (pc + 3) ls (v.toList ++ r) τ) : W p l e R s m args below meth c H locs (σ.2.2 - k0) (mm_ss σ.2.2 - mm_ss k0) Q (F0 m pc lsM st0) := by
  intro T hT X
  obtain ⟨v, st₀, t, T', L, h0, X', hLf, e1, e2, ⟨⟨r', τ, hv, hrin, hpo, ⟨hW1, hW2, hW3⟩, hk1, hk2⟩, hz, hkeep⟩, st⟩ := hrun T hT X
  have hv : v = r'.map (mm_v G) := Outcome.returned.inj hv
  subst hv
  rw [h0] at hz hkeep
  have hS' : va_S (mm_A G) s.heap T'.heap (locs ++ L) := by
    refine ⟨Nat.le_trans hS.1 (by rw [e1]; exact hz), fun q q1 q2 => ?_, fun q hq => ?_⟩
    · rw [e1, hkeep q (Nat.lt_of_lt_of_le q1 hS.1) q2]; exact hS.2.1 q q1 q2
    · rcases List.mem_append.mp hq with h | h
      · exact hS.2.2 q h
      · exact hLf q h
  have hiv : ∀ v ∈ r'.toList ++ r, mm_iv v := by
    intro v hv
    rcases List.mem_append.mp hv with h | h
    · cases r' with
      | none => cases h
      | some x => rw [List.mem_singleton.mp h]; exact hrin
    · exact hr v h
  have hc1 : σ.2.2 - k0 + mc = τ.2.2 - k0 := by have := hP.2.1; omega
  have hc2 : mm_ss σ.2.2 - mm_ss k0 + ms = mm_ss τ.2.2 - mm_ss k0 := by omega
  rw [hc1, hc2] at X'
  have go := hpost r' τ hpo hl hiv lsM T'.heap (locs ++ L) hL hml ⟨by rw [e1]; exact hW1, by have := hP.2.1; omega, by omega, by omega⟩ hS' T' rfl X'
  obtain ⟨t2, a1, b1⟩ := go
  refine ⟨t2, st t2 ?_, b1⟩
  have hst : (r'.map (mm_v G)).toList ++ r.map (mm_v G) = (r'.toList ++ r).map (mm_v G) := by
    cases r' <;> simp
  rw [hst]
  exact a1
theorem mm_ssmono {a b : Nat} (h : a ≤ b) : mm_ss a ≤ mm_ss b := by
  induction h with
  | refl => exact Nat.le_refl _
  | step _ ih => exact Nat.le_trans ih (Nat.le_add_right _ _)
theorem mm_preU (hC : mm_C p G s m args meth c cc own) {σ : mm_S} {H : Heap} {locs : List Loc} {av : List mm_V} (hP : mm_P G σ H) (hS : va_S (mm_A G) s.heap H locs) : ∀ U : State, U.heap = H → s.WarmedH U.vm → mm_Pc G av σ (av.map (mm_v G)).toArray U := by
  intro U hU hW
  exact ⟨rfl, ⟨by rw [hU]; exact hP, va_K.moved hW.alike hC.2.2.2.2.1, mm_Zkept hC.2.2.2.2.2.1 hS hU hW.alike⟩, by rw [hU]; exact Nat.le_trans hC.2.2.2.2.2.2.2 hS.1⟩
theorem mm_cv (hC : mm_C p G s m args meth c cc own) {ci n idx N maxL : Nat} {C : String} {Tc : u_T} {ty : Nat → FieldType} {y : MethodName} {bytes : ByteArray} {ret : Option FieldType} {rm : Room} {T : mm_T} (hsp : mm_Sp y bytes maxL ret rm T) (hrm : rm.cells = 0 ∧ rm.slots = 0) (hcl : mm_cl ci C Tc N ty)
    (w1 : Cond.methodLink own idx y ∈ lw_gd) (w2 : Cond.instanceMethod y ∈ lw_gd) (w3 : Cond.selects C y y ∈ lw_gd) (w4 : Cond.code y bytes maxL ret ∈ lw_gd) (w5 : Cond.initialized y.cls ∈ lw_gd)
    (hy : y.cls ≠ "java/lang/invoke/MethodHandle" ∧ y.cls ≠ "java/lang/invoke/VarHandle" ∧ (parseMethodDescriptor y.desc).map (fun d => d.parameters.length) = some n)
    (hR : rm.frames + 1 ≤ R.frames ∧ 8 + (maxL + 11) + rm.locals ≤ R.locals) (hd : decode cc pc = .ok (.invokevirtual idx, 3)) (h : mm_imp K (mm_O p l e R s m args below meth c G k0 Q (pc + 3))) : mm_imp (i_cv ci n T K) (mm_O p l e R s m args below meth c G k0 Q pc) := by
  intro ls st σ hk hl hs lsM H locs hL hml hP hS
  unfold i_cv at hk
  split at hk
  · rename_i a r hst
    obtain ⟨⟨hn, h1, h2, h3⟩, hT⟩ := hk
    have hts := hC.2.2.2.1
    have ha : a < 348 := by have := hP.1.2.2.2; omega
    have hst' : st = st.take n ++ .inr (some a) :: r := by rw [← hst, List.take_append_drop]
    have hav : ∀ v ∈ (.inr (some a) :: (st.take n).reverse : List mm_V), mm_iv v := mm_ivc (v := .inr (some a)) trivial (fun v hv => hs v (List.mem_of_mem_take (List.mem_reverse.mp hv)))
    have hM := hsp l G (.inr (some a) :: (st.take n).reverse) σ _ hav hT
    have hat := hP.1.1 a h1
    rw [mm_Eobj hcl ha h2] at hat
    have hstk : st.map (mm_v G) = (((st.take n).reverse).map (mm_v G)).reverse ++ .ref (G.1 + a) :: r.map (mm_v G) := by
      rw [List.map_reverse, List.reverse_reverse]
      conv => lhs; rw [hst']
      rw [List.map_append, List.map_cons]
      show _ ++ Value.ref (mm_ad G a) :: _ = _
      rw [mm_adw ha]
    have hpre : ∀ U : State, U.heap = H → s.WarmedH U.vm → mm_Pc G (.inr (some a) :: (st.take n).reverse) σ (Value.ref (G.1 + a) :: ((st.take n).reverse).map (mm_v G)).toArray U := by
      intro U hU hW
      have := mm_preU hC (av := .inr (some a) :: (st.take n).reverse) hP.1 hS U hU hW
      rw [List.map_cons, show mm_v G (.inr (some a)) = .ref (G.1 + a) from by show Value.ref (mm_ad G a) = _; rw [mm_adw ha]] at this
      exact this
    refine mm_after (r := r) (va_runV (As := ((st.take n).reverse).map (mm_v G)) (b := G.1 + a) (n := n) (C := C) (nL := ls.length) ⟨hC.1, hC.2.1, hml, hC.2.2.1, hts⟩ hM ⟨callB_of n hts (mm_goodW w4) rfl rfl rfl (hts _ w5) (hts _ w1) hy hR, hts _ w2, hts _ w3⟩ ⟨mm_blind, va_recv hC.2.2.2.2.1 (mm_one hat) hcl.1 (q0 := 0) rfl, hpre⟩ rfl (by simp; omega) hL.1 hstk (lv_room (by rw [mm_catsum]; exact h3)) hd ?_) hP (mm_ssmono hP.2.1) ?_ hS hl (fun v hv => hs v (by rw [hst']; exact List.mem_append_right _ (List.mem_cons_of_mem _ hv))) hL hml (fun v τ hp => h _ _ _ hp)
    · rw [hrm.1, hrm.2]; have := hP.2; omega
    · rw [hrm.1, hrm.2]; have := hP.2; omega
  · exact hk.elim
theorem mm_cs (hC : mm_C p G s m args meth c cc own) {n idx maxL : Nat} {y : MethodName} {bytes : ByteArray} {ret : Option FieldType} {rm : Room} {T : mm_T} (hsp : mm_Sp y bytes maxL ret rm T) (hrm : rm.cells = 0 ∧ rm.slots = 0)
    (w1 : Cond.methodLink own idx y ∈ lw_gd) (w2 : Cond.static y ∈ lw_gd) (w4 : Cond.code y bytes maxL ret ∈ lw_gd) (w5 : Cond.initialized y.cls ∈ lw_gd)
    (hy : y.cls ≠ "java/lang/invoke/MethodHandle" ∧ y.cls ≠ "java/lang/invoke/VarHandle" ∧ (parseMethodDescriptor y.desc).map (fun d => d.parameters.length) = some n)
    (hR : rm.frames + 1 ≤ R.frames ∧ 8 + (maxL + 11) + rm.locals ≤ R.locals) (hd : decode cc pc = .ok (.invokestatic idx, 3)) (h : mm_imp K (mm_O p l e R s m args below meth c G k0 Q (pc + 3))) : mm_imp (i_cs n T K) (mm_O p l e R s m args below meth c G k0 Q pc) := by
  intro ls st σ hk hl hs lsM H locs hL hml hP hS
  obtain ⟨⟨hn, h3⟩, hT⟩ := hk
  have hts := hC.2.2.2.1
  have hav : ∀ v ∈ (st.take n).reverse, mm_iv v := fun v hv => hs v (List.mem_of_mem_take (List.mem_reverse.mp hv))
  have hM := hsp l G (st.take n).reverse σ _ hav hT
  have hstk : st.map (mm_v G) = (((st.take n).reverse).map (mm_v G)).reverse ++ (st.drop n).map (mm_v G) := by
    rw [List.map_reverse, List.reverse_reverse, ← List.map_append, List.take_append_drop]
  refine mm_after (r := st.drop n) (va_runS (As := ((st.take n).reverse).map (mm_v G)) (n := n) (nL := ls.length) ⟨hC.1, hC.2.1, hml, hC.2.2.1, hts⟩ hM ⟨callB_of n hts (mm_goodW w4) rfl rfl rfl (hts _ w5) (hts _ w1) hy hR, hts _ w2⟩ ⟨mm_blind, mm_preU hC hP.1 hS⟩ rfl (by simp; omega) hL.1 hstk (lv_room (by rw [mm_catsum]; exact h3)) hd ?_) hP (mm_ssmono hP.2.1) ?_ hS hl (fun v hv => hs v (List.mem_of_mem_drop hv)) hL hml (fun v τ hp => h _ _ _ hp)
  · rw [hrm.1, hrm.2]; have := hP.2; omega
  · rw [hrm.1, hrm.2]; have := hP.2; omega
theorem mm_ci (hC : mm_C p G s m args meth c cc own) {n idx maxL : Nat} {y : MethodName} {bytes : ByteArray} {rm : Room} {T : mm_T} (hsp : mm_Sp y bytes maxL none rm T) (hy1 : y.name = "<init>")
    (w1 : Cond.methodLink own idx y ∈ lw_gd) (w2 : Cond.instanceMethod y ∈ lw_gd) (w4 : Cond.code y bytes maxL none ∈ lw_gd) (w5 : Cond.initialized y.cls ∈ lw_gd)
    (hy : y.cls ≠ "java/lang/invoke/MethodHandle" ∧ y.cls ≠ "java/lang/invoke/VarHandle" ∧ (parseMethodDescriptor y.desc).map (fun d => d.parameters.length) = some n)
    (hR : rm.frames + 1 ≤ R.frames ∧ 8 + (maxL + 11) + rm.locals ≤ R.locals) (hd : decode cc pc = .ok (.invokespecial idx, 3)) (h : mm_imp K (mm_O p l e R s m args below meth c G k0 Q (pc + 3))) : mm_imp (i_ci k0 R.cells R.slots rm.cells rm.slots n T K) (mm_O p l e R s m args below meth c G k0 Q pc) := by
  intro ls st σ hk hl hs lsM H locs hL hml hP hS
  unfold i_ci at hk
  split at hk
  · rename_i a r hst
    obtain ⟨⟨hn, h1, h3, h4, h5⟩, hT⟩ := hk
    have hts := hC.2.2.2.1
    have ha : a < 348 := by have := hP.1.2.2.2; omega
    have hst' : st = st.take n ++ .inr (some a) :: r := by rw [← hst, List.take_append_drop]
    have hav : ∀ v ∈ (.inr (some a) :: (st.take n).reverse : List mm_V), mm_iv v := mm_ivc (v := .inr (some a)) trivial (fun v hv => hs v (List.mem_of_mem_take (List.mem_reverse.mp hv)))
    have hM := hsp l G (.inr (some a) :: (st.take n).reverse) σ _ hav hT
    have hstk : st.map (mm_v G) = (((st.take n).reverse).map (mm_v G)).reverse ++ .ref (G.1 + a) :: r.map (mm_v G) := by
      rw [List.map_reverse, List.reverse_reverse]
      conv => lhs; rw [hst']
      rw [List.map_append, List.map_cons]
      show _ ++ Value.ref (mm_ad G a) :: _ = _
      rw [mm_adw ha]
    have hpre : ∀ U : State, U.heap = H → s.WarmedH U.vm → mm_Pc G (.inr (some a) :: (st.take n).reverse) σ (Value.ref (G.1 + a) :: ((st.take n).reverse).map (mm_v G)).toArray U := by
      intro U hU hW
      have := mm_preU hC (av := .inr (some a) :: (st.take n).reverse) hP.1 hS U hU hW
      rw [List.map_cons, show mm_v G (.inr (some a)) = .ref (G.1 + a) from by show Value.ref (mm_ad G a) = _; rw [mm_adw ha]] at this
      exact this
    refine mm_after (r := r) (va_runI (As := ((st.take n).reverse).map (mm_v G)) (b := G.1 + a) (n := n) (nL := ls.length) ⟨hC.1, hC.2.1, hml, hC.2.2.1, hts⟩ hM ⟨callB_of n hts (mm_goodW w4) rfl rfl rfl (hts _ w5) (hts _ w1) hy hR, hy1, hts _ w2⟩ ⟨mm_blind, hpre⟩ rfl (by simp; omega) hL.1 hstk (lv_room (by rw [mm_catsum]; exact h3)) hd ?_) hP (mm_ssmono hP.2.1) ⟨h4, h5⟩ hS hl (fun v hv => hs v (by rw [hst']; exact List.mem_append_right _ (List.mem_cons_of_mem _ hv))) hL hml (fun v τ hp => h _ _ _ hp)
    have := mm_ssmono hP.2.1
    have := hP.2
    omega
  · exact hk.elim
theorem mm_min (hC : mm_C p G s m args meth c cc own) {idx : Nat} (w1 : Cond.methodLink own idx Lib.Math.min.name ∈ lw_gd) (w2 : Cond.static Lib.Math.min.name ∈ lw_gd) (w3 : Cond.initialized "java/lang/Math" ∈ lw_gd) (w4 : Cond.code Lib.Math.min.name Lib.Math.min.code 2 (some .int) ∈ lw_gd) (hR : 1 ≤ R.frames ∧ 17 ≤ R.locals) (hd : decode cc pc = .ok (.invokestatic idx, 3)) (h : mm_imp K (mm_O p l e R s m args below meth c G k0 Q (pc + 3))) : mm_imp (i_min K) (mm_O p l e R s m args below meth c G k0 Q pc) := by
  intro ls st σ hk hl hs lsM H locs hL hml hP hS
  unfold i_min at hk
  split at hk
  · rename_i y x r
    have hy : mm_in y := mm_iv1 hs
    have hx : mm_in x := mm_iv1 (mm_ivt hs)
    have hts := hC.2.2.2.1
    refine va_mmin hC.1 hC.2.1 (by rw [hml, hL.1]) hC.2.2.1 (hts _ w1) (hts _ w2) (hts _ w3) (hts _ w4) hR.1 (by rw [mm_catsum]; have := hk.1; omega) (by have := hP.2.2.1; omega) (by have := hP.2.2.2; omega) hd ?_
    have hite : (if Int32.ofInt y < Int32.ofInt x then Int32.ofInt y else Int32.ofInt x) = Int32.ofInt (if y < x then y else x) := by
      by_cases q : y < x
      · rw [if_pos ((mm_lt hy hx).mpr q), if_pos q]
      · rw [if_neg (fun z => q ((mm_lt hy hx).mp z)), if_neg q]
    rw [hite]
    exact h _ _ _ hk.2 hl (mm_ivc (v := .inl (if y < x then y else x)) (by show mm_in _; split <;> assumption) (mm_ivt (mm_ivt hs))) lsM H locs hL hml hP hS
  · exact hk.elim
theorem mm_max (hC : mm_C p G s m args meth c cc own) {idx : Nat} (w1 : Cond.methodLink own idx Lib.Math.max.name ∈ lw_gd) (w2 : Cond.static Lib.Math.max.name ∈ lw_gd) (w3 : Cond.initialized "java/lang/Math" ∈ lw_gd) (w4 : Cond.code Lib.Math.max.name Lib.Math.max.code 2 (some .int) ∈ lw_gd) (hR : 1 ≤ R.frames ∧ 17 ≤ R.locals) (hd : decode cc pc = .ok (.invokestatic idx, 3)) (h : mm_imp K (mm_O p l e R s m args below meth c G k0 Q (pc + 3))) : mm_imp (i_max K) (mm_O p l e R s m args below meth c G k0 Q pc) := by
  intro ls st σ hk hl hs lsM H locs hL hml hP hS
  unfold i_max at hk
  split at hk
  · rename_i y x r
    have hy : mm_in y := mm_iv1 hs
    have hx : mm_in x := mm_iv1 (mm_ivt hs)
    have hts := hC.2.2.2.1
    refine va_mmax hC.1 hC.2.1 (by rw [hml, hL.1]) hC.2.2.1 (hts _ w1) (hts _ w2) (hts _ w3) (hts _ w4) hR.1 (by rw [mm_catsum]; have := hk.1; omega) (by have := hP.2.2.1; omega) (by have := hP.2.2.2; omega) hd ?_
    have hite : (if Int32.ofInt x < Int32.ofInt y then Int32.ofInt y else Int32.ofInt x) = Int32.ofInt (if x < y then y else x) := by
      by_cases q : x < y
      · rw [if_pos ((mm_lt hx hy).mpr q), if_pos q]
      · rw [if_neg (fun z => q ((mm_lt hx hy).mp z)), if_neg q]
    rw [hite]
    exact h _ _ _ hk.2 hl (mm_ivc (v := .inl (if x < y then y else x)) (by show mm_in _; split <;> assumption) (mm_ivt (mm_ivt hs))) lsM H locs hL hml hP hS
  · exact hk.elim
theorem mm_objI (hC : mm_C p G s m args meth c cc own) {idx : Nat} (w1 : Cond.methodLink own idx objectInit ∈ lw_gd) (w2 : Cond.instanceMethod objectInit ∈ lw_gd) (w3 : Cond.code objectInit ⟨#[0xb1]⟩ 1 none ∈ lw_gd) (hR : 1 ≤ R.frames ∧ 16 ≤ R.locals) (hd : decode cc pc = .ok (.invokespecial idx, 3)) (h : mm_imp K (mm_O p l e R s m args below meth c G k0 Q (pc + 3))) : mm_imp (i_oi K) (mm_O p l e R s m args below meth c G k0 Q pc) := by
  intro ls st σ hk hl hs lsM H locs hL hml hP hS
  unfold i_oi at hk
  split at hk
  · rename_i a r
    have hts := hC.2.2.2.1
    exact W.objInit hC.1 hC.2.1 hC.2.2.1 (hts _ w1) (hts _ w2) (hts _ w3) rfl (by rw [hml]; exact hL.1) rfl hd hR.1 (by rw [mm_catsum]; have := hk.1; show 2 * 0 + _ + _ ≤ _; omega) (h _ _ _ hk.2 hl (mm_ivt hs) lsM H locs hL hml hP hS)
  · exact hk.elim
end MMC
