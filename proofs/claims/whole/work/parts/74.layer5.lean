/-! the layer for constructors: calls of constructors
-/
--@nomend
section MML5
variable {p : Program} {l : Launch} {e : Env} {R : Room} {s : State} {m : MethodId} {args : Array Value} {below : List Frame} {meth : Method} {c : Code} {G : mm_G} {k0 : Nat} {Q : State → Prop} {cc : ByteArray} {own : String} {pc : Nat} {K : mm_K}
theorem mm_ciX (hC : mm_C p G s m args meth c cc own) (hX : mm_X s) {n idx maxL : Nat} {y : MethodName} {bytes : ByteArray} {rm : Room} {T : mm_T} (hsp : mm_SpX y bytes maxL rm T) (hy1 : y.name = "<init>")
    (w1 : Cond.methodLink own idx y ∈ lw_gd) (w2 : Cond.instanceMethod y ∈ lw_gd) (w4 : Cond.code y bytes maxL none ∈ lw_gd) (w5 : Cond.initialized y.cls ∈ lw_gd)
    (hy : y.cls ≠ "java/lang/invoke/MethodHandle" ∧ y.cls ≠ "java/lang/invoke/VarHandle" ∧ (parseMethodDescriptor y.desc).map (fun d => d.parameters.length) = some n)
    (hR : rm.frames + 1 ≤ R.frames ∧ 8 + (maxL + 11) + rm.locals ≤ R.locals) (hd : decode cc pc = .ok (.invokespecial idx, 3)) (h : mm_imp K (mm_O p l e R s m args below meth c G k0 Q (pc + 3))) : mm_imp (i_ci k0 R.cells R.slots rm.cells rm.slots n T K) (mm_O p l e R s m args below meth c G k0 Q pc) := by
  intro ls st σ hk hl hs lsM H locs hL hml hP hS
  unfold i_ci at hk
  split at hk
  · rename_i a r hst
    obtain ⟨⟨hn, h1, h3, h4, h5⟩, hT⟩ := hk
    have hts := hC.2.2.2.1
    have ha : a < 348 := by have := hP.1.2.2.2; omega
    have hst' : st = st.take n ++ .inr (some a) :: r := by rw [← hst, List.take_append_drop]
    have hav : ∀ v ∈ (.inr (some a) :: (st.take n).reverse : List mm_V), mm_iv v := mm_ivc (v := .inr (some a)) trivial (fun v hv => hs v (List.mem_of_mem_take (List.mem_reverse.mp hv)))
    have hM := hsp l G (.inr (some a) :: (st.take n).reverse) σ _ hav hT
    have hstk : st.map (mm_v G) = (((st.take n).reverse).map (mm_v G)).reverse ++ .ref (G.1 + a) :: r.map (mm_v G) := by
      rw [List.map_reverse, List.reverse_reverse]
      conv => lhs; rw [hst']
      rw [List.map_append, List.map_cons]
      show _ ++ Value.ref (mm_ad G a) :: _ = _
      rw [mm_adw ha]
    have hpre : ∀ U : State, U.heap = H → s.WarmedH U.vm → mm_PcX G (.inr (some a) :: (st.take n).reverse) σ (Value.ref (G.1 + a) :: ((st.take n).reverse).map (mm_v G)).toArray U := by
      intro U hU hW
      have := mm_preU hC (av := .inr (some a) :: (st.take n).reverse) hP.1 hS U hU hW
      rw [List.map_cons, show mm_v G (.inr (some a)) = .ref (G.1 + a) from by show Value.ref (mm_ad G a) = _; rw [mm_adw ha]] at this
      exact ⟨this, mm_Xw hX hW⟩
    refine mm_after (r := r) (va_runI (As := ((st.take n).reverse).map (mm_v G)) (b := G.1 + a) (n := n) (nL := ls.length) ⟨hC.1, hC.2.1, hml, hC.2.2.1, hts⟩ hM ⟨callB_of n hts (mm_goodW w4) rfl rfl rfl (hts _ w5) (hts _ w1) hy hR, hy1, hts _ w2⟩ ⟨mm_blindX, hpre⟩ rfl (by simp; omega) hL.1 hstk (lv_room (by rw [mm_catsum]; exact h3)) hd ?_) hP (mm_ssmono hP.2.1) ⟨h4, h5⟩ hS hl (fun v hv => hs v (by rw [hst']; exact List.mem_append_right _ (List.mem_cons_of_mem _ hv))) hL hml (fun v τ hp => h _ _ _ hp)
    have := mm_ssmono hP.2.1
    have := hP.2
    omega
  · exact hk.elim
theorem mm_ciN (hC : mm_C p G s m args meth c cc own) (hX : mm_X s) {n idx maxL : Nat} {y : MethodName} {bytes : ByteArray} {rm : Room} {T : mm_T} {host : String} (hsp : mm_SpX y bytes maxL rm T) (hy1 : y.name = "<init>")
    (w1 : va_Nw (.methodLinkNest own idx y host) s) (w2 : Cond.instanceMethod y ∈ lw_gd) (w4 : Cond.code y bytes maxL none ∈ lw_gd) (w5 : Cond.initialized y.cls ∈ lw_gd)
    (hy : y.cls ≠ "java/lang/invoke/MethodHandle" ∧ y.cls ≠ "java/lang/invoke/VarHandle" ∧ (parseMethodDescriptor y.desc).map (fun d => d.parameters.length) = some n)
    (hR : rm.frames + 1 ≤ R.frames ∧ 8 + (maxL + 11) + rm.locals ≤ R.locals) (hd : decode cc pc = .ok (.invokespecial idx, 3)) (h : mm_imp K (mm_O p l e R s m args below meth c G k0 Q (pc + 3))) : mm_imp (i_ci k0 R.cells R.slots rm.cells rm.slots n T K) (mm_O p l e R s m args below meth c G k0 Q pc) := by
  intro ls st σ hk hl hs lsM H locs hL hml hP hS
  unfold i_ci at hk
  split at hk
  · rename_i a r hst
    obtain ⟨⟨hn, h1, h3, h4, h5⟩, hT⟩ := hk
    have hts := hC.2.2.2.1
    have ha : a < 348 := by have := hP.1.2.2.2; omega
    have hst' : st = st.take n ++ .inr (some a) :: r := by rw [← hst, List.take_append_drop]
    have hav : ∀ v ∈ (.inr (some a) :: (st.take n).reverse : List mm_V), mm_iv v := mm_ivc (v := .inr (some a)) trivial (fun v hv => hs v (List.mem_of_mem_take (List.mem_reverse.mp hv)))
    have hM := hsp l G (.inr (some a) :: (st.take n).reverse) σ _ hav hT
    have hstk : st.map (mm_v G) = (((st.take n).reverse).map (mm_v G)).reverse ++ .ref (G.1 + a) :: r.map (mm_v G) := by
      rw [List.map_reverse, List.reverse_reverse]
      conv => lhs; rw [hst']
      rw [List.map_append, List.map_cons]
      show _ ++ Value.ref (mm_ad G a) :: _ = _
      rw [mm_adw ha]
    have hpre : ∀ U : State, U.heap = H → s.WarmedH U.vm → mm_PcX G (.inr (some a) :: (st.take n).reverse) σ (Value.ref (G.1 + a) :: ((st.take n).reverse).map (mm_v G)).toArray U := by
      intro U hU hW
      have := mm_preU hC (av := .inr (some a) :: (st.take n).reverse) hP.1 hS U hU hW
      rw [List.map_cons, show mm_v G (.inr (some a)) = .ref (G.1 + a) from by show Value.ref (mm_ad G a) = _; rw [mm_adw ha]] at this
      exact ⟨this, mm_Xw hX hW⟩
    refine mm_after (r := r) (va_runIN (As := ((st.take n).reverse).map (mm_v G)) (b := G.1 + a) (n := n) (nL := ls.length) ⟨hC.1, hC.2.1, hml, hC.2.2.1, hts⟩ hM ⟨va_cnB n hts (mm_goodW w4) rfl rfl rfl w1 (hts _ w5) hy hR, hy1, hts _ w2⟩ ⟨mm_blindX, hpre⟩ rfl (by simp; omega) hL.1 hstk (lv_room (by rw [mm_catsum]; exact h3)) hd ?_) hP (mm_ssmono hP.2.1) ⟨h4, h5⟩ hS hl (fun v hv => hs v (by rw [hst']; exact List.mem_append_right _ (List.mem_cons_of_mem _ hv))) hL hml (fun v τ hp => h _ _ _ hp)
    have := mm_ssmono hP.2.1
    have := hP.2
    omega
  · exact hk.elim
end MML5
/-! what a constructor leaves
-/
/-- the slots that hold references -/
def rel (b j : Nat) : Prop := j < (mm_sh b).2 ∧ (((mm_sh b).1 < 100 ∧ mm_rf (mm_sh b).1 j = true) ∨ 100 < (mm_sh b).1)
/-- the numbers a new cell begins with: a world has one tetrahedron, its row of partners (the cell behind) is -1 -/
def ini (b j : Nat) : Int := if (mm_sh b).1 = 9 ∧ j = 0 then 1 else if 0 < b ∧ (mm_sh (b - 1)).1 = 9 ∧ j < 12 then -1 else 0
def dn (τ : mm_S) (b : Nat) : Prop := (∀ j, τ.1 b j = ini b j) ∧ ∀ j, rel b j → τ.2.1 b j = mm_Rs b j
def cT (ci cn : Nat) (a : Nat) (σ : mm_S) (Post : Option mm_V → mm_S → Prop) : Prop := σ.2.2 = a + 1 ∧ a + cn ≤ 348 ∧ (mm_sh a).1 = ci ∧ (∀ j, σ.1 a j = 0) ∧ ∀ τ : mm_S, τ.2.2 = a + cn → (∀ b, b < a → τ.1 b = σ.1 b ∧ τ.2.1 b = σ.2.1 b) → (∀ b, a ≤ b → b < a + cn → dn τ b) → Post none τ
theorem sh_ok : ∀ a, a < 348 → (mm_sh a).1 = 1 → (mm_sh (a - 1)).1 ≠ 9 ∧ (mm_sh a).2 = 2 := by decide +kernel
/-- what the cells refer to, once all is made: written as mm_Rs -/
def i_fix (K : mm_K) : mm_K := fun ls st σ => (σ.2.2 = 348 ∧ ∀ b, b < 348 → ∀ j, rel b j → σ.2.1 b j = mm_Rs b j) ∧ K ls st (σ.1, mm_R0)
theorem arrV_cg {cI : ClassId} {N : Nat} {f g : Nat → Value} (h : ∀ j, j < N → f j = g j) : arrV cI N f = arrV cI N g := by
  unfold arrV
  congr 2
  funext j
  exact h j.val j.isLt
theorem mm_fixP {G : mm_G} {σ : mm_S} {H : Heap} (hP : mm_P G σ H) (h1 : σ.2.2 = 348) (h2 : ∀ b, b < 348 → ∀ j, rel b j → σ.2.1 b j = mm_Rs b j) : mm_P G (σ.1, mm_R0) H := by
  refine ⟨fun b hb => ?_, hP.2.1, Or.inl rfl, Nat.le_refl _⟩
  have hb : b < 348 := hb
  have hat := hP.1 b (by omega)
  have hk := (mm_shOk b hb).2.1
  by_cases q : (mm_sh b).1 < 100
  · have e : mm_E G (σ.1, mm_R0) b = mm_E G σ b := by
      unfold mm_E
      rw [if_pos q, if_pos q]
      congr 2
      refine List.map_congr_left (fun j hj => ?_)
      have hj := List.mem_range.mp hj
      unfold mm_fv
      by_cases r : mm_rf (mm_sh b).1 j = true
      · rw [if_pos r, if_pos r, h2 b hb j ⟨hj, Or.inl ⟨q, r⟩⟩]
      · rw [if_neg r, if_neg r]
    rw [e]
    exact hat
  · by_cases r : (mm_sh b).1 = 100
    · rw [mm_Eint r] at hat ⊢
      exact hat
    · rw [mm_Eref rfl (by omega)] at hat ⊢
      show H[G.1 + b]? = some (vp_cell _ _)
      have hat : H[G.1 + b]? = some (vp_cell _ _) := hat
      rw [hat, vp_cell_q, vp_cell_q]
      congr 1
      refine arrV_cg (fun j hj => ?_)
      rw [h2 b hb j ⟨hj, Or.inr (by omega)⟩]
theorem mm_fix {p : Program} {l : Launch} {e : Env} {R : Room} {s : State} {m : MethodId} {args : Array Value} {below : List Frame} {meth : Method} {c : Code} {G : mm_G} {k0 : Nat} {Q : State → Prop} {pc : Nat} {K : mm_K} (h : mm_imp K (mm_O p l e R s m args below meth c G k0 Q pc)) : mm_imp (i_fix K) (mm_O p l e R s m args below meth c G k0 Q pc) := by
  intro ls st σ hk hl hs lsM H locs hL hml hP hS
  obtain ⟨⟨h1, h2⟩, hk⟩ := hk
  have hp2 := hP.2
  rw [h1] at hp2
  have := h _ _ _ hk hl hs lsM H locs hL hml ⟨mm_fixP hP.1 h1 h2, hp2⟩ hS
  rw [h1]
  exact this
