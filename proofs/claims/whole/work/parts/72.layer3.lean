/-! the layer for constructors: new cells, references stored
-/
--@nomend
/-- what constructors need beside: the array classes over classes, a nest mate's constructor -/
def mm_X (U : State) : Prop := va_AO RX7 U ∧ va_AO RX10 U ∧ va_AO RX3 U ∧ va_Nw (.methodLinkNest "PieceSurfaces" 42 yX2_init "PieceSurfaces") U
theorem mm_Xw {s U : State} (h : mm_X s) (hW : s.WarmedH U.vm) : mm_X U := ⟨h.1.moved hW.alike, h.2.1.moved hW.alike, h.2.2.1.moved hW.alike, va_Nw.warmM hW h.2.2.2⟩
def mm_PcX (G : mm_G) (av : List mm_V) (σ : mm_S) : Array Value → State → Prop := fun v U => mm_Pc G av σ v U ∧ mm_X U
theorem mm_blindX {G : mm_G} {av : List mm_V} {σ : mm_S} : FrameBlind (mm_PcX G av σ) := by
  intro a U g mk h
  exact ⟨mm_blind a U g mk h.1, h.2.1.moved (U := U.calling g mk a) (Vm.Alike.refl U.vm), h.2.2.1.moved (U := U.calling g mk a) (Vm.Alike.refl U.vm), h.2.2.2.1.moved (U := U.calling g mk a) (Vm.Alike.refl U.vm), va_Nw.same rfl rfl h.2.2.2.2⟩
def mm_SpX (y : MethodName) (bytes : ByteArray) (maxL : Nat) (rm : Room) (T : mm_T) : Prop := ∀ (l : Launch) (G : mm_G) (av : List mm_V) (σ : mm_S) (Post : Option mm_V → mm_S → Prop), (∀ v ∈ av, mm_iv v) → T av σ Post →
  Met l y (mm_wds y bytes maxL none) rm (mm_PcX G av σ) (mm_Qc G σ rm.cells rm.slots Post) rm.cells rm.slots (mm_A G)
theorem mm_methX {y : MethodName} {bytes : ByteArray} {maxL : Nat} {rm : Room} {T : mm_T} (hy : plainName y.cls = true) (hargs : ∀ av σ Post, T av σ Post → av.length ≤ maxL)
    (body : ∀ (p : Program) (l : Launch) (e : Env) (s : State) (m : MethodId) (args : Array Value) (below : List Frame) (meth : Method) (c : Code) (G : mm_G) (av : List mm_V) (σ : mm_S) (Post : Option mm_V → mm_S → Prop), mm_C p G s m args meth c bytes y.cls → mm_X s → meth.sig.returnType = none → (meth.name = y.name) → (∀ v ∈ av, mm_iv v) → (∀ a j, mm_in (σ.1 a j)) → σ.2.2 ≤ 348 → T av σ Post →
      mm_O p l e rm s m args below meth c G σ.2.2 (MQ below (mm_Qc G σ rm.cells rm.slots Post) args s rm.cells rm.slots (mm_A G)) 0 (av ++ List.replicate (maxL - av.length) (.inr none)) [] σ) : mm_SpX y bytes maxL rm T := by
  intro l G av σ Post hav hT
  have hlen := hargs av σ Post hT
  refine Met.ofW (cc := bytes) (maxL := maxL) (ret := none) hy rfl ?_
  intro p e s m args below meth c s₁ B hml hv
  obtain ⟨⟨rfl, ⟨hP, hK, hZ⟩, hG⟩, hX⟩ := hv
  have hts : ∀ w ∈ lw_gd, w.before (av.map (mm_v G)).toArray s = true := fun w hw => atoms_spec (ws := mm_wds y bytes maxL none) B.pre w (List.mem_cons_of_mem _ hw)
  have hC : mm_C p G s m (av.map (mm_v G)).toArray meth c bytes y.cls := ⟨B.exec, B.bytes, findClass_of_methodNamed B.named, hts, hK, hZ, B.notSynchronized, hG⟩
  have hb := body p l e s m _ below meth c G av σ Post hC hX B.returns (name_of_methodNamed B.named B.method).1 hav hP.2.1 hP.2.2.2 hT
  have hlv := lv_entry (av.map (mm_v G)) (n := maxL) (by rw [mm_slv]; simpa using hlen)
  rw [lg_entry_eq]
  have hll : (av ++ List.replicate (maxL - av.length) (.inr none : mm_V)).length = maxL := by simp; omega
  have go := hb ?_ (fun v hv => by cases hv) ((lg_sl (av.map (mm_v G)) ++ List.replicate (maxL - (lg_sl (av.map (mm_v G))).length) Slot.unset).toArray) s.heap [] ⟨by rw [hll]; exact hlv.1, hlv.2.1, fun i v hi hv => ?_⟩ (by rw [hll]; exact hml) ⟨hP, Nat.le_refl _, Nat.le_add_right _ _, Nat.le_add_right _ _⟩ va_S.rf
  · rw [Nat.sub_self, Nat.sub_self] at go
    exact go
  · intro v hv
    rcases List.mem_append.mp hv with h | h
    · exact hav v h
    · rw [(List.mem_replicate.mp h).2]; trivial
  · by_cases hi2 : i < av.length
    · rw [List.getElem?_append_left hi2] at hi
      rw [List.getElem?_toArray, mm_slv, List.getElem?_append_left (by simpa using hi2)]
      simp [hi]
    · rw [List.getElem?_append_right (by omega)] at hi
      have := List.mem_of_getElem? hi
      exact absurd (List.mem_replicate.mp this).2 hv
theorem mm_Enew {G : mm_G} {σ : mm_S} {b : Nat} (hb : b ≠ σ.2.2) : mm_E G (mm_new σ) b = mm_E G σ b := by
  have h1 : (mm_new σ).1 b = σ.1 b := by funext i; simp [mm_new, hb]
  have h2 : (mm_new σ).2.1 b = σ.2.1 b := by funext i; simp [mm_new, hb]
  unfold mm_E mm_fv
  simp only [h1, h2]
theorem mm_Ppush {G : mm_G} {σ : mm_S} {H H1 : Heap} (hP : mm_P G σ H) (hk : σ.2.2 < 348) (hz : H1.size = H.size + 1) (ho : ∀ q, q < H.size → H1[q]? = H[q]?) (hat : va_at G.2.1 vwCl (G.1 + σ.2.2, mm_E G (mm_new σ) σ.2.2) H1) : mm_P G (mm_new σ) H1 := by
  have hs : H.size = G.1 + σ.2.2 := by rcases hP.2.2.1 with h | h <;> omega
  refine ⟨fun b hb => ?_, fun a j => ?_, Or.inr ?_, ?_⟩
  · have hb : b < σ.2.2 + 1 := hb
    by_cases e : b = σ.2.2
    · rw [e]; exact hat
    · rw [mm_Enew e]
      exact (hP.1 b (by omega)).kept (ho _ (by omega))
  · show mm_in (if a = σ.2.2 then 0 else σ.1 a j)
    split
    · exact mm_in0
    · exact hP.2.1 a j
  · show H1.size = G.1 + (σ.2.2 + 1)
    omega
  · show σ.2.2 + 1 ≤ 348
    omega
section MML3
variable {p : Program} {l : Launch} {e : Env} {R : Room} {s : State} {m : MethodId} {args : Array Value} {below : List Frame} {meth : Method} {c : Code} {G : mm_G} {k0 : Nat} {Q : State → Prop} {cc : ByteArray} {own : String} {pc : Nat} {K : mm_K}
theorem mm_newo (hC : mm_C p G s m args meth c cc own) {ci idx N : Nat} {C : String} {T : u_T} {ty : Nat → FieldType} (hcl : mm_cl ci C T N ty) (w1 : Cond.classLink own idx C ∈ lw_gd) (w2 : Cond.instantiable C N ∈ lw_gd) (w3 : Cond.initialized C ∈ lw_gd) (hci : ci < 100)
    (hdef : ∀ j, j < N → defaultValue (ty j) = if mm_rf ci j = true then .null else .int (Int32.ofInt 0)) (hd : decode cc pc = .ok (.new idx, 3)) (h : mm_imp K (mm_O p l e R s m args below meth c G k0 Q (pc + 3))) : mm_imp (i_new k0 R.cells R.slots ci K) (mm_O p l e R s m args below meth c G k0 Q pc) := by
  intro ls st σ hk hl hs lsM H locs hL hml hP hS
  obtain ⟨⟨h1, h2, h3, h4⟩, hk⟩ := hk
  have hsz : H.size = G.1 + σ.2.2 := by rcases hP.1.2.2.1 with q | q <;> omega
  have hts := hC.2.2.2.1
  have hKn := hC.2.2.2.2.1.1 ci _ hcl.1
  have hN : (mm_sh σ.2.2).2 = N := by
    have := (mm_shOk σ.2.2 h2).2.2 (by omega)
    rw [h1, hcl.1] at this
    exact (Option.some.inj this).symm
  have hss : mm_ss (σ.2.2 + 1) = mm_ss σ.2.2 + N := by show mm_ss σ.2.2 + (mm_sh σ.2.2).2 = _; rw [hN]
  have hm := mm_ssmono hP.2.1
  have hp1 := hP.2.1
  refine W.newcK hC.1 hC.2.1 hC.2.2.1 (hts _ w1) (hts _ w2) (hts _ w3) rfl hd (by omega) (by omega) hKn.2.1 rfl fun H1 kC hkC e1 z1 o1 => ?_
  have hborn : va_at G.2.1 vwCl (G.1 + σ.2.2, mm_E G (mm_new σ) σ.2.2) H1 := by
    rw [mm_Eobj hcl h2 h1, ← hsz]
    refine ⟨_, hcl.1, (u_born ty hts hcl.2.1 hKn hkC e1 hcl.2.2.1).to (fun j hj => ?_)⟩
    rw [hdef j hj]
    unfold vp_V
    rw [List.getD_eq_getElem?_getD, mm_fvN hj]
    unfold mm_fv mm_new
    by_cases q : mm_rf ci j = true
    · rw [if_pos q]
      simp [q, mm_v]
    · rw [if_neg q]
      simp [q]
  have := h _ _ _ hk hl (mm_ivc (v := .inr (some σ.2.2)) trivial hs) lsM H1 locs hL hml ⟨mm_Ppush hP.1 h2 z1 o1 hborn, by show k0 ≤ σ.2.2 + 1; omega, h3, h4⟩ ⟨Nat.le_trans hS.1 (by omega), fun x q1 q2 => (o1 x (Nat.lt_of_lt_of_le q1 hS.1)).trans (hS.2.1 x q1 q2), hS.2.2⟩
  rw [show (mm_new σ).2.2 - k0 = σ.2.2 - k0 + 1 by show σ.2.2 + 1 - k0 = _; omega, show mm_ss (mm_new σ).2.2 - mm_ss k0 = mm_ss σ.2.2 - mm_ss k0 + N by show mm_ss (σ.2.2 + 1) - _ = _; omega] at this
  rw [List.map_cons, show mm_v G (.inr (some σ.2.2)) = .ref H.size by show Value.ref (mm_ad G σ.2.2) = _; rw [mm_adw h2, hsz]] at this
  exact this
theorem mm_newi (hC : mm_C p G s m args meth c cc own) (w : Cond.arrayClass .int ∈ lw_gd) (hd : decode cc pc = .ok (.newarray .int, 2)) (h : mm_imp K (mm_O p l e R s m args below meth c G k0 Q (pc + 2))) : mm_imp (i_newa k0 R.cells R.slots 100 K) (mm_O p l e R s m args below meth c G k0 Q pc) := by
  intro ls st σ hk hl hs lsM H locs hL hml hP hS
  unfold i_newa at hk
  split at hk
  · rename_i n r
    obtain ⟨⟨h1, h0, h2, h3, h4⟩, hk⟩ := hk
    have hn : mm_in n := mm_iv1 hs
    have hsz : H.size = G.1 + σ.2.2 := by rcases hP.1.2.2.1 with q | q <;> omega
    have hts := hC.2.2.2.1
    have hN : (mm_sh σ.2.2).2 = n.toNat := by rw [h1]
    have hNb := (mm_shOk σ.2.2 h2).1
    have hss : mm_ss (σ.2.2 + 1) = mm_ss σ.2.2 + n.toNat := by show mm_ss σ.2.2 + (mm_sh σ.2.2).2 = _; rw [hN]
    have hm := mm_ssmono hP.2.1
    have hp1 := hP.2.1
    have hi1 : (mm_sh σ.2.2).1 = 100 := by rw [h1]
    refine va_newaK (atype := .int) (N := n.toNat) hC.1 hC.2.1 (hts _ w) rfl hd rfl (fun q => by have := (mm_lt hn mm_in0).mp (by rw [← mm_0]; exact q); omega) (mm_clamp hn) (by show n.toNat * 4 ≤ _; omega) (by omega) (by omega) rfl fun H1 cA e1 z1 o1 hAr hNm => ?_
    have hcA : cA = G.2.2.1 100 := Option.some.inj (hNm.symm.trans (hC.2.2.2.2.1.2 0 _ rfl).2)
    subst hcA
    have hborn : va_at G.2.1 vwCl (G.1 + σ.2.2, mm_E G (mm_new σ) σ.2.2) H1 := by
      rw [mm_Eint hi1, ← hsz]
      show H1[H.size]? = some (vp_cell _ _)
      rw [e1, vp_cell_i, hN]
      congr 2
      funext j
      show Value.int 0 = _
      simp [mm_new, mm_0]
    have := h _ _ _ hk hl (mm_ivc (v := .inr (some σ.2.2)) trivial (mm_ivt hs)) lsM H1 locs hL hml ⟨mm_Ppush hP.1 h2 z1 o1 hborn, by show k0 ≤ σ.2.2 + 1; omega, h3, h4⟩ ⟨Nat.le_trans hS.1 (by omega), fun x q1 q2 => (o1 x (Nat.lt_of_lt_of_le q1 hS.1)).trans (hS.2.1 x q1 q2), hS.2.2⟩
    rw [show (mm_new σ).2.2 - k0 = σ.2.2 - k0 + 1 by show σ.2.2 + 1 - k0 = _; omega, show mm_ss (mm_new σ).2.2 - mm_ss k0 = mm_ss σ.2.2 - mm_ss k0 + n.toNat by show mm_ss (σ.2.2 + 1) - _ = _; omega] at this
    rw [List.map_cons, show mm_v G (.inr (some σ.2.2)) = .ref H.size by show Value.ref (mm_ad G σ.2.2) = _; rw [mm_adw h2, hsz]] at this
    exact this
  · exact hk.elim
end MML3
