/-! the layer for constructors: arrays of references, references stored, constructors called
-/
--@nomend
theorem mm_EsetR {G : mm_G} {σ : mm_S} {a j : Nat} {z : Option Nat} : ∀ b, b ≠ a → mm_E G (σ.1, mm_setR σ.2.1 a j z, σ.2.2) b = mm_E G σ b := by
  intro b hb
  have h1 : (mm_setR σ.2.1 a j z) b = σ.2.1 b := by funext i; simp [mm_setR, hb]
  unfold mm_E mm_fv
  simp only [h1]
section MML4
variable {p : Program} {l : Launch} {e : Env} {R : Room} {s : State} {m : MethodId} {args : Array Value} {below : List Frame} {meth : Method} {c : Code} {G : mm_G} {k0 : Nat} {Q : State → Prop} {cc : ByteArray} {own : String} {pc : Nat} {K : mm_K}
theorem mm_newr (hC : mm_C p G s m args meth c cc own) {kd t idx : Nat} {C : String} (hkd : 100 < kd) (ht : (mm_tys G)[t]? = some (G.2.2.1 kd, .object C)) (w : Cond.classLink own idx C ∈ lw_gd) (hover : va_AO C s) (hd : decode cc pc = .ok (.anewarray idx, 3)) (h : mm_imp K (mm_O p l e R s m args below meth c G k0 Q (pc + 3))) : mm_imp (i_newa k0 R.cells R.slots kd K) (mm_O p l e R s m args below meth c G k0 Q pc) := by
  intro ls st σ hk hl hs lsM H locs hL hml hP hS
  unfold i_newa at hk
  split at hk
  · rename_i n r
    obtain ⟨⟨h1, h0, h2, h3, h4⟩, hk⟩ := hk
    have hn : mm_in n := mm_iv1 hs
    have hsz : H.size = G.1 + σ.2.2 := by rcases hP.1.2.2.1 with q | q <;> omega
    have hts := hC.2.2.2.1
    have hN : (mm_sh σ.2.2).2 = n.toNat := by rw [h1]
    have hNb := (mm_shOk σ.2.2 h2).1
    have hss : mm_ss (σ.2.2 + 1) = mm_ss σ.2.2 + n.toNat := by show mm_ss σ.2.2 + (mm_sh σ.2.2).2 = _; rw [hN]
    have hm := mm_ssmono hP.2.1
    have hp1 := hP.2.1
    have hi1 : (mm_sh σ.2.2).1 = kd := by rw [h1]
    have hcl := mm_clamp hn
    refine W.anew hC.1 hC.2.1 hC.2.2.1 (hts _ w) (va_AO.use hover) rfl hd rfl (fun q => by have := (mm_lt hn mm_in0).mp (by rw [← mm_0]; exact q); omega) (by rw [hcl]; omega) (by omega) (by rw [hcl]; omega) fun cA kA comp f1 f2 f3 f4 => ?_
    rw [hcl]
    have hcA : cA = G.2.2.1 kd := by
      obtain ⟨_, _, _, _, _, q⟩ := (hC.2.2.2.2.1.2 t _ ht).2
      exact Option.some.inj (f1.symm.trans q)
    subst hcA
    generalize hH1 : H.push ({ cls := G.2.2.1 kd, slots := Array.replicate n.toNat .null, vm := .none } : Cell) = H1
    have z1 : H1.size = H.size + 1 := by rw [← hH1, Array.size_push]
    have e1 : H1[H.size]? = some (arrV (G.2.2.1 kd) n.toNat (fun _ => .null)) := by rw [← hH1, Array.getElem?_push_size, ← arrV_new]
    have o1 : ∀ q : Nat, q < H.size → H1[q]? = H[q]? := fun q hq => by rw [← hH1, Array.getElem?_push, if_neg (Nat.ne_of_lt hq)]
    have hborn : va_at G.2.1 vwCl (G.1 + σ.2.2, mm_E G (mm_new σ) σ.2.2) H1 := by
      rw [mm_Eref hi1 hkd, ← hsz]
      show H1[H.size]? = some (vp_cell _ _)
      rw [e1, vp_cell_q, hN]
      congr 2
      funext j
      simp [mm_new, va_rf]
    have := h _ _ _ hk hl (mm_ivc (v := .inr (some σ.2.2)) trivial (mm_ivt hs)) lsM H1 locs hL hml ⟨mm_Ppush hP.1 h2 z1 o1 hborn, by show k0 ≤ σ.2.2 + 1; omega, h3, h4⟩ ⟨Nat.le_trans hS.1 (by omega), fun x q1 q2 => (o1 x (Nat.lt_of_lt_of_le q1 hS.1)).trans (hS.2.1 x q1 q2), hS.2.2⟩
    rw [show (mm_new σ).2.2 - k0 = σ.2.2 - k0 + 1 by show σ.2.2 + 1 - k0 = _; omega, show mm_ss (mm_new σ).2.2 - mm_ss k0 = mm_ss σ.2.2 - mm_ss k0 + n.toNat by show mm_ss (σ.2.2 + 1) - _ = _; omega] at this
    rw [List.map_cons, show mm_v G (.inr (some σ.2.2)) = .ref H.size by show Value.ref (mm_ad G σ.2.2) = _; rw [mm_adw h2, hsz]] at this
    exact this
  · exact hk.elim
theorem mm_aas (hC : mm_C p G s m args meth c cc own) {kd t ci N : Nat} {C : String} {T : u_T} {ty : Nat → FieldType} (hcl : mm_cl ci C T N ty) (hkd : 100 < kd) (ht : (mm_tys G)[t]? = some (G.2.2.1 kd, .object C)) (hd : decode cc pc = .ok (.aastore, 1)) (h : mm_imp K (mm_O p l e R s m args below meth c G k0 Q (pc + 1))) : mm_imp (i_aas kd ci K) (mm_O p l e R s m args below meth c G k0 Q pc) := by
  intro ls st σ hk hl hs lsM H locs hL hml hP hS
  unfold i_aas at hk
  split at hk
  · rename_i b i a r
    obtain ⟨⟨⟨h1, h2, h3, h4⟩, h5, h6⟩, hk⟩ := hk
    have ha : a < 348 := by have := hP.1.2.2.2; omega
    have hb : b < 348 := by have := hP.1.2.2.2; omega
    have hi : mm_in i := mm_iv1 (mm_ivt hs)
    have hat := hP.1.1 a h1
    rw [mm_Eref h2 hkd] at hat
    have hbt := hP.1.1 b h5
    rw [mm_Eobj hcl hb h6] at hbt
    obtain ⟨r', hr', cellV, g1, g2, g3, -⟩ := hbt
    have hK := hC.2.2.2.2.1
    have hr2 : r' = (C, T, N) := Option.some.inj (hr'.symm.trans hcl.1)
    subst hr2
    have hcls := (hK.1 ci _ hcl.1).2
    obtain ⟨kA, comp, k1, k2, k3, -⟩ := (hK.2 t _ ht).2
    have hcomp : comp = G.2.1.1 ci := Option.some.inj (k3.symm.trans hcls.1)
    subst hcomp
    obtain ⟨kC, hkC, -⟩ := hcls.2
    show W p l e R s m args below meth c H locs _ _ Q (F0 m pc lsM (.ref (mm_ad G b) :: .int (Int32.ofInt i) :: .ref (mm_ad G a) :: r.map (mm_v G)))
    rw [mm_adw ha, mm_adw hb]
    have hin := mm_vpin hi h3 h4
    refine W.aast hC.1 hC.2.1 hat (fun q h => by cases h) (fun h => by cases h) k1 k2 rfl hkC ⟨fun q => hin (Or.inl q), by show _ < (arrV _ _ _).slots.size; rw [arrV_size]; exact Nat.not_le.mp fun q => hin (Or.inr q)⟩ g1 (fun q h => by rw [g3] at h; cases h) (by rw [g2]; exact hkC) (by rw [g2]; exact va_assign hcls) rfl rfl hd fun H1 e1 e2 e3 => ?_
    refine h _ _ _ hk hl (mm_ivt (mm_ivt (mm_ivt hs))) lsM H1 _ hL hml ⟨mm_Pset hP.1 rfl mm_EsetR ?_ e2 e3 hP.1.2.1, hP.2⟩ (hS.put e2 e3 (show mm_A G (G.1 + a) from Nat.le_add_right _ _))
    rw [mm_Eref h2 hkd]
    show H1[G.1 + a]? = some (vp_cell _ _)
    rw [e1, vp_cell_q, vp_cell_q, arrV_store, mm_clamp hi]
    congr 2
    funext q
    by_cases hq : q = i.toNat
    · subst hq
      simp [updV, mm_setR, va_rf, mm_adw hb]
    · simp [updV, mm_setR, hq]
  · exact hk.elim
theorem mm_setfvR {σ : mm_S} {a ci N j b : Nat} (hr : mm_rf ci j = true) : ((List.range N).map (fun j => mm_fv G ci j σ a)).set j (.ref (mm_ad G b)) = (List.range N).map (fun i => mm_fv G ci i (σ.1, mm_setR σ.2.1 a j (some b), σ.2.2) a) := by
  apply List.ext_getElem?
  intro i
  rw [List.getElem?_set]
  by_cases q : j = i
  · subst q
    by_cases hj : j < N
    · rw [if_pos rfl, if_pos (by simpa using hj), mm_fvN hj]
      unfold mm_fv
      rw [if_pos hr]
      simp [mm_setR, mm_v]
    · rw [if_pos rfl, if_neg (by simpa using hj)]
      simp [hj]
  · rw [if_neg q]
    by_cases hi : i < N
    · rw [mm_fvN hi, mm_fvN hi]
      have e : mm_setR σ.2.1 a j (some b) a i = σ.2.1 a i := by simp [mm_setR, Ne.symm q]
      unfold mm_fv
      simp only [e]
    · simp [hi]
theorem mm_prF (hC : mm_C p G s m args meth c cc own) {ci j idx N : Nat} {C : String} {T : u_T} {ty : Nat → FieldType} (hcl : mm_cl ci C T N ty) (hj : j < N) (hr : mm_rf ci j = true) (hfin : (T j).2.2.2 = true) (hty : ∀ x, narrow (ty j) (.ref x) = .ref x ∧ fits (ty j) (.ref x) = true) (hin2 : meth.name = "<init>") (hdecl : (T j).1 = own) (hw : Cond.fieldLink own idx (T j).1 (T j).2.1 (T j).2.2.1 ∈ lw_gd) (hd : decode cc pc = .ok (.putfield idx, 3)) (h : mm_imp K (mm_O p l e R s m args below meth c G k0 Q (pc + 3))) : mm_imp (i_pr ci j K) (mm_O p l e R s m args below meth c G k0 Q pc) := by
  intro ls st σ hk hl hs lsM H locs hL hml hP hS0
  unfold i_pr at hk
  split at hk
  · rename_i b a r
    obtain ⟨⟨h1, h2⟩, hk⟩ := hk
    have ha : a < 348 := by have := hP.1.2.2.2; omega
    show W p l e R s m args below meth c H locs _ _ Q (F0 m pc lsM (.ref (mm_ad G b) :: .ref (mm_ad G a) :: r.map (mm_v G)))
    rw [mm_adw ha]
    have hat := hP.1.1 a h1
    rw [mm_Eobj hcl ha h2] at hat
    have hK := hC.2.2.2.2.1
    have hts := hC.2.2.2.1
    have hap := va_apart (own := own) hts hcl.2.1 ty hcl.2.2.1 hcl.2.2.2 hK hcl.1
    obtain ⟨r', hh1, cell, q1, q2, q3, q4⟩ := hat
    have hr' : r' = (C, T, N) := Option.some.inj (hh1.symm.trans hcl.1)
    subst hr'
    obtain ⟨hS, hfc, kC, hkC, hkind⟩ := hK.1 ci _ hcl.1
    obtain ⟨cf, kf, fi, f, hi, hsl⟩ := hS j hj
    have hlay := hts _ (hcl.2.1 _ (u_in_lay hj))
    unfold u_lay at hlay
    rw [if_pos hfin] at hlay
    have hst := (u_facts hfc hkC (u_lays hts hcl.2.1 hj) hi).1
    have hcf : m.cls = cf := by
      obtain ⟨_, _, c', _, _, _, -, -, hf', -, -, -, hown2, -⟩ := Cond.laysFinal_spec hlay
      have e1 : c' = cf := by have := hi.symm.trans hf'; simp at this; exact this.1.symm
      rw [hdecl] at hown2
      rw [← e1]; exact Option.some.inj (hC.2.2.1.symm.trans hown2)
    have h6 := u_fits hfc hkC hkind (Or.inr hlay) hi (hcl.2.2.1 j hj) (hty (mm_ad G b)).1 (hty (mm_ad G b)).2
    refine W.putFinK hC.1 hC.2.1 hC.2.2.1 (hts _ hw) hi hst hcf hin2 (by rw [q2]; exact h6) q1 q3 (by rw [hsl]; exact k2_hasslot (q4 j hj)) rfl rfl hd fun H' e1 e2 e3 => ?_
    rw [hsl] at e1
    refine h _ _ _ hk hl (mm_ivt (mm_ivt hs)) lsM H' _ hL hml ⟨mm_Pset hP.1 rfl mm_EsetR ?_ e2 e3 hP.1.2.1, hP.2⟩ (hS0.put e2 e3 (show mm_A G (G.1 + a) from Nat.le_add_right _ _))
    rw [mm_Eobj hcl ha h2, ← mm_setfvR hr]
    exact ⟨_, hcl.1, t_OB.to (V := updV (vp_V ((List.range N).map (fun j => mm_fv G ci j σ a))) j (.ref (mm_ad G b))) ⟨_, e1, q2, q3, t_set q4 hap hj _⟩ (fun i _ => vp_updV_set (by simpa using hj) _ i)⟩
  · exact hk.elim
end MML4
