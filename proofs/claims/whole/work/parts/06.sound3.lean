/-! stores, arrays, tables, calls, returns -/
section MMD
variable {p : Program} {l : Launch} {e : Env} {R : Room} {s : State} {m : MethodId} {args : Array Value} {below : List Frame} {meth : Method} {c : Code} {G : mm_G} {k0 : Nat} {Q : State → Prop} {cc : ByteArray} {own : String} {pc : Nat} {K : mm_K}
theorem mm_pi (hC : mm_C p G s m args meth c cc own) {ci j idx N : Nat} {C : String} {T : u_T} {ty : Nat → FieldType} (hcl : mm_cl ci C T N ty) (hj : j < N) (hr : mm_rf ci j = false) (hty : ty j = .int) (hfin : (T j).2.2.2 = false) (hw : Cond.fieldLink own idx (T j).1 (T j).2.1 (T j).2.2.1 ∈ lw_gd) (hd : decode cc pc = .ok (.putfield idx, 3)) (h : mm_imp K (mm_O p l e R s m args below meth c G k0 Q (pc + 3))) : mm_imp (i_pi ci j K) (mm_O p l e R s m args below meth c G k0 Q pc) := by
  intro ls st σ hk hl hs lsM H locs hL hml hP hS
  unfold i_pi at hk
  split at hk
  · rename_i z a r
    obtain ⟨⟨h1, h2⟩, hk⟩ := hk
    have ha : a < 348 := by have := hP.1.2.2.2; omega
    show W p l e R s m args below meth c H locs _ _ Q (F0 m pc lsM (.int (Int32.ofInt z) :: .ref (mm_ad G a) :: r.map (mm_v G)))
    rw [mm_adw ha]
    refine mm_putK hC hcl hj hfin hw hd (by rw [hty]; rfl) (by rw [hty]; rfl) hP.1 h1 h2 hS (fun H1 locs1 hat hz ho hS1 => ?_)
    rw [mm_setfv hr, ← mm_Eobj hcl ha h2] at hat
    exact h _ _ _ hk hl (mm_ivt (mm_ivt hs)) lsM H1 locs1 hL hml ⟨mm_Pset hP.1 rfl mm_Eset hat hz ho (mm_inset hP.1.2.1 (mm_iv1 hs)), hP.2⟩ hS1
  · exact hk.elim
theorem mm_pz (hC : mm_C p G s m args meth c cc own) {ci j idx N : Nat} {C : String} {T : u_T} {ty : Nat → FieldType} (hcl : mm_cl ci C T N ty) (hj : j < N) (hr : mm_rf ci j = false) (hty : ty j = .boolean) (hfin : (T j).2.2.2 = false) (hw : Cond.fieldLink own idx (T j).1 (T j).2.1 (T j).2.2.1 ∈ lw_gd) (hd : decode cc pc = .ok (.putfield idx, 3)) (h : mm_imp K (mm_O p l e R s m args below meth c G k0 Q (pc + 3))) : mm_imp (i_pz ci j K) (mm_O p l e R s m args below meth c G k0 Q pc) := by
  intro ls st σ hk hl hs lsM H locs hL hml hP hS
  unfold i_pz at hk
  split at hk
  · rename_i z a r
    obtain ⟨⟨h1, h2, h3⟩, hk⟩ := hk
    have ha : a < 348 := by have := hP.1.2.2.2; omega
    show W p l e R s m args below meth c H locs _ _ Q (F0 m pc lsM (.int (Int32.ofInt z) :: .ref (mm_ad G a) :: r.map (mm_v G)))
    rw [mm_adw ha]
    have hn : narrow .boolean (.int (Int32.ofInt z)) = .int (Int32.ofInt z) ∧ fits .boolean (.int (Int32.ofInt z)) = true := by
      rcases h3 with rfl | rfl <;> decide
    refine mm_putK hC hcl hj hfin hw hd (by rw [hty]; exact hn.1) (by rw [hty]; exact hn.2) hP.1 h1 h2 hS (fun H1 locs1 hat hz ho hS1 => ?_)
    rw [mm_setfv hr, ← mm_Eobj hcl ha h2] at hat
    exact h _ _ _ hk hl (mm_ivt (mm_ivt hs)) lsM H1 locs1 hL hml ⟨mm_Pset hP.1 rfl mm_Eset hat hz ho (mm_inset hP.1.2.1 (mm_iv1 hs)), hP.2⟩ hS1
  · exact hk.elim
theorem mm_ial (hC : mm_C p G s m args meth c cc own) (hd : decode cc pc = .ok (.iaload, 1)) (h : mm_imp K (mm_O p l e R s m args below meth c G k0 Q (pc + 1))) : mm_imp (i_ial K) (mm_O p l e R s m args below meth c G k0 Q pc) := by
  intro ls st σ hk hl hs lsM H locs hL hml hP hS
  unfold i_ial at hk
  split at hk
  · rename_i i a r
    obtain ⟨⟨h1, h2, h3, h4⟩, hk⟩ := hk
    have ha : a < 348 := by have := hP.1.2.2.2; omega
    have hi : mm_in i := mm_iv1 hs
    have hat := hP.1.1 a h1
    rw [mm_Eint h2] at hat
    show W p l e R s m args below meth c H locs _ _ Q (F0 m pc lsM (.int (Int32.ofInt i) :: .ref (mm_ad G a) :: r.map (mm_v G)))
    rw [mm_adw ha]
    refine va_iald (D := G.2.1) (cl := vwCl) hC.1 hC.2.1 hC.2.2.2.2.1 (mm_one hat) 0 0 rfl rfl (mm_vpin hi h3 h4) hd ?_
    rw [mm_clamp hi]
    exact h _ _ _ (hk (hP.1.2.1 a _)) hl (mm_ivc (v := .inl (σ.1 a i.toNat)) (hP.1.2.1 a _) (mm_ivt (mm_ivt hs))) lsM H locs hL hml hP hS
  · exact hk.elim
theorem mm_ias (hC : mm_C p G s m args meth c cc own) (hd : decode cc pc = .ok (.iastore, 1)) (h : mm_imp K (mm_O p l e R s m args below meth c G k0 Q (pc + 1))) : mm_imp (i_ias K) (mm_O p l e R s m args below meth c G k0 Q pc) := by
  intro ls st σ hk hl hs lsM H locs hL hml hP hS
  unfold i_ias at hk
  split at hk
  · rename_i z i a r
    obtain ⟨⟨h1, h2, h3, h4⟩, hk⟩ := hk
    have ha : a < 348 := by have := hP.1.2.2.2; omega
    have hi : mm_in i := mm_iv1 (mm_ivt hs)
    have hat := hP.1.1 a h1
    rw [mm_Eint h2] at hat
    show W p l e R s m args below meth c H locs _ _ Q (F0 m pc lsM (.int (Int32.ofInt z) :: .int (Int32.ofInt i) :: .ref (mm_ad G a) :: r.map (mm_v G)))
    rw [mm_adw ha]
    refine W.iast hC.1 hC.2.1 hat ((hC.2.2.2.2.1.2 0 _ rfl).1 (mm_sh a).2 (fun j => .int (Int32.ofInt (σ.1 a j)))) (fun q => by cases q) (by show ¬ (_ < 0 ∨ (arrV _ _ _).slots.size ≤ _); rw [arrV_size]; exact mm_vpin hi h3 h4) rfl rfl hd fun H1 e1 e2 e3 => ?_
    refine h _ _ _ hk hl (mm_ivt (mm_ivt (mm_ivt hs))) lsM H1 _ hL hml ⟨mm_Pset hP.1 rfl mm_Eset ?_ e2 e3 (mm_inset hP.1.2.1 (mm_iv1 hs)), hP.2⟩ (hS.put e2 e3 (show mm_A G (G.1 + a) from Nat.le_add_right _ _))
    rw [mm_Eint h2]
    show H1[G.1 + a]? = some (vp_cell _ _)
    rw [e1, vp_cell_i, vp_cell_i, arrV_store, mm_clamp hi]
    congr 2
    funext q
    by_cases hq : q = i.toNat
    · subst hq
      simp [updV, mm_set]
    · simp [updV, mm_set, hq]
  · exact hk.elim
theorem mm_len (hC : mm_C p G s m args meth c cc own) (hd : decode cc pc = .ok (.arraylength, 1)) (h : mm_imp K (mm_O p l e R s m args below meth c G k0 Q (pc + 1))) : mm_imp (i_len K) (mm_O p l e R s m args below meth c G k0 Q pc) := by
  intro ls st σ hk hl hs lsM H locs hL hml hP hS
  unfold i_len at hk
  split at hk
  · rename_i a r
    obtain ⟨⟨h1, h2⟩, hk⟩ := hk
    have ha : a < 348 := by have := hP.1.2.2.2; omega
    have hat := hP.1.1 a h1
    have hb := mm_shOk a ha
    have hin : mm_in ((mm_sh a).2 : Int) := ⟨by omega, by have := hb.1; omega⟩
    show W p l e R s m args below meth c H locs _ _ Q (F0 m pc lsM (.ref (mm_ad G a) :: r.map (mm_v G)))
    rw [mm_adw ha]
    have go := h _ _ _ hk hl (mm_ivc (v := .inl ((mm_sh a).2 : Int)) hin (mm_ivt hs)) lsM H locs hL hml hP hS
    by_cases e1 : (mm_sh a).1 = 100
    · rw [mm_Eint e1] at hat
      exact va_alen (D := G.2.1) (cl := vwCl) hC.1 hC.2.1 hC.2.2.2.2.1 (mm_one hat) 0 0 rfl rfl (Int32.ofInt_eq_ofNat).symm hd go
    · obtain ⟨t, hkt⟩ : ∃ (t : Nat) (ty : FieldType), (mm_tys G)[t]? = some (G.2.2.1 (mm_sh a).1, ty) := by
        have := hb.2.1
        rcases (show (mm_sh a).1 = 101 ∨ (mm_sh a).1 = 102 ∨ (mm_sh a).1 = 103 by omega) with q | q | q
        · exact ⟨1, _, by rw [q]; rfl⟩
        · exact ⟨2, _, by rw [q]; rfl⟩
        · exact ⟨3, _, by rw [q]; rfl⟩
      obtain ⟨ty, hkt⟩ := hkt
      rw [mm_Eref rfl (by omega)] at hat
      exact va_alen (D := G.2.1) (cl := vwCl) hC.1 hC.2.1 hC.2.2.2.2.1 (mm_one hat) 0 t rfl hkt (Int32.ofInt_eq_ofNat).symm hd go
  · exact hk.elim
theorem mm_aal (hC : mm_C p G s m args meth c cc own) {kd t : Nat} {C : String} (hkd : 100 < kd) (ht : (mm_tys G)[t]? = some (G.2.2.1 kd, .object C)) (hd : decode cc pc = .ok (.aaload, 1)) (h : mm_imp K (mm_O p l e R s m args below meth c G k0 Q (pc + 1))) : mm_imp (i_aal kd K) (mm_O p l e R s m args below meth c G k0 Q pc) := by
  intro ls st σ hk hl hs lsM H locs hL hml hP hS
  unfold i_aal at hk
  split at hk
  · rename_i i a r
    obtain ⟨⟨h1, h2, h3, h4⟩, b, hb, hk⟩ := hk
    have ha : a < 348 := by have := hP.1.2.2.2; omega
    have hi : mm_in i := mm_iv1 hs
    have hat := hP.1.1 a h1
    rw [mm_Eref h2 hkd] at hat
    show W p l e R s m args below meth c H locs _ _ Q (F0 m pc lsM (.int (Int32.ofInt i) :: .ref (mm_ad G a) :: r.map (mm_v G)))
    rw [mm_adw ha]
    refine va_aldq (D := G.2.1) (cl := vwCl) hC.1 hC.2.1 hC.2.2.2.2.1 (mm_one hat) 0 t rfl ht (mm_vpin hi h3 h4) hd ?_
    rw [mm_clamp hi, hb]
    exact h _ _ _ hk hl (mm_ivc (v := .inr (some b)) trivial (mm_ivt (mm_ivt hs))) lsM H locs hL hml hP hS
  · exact hk.elim
theorem mm_gs (hC : mm_C p G s m args meth c cc own) {t idx : Nat} (ht : t < 5) (hw : Cond.fieldLink own idx RX6 (mm_tn t) "[I" ∈ lw_gd) (hd : decode cc pc = .ok (.getstatic idx, 3)) (h : mm_imp K (mm_O p l e R s m args below meth c G k0 Q (pc + 3))) : mm_imp (i_gs t K) (mm_O p l e R s m args below meth c G k0 Q pc) := by
  intro ls st σ hk hl hs lsM H locs hL hml hP hS
  have hv : mm_v G (.inr (some (1000000 + t))) = .ref (G.2.2.2 t) := by
    show Value.ref (mm_ad G (1000000 + t)) = _
    unfold mm_ad
    rw [if_neg (by omega), Nat.add_sub_cancel_left]
  have go := h _ _ _ hk hl (mm_ivc (v := .inr (some (1000000 + t))) trivial hs) lsM H locs hL hml hP hS
  rw [List.map_cons, hv] at go
  exact va_gets hC.1 hC.2.1 (hC.2.2.2.2.2.1 t ht).1 hS hC.2.2.1 (hC.2.2.2.1 _ hw) (fun _ h => h) hd go
theorem mm_tal (hC : mm_C p G s m args meth c cc own) {t : Nat} (ht : t < 5) (hr : ∀ j, mm_in (mm_tb t j)) (hd : decode cc pc = .ok (.iaload, 1)) (h : mm_imp K (mm_O p l e R s m args below meth c G k0 Q (pc + 1))) : mm_imp (i_tal t K) (mm_O p l e R s m args below meth c G k0 Q pc) := by
  intro ls st σ hk hl hs lsM H locs hL hml hP hS
  unfold i_tal at hk
  split at hk
  · rename_i i a r
    obtain ⟨⟨rfl, h3, h4⟩, hk⟩ := hk
    have hi : mm_in i := mm_iv1 hs
    have hv : mm_ad G (1000000 + t) = G.2.2.2 t := by
      unfold mm_ad
      rw [if_neg (by omega), Nat.add_sub_cancel_left]
    show W p l e R s m args below meth c H locs _ _ Q (F0 m pc lsM (.int (Int32.ofInt i) :: .ref (mm_ad G (1000000 + t)) :: r.map (mm_v G)))
    rw [hv]
    refine va_ti hC.1 hC.2.1 (hC.2.2.2.2.2.1 t ht).2 hS (mm_vpin hi h3 h4) rfl hd ?_
    rw [mm_clamp hi]
    exact h _ _ _ hk hl (mm_ivc (v := .inl (mm_tb t i.toNat)) (hr _) (mm_ivt (mm_ivt hs))) lsM H locs hL hml hP hS
  · exact hk.elim
theorem mm_dup2 (hC : mm_C p G s m args meth c cc own) (hd : decode cc pc = .ok (.dup2, 1)) (h : mm_imp K (mm_O p l e R s m args below meth c G k0 Q (pc + 1))) : mm_imp (i_dup2 K) (mm_O p l e R s m args below meth c G k0 Q pc) := by
  intro ls st σ hk hl hs lsM H locs hL hml hP hS
  unfold i_dup2 at hk
  split at hk
  · rename_i v w r
    exact lv_dup2_11 hC.1 hC.2.1 hd (mm_cat G v) (mm_cat G w) (h _ _ _ hk hl (mm_ivc (mm_iv1 hs) (mm_ivc (mm_iv1 (mm_ivt hs)) hs)) lsM H locs hL hml hP hS)
  · exact hk.elim
theorem mm_Zkept {G : mm_G} {s t : State} {H : Heap} {locs : List Loc} (hZ : mm_Z G s) (hS : va_S (mm_A G) s.heap H locs) (ht : t.heap = H) (hv : s.vm.Alike t.vm) : mm_Z G t := by
  intro i hi
  obtain ⟨h1, h2⟩ := hZ i hi
  rw [ht]
  exact ⟨(h1.kept (fun a ha hA => hS.2.1 a ha hA)).moved hv, (h2.kept (fun a ha hA => hS.2.1 a ha hA)).moved hv⟩
theorem mm_ir (hC : mm_C p G s m args meth c cc own) {σ0 : mm_S} {Post : Option mm_V → mm_S → Prop} {kf : Nat} (hkf : kf = σ0.2.2 + R.cells ∧ mm_ss kf = mm_ss σ0.2.2 + R.slots) (hr : meth.sig.returnType = some .int) (hd : decode cc pc = .ok (.ireturn, 1)) :
    mm_imp (i_ir Post kf) (mm_O p l e R s m args below meth c G σ0.2.2 (MQ below (mm_Qc G σ0 R.cells R.slots Post) args s R.cells R.slots (mm_A G)) pc) := by
  intro ls st σ hk hl hs lsM H locs hL hml hP hS
  unfold i_ir at hk
  split at hk
  · rename_i z
    refine W.widen (k := R.cells) (n := R.slots) (by have := hP.2.2.1; omega) (by have := hP.2.2.2; omega) ?_
    refine W.iret hC.1 hC.2.1 hr (fun t ht hW => ?_) hS.2.2 hd hC.2.2.2.2.2.2.1
    exact ⟨⟨some (.inl z), σ, rfl, mm_iv1 hs, hk.2, ⟨by rw [ht]; exact hP.1, va_K.moved hW.alike hC.2.2.2.2.1, mm_Zkept hC.2.2.2.2.2.1 hS ht hW.alike⟩, by rw [hk.1]; exact hkf.1, by rw [hk.1]; exact hkf.2⟩, hS.F ht⟩
  · exact hk.elim
theorem mm_zr (hC : mm_C p G s m args meth c cc own) {σ0 : mm_S} {Post : Option mm_V → mm_S → Prop} {kf : Nat} (hkf : kf = σ0.2.2 + R.cells ∧ mm_ss kf = mm_ss σ0.2.2 + R.slots) (hr : meth.sig.returnType = some .boolean) (hd : decode cc pc = .ok (.ireturn, 1)) :
    mm_imp (i_zr Post kf) (mm_O p l e R s m args below meth c G σ0.2.2 (MQ below (mm_Qc G σ0 R.cells R.slots Post) args s R.cells R.slots (mm_A G)) pc) := by
  intro ls st σ hk hl hs lsM H locs hL hml hP hS
  unfold i_zr at hk
  split at hk
  · rename_i z
    refine W.widen (k := R.cells) (n := R.slots) (by have := hP.2.2.1; omega) (by have := hP.2.2.2; omega) ?_
    refine W.zret hC.1 hC.2.1 hr (by rcases hk.2.1 with rfl | rfl <;> decide) (fun t ht hW => ?_) hS.2.2 hd hC.2.2.2.2.2.2.1
    exact ⟨⟨some (.inl z), σ, rfl, mm_iv1 hs, hk.2.2, ⟨by rw [ht]; exact hP.1, va_K.moved hW.alike hC.2.2.2.2.1, mm_Zkept hC.2.2.2.2.2.1 hS ht hW.alike⟩, by rw [hk.1]; exact hkf.1, by rw [hk.1]; exact hkf.2⟩, hS.F ht⟩
  · exact hk.elim
theorem mm_vr (hC : mm_C p G s m args meth c cc own) {σ0 : mm_S} {Post : Option mm_V → mm_S → Prop} {kf : Nat} (hkf : kf = σ0.2.2 + R.cells ∧ mm_ss kf = mm_ss σ0.2.2 + R.slots) (hr : meth.sig.returnType = none) (hd : decode cc pc = .ok (.return_, 1)) :
    mm_imp (i_vr Post kf) (mm_O p l e R s m args below meth c G σ0.2.2 (MQ below (mm_Qc G σ0 R.cells R.slots Post) args s R.cells R.slots (mm_A G)) pc) := by
  intro ls st σ hk hl hs lsM H locs hL hml hP hS
  unfold i_vr at hk
  split at hk
  · refine W.widen (k := R.cells) (n := R.slots) (by have := hP.2.2.1; omega) (by have := hP.2.2.2; omega) ?_
    refine W.vret hC.1 hC.2.1 hr (fun t ht hW => ?_) hS.2.2 hd hC.2.2.2.2.2.2.1
    exact ⟨⟨none, σ, rfl, trivial, hk.2, ⟨by rw [ht]; exact hP.1, va_K.moved hW.alike hC.2.2.2.2.1, mm_Zkept hC.2.2.2.2.2.1 hS ht hW.alike⟩, by rw [hk.1]; exact hkf.1, by rw [hk.1]; exact hkf.2⟩, hS.F ht⟩
  · exact hk.elim
end MMD
