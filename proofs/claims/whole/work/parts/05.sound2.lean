/-! branches, fields, arrays, calls -/
section MMB
variable {p : Program} {l : Launch} {e : Env} {R : Room} {s : State} {m : MethodId} {args : Array Value} {below : List Frame} {meth : Method} {c : Code} {G : mm_G} {k0 : Nat} {Q : State → Prop} {cc : ByteArray} {own : String} {pc : Nat} {K T : mm_K}
theorem mm_if_eq (hC : mm_C p G s m args meth c cc own) {off : Int} {t : Nat} (hd : decode cc pc = .ok (.ifCond .eq off, 3)) (ht : (pc : Int) + off = (t : Int)) (hT : mm_imp T (mm_O p l e R s m args below meth c G k0 Q t)) (h : mm_imp K (mm_O p l e R s m args below meth c G k0 Q (pc + 3))) : mm_imp (i_if (fun x => x = 0) T K) (mm_O p l e R s m args below meth c G k0 Q pc) := by
  intro ls st σ hk hl hs lsM H locs hL hml hP hS
  unfold i_if at hk
  split at hk
  · rename_i x r
    have hx : mm_in x := mm_iv1 hs
    have hcv := (mm_eq hx mm_in0)
    rw [← mm_0] at hcv
    exact lv_if_eq hC.1 hC.2.1 hd ht (fun q => hT _ _ _ (hk.1 (hcv.mp q)) hl (mm_ivt hs) lsM H locs hL hml hP hS) (fun q => h _ _ _ (hk.2 (fun z => q (hcv.mpr z))) hl (mm_ivt hs) lsM H locs hL hml hP hS)
  · exact hk.elim
theorem mm_ic_eq (hC : mm_C p G s m args meth c cc own) {off : Int} {t : Nat} (hd : decode cc pc = .ok (.if_icmp .eq off, 3)) (ht : (pc : Int) + off = (t : Int)) (hT : mm_imp T (mm_O p l e R s m args below meth c G k0 Q t)) (h : mm_imp K (mm_O p l e R s m args below meth c G k0 Q (pc + 3))) : mm_imp (i_if2 (fun x y => x = y) T K) (mm_O p l e R s m args below meth c G k0 Q pc) := by
  intro ls st σ hk hl hs lsM H locs hL hml hP hS
  unfold i_if2 at hk
  split at hk
  · rename_i y x r
    have hy : mm_in y := mm_iv1 hs
    have hx : mm_in x := mm_iv1 (mm_ivt hs)
    have hcv := (mm_eq hx hy)
    exact lv_icmp_eq hC.1 hC.2.1 hd ht (fun q => hT _ _ _ (hk.1 (hcv.mp q)) hl (mm_ivt (mm_ivt hs)) lsM H locs hL hml hP hS) (fun q => h _ _ _ (hk.2 (fun z => q (hcv.mpr z))) hl (mm_ivt (mm_ivt hs)) lsM H locs hL hml hP hS)
  · exact hk.elim
theorem mm_if_ne (hC : mm_C p G s m args meth c cc own) {off : Int} {t : Nat} (hd : decode cc pc = .ok (.ifCond .ne off, 3)) (ht : (pc : Int) + off = (t : Int)) (hT : mm_imp T (mm_O p l e R s m args below meth c G k0 Q t)) (h : mm_imp K (mm_O p l e R s m args below meth c G k0 Q (pc + 3))) : mm_imp (i_if (fun x => ¬ x = 0) T K) (mm_O p l e R s m args below meth c G k0 Q pc) := by
  intro ls st σ hk hl hs lsM H locs hL hml hP hS
  unfold i_if at hk
  split at hk
  · rename_i x r
    have hx : mm_in x := mm_iv1 hs
    have hcv := (mm_eq hx mm_in0)
    rw [← mm_0] at hcv
    exact lv_if_ne hC.1 hC.2.1 hd ht (fun q => hT _ _ _ (hk.1 (fun z => q (hcv.mpr z))) hl (mm_ivt hs) lsM H locs hL hml hP hS) (fun q => h _ _ _ (hk.2 (fun z => z (hcv.mp q))) hl (mm_ivt hs) lsM H locs hL hml hP hS)
  · exact hk.elim
theorem mm_ic_ne (hC : mm_C p G s m args meth c cc own) {off : Int} {t : Nat} (hd : decode cc pc = .ok (.if_icmp .ne off, 3)) (ht : (pc : Int) + off = (t : Int)) (hT : mm_imp T (mm_O p l e R s m args below meth c G k0 Q t)) (h : mm_imp K (mm_O p l e R s m args below meth c G k0 Q (pc + 3))) : mm_imp (i_if2 (fun x y => ¬ x = y) T K) (mm_O p l e R s m args below meth c G k0 Q pc) := by
  intro ls st σ hk hl hs lsM H locs hL hml hP hS
  unfold i_if2 at hk
  split at hk
  · rename_i y x r
    have hy : mm_in y := mm_iv1 hs
    have hx : mm_in x := mm_iv1 (mm_ivt hs)
    have hcv := (mm_eq hx hy)
    exact lv_icmp_ne hC.1 hC.2.1 hd ht (fun q => hT _ _ _ (hk.1 (fun z => q (hcv.mpr z))) hl (mm_ivt (mm_ivt hs)) lsM H locs hL hml hP hS) (fun q => h _ _ _ (hk.2 (fun z => z (hcv.mp q))) hl (mm_ivt (mm_ivt hs)) lsM H locs hL hml hP hS)
  · exact hk.elim
theorem mm_if_lt (hC : mm_C p G s m args meth c cc own) {off : Int} {t : Nat} (hd : decode cc pc = .ok (.ifCond .lt off, 3)) (ht : (pc : Int) + off = (t : Int)) (hT : mm_imp T (mm_O p l e R s m args below meth c G k0 Q t)) (h : mm_imp K (mm_O p l e R s m args below meth c G k0 Q (pc + 3))) : mm_imp (i_if (fun x => x < 0) T K) (mm_O p l e R s m args below meth c G k0 Q pc) := by
  intro ls st σ hk hl hs lsM H locs hL hml hP hS
  unfold i_if at hk
  split at hk
  · rename_i x r
    have hx : mm_in x := mm_iv1 hs
    have hcv := (mm_lt hx mm_in0)
    rw [← mm_0] at hcv
    exact lv_if_lt hC.1 hC.2.1 hd ht (fun q => hT _ _ _ (hk.1 (hcv.mp q)) hl (mm_ivt hs) lsM H locs hL hml hP hS) (fun q => h _ _ _ (hk.2 (fun z => q (hcv.mpr z))) hl (mm_ivt hs) lsM H locs hL hml hP hS)
  · exact hk.elim
theorem mm_ic_lt (hC : mm_C p G s m args meth c cc own) {off : Int} {t : Nat} (hd : decode cc pc = .ok (.if_icmp .lt off, 3)) (ht : (pc : Int) + off = (t : Int)) (hT : mm_imp T (mm_O p l e R s m args below meth c G k0 Q t)) (h : mm_imp K (mm_O p l e R s m args below meth c G k0 Q (pc + 3))) : mm_imp (i_if2 (fun x y => x < y) T K) (mm_O p l e R s m args below meth c G k0 Q pc) := by
  intro ls st σ hk hl hs lsM H locs hL hml hP hS
  unfold i_if2 at hk
  split at hk
  · rename_i y x r
    have hy : mm_in y := mm_iv1 hs
    have hx : mm_in x := mm_iv1 (mm_ivt hs)
    have hcv := (mm_lt hx hy)
    exact lv_icmp_lt hC.1 hC.2.1 hd ht (fun q => hT _ _ _ (hk.1 (hcv.mp q)) hl (mm_ivt (mm_ivt hs)) lsM H locs hL hml hP hS) (fun q => h _ _ _ (hk.2 (fun z => q (hcv.mpr z))) hl (mm_ivt (mm_ivt hs)) lsM H locs hL hml hP hS)
  · exact hk.elim
theorem mm_if_ge (hC : mm_C p G s m args meth c cc own) {off : Int} {t : Nat} (hd : decode cc pc = .ok (.ifCond .ge off, 3)) (ht : (pc : Int) + off = (t : Int)) (hT : mm_imp T (mm_O p l e R s m args below meth c G k0 Q t)) (h : mm_imp K (mm_O p l e R s m args below meth c G k0 Q (pc + 3))) : mm_imp (i_if (fun x => 0 ≤ x) T K) (mm_O p l e R s m args below meth c G k0 Q pc) := by
  intro ls st σ hk hl hs lsM H locs hL hml hP hS
  unfold i_if at hk
  split at hk
  · rename_i x r
    have hx : mm_in x := mm_iv1 hs
    have hcv := (mm_le mm_in0 hx)
    rw [← mm_0] at hcv
    exact lv_if_ge hC.1 hC.2.1 hd ht (fun q => hT _ _ _ (hk.1 (hcv.mp q)) hl (mm_ivt hs) lsM H locs hL hml hP hS) (fun q => h _ _ _ (hk.2 (fun z => q (hcv.mpr z))) hl (mm_ivt hs) lsM H locs hL hml hP hS)
  · exact hk.elim
theorem mm_ic_ge (hC : mm_C p G s m args meth c cc own) {off : Int} {t : Nat} (hd : decode cc pc = .ok (.if_icmp .ge off, 3)) (ht : (pc : Int) + off = (t : Int)) (hT : mm_imp T (mm_O p l e R s m args below meth c G k0 Q t)) (h : mm_imp K (mm_O p l e R s m args below meth c G k0 Q (pc + 3))) : mm_imp (i_if2 (fun x y => y ≤ x) T K) (mm_O p l e R s m args below meth c G k0 Q pc) := by
  intro ls st σ hk hl hs lsM H locs hL hml hP hS
  unfold i_if2 at hk
  split at hk
  · rename_i y x r
    have hy : mm_in y := mm_iv1 hs
    have hx : mm_in x := mm_iv1 (mm_ivt hs)
    have hcv := (mm_le hy hx)
    exact lv_icmp_ge hC.1 hC.2.1 hd ht (fun q => hT _ _ _ (hk.1 (hcv.mp q)) hl (mm_ivt (mm_ivt hs)) lsM H locs hL hml hP hS) (fun q => h _ _ _ (hk.2 (fun z => q (hcv.mpr z))) hl (mm_ivt (mm_ivt hs)) lsM H locs hL hml hP hS)
  · exact hk.elim
theorem mm_if_gt (hC : mm_C p G s m args meth c cc own) {off : Int} {t : Nat} (hd : decode cc pc = .ok (.ifCond .gt off, 3)) (ht : (pc : Int) + off = (t : Int)) (hT : mm_imp T (mm_O p l e R s m args below meth c G k0 Q t)) (h : mm_imp K (mm_O p l e R s m args below meth c G k0 Q (pc + 3))) : mm_imp (i_if (fun x => 0 < x) T K) (mm_O p l e R s m args below meth c G k0 Q pc) := by
  intro ls st σ hk hl hs lsM H locs hL hml hP hS
  unfold i_if at hk
  split at hk
  · rename_i x r
    have hx : mm_in x := mm_iv1 hs
    have hcv := (mm_lt mm_in0 hx)
    rw [← mm_0] at hcv
    exact lv_if_gt hC.1 hC.2.1 hd ht (fun q => hT _ _ _ (hk.1 (hcv.mp q)) hl (mm_ivt hs) lsM H locs hL hml hP hS) (fun q => h _ _ _ (hk.2 (fun z => q (hcv.mpr z))) hl (mm_ivt hs) lsM H locs hL hml hP hS)
  · exact hk.elim
theorem mm_ic_gt (hC : mm_C p G s m args meth c cc own) {off : Int} {t : Nat} (hd : decode cc pc = .ok (.if_icmp .gt off, 3)) (ht : (pc : Int) + off = (t : Int)) (hT : mm_imp T (mm_O p l e R s m args below meth c G k0 Q t)) (h : mm_imp K (mm_O p l e R s m args below meth c G k0 Q (pc + 3))) : mm_imp (i_if2 (fun x y => y < x) T K) (mm_O p l e R s m args below meth c G k0 Q pc) := by
  intro ls st σ hk hl hs lsM H locs hL hml hP hS
  unfold i_if2 at hk
  split at hk
  · rename_i y x r
    have hy : mm_in y := mm_iv1 hs
    have hx : mm_in x := mm_iv1 (mm_ivt hs)
    have hcv := (mm_lt hy hx)
    exact lv_icmp_gt hC.1 hC.2.1 hd ht (fun q => hT _ _ _ (hk.1 (hcv.mp q)) hl (mm_ivt (mm_ivt hs)) lsM H locs hL hml hP hS) (fun q => h _ _ _ (hk.2 (fun z => q (hcv.mpr z))) hl (mm_ivt (mm_ivt hs)) lsM H locs hL hml hP hS)
  · exact hk.elim
theorem mm_if_le (hC : mm_C p G s m args meth c cc own) {off : Int} {t : Nat} (hd : decode cc pc = .ok (.ifCond .le off, 3)) (ht : (pc : Int) + off = (t : Int)) (hT : mm_imp T (mm_O p l e R s m args below meth c G k0 Q t)) (h : mm_imp K (mm_O p l e R s m args below meth c G k0 Q (pc + 3))) : mm_imp (i_if (fun x => x ≤ 0) T K) (mm_O p l e R s m args below meth c G k0 Q pc) := by
  intro ls st σ hk hl hs lsM H locs hL hml hP hS
  unfold i_if at hk
  split at hk
  · rename_i x r
    have hx : mm_in x := mm_iv1 hs
    have hcv := (mm_le hx mm_in0)
    rw [← mm_0] at hcv
    exact lv_if_le hC.1 hC.2.1 hd ht (fun q => hT _ _ _ (hk.1 (hcv.mp q)) hl (mm_ivt hs) lsM H locs hL hml hP hS) (fun q => h _ _ _ (hk.2 (fun z => q (hcv.mpr z))) hl (mm_ivt hs) lsM H locs hL hml hP hS)
  · exact hk.elim
theorem mm_ic_le (hC : mm_C p G s m args meth c cc own) {off : Int} {t : Nat} (hd : decode cc pc = .ok (.if_icmp .le off, 3)) (ht : (pc : Int) + off = (t : Int)) (hT : mm_imp T (mm_O p l e R s m args below meth c G k0 Q t)) (h : mm_imp K (mm_O p l e R s m args below meth c G k0 Q (pc + 3))) : mm_imp (i_if2 (fun x y => x ≤ y) T K) (mm_O p l e R s m args below meth c G k0 Q pc) := by
  intro ls st σ hk hl hs lsM H locs hL hml hP hS
  unfold i_if2 at hk
  split at hk
  · rename_i y x r
    have hy : mm_in y := mm_iv1 hs
    have hx : mm_in x := mm_iv1 (mm_ivt hs)
    have hcv := (mm_le hx hy)
    exact lv_icmp_le hC.1 hC.2.1 hd ht (fun q => hT _ _ _ (hk.1 (hcv.mp q)) hl (mm_ivt (mm_ivt hs)) lsM H locs hL hml hP hS) (fun q => h _ _ _ (hk.2 (fun z => q (hcv.mpr z))) hl (mm_ivt (mm_ivt hs)) lsM H locs hL hml hP hS)
  · exact hk.elim
theorem mm_adw {a : Nat} (h : a < 348) : mm_ad G a = G.1 + a := if_pos (by omega)
theorem mm_one {D : va_G} {cl : List vw_C} {q : Nat × va_E} {H : Heap} (h : va_at D cl q H) : va_P D cl [q] H := by
  intro k q' hq
  cases k with
  | zero => cases hq; exact h
  | succ k => simp at hq
theorem mm_Eobj {σ : mm_S} {a ci N : Nat} {C : String} {T : u_T} {ty : Nat → FieldType} (hcl : mm_cl ci C T N ty) (ha : a < 348) (hs : (mm_sh a).1 = ci) : mm_E G σ a = .inr (ci, (List.range N).map (fun j => mm_fv G ci j σ a)) := by
  have h1 := mm_shOk a ha
  have hci : ci < 100 := by
    have := (List.getElem?_eq_some_iff.mp hcl.1).1
    have h2 : vwCl.length = 12 := rfl
    omega
  have h3 := h1.2.2 (by omega)
  rw [hs, hcl.1] at h3
  have h4 : N = (mm_sh a).2 := Option.some.inj h3
  unfold mm_E
  rw [if_pos (by omega), hs, ← h4]
theorem mm_Eint {σ : mm_S} {a : Nat} (hs : (mm_sh a).1 = 100) : mm_E G σ a = .inl (G.2.2.1 100, (mm_sh a).2, .inl (fun j => Int32.ofInt (σ.1 a j))) := by
  unfold mm_E
  rw [if_neg (by omega), if_pos hs]
theorem mm_Eref {σ : mm_S} {a kd : Nat} (hs : (mm_sh a).1 = kd) (hk : 100 < kd) : mm_E G σ a = .inl (G.2.2.1 kd, (mm_sh a).2, .inr (.inr (.inr (.inr (fun j => (σ.2.1 a j).map (mm_ad G)))))) := by
  unfold mm_E
  rw [if_neg (by omega), if_neg (by omega), hs]
theorem mm_fvN {σ : mm_S} {a ci N j : Nat} (hj : j < N) : ((List.range N).map (fun j => mm_fv G ci j σ a))[j]? = some (mm_fv G ci j σ a) := by
  simp [hj]
theorem mm_gi (hC : mm_C p G s m args meth c cc own) {ci j idx N : Nat} {C : String} {T : u_T} {ty : Nat → FieldType} (hcl : mm_cl ci C T N ty) (hj : j < N) (hr : mm_rf ci j = false) (hw : Cond.fieldLink own idx (T j).1 (T j).2.1 (T j).2.2.1 ∈ lw_gd) (hd : decode cc pc = .ok (.getfield idx, 3)) (h : mm_imp K (mm_O p l e R s m args below meth c G k0 Q (pc + 3))) : mm_imp (i_gi ci j K) (mm_O p l e R s m args below meth c G k0 Q pc) := by
  intro ls st σ hk hl hs lsM H locs hL hml hP hS
  unfold i_gi at hk
  split at hk
  · rename_i a r
    have ha : a < 348 := by have := hP.1.2.2.2; have := hk.1.1; omega
    have hat := hP.1.1 a hk.1.1
    rw [mm_Eobj hcl ha hk.1.2] at hat
    show W p l e R s m args below meth c H locs _ _ Q (F0 m pc lsM (.ref (mm_ad G a) :: r.map (mm_v G)))
    rw [mm_adw ha]
    exact va_get (D := G.2.1) (ci := ci) (v := .int (Int32.ofInt (σ.1 a j))) (C := C) (T := T) (N := N) hC.1 hC.2.1 hC.2.2.2.1 hcl.2.1 hC.2.2.1 hC.2.2.2.2.1 (mm_one hat) 0 rfl hcl.1 j hj (hC.2.2.2.1 _ hw) (fun _ h => h) (by rw [mm_fvN hj]; simp [mm_fv, hr]) hd (h _ _ _ (hk.2 (hP.1.2.1 a j)) hl (mm_ivc (v := .inl (σ.1 a j)) (hP.1.2.1 a j) (mm_ivt hs)) lsM H locs hL hml hP hS)
  · exact hk.elim
theorem mm_gr (hC : mm_C p G s m args meth c cc own) {ci j idx N : Nat} {C : String} {T : u_T} {ty : Nat → FieldType} (hcl : mm_cl ci C T N ty) (hj : j < N) (hr : mm_rf ci j = true) (hw : Cond.fieldLink own idx (T j).1 (T j).2.1 (T j).2.2.1 ∈ lw_gd) (hd : decode cc pc = .ok (.getfield idx, 3)) (h : mm_imp K (mm_O p l e R s m args below meth c G k0 Q (pc + 3))) : mm_imp (i_gr ci j K) (mm_O p l e R s m args below meth c G k0 Q pc) := by
  intro ls st σ hk hl hs lsM H locs hL hml hP hS
  unfold i_gr at hk
  split at hk
  · rename_i a r
    obtain ⟨⟨h1, h2⟩, b, hb, hk⟩ := hk
    have ha : a < 348 := by have := hP.1.2.2.2; omega
    have hat := hP.1.1 a h1
    rw [mm_Eobj hcl ha h2] at hat
    show W p l e R s m args below meth c H locs _ _ Q (F0 m pc lsM (.ref (mm_ad G a) :: r.map (mm_v G)))
    rw [mm_adw ha]
    exact va_get (D := G.2.1) (ci := ci) (v := mm_v G (.inr (some b))) (C := C) (T := T) (N := N) hC.1 hC.2.1 hC.2.2.2.1 hcl.2.1 hC.2.2.1 hC.2.2.2.2.1 (mm_one hat) 0 rfl hcl.1 j hj (hC.2.2.2.1 _ hw) (fun _ h => h) (by rw [mm_fvN hj]; simp [mm_fv, hr, hb]) hd (h _ _ _ hk hl (mm_ivc (v := .inr (some b)) trivial (mm_ivt hs)) lsM H locs hL hml hP hS)
  · exact hk.elim
theorem mm_Pset {σ τ : mm_S} {H H' : Heap} {a : Nat} (hP : mm_P G σ H) (hk : τ.2.2 = σ.2.2) (hE : ∀ b, b ≠ a → mm_E G τ b = mm_E G σ b) (hat : va_at G.2.1 vwCl (G.1 + a, mm_E G τ a) H') (hz : H'.size = H.size) (ho : ∀ q, q ≠ G.1 + a → H'[q]? = H[q]?) (hi : ∀ a j, mm_in (τ.1 a j)) : mm_P G τ H' := by
  refine ⟨fun b hb => ?_, hi, ?_, by rw [hk]; exact hP.2.2.2⟩
  · by_cases e : b = a
    · subst e; exact hat
    · rw [hE b e]
      exact (hP.1 b (by omega)).kept (ho _ (by omega))
  · rw [hk, hz]; exact hP.2.2.1
theorem mm_Eset {σ : mm_S} {a j : Nat} {z : Int} : ∀ b, b ≠ a → mm_E G (mm_set σ.1 a j z, σ.2) b = mm_E G σ b := by
  intro b hb
  have h1 : (mm_set σ.1 a j z) b = σ.1 b := by funext i; simp [mm_set, hb]
  unfold mm_E mm_fv
  simp only [h1]
theorem mm_inset {σ : mm_S} {a j : Nat} {z : Int} (h : ∀ a j, mm_in (σ.1 a j)) (hz : mm_in z) : ∀ b i, mm_in (mm_set σ.1 a j z b i) := by
  intro b i
  unfold mm_set
  split
  · exact hz
  · exact h b i
theorem mm_putK (hC : mm_C p G s m args meth c cc own) {ci j idx N a : Nat} {C : String} {T : u_T} {ty : Nat → FieldType} (hcl : mm_cl ci C T N ty) (hj : j < N) (hfin : (T j).2.2.2 = false) (hw : Cond.fieldLink own idx (T j).1 (T j).2.1 (T j).2.2.1 ∈ lw_gd) (hd : decode cc pc = .ok (.putfield idx, 3))
    {σ : mm_S} {H : Heap} {locs : List Loc} {lsM : Array Slot} {rest : List Value} {cells slots : Nat} {v : Value} (hn : narrow (ty j) v = v) (hfit : fits (ty j) v = true) (hP : mm_P G σ H) (ha : a < σ.2.2) (hs : (mm_sh a).1 = ci) (hS0 : va_S (mm_A G) s.heap H locs)
    (kk : ∀ (H1 : Heap) (locs1 : List Loc), va_at G.2.1 vwCl (G.1 + a, .inr (ci, ((List.range N).map (fun j => mm_fv G ci j σ a)).set j v)) H1 → H1.size = H.size → (∀ q, q ≠ G.1 + a → H1[q]? = H[q]?) → va_S (mm_A G) s.heap H1 locs1 → W p l e R s m args below meth c H1 locs1 cells slots Q (F0 m (pc + 3) lsM rest)) : W p l e R s m args below meth c H locs cells slots Q (F0 m pc lsM (v :: .ref (G.1 + a) :: rest)) := by
  have ha' : a < 348 := by have := hP.2.2.2; omega
  have hat := hP.1 a ha
  rw [mm_Eobj hcl ha' hs] at hat
  have hK := hC.2.2.2.2.1
  have hts := hC.2.2.2.1
  have hap := va_apart (own := own) hts hcl.2.1 ty hcl.2.2.1 hcl.2.2.2 hK hcl.1
  obtain ⟨r, h1, cell, q1, q2, q3, q4⟩ := hat
  have hr : r = (C, T, N) := Option.some.inj (h1.symm.trans hcl.1)
  subst hr
  obtain ⟨hS, hfc, kC, hkC, hkind⟩ := hK.1 ci _ hcl.1
  obtain ⟨cf, kf, fi, f, hi, hsl⟩ := hS j hj
  have hlay := hts _ (hcl.2.1 _ (u_in_lay hj))
  unfold u_lay at hlay
  rw [if_neg (by rw [hfin]; decide)] at hlay
  have hst := (u_facts hfc hkC (u_lays hts hcl.2.1 hj) hi).1
  have h6 := u_store hfc hkC hkind hlay hi (hcl.2.2.1 j hj) hn hfit
  refine W.putK hC.1 hC.2.1 (f := f) ⟨hC.2.2.1, hts _ hw, ⟨_, _, _, hi⟩, hst⟩ (by rw [q2]; exact h6) q1 q3 (by rw [hsl]; exact k2_hasslot (q4 j hj)) rfl rfl hd fun H' e1 e2 e3 => ?_
  rw [hsl] at e1 ⊢
  refine kk H' _ ?_ e2 e3 (hS0.put e2 e3 (show mm_A G (G.1 + a) from Nat.le_add_right _ _))
  exact ⟨_, hcl.1, t_OB.to (V := updV (vp_V ((List.range N).map (fun j => mm_fv G ci j σ a))) j v) ⟨_, e1, q2, q3, t_set q4 hap hj v⟩ (fun i _ => vp_updV_set (by simpa using hj) v i)⟩
theorem mm_setfv {σ : mm_S} {a ci N j : Nat} {z : Int} (hr : mm_rf ci j = false) : ((List.range N).map (fun j => mm_fv G ci j σ a)).set j (.int (Int32.ofInt z)) = (List.range N).map (fun i => mm_fv G ci i (mm_set σ.1 a j z, σ.2) a) := by
  apply List.ext_getElem?
  intro i
  by_cases e : i = j
  · subst e
    by_cases hi : i < N
    · rw [List.getElem?_set_self (by simpa using hi)]
      simp [hi, mm_fv, hr, mm_set]
    · rw [List.getElem?_eq_none (by simp; omega), List.getElem?_eq_none (by simp; omega)]
  · rw [List.getElem?_set_ne (fun q => e q.symm)]
    by_cases hi : i < N
    · simp [hi, mm_fv, mm_set, e]
    · rw [List.getElem?_eq_none (by simp; omega), List.getElem?_eq_none (by simp; omega)]
end MMB
