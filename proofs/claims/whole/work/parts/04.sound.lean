/-! the transformers hold of the machine -/
theorem mm_shlen : mm_shL.length = 348 := by decide +kernel
theorem mm_shOk : ∀ a, a < 348 → (mm_sh a).2 ≤ 2909 ∧ (mm_sh a).1 < 104 ∧ ((mm_sh a).1 < 100 → (vwCl[(mm_sh a).1]?).map (fun q => q.2.2) = some (mm_sh a).2) := by decide +kernel
theorem mm_toI {z : Int} (h : mm_in z) : (Int32.ofInt z).toInt = z := Int32.toInt_ofInt_of_le (by have := h.1; omega) (by have := h.2; omega)
theorem mm_ofI (x : Int32) : mm_in x.toInt := ⟨by have := x.le_toInt; omega, by have := x.toInt_lt; omega⟩
theorem mm_clamp {z : Int} (h : mm_in z) : (Int32.ofInt z).toNatClampNeg = z.toNat := by
  rw [Int32.toNatClampNeg, mm_toI h]
theorem mm_lt {x y : Int} (hx : mm_in x) (hy : mm_in y) : Int32.ofInt x < Int32.ofInt y ↔ x < y := by rw [Int32.lt_iff_toInt_lt, mm_toI hx, mm_toI hy]
theorem mm_le {x y : Int} (hx : mm_in x) (hy : mm_in y) : Int32.ofInt x ≤ Int32.ofInt y ↔ x ≤ y := by rw [Int32.le_iff_toInt_le, mm_toI hx, mm_toI hy]
theorem mm_eq {x y : Int} (hx : mm_in x) (hy : mm_in y) : Int32.ofInt x = Int32.ofInt y ↔ x = y := by
  constructor
  · intro h
    rw [← mm_toI hx, ← mm_toI hy, h]
  · intro h
    rw [h]
theorem mm_in0 : mm_in 0 := ⟨by decide, by decide⟩
theorem mm_0 : (0 : Int32) = Int32.ofInt 0 := by decide
theorem mm_vpin {z : Int} {n : Nat} (hz : mm_in z) (h0 : 0 ≤ z) (h1 : z < n) : vp_in (Int32.ofInt z) n := by
  rw [vp_in_iff, mm_toI hz]
  exact ⟨h0, h1⟩
theorem mm_cat (G : mm_G) (v : mm_V) : (mm_v G v).category = 1 := by
  rcases v with z | (_ | a) <;> rfl
theorem mm_catsum (G : mm_G) (r : List mm_V) : ((r.map (mm_v G)).map fun v => v.category).sum = r.length := by
  induction r with
  | nil => rfl
  | cons v r ih => simp only [List.map_cons, List.sum_cons, List.length_cons, mm_cat, ih]; omega
/-! the locals -/
def mm_prf (G : mm_G) (i : Nat) (o : Option mm_V) : Option (Nat × Value) := match o with
  | some (.inr none) => none
  | some (.inr (some a)) => some (i, mm_v G (.inr (some a)))
  | some (.inl z) => some (i, mm_v G (.inl z))
  | none => none
def mm_pr (G : mm_G) (ls : List mm_V) : List (Nat × Value) := (List.range ls.length).filterMap (fun i => mm_prf G i ls[i]?)
theorem mm_pr_mem {G : mm_G} {ls : List mm_V} {q : Nat × Value} : q ∈ mm_pr G ls ↔ ∃ v, ls[q.1]? = some v ∧ v ≠ .inr none ∧ q.2 = mm_v G v := by
  unfold mm_pr
  rw [List.mem_filterMap]
  constructor
  · rintro ⟨i, hi, h⟩
    unfold mm_prf at h
    split at h
    · cases h
    · rename_i a ha
      cases h
      exact ⟨_, ha, by simp, rfl⟩
    · rename_i a ha
      cases h
      exact ⟨_, ha, by simp, rfl⟩
    · cases h
  · rintro ⟨v, h1, h2, h3⟩
    refine ⟨q.1, List.mem_range.mpr (List.getElem?_eq_some_iff.mp h1).1, ?_⟩
    rw [h1]
    obtain ⟨q1, q2⟩ := q
    rcases v with z | (_ | a)
    · rw [show q2 = mm_v G (.inl z) from h3]; rfl
    · exact absurd rfl h2
    · rw [show q2 = mm_v G (.inr (some a)) from h3]; rfl
theorem mm_Lhas {G : mm_G} {lsM : Array Slot} {ls : List mm_V} (h : mm_L G lsM ls) : lv_has lsM ls.length (mm_pr G ls) := by
  refine ⟨h.1, h.2.1, fun q hq => ?_⟩
  obtain ⟨v, h1, h2, h3⟩ := mm_pr_mem.mp hq
  rw [h3]
  exact h.2.2 _ _ h1 h2
theorem mm_Lof {G : mm_G} {ls' : Array Slot} {ls : List mm_V} {i : Nat} {v : mm_V} (hi : i < ls.length)
    (h : lv_has ls' ls.length ((i, mm_v G v) :: (mm_pr G ls).filter (fun q => !(q.1 == i) && !(q.1 + 1 == i && q.2.category == 2)))) : mm_L G ls' (ls.set i v) := by
  refine ⟨by rw [List.length_set]; exact h.1, h.2.1, fun j w hj hw => ?_⟩
  by_cases e : j = i
  · subst e
    rw [List.getElem?_set_self hi] at hj
    cases hj
    exact h.2.2 (j, mm_v G v) List.mem_cons_self
  · rw [List.getElem?_set_ne (fun q => e q.symm)] at hj
    refine h.2.2 (j, mm_v G w) (List.mem_cons_of_mem _ (List.mem_filter.mpr ⟨mm_pr_mem.mpr ⟨w, hj, hw, rfl⟩, ?_⟩))
    simp [e, mm_cat]
theorem mm_ivset {ls : List mm_V} {i : Nat} {v : mm_V} (h : ∀ w ∈ ls, mm_iv w) (hv : mm_iv v) : ∀ w ∈ ls.set i v, mm_iv w := by
  intro w hw
  rcases List.mem_or_eq_of_mem_set hw with h1 | h1
  · exact h w h1
  · rw [h1]; exact hv
theorem mm_ivc {st : List mm_V} {v : mm_V} (hv : mm_iv v) (h : ∀ w ∈ st, mm_iv w) : ∀ w ∈ v :: st, mm_iv w := by
  intro w hw
  rcases List.mem_cons.mp hw with h1 | h1
  · rw [h1]; exact hv
  · exact h w h1
theorem mm_iv1 {st : List mm_V} {v : mm_V} (h : ∀ w ∈ v :: st, mm_iv w) : mm_iv v := h v List.mem_cons_self
theorem mm_ivt {st : List mm_V} {v : mm_V} (h : ∀ w ∈ v :: st, mm_iv w) : ∀ w ∈ st, mm_iv w := fun w hw => h w (List.mem_cons_of_mem _ hw)
section MMS
variable {p : Program} {l : Launch} {e : Env} {R : Room} {s : State} {m : MethodId} {args : Array Value} {below : List Frame} {meth : Method} {c : Code} {G : mm_G} {k0 : Nat} {Q : State → Prop} {cc : ByteArray} {own : String} {pc : Nat} {K : mm_K}
theorem mm_ld_n (hC : mm_C p G s m args meth c cc own) {i : Nat} {k : Fin 4} (hd : decode cc pc = .ok (.iload_n k, 1)) (hi : (k : Nat) = i) (h : mm_imp K (mm_O p l e R s m args below meth c G k0 Q (pc + 1))) : mm_imp (i_ld i K) (mm_O p l e R s m args below meth c G k0 Q pc) := by
  intro ls st σ hk hl hs lsM H locs hL hml hP hS
  unfold i_ld at hk
  split at hk
  · rename_i z hz
    have hv : mm_iv (.inl z) := hl _ (List.mem_of_getElem? hz)
    exact lv_iload_n hC.1 hC.2.1 hd hi (hL.2.2 i _ hz (by simp)) (h _ _ _ hk hl (mm_ivc hv hs) lsM H locs hL hml hP hS)
  · exact hk.elim
theorem mm_ld (hC : mm_C p G s m args meth c cc own) {i : Nat} (hd : decode cc pc = .ok (.iload i, 2)) (h : mm_imp K (mm_O p l e R s m args below meth c G k0 Q (pc + 2))) : mm_imp (i_ld i K) (mm_O p l e R s m args below meth c G k0 Q pc) := by
  intro ls st σ hk hl hs lsM H locs hL hml hP hS
  unfold i_ld at hk
  split at hk
  · rename_i z hz
    have hv : mm_iv (.inl z) := hl _ (List.mem_of_getElem? hz)
    exact lv_iload hC.1 hC.2.1 hd (hL.2.2 i _ hz (by simp)) (h _ _ _ hk hl (mm_ivc hv hs) lsM H locs hL hml hP hS)
  · exact hk.elim
theorem mm_la_n (hC : mm_C p G s m args meth c cc own) {i : Nat} {k : Fin 4} (hd : decode cc pc = .ok (.aload_n k, 1)) (hi : (k : Nat) = i) (h : mm_imp K (mm_O p l e R s m args below meth c G k0 Q (pc + 1))) : mm_imp (i_la i K) (mm_O p l e R s m args below meth c G k0 Q pc) := by
  intro ls st σ hk hl hs lsM H locs hL hml hP hS
  unfold i_la at hk
  split at hk
  · rename_i z hz
    exact lv_aload_n hC.1 hC.2.1 hd hi (hL.2.2 i _ hz (by simp)) (h _ _ _ hk hl (mm_ivc (hl _ (List.mem_of_getElem? hz)) hs) lsM H locs hL hml hP hS)
  · exact hk.elim
theorem mm_la (hC : mm_C p G s m args meth c cc own) {i : Nat} (hd : decode cc pc = .ok (.aload i, 2)) (h : mm_imp K (mm_O p l e R s m args below meth c G k0 Q (pc + 2))) : mm_imp (i_la i K) (mm_O p l e R s m args below meth c G k0 Q pc) := by
  intro ls st σ hk hl hs lsM H locs hL hml hP hS
  unfold i_la at hk
  split at hk
  · rename_i z hz
    exact lv_aload hC.1 hC.2.1 hd (hL.2.2 i _ hz (by simp)) (h _ _ _ hk hl (mm_ivc (hl _ (List.mem_of_getElem? hz)) hs) lsM H locs hL hml hP hS)
  · exact hk.elim
theorem mm_st_n (hC : mm_C p G s m args meth c cc own) {i : Nat} {k : Fin 4} (hd : decode cc pc = .ok (.istore_n k, 1)) (hi : (k : Nat) = i) (h : mm_imp K (mm_O p l e R s m args below meth c G k0 Q (pc + 1))) : mm_imp (i_st i K) (mm_O p l e R s m args below meth c G k0 Q pc) := by
  intro ls st σ hk hl hs lsM H locs hL hml hP hS
  unfold i_st at hk
  split at hk
  · rename_i z r
    exact lv_istore_n hC.1 hC.2.1 hd hi (mm_Lhas hL) hk.1 rfl (fun ls' h' => h _ _ _ hk.2 (mm_ivset hl (mm_iv1 hs)) (mm_ivt hs) ls' H locs (mm_Lof (v := .inl z) hk.1 h') (by rw [List.length_set]; exact hml) hP hS)
  · exact hk.elim
theorem mm_st (hC : mm_C p G s m args meth c cc own) {i : Nat} (hd : decode cc pc = .ok (.istore i, 2)) (h : mm_imp K (mm_O p l e R s m args below meth c G k0 Q (pc + 2))) : mm_imp (i_st i K) (mm_O p l e R s m args below meth c G k0 Q pc) := by
  intro ls st σ hk hl hs lsM H locs hL hml hP hS
  unfold i_st at hk
  split at hk
  · rename_i z r
    exact lv_istore hC.1 hC.2.1 hd (mm_Lhas hL) hk.1 rfl (fun ls' h' => h _ _ _ hk.2 (mm_ivset hl (mm_iv1 hs)) (mm_ivt hs) ls' H locs (mm_Lof (v := .inl z) hk.1 h') (by rw [List.length_set]; exact hml) hP hS)
  · exact hk.elim
theorem mm_sa_n (hC : mm_C p G s m args meth c cc own) {i : Nat} {k : Fin 4} (hd : decode cc pc = .ok (.astore_n k, 1)) (hi : (k : Nat) = i) (h : mm_imp K (mm_O p l e R s m args below meth c G k0 Q (pc + 1))) : mm_imp (i_sa i K) (mm_O p l e R s m args below meth c G k0 Q pc) := by
  intro ls st σ hk hl hs lsM H locs hL hml hP hS
  unfold i_sa at hk
  split at hk
  · rename_i z r
    exact lv_astore_n hC.1 hC.2.1 hd hi (mm_Lhas hL) hk.1 rfl (fun ls' h' => h _ _ _ hk.2 (mm_ivset hl (mm_iv1 hs)) (mm_ivt hs) ls' H locs (mm_Lof (v := .inr (some z)) hk.1 h') (by rw [List.length_set]; exact hml) hP hS)
  · exact hk.elim
theorem mm_sa (hC : mm_C p G s m args meth c cc own) {i : Nat} (hd : decode cc pc = .ok (.astore i, 2)) (h : mm_imp K (mm_O p l e R s m args below meth c G k0 Q (pc + 2))) : mm_imp (i_sa i K) (mm_O p l e R s m args below meth c G k0 Q pc) := by
  intro ls st σ hk hl hs lsM H locs hL hml hP hS
  unfold i_sa at hk
  split at hk
  · rename_i z r
    exact lv_astore hC.1 hC.2.1 hd (mm_Lhas hL) hk.1 rfl (fun ls' h' => h _ _ _ hk.2 (mm_ivset hl (mm_iv1 hs)) (mm_ivt hs) ls' H locs (mm_Lof (v := .inr (some z)) hk.1 h') (by rw [List.length_set]; exact hml) hP hS)
  · exact hk.elim
theorem mm_ic (hC : mm_C p G s m args meth c cc own) {n : Int} (hd : decode cc pc = .ok (.iconst n, 1)) (hn : mm_in n) (h : mm_imp K (mm_O p l e R s m args below meth c G k0 Q (pc + 1))) : mm_imp (i_c n K) (mm_O p l e R s m args below meth c G k0 Q pc) := by
  intro ls st σ hk hl hs lsM H locs hL hml hP hS
  exact lv_iconst hC.1 hC.2.1 hd rfl (h _ _ _ hk hl (mm_ivc (v := .inl n) hn hs) lsM H locs hL hml hP hS)
theorem mm_bp (hC : mm_C p G s m args meth c cc own) {n : Int} (hd : decode cc pc = .ok (.bipush n, 2)) (hn : mm_in n ∧ (Int8.ofInt n).toInt32 = Int32.ofInt n) (h : mm_imp K (mm_O p l e R s m args below meth c G k0 Q (pc + 2))) : mm_imp (i_c n K) (mm_O p l e R s m args below meth c G k0 Q pc) := by
  intro ls st σ hk hl hs lsM H locs hL hml hP hS
  exact lv_bipush hC.1 hC.2.1 hd hn.2 (h _ _ _ hk hl (mm_ivc (v := .inl n) hn.1 hs) lsM H locs hL hml hP hS)
theorem mm_sp (hC : mm_C p G s m args meth c cc own) {n : Int} (hd : decode cc pc = .ok (.sipush n, 3)) (hn : mm_in n ∧ (Int16.ofInt n).toInt32 = Int32.ofInt n) (h : mm_imp K (mm_O p l e R s m args below meth c G k0 Q (pc + 3))) : mm_imp (i_c n K) (mm_O p l e R s m args below meth c G k0 Q pc) := by
  intro ls st σ hk hl hs lsM H locs hL hml hP hS
  exact lv_sipush hC.1 hC.2.1 hd hn.2 (h _ _ _ hk hl (mm_ivc (v := .inl n) hn.1 hs) lsM H locs hL hml hP hS)
theorem mm_ldc (hC : mm_C p G s m args meth c cc own) {n : Int} {idx : Nat} (hd : decode cc pc = .ok (.ldc idx, 2)) (hn : mm_in n) (hw : Cond.constant own idx (Int32.ofInt n) ∈ lw_gd) (h : mm_imp K (mm_O p l e R s m args below meth c G k0 Q (pc + 2))) : mm_imp (i_c n K) (mm_O p l e R s m args below meth c G k0 Q pc) := by
  intro ls st σ hk hl hs lsM H locs hL hml hP hS
  exact lv_ldc hC.1 hC.2.1 hC.2.2.1 (hC.2.2.2.1 _ hw) hd (h _ _ _ hk hl (mm_ivc (v := .inl n) hn hs) lsM H locs hL hml hP hS)
theorem mm_inc (hC : mm_C p G s m args meth c cc own) {i : Nat} {d : Int} (hd : decode cc pc = .ok (.iinc i d, 3)) (h : mm_imp K (mm_O p l e R s m args below meth c G k0 Q (pc + 3))) : mm_imp (i_inc i d K) (mm_O p l e R s m args below meth c G k0 Q pc) := by
  intro ls st σ hk hl hs lsM H locs hL hml hP hS
  unfold i_inc at hk
  split at hk
  · rename_i z hz
    have hi : i < ls.length := (List.getElem?_eq_some_iff.mp hz).1
    obtain ⟨q, hq⟩ := List.getElem?_of_mem (mm_pr_mem.mpr ⟨_, hz, by simp, rfl⟩ : (i, mm_v G (.inl z)) ∈ mm_pr G ls)
    exact lv_iinc (v := Int32.ofInt (z + d)) hC.1 hC.2.1 hd (mm_Lhas hL) hq (Int32.ofInt_add z d).symm hi rfl (fun ls' h' => h _ _ _ hk.2 (mm_ivset hl hk.1) hs ls' H locs (mm_Lof (v := .inl (z + d)) hi h') (by rw [List.length_set]; exact hml) hP hS)
  · exact hk.elim
theorem mm_add (hC : mm_C p G s m args meth c cc own) (hd : decode cc pc = .ok (.iadd, 1)) (h : mm_imp K (mm_O p l e R s m args below meth c G k0 Q (pc + 1))) : mm_imp (i_add K) (mm_O p l e R s m args below meth c G k0 Q pc) := by
  intro ls st σ hk hl hs lsM H locs hL hml hP hS
  unfold i_add at hk
  split at hk
  · rename_i y x r
    exact lv_iadd hC.1 hC.2.1 hd (by rw [← Int32.ofInt_add]; exact h _ _ _ hk.2 hl (mm_ivc (v := .inl (x + y)) hk.1 (mm_ivt (mm_ivt hs))) lsM H locs hL hml hP hS)
  · exact hk.elim
theorem mm_sub (hC : mm_C p G s m args meth c cc own) (hd : decode cc pc = .ok (.isub, 1)) (h : mm_imp K (mm_O p l e R s m args below meth c G k0 Q (pc + 1))) : mm_imp (i_sub K) (mm_O p l e R s m args below meth c G k0 Q pc) := by
  intro ls st σ hk hl hs lsM H locs hL hml hP hS
  unfold i_sub at hk
  split at hk
  · rename_i y x r
    exact lv_isub hC.1 hC.2.1 hd (by rw [← Int32.ofInt_sub]; exact h _ _ _ hk.2 hl (mm_ivc (v := .inl (x - y)) hk.1 (mm_ivt (mm_ivt hs))) lsM H locs hL hml hP hS)
  · exact hk.elim
theorem mm_mul (hC : mm_C p G s m args meth c cc own) (hd : decode cc pc = .ok (.imul, 1)) (h : mm_imp K (mm_O p l e R s m args below meth c G k0 Q (pc + 1))) : mm_imp (i_mul K) (mm_O p l e R s m args below meth c G k0 Q pc) := by
  intro ls st σ hk hl hs lsM H locs hL hml hP hS
  unfold i_mul at hk
  split at hk
  · rename_i y x r
    exact lv_imul hC.1 hC.2.1 hd (by rw [← Int32.ofInt_mul]; exact h _ _ _ hk.2 hl (mm_ivc (v := .inl (x * y)) hk.1 (mm_ivt (mm_ivt hs))) lsM H locs hL hml hP hS)
  · exact hk.elim
theorem mm_divT {x y : Int} (hx : mm_in x) (hy : mm_in y) (h : 0 < y) : Int32.ofInt x / Int32.ofInt y = Int32.ofInt (x.tdiv y) ∧ mm_in (x.tdiv y) := by
  have hb : mm_in (x.tdiv y) := by
    have h1 := Int.natAbs_tdiv_le_natAbs x y
    have h2 := hx.1
    have h3 := hx.2
    rcases Int.le_total 0 x with q | q
    · have := Int.tdiv_nonneg q (Int.le_of_lt h)
      constructor <;> omega
    · have h5 := Int.tdiv_nonneg (a := -x) (b := y) (by omega) (Int.le_of_lt h)
      rw [Int.neg_tdiv] at h5
      constructor <;> omega
  refine ⟨?_, hb⟩
  exact (Int32.ofInt_tdiv (by rw [show Int32.minValue.toInt = -2147483648 by decide]; exact hx.1) (by rw [show Int32.maxValue.toInt = 2147483647 by decide]; have := hx.2; omega) (by rw [show Int32.minValue.toInt = -2147483648 by decide]; exact hy.1) (by rw [show Int32.maxValue.toInt = 2147483647 by decide]; have := hy.2; omega)).symm
theorem mm_div (hC : mm_C p G s m args meth c cc own) (hd : decode cc pc = .ok (.idiv, 1)) (h : mm_imp K (mm_O p l e R s m args below meth c G k0 Q (pc + 1))) : mm_imp (i_div K) (mm_O p l e R s m args below meth c G k0 Q pc) := by
  intro ls st σ hk hl hs lsM H locs hL hml hP hS
  unfold i_div at hk
  split at hk
  · rename_i y x r
    have hy : mm_in y := mm_iv1 hs
    have hx : mm_in x := mm_iv1 (mm_ivt hs)
    have hdv := mm_divT hx hy hk.1.2
    have hxy : x.tdiv y = x / y := Int.tdiv_eq_ediv_of_nonneg hk.1.1
    rw [hxy] at hdv
    refine lv_idiv hC.1 hC.2.1 hd (fun q => ?_) (by rw [hdv.1]; exact h _ _ _ hk.2 hl (mm_ivc (v := .inl (x / y)) hdv.2 (mm_ivt (mm_ivt hs))) lsM H locs hL hml hP hS)
    rw [mm_0, mm_eq hy mm_in0] at q
    have := hk.1.2
    omega
  · exact hk.elim
theorem mm_remT' {x y : Int} (hx : mm_in x) (hy : mm_in y) (h : 0 < y) : Int32.ofInt x - Int32.ofInt x / Int32.ofInt y * Int32.ofInt y = Int32.ofInt (x.tmod y) ∧ mm_in (x.tmod y) := by
  have hdv := mm_divT hx hy h
  refine ⟨?_, ?_⟩
  · rw [hdv.1, ← Int32.ofInt_mul, ← Int32.ofInt_sub]
    congr 1
    rw [Int.tmod_def, Int.mul_comm]
  · have h1 := Int.tmod_lt_of_pos x h
    have h2 := hx.1
    have h3 := hy.2
    rcases Int.le_total 0 x with q | q
    · have := Int.tmod_nonneg y q
      constructor <;> omega
    · have h4 : -y < x.tmod y := by
        have := Int.tmod_lt_of_pos (-x) h
        rw [Int.neg_tmod] at this
        omega
      constructor <;> omega
theorem mm_remt (hC : mm_C p G s m args meth c cc own) (hd : decode cc pc = .ok (.irem, 1)) (h : mm_imp K (mm_O p l e R s m args below meth c G k0 Q (pc + 1))) : mm_imp (i_remT K) (mm_O p l e R s m args below meth c G k0 Q pc) := by
  intro ls st σ hk hl hs lsM H locs hL hml hP hS
  unfold i_remT at hk
  split at hk
  · rename_i y x r
    have hy : mm_in y := mm_iv1 hs
    have hx : mm_in x := mm_iv1 (mm_ivt hs)
    have hdv := mm_remT' hx hy hk.1
    refine lv_irem hC.1 hC.2.1 hd (fun q => ?_) (by rw [hdv.1]; exact h _ _ _ hk.2 hl (mm_ivc (v := .inl (x.tmod y)) hdv.2 (mm_ivt (mm_ivt hs))) lsM H locs hL hml hP hS)
    rw [mm_0, mm_eq hy mm_in0] at q
    have := hk.1
    omega
  · exact hk.elim
theorem mm_rem (hC : mm_C p G s m args meth c cc own) (hd : decode cc pc = .ok (.irem, 1)) (h : mm_imp K (mm_O p l e R s m args below meth c G k0 Q (pc + 1))) : mm_imp (i_rem K) (mm_O p l e R s m args below meth c G k0 Q pc) := by
  intro ls st σ hk
  refine mm_remt hC hd h ls st σ ?_
  unfold i_rem at hk
  unfold i_remT
  split at hk
  · rename_i y x r
    rw [← Int.tmod_eq_emod_of_nonneg hk.1.1] at hk
    exact ⟨hk.1.2, hk.2⟩
  · exact hk.elim
theorem mm_xor (hC : mm_C p G s m args meth c cc own) (hd : decode cc pc = .ok (.ixor, 1)) (h : mm_imp K (mm_O p l e R s m args below meth c G k0 Q (pc + 1))) : mm_imp (i_xor K) (mm_O p l e R s m args below meth c G k0 Q pc) := by
  intro ls st σ hk hl hs lsM H locs hL hml hP hS
  unfold i_xor at hk
  split at hk
  · rename_i y x r
    have hy : mm_in y := mm_iv1 hs
    have hx : mm_in x := mm_iv1 (mm_ivt hs)
    obtain ⟨a, rfl⟩ := Int.eq_ofNat_of_zero_le hk.1.1
    obtain ⟨b, rfl⟩ := Int.eq_ofNat_of_zero_le hk.1.2
    have ha : a < 2 ^ 31 := by have := hx.2; omega
    have hb : b < 2 ^ 31 := by have := hy.2; omega
    have hr : a ^^^ b < 2 ^ 31 := Nat.xor_lt_two_pow ha hb
    have hxx : Int32.ofInt (a : Int) ^^^ Int32.ofInt (b : Int) = Int32.ofInt ((a ^^^ b : Nat) : Int) := by
      rw [Int32.ofInt_eq_ofNat, Int32.ofInt_eq_ofNat, Int32.ofInt_eq_ofNat]
      apply Int32.toBitVec.inj
      simp [BitVec.ofNat_xor]
    refine lv_ixor hC.1 hC.2.1 hd (by rw [hxx]; exact h _ _ _ hk.2 hl (mm_ivc (v := .inl ((a ^^^ b : Nat) : Int)) ⟨by omega, by omega⟩ (mm_ivt (mm_ivt hs))) lsM H locs hL hml hP hS)
  · exact hk.elim
theorem mm_dup (hC : mm_C p G s m args meth c cc own) (hd : decode cc pc = .ok (.dup, 1)) (h : mm_imp K (mm_O p l e R s m args below meth c G k0 Q (pc + 1))) : mm_imp (i_dup K) (mm_O p l e R s m args below meth c G k0 Q pc) := by
  intro ls st σ hk hl hs lsM H locs hL hml hP hS
  unfold i_dup at hk
  split at hk
  · rename_i v r
    exact lv_dup hC.1 hC.2.1 hd (mm_cat G v) (h _ _ _ hk hl (mm_ivc (mm_iv1 hs) hs) lsM H locs hL hml hP hS)
  · exact hk.elim
theorem mm_goto (hC : mm_C p G s m args meth c cc own) {off : Int} {t : Nat} (hd : decode cc pc = .ok (.goto off, 3)) (ht : (pc : Int) + off = (t : Int)) (h : mm_imp K (mm_O p l e R s m args below meth c G k0 Q t)) : mm_imp K (mm_O p l e R s m args below meth c G k0 Q pc) := by
  intro ls st σ hk hl hs lsM H locs hL hml hP hS
  exact lv_goto hC.1 hC.2.1 hd ht (h _ _ _ hk hl hs lsM H locs hL hml hP hS)
end MMS
