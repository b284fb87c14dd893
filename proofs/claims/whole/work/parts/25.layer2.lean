/-! more of the layer: the sign of a xor, small shifts, the drawing of a number -/
theorem wd_723 : Cond.constantLong "PieceSurfaces$Dice" 7 (lN 1103515245) ∈ lw_gd := by
  rw [show lN 1103515245 = (1103515245 : Int64) by decide]
  exact mm_gd (in_t3 (List.mem_of_getElem? (i := 179) rfl)) rfl
theorem wd_724 : Cond.constantLong "PieceSurfaces$Dice" 15 (lN 12345) ∈ lw_gd := by
  rw [show lN 12345 = (12345 : Int64) by decide]
  exact mm_gd (in_t3 (List.mem_of_getElem? (i := 180) rfl)) rfl
theorem wd_725 : Cond.constantLong "PieceSurfaces$Dice" 17 (lN 2147483648) ∈ lw_gd := by
  rw [show lN 2147483648 = (2147483648 : Int64) by decide]
  exact mm_gd (in_t3 (List.mem_of_getElem? (i := 181) rfl)) rfl
theorem wd_1116 : Cond.constantLong "PieceSurfacesModel" 233 (lN 1103515245) ∈ lw_gd := by
  rw [show lN 1103515245 = (1103515245 : Int64) by decide]
  exact mm_gd (in_t5 (List.mem_of_getElem? (i := 92) rfl)) rfl
theorem wd_1117 : Cond.constantLong "PieceSurfacesModel" 235 (lN 12345) ∈ lw_gd := by
  rw [show lN 12345 = (12345 : Int64) by decide]
  exact mm_gd (in_t5 (List.mem_of_getElem? (i := 93) rfl)) rfl
theorem wd_1118 : Cond.constantLong "PieceSurfacesModel" 237 (lN 2147483648) ∈ lw_gd := by
  rw [show lN 2147483648 = (2147483648 : Int64) by decide]
  exact mm_gd (in_t5 (List.mem_of_getElem? (i := 94) rfl)) rfl
def lcg (x : Int) : Int := (1103515245 * x + 12345) % 2147483648
def i_xorg (K : mm_K) : mm_K := fun ls st σ => match st with
  | .inl y :: .inl x :: r => ∀ z : Int, mm_in z → (0 ≤ z ↔ (0 ≤ x ↔ 0 ≤ y)) → K ls (.inl z :: r) σ
  | _ => False
def i_shl (K : mm_K) : mm_K := fun ls st σ => match st with
  | .inl y :: .inl x :: r => (x = 1 ∧ (y = 0 ∨ y = 1)) ∧ K ls (.inl (if y = 0 then 1 else 2) :: r) σ
  | _ => False
def i_shr (K : mm_K) : mm_K := fun ls st σ => match st with
  | .inl y :: .inl x :: r => (0 ≤ x ∧ x ≤ 3 ∧ (y = 0 ∨ y = 1)) ∧ K ls (.inl (if y = 0 then x else x / 2) :: r) σ
  | _ => False
def i_ior (K : mm_K) : mm_K := fun ls st σ => match st with
  | .inl y :: .inl x :: r => (0 ≤ x ∧ x ≤ 3 ∧ (y = 1 ∨ y = 2)) ∧ K ls (.inl (if y = 1 then (if x % 2 = 0 then x + 1 else x) else (if x < 2 then x + 2 else x)) :: r) σ
  | _ => False
def i_and1 (K : mm_K) : mm_K := fun ls st σ => match st with
  | .inl y :: .inl x :: r => (0 ≤ x ∧ x ≤ 3 ∧ y = 1) ∧ K ls (.inl (x % 2) :: r) σ
  | _ => False
def i_and31 (K : mm_K) : mm_K := fun ls st σ => match st with
  | .inl y :: .inl _ :: r => y = 31 ∧ ∀ j : Nat, j < 32 → K ls (.inl (j : Int) :: r) σ
  | _ => False
def i_lcg1 (K : mm_K) : mm_K := fun ls st σ => match ls[(0 : Nat)]? with
  | some (.inr (some a)) => (a < σ.2.2 ∧ (mm_sh a).1 = 2 ∧ 0 ≤ σ.1 a 0) ∧ K ls (.inl (lcg (σ.1 a 0)) :: st) σ
  | _ => False
def i_lcg2 (K : mm_K) : mm_K := fun ls st σ => match st with
  | .inl x :: r => match ls with
    | [.inr (some a), v, .inr none, .inr none] => 0 ≤ x ∧ K [.inr (some a), v, .inr none, .inr none] (.inl (lcg x) :: .inr (some a) :: r) σ
    | _ => False
  | _ => False
theorem lcg_b (x : Int) : 0 ≤ lcg x ∧ lcg x < 2147483648 := by unfold lcg; omega
section MML
variable {p : Program} {l : Launch} {e : Env} {R : Room} {s : State} {m : MethodId} {args : Array Value} {below : List Frame} {meth : Method} {c : Code} {G : mm_G} {k0 : Nat} {Q : State → Prop} {cc : ByteArray} {own : String} {pc : Nat} {K : mm_K}
theorem mm_xorg (hC : mm_C p G s m args meth c cc own) (hd : decode cc pc = .ok (.ixor, 1)) (h : mm_imp K (mm_O p l e R s m args below meth c G k0 Q (pc + 1))) : mm_imp (i_xorg K) (mm_O p l e R s m args below meth c G k0 Q pc) := by
  intro ls st σ hk hl hs lsM H locs hL hml hP hS
  unfold i_xorg at hk
  split at hk
  · rename_i y x r
    have hy : mm_in y := mm_iv1 hs
    have hx : mm_in x := mm_iv1 (mm_ivt hs)
    have sg : ∀ w : Int32, 0 ≤ w.toInt ↔ w.toBitVec.msb = false := by
      intro w
      have h1 : w.toBitVec.msb = decide (w.toBitVec.toInt < 0) := BitVec.msb_eq_toInt
      rw [h1]
      show 0 ≤ w.toBitVec.toInt ↔ _
      rw [decide_eq_false_iff_not]
      omega
    have hz : 0 ≤ (Int32.ofInt x ^^^ Int32.ofInt y).toInt ↔ (0 ≤ x ↔ 0 ≤ y) := by
      rw [sg]
      have h2 := sg (Int32.ofInt x)
      have h3 := sg (Int32.ofInt y)
      rw [mm_toI hx] at h2
      rw [mm_toI hy] at h3
      rw [h2, h3, Int32.toBitVec_xor, BitVec.msb_xor]
      cases (Int32.ofInt x).toBitVec.msb <;> cases (Int32.ofInt y).toBitVec.msb <;> decide
    refine lv_ixor hC.1 hC.2.1 hd ?_
    have := h _ _ _ (hk _ (mm_ofI _) hz) hl (mm_ivc (v := .inl (Int32.ofInt x ^^^ Int32.ofInt y).toInt) (mm_ofI _) (mm_ivt (mm_ivt hs))) lsM H locs hL hml hP hS
    rw [List.map_cons] at this
    rw [show mm_v G (.inl (Int32.ofInt x ^^^ Int32.ofInt y).toInt) = .int (Int32.ofInt x ^^^ Int32.ofInt y) by show Value.int (Int32.ofInt _) = _; rw [Int32.ofInt_toInt]] at this
    exact this
  · exact hk.elim
theorem mm_shl (hC : mm_C p G s m args meth c cc own) (hd : decode cc pc = .ok (.ishl, 1)) (h : mm_imp K (mm_O p l e R s m args below meth c G k0 Q (pc + 1))) : mm_imp (i_shl K) (mm_O p l e R s m args below meth c G k0 Q pc) := by
  intro ls st σ hk hl hs lsM H locs hL hml hP hS
  unfold i_shl at hk
  split at hk
  · rename_i y x r
    obtain ⟨⟨rfl, h2⟩, hk⟩ := hk
    have hv : Int32.ofInt 1 <<< (Int32.ofInt y &&& 31) = Int32.ofInt (if y = 0 then 1 else 2) ∧ mm_in (if y = 0 then 1 else 2) := by
      rcases h2 with rfl | rfl
      · exact ⟨by decide, by decide, by decide⟩
      · exact ⟨by decide, by decide, by decide⟩
    exact lv_ishl hC.1 hC.2.1 hd (by rw [hv.1]; exact h _ _ _ hk hl (mm_ivc (v := .inl (if y = 0 then 1 else 2)) hv.2 (mm_ivt (mm_ivt hs))) lsM H locs hL hml hP hS)
  · exact hk.elim
theorem mm_shr (hC : mm_C p G s m args meth c cc own) (hd : decode cc pc = .ok (.ishr, 1)) (h : mm_imp K (mm_O p l e R s m args below meth c G k0 Q (pc + 1))) : mm_imp (i_shr K) (mm_O p l e R s m args below meth c G k0 Q pc) := by
  intro ls st σ hk hl hs lsM H locs hL hml hP hS
  unfold i_shr at hk
  split at hk
  · rename_i y x r
    obtain ⟨⟨h1, h2, h3⟩, hk⟩ := hk
    have hv : Int32.ofInt x >>> (Int32.ofInt y &&& 31) = Int32.ofInt (if y = 0 then x else x / 2) ∧ mm_in (if y = 0 then x else x / 2) := by
      rcases (show x = 0 ∨ x = 1 ∨ x = 2 ∨ x = 3 by omega) with rfl | rfl | rfl | rfl <;> rcases h3 with rfl | rfl <;> exact ⟨by decide, by decide, by decide⟩
    exact lv_ishr hC.1 hC.2.1 hd (by rw [hv.1]; exact h _ _ _ hk hl (mm_ivc (v := .inl (if y = 0 then x else x / 2)) hv.2 (mm_ivt (mm_ivt hs))) lsM H locs hL hml hP hS)
  · exact hk.elim
theorem mm_ior (hC : mm_C p G s m args meth c cc own) (hd : decode cc pc = .ok (.ior, 1)) (h : mm_imp K (mm_O p l e R s m args below meth c G k0 Q (pc + 1))) : mm_imp (i_ior K) (mm_O p l e R s m args below meth c G k0 Q pc) := by
  intro ls st σ hk hl hs lsM H locs hL hml hP hS
  unfold i_ior at hk
  split at hk
  · rename_i y x r
    obtain ⟨⟨h1, h2, h3⟩, hk⟩ := hk
    have hv : Int32.ofInt x ||| Int32.ofInt y = Int32.ofInt (if y = 1 then (if x % 2 = 0 then x + 1 else x) else (if x < 2 then x + 2 else x)) ∧ mm_in (if y = 1 then (if x % 2 = 0 then x + 1 else x) else (if x < 2 then x + 2 else x)) := by
      rcases (show x = 0 ∨ x = 1 ∨ x = 2 ∨ x = 3 by omega) with rfl | rfl | rfl | rfl <;> rcases h3 with rfl | rfl <;> exact ⟨by decide, by decide, by decide⟩
    exact lv_ior hC.1 hC.2.1 hd (by rw [hv.1]; exact h _ _ _ hk hl (mm_ivc (v := .inl _) hv.2 (mm_ivt (mm_ivt hs))) lsM H locs hL hml hP hS)
  · exact hk.elim
theorem mm_and1 (hC : mm_C p G s m args meth c cc own) (hd : decode cc pc = .ok (.iand, 1)) (h : mm_imp K (mm_O p l e R s m args below meth c G k0 Q (pc + 1))) : mm_imp (i_and1 K) (mm_O p l e R s m args below meth c G k0 Q pc) := by
  intro ls st σ hk hl hs lsM H locs hL hml hP hS
  unfold i_and1 at hk
  split at hk
  · rename_i y x r
    obtain ⟨⟨h1, h2, rfl⟩, hk⟩ := hk
    have hv : Int32.ofInt x &&& Int32.ofInt 1 = Int32.ofInt (x % 2) ∧ mm_in (x % 2) := by
      rcases (show x = 0 ∨ x = 1 ∨ x = 2 ∨ x = 3 by omega) with rfl | rfl | rfl | rfl <;> exact ⟨by decide, by decide, by decide⟩
    exact lv_iand hC.1 hC.2.1 hd (by rw [hv.1]; exact h _ _ _ hk hl (mm_ivc (v := .inl (x % 2)) hv.2 (mm_ivt (mm_ivt hs))) lsM H locs hL hml hP hS)
  · exact hk.elim
theorem mm_and31 (hC : mm_C p G s m args meth c cc own) (hd : decode cc pc = .ok (.iand, 1)) (h : mm_imp K (mm_O p l e R s m args below meth c G k0 Q (pc + 1))) : mm_imp (i_and31 K) (mm_O p l e R s m args below meth c G k0 Q pc) := by
  intro ls st σ hk hl hs lsM H locs hL hml hP hS
  unfold i_and31 at hk
  split at hk
  · rename_i y x r
    obtain ⟨rfl, hk⟩ := hk
    obtain ⟨j, hj, he⟩ := pk_andE (Int32.ofInt x) (m := Int32.ofInt 31) 5 (by decide)
    refine lv_iand hC.1 hC.2.1 hd ?_
    rw [he]
    have hjj : nI j = Int32.ofInt (j : Int) := (Int32.ofInt_eq_ofNat).symm
    rw [hjj]
    exact h _ _ _ (hk j hj) hl (mm_ivc (v := .inl (j : Int)) ⟨by omega, by omega⟩ (mm_ivt (mm_ivt hs))) lsM H locs hL hml hP hS
  · exact hk.elim
theorem lcg_N {n : Nat} (h : n < 2147483648) : lN (1103515245 * n + 12345) - lN (1103515245 * n + 12345) / lN 2147483648 * lN 2147483648 = lN ((1103515245 * n + 12345) % 2147483648) ∧ (lN ((1103515245 * n + 12345) % 2147483648)).toInt32 = Int32.ofInt (lcg n) := by
  refine ⟨pk_lRem (by omega) (by decide) (by decide), ?_⟩
  rw [lN_i]
  show Int32.ofNat _ = _
  rw [← Int32.ofInt_eq_ofNat]
  congr 1
theorem mm_lcg1 (hC : mm_C p G s m args meth c cX2_below yX2_below.cls) (h : mm_imp K (mm_O p l e R s m args below meth c G k0 Q 19)) : mm_imp (i_lcg1 K) (mm_O p l e R s m args below meth c G k0 Q 1) := by
  intro ls st σ hk hl hs lsM H locs hL hml hP hS
  unfold i_lcg1 at hk
  split at hk
  · rename_i a hz
    obtain ⟨⟨h1, h2, h3⟩, hk⟩ := hk
    have hts := hC.2.2.2.1
    have ha : a < 348 := by have := hP.1.2.2.2; omega
    have hat := hP.1.1 a h1
    rw [mm_Eobj cl_2 ha h2] at hat
    have hi := hP.1.2.1 a 0
    obtain ⟨n, hn⟩ := Int.eq_ofNat_of_zero_le h3
    have hn2 : n < 2147483648 := by have := hi.2; omega
    refine lv_ldc2 hC.1 hC.2.1 hC.2.2.1 (hts _ wd_723) dX2_below_1 ?_
    refine lv_aload_n (x := mm_ad G a) hC.1 hC.2.1 dX2_below_4 rfl (hL.2.2 0 _ hz (by simp)) ?_
    rw [mm_adw ha]
    refine va_get (D := G.2.1) (ci := 2) (v := .int (Int32.ofInt (σ.1 a 0))) (C := RX2) (T := TX2) (N := 1) hC.1 hC.2.1 hts cl_2.2.1 hC.2.2.1 hC.2.2.2.2.1 (mm_one hat) 0 rfl cl_2.1 0 (by decide) (hts _ wd_301) (fun _ h => h) (by rw [mm_fvN (by decide)]; simp [mm_fv, mm_rf]) dX2_below_5 ?_
    rw [hn] at hk ⊢
    rw [Int32.ofInt_eq_ofNat]
    refine lv_i2l (v := lN n) hC.1 hC.2.1 dX2_below_8 (nI_l hn2) ?_
    refine lv_lmul hC.1 hC.2.1 dX2_below_9 ?_
    rw [lN_mul]
    refine lv_ldc2 hC.1 hC.2.1 hC.2.2.1 (hts _ wd_724) dX2_below_10 ?_
    refine lv_ladd hC.1 hC.2.1 dX2_below_13 ?_
    rw [lN_add]
    refine lv_ldc2 hC.1 hC.2.1 hC.2.2.1 (hts _ wd_725) dX2_below_14 ?_
    refine lv_lrem hC.1 hC.2.1 dX2_below_17 (by decide) ?_
    rw [(lcg_N hn2).1]
    refine lv_l2i hC.1 hC.2.1 dX2_below_18 (lcg_N hn2).2 ?_
    have hb := lcg_b n
    exact h _ _ _ hk hl (mm_ivc (v := .inl (lcg n)) ⟨by omega, by omega⟩ hs) lsM H locs hL hml hP hS
  · exact hk.elim
theorem mm_lcg2 (hC : mm_C p G s m args meth c cX12_draw yX12_draw.cls) (h : mm_imp K (mm_O p l e R s m args below meth c G k0 Q 21)) : mm_imp (i_lcg2 K) (mm_O p l e R s m args below meth c G k0 Q 4) := by
  intro ls st σ hk hl hs lsM H locs hL hml hP hS
  unfold i_lcg2 at hk
  split at hk
  · rename_i x r
    split at hk
    · rename_i a v
      obtain ⟨h3, hk⟩ := hk
      have hts := hC.2.2.2.1
      obtain ⟨n, rfl⟩ := Int.eq_ofNat_of_zero_le h3
      have hi : mm_in (n : Int) := mm_iv1 hs
      have hn2 : n < 2147483648 := by have := hi.2; omega
      show W p l e R s m args below meth c H locs _ _ Q (F0 m 4 lsM (.int (Int32.ofInt (n : Int)) :: r.map (mm_v G)))
      rw [Int32.ofInt_eq_ofNat]
      refine lv_i2l (v := lN n) hC.1 hC.2.1 dX12_draw_4 (nI_l hn2) ?_
      refine lv_ldc2 hC.1 hC.2.1 hC.2.2.1 (hts _ wd_1116) dX12_draw_5 ?_
      refine lv_lmul hC.1 hC.2.1 dX12_draw_8 ?_
      rw [lN_mul, Nat.mul_comm]
      refine lv_ldc2 hC.1 hC.2.1 hC.2.2.1 (hts _ wd_1117) dX12_draw_9 ?_
      refine lv_ladd hC.1 hC.2.1 dX12_draw_12 ?_
      rw [lN_add]
      refine lv_ldc2 hC.1 hC.2.1 hC.2.2.1 (hts _ wd_1118) dX12_draw_13 ?_
      refine lv_lrem hC.1 hC.2.1 dX12_draw_16 (by decide) ?_
      rw [(lcg_N hn2).1]
      refine lv_lstore_n hC.1 hC.2.1 dX12_draw_17 rfl (mm_Lhas hL) (by show 2 + 1 < 4; decide) rfl (fun ls' h' => ?_)
      have e2 : ls'[2]? = some (.val (.long (lN ((1103515245 * n + 12345) % 2147483648)))) := h'.2.2 (2, _) List.mem_cons_self
      have hL' : mm_L G ls' [.inr (some a), v, .inr none, .inr none] := by
        refine ⟨h'.1, h'.2.1, fun i w hi2 hw => ?_⟩
        have hmem : (i, mm_v G w) ∈ mm_pr G [.inr (some a), v, .inr none, .inr none] := mm_pr_mem.mpr ⟨w, hi2, hw, rfl⟩
        refine h'.2.2 (i, mm_v G w) (List.mem_cons_of_mem _ (List.mem_filter.mpr ⟨hmem, ?_⟩))
        have h4 : i ≠ 2 := by rintro rfl; simp at hi2; exact hw hi2.symm
        have h5 : i ≠ 3 := by rintro rfl; simp at hi2; exact hw hi2.symm
        simp [h4, h5, mm_cat]
      refine lv_aload_n (x := mm_ad G a) hC.1 hC.2.1 dX12_draw_18 rfl (hL'.2.2 0 (.inr (some a)) rfl (by simp)) ?_
      refine lv_lload_n hC.1 hC.2.1 dX12_draw_19 rfl e2 ?_
      refine lv_l2i hC.1 hC.2.1 dX12_draw_20 (lcg_N hn2).2 ?_
      have hb := lcg_b n
      exact h _ _ _ hk hl (mm_ivc (v := .inl (lcg n)) ⟨by omega, by omega⟩ (mm_ivc (v := .inr (some a)) trivial (mm_ivt hs))) ls' H locs hL' hml hP hS
    · exact hk.elim
  · exact hk.elim
end MML
