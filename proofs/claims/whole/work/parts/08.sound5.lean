/-! the method rule; switches; arraycopy -/
theorem mm_slv (G : mm_G) (av : List mm_V) : lg_sl (av.map (mm_v G)) = (av.map (mm_v G)).map Slot.val := by
  induction av with
  | nil => rfl
  | cons v av ih =>
    rw [List.map_cons, List.map_cons, ← ih]
    unfold lg_sl
    rw [List.flatMap_cons, if_neg (by rw [mm_cat]; decide)]
    rfl
theorem mm_meth {y : MethodName} {bytes : ByteArray} {maxL : Nat} {ret : Option FieldType} {rm : Room} {T : mm_T} (hy : plainName y.cls = true) (hargs : ∀ av σ Post, T av σ Post → av.length ≤ maxL)
    (body : ∀ (p : Program) (l : Launch) (e : Env) (s : State) (m : MethodId) (args : Array Value) (below : List Frame) (meth : Method) (c : Code) (G : mm_G) (av : List mm_V) (σ : mm_S) (Post : Option mm_V → mm_S → Prop), mm_C p G s m args meth c bytes y.cls → meth.sig.returnType = ret → (meth.name = y.name) → (∀ v ∈ av, mm_iv v) → (∀ a j, mm_in (σ.1 a j)) → σ.2.2 ≤ 348 → T av σ Post →
      mm_O p l e rm s m args below meth c G σ.2.2 (MQ below (mm_Qc G σ rm.cells rm.slots Post) args s rm.cells rm.slots (mm_A G)) 0 (av ++ List.replicate (maxL - av.length) (.inr none)) [] σ) : mm_Sp y bytes maxL ret rm T := by
  intro l G av σ Post hav hT
  have hlen := hargs av σ Post hT
  refine Met.ofW (cc := bytes) (maxL := maxL) (ret := ret) hy rfl ?_
  intro p e s m args below meth c s₁ B hml hv
  obtain ⟨rfl, ⟨hP, hK, hZ⟩, hG⟩ := hv
  have hts : ∀ w ∈ lw_gd, w.before (av.map (mm_v G)).toArray s = true := fun w hw => atoms_spec (ws := mm_wds y bytes maxL ret) B.pre w (List.mem_cons_of_mem _ hw)
  have hC : mm_C p G s m (av.map (mm_v G)).toArray meth c bytes y.cls := ⟨B.exec, B.bytes, findClass_of_methodNamed B.named, hts, hK, hZ, B.notSynchronized, hG⟩
  have hb := body p l e s m _ below meth c G av σ Post hC B.returns (name_of_methodNamed B.named B.method).1 hav hP.2.1 hP.2.2.2 hT
  have hlv := lv_entry (av.map (mm_v G)) (n := maxL) (by rw [mm_slv]; simpa using hlen)
  rw [lg_entry_eq]
  have hll : (av ++ List.replicate (maxL - av.length) (.inr none : mm_V)).length = maxL := by simp; omega
  have go := hb ?_ (fun v hv => by cases hv) ((lg_sl (av.map (mm_v G)) ++ List.replicate (maxL - (lg_sl (av.map (mm_v G))).length) Slot.unset).toArray) s.heap [] ⟨by rw [hll]; exact hlv.1, hlv.2.1, fun i v hi hv => ?_⟩ (by rw [hll]; exact hml) ⟨hP, Nat.le_refl _, Nat.le_add_right _ _, Nat.le_add_right _ _⟩ va_S.rf
  · rw [Nat.sub_self, Nat.sub_self] at go
    exact go
  · intro v hv
    rcases List.mem_append.mp hv with h | h
    · exact hav v h
    · rw [(List.mem_replicate.mp h).2]; trivial
  · by_cases hi2 : i < av.length
    · rw [List.getElem?_append_left hi2] at hi
      rw [List.getElem?_toArray, mm_slv, List.getElem?_append_left (by simpa using hi2)]
      simp [hi]
    · rw [List.getElem?_append_right (by omega)] at hi
      have := List.mem_of_getElem? hi
      exact absurd (List.mem_replicate.mp this).2 hv
section MMSW
variable {p : Program} {l : Launch} {e : Env} {R : Room} {s : State} {m : MethodId} {args : Array Value} {below : List Frame} {meth : Method} {c : Code} {G : mm_G} {k0 : Nat} {Q : State → Prop} {cc : ByteArray} {own : String} {pc : Nat} {K : mm_K}
def mm_tcs (pc : Nat) : Int → List Int → List (Int × Nat)
  | _, [] => []
  | lo, o :: os => (lo, ((pc : Int) + o).toNat) :: mm_tcs pc (lo + 1) os
theorem mm_tcsIn {Ok : Nat → mm_K} {d : Nat} {ls r : List mm_V} {σ : mm_S} {x : Int} : ∀ (os : List Int) (lo : Int), i_sw Ok d (mm_tcs pc lo os) ls (.inl x :: r) σ → (∀ (i : Nat) (o : Int), os[i]? = some o → x = lo + i → Ok ((pc : Int) + o).toNat ls r σ) ∧ ((x < lo ∨ lo + os.length ≤ x) → Ok d ls r σ)
  | [], lo => fun h => ⟨fun i o hi => by simp at hi, fun _ => h⟩
  | o :: os, lo => fun h => by
    obtain ⟨h1, h2⟩ := h
    refine ⟨fun i o' hi hx => ?_, fun hx => ?_⟩
    · cases i with
      | zero =>
        simp at hi
        subst hi
        exact h1 (by simpa using hx)
      | succ i =>
        have h3 := h2 (by omega)
        exact (mm_tcsIn os (lo + 1) h3).1 i o' (by simpa using hi) (by omega)
    · have hne : ¬ x = lo := by
        rcases hx with q | q
        · omega
        · simp at q; omega
      have h3 := h2 hne
      refine (mm_tcsIn os (lo + 1) h3).2 ?_
      rcases hx with q | q
      · left; omega
      · right; simp at q; omega
theorem mm_tsw (hC : mm_C p G s m args meth c cc own) {dflt lo hi : Int} {offs : Array Int} {len d : Nat} {cs : List (Int × Nat)} (hd : decode cc pc = .ok (.tableswitch dflt lo hi offs, len)) (hcs : mm_tcs pc lo offs.toList = cs) (hhi : hi + 1 = lo + offs.size) (hpos : offs.toList.all (fun o => decide (0 ≤ (pc : Int) + o)) = true) (hdf : (pc : Int) + dflt = (d : Int)) : mm_imp (i_sw (mm_O p l e R s m args below meth c G k0 Q) d cs) (mm_O p l e R s m args below meth c G k0 Q pc) := by
  intro ls st σ hk hl hs lsM H locs hL hml hP hS
  subst hcs
  match st, hk, hs with
  | .inl x :: r, hk, hs =>
    have hx : mm_in x := mm_iv1 hs
    obtain ⟨h1, h2⟩ := mm_tcsIn _ _ hk
    by_cases q : x < lo ∨ hi < x
    · refine lv_tableOut hC.1 hC.2.1 hd (by rw [mm_toI hx]; exact q) hdf ?_
      refine h2 ?_ hl (mm_ivt hs) lsM H locs hL hml hP hS
      rcases q with q | q
      · exact Or.inl q
      · right; simp; omega
    · have q1 : ¬ x < lo := fun z => q (Or.inl z)
      have q2 : ¬ hi < x := fun z => q (Or.inr z)
      have hlt : (x - lo).toNat < offs.size := by omega
      have ho : offs[(x - lo).toNat]? = some offs[(x - lo).toNat] := Array.getElem?_eq_getElem hlt
      have hpo := List.all_eq_true.mp hpos (offs[(x - lo).toNat]) (by simp)
      refine lv_tableIn (tgt := ((pc : Int) + offs[(x - lo).toNat]).toNat) hC.1 hC.2.1 hd (by rw [mm_toI hx]; exact q1) (by rw [mm_toI hx]; exact q2) (by rw [mm_toI hx]; exact ho) ?_ ?_
      · have : 0 ≤ (pc : Int) + offs[(x - lo).toNat] := by simpa using hpo
        omega
      · exact h1 (x - lo).toNat _ (by rw [Array.getElem?_toList]; exact ho) (by omega) hl (mm_ivt hs) lsM H locs hL hml hP hS
  | [], hk, hs =>
    cases h : offs.toList with
    | nil => rw [h] at hk; exact hk.elim
    | cons a b => rw [h] at hk; exact hk.elim
  | .inr v :: r, hk, hs =>
    cases h : offs.toList with
    | nil => rw [h] at hk; exact hk.elim
    | cons a b => rw [h] at hk; exact hk.elim
def mm_lcs (pc : Nat) : List (Int × Int) → List (Int × Nat)
  | [] => []
  | (z, o) :: os => (z, ((pc : Int) + o).toNat) :: mm_lcs pc os
theorem mm_lcsIn {Ok : Nat → mm_K} {d : Nat} {dflt : Int} (hdf : (pc : Int) + dflt = (d : Int)) {ls r : List mm_V} {σ : mm_S} {x : Int} : ∀ (os : List (Int × Int)), os.all (fun o => decide (0 ≤ (pc : Int) + o.2)) = true → i_sw Ok d (mm_lcs pc os) ls (.inl x :: r) σ → ∃ t : Nat, (pc : Int) + Op.lookupswitch.offset os dflt x = (t : Int) ∧ Ok t ls r σ
  | [] => fun _ h => ⟨d, hdf, h⟩
  | (z, o) :: os => fun hpos h => by
    obtain ⟨h1, h2⟩ := h
    rw [List.all_cons, Bool.and_eq_true] at hpos
    rw [Op.lookupswitch.offset_cons]
    by_cases q : x = z
    · rw [if_pos q.symm]
      have hp : 0 ≤ (pc : Int) + o := by simpa using hpos.1
      exact ⟨_, by omega, h1 q⟩
    · rw [if_neg (fun w => q w.symm)]
      exact mm_lcsIn hdf os hpos.2 (h2 q)
theorem mm_lsw (hC : mm_C p G s m args meth c cc own) {dflt : Int} {ps : Array (Int × Int)} {len d : Nat} {cs : List (Int × Nat)} (hd : decode cc pc = .ok (.lookupswitch dflt ps, len)) (hcs : mm_lcs pc ps.toList = cs) (hp : (ps.toList.zip (ps.toList.drop 1)).all (fun (a, next) => a.1 < next.1) = true) (hpos : ps.toList.all (fun o => decide (0 ≤ (pc : Int) + o.2)) = true) (hdf : (pc : Int) + dflt = (d : Int)) : mm_imp (i_sw (mm_O p l e R s m args below meth c G k0 Q) d cs) (mm_O p l e R s m args below meth c G k0 Q pc) := by
  intro ls st σ hk hl hs lsM H locs hL hml hP hS
  subst hcs
  match st, hk, hs with
  | .inl x :: r, hk, hs =>
    have hx : mm_in x := mm_iv1 hs
    obtain ⟨t, h1, h2⟩ := mm_lcsIn hdf _ hpos hk
    exact lv_lookup hC.1 hC.2.1 hd hp (by rw [mm_toI hx]) h1 (h2 hl (mm_ivt hs) lsM H locs hL hml hP hS)
  | [], hk, hs =>
    cases h : ps.toList with
    | nil => rw [h] at hk; exact hk.elim
    | cons a b => rw [h] at hk; exact hk.elim
  | .inr v :: r, hk, hs =>
    cases h : ps.toList with
    | nil => rw [h] at hk; exact hk.elim
    | cons a b => rw [h] at hk; exact hk.elim
def mm_ws (G : mm_G) (σ : mm_S) : va_W := (List.range σ.2.2).map (fun a => (G.1 + a, mm_E G σ a))
theorem mm_wsAt {G : mm_G} {σ : mm_S} {a : Nat} (h : a < σ.2.2) : (mm_ws G σ)[a]? = some (G.1 + a, mm_E G σ a) := by simp [mm_ws, h]
theorem mm_wsN {G : mm_G} {σ : mm_S} {a : Nat} {q : Nat × va_E} (h : (mm_ws G σ)[a]? = some q) : a < σ.2.2 ∧ q = (G.1 + a, mm_E G σ a) := by
  have h1 : a < (mm_ws G σ).length := (List.getElem?_eq_some_iff.mp h).1
  have h2 : a < σ.2.2 := by simpa [mm_ws] using h1
  rw [mm_wsAt h2] at h
  exact ⟨h2, (Option.some.inj h).symm⟩
theorem mm_copy (hC : mm_C p G s m args meth c cc own) {idx : Nat} (w1 : Cond.methodLink own idx arraycopyName ∈ lw_gd) (w2 : Cond.native arraycopyName ∈ lw_gd) (w3 : Cond.static arraycopyName ∈ lw_gd) (w4 : Cond.initialized "java/lang/System" ∈ lw_gd) (hR : 1 ≤ R.frames ∧ nativeFrameWords "java/lang/System" "arraycopy" 5 + 11 ≤ R.locals) (hd : decode cc pc = .ok (.invokestatic idx, 3)) (h : mm_imp K (mm_O p l e R s m args below meth c G k0 Q (pc + 3))) : mm_imp (i_cpy K) (mm_O p l e R s m args below meth c G k0 Q pc) := by
  intro ls st σ hk hl hs lsM H locs hL hml hP hS
  unfold i_cpy at hk
  split at hk
  · rename_i n dp b sp a r
    obtain ⟨⟨h1, h2, h3, h4, h5, h6, h7, h8, h9, h10, h11⟩, hk⟩ := hk
    subst h11
    have hts := hC.2.2.2.1
    have hb : b < 348 := by omega
    have ha : a < 348 := by omega
    have hn : mm_in n := mm_iv1 hs
    have hdp : mm_in dp := mm_iv1 (mm_ivt hs)
    have hsp : mm_in sp := mm_iv1 (mm_ivt (mm_ivt (mm_ivt hs)))
    have hPw : va_P G.2.1 vwCl (mm_ws G σ) H := fun k q hq => by
      obtain ⟨q1, q2⟩ := mm_wsN hq
      rw [q2]; exact hP.1.1 k q1
    have hDw : va_D (mm_A G) (mm_ws G σ) := by
      refine ⟨fun i j x y hx hy hxy => ?_, fun k q hq => ?_⟩
      · rw [(mm_wsN hx).2, (mm_wsN hy).2] at hxy
        have : G.1 + i = G.1 + j := hxy
        omega
      · rw [(mm_wsN hq).2]; exact Nat.le_add_right _ _
    have e0 := mm_wsAt (G := G) h1
    have e1 := mm_wsAt (G := G) h2
    rw [mm_Eint h3] at e0
    rw [mm_Eint h4] at e1
    have nn : ∀ z : Int, mm_in z → 0 ≤ z → ¬ Int32.ofInt z < 0 := fun z hz h0 q => by
      rw [mm_0, mm_lt hz mm_in0] at q
      omega
    show W p l e R s m args below meth c H locs _ _ Q (F0 m pc lsM [.int (Int32.ofInt n), .int (Int32.ofInt dp), .ref (mm_ad G b), .int (Int32.ofInt sp), .ref (mm_ad G a)])
    rw [mm_adw ha, mm_adw hb]
    refine va_copyi (D := G.2.1) (cl := vwCl) (ty := .int) hC.1 hC.2.1 (by rw [hml, hL.1]) hC.2.2.1 (hts _ w1) (hts _ w2) (hts _ w3) (hts _ w4) hC.2.2.2.2.1 hPw hDw hS a b 0 0 e0 e1 rfl rfl rfl (nn _ hsp h7) (nn _ hdp h6) (nn _ hn h5) (by rw [mm_clamp hsp, mm_clamp hn]; omega) (by rw [mm_clamp hdp, mm_clamp hn]; omega) (fun _ _ => rfl) hR.1 (by simpa using hR.2) hd (fun H1 locs1 hP1 hD1 hS1 => ?_)
    rw [mm_clamp hsp, mm_clamp hdp, mm_clamp hn] at hP1
    refine h _ _ _ hk hl (fun v hv => by cases hv) lsM H1 locs1 hL hml ⟨⟨fun x hx => ?_, fun x j => ?_, Or.inl h10, hP.1.2.2.2⟩, hP.2⟩ hS1
    · have hx' : x < σ.2.2 := hx
      by_cases q : x = b
      · subst q
        have := hP1 x (G.1 + x, .inl (G.2.2.1 100, (mm_sh x).2, .inl (va_cpy (fun j => Int32.ofInt (σ.1 a j)) (fun j => Int32.ofInt (σ.1 x j)) sp.toNat dp.toNat n.toNat))) (by rw [List.getElem?_set_self (by simp [mm_ws]; exact hx')])
        have hE : mm_E G (mm_cpy σ.1 a x sp.toNat dp.toNat n.toNat, σ.2) x = .inl (G.2.2.1 100, (mm_sh x).2, .inl (va_cpy (fun j => Int32.ofInt (σ.1 a j)) (fun j => Int32.ofInt (σ.1 x j)) sp.toNat dp.toNat n.toNat)) := by
          rw [mm_Eint h4]
          congr 4
          funext j
          simp only [mm_cpy, va_cpy]
          split <;> rename_i q
          · rw [if_pos q.2]
          · rw [if_neg (fun z => q ⟨trivial, z⟩)]
        rw [hE]
        exact this
      · have := hP1 x (G.1 + x, mm_E G σ x) (by rw [List.getElem?_set_ne (fun z => q z.symm)]; exact mm_wsAt hx')
        have hE : mm_E G (mm_cpy σ.1 a b sp.toNat dp.toNat n.toNat, σ.2) x = mm_E G σ x := by
          have h1 : (mm_cpy σ.1 a b sp.toNat dp.toNat n.toNat) x = σ.1 x := by funext i; simp [mm_cpy, q]
          unfold mm_E mm_fv
          simp only [h1]
        rw [hE]
        exact this
    · show mm_in (mm_cpy σ.1 a b sp.toNat dp.toNat n.toNat x j)
      unfold mm_cpy
      split
      · exact hP.1.2.1 _ _
      · exact hP.1.2.1 _ _
  · exact hk.elim
end MMSW
