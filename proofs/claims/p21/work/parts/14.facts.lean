theorem PR_0 : PR (cle (fun _ => some 0) 16) := fun g hg k e => by
  rw [show cle (fun _ => some 0) 16 g = none from if_pos hg] at e; cases e
theorem HO_0 {dc : Nat} : HO (cle (fun _ => some 0) 1536) dc := fun q hq k e => by
  rw [show cle (fun _ => some 0) 1536 q = none from if_pos hq] at e; cases e
theorem DV_0 : DV (fun _ => some 0) 0 := fun k hk => absurd hk (Nat.not_lt_zero k)
theorem SE_0 : ∀ k, k < 864 → ∀ v, cle (fun _ => some 0) 864 k = some v → v ≤ 100000 := fun k hk v e => by
  rw [show cle (fun _ => some 0) 864 k = none from if_pos hk] at e; cases e
theorem cpl_0 {sp : Nat} {pa ho dv : Nat → Option Nat} {ak : Nat → Bool} : cnt (cpl (fun _ => false) pa ho dv ak sp) 16 = 0 := rfl
theorem lkd_0 {sp : Nat} {pa ho dv : Nat → Option Nat} (h : sp < 3) : bset (lkd (fun _ => false) pa ho dv (cle (fun _ => some 0) 864) sp) 16 = 0 := bset_ex.mpr (exU_no.mpr (fun g hg => exU_no.mpr (fun j hj => by
  unfold lkj
  rw [vlu_dead rfl, show cle (fun _ => some 0) 864 (sp * 288 + g * 18 + j) = none from if_pos (by omega)]
  exact decide_eq_false (fun z => z rfl))))
theorem tP_preH {D : va_G} {w : va_W} {ty : List (ClassId × FieldType)} {av : List Value} {s : State} {H : Heap} {A : Nat → Prop} (hP : va_P D vwCl w H) (hK : va_K D vwCl ty s) (hE : tEA A s H) : ∀ U : State, U.heap = H → s.WarmedH U.vm → tP D w ty av av.toArray U :=
  fun U hU hW => ⟨rfl, by rw [hU]; exact hP, va_K.moved hW.alike hK, tEA_warm (A := nF) hW hU (tEA_na hE (fun q h => h.elim))⟩
/-- a start from which the script can be read too -/
def oP (D : va_G) (w : va_W) (ty : List (ClassId × FieldType)) (b L : Nat) (xs : Nat → Int32) (av : List Value) : Array Value → State → Prop := va_Pc av (fun U => va_P D vwCl w U.heap ∧ va_K D vwCl ty U ∧ tE U ∧ va_X b L xs U U.heap)
theorem oP_blind {D : va_G} {w : va_W} {ty : List (ClassId × FieldType)} {b L : Nat} {xs : Nat → Int32} {av : List Value} : FrameBlind (oP D w ty b L xs av) := fun a U g mk q => by
  obtain ⟨q0, qP, qK, qE, qX⟩ := q
  exact ⟨q0, qP, va_K.moved (u := U) (U := U.calling g mk a) (Vm.Alike.refl U.vm) qK, tE_calling qE, va_X.moved (u := U) (U := U.calling g mk a) (Vm.Alike.refl U.vm) qX⟩
theorem oP_preH {D : va_G} {w : va_W} {ty : List (ClassId × FieldType)} {b L : Nat} {xs : Nat → Int32} {av : List Value} {s : State} {H : Heap} {A : Nat → Prop} (hP : va_P D vwCl w H) (hK : va_K D vwCl ty s) (hE : tEA A s H) (hX : va_X b L xs s H) : ∀ U : State, U.heap = H → s.WarmedH U.vm → oP D w ty b L xs av av.toArray U :=
  fun U hU hW => ⟨rfl, by rw [hU]; exact hP, va_K.moved hW.alike hK, tEA_warm (A := nF) hW hU (tEA_na hE (fun q h => h.elim)), by rw [hU]; exact va_X.moved hW.alike hX⟩
/-- the script, to be read alone -/
def sX (b L : Nat) (xs : Nat → Int32) (av : List Value) : Array Value → State → Prop := va_Pc av (fun U => va_X b L xs U U.heap)
theorem sX_blind {b L : Nat} {xs : Nat → Int32} {av : List Value} : FrameBlind (sX b L xs av) := fun a U g mk q => ⟨q.1, va_X.moved (u := U) (U := U.calling g mk a) (Vm.Alike.refl U.vm) q.2⟩
theorem sX_preH {b L : Nat} {xs : Nat → Int32} {av : List Value} {s : State} {H : Heap} (hX : va_X b L xs s H) : ∀ U : State, U.heap = H → s.WarmedH U.vm → sX b L xs av av.toArray U :=
  fun U hU hW => ⟨rfl, by show va_X b L xs U U.heap; rw [hU]; exact va_X.moved hW.alike hX⟩
theorem va_X_lt {b L : Nat} {xs : Nat → Int32} {U : State} {H : Heap} (h : va_X b L xs U H) : b < H.size := by
  obtain ⟨scr, h1, -⟩ := h
  exact (Array.getElem?_eq_some_iff.mp h1).1
