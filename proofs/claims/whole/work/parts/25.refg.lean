/-- which of the three can't be cast to which -/
def nE (U : State) : Prop := va_Nc "java/lang/IllegalStateException" "java/lang/IndexOutOfBoundsException" U ∧ va_Nc "java/lang/IllegalArgumentException" "java/lang/IndexOutOfBoundsException" U ∧ va_Nc "java/lang/IllegalStateException" "java/lang/IllegalArgumentException" U
def tN (D : va_G) (w : va_W) (ty : List (ClassId × FieldType)) (av : List Value) : Array Value → State → Prop := va_Pc av (fun U => va_P D vwCl w U.heap ∧ va_K D vwCl ty U ∧ tE U ∧ nE U)
theorem tN_blind {D : va_G} {w : va_W} {ty : List (ClassId × FieldType)} {av : List Value} : FrameBlind (tN D w ty av) := fun a U g mk q => by
  obtain ⟨q0, qP, qK, qE, q1, q2, q3⟩ := q
  exact ⟨q0, qP, va_K.moved (u := U) (U := U.calling g mk a) (Vm.Alike.refl U.vm) qK, tE_calling qE, va_Nc.moved (u := U) (U := U.calling g mk a) (Vm.Alike.refl U.vm) q1, va_Nc.moved (u := U) (U := U.calling g mk a) (Vm.Alike.refl U.vm) q2, va_Nc.moved (u := U) (U := U.calling g mk a) (Vm.Alike.refl U.vm) q3⟩
def bL (b : Bool) : Int64 := if b = true then 1 else 0
