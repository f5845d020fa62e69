theorem ty_eq {D : va_G} {cl : List vw_C} {tys : List (ClassId × FieldType)} {U : State} (hK : va_K D cl tys U) (i j : Nat) {c1 c2 : ClassId} {ty : FieldType} (h1 : tys[i]? = some (c1, ty)) (h2 : tys[j]? = some (c2, ty)) (ho : ∀ C, ty ≠ .object C) : c1 = c2 := by
  have a1 : va_RA U c1 ty := (hK.2 i _ h1).2
  have a2 : va_RA U c2 ty := (hK.2 j _ h2).2
  cases ty with
  | object C => exact absurd rfl (ho C)
  | _ => exact Option.some.inj (a1.symm.trans a2)
def h0W (h : Nat) : va_W := [(h, .inr (0, [.null, .null, .null, .null, .int 0, .null, .null, .null, .null, .null, .int 0, .int 0, .null, .null, .null, .null]))]
def m0W (h : Nat) : va_W := [(h, .inr (1, [.int 0, .int 0, .null, .null, .null, .null, .int 0, .null, .null, .null, .null, .null, .null, .null, .null, .null, .null, .int 0]))]
abbrev hWi (h : Nat) (ad : Nat → Nat) (cI cZ : ClassId) : va_W := hW h ad cI cZ (fun _ => false) (cle (fun _ => some 0) 16) (fun _ => 0) (fun _ => 0) 0 (fun _ => 0) (fun _ => 0) (fun _ => some 0) (fun _ => 0) (fun _ => 0) 0 0 (cle (fun _ => some 0) 1536) (fun _ => false) (cle (fun _ => some 0) 864) (fun _ => some 0)
abbrev mWi (h : Nat) (ad : Nat → Nat) (cI cJ cZ : ClassId) : va_W := mW h ad cI cJ cZ 0 0 (fun _ => false) (fun _ => some 0) (fun _ => 0) (fun _ => 0) 0 (fun _ => 0) (fun _ => 0) (fun _ => some 0) (fun _ => some 0) (fun _ => some 0) (fun _ => 0) (fun _ => 0) (fun _ => false) (cle (fun _ => some 0) 864) (fun _ => some 0) 0
def hQ0 (D : va_G) (h : Nat) : Array Value → State → Outcome → State → Prop := fun _ st o t => o = .returned none ∧ (∃ (ad : Nat → Nat) (cI cZ : ClassId), va_P D vwCl (hWi h ad cI cZ) t.heap ∧ va_K D vwCl (hT cI cZ) t ∧ va_D (va_A (h0W h) st.heap.size) (hWi h ad cI cZ)) ∧ va_F (va_A (h0W h) st.heap.size) st t
def mQ0 (D : va_G) (h : Nat) : Array Value → State → Outcome → State → Prop := fun _ st o t => o = .returned none ∧ (∃ (ad : Nat → Nat) (cI cJ cZ : ClassId), va_P D vwCl (mWi h ad cI cJ cZ) t.heap ∧ va_K D vwCl (mT cI cJ cZ) t ∧ va_D (va_A (m0W h) st.heap.size) (mWi h ad cI cJ cZ)) ∧ va_F (va_A (m0W h) st.heap.size) st t
