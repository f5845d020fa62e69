/-! methods with a table of their own: the law's helpers -/
theorem mt_ofWH {l : Launch} {y : MethodName} {ws ws' : List Cond} {rm : Room} {Pc : Array Value → State → Prop} {Qc : Array Value → State → Outcome → State → Prop} {mc ms : Nat} {free : Addr → Prop} {cc : ByteArray} {maxL : Nat} {ret : Option FieldType} {hh : List (Nat × Nat × Nat × Nat)}
    (hy : plainName y.cls = true) (hw : ws = Cond.codeWith y cc maxL ret hh :: ws')
    (body : ∀ p e s m args below meth c s₁, BodyLoose p l y (headSpec ws rm) cc maxL ret e s m args below meth c s₁ → c.maxLocals = maxL → c.exceptionTable.toList.map (fun h => (h.startPc, h.endPc, h.handlerPc, h.catchType)) = hh → Pc args s →
      W p l e (headSpec ws rm).room s m args below meth c s.heap [] 0 0 (MQ below Qc args s mc ms free) (entryFrame m args maxL)) : Met l y ws rm Pc Qc mc ms free := by
  refine MetFree.of_bodyS (code := cc) (maxLocals := maxL) (ret := ret) hy ?_ ?_
  · intro args s m h hn
    obtain ⟨m9, meth, c, hn9, h1, h2, h3, h4, -, h5, h6, -⟩ := Cond.codeWith_spec (atoms_spec (ws := ws) h _ (by rw [hw]; exact List.mem_cons_self))
    cases hn.symm.trans hn9
    exact ⟨meth, c, h1, h2, h3, h4, h5, h6⟩
  · intro p e s m args below meth c s₁ B hml hP _
    have hh0 : s₁.heap = s.heap := by rw [B.state]; rfl
    have htab : c.exceptionTable.toList.map (fun h => (h.startPc, h.endPc, h.handlerPc, h.catchType)) = hh := by
      obtain ⟨m9, meth9, c9, hn9, h1, h2, h3, h4, h5, -⟩ := Cond.codeWith_spec (atoms_spec (ws := ws) B.pre _ (by rw [hw]; exact List.mem_cons_self))
      cases Option.some.inj (hn9.symm.trans B.named)
      cases Option.some.inj (h1.symm.trans B.method)
      have h9 := (Stand.of_body B).code
      first
        | (cases Option.some.inj (h2.symm.trans h9); exact h5)
        | (rw [State.code?_eq, B.method] at h9; cases Option.some.inj (h2.symm.trans h9); exact h5)
    obtain ⟨t, a1, o, b1, b2, b3⟩ := body p e s m args below meth c s₁ B hml htab hP s₁ hh0 (Stand.of_body B)
    exact ⟨t, o, a1, b1, b2, b3⟩
/-- the rows of a table, out of their numbers -/
theorem tab_1 {l : List ExceptionTableEntry} {a b c d : Nat} (h : l.map (fun h => (h.startPc, h.endPc, h.handlerPc, h.catchType)) = [(a, b, c, d)]) : l = [⟨a, b, c, d⟩] := by
  match l, h with
  | [x], h =>
    obtain ⟨x1, x2, x3, x4⟩ := x
    simp only [List.map_cons, List.map_nil, List.cons.injEq, Prod.mk.injEq, and_true] at h
    obtain ⟨rfl, rfl, rfl, rfl⟩ := h
    rfl
theorem tab_c {l : List ExceptionTableEntry} {r : List (Nat × Nat × Nat × Nat)} {a b c d : Nat} (h : l.map (fun h => (h.startPc, h.endPc, h.handlerPc, h.catchType)) = (a, b, c, d) :: r) : ∃ l2, l = ⟨a, b, c, d⟩ :: l2 ∧ l2.map (fun h => (h.startPc, h.endPc, h.handlerPc, h.catchType)) = r := by
  match l, h with
  | x :: l2, h =>
    obtain ⟨x1, x2, x3, x4⟩ := x
    simp only [List.map_cons, List.cons.injEq, Prod.mk.injEq] at h
    obtain ⟨⟨rfl, rfl, rfl, rfl⟩, h2⟩ := h
    exact ⟨l2, rfl, h2⟩
/-- a world and what stands beside it -/
theorem va_Pl {D : va_G} {cl : List vw_C} {wa wb : va_W} {H : Heap} (h : va_P D cl (wa ++ wb) H) : va_P D cl wa H := fun k q hk => h k q (by
  have hlt : k < wa.length := (List.getElem?_eq_some_iff.mp hk).1
  rw [List.getElem?_append_left hlt]; exact hk)
theorem va_Pr {D : va_G} {cl : List vw_C} {wa wb : va_W} {H : Heap} (h : va_P D cl (wa ++ wb) H) : va_P D cl wb H := fun k q hk => h (wa.length + k) q (by
  rw [List.getElem?_append_right (Nat.le_add_right _ _), Nat.add_sub_cancel_left]; exact hk)
theorem va_Dl {A : Nat → Prop} {wa wb : va_W} (h : va_D A (wa ++ wb)) : va_D A wa := by
  have e : ∀ (k : Nat) (q : Nat × va_E), wa[k]? = some q → (wa ++ wb)[k]? = some q := fun k q hk => by
    have hlt : k < wa.length := (List.getElem?_eq_some_iff.mp hk).1
    rw [List.getElem?_append_left hlt]; exact hk
  exact ⟨fun i j x y hx hy hxy => h.1 i j x y (e i x hx) (e j y hy) hxy, fun k q hk => h.2 k q (e k q hk)⟩
theorem va_Dr {A : Nat → Prop} {wa wb : va_W} (h : va_D A (wa ++ wb)) : va_D A wb := by
  have e : ∀ (k : Nat) (q : Nat × va_E), wb[k]? = some q → (wa ++ wb)[wa.length + k]? = some q := fun k q hk => by
    rw [List.getElem?_append_right (Nat.le_add_right _ _), Nat.add_sub_cancel_left]; exact hk
  exact ⟨fun i j x y hx hy hxy => by have := h.1 _ _ x y (e i x hx) (e j y hy) hxy; omega, fun k q hk => h.2 _ q (e k q hk)⟩
theorem va_Dx {A : Nat → Prop} {wa wb : va_W} (h : va_D A (wa ++ wb)) {i j : Nat} {x y : Nat × va_E} (hx : wa[i]? = some x) (hy : wb[j]? = some y) : x.1 ≠ y.1 := fun e => by
  have h1 : (wa ++ wb)[i]? = some x := by
    rw [List.getElem?_append_left (List.getElem?_eq_some_iff.mp hx).1]; exact hx
  have h2 : (wa ++ wb)[wa.length + j]? = some y := by
    rw [List.getElem?_append_right (Nat.le_add_right _ _), Nat.add_sub_cancel_left]; exact hy
  have h3 := h.1 _ _ x y h1 h2 e
  have h4 := (List.getElem?_eq_some_iff.mp hx).1
  omega
theorem va_Pk {D : va_G} {cl : List vw_C} {wa wb : va_W} {H H1 : Heap} {A : Nat → Prop} (hP : va_P D cl wb H) (hx : ∀ (j : Nat) (y : Nat × va_E), wb[j]? = some y → ∀ (i : Nat) (x : Nat × va_E), wa[i]? = some x → x.1 ≠ y.1) (hk : ∀ q : Nat, q < H.size → ¬ va_A wa H.size q → H1[q]? = H[q]?) : va_P D cl wb H1 := hP.kept (fun k q hq => hk q.1 (hP k q hq).lt (fun z => by
  rcases z with ⟨i, e0, hi⟩ | z
  · exact hx k q hq i (q.1, e0) hi rfl
  · have := (hP k q hq).lt
    omega))
section HB3
variable {p : Program} {l : Launch} {e : Env} {R : Room} {s : State} {m : MethodId} {args : Array Value} {below : List Frame} {meth : Method} {c : Code} {H H0 : Heap} {locs : List Loc} {cells slots : Nat} {Q : State → Prop} {cc : ByteArray} {pc : Nat} {ls : Array Slot} {rest st0 : List Value} {D : va_G} {cl : List vw_C} {tys : List (ClassId × FieldType)} {ws : va_W} {a : Nat} {A : Nat → Prop}
/-- it has returned v; n cells more at least, no old one changed -/
def rQ (v : Value) (n : Nat) : Array Value → State → Outcome → State → Prop := fun _ st o t => o = .returned (some v) ∧ st.heap.size + n ≤ t.heap.size ∧ ∀ q : Nat, q < st.heap.size → t.heap[q]? = st.heap[q]?
/-- a call that throws, caught here: the heap is larger -/
theorem q_catchS {E0 : String} {av : Array Value} (hr : vx_Run p l e R s m args below meth c s.heap [] 0 0 1 6 (F0 m pc ls st0) rest (nQ av) (tX E0) nF)
    (kx : ∀ (H1 : Heap) (ce : Cell) (q9 : Addr), s.heap.size < H1.size → (∀ q : Nat, q < s.heap.size → H1[q]? = s.heap[q]?) → H1[q9]? = some ce → ce.vm = .none → s.vm.findClass E0 = some ce.cls → vx_W p l e R s m args below meth c H1 [] 1 6 Q (F0 m pc ls rest) q9) : W p l e R s m args below meth c s.heap [] 0 0 Q (F0 m pc ls st0) := by
  intro T hT X
  rcases hr T hT X with ⟨v, st₀, t, T', L, h0, X', hL, e1, e2, hq, st⟩ | ⟨q, st₀, t, T', L, E, ce, h0, X', hL, e1, e2, hXC, hce, hcv, hcl, st⟩
  · exact hq.elim
  · have hL0 : L = [] := by
      cases L with
      | nil => rfl
      | cons z r => exact absurd (hL z List.mem_cons_self) (fun q => q)
    subst hL0
    obtain ⟨rfl, g2, g3⟩ := hXC
    rw [h0] at g2 g3
    rw [← e1] at hce g2 g3
    obtain ⟨t2, a1, b1⟩ := kx T'.heap ce q g2 g3 hce hcv hcl T' rfl X'
    exact ⟨t2, st.trans a1, b1⟩
theorem q_rret {v : Int32} (hx : p.tables.exec = Jvm.exec) (hb : c.code = cc) (hr : meth.sig.returnType = some .int) (hlocks : meth.locks = false) (h1 : s.heap.size < H.size) (h2 : ∀ q : Nat, q < s.heap.size → H[q]? = s.heap[q]?) (hdg : decode cc pc = .ok (.ireturn, 1)) :
    W p l e R s m args below meth c H [] 1 6 (MQ below (rQ (.int v) 1) args s 1 6 nF) (F0 m pc ls [.int v]) :=
  W.iret (v := v) hx hb hr (fun t ht hW => ⟨rfl, by rw [ht]; exact h1, fun q hq => by rw [ht]; exact h2 q hq⟩) (fun z hz => by cases hz) hdg hlocks
/-- the end of one that asks many, and answers true -/
theorem q_rretZ {n k : Nat} (hx : p.tables.exec = Jvm.exec) (hb : c.code = cc) (hr : meth.sig.returnType = some .boolean) (hlocks : meth.locks = false) (hz : s.heap.size + k ≤ H.size) (hk : n ≤ k) (hS : va_S nF s.heap H []) (hdg : decode cc pc = .ok (.ireturn, 1)) {mc ms : Nat} (hc : cells ≤ mc) (hs : slots ≤ ms) :
    W p l e R s m args below meth c H [] cells slots (MQ below (rQ (.int (bI true)) n) args s mc ms nF) (F0 m pc ls [.int (bI true)]) :=
  W.widen hc hs (W.zret (v := bI true) (ty := .boolean) hx hb hr (nar_bI true) (fun t ht hW => ⟨rfl, by rw [ht]; omega, fun q hq => by rw [ht]; exact hS.2.1 q hq (fun h => h)⟩) (fun z hz => by cases hz) hdg hlocks)
/-- a call of one that has made n cells more at least -/
theorem q_rcall {n k z mc ms : Nat} {v : Value} {av : Array Value} (hr : va_Run p l e R s m args below meth c H locs cells slots mc ms (F0 m pc ls st0) rest (rQ v n av) nF) (hP : va_P D vwCl ws H) (hS : va_S A H0 H locs) (hz : z + k ≤ H.size)
    (kk : ∀ H1 : Heap, va_P D vwCl ws H1 → va_S A H0 H1 locs → z + (k + n) ≤ H1.size → W p l e R s m args below meth c H1 locs (cells + mc) (slots + ms) Q (F0 m (pc + 3) ls (v :: rest))) : W p l e R s m args below meth c H locs cells slots Q (F0 m pc ls st0) := by
  intro T hT X
  obtain ⟨v', st₀, t, T', L, h0, X', hL, e1, e2, ⟨hv, hz2, hk⟩, st⟩ := hr T hT X
  cases hv
  have hL0 : L = [] := by
    cases L with
    | nil => rfl
    | cons z r => exact absurd (hL z List.mem_cons_self) (fun q => q)
  subst hL0
  rw [h0] at hz2 hk
  rw [List.append_nil] at X'
  obtain ⟨t2, a1, b1⟩ := kk T'.heap (hP.kept (fun k q hq => by rw [e1]; exact hk q.1 (hP k q hq).lt)) ⟨Nat.le_trans hS.1 (by rw [e1]; omega), fun q h1 h2 => by rw [e1, hk q (Nat.lt_of_lt_of_le h1 hS.1)]; exact hS.2.1 q h1 h2, hS.2.2⟩ (by rw [e1]; omega) T' rfl X'
  exact ⟨t2, st t2 a1, b1⟩
end HB3
/-- which of the three can't be cast to which -/
def nE (U : State) : Prop := va_Nc "java/lang/IllegalStateException" "java/lang/IndexOutOfBoundsException" U ∧ va_Nc "java/lang/IllegalArgumentException" "java/lang/IndexOutOfBoundsException" U ∧ va_Nc "java/lang/IllegalStateException" "java/lang/IllegalArgumentException" U
def tN (D : va_G) (w : va_W) (ty : List (ClassId × FieldType)) (av : List Value) : Array Value → State → Prop := va_Pc av (fun U => va_P D vwCl w U.heap ∧ va_K D vwCl ty U ∧ tE U ∧ nE U)
theorem tN_blind {D : va_G} {w : va_W} {ty : List (ClassId × FieldType)} {av : List Value} : FrameBlind (tN D w ty av) := fun a U g mk q => by
  obtain ⟨q0, qP, qK, qE, q1, q2, q3⟩ := q
  exact ⟨q0, qP, va_K.moved (u := U) (U := U.calling g mk a) (Vm.Alike.refl U.vm) qK, tE_calling qE, va_Nc.moved (u := U) (U := U.calling g mk a) (Vm.Alike.refl U.vm) q1, va_Nc.moved (u := U) (U := U.calling g mk a) (Vm.Alike.refl U.vm) q2, va_Nc.moved (u := U) (U := U.calling g mk a) (Vm.Alike.refl U.vm) q3⟩
/-! what a throw needs, beside cells that may change; calls with cells of their own -/
def tEA (A : Nat → Prop) (U : State) (H : Heap) : Prop := vx_Zq Bundle.tN "UNASSIGNED_STACK" Bundle.steD A U H ∧ vx_Zq Bundle.tN "SUPPRESSED_SENTINEL" Bundle.listD A U H ∧ (∀ q ∈ hbS, ∃ a, vk_R RX0 q.1 q.2 a U) ∧ (∀ E ∈ exN, va_Nw (.castable E E) U) ∧ ∀ Y ∈ dcN, va_Nw (.declares (Bundle.initS Y)) U
theorem tEA_at {A : Nat → Prop} {s : State} {H : Heap} {locs : List Loc} (h : tEA A s s.heap) (hS : va_S A s.heap H locs) : tEA A s H := ⟨h.1.kept hS.2.1, h.2.1.kept hS.2.1, h.2.2⟩
theorem tEA_na {A B : Nat → Prop} {U : State} {H : Heap} (h : tEA A U H) (hAB : ∀ q, B q → A q) : tEA B U H := ⟨h.1.narrow hAB, h.2.1.narrow hAB, h.2.2⟩
theorem tEA_warm {A : Nat → Prop} {s U : State} {H : Heap} (hW : s.WarmedH U.vm) (hH : U.heap = H) (h : tEA A s H) : tEA A U U.heap :=
  ⟨by rw [hH]; exact vx_Zq.moved hW.alike h.1, by rw [hH]; exact vx_Zq.moved hW.alike h.2.1, fun q hq => (h.2.2.1 q hq).elim (fun a h9 => ⟨a, vk_R.warm hW h9⟩), fun E hE => va_Nw.warmC hW (h.2.2.2.1 E hE), fun Y hY => va_Nw.warmD hW (h.2.2.2.2 Y hY)⟩
theorem tEA_calling {A : Nat → Prop} {a : Array Value} {U : State} {g : JFrame} {mk : MethodId} (h : tEA A U U.heap) : tEA A (U.calling g mk a) (U.calling g mk a).heap :=
  ⟨vx_Zq.moved (u := U) (U := U.calling g mk a) (Vm.Alike.refl U.vm) h.1, vx_Zq.moved (u := U) (U := U.calling g mk a) (Vm.Alike.refl U.vm) h.2.1, fun q hq => (h.2.2.1 q hq).elim (fun a h9 => ⟨a, vk_R.same (u := U) rfl h9⟩), fun E hE => va_Nw.same rfl (u := U) rfl (h.2.2.2.1 E hE), fun Y hY => va_Nw.same rfl (u := U) rfl (h.2.2.2.2 Y hY)⟩
theorem nE_warm {s U : State} (hW : s.WarmedH U.vm) (h : nE s) : nE U := ⟨va_Nc.moved hW.alike h.1, va_Nc.moved hW.alike h.2.1, va_Nc.moved hW.alike h.2.2⟩
theorem tN_pre {D : va_G} {w : va_W} {ty : List (ClassId × FieldType)} {av : List Value} {s : State} {H : Heap} {A : Nat → Prop} (hP : va_P D vwCl w H) (hK : va_K D vwCl ty s) (hE : tEA A s H) (hN : nE s) : ∀ U : State, U.heap = H → s.WarmedH U.vm → tN D w ty av av.toArray U :=
  fun U hU hW => ⟨rfl, by rw [hU]; exact hP, va_K.moved hW.alike hK, tEA_warm (A := nF) hW hU (tEA_na hE (fun q h => h.elim)), nE_warm hW hN⟩
theorem va_Psw {D : va_G} {cl : List vw_C} {wa wb : va_W} {H : Heap} (h : va_P D cl (wa ++ wb) H) : va_P D cl (wb ++ wa) H := va_P.app (va_Pr h) (va_Pl h)
theorem va_Dsw {A : Nat → Prop} {wa wb : va_W} (h : va_D A (wa ++ wb)) : va_D A (wb ++ wa) := by
  have hl := va_Dl h
  have hr := va_Dr h
  refine ⟨fun i j x y hx hy hxy => ?_, fun k q hk => ?_⟩
  · rw [List.getElem?_append] at hx hy
    by_cases ci : i < wb.length
    · rw [if_pos ci] at hx
      by_cases cj : j < wb.length
      · rw [if_pos cj] at hy; exact hr.1 i j x y hx hy hxy
      · rw [if_neg cj] at hy; exact absurd hxy.symm (va_Dx h hy hx)
    · rw [if_neg ci] at hx
      by_cases cj : j < wb.length
      · rw [if_pos cj] at hy; exact absurd hxy (va_Dx h hx hy)
      · rw [if_neg cj] at hy
        have := hl.1 _ _ x y hx hy hxy
        omega
  · rw [List.getElem?_append] at hk
    by_cases ck : k < wb.length
    · rw [if_pos ck] at hk; exact hr.2 k q hk
    · rw [if_neg ck] at hk; exact hl.2 _ q hk
/-- cells of a part of the world came after the start -/
theorem lq_sub {s : State} {w : va_W} {H : Heap} {locs : List Loc} (hD : va_D (fun q : Nat => s.heap.size ≤ q) w) (hS : va_S (fun q : Nat => s.heap.size ≤ q) s.heap H locs) : ∀ q, va_A w H.size q → (fun q : Nat => s.heap.size ≤ q) q := by
  intro q h
  rcases h with ⟨k, e0, h⟩ | h
  · exact hD.2 k (q, e0) h
  · exact Nat.le_trans hS.1 h
theorem va_Dj {D : va_G} {cl : List vw_C} {A : Nat → Prop} {wa wb w1 : va_W} {H : Heap} (hP : va_P D cl (wa ++ wb) H) (hD : va_D A (wa ++ wb)) (hA : ∀ q, va_A wa H.size q → A q) (hD1 : va_D (va_A wa H.size) w1) : va_D A (w1 ++ wb) := by
  have hr := va_Dr hD
  have hPr := va_Pr hP
  have hx : ∀ (i j : Nat) (x y : Nat × va_E), w1[i]? = some x → wb[j]? = some y → x.1 ≠ y.1 := fun i j x y hx hy he => by
    rcases hD1.2 i x hx with ⟨k, e0, hk⟩ | hk
    · exact va_Dx hD hk hy he
    · have := (hPr j y hy).lt
      omega
  refine ⟨fun i j x y hx1 hy1 hxy => ?_, fun k q hk => ?_⟩
  · rw [List.getElem?_append] at hx1 hy1
    by_cases ci : i < w1.length
    · rw [if_pos ci] at hx1
      by_cases cj : j < w1.length
      · rw [if_pos cj] at hy1; exact hD1.1 i j x y hx1 hy1 hxy
      · rw [if_neg cj] at hy1; exact absurd hxy (hx _ _ x y hx1 hy1)
    · rw [if_neg ci] at hx1
      by_cases cj : j < w1.length
      · rw [if_pos cj] at hy1; exact absurd hxy.symm (hx _ _ y x hy1 hx1)
      · rw [if_neg cj] at hy1
        have := hr.1 _ _ x y hx1 hy1 hxy
        omega
  · rw [List.getElem?_append] at hk
    by_cases ck : k < w1.length
    · rw [if_pos ck] at hk; exact hA _ (hD1.2 k q hk)
    · rw [if_neg ck] at hk; exact hr.2 _ q hk
section HB5
variable {p : Program} {l : Launch} {e : Env} {R : Room} {s : State} {m : MethodId} {args : Array Value} {below : List Frame} {meth : Method} {c : Code} {H H0 : Heap} {locs : List Loc} {cells slots : Nat} {Q : State → Prop} {cc : ByteArray} {pc : Nat} {ls : Array Slot} {rest st0 : List Value} {D : va_G} {A : Nat → Prop}
/-- a call of a constructor, its object's world being a part of the caller's -/
theorem q_newc {mc ms : Nat} {wa wb : va_W} {B : State → State → Prop} (hr : va_Run p l e R s m args below meth c H locs cells slots mc ms (F0 m pc ls st0) rest (fun st o t => o = .returned none ∧ B st t ∧ va_F (va_A wa st.heap.size) st t) (va_A wa H.size)) (hP : va_P D vwCl (wa ++ wb) H) (hD : va_D A (wa ++ wb)) (hS : va_S A H0 H locs) (hA : ∀ q : Nat, H0.size ≤ q → A q)
    (kk : ∀ (st t : State) (H1 : Heap) (locs1 : List Loc), st.heap = H → t.heap = H1 → s.vm.Alike t.vm → B st t → va_P D vwCl wb H1 → va_S A H0 H1 locs1 → W p l e R s m args below meth c H1 locs1 (cells + mc) (slots + ms) Q (F0 m (pc + 3) ls rest)) : W p l e R s m args below meth c H locs cells slots Q (F0 m pc ls st0) := by
  have hF : ∀ q, va_A wa H.size q → A q := by
    intro q h
    rcases h with ⟨k, e0, h⟩ | h
    · exact (va_Dl hD).2 k (q, e0) h
    · exact hA q (Nat.le_trans hS.1 h)
  intro T hT X
  obtain ⟨v', st₀, t, T', L, h0, X', hL, e1, e2, ⟨hv, hB, hz, hk⟩, st⟩ := hr T hT X
  cases hv
  rw [h0] at hz hk
  have hPb : va_P D vwCl wb T'.heap := va_Pk (A := A) (wa := wa) (va_Pr hP) (fun j y hy i x hx => va_Dx hD hx hy) (fun q h1 h2 => by rw [e1]; exact hk q h1 h2)
  obtain ⟨t2, a1, b1⟩ := kk st₀ t T'.heap (locs ++ L) h0 e1.symm (by rw [← e2]; exact X'.warmed.alike) hB hPb
    ⟨Nat.le_trans hS.1 (by rw [e1]; exact hz), fun q h1 h2 => by rw [e1, hk q (Nat.lt_of_lt_of_le h1 hS.1) (fun z => h2 (hF q z))]; exact hS.2.1 q h1 h2, fun q hq => by
      rcases List.mem_append.mp hq with h | h
      · exact hS.2.2 q h
      · exact hF _ (hL q h)⟩ T' rfl X'
  exact ⟨t2, st t2 a1, b1⟩
end HB5
