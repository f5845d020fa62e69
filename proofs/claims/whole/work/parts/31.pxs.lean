/-! what a throw needs, beside cells that may change; calls with cells of their own -/
def tEA (A : Nat → Prop) (U : State) (H : Heap) : Prop := vx_Zq Bundle.tN "UNASSIGNED_STACK" Bundle.steD A U H ∧ vx_Zq Bundle.tN "SUPPRESSED_SENTINEL" Bundle.listD A U H ∧ (∀ q ∈ hbS, ∃ a, vk_R RX0 q.1 q.2 a U) ∧ (∀ E ∈ exN, va_Nw (.castable E E) U) ∧ ∀ Y ∈ dcN, va_Nw (.declares (Bundle.initS Y)) U
theorem tEA_at {A : Nat → Prop} {s : State} {H : Heap} {locs : List Loc} (h : tEA A s s.heap) (hS : va_S A s.heap H locs) : tEA A s H := ⟨h.1.kept hS.2.1, h.2.1.kept hS.2.1, h.2.2⟩
theorem tEA_na {A B : Nat → Prop} {U : State} {H : Heap} (h : tEA A U H) (hAB : ∀ q, B q → A q) : tEA B U H := ⟨h.1.narrow hAB, h.2.1.narrow hAB, h.2.2⟩
theorem tEA_warm {A : Nat → Prop} {s U : State} {H : Heap} (hW : s.WarmedH U.vm) (hH : U.heap = H) (h : tEA A s H) : tEA A U U.heap :=
  ⟨by rw [hH]; exact vx_Zq.moved hW.alike h.1, by rw [hH]; exact vx_Zq.moved hW.alike h.2.1, fun q hq => (h.2.2.1 q hq).elim (fun a h9 => ⟨a, vk_R.warm hW h9⟩), fun E hE => va_Nw.warmC hW (h.2.2.2.1 E hE), fun Y hY => va_Nw.warmD hW (h.2.2.2.2 Y hY)⟩
theorem tEA_calling {A : Nat → Prop} {a : Array Value} {U : State} {g : JFrame} {mk : MethodId} (h : tEA A U U.heap) : tEA A (U.calling g mk a) (U.calling g mk a).heap :=
  ⟨vx_Zq.moved (u := U) (U := U.calling g mk a) (Vm.Alike.refl U.vm) h.1, vx_Zq.moved (u := U) (U := U.calling g mk a) (Vm.Alike.refl U.vm) h.2.1, fun q hq => (h.2.2.1 q hq).elim (fun a h9 => ⟨a, vk_R.same (u := U) rfl h9⟩), fun E hE => va_Nw.same rfl (u := U) rfl (h.2.2.2.1 E hE), fun Y hY => va_Nw.same rfl (u := U) rfl (h.2.2.2.2 Y hY)⟩
theorem nE_warm {s U : State} (hW : s.WarmedH U.vm) (h : nE s) : nE U := ⟨va_Nc.moved hW.alike h.1, va_Nc.moved hW.alike h.2.1, va_Nc.moved hW.alike h.2.2⟩
theorem tN_pre {D : va_G} {w : va_W} {ty : List (ClassId × FieldType)} {av : List Value} {s : State} {H : Heap} {A : Nat → Prop} (hP : va_P D vwCl w H) (hK : va_K D vwCl ty s) (hE : tEA A s H) (hN : nE s) : ∀ U : State, U.heap = H → s.WarmedH U.vm → tN D w ty av av.toArray U :=
  fun U hU hW => ⟨rfl, by rw [hU]; exact hP, va_K.moved hW.alike hK, tEA_warm (A := nF) hW hU (tEA_na hE (fun q h => h.elim)), nE_warm hW hN⟩
/-- a method that writes and throws -/
def xP (D : va_G) (w : va_W) (ty : List (ClassId × FieldType)) (av : List Value) (sz : Nat) : Array Value → State → Prop := va_Pc av (fun U => U.heap.size = sz ∧ va_P D vwCl w U.heap ∧ va_K D vwCl ty U ∧ va_D (fun _ => True) w ∧ tEA (va_A w sz) U U.heap)
def xN (D : va_G) (w : va_W) (ty : List (ClassId × FieldType)) (av : List Value) (sz : Nat) : Array Value → State → Prop := va_Pc av (fun U => U.heap.size = sz ∧ va_P D vwCl w U.heap ∧ va_K D vwCl ty U ∧ va_D (fun _ => True) w ∧ tEA (va_A w sz) U U.heap ∧ nE U)
theorem xP_blind {D : va_G} {w : va_W} {ty : List (ClassId × FieldType)} {av : List Value} {sz : Nat} : FrameBlind (xP D w ty av sz) := fun a U g mk q => by
  obtain ⟨q0, q1, qP, qK, qD, qE⟩ := q
  exact ⟨q0, q1, qP, va_K.moved (u := U) (U := U.calling g mk a) (Vm.Alike.refl U.vm) qK, qD, tEA_calling qE⟩
theorem xN_blind {D : va_G} {w : va_W} {ty : List (ClassId × FieldType)} {av : List Value} {sz : Nat} : FrameBlind (xN D w ty av sz) := fun a U g mk q => by
  obtain ⟨q0, q1, qP, qK, qD, qE, n1, n2, n3⟩ := q
  exact ⟨q0, q1, qP, va_K.moved (u := U) (U := U.calling g mk a) (Vm.Alike.refl U.vm) qK, qD, tEA_calling qE, va_Nc.moved (u := U) (U := U.calling g mk a) (Vm.Alike.refl U.vm) n1, va_Nc.moved (u := U) (U := U.calling g mk a) (Vm.Alike.refl U.vm) n2, va_Nc.moved (u := U) (U := U.calling g mk a) (Vm.Alike.refl U.vm) n3⟩
theorem xP_pre {D : va_G} {w : va_W} {ty : List (ClassId × FieldType)} {av : List Value} {s : State} {H : Heap} {A : Nat → Prop} (hP : va_P D vwCl w H) (hK : va_K D vwCl ty s) (hD : va_D A w) (hE : tEA (va_A w H.size) s H) : ∀ U : State, U.heap = H → s.WarmedH U.vm → xP D w ty av H.size av.toArray U :=
  fun U hU hW => ⟨rfl, by rw [hU], by rw [hU]; exact hP, va_K.moved hW.alike hK, ⟨hD.1, fun _ _ _ => trivial⟩, tEA_warm hW hU hE⟩
theorem xN_pre {D : va_G} {w : va_W} {ty : List (ClassId × FieldType)} {av : List Value} {s : State} {H : Heap} {A : Nat → Prop} (hP : va_P D vwCl w H) (hK : va_K D vwCl ty s) (hD : va_D A w) (hE : tEA (va_A w H.size) s H) (hN : nE s) : ∀ U : State, U.heap = H → s.WarmedH U.vm → xN D w ty av H.size av.toArray U :=
  fun U hU hW => ⟨rfl, by rw [hU], by rw [hU]; exact hP, va_K.moved hW.alike hK, ⟨hD.1, fun _ _ _ => trivial⟩, tEA_warm hW hU hE, nE_warm hW hN⟩
def xX (D : va_G) (w w' : va_W) (E0 : String) : String → State → State → Prop := fun E st t => E = E0 ∧ va_P D vwCl w' t.heap ∧ va_F (va_A w st.heap.size) st t
theorem va_Psw {D : va_G} {cl : List vw_C} {wa wb : va_W} {H : Heap} (h : va_P D cl (wa ++ wb) H) : va_P D cl (wb ++ wa) H := va_P.app (va_Pr h) (va_Pl h)
theorem va_Dsw {A : Nat → Prop} {wa wb : va_W} (h : va_D A (wa ++ wb)) : va_D A (wb ++ wa) := by
  have hl := va_Dl h
  have hr := va_Dr h
  refine ⟨fun i j x y hx hy hxy => ?_, fun k q hk => ?_⟩
  · rw [List.getElem?_append] at hx hy
    by_cases ci : i < wb.length
    · rw [if_pos ci] at hx
      by_cases cj : j < wb.length
      · rw [if_pos cj] at hy; exact hr.1 i j x y hx hy hxy
      · rw [if_neg cj] at hy; exact absurd hxy.symm (va_Dx h hy hx)
    · rw [if_neg ci] at hx
      by_cases cj : j < wb.length
      · rw [if_pos cj] at hy; exact absurd hxy (va_Dx h hx hy)
      · rw [if_neg cj] at hy
        have := hl.1 _ _ x y hx hy hxy
        omega
  · rw [List.getElem?_append] at hk
    by_cases ck : k < wb.length
    · rw [if_pos ck] at hk; exact hr.2 k q hk
    · rw [if_neg ck] at hk; exact hl.2 _ q hk
section HB4
variable {p : Program} {l : Launch} {e : Env} {R : Room} {s : State} {m : MethodId} {args : Array Value} {below : List Frame} {meth : Method} {c : Code} {H H0 : Heap} {locs : List Loc} {cells slots : Nat} {Q : State → Prop} {cc : ByteArray} {pc : Nat} {ls : Array Slot} {rest st0 : List Value} {D : va_G} {cl : List vw_C} {tys : List (ClassId × FieldType)} {ws : va_W} {a : Nat} {A : Nat → Prop}
/-- a call of a method that writes a part of the caller's world and makes cells -/
theorem q_wcallG {mc ms : Nat} {wa wa' wb : va_W} {v : Option Value} {av : Array Value} (hr : va_Run p l e R s m args below meth c H locs cells slots mc ms (F0 m pc ls st0) rest (wQ D wa wa' v av) (va_A wa H.size)) (hP : va_P D vwCl (wa ++ wb) H) (hD : va_D A (wa ++ wb)) (hS : va_S A H0 H locs) (hA : ∀ q : Nat, H0.size ≤ q → A q) (he : wa'.map Prod.fst = wa.map Prod.fst)
    (kk : ∀ (H1 : Heap) (locs1 : List Loc), va_P D vwCl (wa' ++ wb) H1 → va_D A (wa' ++ wb) → va_S A H0 H1 locs1 → W p l e R s m args below meth c H1 locs1 (cells + mc) (slots + ms) Q (F0 m (pc + 3) ls (v.toList ++ rest))) : W p l e R s m args below meth c H locs cells slots Q (F0 m pc ls st0) := by
  have hDa := va_Dl hD
  have hF : ∀ q, va_A wa H.size q → A q := by
    intro q h
    rcases h with ⟨k, e0, h⟩ | h
    · exact hDa.2 k (q, e0) h
    · exact hA q (Nat.le_trans hS.1 h)
  intro T hT X
  obtain ⟨v', st₀, t, T', L, h0, X', hL, e1, e2, ⟨hv, hp, hz, hk⟩, st⟩ := hr T hT X
  cases hv
  rw [h0] at hz hk
  have hPb : va_P D vwCl wb T'.heap := va_Pk (A := A) (wa := wa) (va_Pr hP) (fun j y hy i x hx => va_Dx hD hx hy) (fun q h1 h2 => by rw [e1]; exact hk q h1 h2)
  obtain ⟨t2, a1, b1⟩ := kk T'.heap (locs ++ L) (va_P.app (by rw [e1]; exact hp) hPb) (va_D_re hD (by rw [List.map_append, List.map_append, he]))
    ⟨Nat.le_trans hS.1 (by rw [e1]; exact hz), fun q h1 h2 => by rw [e1, hk q (Nat.lt_of_lt_of_le h1 hS.1) (fun z => h2 (hF q z))]; exact hS.2.1 q h1 h2, fun q hq => by
      rcases List.mem_append.mp hq with h | h
      · exact hS.2.2 q h
      · exact hF _ (hL q h)⟩ T' rfl X'
  exact ⟨t2, st t2 a1, b1⟩
theorem q_wcallGI {mc ms : Nat} {wa wa' wb : va_W} {r : Int32} {av : Array Value} (hr : va_Run p l e R s m args below meth c H locs cells slots mc ms (F0 m pc ls st0) rest (wQ D wa wa' (some (.int r)) av) (va_A wa H.size)) (hP : va_P D vwCl (wa ++ wb) H) (hD : va_D A (wa ++ wb)) (hS : va_S A H0 H locs) (hA : ∀ q : Nat, H0.size ≤ q → A q) (he : wa'.map Prod.fst = wa.map Prod.fst)
    (kk : ∀ (H1 : Heap) (locs1 : List Loc), va_P D vwCl (wa' ++ wb) H1 → va_D A (wa' ++ wb) → va_S A H0 H1 locs1 → W p l e R s m args below meth c H1 locs1 (cells + mc) (slots + ms) Q (F0 m (pc + 3) ls (.int r :: rest))) : W p l e R s m args below meth c H locs cells slots Q (F0 m pc ls st0) := q_wcallG hr hP hD hS hA he kk
/-- a call of a helper that has caught a throw -/
theorem q_ecall {k : Nat} {av : Array Value} (hr : va_Run p l e R s m args below meth c H locs cells slots 1 6 (F0 m pc ls st0) rest (eQ k av) nF) (hP : va_P D vwCl ws H) (hS : va_S A H0 H locs)
    (kk : ∀ H1 : Heap, va_P D vwCl ws H1 → va_S A H0 H1 locs → W p l e R s m args below meth c H1 locs (cells + 1) (slots + 6) Q (F0 m (pc + 3) ls (.int (nI k) :: rest))) : W p l e R s m args below meth c H locs cells slots Q (F0 m pc ls st0) := by
  intro T hT X
  obtain ⟨v', st₀, t, T', L, h0, X', hL, e1, e2, ⟨hv, hz, hk⟩, st⟩ := hr T hT X
  cases hv
  have hL0 : L = [] := by
    cases L with
    | nil => rfl
    | cons z r => exact absurd (hL z List.mem_cons_self) (fun q => q)
  subst hL0
  rw [h0] at hz hk
  rw [List.append_nil] at X'
  obtain ⟨t2, a1, b1⟩ := kk T'.heap (hP.kept (fun k q hq => by rw [e1]; exact hk q.1 (hP k q hq).lt)) ⟨Nat.le_trans hS.1 (by rw [e1]; exact hz), fun q h1 h2 => by rw [e1, hk q (Nat.lt_of_lt_of_le h1 hS.1)]; exact hS.2.1 q h1 h2, hS.2.2⟩ T' rfl X'
  exact ⟨t2, st t2 a1, b1⟩
/-- a call that writes and throws, caught here -/
theorem q_catchW {E0 : String} {w w' : va_W} {av : Array Value} (hr : vx_Run p l e R s m args below meth c H locs 0 0 1 6 (F0 m pc ls st0) rest (nQ av) (xX D w w' E0) (va_A w H.size)) (hD : va_D A w) (hS : va_S A H0 H locs) (hA : ∀ q : Nat, H0.size ≤ q → A q) (he : w'.map Prod.fst = w.map Prod.fst)
    (kx : ∀ (H1 : Heap) (locs1 : List Loc) (ce : Cell) (q9 : Addr), va_P D vwCl w' H1 → va_D A w' → va_S A H0 H1 locs1 → H1[q9]? = some ce → ce.vm = .none → s.vm.findClass E0 = some ce.cls → vx_W p l e R s m args below meth c H1 locs1 1 6 Q (F0 m pc ls rest) q9) : W p l e R s m args below meth c H locs 0 0 Q (F0 m pc ls st0) := by
  have hF : ∀ q, va_A w H.size q → A q := by
    intro q h
    rcases h with ⟨k, e0, h⟩ | h
    · exact hD.2 k (q, e0) h
    · exact hA q (Nat.le_trans hS.1 h)
  intro T hT X
  rcases hr T hT X with ⟨v, st₀, t, T', L, h0, X', hL, e1, e2, hq, st⟩ | ⟨q, st₀, t, T', L, E, ce, h0, X', hL, e1, e2, hXC, hce, hcv, hcl, st⟩
  · exact hq.elim
  · obtain ⟨rfl, hp, hz, hk⟩ := hXC
    rw [h0] at hz hk
    rw [← e1] at hce
    obtain ⟨t2, a1, b1⟩ := kx T'.heap (locs ++ L) ce q (by rw [e1]; exact hp) (va_D_re hD he)
      ⟨Nat.le_trans hS.1 (by rw [e1]; exact hz), fun q h1 h2 => by rw [e1, hk q (Nat.lt_of_lt_of_le h1 hS.1) (fun z => h2 (hF q z))]; exact hS.2.1 q h1 h2, fun q hq => by
        rcases List.mem_append.mp hq with h | h
        · exact hS.2.2 q h
        · exact hF _ (hL q h)⟩ hce hcv hcl T' rfl X'
    exact ⟨t2, st.trans a1, b1⟩
end HB4

set_option maxHeartbeats 4000000 in
set_option maxRecDepth 100000 in
theorem kX0_priceXS (l : Launch) (D : va_G) (h : Nat) (ad : Nat → Nat) (cI cZ : ClassId) (ex : Nat → Bool) (pa : Nat → Option Nat) (di : Nat → Nat) (qu : Nat → Nat) (gc : Nat) (dg : Nat → Nat) (dp : Nat → Nat) (dv : Nat → Option Nat) (dd : Nat → Nat) (ds : Nat → Nat) (dc : Nat) (td : Nat) (ho : Nat → Option Nat) (ak : Nat → Bool) (se : Nat → Option Nat) (pr : Nat → Option Nat) (sz : Nat) (hlf : l.stackTraces = false) (g sp : Nat) (hg : g < 16) (hs : sp < 3) (he : ex g = true) (hpr : PR pa) (hho : HO ho dc) (hdc : dc ≤ 200) (hdv : DV dv dc) (hqu : ∀ k, k < 256 → qu k ≤ 20) (hdi : ∀ k, k < 16 → di k ≤ 100) (hpb : ∀ k, k < 16 → ∀ v, pr k = some v → v ≤ 1000000000) (hnv : prs (vlu ex pa ho dv 0 (sp + 1) (0 + 1)) qu di pr (g + 1) g = none) : vx_Met l yX0_price wsX0_price ({ frames := 6, cells := 1, slots := 6, locals := 126 } : Room) (xP D (hW h ad cI cZ ex pa di qu gc dg dp dv dd ds dc td ho ak se pr) (hT cI cZ) [.ref h, .int (nI g), .int (nI sp)] sz) nQ (xX D (hW h ad cI cZ ex pa di qu gc dg dp dv dd ds dc td ho ak se pr) (hW h ad cI cZ ex pa di qu gc dg dp dv dd ds dc td ho ak se (prs (vlu ex pa ho dv 0 (sp + 1) (0 + 1)) qu di pr (g + 1))) "java/lang/IllegalStateException") 1 6 (va_A (hW h ad cI cZ ex pa di qu gc dg dp dv dd ds dc td ho ak se pr) sz) := by
  refine vx_ofW (cc := cX0_price) (maxL := 4) (ret := (some .int)) (by decide) rfl ?_
  intro p e s m args below meth c s₁ B hml hexc hv
  obtain ⟨rfl, hsz, hP, hK, hD0, hE⟩ := hv
  have hx := B.exec
  have hb := B.bytes
  have hr := B.returns
  have hts := atoms_spec (ws := wsX0_price) B.pre
  have hown : s.vm.findClass RX0 = some m.cls := findClass_of_methodNamed B.named
  have hlocks := B.notSynchronized
  subst hsz
  have hD := hD0.self (sz := s.heap.size)
  generalize hAe : va_A (hW h ad cI cZ ex pa di qu gc dg dp dv dd ds dc td ho ak se pr) s.heap.size = A at hD hE ⊢
  have hA : ∀ q : Nat, s.heap.size ≤ q → A q := fun q h => by rw [← hAe]; exact Or.inr h
  have hS : va_S A s.heap s.heap [] := va_S.rf
  have hl := lv_entry ([.ref h, .int (nI g), .int (nI sp)]) (n := 4) (Nat.le_of_ble_eq_true rfl)
  rw [lg_entry_eq]
  generalize (lg_sl ([.ref h, .int (nI g), .int (nI sp)]) ++ List.replicate (4 - (lg_sl ([.ref h, .int (nI g), .int (nI sp)])).length) Slot.unset).toArray = ls at hl ⊢
  have hl : lv_has ls 4 [(0, .ref h), (1, .int (nI g)), (2, .int (nI sp))] := hl
  refine lv_aload_n hx hb dX0_price_0 rfl (lv_at hl 0 rfl) ?_
  refine lv_iload_n hx hb dX0_price_1 rfl (lv_at hl 1 rfl) ?_
  refine q_callV (va_runV (As := [.int (nI g)]) (rest := []) ⟨hx, hb, hml, hown, hts⟩ (kX0_checkGood l D h ad cI cZ ex pa di qu gc dg dp dv dd ds dc td ho ak se pr g hg he) (cwV 1 hts gX0_price_X0_checkGood rfl rfl rfl (by decide +kernel) ⟨Nat.le_of_ble_eq_true rfl, Nat.le_of_ble_eq_true rfl⟩) ⟨pP_blind, va_recv hK hP (ci := 0) (q0 := 0) rfl rfl, pP_pre hP hK⟩ rfl rfl hl.1 rfl (lv_room (Nat.le_of_ble_eq_true rfl)) dX0_price_2 ⟨Nat.zero_le _, Nat.zero_le _⟩) ?_
  refine lv_iload_n hx hb dX0_price_5 rfl (lv_at hl 2 rfl) ?_
  refine q_callV (va_runS (As := [.int (nI sp)]) (rest := []) ⟨hx, hb, hml, hown, hts⟩ (kX0_checkShop l sp hs) (cwS 1 hts gX0_price_X0_checkShop rfl rfl rfl (by decide +kernel) ⟨Nat.le_of_ble_eq_true rfl, Nat.le_of_ble_eq_true rfl⟩) ⟨sP_blind, sP_pre⟩ rfl rfl hl.1 rfl (lv_room (Nat.le_of_ble_eq_true rfl)) dX0_price_6 ⟨Nat.zero_le _, Nat.zero_le _⟩) ?_
  refine lv_aload_n hx hb dX0_price_9 rfl (lv_at hl 0 rfl) ?_
  refine lv_iload_n hx hb dX0_price_10 rfl (lv_at hl 1 rfl) ?_
  refine lv_iload_n hx hb dX0_price_11 rfl (lv_at hl 2 rfl) ?_
  refine q_wcallI (r := oI (prs (vlu ex pa ho dv 0 (sp + 1) (0 + 1)) qu di pr (g + 1) g)) (w' := (hW h ad cI cZ ex pa di qu gc dg dp dv dd ds dc td ho ak se (prs (vlu ex pa ho dv 0 (sp + 1) (0 + 1)) qu di pr (g + 1)))) (va_runV (As := [.int (nI g), .int (nI sp)]) (rest := []) ⟨hx, hb, hml, hown, hts⟩ (kX0_findPrice l D h ad cI cZ ex pa di qu gc dg dp dv dd ds dc td ho ak se pr _ g sp hg hs hpr hho hdc hdv hqu hdi hpb) (cwV 2 hts gX0_price_X0_findPrice rfl rfl rfl (by decide +kernel) ⟨Nat.le_of_ble_eq_true rfl, Nat.le_of_ble_eq_true rfl⟩) ⟨wP_blind, va_recv hK hP (ci := 0) (q0 := 0) rfl rfl, wP_pre hP hK hD⟩ rfl rfl hl.1 rfl (lv_room (Nat.le_of_ble_eq_true rfl)) dX0_price_12 ⟨Nat.zero_le _, Nat.zero_le _⟩) hD hS hA rfl (fun H locs hP hD hS => ?_)
  refine lv_istore_n (lv' := [(3, .int (oI (prs (vlu ex pa ho dv 0 (sp + 1) (0 + 1)) qu di pr (g + 1) g))), (0, .ref h), (1, .int (nI g)), (2, .int (nI sp))]) hx hb dX0_price_15 rfl hl (by decide) rfl (fun ls hl => ?_)
  refine lv_iload_n hx hb dX0_price_16 rfl (lv_at hl 0 rfl) ?_
  refine lv_iconst (v := oI none) hx hb dX0_price_17 (by decide) ?_
  refine q_icmpO_ne (a := prs (vlu ex pa ho dv 0 (sp + 1) (0 + 1)) qu di pr (g + 1) g) (b := none) (tgt := 31) (fun k h9 => by have := prs_in (fun k hk => vlu_in hho hpr hdv hk (by omega) (show sp + 1 < 4 by omega) (by omega)) hpb (g + 1) (by omega) g hg k h9; omega) (fun k h9 => by cases h9) hx hb dX0_price_18 (by decide) (fun k18 => absurd hnv k18) (fun k18 => ?_)
  have hEH : tEA A s H := tEA_at hE hS
  obtain ⟨sa, hstr⟩ := hEH.2.2.1 (197, "there is no price, or one that counts for it is too high") (by decide +kernel)
  exact vx_throwS (is := 197) (text := "there is no price, or one that counts for it is too high") (names := ["java/lang/RuntimeException", "java/lang/Exception"]) (A := A) hx hb hlf hown (by decide +kernel) (by decide +kernel) (hts (.classLink RX0 68 "java/lang/IllegalStateException") (by decide +kernel)) (hts (.initialized "java/lang/IllegalStateException") (by decide +kernel)) hstr (vx_hat (B := tB "java/lang/IllegalStateException") (fun w hw => hts w (thS_price w hw)) (by decide +kernel) (tE_B (tEA_na hE (fun q h => h.elim)) (by decide))) (by decide +kernel) hE.1 hE.2.1 hS (hl.1.trans hml.symm) dX0_price_21 dX0_price_24 dX0_price_25 dX0_price_27 dX0_price_30 (fun z hz => (hexc z hz).elim) (Nat.le_of_ble_eq_true rfl) (Nat.le_of_ble_eq_true rfl) (Nat.le_of_ble_eq_true rfl) (Nat.le_of_ble_eq_true rfl) hlocks (fun t ht h1 h2 => ⟨rfl, hP.kept (fun k q hq => h2 q.1 (hP k q hq).lt), Nat.le_trans hS.1 h1, fun q h3 h4 => by rw [h2 q (Nat.lt_of_lt_of_le h3 hS.1)]; exact hS.2.1 q h3 (by rw [← hAe]; exact h4)⟩) hS.2.2 (Nat.le_refl 1) (Nat.le_refl 6)

set_option maxHeartbeats 4000000 in
set_option maxRecDepth 100000 in
theorem kL_priceXS (l : Launch) (D : va_G) (h : Nat) (ad : Nat → Nat) (cI cZ : ClassId) (ex : Nat → Bool) (pa : Nat → Option Nat) (di : Nat → Nat) (qu : Nat → Nat) (gc : Nat) (dg : Nat → Nat) (dp : Nat → Nat) (dv : Nat → Option Nat) (dd : Nat → Nat) (ds : Nat → Nat) (dc : Nat) (td : Nat) (ho : Nat → Option Nat) (ak : Nat → Bool) (se : Nat → Option Nat) (pr : Nat → Option Nat) (sz : Nat) (hlf : l.stackTraces = false) (ob : Nat) (g sp : Nat) (hg : g < 16) (hs : sp < 3) (he : ex g = true) (hpr : PR pa) (hho : HO ho dc) (hdc : dc ≤ 200) (hdv : DV dv dc) (hqu : ∀ k, k < 256 → qu k ≤ 20) (hdi : ∀ k, k < 16 → di k ≤ 100) (hpb : ∀ k, k < 16 → ∀ v, pr k = some v → v ≤ 1000000000) (hnv : prs (vlu ex pa ho dv 0 (sp + 1) (0 + 1)) qu di pr (g + 1) g = none) : Met l yL_price wsL_price ({ frames := 7, cells := 1, slots := 6, locals := 149 } : Room) (xN D (hW h ad cI cZ ex pa di qu gc dg dp dv dd ds dc td ho ak se pr) (hT cI cZ) [.ref h, .int (nI g), .int (nI sp), .ref ob] sz) (wQ D (hW h ad cI cZ ex pa di qu gc dg dp dv dd ds dc td ho ak se pr) (hW h ad cI cZ ex pa di qu gc dg dp dv dd ds dc td ho ak se (prs (vlu ex pa ho dv 0 (sp + 1) (0 + 1)) qu di pr (g + 1))) (some (.int (nI 2)))) 1 6 (va_A (hW h ad cI cZ ex pa di qu gc dg dp dv dd ds dc td ho ak se pr) sz) := by
  refine mt_ofWH (cc := cL_price) (maxL := 5) (ret := (some .int)) (by decide) rfl ?_
  intro p e s m args below meth c s₁ B hml htab hv
  obtain ⟨rfl, hsz, hP, hK, hD0, hE, hN⟩ := hv
  have hx := B.exec
  have hb := B.bytes
  have hr := B.returns
  have hts := atoms_spec (ws := wsL_price) B.pre
  have hown : s.vm.findClass RL = some m.cls := findClass_of_methodNamed B.named
  have hlocks := B.notSynchronized
  subst hsz
  have hE0 := hE
  have hD := hD0.self (sz := s.heap.size)
  generalize hAe : va_A (hW h ad cI cZ ex pa di qu gc dg dp dv dd ds dc td ho ak se pr) s.heap.size = A at hD hE ⊢
  have hA : ∀ q : Nat, s.heap.size ≤ q → A q := fun q h => by rw [← hAe]; exact Or.inr h
  have hS : va_S A s.heap s.heap [] := va_S.rf
  have hl := lv_entry ([.ref h, .int (nI g), .int (nI sp), .ref ob]) (n := 5) (Nat.le_of_ble_eq_true rfl)
  rw [lg_entry_eq]
  generalize (lg_sl ([.ref h, .int (nI g), .int (nI sp), .ref ob]) ++ List.replicate (5 - (lg_sl ([.ref h, .int (nI g), .int (nI sp), .ref ob])).length) Slot.unset).toArray = ls at hl ⊢
  have hl : lv_has ls 5 [(0, .ref h), (1, .int (nI g)), (2, .int (nI sp)), (3, .ref ob)] := hl
  refine lv_aload_n hx hb dL_price_0 rfl (lv_at hl 3 rfl) ?_
  refine lv_iconst (v := nI 0) hx hb dL_price_1 (by decide) ?_
  refine lv_aload_n hx hb dL_price_2 rfl (lv_at hl 0 rfl) ?_
  refine lv_iload_n hx hb dL_price_3 rfl (lv_at hl 1 rfl) ?_
  refine lv_iload_n hx hb dL_price_4 rfl (lv_at hl 2 rfl) ?_
  refine q_catchW (w' := (hW h ad cI cZ ex pa di qu gc dg dp dv dd ds dc td ho ak se (prs (vlu ex pa ho dv 0 (sp + 1) (0 + 1)) qu di pr (g + 1)))) (vx_runV (As := [.int (nI g), .int (nI sp)]) (rest := [.int (nI 0), .ref ob]) ⟨hx, hb, hml, hown, hts⟩ (kX0_priceXS l D h ad cI cZ ex pa di qu gc dg dp dv dd ds dc td ho ak se pr _ hlf g sp hg hs he hpr hho hdc hdv hqu hdi hpb hnv) (cwV 2 hts gL_price_X0_price rfl rfl rfl (by decide +kernel) ⟨Nat.le_of_ble_eq_true rfl, Nat.le_of_ble_eq_true rfl⟩) ⟨xP_blind, va_recv hK hP (ci := 0) (q0 := 0) rfl rfl, xP_pre hP hK hD hE0⟩ rfl rfl hl.1 rfl (lv_room (Nat.le_of_ble_eq_true rfl)) dL_price_5 ⟨Nat.le_of_ble_eq_true rfl, Nat.le_of_ble_eq_true rfl⟩) hD hS hA rfl (fun H locs ce q9 hP hD hS h3 h4 h5 => ?_)
  obtain ⟨t0, ht0, htab⟩ := tab_c htab
  obtain ⟨t1, ht1, htab⟩ := tab_c htab
  refine vx_catch (own := RL) (name := "java/lang/IllegalStateException") (E := "java/lang/IllegalStateException") hown [⟨0, 10, 13, 13⟩] ⟨0, 10, 17, 15⟩ t1 (ht0.trans (congrArg (List.cons ⟨0, 10, 13, 13⟩) ht1)) (fun z hz => by
    simp only [List.mem_cons, List.not_mem_nil, or_false] at hz
    subst hz
    exact Or.inr ⟨by decide, "java/lang/IndexOutOfBoundsException", hts (.classLink RL 13 "java/lang/IndexOutOfBoundsException") (by decide +kernel), hN.1⟩) (by decide) (by decide) (hts (.classLink RL 15 "java/lang/IllegalStateException") (by decide +kernel)) (va_Nw.use rfl (hE.2.2.2.1 "java/lang/IllegalStateException" (by decide))) h3 h4 h5 ?_
  refine lv_astore (lv' := [(4, .ref q9), (0, .ref h), (1, .int (nI g)), (2, .int (nI sp)), (3, .ref ob)]) hx hb dL_price_17 hl (by decide) rfl (fun ls hl => ?_)
  refine lv_iconst (v := nI 2) hx hb dL_price_19 (by decide) ?_
  exact W.iret (v := nI 2) hx hb hr (fun t ht hW => ⟨rfl, by rw [ht]; exact hP, by rw [hAe]; exact hS.F ht⟩) hS.2.2 dL_price_20 hlocks
