/-- as the claim's room, but wider -/
def room_2 : Room := { frames := 14, cells := 400, slots := 8000, locals := 568 }
/-- what holds at the law's entry -/
def lc_At (p : Program) (s : State) (m : MethodId) (meth : Method) (c : Code) (b L : Nat) (xs : Nat → Int32) : Prop :=
  p.tables.exec = Jvm.exec ∧ c.code = code ∧ c.maxLocals = 10 ∧ s.vm.findClass RL = some m.cls ∧ (∀ w ∈ lw_tbl, w.before #[Value.ref b] s = true) ∧ va_X b L xs s s.heap ∧ b < s.heap.size ∧ meth.locks = false ∧ (Jvm.Cond.and given_1 narrow_1).before #[Value.ref b] s = true
/-- more than 118 cells are new, and the law hasn't ended -/
def lc_Q (below : List Frame) (s : State) : State → Prop := fun t => s.heap.size + 118 < t.heap.size ∧ Within t below
set_option maxRecDepth 100000 in
theorem hb_t : ∀ q ∈ hbS, Cond.stringRef RX0 q.1 q.2 ∈ lw_tbl := by decide +kernel
set_option maxRecDepth 100000 in
theorem hb_x : ∀ q ∈ hbS, Cond.exactly (.string RX0 q.1) "java/lang/String" ∈ flatC (Jvm.Cond.and given_1 narrow_1) := by decide +kernel
set_option maxRecDepth 100000 in
theorem ex_t : ∀ E ∈ exN, Cond.castable E E ∈ lw_tbl := by decide +kernel
set_option maxRecDepth 100000 in
theorem dc_t : ∀ Y ∈ dcN, Cond.declares (Bundle.initS Y) ∈ lw_tbl := by decide +kernel
set_option maxRecDepth 100000 in
theorem st_t : Cond.laysStatic Bundle.tN "UNASSIGNED_STACK" Bundle.steD ∈ lw_tbl ∧ Cond.laysStatic Bundle.tN "SUPPRESSED_SENTINEL" Bundle.listD ∈ lw_tbl ∧ Cond.initialized Bundle.tN ∈ lw_tbl := by decide +kernel
set_option maxRecDepth 100000 in
theorem st_x : Cond.isRef (.static Bundle.tN "UNASSIGNED_STACK" Bundle.steD) ∈ flatC (Jvm.Cond.and given_1 narrow_1) ∧ Cond.isRef (.static Bundle.tN "SUPPRESSED_SENTINEL" Bundle.listD) ∈ flatC (Jvm.Cond.and given_1 narrow_1) := by decide +kernel
set_option maxRecDepth 100000 in
theorem nc_x : Cond.not (.castable "java/lang/IllegalStateException" "java/lang/IndexOutOfBoundsException") ∈ flatC (Jvm.Cond.and given_1 narrow_1) ∧ Cond.not (.castable "java/lang/IllegalArgumentException" "java/lang/IndexOutOfBoundsException") ∈ flatC (Jvm.Cond.and given_1 narrow_1) ∧ Cond.not (.castable "java/lang/IllegalStateException" "java/lang/IllegalArgumentException") ∈ flatC (Jvm.Cond.and given_1 narrow_1) := by decide +kernel
theorem lw_E {args : Array Value} {s : State} (ht : ∀ w ∈ lw_tbl, w.before args s = true) (hg : (Jvm.Cond.and given_1 narrow_1).before args s = true) : tEA (fun q : Nat => s.heap.size ≤ q) s s.heap ∧ nE s := by
  have hs := flat_of_before _ hg
  have hA : ∀ a : Nat, a < s.heap.size → ¬ (fun q : Nat => s.heap.size ≤ q) a := fun a h => Nat.not_le.mpr h
  refine ⟨⟨vx_Zqof (ht _ st_t.1) (ht _ st_t.2.2) (hs _ st_x.1) hA, vx_Zqof (ht _ st_t.2.1) (ht _ st_t.2.2) (hs _ st_x.2) hA, fun q hq => ?_, fun E hE => va_Nw.of rfl (ht _ (ex_t E hE)), fun Y hY => va_Nw.of rfl (ht _ (dc_t Y hY))⟩, va_Nc.of (hs _ nc_x.1), va_Nc.of (hs _ nc_x.2.1), va_Nc.of (hs _ nc_x.2.2)⟩
  obtain ⟨a, c, cell, k, q1, -⟩ := Cond.exactly_spec (args := args) (first := s) (o := none) (s := s) (idx := []) (t := .string RX0 q.1) (cls := "java/lang/String") (hs _ (hb_x q hq))
  exact ⟨a, vk_R.of (ht _ (hb_t q hq)) q1⟩
theorem r1_in : ∀ w ∈ wsL_law0_r1, w ∈ wsL_law := fun _ h => List.mem_append_left _ (List.mem_append_left _ (List.mem_append_left _ (List.mem_append_left _ (List.mem_append_left _ (List.mem_append_left _ h)))))
set_option maxHeartbeats 4000000 in
set_option maxRecDepth 100000 in
theorem law_walk {p : Program} {e : Env} {s : State} {m : MethodId} {below : List Frame} {meth : Method} {c : Code} (l : Launch) (hflags : l.flags = flags0) {b L : Nat} (hL : 80 ≤ L) (hL2 : L < 2147483648) (C0 : lc_At p s m meth c b L (fun _ => nI 39)) : W p l e room_2 s m #[Value.ref b] below meth c s.heap [] 0 0 (lc_Q below s) (entryFrame m ([Value.ref b] : List Value).toArray 10) := by
  have hlf : l.stackTraces = false := by unfold Launch.stackTraces; rw [hflags]; decide
  obtain ⟨hx, hb, hml, hown, hts0, hX, hbl, hlocks, hgv⟩ := id C0
  have hts : ∀ w ∈ wsL_law, w.before #[Value.ref b] s = true := fun w hw => hts0 w (wsL_law_in w hw)
  have ht1 : ∀ w ∈ wsL_law0_r1, w.before #[Value.ref b] s = true := fun w hw => hts w (r1_in w hw)
  have hA : ∀ q : Nat, s.heap.size ≤ q → (fun q : Nat => s.heap.size ≤ q) q := fun _ h => h
  have hbA : ¬ (fun q : Nat => s.heap.size ≤ q) b := Nat.not_le.mpr hbl
  obtain ⟨hE, hN⟩ := lw_E hts0 hgv
  obtain ⟨c0, iS0, hKn0⟩ := u_known (C := RX0) (T := TX0) (N := 16) (n := 16) hts inlX0 (ht1 (.instantiable RX0 16) (by decide +kernel))
  obtain ⟨D, hKc⟩ : ∃ D : va_G, ∀ (k : Nat) (q : vw_C), vwCl[k]? = some q → u_Kn s q.1 q.2.1 q.2.2 (D.1 k) (D.2 k) := by
    refine ⟨(fun _ => c0, fun _ => iS0), ?_⟩
    intro k q hq
    match k, hq with
    | 0, hq => cases hq; exact hKn0
    | k + 1, hq => simp [vwCl] at hq
  have hS : va_S (fun q : Nat => s.heap.size ≤ q) s.heap s.heap [] := va_S.rf
  have hK : va_K D vwCl [] s := ⟨hKc, fun k q h => by simp at h⟩
  have hP : va_P D vwCl [] s.heap := fun k q h => by simp at h
  have hD : va_D (fun q : Nat => s.heap.size ≤ q) [] := ⟨fun i j p q h => by simp at h, fun k q h => by simp at h⟩
  have hl := lv_entry ([.ref b]) (n := 10) (Nat.le_of_ble_eq_true rfl)
  rw [lg_entry_eq]
  generalize (lg_sl ([.ref b]) ++ List.replicate (10 - (lg_sl ([.ref b])).length) Slot.unset).toArray = ls at hl ⊢
  have hl : lv_has ls 10 [(0, .ref b)] := hl
  refine va_new (ci := 0) (fs := [.null, .null, .null, .null, .int 0, .null, .null, .null, .null, .null, .int 0, .int 0, .null, .null, .null, .null]) (C := RX0) (T := TX0) (N := 16) hx hb hts inlX0 tyX0 tyX0_ok hown (ht1 (.classLink RL 9 RX0) (by decide +kernel)) (ht1 (.instantiable RX0 16) (by decide +kernel)) (ht1 (.initialized RX0) (by decide +kernel)) hK hP hD hS hA rfl (fun j hj => match j, hj with | 0, _ => rfl | 1, _ => rfl | 2, _ => rfl | 3, _ => rfl | 4, _ => rfl | 5, _ => rfl | 6, _ => rfl | 7, _ => rfl | 8, _ => rfl | 9, _ => rfl | 10, _ => rfl | 11, _ => rfl | 12, _ => rfl | 13, _ => rfl | 14, _ => rfl | 15, _ => rfl | k + 16, h9 => absurd h9 (by omega)) (Nat.le_of_ble_eq_true rfl) (Nat.le_of_ble_eq_true rfl) dL_law_0 (fun h H hP hD hS => ?_)
  have hP : va_P D vwCl (h0W h ++ []) H := hP
  have hD : va_D (fun q : Nat => s.heap.size ≤ q) (h0W h ++ []) := hD
  refine lv_dup hx hb dL_law_3 rfl ?_
  refine q_newc (mc := 13) (ms := 3738) (wa := h0W h) (wb := []) (B := fun st t => ∃ (ad : Nat → Nat) (cI cZ : ClassId), va_P D vwCl (hWi h ad cI cZ) t.heap ∧ va_K D vwCl (hT cI cZ) t ∧ va_D (va_A (h0W h) st.heap.size) (hWi h ad cI cZ)) (va_runI (As := []) (rest := [.ref h]) ⟨hx, hb, hml, hown, hts⟩ (kX0_init l D h H.size) (cwI 0 hts gL_law_X0_init rfl rfl rfl (ht1 (.initialized RX0) (by decide +kernel)) (ht1 (.methodLink RL 143 yX0_init) (by decide +kernel)) (ht1 (.instanceMethod yX0_init) (by decide +kernel)) rfl (by decide +kernel) ⟨Nat.le_of_ble_eq_true rfl, Nat.le_of_ble_eq_true rfl⟩) ⟨wP_blind, wP_pre (va_Pl hP) hK (va_Dl hD)⟩ rfl rfl hl.1 rfl (lv_room (Nat.le_of_ble_eq_true rfl)) dL_law_4 ⟨Nat.le_of_ble_eq_true rfl, Nat.le_of_ble_eq_true rfl⟩) hP hD hS hA (fun st t H1 locs es et hvm hB hPb hS1 => ?_)
  obtain ⟨ad, cI, cZ, hP1, hK1, hD1⟩ := hB
  rw [et] at hP1
  rw [es] at hD1
  have hK := va_K.moved hvm.symm hK1
  have hD := va_Dj hP hD (lq_sub (va_Dl hD) hS) hD1
  have hP := va_P.app hP1 hPb
  have hS := hS1
  clear hS1
  generalize H1 = H at hP hD hS ⊢
  have hP : va_P D vwCl (hWi h ad cI cZ) H := va_Pl hP
  have hD : va_D (fun q : Nat => s.heap.size ≤ q) (hWi h ad cI cZ) := va_Dl hD
  refine lv_astore_n (lv' := [(1, .ref h), (0, .ref b)]) hx hb dL_law_7 rfl hl (by decide) rfl (fun ls hl => ?_)
  refine lv_bipush (v := nI 24) hx hb dL_law_8 (by decide) ?_
  refine va_newa (atype := .int) (ty := .int) (n := nI 24) (N' := 24) (a0 := (24, .inl (fun _ => 0))) hx hb (ht1 (.arrayClass .int) (by decide +kernel)) rfl hK hP hD hS hA (fun _ => rfl) (by decide) (by decide) (by decide) (Nat.le_of_ble_eq_true rfl) (Nat.le_of_ble_eq_true rfl) dL_law_10 (fun ta c9 H hK hP hD hS => ?_)
  have hK : va_K D vwCl [(cZ, .boolean), (cI, .int), (c9, .int)] s := hK
  obtain rfl : cI = c9 := ty_eq hK 1 2 rfl rfl (fun C h9 => by cases h9)
  have hK : va_K D vwCl (hT cI cZ) s := hK.sub [0, 1] rfl
  have hP : va_P D vwCl ((hWi h ad cI cZ) ++ [(ta, .inl (cI, 24, .inl (fun _ => 0)))]) H := hP
  have hD : va_D (fun q : Nat => s.heap.size ≤ q) ((hWi h ad cI cZ) ++ [(ta, .inl (cI, 24, .inl (fun _ => 0)))]) := hD
  refine lv_astore_n (lv' := [(2, .ref ta), (1, .ref h), (0, .ref b)]) hx hb dL_law_12 rfl hl (by decide) rfl (fun ls hl => ?_)
  refine lv_bipush (v := nI 64) hx hb dL_law_13 (by decide) ?_
  refine va_newa (atype := .int) (ty := .int) (n := nI 64) (N' := 64) (a0 := (64, .inl (fun _ => 0))) hx hb (ht1 (.arrayClass .int) (by decide +kernel)) rfl hK hP hD hS hA (fun _ => rfl) (by decide) (by decide) (by decide) (Nat.le_of_ble_eq_true rfl) (Nat.le_of_ble_eq_true rfl) dL_law_15 (fun qa c9 H hK hP hD hS => ?_)
  have hK : va_K D vwCl [(cZ, .boolean), (cI, .int), (c9, .int)] s := hK
  obtain rfl : cI = c9 := ty_eq hK 1 2 rfl rfl (fun C h9 => by cases h9)
  have hK : va_K D vwCl (hT cI cZ) s := hK.sub [0, 1] rfl
  have hP : va_P D vwCl (((hWi h ad cI cZ) ++ [(ta, .inl (cI, 24, .inl (fun _ => 0)))]) ++ [(qa, .inl (cI, 64, .inl (fun _ => 0)))]) H := hP
  have hD : va_D (fun q : Nat => s.heap.size ≤ q) (((hWi h ad cI cZ) ++ [(ta, .inl (cI, 24, .inl (fun _ => 0)))]) ++ [(qa, .inl (cI, 64, .inl (fun _ => 0)))]) := hD
  refine lv_astore_n (lv' := [(3, .ref qa), (2, .ref ta), (1, .ref h), (0, .ref b)]) hx hb dL_law_17 rfl hl (by decide) rfl (fun ls hl => ?_)
  refine lv_bipush (v := nI 60) hx hb dL_law_18 (by decide) ?_
  refine va_newa (atype := .int) (ty := .int) (n := nI 60) (N' := 60) (a0 := (60, .inl (fun _ => 0))) hx hb (ht1 (.arrayClass .int) (by decide +kernel)) rfl hK hP hD hS hA (fun _ => rfl) (by decide) (by decide) (by decide) (Nat.le_of_ble_eq_true rfl) (Nat.le_of_ble_eq_true rfl) dL_law_20 (fun da c9 H hK hP hD hS => ?_)
  have hK : va_K D vwCl [(cZ, .boolean), (cI, .int), (c9, .int)] s := hK
  obtain rfl : cI = c9 := ty_eq hK 1 2 rfl rfl (fun C h9 => by cases h9)
  have hK : va_K D vwCl (hT cI cZ) s := hK.sub [0, 1] rfl
  have hP : va_P D vwCl ((((hWi h ad cI cZ) ++ [(ta, .inl (cI, 24, .inl (fun _ => 0)))]) ++ [(qa, .inl (cI, 64, .inl (fun _ => 0)))]) ++ [(da, .inl (cI, 60, .inl (fun _ => 0)))]) H := hP
  have hD : va_D (fun q : Nat => s.heap.size ≤ q) ((((hWi h ad cI cZ) ++ [(ta, .inl (cI, 24, .inl (fun _ => 0)))]) ++ [(qa, .inl (cI, 64, .inl (fun _ => 0)))]) ++ [(da, .inl (cI, 60, .inl (fun _ => 0)))]) := hD
  refine lv_astore (lv' := [(4, .ref da), (3, .ref qa), (2, .ref ta), (1, .ref h), (0, .ref b)]) hx hb dL_law_22 hl (by decide) rfl (fun ls hl => ?_)
  refine lv_bipush (v := nI 60) hx hb dL_law_24 (by decide) ?_
  refine va_newa (atype := .int) (ty := .int) (n := nI 60) (N' := 60) (a0 := (60, .inl (fun _ => 0))) hx hb (ht1 (.arrayClass .int) (by decide +kernel)) rfl hK hP hD hS hA (fun _ => rfl) (by decide) (by decide) (by decide) (Nat.le_of_ble_eq_true rfl) (Nat.le_of_ble_eq_true rfl) dL_law_26 (fun ea c9 H hK hP hD hS => ?_)
  have hK : va_K D vwCl [(cZ, .boolean), (cI, .int), (c9, .int)] s := hK
  obtain rfl : cI = c9 := ty_eq hK 1 2 rfl rfl (fun C h9 => by cases h9)
  have hK : va_K D vwCl (hT cI cZ) s := hK.sub [0, 1] rfl
  have hP : va_P D vwCl (((((hWi h ad cI cZ) ++ [(ta, .inl (cI, 24, .inl (fun _ => 0)))]) ++ [(qa, .inl (cI, 64, .inl (fun _ => 0)))]) ++ [(da, .inl (cI, 60, .inl (fun _ => 0)))]) ++ [(ea, .inl (cI, 60, .inl (fun _ => 0)))]) H := hP
  have hD : va_D (fun q : Nat => s.heap.size ≤ q) (((((hWi h ad cI cZ) ++ [(ta, .inl (cI, 24, .inl (fun _ => 0)))]) ++ [(qa, .inl (cI, 64, .inl (fun _ => 0)))]) ++ [(da, .inl (cI, 60, .inl (fun _ => 0)))]) ++ [(ea, .inl (cI, 60, .inl (fun _ => 0)))]) := hD
  refine lv_astore (lv' := [(5, .ref ea), (4, .ref da), (3, .ref qa), (2, .ref ta), (1, .ref h), (0, .ref b)]) hx hb dL_law_28 hl (by decide) rfl (fun ls hl => ?_)
  refine lv_iconst (v := nI 3) hx hb dL_law_30 (by decide) ?_
  refine va_newa (atype := .int) (ty := .int) (n := nI 3) (N' := 3) (a0 := (3, .inl (fun _ => 0))) hx hb (ht1 (.arrayClass .int) (by decide +kernel)) rfl hK hP hD hS hA (fun _ => rfl) (by decide) (by decide) (by decide) (Nat.le_of_ble_eq_true rfl) (Nat.le_of_ble_eq_true rfl) dL_law_31 (fun aa c9 H hK hP hD hS => ?_)
  have hK : va_K D vwCl [(cZ, .boolean), (cI, .int), (c9, .int)] s := hK
  obtain rfl : cI = c9 := ty_eq hK 1 2 rfl rfl (fun C h9 => by cases h9)
  have hK : va_K D vwCl (hT cI cZ) s := hK.sub [0, 1] rfl
  have hP : va_P D vwCl ((((((hWi h ad cI cZ) ++ [(ta, .inl (cI, 24, .inl (fun _ => 0)))]) ++ [(qa, .inl (cI, 64, .inl (fun _ => 0)))]) ++ [(da, .inl (cI, 60, .inl (fun _ => 0)))]) ++ [(ea, .inl (cI, 60, .inl (fun _ => 0)))]) ++ [(aa, .inl (cI, 3, .inl (fun _ => 0)))]) H := hP
  have hD : va_D (fun q : Nat => s.heap.size ≤ q) ((((((hWi h ad cI cZ) ++ [(ta, .inl (cI, 24, .inl (fun _ => 0)))]) ++ [(qa, .inl (cI, 64, .inl (fun _ => 0)))]) ++ [(da, .inl (cI, 60, .inl (fun _ => 0)))]) ++ [(ea, .inl (cI, 60, .inl (fun _ => 0)))]) ++ [(aa, .inl (cI, 3, .inl (fun _ => 0)))]) := hD
  refine lv_astore (lv' := [(6, .ref aa), (5, .ref ea), (4, .ref da), (3, .ref qa), (2, .ref ta), (1, .ref h), (0, .ref b)]) hx hb dL_law_33 hl (by decide) rfl (fun ls hl => ?_)
  refine lv_iconst (v := nI 3) hx hb dL_law_35 (by decide) ?_
  refine va_newa (atype := .int) (ty := .int) (n := nI 3) (N' := 3) (a0 := (3, .inl (fun _ => 0))) hx hb (ht1 (.arrayClass .int) (by decide +kernel)) rfl hK hP hD hS hA (fun _ => rfl) (by decide) (by decide) (by decide) (Nat.le_of_ble_eq_true rfl) (Nat.le_of_ble_eq_true rfl) dL_law_36 (fun ga c9 H hK hP hD hS => ?_)
  have hK : va_K D vwCl [(cZ, .boolean), (cI, .int), (c9, .int)] s := hK
  obtain rfl : cI = c9 := ty_eq hK 1 2 rfl rfl (fun C h9 => by cases h9)
  have hK : va_K D vwCl (hT cI cZ) s := hK.sub [0, 1] rfl
  have hP : va_P D vwCl (((((((hWi h ad cI cZ) ++ [(ta, .inl (cI, 24, .inl (fun _ => 0)))]) ++ [(qa, .inl (cI, 64, .inl (fun _ => 0)))]) ++ [(da, .inl (cI, 60, .inl (fun _ => 0)))]) ++ [(ea, .inl (cI, 60, .inl (fun _ => 0)))]) ++ [(aa, .inl (cI, 3, .inl (fun _ => 0)))]) ++ [(ga, .inl (cI, 3, .inl (fun _ => 0)))]) H := hP
  have hD : va_D (fun q : Nat => s.heap.size ≤ q) (((((((hWi h ad cI cZ) ++ [(ta, .inl (cI, 24, .inl (fun _ => 0)))]) ++ [(qa, .inl (cI, 64, .inl (fun _ => 0)))]) ++ [(da, .inl (cI, 60, .inl (fun _ => 0)))]) ++ [(ea, .inl (cI, 60, .inl (fun _ => 0)))]) ++ [(aa, .inl (cI, 3, .inl (fun _ => 0)))]) ++ [(ga, .inl (cI, 3, .inl (fun _ => 0)))]) := hD
  refine lv_astore (lv' := [(7, .ref ga), (6, .ref aa), (5, .ref ea), (4, .ref da), (3, .ref qa), (2, .ref ta), (1, .ref h), (0, .ref b)]) hx hb dL_law_38 hl (by decide) rfl (fun ls hl => ?_)
  have hP : va_P D vwCl ((hWi h ad cI cZ) ++ [(ga, .inl (cI, 3, .inl (fun _ => nI 0)))]) H := va_P.app (va_Pl (va_Pl (va_Pl (va_Pl (va_Pl (va_Pl hP)))))) (va_Pr hP)
  clear hD
  have hz : s.heap.size + 0 ≤ H.size := hS.1
  refine lv_aload_n hx hb dL_law_40 rfl (lv_at hl 6 rfl) ?_
  refine lv_aload_n hx hb dL_law_41 rfl (lv_at hl 5 rfl) ?_
  refine lv_aload_n hx hb dL_law_42 rfl (lv_at hl 4 rfl) ?_
  refine lv_aload hx hb dL_law_43 (lv_at hl 0 rfl) ?_
  refine q_rcall (va_runS (As := [.ref h, .ref ta, .ref qa, .ref ga]) (rest := []) ⟨hx, hb, hml, hown, hts⟩ (kL_areShops l D h ad cI cZ hlf ta qa ga) (va_cwS 4 hts gL_law_L_areShops rfl rfl rfl (by decide +kernel) ⟨Nat.le_of_ble_eq_true rfl, Nat.le_of_ble_eq_true rfl⟩) ⟨tP_blind, tP_preH hP hK (tEA_at hE hS)⟩ rfl rfl hl.1 rfl (lv_room (Nat.le_of_ble_eq_true rfl)) dL_law_45 ⟨Nat.le_of_ble_eq_true rfl, Nat.le_of_ble_eq_true rfl⟩) hP hS hz (fun H hP hS hz => ?_)
  refine lv_istore (lv' := [(8, .int (bI true)), (7, .ref ga), (6, .ref aa), (5, .ref ea), (4, .ref da), (3, .ref qa), (2, .ref ta), (1, .ref h), (0, .ref b)]) hx hb dL_law_48 hl (by decide) rfl (fun ls hl => ?_)
  refine lv_iconst (v := nI 0) hx hb dL_law_50 (by decide) ?_
  refine lv_istore (lv' := [(9, .int (nI 0)), (8, .int (bI true)), (7, .ref ga), (6, .ref aa), (5, .ref ea), (4, .ref da), (3, .ref qa), (2, .ref ta), (1, .ref h), (0, .ref b)]) hx hb dL_law_51 hl (by decide) rfl (fun ls hl => ?_)
  refine W.widen (k := 26 + 7 * 0) (n := 4004 + 42 * 0) (Nat.le_of_ble_eq_true rfl) (Nat.le_of_ble_eq_true rfl) ?_
  have hz : s.heap.size + 7 * 0 ≤ H.size := by omega
  have loop : ∀ (g k : Nat), k + g = 17 → ∀ (H : Heap) (locs : List Loc) (ls : Array Slot), va_P D vwCl ((hWi h ad cI cZ) ++ [(ga, .inl (cI, 3, .inl (fun _ => nI 0)))]) H → va_S (fun q : Nat => s.heap.size ≤ q) s.heap H locs → s.heap.size + 7 * k ≤ H.size → lv_has ls 10 [(9, .int (nI k)), (8, .int (bI true)), (0, .ref b), (1, .ref h), (2, .ref ta), (3, .ref qa), (4, .ref da), (5, .ref ea), (6, .ref aa), (7, .ref ga)] → W p l e room_2 s m #[Value.ref b] below meth c H locs (26 + 7 * k) (4004 + 42 * k) (lc_Q below s) (F0 m 53 ls []) := by
    intro g
    induction g with
    | zero =>
      intro k hk H locs ls hP hS hz hl T hT X
      refine ⟨T.setTop (F0 m 53 ls []), Steps.refl _, ?_, ?_⟩
      · show s.heap.size + 118 < T.heap.size
        rw [hT]; omega
      · refine within_of_frames (f := F0 m 53 ls []) (mid := []) ?_
        rw [State.frames_setTop' _ X.here.top, X.tail]; rfl
    | succ g ih =>
      intro k hk H locs ls hP hS hz hl
      refine lv_iload hx hb dL_law_53 (lv_at hl 0 rfl) ?_
      refine lv_bipush (v := nI 60) hx hb dL_law_55 (by decide) ?_
      refine q_icmpN_ge (a := k) (b := 60) (tgt := 141) (by omega) (by omega) hx hb dL_law_57 (by decide) (fun z => absurd z (by omega)) (fun _ => ?_)
      refine lv_iload hx hb dL_law_60 (lv_at hl 1 rfl) ?_
      refine q_ifB_eq (b := true) (tgt := 141) hx hb dL_law_62 (by decide) (fun z => by cases z) (fun _ => ?_)
      refine lv_aload_n hx hb dL_law_65 rfl (lv_at hl 3 rfl) ?_
      refine lv_aload_n hx hb dL_law_66 rfl (lv_at hl 2 rfl) ?_
      refine lv_iconst (v := nI 4) hx hb dL_law_67 (by decide) ?_
      refine lv_iload hx hb dL_law_68 (lv_at hl 0 rfl) ?_
      refine q_mulN (a := 4) (b := k) hx hb dL_law_70 ?_
      refine lv_aload_n hx hb dL_law_71 rfl (lv_at hl 4 rfl) ?_
      refine lv_aload_n hx hb dL_law_72 rfl (lv_at hl 5 rfl) ?_
      refine lv_aload hx hb dL_law_73 (lv_at hl 6 rfl) ?_
      refine lv_aload hx hb dL_law_75 (lv_at hl 7 rfl) ?_
      refine lv_aload hx hb dL_law_77 (lv_at hl 8 rfl) ?_
      refine lv_aload hx hb dL_law_79 (lv_at hl 9 rfl) ?_
      refine q_rcall (va_runS (As := [.ref h, .ref b, .int (nI (4 * k)), .ref ta, .ref qa, .ref da, .ref ea, .ref aa, .ref ga]) (rest := []) ⟨hx, hb, hml, hown, hts⟩ (kL_isDone l D h ad cI cZ hlf b L (4 * k) ta qa da ea aa ga (by omega) hL2) (va_cwS 9 hts gL_law_L_isDone rfl rfl rfl (by decide +kernel) ⟨Nat.le_of_ble_eq_true rfl, Nat.le_of_ble_eq_true rfl⟩) ⟨oP_blind, oP_preH (va_Pl hP) hK (tEA_at hE hS) (hX.kept (hS.2.1 b hbl hbA))⟩ rfl rfl hl.1 rfl (lv_room (Nat.le_of_ble_eq_true rfl)) dL_law_81 ⟨show 26 + 7 * k + 1 ≤ 400 by omega, show 4004 + 42 * k + 6 ≤ 8000 by omega⟩) hP hS hz (fun H hP hS hz => ?_)
      refine q_ifB_eq (b := true) (tgt := 132) hx hb dL_law_84 (by decide) (fun z => by cases z) (fun _ => ?_)
      refine lv_aload_n hx hb dL_law_87 rfl (lv_at hl 3 rfl) ?_
      refine lv_aload_n hx hb dL_law_88 rfl (lv_at hl 4 rfl) ?_
      refine lv_aload_n hx hb dL_law_89 rfl (lv_at hl 5 rfl) ?_
      refine lv_aload hx hb dL_law_90 (lv_at hl 9 rfl) ?_
      refine q_rcall (va_runS (As := [.ref h, .ref ta, .ref qa, .ref ga]) (rest := []) ⟨hx, hb, hml, hown, hts⟩ (kL_areShops l D h ad cI cZ hlf ta qa ga) (va_cwS 4 hts gL_law_L_areShops rfl rfl rfl (by decide +kernel) ⟨Nat.le_of_ble_eq_true rfl, Nat.le_of_ble_eq_true rfl⟩) ⟨tP_blind, tP_preH hP hK (tEA_at hE hS)⟩ rfl rfl hl.1 rfl (lv_room (Nat.le_of_ble_eq_true rfl)) dL_law_92 ⟨show 26 + 7 * k + 1 + 6 ≤ 400 by omega, show 4004 + 42 * k + 6 + 36 ≤ 8000 by omega⟩) hP hS hz (fun H hP hS hz => ?_)
      refine q_ifB_eq (b := true) (tgt := 132) hx hb dL_law_95 (by decide) (fun z => by cases z) (fun _ => ?_)
      refine lv_aload hx hb dL_law_98 (lv_at hl 9 rfl) ?_
      refine lv_iconst (v := nI 0) hx hb dL_law_100 (by decide) ?_
      refine q_ald nI (fun _ => 0) hx hb hK hP 14 1 rfl rfl (k := 0) (by decide) (Nat.le_of_ble_eq_true rfl) dL_law_101 ?_
      refine q_ifN_eq (a := 0) (tgt := 128) (by decide) hx hb dL_law_102 (by decide) (fun _ => ?_) (fun z => absurd rfl z)
      refine lv_iconst (v := bI true) hx hb dL_law_128 (by decide) ?_
      refine lv_goto (tgt := 133) hx hb dL_law_129 (by decide) ?_
      refine lv_istore (lv' := [(8, .int (bI true)), (9, .int (nI k)), (0, .ref b), (1, .ref h), (2, .ref ta), (3, .ref qa), (4, .ref da), (5, .ref ea), (6, .ref aa), (7, .ref ga)]) hx hb dL_law_133 hl (by decide) rfl (fun ls hl => ?_)
      refine lv_iinc (v := nI (k + 1)) (lv' := [(9, .int (nI (k + 1))), (8, .int (bI true)), (0, .ref b), (1, .ref h), (2, .ref ta), (3, .ref qa), (4, .ref da), (5, .ref ea), (6, .ref aa), (7, .ref ga)]) hx hb dL_law_135 hl (k := 1) rfl (i1_n k) (by decide) rfl (fun ls hl => ?_)
      refine lv_goto (tgt := 53) hx hb dL_law_138 (by decide) ?_
      refine W.widen (k := 26 + 7 * (k + 1)) (n := 4004 + 42 * (k + 1)) (by omega) (by omega) ?_
      exact ih (k + 1) (by omega) H locs ls hP hS (by omega) (lv_sub hl [0, 1, 2, 3, 4, 5, 6, 7, 8, 9] rfl)
  exact loop 17 0 (by omega) H _ ls hP hS hz (lv_sub hl [0, 1, 9, 8, 7, 6, 5, 4, 3, 2] rfl)
