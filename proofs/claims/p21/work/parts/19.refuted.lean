/-! the statement is false: at a start that meets all its premises more than 118 cells are new before the law ends -/
def rf_cells : Array Value := ⟨List.replicate 80 (.int 39)⟩
/-- the witness' start, its script another one: eighty times 39 -/
def rf_s : State := start1.aboutOf rf_cells
theorem rf_ended {s : State} {below : List Frame} {o : Outcome} (h : Ended s below o) : ¬ Within s below := by
  rintro ⟨above, hf, hne, hth⟩
  cases o with
  | threw a =>
    have h2 : s.frames = .throwing a :: below := h
    rw [hf] at h2
    match above, hne, hth, h2 with
    | [], hne, _, _ => exact hne rfl
    | [f], _, hth, h2 =>
      have h3 : f = .throwing a := (List.cons.inj h2).1
      exact hth a (by rw [h3])
    | f :: g :: r, _, _, h2 =>
      have h3 := congrArg List.length h2
      simp only [List.length_append, List.length_cons] at h3
      omega
  | returned v =>
    have key : s.frames.length = below.length := by
      unfold Ended at h
      simp only at h
      split at h
      · obtain ⟨_, _, _, _, _, h⟩ := h
        rw [h]; rfl
      · rw [h]; rfl
      · rw [h]; rfl
      · rw [h.2]
    rw [hf, List.length_append] at key
    cases above with
    | nil => exact hne rfl
    | cons f r =>
      simp only [List.length_cons] at key
      omega
set_option maxRecDepth 16384 in
theorem rf_rest0 : (tables_1_1.take 120).all (fun c => vx_ot c || c.before start1.args0 rf_s) = true := by decide +kernel
set_option maxRecDepth 16384 in
theorem rf_rest1 : (tables_1_1.drop 120).all (fun c => vx_ot c || c.before start1.args0 rf_s) = true := by decide +kernel
set_option maxRecDepth 16384 in
theorem rf_rest2 : (tables_1_2.take 120).all (fun c => vx_ot c || c.before start1.args0 rf_s) = true := by decide +kernel
set_option maxRecDepth 16384 in
theorem rf_rest3 : (tables_1_2.drop 120).all (fun c => vx_ot c || c.before start1.args0 rf_s) = true := by decide +kernel
theorem rf_hd : vx_ot (Cond.code x code maxLocals ret) = true := rfl
theorem rf_all {L : List Cond} {n : Nat} (h1 : (L.take n).all (fun c => vx_ot c || c.before start1.args0 rf_s) = true) (h2 : (L.drop n).all (fun c => vx_ot c || c.before start1.args0 rf_s) = true) : ∀ c ∈ L, (vx_ot c || c.before start1.args0 rf_s) = true := by
  intro c hc
  rw [← List.take_append_drop n L] at hc
  rcases List.mem_append.mp hc with h | h
  · exact List.all_eq_true.mp h1 c h
  · exact List.all_eq_true.mp h2 c h
theorem rf_words : ∀ c ∈ (Cond.code x code maxLocals ret :: tables_1), c.before start1.args0 rf_s = true := by
  intro c hc
  have h0 := start1.words c hc
  have h1 : (vx_ot c || c.before start1.args0 rf_s) = true := by
    rcases List.mem_cons.mp hc with h | h
    · rw [h, rf_hd]; rfl
    · have h2 : c ∈ tables_1_1 ++ tables_1_2 := h
      rcases List.mem_append.mp h2 with h3 | h3
      · exact rf_all rf_rest0 rf_rest1 c h3
      · exact rf_all rf_rest2 rf_rest3 c h3
  rcases Bool.or_eq_true_iff.mp h1 with h2 | h2
  · exact vx_ot_at (s := start1.about) (U := rf_s) (State.WarmedH.refl start1.about) rfl h2 h0
  · exact h2
set_option maxRecDepth 16384 in
theorem rf_rest : rest_1_c.before start1.args0 rf_s = true := by decide +kernel
set_option maxRecDepth 16384 in
theorem rf_given : (Cond.and given_1 narrow_1).before start1.args0 rf_s = true := by decide +kernel
set_option maxRecDepth 16384 in
theorem rf_1 : (headSpec (Cond.code x code maxLocals ret :: tables_1) room_1).applies x start1.e0.platform rf_s = true :=
  (Spec.applies_iff rfl).mpr ⟨rfl, rfl, rfl, by decide +kernel, by decide +kernel, by decide +kernel, launch0.hasRoom_least _ room_1 (by decide +kernel) (by decide +kernel) (by decide +kernel) (by decide +kernel) (by decide +kernel) (by decide +kernel), atoms_intro rf_words⟩
set_option maxRecDepth 16384 in
theorem rf_2 : (headSpec (Cond.code x code maxLocals ret :: tables_1) room_2).applies x start1.e0.platform rf_s = true :=
  (Spec.applies_iff rfl).mpr ⟨rfl, rfl, rfl, by decide +kernel, by decide +kernel, by decide +kernel, launch0.hasRoom_least _ room_2 (by decide +kernel) (by decide +kernel) (by decide +kernel) (by decide +kernel) (by decide +kernel) (by decide +kernel), atoms_intro rf_words⟩
set_option maxRecDepth 16384 in
theorem rf_fit : argsFit rf_s.vm ⟨0, 0⟩ start1.args0 = true := by decide +kernel
set_option maxRecDepth 16384 in
theorem rf_heap : heapFits rf_s = true := by decide +kernel
theorem rf_X : va_X 0 80 (fun _ => nI 39) rf_s rf_s.heap := by
  refine ⟨{ cls := 13, slots := rf_cells, vm := .none }, rfl, ?_, ?_, ?_, ?_⟩
  · exact ⟨(fun k z => by cases z), start1.cArr "[I" 12 .int, rfl, 12, rfl⟩
  · intro z; cases z
  · rfl
  · intro j hj
    show rf_cells[j]? = _
    rw [← Array.getElem?_toList]
    show (List.replicate 80 (Value.int 39))[j]? = _
    rw [List.getElem?_replicate, if_pos hj]
    rfl
theorem rf_walk : ∃ (k : Nat) (t : State), (∀ j, j ≤ k → Within (stepsAlone start1.p0.tables start1.e0 j rf_s) Lib.HandBits.below0) ∧ stepsAlone start1.p0.tables start1.e0 k rf_s = t ∧ rf_s.heap.size + 118 < t.heap.size := by
  obtain ⟨meth, c, B, hcode, hlocals, hfirst⟩ := BodyLoose.of_appliesLoose (l := launch0) (x := x) (S := headSpec (Cond.code x code maxLocals ret :: tables_1) room_2) (code := code) (maxLocals := maxLocals) (ret := ret) (by decide) (fun args s h => atoms_spec (ws := Cond.code x code maxLocals ret :: tables_1) h _ List.mem_cons_self) start1.p0 (launch0.admits_env _ _ _) fairChoices_fair.cas fairChoices_fair.clock (s := rf_s) (m := ⟨0, 0⟩) (args := start1.args0) (below := Lib.HandBits.below0) rfl ((Spec.applies_iff_loose rfl).mp rf_2).1
  have hts : ∀ w ∈ lw_tbl, w.before #[Value.ref 0] rf_s = true := k2_hts_sels lw_privs (fun w hw => rf_words w (List.mem_cons_of_mem _ hw)) lw_privs_ok
  have hown : rf_s.vm.findClass RL = some ((⟨0, 0⟩ : MethodId)).cls := findClass_of_methodNamed B.named
  have hh0 : ((rf_s.setFrames (.java (entryFrame ⟨0, 0⟩ start1.args0 maxLocals) :: Lib.HandBits.below0))).heap = rf_s.heap := rfl
  obtain ⟨t, st, hbig, hw⟩ := law_walk (p := start1.p0) (e := start1.e0) (s := rf_s) (m := ⟨0, 0⟩) (below := Lib.HandBits.below0) (meth := meth) (c := c) launch0 rfl (b := 0) (L := 80) (Nat.le_refl 80) (by decide) ⟨B.exec, B.bytes, hlocals, hown, hts, rf_X, va_X_lt rf_X, B.notSynchronized, rf_given⟩ _ hh0 (Stand.of_body B)
  obtain ⟨k, hk1, hk2⟩ := (hfirst.trans st).moment hw
  exact ⟨k, t, hk1, hk2, hbig⟩
/-- no end of the law at this start keeps within 118 new cells -/
theorem rf_no {Post : Tables → Env → Array Value → State → Outcome → State → Prop} (hPost : ∀ tb e a s o t, Post tb e a s o t → t.heap.size ≤ s.heap.size + 118)
    (h : ArmFor flags0 classFile x code maxLocals ret World_1 tables_1 room_1 Calls_1 rest_1 Pre_1 Post) : False := by
  obtain ⟨n, o, hw, hrun, hend, hpost⟩ := h launch0 rfl lists_1 trivial start1.p0 start1.e0 (launch0.admits_env _ _ _) fairChoices_fair.cas fairChoices_fair.clock rf_s ⟨0, 0⟩ start1.args0 Lib.HandBits.below0 rfl rf_fit rf_heap rf_1 ⟨trivial, rf_rest, rf_given⟩
  obtain ⟨k, t, hk1, hk2, hbig⟩ := rf_walk
  have hle := hPost _ _ _ _ _ _ hpost
  have hnk : k < n := by
    rcases Nat.lt_or_ge k n with q | q
    · exact q
    · exact absurd (hk1 n q) (rf_ended hend)
  have e1 : stepsAlone start1.p0.tables start1.e0 n rf_s = stepsAlone start1.p0.tables start1.e0 (n - k) t := by
    rw [← hk2, ← stepsAlone_add, Nat.add_sub_cancel' (Nat.le_of_lt hnk)]
  have e2 := stepsAlone_heap_le start1.p0.tables start1.e0 (n - k) t
  rw [← e1] at e2
  omega
theorem p21_refuted_1 : ¬ Claimed_1_1 := fun h => rf_no (Post := Post_1_1) (fun _ _ _ _ _ _ q => q.2.2.2.2.2.1) h
theorem p21_refuted_2 : ¬ Claimed_1_2 := fun h => rf_no (Post := Post_1_2) (fun _ _ _ _ _ _ q => q.2.2.2.2.2.1) h
/-- what is owed can't be proved: it is false -/
theorem p21_refuted : ¬ (Claimed_1_1 ∧ Claimed_1_2) := fun h => p21_refuted_1 h.1
theorem i_vc : Claimed_1_1 ∧ Claimed_1_2 := sorry
