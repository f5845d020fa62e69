/-! the law's start -/
theorem va_Dj {D : va_G} {cl : List vw_C} {A : Nat → Prop} {wa wb w1 : va_W} {H : Heap} (hP : va_P D cl (wa ++ wb) H) (hD : va_D A (wa ++ wb)) (hA : ∀ q, va_A wa H.size q → A q) (hD1 : va_D (va_A wa H.size) w1) : va_D A (w1 ++ wb) := by
  have hr := va_Dr hD
  have hPr := va_Pr hP
  have hx : ∀ (i j : Nat) (x y : Nat × va_E), w1[i]? = some x → wb[j]? = some y → x.1 ≠ y.1 := fun i j x y hx hy he => by
    rcases hD1.2 i x hx with ⟨k, e0, hk⟩ | hk
    · exact va_Dx hD hk hy he
    · have := (hPr j y hy).lt
      omega
  refine ⟨fun i j x y hx1 hy1 hxy => ?_, fun k q hk => ?_⟩
  · rw [List.getElem?_append] at hx1 hy1
    by_cases ci : i < w1.length
    · rw [if_pos ci] at hx1
      by_cases cj : j < w1.length
      · rw [if_pos cj] at hy1; exact hD1.1 i j x y hx1 hy1 hxy
      · rw [if_neg cj] at hy1; exact absurd hxy (hx _ _ x y hx1 hy1)
    · rw [if_neg ci] at hx1
      by_cases cj : j < w1.length
      · rw [if_pos cj] at hy1; exact absurd hxy.symm (hx _ _ y x hy1 hx1)
      · rw [if_neg cj] at hy1
        have := hr.1 _ _ x y hx1 hy1 hxy
        omega
  · rw [List.getElem?_append] at hk
    by_cases ck : k < w1.length
    · rw [if_pos ck] at hk; exact hA _ (hD1.2 k q hk)
    · rw [if_neg ck] at hk; exact hr.2 _ q hk
section HB5
variable {p : Program} {l : Launch} {e : Env} {R : Room} {s : State} {m : MethodId} {args : Array Value} {below : List Frame} {meth : Method} {c : Code} {H H0 : Heap} {locs : List Loc} {cells slots : Nat} {Q : State → Prop} {cc : ByteArray} {pc : Nat} {ls : Array Slot} {rest st0 : List Value} {D : va_G} {A : Nat → Prop}
/-- a call of a constructor, its object's world being a part of the caller's -/
theorem q_newc {mc ms : Nat} {wa wb : va_W} {B : State → State → Prop} (hr : va_Run p l e R s m args below meth c H locs cells slots mc ms (F0 m pc ls st0) rest (fun st o t => o = .returned none ∧ B st t ∧ va_F (va_A wa st.heap.size) st t) (va_A wa H.size)) (hP : va_P D vwCl (wa ++ wb) H) (hD : va_D A (wa ++ wb)) (hS : va_S A H0 H locs) (hA : ∀ q : Nat, H0.size ≤ q → A q)
    (kk : ∀ (st t : State) (H1 : Heap) (locs1 : List Loc), st.heap = H → t.heap = H1 → s.vm.Alike t.vm → B st t → va_P D vwCl wb H1 → va_S A H0 H1 locs1 → W p l e R s m args below meth c H1 locs1 (cells + mc) (slots + ms) Q (F0 m (pc + 3) ls rest)) : W p l e R s m args below meth c H locs cells slots Q (F0 m pc ls st0) := by
  have hF : ∀ q, va_A wa H.size q → A q := by
    intro q h
    rcases h with ⟨k, e0, h⟩ | h
    · exact (va_Dl hD).2 k (q, e0) h
    · exact hA q (Nat.le_trans hS.1 h)
  intro T hT X
  obtain ⟨v', st₀, t, T', L, h0, X', hL, e1, e2, ⟨hv, hB, hz, hk⟩, st⟩ := hr T hT X
  cases hv
  rw [h0] at hz hk
  have hPb : va_P D vwCl wb T'.heap := va_Pk (A := A) (wa := wa) (va_Pr hP) (fun j y hy i x hx => va_Dx hD hx hy) (fun q h1 h2 => by rw [e1]; exact hk q h1 h2)
  obtain ⟨t2, a1, b1⟩ := kk st₀ t T'.heap (locs ++ L) h0 e1.symm (by rw [← e2]; exact X'.warmed.alike) hB hPb
    ⟨Nat.le_trans hS.1 (by rw [e1]; exact hz), fun q h1 h2 => by rw [e1, hk q (Nat.lt_of_lt_of_le h1 hS.1) (fun z => h2 (hF q z))]; exact hS.2.1 q h1 h2, fun q hq => by
      rcases List.mem_append.mp hq with h | h
      · exact hS.2.2 q h
      · exact hF _ (hL q h)⟩ T' rfl X'
  exact ⟨t2, st t2 a1, b1⟩
end HB5
set_option maxRecDepth 100000 in
theorem hb_t : ∀ q ∈ hbS, Cond.stringRef RX0 q.1 q.2 ∈ lw_tbl := by decide +kernel
set_option maxRecDepth 100000 in
theorem hb_x : ∀ q ∈ hbS, Cond.exactly (.string RX0 q.1) "java/lang/String" ∈ flatC (Jvm.Cond.and given_1 narrow_1) := by decide +kernel
set_option maxRecDepth 100000 in
theorem ex_t : ∀ E ∈ exN, Cond.castable E E ∈ lw_tbl := by decide +kernel
set_option maxRecDepth 100000 in
theorem dc_t : ∀ Y ∈ dcN, Cond.declares (Bundle.initS Y) ∈ lw_tbl := by decide +kernel
set_option maxRecDepth 100000 in
theorem st_t : Cond.laysStatic Bundle.tN "UNASSIGNED_STACK" Bundle.steD ∈ lw_tbl ∧ Cond.laysStatic Bundle.tN "SUPPRESSED_SENTINEL" Bundle.listD ∈ lw_tbl ∧ Cond.initialized Bundle.tN ∈ lw_tbl := by decide +kernel
set_option maxRecDepth 100000 in
theorem st_x : Cond.isRef (.static Bundle.tN "UNASSIGNED_STACK" Bundle.steD) ∈ flatC (Jvm.Cond.and given_1 narrow_1) ∧ Cond.isRef (.static Bundle.tN "SUPPRESSED_SENTINEL" Bundle.listD) ∈ flatC (Jvm.Cond.and given_1 narrow_1) := by decide +kernel
set_option maxRecDepth 100000 in
theorem nc_x : Cond.not (.castable "java/lang/IllegalStateException" "java/lang/IndexOutOfBoundsException") ∈ flatC (Jvm.Cond.and given_1 narrow_1) ∧ Cond.not (.castable "java/lang/IllegalArgumentException" "java/lang/IndexOutOfBoundsException") ∈ flatC (Jvm.Cond.and given_1 narrow_1) ∧ Cond.not (.castable "java/lang/IllegalStateException" "java/lang/IllegalArgumentException") ∈ flatC (Jvm.Cond.and given_1 narrow_1) := by decide +kernel
theorem lw_E {args : Array Value} {s : State} (ht : ∀ w ∈ lw_tbl, w.before args s = true) (hg : (Jvm.Cond.and given_1 narrow_1).before args s = true) : tEA (fun q : Nat => s.heap.size ≤ q) s s.heap ∧ nE s := by
  have hs := flat_of_before _ hg
  have hA : ∀ a : Nat, a < s.heap.size → ¬ (fun q : Nat => s.heap.size ≤ q) a := fun a h => Nat.not_le.mpr h
  refine ⟨⟨vx_Zqof (ht _ st_t.1) (ht _ st_t.2.2) (hs _ st_x.1) hA, vx_Zqof (ht _ st_t.2.1) (ht _ st_t.2.2) (hs _ st_x.2) hA, fun q hq => ?_, fun E hE => va_Nw.of rfl (ht _ (ex_t E hE)), fun Y hY => va_Nw.of rfl (ht _ (dc_t Y hY))⟩, va_Nc.of (hs _ nc_x.1), va_Nc.of (hs _ nc_x.2.1), va_Nc.of (hs _ nc_x.2.2)⟩
  obtain ⟨a, c, cell, k, q1, -⟩ := Cond.exactly_spec (args := args) (first := s) (o := none) (s := s) (idx := []) (t := .string RX0 q.1) (cls := "java/lang/String") (hs _ (hb_x q hq))
  exact ⟨a, vk_R.of (ht _ (hb_t q hq)) q1⟩
theorem cle_in {f : Nat → Option Nat} {n k : Nat} (h : k < n) : cle f n k = none := if_pos h
theorem ff {P : Prop} (h : false = true) : P := Bool.noConfusion h
theorem n0 {P : Nat → Prop} : ∀ k, k < 0 → P k := fun k h => absurd h (Nat.not_lt_zero k)
theorem LI_0 : LI 0 (fun _ => 0) (fun _ => false) (cle (fun _ => some 0) 16) (fun _ => some 0) (fun _ => 0) (fun _ => 0) (fun _ => 0) 0 (fun _ => 0) (fun _ => 0) (fun _ => 0) (fun _ => some 0) (fun _ => some 0) (fun _ => some 0) (fun _ => 0) (fun _ => 0) (fun _ => 0) 0 0 (cle (fun _ => some 0) 1536) (cle (fun _ => some 0) 864) (fun _ => some 0) (fun _ => some 0) := by
  refine ⟨⟨fun g hg he => ff he, fun g hg he => ff he, fun g hg k e => ?_, fun g hg k e => ?_, fun g hg he => cle_in hg, Nat.zero_le 16, fun j hj he => ff he⟩,
    ⟨fun k hk => Nat.zero_le 100, fun k hk => Nat.zero_le 20, fun k hk => Nat.zero_le 20, ⟨fun g p hg hp he => rfl, fun g p hg hp he => rfl, fun g p hg hp h => absurd (show 0 < 0 from h) (Nat.lt_irrefl 0)⟩, fun g p h1 h2 h3 => rfl⟩,
    ⟨⟨Nat.zero_le 200, by decide, n0, n0, n0, n0, n0, n0⟩, ⟨n0, n0, n0⟩, n0, fun q hq => cle_in hq, n0, n0⟩,
    ⟨fun k hk v e => ?_, fun sp g j h1 h2 h3 h4 => cle_in (by omega)⟩, fun k hk v e => ?_, fun k hk v e => ?_, Nat.zero_le 0, fun k hk => rfl⟩
  · rw [cle_in hg] at e; cases e
  · cases e; decide
  · rw [cle_in hk] at e; cases e
  · cases e; decide
  · cases e; decide
theorem r1_in : ∀ w ∈ wsL_law0_r1, w ∈ wsL_law := fun _ h => List.mem_append_left _ (List.mem_append_left _ (List.mem_append_left _ (List.mem_append_left _ (List.mem_append_left _ (List.mem_append_left _ (List.mem_append_left _ h))))))
set_option maxHeartbeats 8000000 in
set_option maxRecDepth 100000 in
/-- the law, from its entry -/
theorem whole_start {p : Program} {e : Env} {s : State} {m : MethodId} {below : List Frame} {meth : Method} {c : Code} (l : Launch) (hflags : l.flags = flags0) {b L : Nat} {xs : Nat → Int32} (hL : L ≤ 3584) (C0 : lw_At p s m meth c b L xs) : W p l e room_1 s m #[Value.ref b] below meth c s.heap [] 0 0 (lw_Z below #[Value.ref b] s) (entryFrame m ([Value.ref b] : List Value).toArray 7) := by
  have hlf : l.stackTraces = false := by unfold Launch.stackTraces; rw [hflags]; decide
  obtain ⟨hx, hb, hr, hml, hown, hts0, hX, hbl, hlocks, hgv⟩ := id C0
  have hts : ∀ w ∈ wsL_law, w.before #[Value.ref b] s = true := fun w hw => hts0 w (wsL_law_in w hw)
  have ht1 : ∀ w ∈ wsL_law0_r1, w.before #[Value.ref b] s = true := fun w hw => hts w (r1_in w hw)
  have hA : ∀ q : Nat, s.heap.size ≤ q → (fun q : Nat => s.heap.size ≤ q) q := fun _ h => h
  obtain ⟨hE, hN⟩ := lw_E hts0 hgv
  obtain ⟨c0, iS0, hKn0⟩ := u_known (C := RX0) (T := TX0) (N := 16) (n := 16) hts inlX0 (ht1 (.instantiable RX0 16) (by decide +kernel))
  obtain ⟨c1, iS1, hKn1⟩ := u_known (C := RX1) (T := TX1) (N := 18) (n := 18) hts inlX1 (ht1 (.instantiable RX1 18) (by decide +kernel))
  obtain ⟨D, hKc⟩ : ∃ D : va_G, ∀ (k : Nat) (q : vw_C), vwCl[k]? = some q → u_Kn s q.1 q.2.1 q.2.2 (D.1 k) (D.2 k) := by
    refine ⟨(fun k => if k = 0 then c0 else c1, fun k => if k = 0 then iS0 else iS1), ?_⟩
    intro k q hq
    match k, hq with
    | 0, hq => cases hq; exact hKn0
    | 1, hq => cases hq; exact hKn1
    | k + 2, hq => simp [vwCl] at hq
  have hS : va_S (fun q : Nat => s.heap.size ≤ q) s.heap s.heap [] := va_S.rf
  have hK : va_K D vwCl [] s := ⟨hKc, fun k q h => by simp at h⟩
  have hP : va_P D vwCl [] s.heap := fun k q h => by simp at h
  have hD : va_D (fun q : Nat => s.heap.size ≤ q) [] := ⟨fun i j p q h => by simp at h, fun k q h => by simp at h⟩
  have hl := lv_entry ([.ref b]) (n := 7) (Nat.le_of_ble_eq_true rfl)
  rw [lg_entry_eq]
  generalize (lg_sl ([.ref b]) ++ List.replicate (7 - (lg_sl ([.ref b])).length) Slot.unset).toArray = ls at hl ⊢
  have hl : lv_has ls 7 [(0, .ref b)] := hl
  refine va_new (ci := 0) (fs := [.null, .null, .null, .null, .int 0, .null, .null, .null, .null, .null, .int 0, .int 0, .null, .null, .null, .null]) (C := RX0) (T := TX0) (N := 16) hx hb hts inlX0 tyX0 tyX0_ok hown (ht1 (.classLink RL 8 RX0) (by decide +kernel)) (ht1 (.instantiable RX0 16) (by decide +kernel)) (ht1 (.initialized RX0) (by decide +kernel)) hK hP hD hS hA rfl (fun j hj => match j, hj with | 0, _ => rfl | 1, _ => rfl | 2, _ => rfl | 3, _ => rfl | 4, _ => rfl | 5, _ => rfl | 6, _ => rfl | 7, _ => rfl | 8, _ => rfl | 9, _ => rfl | 10, _ => rfl | 11, _ => rfl | 12, _ => rfl | 13, _ => rfl | 14, _ => rfl | 15, _ => rfl | k + 16, h9 => absurd h9 (by omega)) (Nat.le_of_ble_eq_true rfl) (Nat.le_of_ble_eq_true rfl) dL_law_0 (fun h H hP hD hS => ?_)
  have hP : va_P D vwCl (h0W h ++ []) H := hP
  have hD : va_D (fun q : Nat => s.heap.size ≤ q) (h0W h ++ []) := hD
  refine lv_dup hx hb dL_law_3 rfl ?_
  refine q_newc (mc := 13) (ms := 3738) (wa := h0W h) (wb := []) (B := fun st t => ∃ (ad : Nat → Nat) (cI cZ : ClassId), va_P D vwCl (hWi h ad cI cZ) t.heap ∧ va_K D vwCl (hT cI cZ) t ∧ va_D (va_A (h0W h) st.heap.size) (hWi h ad cI cZ)) (va_runI (As := []) (rest := [.ref h]) ⟨hx, hb, hml, hown, hts⟩ (kX0_init l D h H.size) (cwI 0 hts gL_law_X0_init rfl rfl rfl (ht1 (.initialized RX0) (by decide +kernel)) (ht1 (.methodLink RL 77 yX0_init) (by decide +kernel)) (ht1 (.instanceMethod yX0_init) (by decide +kernel)) rfl (by decide +kernel) ⟨Nat.le_of_ble_eq_true rfl, Nat.le_of_ble_eq_true rfl⟩) ⟨wP_blind, wP_pre (va_Pl hP) hK (va_Dl hD)⟩ rfl rfl hl.1 rfl (lv_room (Nat.le_of_ble_eq_true rfl)) dL_law_4 ⟨Nat.le_of_ble_eq_true rfl, Nat.le_of_ble_eq_true rfl⟩) hP hD hS hA (fun st t H1 locs es et hvm hB hPb hS1 => ?_)
  obtain ⟨ad, cI, cZ, hP1, hK1, hD1⟩ := hB
  rw [et] at hP1
  rw [es] at hD1
  have hK1 := va_K.moved hvm.symm hK1
  have hD := va_Dj hP hD (lq_sub (va_Dl hD) hS) hD1
  have hP := va_P.app hP1 hPb
  have hS := hS1
  clear hS1
  generalize H1 = H at hP hD hS ⊢
  have hP : va_P D vwCl (hWi h ad cI cZ) H := va_Pl hP
  have hD : va_D (fun q : Nat => s.heap.size ≤ q) (hWi h ad cI cZ) := va_Dl hD
  refine lv_astore_n (lv' := [(1, .ref h), (0, .ref b)]) hx hb dL_law_7 rfl hl (by decide) rfl (fun ls hl => ?_)
  refine va_new (ci := 1) (fs := [.int 0, .int 0, .null, .null, .null, .null, .int 0, .null, .null, .null, .null, .null, .null, .null, .null, .null, .null, .int 0]) (C := RX1) (T := TX1) (N := 18) hx hb hts inlX1 tyX1 tyX1_ok hown (ht1 (.classLink RL 78 RX1) (by decide +kernel)) (ht1 (.instantiable RX1 18) (by decide +kernel)) (ht1 (.initialized RX1) (by decide +kernel)) hK1 hP hD hS hA rfl (fun j hj => match j, hj with | 0, _ => rfl | 1, _ => rfl | 2, _ => rfl | 3, _ => rfl | 4, _ => rfl | 5, _ => rfl | 6, _ => rfl | 7, _ => rfl | 8, _ => rfl | 9, _ => rfl | 10, _ => rfl | 11, _ => rfl | 12, _ => rfl | 13, _ => rfl | 14, _ => rfl | 15, _ => rfl | 16, _ => rfl | 17, _ => rfl | k + 18, h9 => absurd h9 (by omega)) (Nat.le_of_ble_eq_true rfl) (Nat.le_of_ble_eq_true rfl) dL_law_8 (fun h2 H hP hD hS => ?_)
  have hP : va_P D vwCl (m0W h2 ++ hWi h ad cI cZ) H := va_Psw hP
  have hD : va_D (fun q : Nat => s.heap.size ≤ q) (m0W h2 ++ hWi h ad cI cZ) := va_Dsw hD
  refine lv_dup hx hb dL_law_11 rfl ?_
  refine q_newc (mc := 14) (ms := 2602) (wa := m0W h2) (wb := hWi h ad cI cZ) (B := fun st t => ∃ (ad : Nat → Nat) (cI cJ cZ : ClassId), va_P D vwCl (mWi h2 ad cI cJ cZ) t.heap ∧ va_K D vwCl (mT cI cJ cZ) t ∧ va_D (va_A (m0W h2) st.heap.size) (mWi h2 ad cI cJ cZ)) (va_runI (As := []) (rest := [.ref h2]) ⟨hx, hb, hml, hown, hts⟩ (kX1_init l D h2 H.size) (cwI 0 hts gL_law_X1_init rfl rfl rfl (ht1 (.initialized RX1) (by decide +kernel)) (hts0 (.methodLink RL 80 yX1_init) (by decide +kernel)) (hts0 (.instanceMethod yX1_init) (by decide +kernel)) rfl (by decide +kernel) ⟨Nat.le_of_ble_eq_true rfl, Nat.le_of_ble_eq_true rfl⟩) ⟨wP_blind, wP_pre (va_Pl hP) hK (va_Dl hD)⟩ rfl rfl hl.1 rfl (lv_room (Nat.le_of_ble_eq_true rfl)) dL_law_12 ⟨Nat.le_of_ble_eq_true rfl, Nat.le_of_ble_eq_true rfl⟩) hP hD hS hA (fun st t H1 locs es et hvm hB hPb hS1 => ?_)
  obtain ⟨ad2, cI2, cJ, cZ2, hP1, hK2, hD1⟩ := hB
  rw [et] at hP1
  rw [es] at hD1
  have hK2 := va_K.moved hvm.symm hK2
  have hD := va_Dj hP hD (lq_sub (va_Dl hD) hS) hD1
  have hP := va_P.app hP1 hPb
  have hS := hS1
  clear hS1
  generalize H1 = H at hP hD hS ⊢
  refine lv_astore_n (lv' := [(2, .ref h2), (1, .ref h), (0, .ref b)]) hx hb dL_law_15 rfl hl (by decide) rfl (fun ls hl => ?_)
  refine lv_iconst (v := nI 1) hx hb dL_law_16 (by decide) ?_
  refine va_newa (atype := .long) (ty := .long) (n := nI 1) (N' := 1) (a0 := (1, .inr (.inl (fun _ => 0)))) hx hb (ht1 (.arrayClass .long) (by decide +kernel)) rfl (hK1.app hK2) hP hD hS hA (fun _ => rfl) (by decide) (by decide) (by decide) (Nat.le_of_ble_eq_true rfl) (Nat.le_of_ble_eq_true rfl) dL_law_17 (fun ob cJ2 H hK hP hD hS => ?_)
  have hK : va_K D vwCl [(cZ, .boolean), (cI, .int), (cZ2, .boolean), (cI2, .int), (cJ, .long), (cJ2, .long)] s := hK
  obtain rfl : cZ = cZ2 := ty_eq hK 0 2 rfl rfl (fun C h9 => by cases h9)
  obtain rfl : cI = cI2 := ty_eq hK 1 3 rfl rfl (fun C h9 => by cases h9)
  obtain rfl : cJ = cJ2 := ty_eq hK 4 5 rfl rfl (fun C h9 => by cases h9)
  have hK : va_K D vwCl (mT cI cJ cZ) s := hK.sub [0, 1, 4] rfl
  rw [List.append_assoc] at hP hD
  have hP : va_P D vwCl ((hWi h ad cI cZ ++ [(ob, .inl (cJ, 1, .inr (.inl (fun _ => 0))))]) ++ mWi h2 ad2 cI cJ cZ) H := va_Psw hP
  have hD : va_D (fun q : Nat => s.heap.size ≤ q) ((hWi h ad cI cZ ++ [(ob, .inl (cJ, 1, .inr (.inl (fun _ => 0))))]) ++ mWi h2 ad2 cI cJ cZ) := va_Dsw hD
  refine lv_astore_n (lv' := [(3, .ref ob), (2, .ref h2), (1, .ref h), (0, .ref b)]) hx hb dL_law_19 rfl hl (by decide) rfl (fun ls hl => ?_)
  refine lv_iconst (v := nI (7 * 0)) hx hb dL_law_20 (by decide) ?_
  refine lv_istore (lv' := [(4, .int (nI (7 * 0))), (3, .ref ob), (2, .ref h2), (1, .ref h), (0, .ref b)]) hx hb dL_law_21 hl (by decide) rfl (fun ls hl => ?_)
  refine W.widen (k := 30 + 0) (n := 6375 + 6 * 0) (Nat.le_of_ble_eq_true rfl) (Nat.le_of_ble_eq_true rfl) ?_
  exact law_loop ⟨C0, hK, hE, hN⟩ hlf hL (L + 1) 0 (by omega) (by omega) (fun _ => 0) (fun _ => 0) (fun _ => false) (cle (fun _ => some 0) 16) (fun _ => some 0) (fun _ => 0) (fun _ => 0) (fun _ => 0) 0 (fun _ => 0) (fun _ => 0) (fun _ => 0) (fun _ => some 0) (fun _ => some 0) (fun _ => some 0) (fun _ => 0) (fun _ => 0) (fun _ => 0) 0 0 (cle (fun _ => some 0) 1536) (fun _ => false) (cle (fun _ => some 0) 864) (fun _ => some 0) (fun _ => some 0) 0 H locs ls LI_0 hP hD hS (lv_sub hl [0, 4, 3, 2, 1] rfl)
