set_option maxHeartbeats 4000000 in
set_option maxRecDepth 100000 in
theorem kL_addGood (l : Launch) (D : va_G) (h : Nat) (ad : Nat → Nat) (cI cZ : ClassId) (ex : Nat → Bool) (pa : Nat → Option Nat) (di : Nat → Nat) (qu : Nat → Nat) (gc : Nat) (dg : Nat → Nat) (dp : Nat → Nat) (dv : Nat → Option Nat) (dd : Nat → Nat) (ds : Nat → Nat) (dc : Nat) (td : Nat) (ho : Nat → Option Nat) (ak : Nat → Bool) (se : Nat → Option Nat) (pr : Nat → Option Nat) (cJ : ClassId) (ob : Nat) (f : Nat → Int64) (sz : Nat) (o : Option Nat) (lev : Nat → Nat) (hti : TI ex pa lev) (ho2 : okO ex o) (hlv : lvZ lev o ≤ 1) (hgc : gc < 16) (hret : gc < 2147483648) : Met l yL_addGood wsL_addGood ({ frames := 3, cells := 0, slots := 0, locals := 67 } : Room) (wP D ((hW h ad cI cZ ex pa di qu gc dg dp dv dd ds dc td ho ak se pr) ++ [(ob, .inl (cJ, 1, .inr (.inl f)))]) (mT cI cJ cZ) [.ref h, .int (oI o), .ref ob] sz) (wQ D ((hW h ad cI cZ ex pa di qu gc dg dp dv dd ds dc td ho ak se pr) ++ [(ob, .inl (cJ, 1, .inr (.inl f)))]) ((hW h ad cI cZ (va_up ex gc true) (va_up pa gc o) di qu (gc + 1) dg dp dv dd ds dc td ho ak se pr) ++ [(ob, .inl (cJ, 1, .inr (.inl (vp_updL f 0 (lN gc)))))]) (some (.int (nI 0)))) 0 0 (va_A ((hW h ad cI cZ ex pa di qu gc dg dp dv dd ds dc td ho ak se pr) ++ [(ob, .inl (cJ, 1, .inr (.inl f)))]) sz) := by
  refine mt_ofWH (cc := cL_addGood) (maxL := 4) (ret := (some .int)) (by decide) rfl ?_
  intro p e s m args below meth c s₁ B hml htab hv
  obtain ⟨rfl, hsz, hP, hK, hD0⟩ := hv
  have hx := B.exec
  have hb := B.bytes
  have hr := B.returns
  have hts := atoms_spec (ws := wsL_addGood) B.pre
  have hown : s.vm.findClass RL = some m.cls := findClass_of_methodNamed B.named
  have hlocks := B.notSynchronized
  subst hsz
  have hD := hD0.self (sz := s.heap.size)
  generalize hAe : va_A ((hW h ad cI cZ ex pa di qu gc dg dp dv dd ds dc td ho ak se pr) ++ [(ob, .inl (cJ, 1, .inr (.inl f)))]) s.heap.size = A at hD ⊢
  have hA : ∀ q : Nat, s.heap.size ≤ q → A q := fun q h => by rw [← hAe]; exact Or.inr h
  have hS : va_S A s.heap s.heap [] := va_S.rf
  have hKh : va_K D vwCl (hT cI cZ) s := hK.sub [0, 1] rfl
  have hl := lv_entry ([.ref h, .int (oI o), .ref ob]) (n := 4) (Nat.le_of_ble_eq_true rfl)
  rw [lg_entry_eq]
  generalize (lg_sl ([.ref h, .int (oI o), .ref ob]) ++ List.replicate (4 - (lg_sl ([.ref h, .int (oI o), .ref ob])).length) Slot.unset).toArray = ls at hl ⊢
  have hl : lv_has ls 4 [(0, .ref h), (1, .int (oI o)), (2, .ref ob)] := hl
  refine lv_aload_n hx hb dL_addGood_0 rfl (lv_at hl 2 rfl) ?_
  refine lv_iconst (v := nI 0) hx hb dL_addGood_1 (by decide) ?_
  refine lv_aload_n hx hb dL_addGood_2 rfl (lv_at hl 0 rfl) ?_
  refine lv_iload_n hx hb dL_addGood_3 rfl (lv_at hl 1 rfl) ?_
  refine q_wcallFI (wb := [(ob, .inl (cJ, 1, .inr (.inl f)))]) (r := nI gc) (wa' := (hW h ad cI cZ (va_up ex gc true) (va_up pa gc o) di qu (gc + 1) dg dp dv dd ds dc td ho ak se pr)) (va_runV (As := [.int (oI o)]) (rest := [.int (nI 0), .ref ob]) ⟨hx, hb, hml, hown, hts⟩ (kX0_addGood l D h ad cI cZ ex pa di qu gc dg dp dv dd ds dc td ho ak se pr _ o lev hti ho2 hlv hgc) (cwV 1 hts gL_addGood_X0_addGood rfl rfl rfl (by decide +kernel) ⟨Nat.le_of_ble_eq_true rfl, Nat.le_of_ble_eq_true rfl⟩) ⟨wP_blind, va_recv hKh (va_Pl hP) (ci := 0) (q0 := 0) rfl rfl, wP_pre (va_Pl hP) hKh (va_Dl hD)⟩ rfl rfl hl.1 rfl (lv_room (Nat.le_of_ble_eq_true rfl)) dL_addGood_4 ⟨Nat.zero_le _, Nat.zero_le _⟩) hP hD hS hA rfl (fun H locs hP hD hS => ?_)
  refine lv_i2l (v := lN gc) hx hb dL_addGood_7 (nI_l hret) ?_
  refine q_ost hx hb hK hP hD hS 14 2 rfl rfl dL_addGood_8 (fun H locs hP hD hS => ?_)
  have hP : va_P D vwCl ((hW h ad cI cZ (va_up ex gc true) (va_up pa gc o) di qu (gc + 1) dg dp dv dd ds dc td ho ak se pr) ++ [(ob, .inl (cJ, 1, .inr (.inl (vp_updL f 0 (lN gc)))))]) H := hP
  refine lv_goto (tgt := 18) hx hb dL_addGood_9 (by decide) ?_
  refine lv_iconst (v := nI 0) hx hb dL_addGood_18 (by decide) ?_
  exact q_wretI hx hb hr hlocks hAe hP hS rfl dL_addGood_19

set_option maxHeartbeats 4000000 in
set_option maxRecDepth 100000 in
theorem kL_addGoodXI (l : Launch) (D : va_G) (h : Nat) (ad : Nat → Nat) (cI cZ : ClassId) (ex : Nat → Bool) (pa : Nat → Option Nat) (di : Nat → Nat) (qu : Nat → Nat) (gc : Nat) (dg : Nat → Nat) (dp : Nat → Nat) (dv : Nat → Option Nat) (dd : Nat → Nat) (ds : Nat → Nat) (dc : Nat) (td : Nat) (ho : Nat → Option Nat) (ak : Nat → Bool) (se : Nat → Option Nat) (pr : Nat → Option Nat) (hlf : l.stackTraces = false) (ob : Nat) (g : Int32) (hg : gBad ex g) (hne : g ≠ -1) : Met l yL_addGood wsL_addGood ({ frames := 8, cells := 1, slots := 6, locals := 125 } : Room) (tN D (hW h ad cI cZ ex pa di qu gc dg dp dv dd ds dc td ho ak se pr) (hT cI cZ) [.ref h, .int g, .ref ob]) (eQ 1) 1 6 nF := by
  refine mt_ofWH (cc := cL_addGood) (maxL := 4) (ret := (some .int)) (by decide) rfl ?_
  intro p e s m args below meth c s₁ B hml htab hv
  obtain ⟨rfl, hP, hK, hE, hN⟩ := hv
  have hx := B.exec
  have hb := B.bytes
  have hr := B.returns
  have hts := atoms_spec (ws := wsL_addGood) B.pre
  have hown : s.vm.findClass RL = some m.cls := findClass_of_methodNamed B.named
  have hlocks := B.notSynchronized
  have hl := lv_entry ([.ref h, .int g, .ref ob]) (n := 4) (Nat.le_of_ble_eq_true rfl)
  rw [lg_entry_eq]
  generalize (lg_sl ([.ref h, .int g, .ref ob]) ++ List.replicate (4 - (lg_sl ([.ref h, .int g, .ref ob])).length) Slot.unset).toArray = ls at hl ⊢
  have hl : lv_has ls 4 [(0, .ref h), (1, .int g), (2, .ref ob)] := hl
  refine lv_aload_n hx hb dL_addGood_0 rfl (lv_at hl 2 rfl) ?_
  refine lv_iconst (v := nI 0) hx hb dL_addGood_1 (by decide) ?_
  refine lv_aload_n hx hb dL_addGood_2 rfl (lv_at hl 0 rfl) ?_
  refine lv_iload_n hx hb dL_addGood_3 rfl (lv_at hl 1 rfl) ?_
  refine q_catch (vx_runV (As := [.int g]) (rest := [.int (nI 0), .ref ob]) ⟨hx, hb, hml, hown, hts⟩ (kX0_addGoodXI l D h ad cI cZ ex pa di qu gc dg dp dv dd ds dc td ho ak se pr hlf g hg hne) (cwV 1 hts gL_addGood_X0_addGood rfl rfl rfl (by decide +kernel) ⟨Nat.le_of_ble_eq_true rfl, Nat.le_of_ble_eq_true rfl⟩) ⟨tP_blind, va_recv hK hP (ci := 0) (q0 := 0) rfl rfl, tP_pre hP hK hE⟩ rfl rfl hl.1 rfl (lv_room (Nat.le_of_ble_eq_true rfl)) dL_addGood_4 ⟨Nat.le_of_ble_eq_true rfl, Nat.le_of_ble_eq_true rfl⟩) (fun H ce q9 h1 h2 h3 h4 h5 => ?_)
  obtain ⟨t0, ht0, htab⟩ := tab_c htab
  refine vx_catch (own := RL) (name := "java/lang/IndexOutOfBoundsException") (E := "java/lang/IndexOutOfBoundsException") hown [] ⟨0, 9, 12, 13⟩ t0 ht0 (fun z hz => by cases hz) (by decide) (by decide) (hts (.classLink RL 13 "java/lang/IndexOutOfBoundsException") (by decide +kernel)) (va_Nw.use rfl (hE.2.2.2.1 "java/lang/IndexOutOfBoundsException" (by decide))) h3 h4 h5 ?_
  refine lv_astore_n (lv' := [(3, .ref q9), (0, .ref h), (1, .int g), (2, .ref ob)]) hx hb dL_addGood_12 rfl hl (by decide) rfl (fun ls hl => ?_)
  refine lv_iconst (v := nI 1) hx hb dL_addGood_13 (by decide) ?_
  exact q_eret hx hb hr hlocks h1 h2 dL_addGood_14

set_option maxHeartbeats 4000000 in
set_option maxRecDepth 100000 in
theorem kL_addGoodXS (l : Launch) (D : va_G) (h : Nat) (ad : Nat → Nat) (cI cZ : ClassId) (ex : Nat → Bool) (pa : Nat → Option Nat) (di : Nat → Nat) (qu : Nat → Nat) (gc : Nat) (dg : Nat → Nat) (dp : Nat → Nat) (dv : Nat → Option Nat) (dd : Nat → Nat) (ds : Nat → Nat) (dc : Nat) (td : Nat) (ho : Nat → Option Nat) (ak : Nat → Bool) (se : Nat → Option Nat) (pr : Nat → Option Nat) (hlf : l.stackTraces = false) (ob : Nat) (o : Option Nat) (lev : Nat → Nat) (hti : TI ex pa lev) (ho2 : okO ex o) (hgc : gc ≤ 16) (hbad : lvZ lev o = 2 ∨ gc = 16) : Met l yL_addGood wsL_addGood ({ frames := 7, cells := 1, slots := 6, locals := 104 } : Room) (tN D (hW h ad cI cZ ex pa di qu gc dg dp dv dd ds dc td ho ak se pr) (hT cI cZ) [.ref h, .int (oI o), .ref ob]) (eQ 2) 1 6 nF := by
  refine mt_ofWH (cc := cL_addGood) (maxL := 4) (ret := (some .int)) (by decide) rfl ?_
  intro p e s m args below meth c s₁ B hml htab hv
  obtain ⟨rfl, hP, hK, hE, hN⟩ := hv
  have hx := B.exec
  have hb := B.bytes
  have hr := B.returns
  have hts := atoms_spec (ws := wsL_addGood) B.pre
  have hown : s.vm.findClass RL = some m.cls := findClass_of_methodNamed B.named
  have hlocks := B.notSynchronized
  have hl := lv_entry ([.ref h, .int (oI o), .ref ob]) (n := 4) (Nat.le_of_ble_eq_true rfl)
  rw [lg_entry_eq]
  generalize (lg_sl ([.ref h, .int (oI o), .ref ob]) ++ List.replicate (4 - (lg_sl ([.ref h, .int (oI o), .ref ob])).length) Slot.unset).toArray = ls at hl ⊢
  have hl : lv_has ls 4 [(0, .ref h), (1, .int (oI o)), (2, .ref ob)] := hl
  refine lv_aload_n hx hb dL_addGood_0 rfl (lv_at hl 2 rfl) ?_
  refine lv_iconst (v := nI 0) hx hb dL_addGood_1 (by decide) ?_
  refine lv_aload_n hx hb dL_addGood_2 rfl (lv_at hl 0 rfl) ?_
  refine lv_iload_n hx hb dL_addGood_3 rfl (lv_at hl 1 rfl) ?_
  refine q_catch (vx_runV (As := [.int (oI o)]) (rest := [.int (nI 0), .ref ob]) ⟨hx, hb, hml, hown, hts⟩ (kX0_addGoodXS l D h ad cI cZ ex pa di qu gc dg dp dv dd ds dc td ho ak se pr hlf o lev hti ho2 hgc hbad) (cwV 1 hts gL_addGood_X0_addGood rfl rfl rfl (by decide +kernel) ⟨Nat.le_of_ble_eq_true rfl, Nat.le_of_ble_eq_true rfl⟩) ⟨tP_blind, va_recv hK hP (ci := 0) (q0 := 0) rfl rfl, tP_pre hP hK hE⟩ rfl rfl hl.1 rfl (lv_room (Nat.le_of_ble_eq_true rfl)) dL_addGood_4 ⟨Nat.le_of_ble_eq_true rfl, Nat.le_of_ble_eq_true rfl⟩) (fun H ce q9 h1 h2 h3 h4 h5 => ?_)
  obtain ⟨t0, ht0, htab⟩ := tab_c htab
  obtain ⟨t1, ht1, htab⟩ := tab_c htab
  refine vx_catch (own := RL) (name := "java/lang/IllegalStateException") (E := "java/lang/IllegalStateException") hown [⟨0, 9, 12, 13⟩] ⟨0, 9, 15, 15⟩ t1 (ht0.trans (congrArg (List.cons ⟨0, 9, 12, 13⟩) ht1)) (fun z hz => by
    simp only [List.mem_cons, List.not_mem_nil, or_false] at hz
    subst hz
    exact Or.inr ⟨by decide, "java/lang/IndexOutOfBoundsException", hts (.classLink RL 13 "java/lang/IndexOutOfBoundsException") (by decide +kernel), hN.1⟩) (by decide) (by decide) (hts (.classLink RL 15 "java/lang/IllegalStateException") (by decide +kernel)) (va_Nw.use rfl (hE.2.2.2.1 "java/lang/IllegalStateException" (by decide))) h3 h4 h5 ?_
  refine lv_astore_n (lv' := [(3, .ref q9), (0, .ref h), (1, .int (oI o)), (2, .ref ob)]) hx hb dL_addGood_15 rfl hl (by decide) rfl (fun ls hl => ?_)
  refine lv_iconst (v := nI 2) hx hb dL_addGood_16 (by decide) ?_
  exact q_eret hx hb hr hlocks h1 h2 dL_addGood_17

set_option maxHeartbeats 4000000 in
set_option maxRecDepth 100000 in
theorem kL_move (l : Launch) (D : va_G) (h : Nat) (ad : Nat → Nat) (cI cZ : ClassId) (ex : Nat → Bool) (pa : Nat → Option Nat) (di : Nat → Nat) (qu : Nat → Nat) (gc : Nat) (dg : Nat → Nat) (dp : Nat → Nat) (dv : Nat → Option Nat) (dd : Nat → Nat) (ds : Nat → Nat) (dc : Nat) (td : Nat) (ho : Nat → Option Nat) (ak : Nat → Bool) (se : Nat → Option Nat) (pr : Nat → Option Nat) (cJ : ClassId) (ob : Nat) (f : Nat → Int64) (sz : Nat) (g : Nat) (o : Option Nat) (lev : Nat → Nat) (hti : TI ex pa lev) (hpr : PR pa) (hg : g < 16) (he : ex g = true) (ho2 : okO ex o) (hw : wth ex pa g 3 o = false) (hlv : lvZ lev o + ((mxd (fun k => wth ex pa g 3 (some k)) lev (lev g) 16 : Nat) : Int) - ((lev g : Nat) : Int) + 1 < 3) (hret : ∀ k, pa g = some k → k < 2 ^ 31) : Met l yL_move wsL_move ({ frames := 4, cells := 0, slots := 0, locals := 91 } : Room) (wP D ((hW h ad cI cZ ex pa di qu gc dg dp dv dd ds dc td ho ak se pr) ++ [(ob, .inl (cJ, 1, .inr (.inl f)))]) (mT cI cJ cZ) [.ref h, .int (nI g), .int (oI o), .ref ob] sz) (wQ D ((hW h ad cI cZ ex pa di qu gc dg dp dv dd ds dc td ho ak se pr) ++ [(ob, .inl (cJ, 1, .inr (.inl f)))]) ((hW h ad cI cZ ex (va_up pa g o) di qu gc dg dp dv dd ds dc td ho ak se pr) ++ [(ob, .inl (cJ, 1, .inr (.inl (vp_updL f 0 (oL (pa g))))))]) (some (.int (nI 0)))) 0 0 (va_A ((hW h ad cI cZ ex pa di qu gc dg dp dv dd ds dc td ho ak se pr) ++ [(ob, .inl (cJ, 1, .inr (.inl f)))]) sz) := by
  refine mt_ofWH (cc := cL_move) (maxL := 5) (ret := (some .int)) (by decide) rfl ?_
  intro p e s m args below meth c s₁ B hml htab hv
  obtain ⟨rfl, hsz, hP, hK, hD0⟩ := hv
  have hx := B.exec
  have hb := B.bytes
  have hr := B.returns
  have hts := atoms_spec (ws := wsL_move) B.pre
  have hown : s.vm.findClass RL = some m.cls := findClass_of_methodNamed B.named
  have hlocks := B.notSynchronized
  subst hsz
  have hD := hD0.self (sz := s.heap.size)
  generalize hAe : va_A ((hW h ad cI cZ ex pa di qu gc dg dp dv dd ds dc td ho ak se pr) ++ [(ob, .inl (cJ, 1, .inr (.inl f)))]) s.heap.size = A at hD ⊢
  have hA : ∀ q : Nat, s.heap.size ≤ q → A q := fun q h => by rw [← hAe]; exact Or.inr h
  have hS : va_S A s.heap s.heap [] := va_S.rf
  have hKh : va_K D vwCl (hT cI cZ) s := hK.sub [0, 1] rfl
  have hl := lv_entry ([.ref h, .int (nI g), .int (oI o), .ref ob]) (n := 5) (Nat.le_of_ble_eq_true rfl)
  rw [lg_entry_eq]
  generalize (lg_sl ([.ref h, .int (nI g), .int (oI o), .ref ob]) ++ List.replicate (5 - (lg_sl ([.ref h, .int (nI g), .int (oI o), .ref ob])).length) Slot.unset).toArray = ls at hl ⊢
  have hl : lv_has ls 5 [(0, .ref h), (1, .int (nI g)), (2, .int (oI o)), (3, .ref ob)] := hl
  refine lv_aload_n hx hb dL_move_0 rfl (lv_at hl 3 rfl) ?_
  refine lv_iconst (v := nI 0) hx hb dL_move_1 (by decide) ?_
  refine lv_aload_n hx hb dL_move_2 rfl (lv_at hl 0 rfl) ?_
  refine lv_iload_n hx hb dL_move_3 rfl (lv_at hl 1 rfl) ?_
  refine lv_iload_n hx hb dL_move_4 rfl (lv_at hl 2 rfl) ?_
  refine q_wcallFI (wb := [(ob, .inl (cJ, 1, .inr (.inl f)))]) (r := oI (pa g)) (wa' := (hW h ad cI cZ ex (va_up pa g o) di qu gc dg dp dv dd ds dc td ho ak se pr)) (va_runV (As := [.int (nI g), .int (oI o)]) (rest := [.int (nI 0), .ref ob]) ⟨hx, hb, hml, hown, hts⟩ (kX0_move l D h ad cI cZ ex pa di qu gc dg dp dv dd ds dc td ho ak se pr _ g o lev hti hpr hg he ho2 hw hlv) (cwV 2 hts gL_move_X0_move rfl rfl rfl (by decide +kernel) ⟨Nat.le_of_ble_eq_true rfl, Nat.le_of_ble_eq_true rfl⟩) ⟨wP_blind, va_recv hKh (va_Pl hP) (ci := 0) (q0 := 0) rfl rfl, wP_pre (va_Pl hP) hKh (va_Dl hD)⟩ rfl rfl hl.1 rfl (lv_room (Nat.le_of_ble_eq_true rfl)) dL_move_5 ⟨Nat.zero_le _, Nat.zero_le _⟩) hP hD hS hA rfl (fun H locs hP hD hS => ?_)
  refine lv_i2l (v := oL (pa g)) hx hb dL_move_8 (oI_l hret) ?_
  refine q_ost hx hb hK hP hD hS 14 2 rfl rfl dL_move_9 (fun H locs hP hD hS => ?_)
  have hP : va_P D vwCl ((hW h ad cI cZ ex (va_up pa g o) di qu gc dg dp dv dd ds dc td ho ak se pr) ++ [(ob, .inl (cJ, 1, .inr (.inl (vp_updL f 0 (oL (pa g))))))]) H := hP
  refine lv_goto (tgt := 21) hx hb dL_move_10 (by decide) ?_
  refine lv_iconst (v := nI 0) hx hb dL_move_21 (by decide) ?_
  exact q_wretI hx hb hr hlocks hAe hP hS rfl dL_move_22

set_option maxHeartbeats 4000000 in
set_option maxRecDepth 100000 in
theorem kL_moveXI (l : Launch) (D : va_G) (h : Nat) (ad : Nat → Nat) (cI cZ : ClassId) (ex : Nat → Bool) (pa : Nat → Option Nat) (di : Nat → Nat) (qu : Nat → Nat) (gc : Nat) (dg : Nat → Nat) (dp : Nat → Nat) (dv : Nat → Option Nat) (dd : Nat → Nat) (ds : Nat → Nat) (dc : Nat) (td : Nat) (ho : Nat → Option Nat) (ak : Nat → Bool) (se : Nat → Option Nat) (pr : Nat → Option Nat) (hlf : l.stackTraces = false) (ob : Nat) (g o : Int32) (hg : gBad ex g ∨ ∃ j, j < 16 ∧ g = nI j ∧ ex j = true ∧ gBad ex o ∧ o ≠ -1) : Met l yL_move wsL_move ({ frames := 8, cells := 1, slots := 6, locals := 126 } : Room) (tN D (hW h ad cI cZ ex pa di qu gc dg dp dv dd ds dc td ho ak se pr) (hT cI cZ) [.ref h, .int g, .int o, .ref ob]) (eQ 1) 1 6 nF := by
  refine mt_ofWH (cc := cL_move) (maxL := 5) (ret := (some .int)) (by decide) rfl ?_
  intro p e s m args below meth c s₁ B hml htab hv
  obtain ⟨rfl, hP, hK, hE, hN⟩ := hv
  have hx := B.exec
  have hb := B.bytes
  have hr := B.returns
  have hts := atoms_spec (ws := wsL_move) B.pre
  have hown : s.vm.findClass RL = some m.cls := findClass_of_methodNamed B.named
  have hlocks := B.notSynchronized
  have hl := lv_entry ([.ref h, .int g, .int o, .ref ob]) (n := 5) (Nat.le_of_ble_eq_true rfl)
  rw [lg_entry_eq]
  generalize (lg_sl ([.ref h, .int g, .int o, .ref ob]) ++ List.replicate (5 - (lg_sl ([.ref h, .int g, .int o, .ref ob])).length) Slot.unset).toArray = ls at hl ⊢
  have hl : lv_has ls 5 [(0, .ref h), (1, .int g), (2, .int o), (3, .ref ob)] := hl
  refine lv_aload_n hx hb dL_move_0 rfl (lv_at hl 3 rfl) ?_
  refine lv_iconst (v := nI 0) hx hb dL_move_1 (by decide) ?_
  refine lv_aload_n hx hb dL_move_2 rfl (lv_at hl 0 rfl) ?_
  refine lv_iload_n hx hb dL_move_3 rfl (lv_at hl 1 rfl) ?_
  refine lv_iload_n hx hb dL_move_4 rfl (lv_at hl 2 rfl) ?_
  refine q_catch (vx_runV (As := [.int g, .int o]) (rest := [.int (nI 0), .ref ob]) ⟨hx, hb, hml, hown, hts⟩ (kX0_moveXI l D h ad cI cZ ex pa di qu gc dg dp dv dd ds dc td ho ak se pr hlf g o hg) (cwV 2 hts gL_move_X0_move rfl rfl rfl (by decide +kernel) ⟨Nat.le_of_ble_eq_true rfl, Nat.le_of_ble_eq_true rfl⟩) ⟨tP_blind, va_recv hK hP (ci := 0) (q0 := 0) rfl rfl, tP_pre hP hK hE⟩ rfl rfl hl.1 rfl (lv_room (Nat.le_of_ble_eq_true rfl)) dL_move_5 ⟨Nat.le_of_ble_eq_true rfl, Nat.le_of_ble_eq_true rfl⟩) (fun H ce q9 h1 h2 h3 h4 h5 => ?_)
  obtain ⟨t0, ht0, htab⟩ := tab_c htab
  refine vx_catch (own := RL) (name := "java/lang/IndexOutOfBoundsException") (E := "java/lang/IndexOutOfBoundsException") hown [] ⟨0, 10, 13, 13⟩ t0 ht0 (fun z hz => by cases hz) (by decide) (by decide) (hts (.classLink RL 13 "java/lang/IndexOutOfBoundsException") (by decide +kernel)) (va_Nw.use rfl (hE.2.2.2.1 "java/lang/IndexOutOfBoundsException" (by decide))) h3 h4 h5 ?_
  refine lv_astore (lv' := [(4, .ref q9), (0, .ref h), (1, .int g), (2, .int o), (3, .ref ob)]) hx hb dL_move_13 hl (by decide) rfl (fun ls hl => ?_)
  refine lv_iconst (v := nI 1) hx hb dL_move_15 (by decide) ?_
  exact q_eret hx hb hr hlocks h1 h2 dL_move_16

set_option maxHeartbeats 4000000 in
set_option maxRecDepth 100000 in
theorem kL_moveXS (l : Launch) (D : va_G) (h : Nat) (ad : Nat → Nat) (cI cZ : ClassId) (ex : Nat → Bool) (pa : Nat → Option Nat) (di : Nat → Nat) (qu : Nat → Nat) (gc : Nat) (dg : Nat → Nat) (dp : Nat → Nat) (dv : Nat → Option Nat) (dd : Nat → Nat) (ds : Nat → Nat) (dc : Nat) (td : Nat) (ho : Nat → Option Nat) (ak : Nat → Bool) (se : Nat → Option Nat) (pr : Nat → Option Nat) (hlf : l.stackTraces = false) (ob : Nat) (g : Nat) (o : Option Nat) (lev : Nat → Nat) (hti : TI ex pa lev) (hpr : PR pa) (hg : g < 16) (he : ex g = true) (ho2 : okO ex o) (hbad : wth ex pa g 3 o = true ∨ (wth ex pa g 3 o = false ∧ 3 ≤ lvZ lev o + ((mxd (fun k => wth ex pa g 3 (some k)) lev (lev g) 16 : Nat) : Int) - ((lev g : Nat) : Int) + 1)) : Met l yL_move wsL_move ({ frames := 7, cells := 1, slots := 6, locals := 105 } : Room) (tN D (hW h ad cI cZ ex pa di qu gc dg dp dv dd ds dc td ho ak se pr) (hT cI cZ) [.ref h, .int (nI g), .int (oI o), .ref ob]) (eQ 2) 1 6 nF := by
  refine mt_ofWH (cc := cL_move) (maxL := 5) (ret := (some .int)) (by decide) rfl ?_
  intro p e s m args below meth c s₁ B hml htab hv
  obtain ⟨rfl, hP, hK, hE, hN⟩ := hv
  have hx := B.exec
  have hb := B.bytes
  have hr := B.returns
  have hts := atoms_spec (ws := wsL_move) B.pre
  have hown : s.vm.findClass RL = some m.cls := findClass_of_methodNamed B.named
  have hlocks := B.notSynchronized
  have hl := lv_entry ([.ref h, .int (nI g), .int (oI o), .ref ob]) (n := 5) (Nat.le_of_ble_eq_true rfl)
  rw [lg_entry_eq]
  generalize (lg_sl ([.ref h, .int (nI g), .int (oI o), .ref ob]) ++ List.replicate (5 - (lg_sl ([.ref h, .int (nI g), .int (oI o), .ref ob])).length) Slot.unset).toArray = ls at hl ⊢
  have hl : lv_has ls 5 [(0, .ref h), (1, .int (nI g)), (2, .int (oI o)), (3, .ref ob)] := hl
  refine lv_aload_n hx hb dL_move_0 rfl (lv_at hl 3 rfl) ?_
  refine lv_iconst (v := nI 0) hx hb dL_move_1 (by decide) ?_
  refine lv_aload_n hx hb dL_move_2 rfl (lv_at hl 0 rfl) ?_
  refine lv_iload_n hx hb dL_move_3 rfl (lv_at hl 1 rfl) ?_
  refine lv_iload_n hx hb dL_move_4 rfl (lv_at hl 2 rfl) ?_
  refine q_catch (vx_runV (As := [.int (nI g), .int (oI o)]) (rest := [.int (nI 0), .ref ob]) ⟨hx, hb, hml, hown, hts⟩ (kX0_moveXS l D h ad cI cZ ex pa di qu gc dg dp dv dd ds dc td ho ak se pr hlf g o lev hti hpr hg he ho2 hbad) (cwV 2 hts gL_move_X0_move rfl rfl rfl (by decide +kernel) ⟨Nat.le_of_ble_eq_true rfl, Nat.le_of_ble_eq_true rfl⟩) ⟨tP_blind, va_recv hK hP (ci := 0) (q0 := 0) rfl rfl, tP_pre hP hK hE⟩ rfl rfl hl.1 rfl (lv_room (Nat.le_of_ble_eq_true rfl)) dL_move_5 ⟨Nat.le_of_ble_eq_true rfl, Nat.le_of_ble_eq_true rfl⟩) (fun H ce q9 h1 h2 h3 h4 h5 => ?_)
  obtain ⟨t0, ht0, htab⟩ := tab_c htab
  obtain ⟨t1, ht1, htab⟩ := tab_c htab
  refine vx_catch (own := RL) (name := "java/lang/IllegalStateException") (E := "java/lang/IllegalStateException") hown [⟨0, 10, 13, 13⟩] ⟨0, 10, 17, 15⟩ t1 (ht0.trans (congrArg (List.cons ⟨0, 10, 13, 13⟩) ht1)) (fun z hz => by
    simp only [List.mem_cons, List.not_mem_nil, or_false] at hz
    subst hz
    exact Or.inr ⟨by decide, "java/lang/IndexOutOfBoundsException", hts (.classLink RL 13 "java/lang/IndexOutOfBoundsException") (by decide +kernel), hN.1⟩) (by decide) (by decide) (hts (.classLink RL 15 "java/lang/IllegalStateException") (by decide +kernel)) (va_Nw.use rfl (hE.2.2.2.1 "java/lang/IllegalStateException" (by decide))) h3 h4 h5 ?_
  refine lv_astore (lv' := [(4, .ref q9), (0, .ref h), (1, .int (nI g)), (2, .int (oI o)), (3, .ref ob)]) hx hb dL_move_17 hl (by decide) rfl (fun ls hl => ?_)
  refine lv_iconst (v := nI 2) hx hb dL_move_19 (by decide) ?_
  exact q_eret hx hb hr hlocks h1 h2 dL_move_20

set_option maxHeartbeats 4000000 in
set_option maxRecDepth 100000 in
theorem kL_delete (l : Launch) (D : va_G) (h : Nat) (ad : Nat → Nat) (cI cZ : ClassId) (ex : Nat → Bool) (pa : Nat → Option Nat) (di : Nat → Nat) (qu : Nat → Nat) (gc : Nat) (dg : Nat → Nat) (dp : Nat → Nat) (dv : Nat → Option Nat) (dd : Nat → Nat) (ds : Nat → Nat) (dc : Nat) (td : Nat) (ho : Nat → Option Nat) (ak : Nat → Bool) (se : Nat → Option Nat) (pr : Nat → Option Nat) (sz : Nat) (g : Nat) (hg : g < 16) (he : ex g = true) (hpr : PR pa) (hqu : ∀ k, k < 256 → qu k ≤ 20) (hnp : exU (fun k => decide (pa k = some g)) 16 = false) (hnq : exU (fun k => decide (0 < qu (k * 16 + g))) 16 = false) (hdg : ∀ k, k < dc → dg k < 16) (hdc : dc ≤ 200) (htd : td < 2147483648) (hdp : ∀ k, k < dc → dp k < 1536) (hdd : ∀ k, k < dc → dd k ≤ 1000) (hds : ∀ k, k < dc → ds k ≤ 4) : Met l yL_delete wsL_delete ({ frames := 4, cells := 0, slots := 0, locals := 87 } : Room) (wP D (hW h ad cI cZ ex pa di qu gc dg dp dv dd ds dc td ho ak se pr) (hT cI cZ) [.ref h, .int (nI g)] sz) (wQ D (hW h ad cI cZ ex pa di qu gc dg dp dv dd ds dc td ho ak se pr) (hW h ad cI cZ (va_up ex g false) (va_up pa g none) di (clr qu (g * 16) 16) gc dg dp dv dd (kil ds dg g dc) dc td (stl ho (kil ds dg g dc) dd dp td dc) ak se pr) (some (.int (nI 0)))) 0 0 (va_A (hW h ad cI cZ ex pa di qu gc dg dp dv dd ds dc td ho ak se pr) sz) := by
  refine mt_ofWH (cc := cL_delete) (maxL := 3) (ret := (some .int)) (by decide) rfl ?_
  intro p e s m args below meth c s₁ B hml htab hv
  obtain ⟨rfl, hsz, hP, hK, hD0⟩ := hv
  have hx := B.exec
  have hb := B.bytes
  have hr := B.returns
  have hts := atoms_spec (ws := wsL_delete) B.pre
  have hown : s.vm.findClass RL = some m.cls := findClass_of_methodNamed B.named
  have hlocks := B.notSynchronized
  subst hsz
  have hD := hD0.self (sz := s.heap.size)
  generalize hAe : va_A (hW h ad cI cZ ex pa di qu gc dg dp dv dd ds dc td ho ak se pr) s.heap.size = A at hD ⊢
  have hA : ∀ q : Nat, s.heap.size ≤ q → A q := fun q h => by rw [← hAe]; exact Or.inr h
  have hS : va_S A s.heap s.heap [] := va_S.rf
  have hKh : va_K D vwCl (hT cI cZ) s := hK.sub [0, 1] rfl
  have hl := lv_entry ([.ref h, .int (nI g)]) (n := 3) (Nat.le_of_ble_eq_true rfl)
  rw [lg_entry_eq]
  generalize (lg_sl ([.ref h, .int (nI g)]) ++ List.replicate (3 - (lg_sl ([.ref h, .int (nI g)])).length) Slot.unset).toArray = ls at hl ⊢
  have hl : lv_has ls 3 [(0, .ref h), (1, .int (nI g))] := hl
  refine lv_aload_n hx hb dL_delete_0 rfl (lv_at hl 0 rfl) ?_
  refine lv_iload_n hx hb dL_delete_1 rfl (lv_at hl 1 rfl) ?_
  refine q_wcallV (w' := (hW h ad cI cZ (va_up ex g false) (va_up pa g none) di (clr qu (g * 16) 16) gc dg dp dv dd (kil ds dg g dc) dc td (stl ho (kil ds dg g dc) dd dp td dc) ak se pr)) (va_runV (As := [.int (nI g)]) (rest := []) ⟨hx, hb, hml, hown, hts⟩ (kX0_delete l D h ad cI cZ ex pa di qu gc dg dp dv dd ds dc td ho ak se pr _ g hg he hpr hqu hnp hnq hdg hdc htd hdp hdd hds) (cwV 1 hts gL_delete_X0_delete rfl rfl rfl (by decide +kernel) ⟨Nat.le_of_ble_eq_true rfl, Nat.le_of_ble_eq_true rfl⟩) ⟨wP_blind, va_recv hKh hP (ci := 0) (q0 := 0) rfl rfl, wP_pre hP hKh hD⟩ rfl rfl hl.1 rfl (lv_room (Nat.le_of_ble_eq_true rfl)) dL_delete_2 ⟨Nat.zero_le _, Nat.zero_le _⟩) hD hS hA rfl (fun H locs hP hD hS => ?_)
  refine lv_goto (tgt := 14) hx hb dL_delete_5 (by decide) ?_
  refine lv_iconst (v := nI 0) hx hb dL_delete_14 (by decide) ?_
  exact q_wretI hx hb hr hlocks hAe hP hS rfl dL_delete_15

set_option maxHeartbeats 4000000 in
set_option maxRecDepth 100000 in
theorem kL_deleteXI (l : Launch) (D : va_G) (h : Nat) (ad : Nat → Nat) (cI cZ : ClassId) (ex : Nat → Bool) (pa : Nat → Option Nat) (di : Nat → Nat) (qu : Nat → Nat) (gc : Nat) (dg : Nat → Nat) (dp : Nat → Nat) (dv : Nat → Option Nat) (dd : Nat → Nat) (ds : Nat → Nat) (dc : Nat) (td : Nat) (ho : Nat → Option Nat) (ak : Nat → Bool) (se : Nat → Option Nat) (pr : Nat → Option Nat) (hlf : l.stackTraces = false) (g : Int32) (hg : gBad ex g) : Met l yL_delete wsL_delete ({ frames := 8, cells := 1, slots := 6, locals := 125 } : Room) (tN D (hW h ad cI cZ ex pa di qu gc dg dp dv dd ds dc td ho ak se pr) (hT cI cZ) [.ref h, .int g]) (eQ 1) 1 6 nF := by
  refine mt_ofWH (cc := cL_delete) (maxL := 3) (ret := (some .int)) (by decide) rfl ?_
  intro p e s m args below meth c s₁ B hml htab hv
  obtain ⟨rfl, hP, hK, hE, hN⟩ := hv
  have hx := B.exec
  have hb := B.bytes
  have hr := B.returns
  have hts := atoms_spec (ws := wsL_delete) B.pre
  have hown : s.vm.findClass RL = some m.cls := findClass_of_methodNamed B.named
  have hlocks := B.notSynchronized
  have hl := lv_entry ([.ref h, .int g]) (n := 3) (Nat.le_of_ble_eq_true rfl)
  rw [lg_entry_eq]
  generalize (lg_sl ([.ref h, .int g]) ++ List.replicate (3 - (lg_sl ([.ref h, .int g])).length) Slot.unset).toArray = ls at hl ⊢
  have hl : lv_has ls 3 [(0, .ref h), (1, .int g)] := hl
  refine lv_aload_n hx hb dL_delete_0 rfl (lv_at hl 0 rfl) ?_
  refine lv_iload_n hx hb dL_delete_1 rfl (lv_at hl 1 rfl) ?_
  refine q_catch (vx_runV (As := [.int g]) (rest := []) ⟨hx, hb, hml, hown, hts⟩ (kX0_deleteXI l D h ad cI cZ ex pa di qu gc dg dp dv dd ds dc td ho ak se pr hlf g hg) (cwV 1 hts gL_delete_X0_delete rfl rfl rfl (by decide +kernel) ⟨Nat.le_of_ble_eq_true rfl, Nat.le_of_ble_eq_true rfl⟩) ⟨tP_blind, va_recv hK hP (ci := 0) (q0 := 0) rfl rfl, tP_pre hP hK hE⟩ rfl rfl hl.1 rfl (lv_room (Nat.le_of_ble_eq_true rfl)) dL_delete_2 ⟨Nat.le_of_ble_eq_true rfl, Nat.le_of_ble_eq_true rfl⟩) (fun H ce q9 h1 h2 h3 h4 h5 => ?_)
  obtain ⟨t0, ht0, htab⟩ := tab_c htab
  refine vx_catch (own := RL) (name := "java/lang/IndexOutOfBoundsException") (E := "java/lang/IndexOutOfBoundsException") hown [] ⟨0, 5, 8, 13⟩ t0 ht0 (fun z hz => by cases hz) (by decide) (by decide) (hts (.classLink RL 13 "java/lang/IndexOutOfBoundsException") (by decide +kernel)) (va_Nw.use rfl (hE.2.2.2.1 "java/lang/IndexOutOfBoundsException" (by decide))) h3 h4 h5 ?_
  refine lv_astore_n (lv' := [(2, .ref q9), (0, .ref h), (1, .int g)]) hx hb dL_delete_8 rfl hl (by decide) rfl (fun ls hl => ?_)
  refine lv_iconst (v := nI 1) hx hb dL_delete_9 (by decide) ?_
  exact q_eret hx hb hr hlocks h1 h2 dL_delete_10

set_option maxHeartbeats 4000000 in
set_option maxRecDepth 100000 in
theorem kL_deleteXS (l : Launch) (D : va_G) (h : Nat) (ad : Nat → Nat) (cI cZ : ClassId) (ex : Nat → Bool) (pa : Nat → Option Nat) (di : Nat → Nat) (qu : Nat → Nat) (gc : Nat) (dg : Nat → Nat) (dp : Nat → Nat) (dv : Nat → Option Nat) (dd : Nat → Nat) (ds : Nat → Nat) (dc : Nat) (td : Nat) (ho : Nat → Option Nat) (ak : Nat → Bool) (se : Nat → Option Nat) (pr : Nat → Option Nat) (hlf : l.stackTraces = false) (g : Nat) (hg : g < 16) (he : ex g = true) (hpr : PR pa) (hqu : ∀ k, k < 256 → qu k ≤ 20) (hbad : exU (fun k => decide (pa k = some g)) 16 = true ∨ exU (fun k => decide (0 < qu (k * 16 + g))) 16 = true) : Met l yL_delete wsL_delete ({ frames := 7, cells := 1, slots := 6, locals := 104 } : Room) (tN D (hW h ad cI cZ ex pa di qu gc dg dp dv dd ds dc td ho ak se pr) (hT cI cZ) [.ref h, .int (nI g)]) (eQ 2) 1 6 nF := by
  refine mt_ofWH (cc := cL_delete) (maxL := 3) (ret := (some .int)) (by decide) rfl ?_
  intro p e s m args below meth c s₁ B hml htab hv
  obtain ⟨rfl, hP, hK, hE, hN⟩ := hv
  have hx := B.exec
  have hb := B.bytes
  have hr := B.returns
  have hts := atoms_spec (ws := wsL_delete) B.pre
  have hown : s.vm.findClass RL = some m.cls := findClass_of_methodNamed B.named
  have hlocks := B.notSynchronized
  have hl := lv_entry ([.ref h, .int (nI g)]) (n := 3) (Nat.le_of_ble_eq_true rfl)
  rw [lg_entry_eq]
  generalize (lg_sl ([.ref h, .int (nI g)]) ++ List.replicate (3 - (lg_sl ([.ref h, .int (nI g)])).length) Slot.unset).toArray = ls at hl ⊢
  have hl : lv_has ls 3 [(0, .ref h), (1, .int (nI g))] := hl
  refine lv_aload_n hx hb dL_delete_0 rfl (lv_at hl 0 rfl) ?_
  refine lv_iload_n hx hb dL_delete_1 rfl (lv_at hl 1 rfl) ?_
  refine q_catch (vx_runV (As := [.int (nI g)]) (rest := []) ⟨hx, hb, hml, hown, hts⟩ (kX0_deleteXS l D h ad cI cZ ex pa di qu gc dg dp dv dd ds dc td ho ak se pr hlf g hg he hpr hqu hbad) (cwV 1 hts gL_delete_X0_delete rfl rfl rfl (by decide +kernel) ⟨Nat.le_of_ble_eq_true rfl, Nat.le_of_ble_eq_true rfl⟩) ⟨tP_blind, va_recv hK hP (ci := 0) (q0 := 0) rfl rfl, tP_pre hP hK hE⟩ rfl rfl hl.1 rfl (lv_room (Nat.le_of_ble_eq_true rfl)) dL_delete_2 ⟨Nat.le_of_ble_eq_true rfl, Nat.le_of_ble_eq_true rfl⟩) (fun H ce q9 h1 h2 h3 h4 h5 => ?_)
  obtain ⟨t0, ht0, htab⟩ := tab_c htab
  obtain ⟨t1, ht1, htab⟩ := tab_c htab
  refine vx_catch (own := RL) (name := "java/lang/IllegalStateException") (E := "java/lang/IllegalStateException") hown [⟨0, 5, 8, 13⟩] ⟨0, 5, 11, 15⟩ t1 (ht0.trans (congrArg (List.cons ⟨0, 5, 8, 13⟩) ht1)) (fun z hz => by
    simp only [List.mem_cons, List.not_mem_nil, or_false] at hz
    subst hz
    exact Or.inr ⟨by decide, "java/lang/IndexOutOfBoundsException", hts (.classLink RL 13 "java/lang/IndexOutOfBoundsException") (by decide +kernel), hN.1⟩) (by decide) (by decide) (hts (.classLink RL 15 "java/lang/IllegalStateException") (by decide +kernel)) (va_Nw.use rfl (hE.2.2.2.1 "java/lang/IllegalStateException" (by decide))) h3 h4 h5 ?_
  refine lv_astore_n (lv' := [(2, .ref q9), (0, .ref h), (1, .int (nI g))]) hx hb dL_delete_11 rfl hl (by decide) rfl (fun ls hl => ?_)
  refine lv_iconst (v := nI 2) hx hb dL_delete_12 (by decide) ?_
  exact q_eret hx hb hr hlocks h1 h2 dL_delete_13

set_option maxHeartbeats 4000000 in
set_option maxRecDepth 100000 in
theorem kL_addPart (l : Launch) (D : va_G) (h : Nat) (ad : Nat → Nat) (cI cZ : ClassId) (ex : Nat → Bool) (pa : Nat → Option Nat) (di : Nat → Nat) (qu : Nat → Nat) (gc : Nat) (dg : Nat → Nat) (dp : Nat → Nat) (dv : Nat → Option Nat) (dd : Nat → Nat) (ds : Nat → Nat) (dc : Nat) (td : Nat) (ho : Nat → Option Nat) (ak : Nat → Bool) (se : Nat → Option Nat) (pr : Nat → Option Nat) (cJ : ClassId) (ob : Nat) (f : Nat → Int64) (sz : Nat) (g q w : Nat) (hg : g < 16) (he : ex g = true) (hq : q < 16) (he2 : ex q = true) (hlt : q < g) (hw1 : 1 ≤ w) (hw2 : w ≤ 20) (hqu : ∀ k, k < 256 → qu k ≤ 20) (hsm : qu (g * 16 + q) + w ≤ 20) (hret : qu (g * 16 + q) + w < 2147483648) : Met l yL_addPart wsL_addPart ({ frames := 3, cells := 0, slots := 0, locals := 67 } : Room) (wP D ((hW h ad cI cZ ex pa di qu gc dg dp dv dd ds dc td ho ak se pr) ++ [(ob, .inl (cJ, 1, .inr (.inl f)))]) (mT cI cJ cZ) [.ref h, .int (nI g), .int (nI q), .int (nI w), .ref ob] sz) (wQ D ((hW h ad cI cZ ex pa di qu gc dg dp dv dd ds dc td ho ak se pr) ++ [(ob, .inl (cJ, 1, .inr (.inl f)))]) ((hW h ad cI cZ ex pa di (va_up qu (g * 16 + q) (qu (g * 16 + q) + w)) gc dg dp dv dd ds dc td ho ak se pr) ++ [(ob, .inl (cJ, 1, .inr (.inl (vp_updL f 0 (lN (qu (g * 16 + q) + w))))))]) (some (.int (nI 0)))) 0 0 (va_A ((hW h ad cI cZ ex pa di qu gc dg dp dv dd ds dc td ho ak se pr) ++ [(ob, .inl (cJ, 1, .inr (.inl f)))]) sz) := by
  refine mt_ofWH (cc := cL_addPart) (maxL := 6) (ret := (some .int)) (by decide) rfl ?_
  intro p e s m args below meth c s₁ B hml htab hv
  obtain ⟨rfl, hsz, hP, hK, hD0⟩ := hv
  have hx := B.exec
  have hb := B.bytes
  have hr := B.returns
  have hts := atoms_spec (ws := wsL_addPart) B.pre
  have hown : s.vm.findClass RL = some m.cls := findClass_of_methodNamed B.named
  have hlocks := B.notSynchronized
  subst hsz
  have hD := hD0.self (sz := s.heap.size)
  generalize hAe : va_A ((hW h ad cI cZ ex pa di qu gc dg dp dv dd ds dc td ho ak se pr) ++ [(ob, .inl (cJ, 1, .inr (.inl f)))]) s.heap.size = A at hD ⊢
  have hA : ∀ q : Nat, s.heap.size ≤ q → A q := fun q h => by rw [← hAe]; exact Or.inr h
  have hS : va_S A s.heap s.heap [] := va_S.rf
  have hKh : va_K D vwCl (hT cI cZ) s := hK.sub [0, 1] rfl
  have hl := lv_entry ([.ref h, .int (nI g), .int (nI q), .int (nI w), .ref ob]) (n := 6) (Nat.le_of_ble_eq_true rfl)
  rw [lg_entry_eq]
  generalize (lg_sl ([.ref h, .int (nI g), .int (nI q), .int (nI w), .ref ob]) ++ List.replicate (6 - (lg_sl ([.ref h, .int (nI g), .int (nI q), .int (nI w), .ref ob])).length) Slot.unset).toArray = ls at hl ⊢
  have hl : lv_has ls 6 [(0, .ref h), (1, .int (nI g)), (2, .int (nI q)), (3, .int (nI w)), (4, .ref ob)] := hl
  refine lv_aload hx hb dL_addPart_0 (lv_at hl 4 rfl) ?_
  refine lv_iconst (v := nI 0) hx hb dL_addPart_2 (by decide) ?_
  refine lv_aload_n hx hb dL_addPart_3 rfl (lv_at hl 0 rfl) ?_
  refine lv_iload_n hx hb dL_addPart_4 rfl (lv_at hl 1 rfl) ?_
  refine lv_iload_n hx hb dL_addPart_5 rfl (lv_at hl 2 rfl) ?_
  refine lv_iload_n hx hb dL_addPart_6 rfl (lv_at hl 3 rfl) ?_
  refine q_wcallFI (wb := [(ob, .inl (cJ, 1, .inr (.inl f)))]) (r := nI (qu (g * 16 + q) + w)) (wa' := (hW h ad cI cZ ex pa di (va_up qu (g * 16 + q) (qu (g * 16 + q) + w)) gc dg dp dv dd ds dc td ho ak se pr)) (va_runV (As := [.int (nI g), .int (nI q), .int (nI w)]) (rest := [.int (nI 0), .ref ob]) ⟨hx, hb, hml, hown, hts⟩ (kX0_addPart l D h ad cI cZ ex pa di qu gc dg dp dv dd ds dc td ho ak se pr _ g q w hg he hq he2 hlt hw1 hw2 hqu hsm) (cwV 3 hts gL_addPart_X0_addPart rfl rfl rfl (by decide +kernel) ⟨Nat.le_of_ble_eq_true rfl, Nat.le_of_ble_eq_true rfl⟩) ⟨wP_blind, va_recv hKh (va_Pl hP) (ci := 0) (q0 := 0) rfl rfl, wP_pre (va_Pl hP) hKh (va_Dl hD)⟩ rfl rfl hl.1 rfl (lv_room (Nat.le_of_ble_eq_true rfl)) dL_addPart_7 ⟨Nat.zero_le _, Nat.zero_le _⟩) hP hD hS hA rfl (fun H locs hP hD hS => ?_)
  refine lv_i2l (v := lN (qu (g * 16 + q) + w)) hx hb dL_addPart_10 (nI_l hret) ?_
  refine q_ost hx hb hK hP hD hS 14 2 rfl rfl dL_addPart_11 (fun H locs hP hD hS => ?_)
  have hP : va_P D vwCl ((hW h ad cI cZ ex pa di (va_up qu (g * 16 + q) (qu (g * 16 + q) + w)) gc dg dp dv dd ds dc td ho ak se pr) ++ [(ob, .inl (cJ, 1, .inr (.inl (vp_updL f 0 (lN (qu (g * 16 + q) + w))))))]) H := hP
  refine lv_goto (tgt := 27) hx hb dL_addPart_12 (by decide) ?_
  refine lv_iconst (v := nI 0) hx hb dL_addPart_27 (by decide) ?_
  exact q_wretI hx hb hr hlocks hAe hP hS rfl dL_addPart_28

set_option maxHeartbeats 4000000 in
set_option maxRecDepth 100000 in
theorem kL_addPartXI (l : Launch) (D : va_G) (h : Nat) (ad : Nat → Nat) (cI cZ : ClassId) (ex : Nat → Bool) (pa : Nat → Option Nat) (di : Nat → Nat) (qu : Nat → Nat) (gc : Nat) (dg : Nat → Nat) (dp : Nat → Nat) (dv : Nat → Option Nat) (dd : Nat → Nat) (ds : Nat → Nat) (dc : Nat) (td : Nat) (ho : Nat → Option Nat) (ak : Nat → Bool) (se : Nat → Option Nat) (pr : Nat → Option Nat) (hlf : l.stackTraces = false) (ob : Nat) (g q w : Int32) (hg : gBad ex g ∨ ∃ j, j < 16 ∧ g = nI j ∧ ex j = true ∧ gBad ex q) : Met l yL_addPart wsL_addPart ({ frames := 8, cells := 1, slots := 6, locals := 128 } : Room) (tN D (hW h ad cI cZ ex pa di qu gc dg dp dv dd ds dc td ho ak se pr) (hT cI cZ) [.ref h, .int g, .int q, .int w, .ref ob]) (eQ 1) 1 6 nF := by
  refine mt_ofWH (cc := cL_addPart) (maxL := 6) (ret := (some .int)) (by decide) rfl ?_
  intro p e s m args below meth c s₁ B hml htab hv
  obtain ⟨rfl, hP, hK, hE, hN⟩ := hv
  have hx := B.exec
  have hb := B.bytes
  have hr := B.returns
  have hts := atoms_spec (ws := wsL_addPart) B.pre
  have hown : s.vm.findClass RL = some m.cls := findClass_of_methodNamed B.named
  have hlocks := B.notSynchronized
  have hl := lv_entry ([.ref h, .int g, .int q, .int w, .ref ob]) (n := 6) (Nat.le_of_ble_eq_true rfl)
  rw [lg_entry_eq]
  generalize (lg_sl ([.ref h, .int g, .int q, .int w, .ref ob]) ++ List.replicate (6 - (lg_sl ([.ref h, .int g, .int q, .int w, .ref ob])).length) Slot.unset).toArray = ls at hl ⊢
  have hl : lv_has ls 6 [(0, .ref h), (1, .int g), (2, .int q), (3, .int w), (4, .ref ob)] := hl
  refine lv_aload hx hb dL_addPart_0 (lv_at hl 4 rfl) ?_
  refine lv_iconst (v := nI 0) hx hb dL_addPart_2 (by decide) ?_
  refine lv_aload_n hx hb dL_addPart_3 rfl (lv_at hl 0 rfl) ?_
  refine lv_iload_n hx hb dL_addPart_4 rfl (lv_at hl 1 rfl) ?_
  refine lv_iload_n hx hb dL_addPart_5 rfl (lv_at hl 2 rfl) ?_
  refine lv_iload_n hx hb dL_addPart_6 rfl (lv_at hl 3 rfl) ?_
  refine q_catch (vx_runV (As := [.int g, .int q, .int w]) (rest := [.int (nI 0), .ref ob]) ⟨hx, hb, hml, hown, hts⟩ (kX0_addPartXI l D h ad cI cZ ex pa di qu gc dg dp dv dd ds dc td ho ak se pr hlf g q w hg) (cwV 3 hts gL_addPart_X0_addPart rfl rfl rfl (by decide +kernel) ⟨Nat.le_of_ble_eq_true rfl, Nat.le_of_ble_eq_true rfl⟩) ⟨tP_blind, va_recv hK hP (ci := 0) (q0 := 0) rfl rfl, tP_pre hP hK hE⟩ rfl rfl hl.1 rfl (lv_room (Nat.le_of_ble_eq_true rfl)) dL_addPart_7 ⟨Nat.le_of_ble_eq_true rfl, Nat.le_of_ble_eq_true rfl⟩) (fun H ce q9 h1 h2 h3 h4 h5 => ?_)
  obtain ⟨t0, ht0, htab⟩ := tab_c htab
  refine vx_catch (own := RL) (name := "java/lang/IndexOutOfBoundsException") (E := "java/lang/IndexOutOfBoundsException") hown [] ⟨0, 12, 15, 13⟩ t0 ht0 (fun z hz => by cases hz) (by decide) (by decide) (hts (.classLink RL 13 "java/lang/IndexOutOfBoundsException") (by decide +kernel)) (va_Nw.use rfl (hE.2.2.2.1 "java/lang/IndexOutOfBoundsException" (by decide))) h3 h4 h5 ?_
  refine lv_astore (lv' := [(5, .ref q9), (0, .ref h), (1, .int g), (2, .int q), (3, .int w), (4, .ref ob)]) hx hb dL_addPart_15 hl (by decide) rfl (fun ls hl => ?_)
  refine lv_iconst (v := nI 1) hx hb dL_addPart_17 (by decide) ?_
  exact q_eret hx hb hr hlocks h1 h2 dL_addPart_18

set_option maxHeartbeats 4000000 in
set_option maxRecDepth 100000 in
theorem kL_addPartXA (l : Launch) (D : va_G) (h : Nat) (ad : Nat → Nat) (cI cZ : ClassId) (ex : Nat → Bool) (pa : Nat → Option Nat) (di : Nat → Nat) (qu : Nat → Nat) (gc : Nat) (dg : Nat → Nat) (dp : Nat → Nat) (dv : Nat → Option Nat) (dd : Nat → Nat) (ds : Nat → Nat) (dc : Nat) (td : Nat) (ho : Nat → Option Nat) (ak : Nat → Bool) (se : Nat → Option Nat) (pr : Nat → Option Nat) (hlf : l.stackTraces = false) (ob : Nat) (g q : Nat) (w : Int32) (hg : g < 16) (he : ex g = true) (hq : q < 16) (he2 : ex q = true) (hbad : g ≤ q ∨ w < nI 1 ∨ nI 20 < w) : Met l yL_addPart wsL_addPart ({ frames := 7, cells := 1, slots := 6, locals := 107 } : Room) (tN D (hW h ad cI cZ ex pa di qu gc dg dp dv dd ds dc td ho ak se pr) (hT cI cZ) [.ref h, .int (nI g), .int (nI q), .int w, .ref ob]) (eQ 2) 1 6 nF := by
  refine mt_ofWH (cc := cL_addPart) (maxL := 6) (ret := (some .int)) (by decide) rfl ?_
  intro p e s m args below meth c s₁ B hml htab hv
  obtain ⟨rfl, hP, hK, hE, hN⟩ := hv
  have hx := B.exec
  have hb := B.bytes
  have hr := B.returns
  have hts := atoms_spec (ws := wsL_addPart) B.pre
  have hown : s.vm.findClass RL = some m.cls := findClass_of_methodNamed B.named
  have hlocks := B.notSynchronized
  have hl := lv_entry ([.ref h, .int (nI g), .int (nI q), .int w, .ref ob]) (n := 6) (Nat.le_of_ble_eq_true rfl)
  rw [lg_entry_eq]
  generalize (lg_sl ([.ref h, .int (nI g), .int (nI q), .int w, .ref ob]) ++ List.replicate (6 - (lg_sl ([.ref h, .int (nI g), .int (nI q), .int w, .ref ob])).length) Slot.unset).toArray = ls at hl ⊢
  have hl : lv_has ls 6 [(0, .ref h), (1, .int (nI g)), (2, .int (nI q)), (3, .int w), (4, .ref ob)] := hl
  refine lv_aload hx hb dL_addPart_0 (lv_at hl 4 rfl) ?_
  refine lv_iconst (v := nI 0) hx hb dL_addPart_2 (by decide) ?_
  refine lv_aload_n hx hb dL_addPart_3 rfl (lv_at hl 0 rfl) ?_
  refine lv_iload_n hx hb dL_addPart_4 rfl (lv_at hl 1 rfl) ?_
  refine lv_iload_n hx hb dL_addPart_5 rfl (lv_at hl 2 rfl) ?_
  refine lv_iload_n hx hb dL_addPart_6 rfl (lv_at hl 3 rfl) ?_
  refine q_catch (vx_runV (As := [.int (nI g), .int (nI q), .int w]) (rest := [.int (nI 0), .ref ob]) ⟨hx, hb, hml, hown, hts⟩ (kX0_addPartXA l D h ad cI cZ ex pa di qu gc dg dp dv dd ds dc td ho ak se pr hlf g q w hg he hq he2 hbad) (cwV 3 hts gL_addPart_X0_addPart rfl rfl rfl (by decide +kernel) ⟨Nat.le_of_ble_eq_true rfl, Nat.le_of_ble_eq_true rfl⟩) ⟨tP_blind, va_recv hK hP (ci := 0) (q0 := 0) rfl rfl, tP_pre hP hK hE⟩ rfl rfl hl.1 rfl (lv_room (Nat.le_of_ble_eq_true rfl)) dL_addPart_7 ⟨Nat.le_of_ble_eq_true rfl, Nat.le_of_ble_eq_true rfl⟩) (fun H ce q9 h1 h2 h3 h4 h5 => ?_)
  obtain ⟨t0, ht0, htab⟩ := tab_c htab
  obtain ⟨t1, ht1, htab⟩ := tab_c htab
  refine vx_catch (own := RL) (name := "java/lang/IllegalArgumentException") (E := "java/lang/IllegalArgumentException") hown [⟨0, 12, 15, 13⟩] ⟨0, 12, 19, 29⟩ t1 (ht0.trans (congrArg (List.cons ⟨0, 12, 15, 13⟩) ht1)) (fun z hz => by
    simp only [List.mem_cons, List.not_mem_nil, or_false] at hz
    subst hz
    exact Or.inr ⟨by decide, "java/lang/IndexOutOfBoundsException", hts (.classLink RL 13 "java/lang/IndexOutOfBoundsException") (by decide +kernel), hN.2.1⟩) (by decide) (by decide) (hts (.classLink RL 29 "java/lang/IllegalArgumentException") (by decide +kernel)) (va_Nw.use rfl (hE.2.2.2.1 "java/lang/IllegalArgumentException" (by decide))) h3 h4 h5 ?_
  refine lv_astore (lv' := [(5, .ref q9), (0, .ref h), (1, .int (nI g)), (2, .int (nI q)), (3, .int w), (4, .ref ob)]) hx hb dL_addPart_19 hl (by decide) rfl (fun ls hl => ?_)
  refine lv_iconst (v := nI 2) hx hb dL_addPart_21 (by decide) ?_
  exact q_eret hx hb hr hlocks h1 h2 dL_addPart_22

set_option maxHeartbeats 4000000 in
set_option maxRecDepth 100000 in
theorem kL_addPartXS (l : Launch) (D : va_G) (h : Nat) (ad : Nat → Nat) (cI cZ : ClassId) (ex : Nat → Bool) (pa : Nat → Option Nat) (di : Nat → Nat) (qu : Nat → Nat) (gc : Nat) (dg : Nat → Nat) (dp : Nat → Nat) (dv : Nat → Option Nat) (dd : Nat → Nat) (ds : Nat → Nat) (dc : Nat) (td : Nat) (ho : Nat → Option Nat) (ak : Nat → Bool) (se : Nat → Option Nat) (pr : Nat → Option Nat) (hlf : l.stackTraces = false) (ob : Nat) (g q w : Nat) (hg : g < 16) (he : ex g = true) (hq : q < 16) (he2 : ex q = true) (hlt : q < g) (hw1 : 1 ≤ w) (hw2 : w ≤ 20) (hqu : ∀ k, k < 256 → qu k ≤ 20) (hsm : 20 < qu (g * 16 + q) + w) : Met l yL_addPart wsL_addPart ({ frames := 7, cells := 1, slots := 6, locals := 107 } : Room) (tN D (hW h ad cI cZ ex pa di qu gc dg dp dv dd ds dc td ho ak se pr) (hT cI cZ) [.ref h, .int (nI g), .int (nI q), .int (nI w), .ref ob]) (eQ 3) 1 6 nF := by
  refine mt_ofWH (cc := cL_addPart) (maxL := 6) (ret := (some .int)) (by decide) rfl ?_
  intro p e s m args below meth c s₁ B hml htab hv
  obtain ⟨rfl, hP, hK, hE, hN⟩ := hv
  have hx := B.exec
  have hb := B.bytes
  have hr := B.returns
  have hts := atoms_spec (ws := wsL_addPart) B.pre
  have hown : s.vm.findClass RL = some m.cls := findClass_of_methodNamed B.named
  have hlocks := B.notSynchronized
  have hl := lv_entry ([.ref h, .int (nI g), .int (nI q), .int (nI w), .ref ob]) (n := 6) (Nat.le_of_ble_eq_true rfl)
  rw [lg_entry_eq]
  generalize (lg_sl ([.ref h, .int (nI g), .int (nI q), .int (nI w), .ref ob]) ++ List.replicate (6 - (lg_sl ([.ref h, .int (nI g), .int (nI q), .int (nI w), .ref ob])).length) Slot.unset).toArray = ls at hl ⊢
  have hl : lv_has ls 6 [(0, .ref h), (1, .int (nI g)), (2, .int (nI q)), (3, .int (nI w)), (4, .ref ob)] := hl
  refine lv_aload hx hb dL_addPart_0 (lv_at hl 4 rfl) ?_
  refine lv_iconst (v := nI 0) hx hb dL_addPart_2 (by decide) ?_
  refine lv_aload_n hx hb dL_addPart_3 rfl (lv_at hl 0 rfl) ?_
  refine lv_iload_n hx hb dL_addPart_4 rfl (lv_at hl 1 rfl) ?_
  refine lv_iload_n hx hb dL_addPart_5 rfl (lv_at hl 2 rfl) ?_
  refine lv_iload_n hx hb dL_addPart_6 rfl (lv_at hl 3 rfl) ?_
  refine q_catch (vx_runV (As := [.int (nI g), .int (nI q), .int (nI w)]) (rest := [.int (nI 0), .ref ob]) ⟨hx, hb, hml, hown, hts⟩ (kX0_addPartXS l D h ad cI cZ ex pa di qu gc dg dp dv dd ds dc td ho ak se pr hlf g q w hg he hq he2 hlt hw1 hw2 hqu hsm) (cwV 3 hts gL_addPart_X0_addPart rfl rfl rfl (by decide +kernel) ⟨Nat.le_of_ble_eq_true rfl, Nat.le_of_ble_eq_true rfl⟩) ⟨tP_blind, va_recv hK hP (ci := 0) (q0 := 0) rfl rfl, tP_pre hP hK hE⟩ rfl rfl hl.1 rfl (lv_room (Nat.le_of_ble_eq_true rfl)) dL_addPart_7 ⟨Nat.le_of_ble_eq_true rfl, Nat.le_of_ble_eq_true rfl⟩) (fun H ce q9 h1 h2 h3 h4 h5 => ?_)
  obtain ⟨t0, ht0, htab⟩ := tab_c htab
  obtain ⟨t1, ht1, htab⟩ := tab_c htab
  obtain ⟨t2, ht2, htab⟩ := tab_c htab
  refine vx_catch (own := RL) (name := "java/lang/IllegalStateException") (E := "java/lang/IllegalStateException") hown [⟨0, 12, 15, 13⟩, ⟨0, 12, 19, 29⟩] ⟨0, 12, 23, 15⟩ t2 ((ht0.trans (congrArg (List.cons ⟨0, 12, 15, 13⟩) ht1)).trans (congrArg (fun z => ⟨0, 12, 15, 13⟩ :: ⟨0, 12, 19, 29⟩ :: z) ht2)) (fun z hz => by
    simp only [List.mem_cons, List.not_mem_nil, or_false] at hz
    rcases hz with rfl | rfl
    · exact Or.inr ⟨by decide, "java/lang/IndexOutOfBoundsException", hts (.classLink RL 13 "java/lang/IndexOutOfBoundsException") (by decide +kernel), hN.1⟩
    · exact Or.inr ⟨by decide, "java/lang/IllegalArgumentException", hts (.classLink RL 29 "java/lang/IllegalArgumentException") (by decide +kernel), hN.2.2⟩) (by decide) (by decide) (hts (.classLink RL 15 "java/lang/IllegalStateException") (by decide +kernel)) (va_Nw.use rfl (hE.2.2.2.1 "java/lang/IllegalStateException" (by decide))) h3 h4 h5 ?_
  refine lv_astore (lv' := [(5, .ref q9), (0, .ref h), (1, .int (nI g)), (2, .int (nI q)), (3, .int (nI w)), (4, .ref ob)]) hx hb dL_addPart_23 hl (by decide) rfl (fun ls hl => ?_)
  refine lv_iconst (v := nI 3) hx hb dL_addPart_25 (by decide) ?_
  exact q_eret hx hb hr hlocks h1 h2 dL_addPart_26

set_option maxHeartbeats 4000000 in
set_option maxRecDepth 100000 in
theorem kL_setDiscount (l : Launch) (D : va_G) (h : Nat) (ad : Nat → Nat) (cI cZ : ClassId) (ex : Nat → Bool) (pa : Nat → Option Nat) (di : Nat → Nat) (qu : Nat → Nat) (gc : Nat) (dg : Nat → Nat) (dp : Nat → Nat) (dv : Nat → Option Nat) (dd : Nat → Nat) (ds : Nat → Nat) (dc : Nat) (td : Nat) (ho : Nat → Option Nat) (ak : Nat → Bool) (se : Nat → Option Nat) (pr : Nat → Option Nat) (cJ : ClassId) (ob : Nat) (f : Nat → Int64) (sz : Nat) (g w : Nat) (hg : g < 16) (he : ex g = true) (hw2 : w ≤ 100) (hret : di g < 2147483648) : Met l yL_setDiscount wsL_setDiscount ({ frames := 3, cells := 0, slots := 0, locals := 65 } : Room) (wP D ((hW h ad cI cZ ex pa di qu gc dg dp dv dd ds dc td ho ak se pr) ++ [(ob, .inl (cJ, 1, .inr (.inl f)))]) (mT cI cJ cZ) [.ref h, .int (nI g), .int (nI w), .ref ob] sz) (wQ D ((hW h ad cI cZ ex pa di qu gc dg dp dv dd ds dc td ho ak se pr) ++ [(ob, .inl (cJ, 1, .inr (.inl f)))]) ((hW h ad cI cZ ex pa (va_up di g w) qu gc dg dp dv dd ds dc td ho ak se pr) ++ [(ob, .inl (cJ, 1, .inr (.inl (vp_updL f 0 (lN (di g))))))]) (some (.int (nI 0)))) 0 0 (va_A ((hW h ad cI cZ ex pa di qu gc dg dp dv dd ds dc td ho ak se pr) ++ [(ob, .inl (cJ, 1, .inr (.inl f)))]) sz) := by
  refine mt_ofWH (cc := cL_setDiscount) (maxL := 5) (ret := (some .int)) (by decide) rfl ?_
  intro p e s m args below meth c s₁ B hml htab hv
  obtain ⟨rfl, hsz, hP, hK, hD0⟩ := hv
  have hx := B.exec
  have hb := B.bytes
  have hr := B.returns
  have hts := atoms_spec (ws := wsL_setDiscount) B.pre
  have hown : s.vm.findClass RL = some m.cls := findClass_of_methodNamed B.named
  have hlocks := B.notSynchronized
  subst hsz
  have hD := hD0.self (sz := s.heap.size)
  generalize hAe : va_A ((hW h ad cI cZ ex pa di qu gc dg dp dv dd ds dc td ho ak se pr) ++ [(ob, .inl (cJ, 1, .inr (.inl f)))]) s.heap.size = A at hD ⊢
  have hA : ∀ q : Nat, s.heap.size ≤ q → A q := fun q h => by rw [← hAe]; exact Or.inr h
  have hS : va_S A s.heap s.heap [] := va_S.rf
  have hKh : va_K D vwCl (hT cI cZ) s := hK.sub [0, 1] rfl
  have hl := lv_entry ([.ref h, .int (nI g), .int (nI w), .ref ob]) (n := 5) (Nat.le_of_ble_eq_true rfl)
  rw [lg_entry_eq]
  generalize (lg_sl ([.ref h, .int (nI g), .int (nI w), .ref ob]) ++ List.replicate (5 - (lg_sl ([.ref h, .int (nI g), .int (nI w), .ref ob])).length) Slot.unset).toArray = ls at hl ⊢
  have hl : lv_has ls 5 [(0, .ref h), (1, .int (nI g)), (2, .int (nI w)), (3, .ref ob)] := hl
  refine lv_aload_n hx hb dL_setDiscount_0 rfl (lv_at hl 3 rfl) ?_
  refine lv_iconst (v := nI 0) hx hb dL_setDiscount_1 (by decide) ?_
  refine lv_aload_n hx hb dL_setDiscount_2 rfl (lv_at hl 0 rfl) ?_
  refine lv_iload_n hx hb dL_setDiscount_3 rfl (lv_at hl 1 rfl) ?_
  refine lv_iload_n hx hb dL_setDiscount_4 rfl (lv_at hl 2 rfl) ?_
  refine q_wcallFI (wb := [(ob, .inl (cJ, 1, .inr (.inl f)))]) (r := nI (di g)) (wa' := (hW h ad cI cZ ex pa (va_up di g w) qu gc dg dp dv dd ds dc td ho ak se pr)) (va_runV (As := [.int (nI g), .int (nI w)]) (rest := [.int (nI 0), .ref ob]) ⟨hx, hb, hml, hown, hts⟩ (kX0_setDiscount l D h ad cI cZ ex pa di qu gc dg dp dv dd ds dc td ho ak se pr _ g w hg he hw2) (cwV 2 hts gL_setDiscount_X0_setDiscount rfl rfl rfl (by decide +kernel) ⟨Nat.le_of_ble_eq_true rfl, Nat.le_of_ble_eq_true rfl⟩) ⟨wP_blind, va_recv hKh (va_Pl hP) (ci := 0) (q0 := 0) rfl rfl, wP_pre (va_Pl hP) hKh (va_Dl hD)⟩ rfl rfl hl.1 rfl (lv_room (Nat.le_of_ble_eq_true rfl)) dL_setDiscount_5 ⟨Nat.zero_le _, Nat.zero_le _⟩) hP hD hS hA rfl (fun H locs hP hD hS => ?_)
  refine lv_i2l (v := lN (di g)) hx hb dL_setDiscount_8 (nI_l hret) ?_
  refine q_ost hx hb hK hP hD hS 14 2 rfl rfl dL_setDiscount_9 (fun H locs hP hD hS => ?_)
  have hP : va_P D vwCl ((hW h ad cI cZ ex pa (va_up di g w) qu gc dg dp dv dd ds dc td ho ak se pr) ++ [(ob, .inl (cJ, 1, .inr (.inl (vp_updL f 0 (lN (di g))))))]) H := hP
  refine lv_goto (tgt := 21) hx hb dL_setDiscount_10 (by decide) ?_
  refine lv_iconst (v := nI 0) hx hb dL_setDiscount_21 (by decide) ?_
  exact q_wretI hx hb hr hlocks hAe hP hS rfl dL_setDiscount_22

set_option maxHeartbeats 4000000 in
set_option maxRecDepth 100000 in
theorem kL_setDiscountXI (l : Launch) (D : va_G) (h : Nat) (ad : Nat → Nat) (cI cZ : ClassId) (ex : Nat → Bool) (pa : Nat → Option Nat) (di : Nat → Nat) (qu : Nat → Nat) (gc : Nat) (dg : Nat → Nat) (dp : Nat → Nat) (dv : Nat → Option Nat) (dd : Nat → Nat) (ds : Nat → Nat) (dc : Nat) (td : Nat) (ho : Nat → Option Nat) (ak : Nat → Bool) (se : Nat → Option Nat) (pr : Nat → Option Nat) (hlf : l.stackTraces = false) (ob : Nat) (g w : Int32) (hg : gBad ex g) : Met l yL_setDiscount wsL_setDiscount ({ frames := 8, cells := 1, slots := 6, locals := 126 } : Room) (tN D (hW h ad cI cZ ex pa di qu gc dg dp dv dd ds dc td ho ak se pr) (hT cI cZ) [.ref h, .int g, .int w, .ref ob]) (eQ 1) 1 6 nF := by
  refine mt_ofWH (cc := cL_setDiscount) (maxL := 5) (ret := (some .int)) (by decide) rfl ?_
  intro p e s m args below meth c s₁ B hml htab hv
  obtain ⟨rfl, hP, hK, hE, hN⟩ := hv
  have hx := B.exec
  have hb := B.bytes
  have hr := B.returns
  have hts := atoms_spec (ws := wsL_setDiscount) B.pre
  have hown : s.vm.findClass RL = some m.cls := findClass_of_methodNamed B.named
  have hlocks := B.notSynchronized
  have hl := lv_entry ([.ref h, .int g, .int w, .ref ob]) (n := 5) (Nat.le_of_ble_eq_true rfl)
  rw [lg_entry_eq]
  generalize (lg_sl ([.ref h, .int g, .int w, .ref ob]) ++ List.replicate (5 - (lg_sl ([.ref h, .int g, .int w, .ref ob])).length) Slot.unset).toArray = ls at hl ⊢
  have hl : lv_has ls 5 [(0, .ref h), (1, .int g), (2, .int w), (3, .ref ob)] := hl
  refine lv_aload_n hx hb dL_setDiscount_0 rfl (lv_at hl 3 rfl) ?_
  refine lv_iconst (v := nI 0) hx hb dL_setDiscount_1 (by decide) ?_
  refine lv_aload_n hx hb dL_setDiscount_2 rfl (lv_at hl 0 rfl) ?_
  refine lv_iload_n hx hb dL_setDiscount_3 rfl (lv_at hl 1 rfl) ?_
  refine lv_iload_n hx hb dL_setDiscount_4 rfl (lv_at hl 2 rfl) ?_
  refine q_catch (vx_runV (As := [.int g, .int w]) (rest := [.int (nI 0), .ref ob]) ⟨hx, hb, hml, hown, hts⟩ (kX0_setDiscountXI l D h ad cI cZ ex pa di qu gc dg dp dv dd ds dc td ho ak se pr hlf g w hg) (cwV 2 hts gL_setDiscount_X0_setDiscount rfl rfl rfl (by decide +kernel) ⟨Nat.le_of_ble_eq_true rfl, Nat.le_of_ble_eq_true rfl⟩) ⟨tP_blind, va_recv hK hP (ci := 0) (q0 := 0) rfl rfl, tP_pre hP hK hE⟩ rfl rfl hl.1 rfl (lv_room (Nat.le_of_ble_eq_true rfl)) dL_setDiscount_5 ⟨Nat.le_of_ble_eq_true rfl, Nat.le_of_ble_eq_true rfl⟩) (fun H ce q9 h1 h2 h3 h4 h5 => ?_)
  obtain ⟨t0, ht0, htab⟩ := tab_c htab
  refine vx_catch (own := RL) (name := "java/lang/IndexOutOfBoundsException") (E := "java/lang/IndexOutOfBoundsException") hown [] ⟨0, 10, 13, 13⟩ t0 ht0 (fun z hz => by cases hz) (by decide) (by decide) (hts (.classLink RL 13 "java/lang/IndexOutOfBoundsException") (by decide +kernel)) (va_Nw.use rfl (hE.2.2.2.1 "java/lang/IndexOutOfBoundsException" (by decide))) h3 h4 h5 ?_
  refine lv_astore (lv' := [(4, .ref q9), (0, .ref h), (1, .int g), (2, .int w), (3, .ref ob)]) hx hb dL_setDiscount_13 hl (by decide) rfl (fun ls hl => ?_)
  refine lv_iconst (v := nI 1) hx hb dL_setDiscount_15 (by decide) ?_
  exact q_eret hx hb hr hlocks h1 h2 dL_setDiscount_16

set_option maxHeartbeats 4000000 in
set_option maxRecDepth 100000 in
theorem kL_setDiscountXA (l : Launch) (D : va_G) (h : Nat) (ad : Nat → Nat) (cI cZ : ClassId) (ex : Nat → Bool) (pa : Nat → Option Nat) (di : Nat → Nat) (qu : Nat → Nat) (gc : Nat) (dg : Nat → Nat) (dp : Nat → Nat) (dv : Nat → Option Nat) (dd : Nat → Nat) (ds : Nat → Nat) (dc : Nat) (td : Nat) (ho : Nat → Option Nat) (ak : Nat → Bool) (se : Nat → Option Nat) (pr : Nat → Option Nat) (hlf : l.stackTraces = false) (ob : Nat) (g : Nat) (w : Int32) (hg : g < 16) (he : ex g = true) (hw : w < 0 ∨ nI 100 < w) : Met l yL_setDiscount wsL_setDiscount ({ frames := 7, cells := 1, slots := 6, locals := 105 } : Room) (tN D (hW h ad cI cZ ex pa di qu gc dg dp dv dd ds dc td ho ak se pr) (hT cI cZ) [.ref h, .int (nI g), .int w, .ref ob]) (eQ 2) 1 6 nF := by
  refine mt_ofWH (cc := cL_setDiscount) (maxL := 5) (ret := (some .int)) (by decide) rfl ?_
  intro p e s m args below meth c s₁ B hml htab hv
  obtain ⟨rfl, hP, hK, hE, hN⟩ := hv
  have hx := B.exec
  have hb := B.bytes
  have hr := B.returns
  have hts := atoms_spec (ws := wsL_setDiscount) B.pre
  have hown : s.vm.findClass RL = some m.cls := findClass_of_methodNamed B.named
  have hlocks := B.notSynchronized
  have hl := lv_entry ([.ref h, .int (nI g), .int w, .ref ob]) (n := 5) (Nat.le_of_ble_eq_true rfl)
  rw [lg_entry_eq]
  generalize (lg_sl ([.ref h, .int (nI g), .int w, .ref ob]) ++ List.replicate (5 - (lg_sl ([.ref h, .int (nI g), .int w, .ref ob])).length) Slot.unset).toArray = ls at hl ⊢
  have hl : lv_has ls 5 [(0, .ref h), (1, .int (nI g)), (2, .int w), (3, .ref ob)] := hl
  refine lv_aload_n hx hb dL_setDiscount_0 rfl (lv_at hl 3 rfl) ?_
  refine lv_iconst (v := nI 0) hx hb dL_setDiscount_1 (by decide) ?_
  refine lv_aload_n hx hb dL_setDiscount_2 rfl (lv_at hl 0 rfl) ?_
  refine lv_iload_n hx hb dL_setDiscount_3 rfl (lv_at hl 1 rfl) ?_
  refine lv_iload_n hx hb dL_setDiscount_4 rfl (lv_at hl 2 rfl) ?_
  refine q_catch (vx_runV (As := [.int (nI g), .int w]) (rest := [.int (nI 0), .ref ob]) ⟨hx, hb, hml, hown, hts⟩ (kX0_setDiscountXA l D h ad cI cZ ex pa di qu gc dg dp dv dd ds dc td ho ak se pr hlf g w hg he hw) (cwV 2 hts gL_setDiscount_X0_setDiscount rfl rfl rfl (by decide +kernel) ⟨Nat.le_of_ble_eq_true rfl, Nat.le_of_ble_eq_true rfl⟩) ⟨tP_blind, va_recv hK hP (ci := 0) (q0 := 0) rfl rfl, tP_pre hP hK hE⟩ rfl rfl hl.1 rfl (lv_room (Nat.le_of_ble_eq_true rfl)) dL_setDiscount_5 ⟨Nat.le_of_ble_eq_true rfl, Nat.le_of_ble_eq_true rfl⟩) (fun H ce q9 h1 h2 h3 h4 h5 => ?_)
  obtain ⟨t0, ht0, htab⟩ := tab_c htab
  obtain ⟨t1, ht1, htab⟩ := tab_c htab
  refine vx_catch (own := RL) (name := "java/lang/IllegalArgumentException") (E := "java/lang/IllegalArgumentException") hown [⟨0, 10, 13, 13⟩] ⟨0, 10, 17, 29⟩ t1 (ht0.trans (congrArg (List.cons ⟨0, 10, 13, 13⟩) ht1)) (fun z hz => by
    simp only [List.mem_cons, List.not_mem_nil, or_false] at hz
    subst hz
    exact Or.inr ⟨by decide, "java/lang/IndexOutOfBoundsException", hts (.classLink RL 13 "java/lang/IndexOutOfBoundsException") (by decide +kernel), hN.2.1⟩) (by decide) (by decide) (hts (.classLink RL 29 "java/lang/IllegalArgumentException") (by decide +kernel)) (va_Nw.use rfl (hE.2.2.2.1 "java/lang/IllegalArgumentException" (by decide))) h3 h4 h5 ?_
  refine lv_astore (lv' := [(4, .ref q9), (0, .ref h), (1, .int (nI g)), (2, .int w), (3, .ref ob)]) hx hb dL_setDiscount_17 hl (by decide) rfl (fun ls hl => ?_)
  refine lv_iconst (v := nI 2) hx hb dL_setDiscount_19 (by decide) ?_
  exact q_eret hx hb hr hlocks h1 h2 dL_setDiscount_20

set_option maxHeartbeats 4000000 in
set_option maxRecDepth 100000 in
theorem kL_draft (l : Launch) (D : va_G) (h : Nat) (ad : Nat → Nat) (cI cZ : ClassId) (ex : Nat → Bool) (pa : Nat → Option Nat) (di : Nat → Nat) (qu : Nat → Nat) (gc : Nat) (dg : Nat → Nat) (dp : Nat → Nat) (dv : Nat → Option Nat) (dd : Nat → Nat) (ds : Nat → Nat) (dc : Nat) (td : Nat) (ho : Nat → Option Nat) (ak : Nat → Bool) (se : Nat → Option Nat) (pr : Nat → Option Nat) (cJ : ClassId) (ob : Nat) (f : Nat → Int64) (sz : Nat) (g a : Nat) (x y v : Option Nat) (w : Nat) (hg : g < 16) (he : ex g = true) (ha : a < 6) (hxr : ∀ k, x = some k → k < 3) (hyr : ∀ k, y = some k → k < 3) (hvr : ∀ k, v = some k → k ≤ 100000) (hw2 : w ≤ 1000) (hdc : dc < 200) (hret : dc < 2147483648) : Met l yL_draft wsL_draft ({ frames := 3, cells := 0, slots := 0, locals := 69 } : Room) (wP D ((hW h ad cI cZ ex pa di qu gc dg dp dv dd ds dc td ho ak se pr) ++ [(ob, .inl (cJ, 1, .inr (.inl f)))]) (mT cI cJ cZ) [.ref h, .int (nI g), .int (nI a), .int (oI x), .int (oI y), .int (oI v), .int (nI w), .ref ob] sz) (wQ D ((hW h ad cI cZ ex pa di qu gc dg dp dv dd ds dc td ho ak se pr) ++ [(ob, .inl (cJ, 1, .inr (.inl f)))]) ((hW h ad cI cZ ex pa di qu gc (va_up dg dc g) (va_up dp dc (plc g a (sx x) (sx y))) (va_up dv dc v) (va_up dd dc w) (va_up ds dc 1) (dc + 1) td ho ak se pr) ++ [(ob, .inl (cJ, 1, .inr (.inl (vp_updL f 0 (lN dc)))))]) (some (.int (nI 0)))) 0 0 (va_A ((hW h ad cI cZ ex pa di qu gc dg dp dv dd ds dc td ho ak se pr) ++ [(ob, .inl (cJ, 1, .inr (.inl f)))]) sz) := by
  refine mt_ofWH (cc := cL_draft) (maxL := 9) (ret := (some .int)) (by decide) rfl ?_
  intro p e s m args below meth c s₁ B hml htab hv
  obtain ⟨rfl, hsz, hP, hK, hD0⟩ := hv
  have hx := B.exec
  have hb := B.bytes
  have hr := B.returns
  have hts := atoms_spec (ws := wsL_draft) B.pre
  have hown : s.vm.findClass RL = some m.cls := findClass_of_methodNamed B.named
  have hlocks := B.notSynchronized
  subst hsz
  have hD := hD0.self (sz := s.heap.size)
  generalize hAe : va_A ((hW h ad cI cZ ex pa di qu gc dg dp dv dd ds dc td ho ak se pr) ++ [(ob, .inl (cJ, 1, .inr (.inl f)))]) s.heap.size = A at hD ⊢
  have hA : ∀ q : Nat, s.heap.size ≤ q → A q := fun q h => by rw [← hAe]; exact Or.inr h
  have hS : va_S A s.heap s.heap [] := va_S.rf
  have hKh : va_K D vwCl (hT cI cZ) s := hK.sub [0, 1] rfl
  have hl := lv_entry ([.ref h, .int (nI g), .int (nI a), .int (oI x), .int (oI y), .int (oI v), .int (nI w), .ref ob]) (n := 9) (Nat.le_of_ble_eq_true rfl)
  rw [lg_entry_eq]
  generalize (lg_sl ([.ref h, .int (nI g), .int (nI a), .int (oI x), .int (oI y), .int (oI v), .int (nI w), .ref ob]) ++ List.replicate (9 - (lg_sl ([.ref h, .int (nI g), .int (nI a), .int (oI x), .int (oI y), .int (oI v), .int (nI w), .ref ob])).length) Slot.unset).toArray = ls at hl ⊢
  have hl : lv_has ls 9 [(0, .ref h), (1, .int (nI g)), (2, .int (nI a)), (3, .int (oI x)), (4, .int (oI y)), (5, .int (oI v)), (6, .int (nI w)), (7, .ref ob)] := hl
  refine lv_aload hx hb dL_draft_0 (lv_at hl 7 rfl) ?_
  refine lv_iconst (v := nI 0) hx hb dL_draft_2 (by decide) ?_
  refine lv_aload_n hx hb dL_draft_3 rfl (lv_at hl 0 rfl) ?_
  refine lv_iload_n hx hb dL_draft_4 rfl (lv_at hl 1 rfl) ?_
  refine lv_iload_n hx hb dL_draft_5 rfl (lv_at hl 2 rfl) ?_
  refine lv_iload_n hx hb dL_draft_6 rfl (lv_at hl 3 rfl) ?_
  refine lv_iload hx hb dL_draft_7 (lv_at hl 4 rfl) ?_
  refine lv_iload hx hb dL_draft_9 (lv_at hl 5 rfl) ?_
  refine lv_iload hx hb dL_draft_11 (lv_at hl 6 rfl) ?_
  refine q_wcallFI (wb := [(ob, .inl (cJ, 1, .inr (.inl f)))]) (r := nI dc) (wa' := (hW h ad cI cZ ex pa di qu gc (va_up dg dc g) (va_up dp dc (plc g a (sx x) (sx y))) (va_up dv dc v) (va_up dd dc w) (va_up ds dc 1) (dc + 1) td ho ak se pr)) (va_runV (As := [.int (nI g), .int (nI a), .int (oI x), .int (oI y), .int (oI v), .int (nI w)]) (rest := [.int (nI 0), .ref ob]) ⟨hx, hb, hml, hown, hts⟩ (kX0_draft l D h ad cI cZ ex pa di qu gc dg dp dv dd ds dc td ho ak se pr _ g a x y v w hg he ha hxr hyr hvr hw2 hdc) (cwV 6 hts gL_draft_X0_draft rfl rfl rfl (by decide +kernel) ⟨Nat.le_of_ble_eq_true rfl, Nat.le_of_ble_eq_true rfl⟩) ⟨wP_blind, va_recv hKh (va_Pl hP) (ci := 0) (q0 := 0) rfl rfl, wP_pre (va_Pl hP) hKh (va_Dl hD)⟩ rfl rfl hl.1 rfl (lv_room (Nat.le_of_ble_eq_true rfl)) dL_draft_13 ⟨Nat.zero_le _, Nat.zero_le _⟩) hP hD hS hA rfl (fun H locs hP hD hS => ?_)
  refine lv_i2l (v := lN dc) hx hb dL_draft_16 (nI_l hret) ?_
  refine q_ost hx hb hK hP hD hS 14 2 rfl rfl dL_draft_17 (fun H locs hP hD hS => ?_)
  have hP : va_P D vwCl ((hW h ad cI cZ ex pa di qu gc (va_up dg dc g) (va_up dp dc (plc g a (sx x) (sx y))) (va_up dv dc v) (va_up dd dc w) (va_up ds dc 1) (dc + 1) td ho ak se pr) ++ [(ob, .inl (cJ, 1, .inr (.inl (vp_updL f 0 (lN dc)))))]) H := hP
  refine lv_goto (tgt := 33) hx hb dL_draft_18 (by decide) ?_
  refine lv_iconst (v := nI 0) hx hb dL_draft_33 (by decide) ?_
  exact q_wretI hx hb hr hlocks hAe hP hS rfl dL_draft_34

set_option maxHeartbeats 4000000 in
set_option maxRecDepth 100000 in
theorem kL_draftXI (l : Launch) (D : va_G) (h : Nat) (ad : Nat → Nat) (cI cZ : ClassId) (ex : Nat → Bool) (pa : Nat → Option Nat) (di : Nat → Nat) (qu : Nat → Nat) (gc : Nat) (dg : Nat → Nat) (dp : Nat → Nat) (dv : Nat → Option Nat) (dd : Nat → Nat) (ds : Nat → Nat) (dc : Nat) (td : Nat) (ho : Nat → Option Nat) (ak : Nat → Bool) (se : Nat → Option Nat) (pr : Nat → Option Nat) (hlf : l.stackTraces = false) (ob : Nat) (g a x y v w : Int32) (hs : (gBad ex g ∨ ∃ j, j < 16 ∧ g = nI j ∧ ex j = true ∧ (aBad 6 a ∨ ∃ a2, a2 < 6 ∧ a = nI a2 ∧ ((aBad 3 x ∧ x ≠ -1) ∨ ((x = -1 ∨ ∃ x2, x2 < 3 ∧ x = nI x2) ∧ aBad 3 y ∧ y ≠ -1))))) : Met l yL_draft wsL_draft ({ frames := 8, cells := 1, slots := 6, locals := 130 } : Room) (tN D (hW h ad cI cZ ex pa di qu gc dg dp dv dd ds dc td ho ak se pr) (hT cI cZ) [.ref h, .int g, .int a, .int x, .int y, .int v, .int w, .ref ob]) (eQ 1) 1 6 nF := by
  refine mt_ofWH (cc := cL_draft) (maxL := 9) (ret := (some .int)) (by decide) rfl ?_
  intro p e s m args below meth c s₁ B hml htab hv
  obtain ⟨rfl, hP, hK, hE, hN⟩ := hv
  have hx := B.exec
  have hb := B.bytes
  have hr := B.returns
  have hts := atoms_spec (ws := wsL_draft) B.pre
  have hown : s.vm.findClass RL = some m.cls := findClass_of_methodNamed B.named
  have hlocks := B.notSynchronized
  have hl := lv_entry ([.ref h, .int g, .int a, .int x, .int y, .int v, .int w, .ref ob]) (n := 9) (Nat.le_of_ble_eq_true rfl)
  rw [lg_entry_eq]
  generalize (lg_sl ([.ref h, .int g, .int a, .int x, .int y, .int v, .int w, .ref ob]) ++ List.replicate (9 - (lg_sl ([.ref h, .int g, .int a, .int x, .int y, .int v, .int w, .ref ob])).length) Slot.unset).toArray = ls at hl ⊢
  have hl : lv_has ls 9 [(0, .ref h), (1, .int g), (2, .int a), (3, .int x), (4, .int y), (5, .int v), (6, .int w), (7, .ref ob)] := hl
  refine lv_aload hx hb dL_draft_0 (lv_at hl 7 rfl) ?_
  refine lv_iconst (v := nI 0) hx hb dL_draft_2 (by decide) ?_
  refine lv_aload_n hx hb dL_draft_3 rfl (lv_at hl 0 rfl) ?_
  refine lv_iload_n hx hb dL_draft_4 rfl (lv_at hl 1 rfl) ?_
  refine lv_iload_n hx hb dL_draft_5 rfl (lv_at hl 2 rfl) ?_
  refine lv_iload_n hx hb dL_draft_6 rfl (lv_at hl 3 rfl) ?_
  refine lv_iload hx hb dL_draft_7 (lv_at hl 4 rfl) ?_
  refine lv_iload hx hb dL_draft_9 (lv_at hl 5 rfl) ?_
  refine lv_iload hx hb dL_draft_11 (lv_at hl 6 rfl) ?_
  refine q_catch (vx_runV (As := [.int g, .int a, .int x, .int y, .int v, .int w]) (rest := [.int (nI 0), .ref ob]) ⟨hx, hb, hml, hown, hts⟩ (kX0_draftXI l D h ad cI cZ ex pa di qu gc dg dp dv dd ds dc td ho ak se pr hlf g a x y v w hs) (cwV 6 hts gL_draft_X0_draft rfl rfl rfl (by decide +kernel) ⟨Nat.le_of_ble_eq_true rfl, Nat.le_of_ble_eq_true rfl⟩) ⟨tP_blind, va_recv hK hP (ci := 0) (q0 := 0) rfl rfl, tP_pre hP hK hE⟩ rfl rfl hl.1 rfl (lv_room (Nat.le_of_ble_eq_true rfl)) dL_draft_13 ⟨Nat.le_of_ble_eq_true rfl, Nat.le_of_ble_eq_true rfl⟩) (fun H ce q9 h1 h2 h3 h4 h5 => ?_)
  obtain ⟨t0, ht0, htab⟩ := tab_c htab
  refine vx_catch (own := RL) (name := "java/lang/IndexOutOfBoundsException") (E := "java/lang/IndexOutOfBoundsException") hown [] ⟨0, 18, 21, 13⟩ t0 ht0 (fun z hz => by cases hz) (by decide) (by decide) (hts (.classLink RL 13 "java/lang/IndexOutOfBoundsException") (by decide +kernel)) (va_Nw.use rfl (hE.2.2.2.1 "java/lang/IndexOutOfBoundsException" (by decide))) h3 h4 h5 ?_
  refine lv_astore (lv' := [(8, .ref q9), (0, .ref h), (1, .int g), (2, .int a), (3, .int x), (4, .int y), (5, .int v), (6, .int w), (7, .ref ob)]) hx hb dL_draft_21 hl (by decide) rfl (fun ls hl => ?_)
  refine lv_iconst (v := nI 1) hx hb dL_draft_23 (by decide) ?_
  exact q_eret hx hb hr hlocks h1 h2 dL_draft_24

set_option maxHeartbeats 4000000 in
set_option maxRecDepth 100000 in
theorem kL_draftXA (l : Launch) (D : va_G) (h : Nat) (ad : Nat → Nat) (cI cZ : ClassId) (ex : Nat → Bool) (pa : Nat → Option Nat) (di : Nat → Nat) (qu : Nat → Nat) (gc : Nat) (dg : Nat → Nat) (dp : Nat → Nat) (dv : Nat → Option Nat) (dd : Nat → Nat) (ds : Nat → Nat) (dc : Nat) (td : Nat) (ho : Nat → Option Nat) (ak : Nat → Bool) (se : Nat → Option Nat) (pr : Nat → Option Nat) (hlf : l.stackTraces = false) (ob : Nat) (g a : Nat) (x y : Option Nat) (v w : Int32) (hg : g < 16) (he : ex g = true) (ha : a < 6) (hxr : ∀ k, x = some k → k < 3) (hyr : ∀ k, y = some k → k < 3) (hbad : (v ≠ -1 ∧ (v < 0 ∨ nI 100000 < v)) ∨ ((∃ o : Option Nat, v = oI o ∧ ∀ k, o = some k → k ≤ 100000) ∧ (w < 0 ∨ nI 1000 < w))) : Met l yL_draft wsL_draft ({ frames := 7, cells := 1, slots := 6, locals := 109 } : Room) (tN D (hW h ad cI cZ ex pa di qu gc dg dp dv dd ds dc td ho ak se pr) (hT cI cZ) [.ref h, .int (nI g), .int (nI a), .int (oI x), .int (oI y), .int v, .int w, .ref ob]) (eQ 2) 1 6 nF := by
  refine mt_ofWH (cc := cL_draft) (maxL := 9) (ret := (some .int)) (by decide) rfl ?_
  intro p e s m args below meth c s₁ B hml htab hv
  obtain ⟨rfl, hP, hK, hE, hN⟩ := hv
  have hx := B.exec
  have hb := B.bytes
  have hr := B.returns
  have hts := atoms_spec (ws := wsL_draft) B.pre
  have hown : s.vm.findClass RL = some m.cls := findClass_of_methodNamed B.named
  have hlocks := B.notSynchronized
  have hl := lv_entry ([.ref h, .int (nI g), .int (nI a), .int (oI x), .int (oI y), .int v, .int w, .ref ob]) (n := 9) (Nat.le_of_ble_eq_true rfl)
  rw [lg_entry_eq]
  generalize (lg_sl ([.ref h, .int (nI g), .int (nI a), .int (oI x), .int (oI y), .int v, .int w, .ref ob]) ++ List.replicate (9 - (lg_sl ([.ref h, .int (nI g), .int (nI a), .int (oI x), .int (oI y), .int v, .int w, .ref ob])).length) Slot.unset).toArray = ls at hl ⊢
  have hl : lv_has ls 9 [(0, .ref h), (1, .int (nI g)), (2, .int (nI a)), (3, .int (oI x)), (4, .int (oI y)), (5, .int v), (6, .int w), (7, .ref ob)] := hl
  refine lv_aload hx hb dL_draft_0 (lv_at hl 7 rfl) ?_
  refine lv_iconst (v := nI 0) hx hb dL_draft_2 (by decide) ?_
  refine lv_aload_n hx hb dL_draft_3 rfl (lv_at hl 0 rfl) ?_
  refine lv_iload_n hx hb dL_draft_4 rfl (lv_at hl 1 rfl) ?_
  refine lv_iload_n hx hb dL_draft_5 rfl (lv_at hl 2 rfl) ?_
  refine lv_iload_n hx hb dL_draft_6 rfl (lv_at hl 3 rfl) ?_
  refine lv_iload hx hb dL_draft_7 (lv_at hl 4 rfl) ?_
  refine lv_iload hx hb dL_draft_9 (lv_at hl 5 rfl) ?_
  refine lv_iload hx hb dL_draft_11 (lv_at hl 6 rfl) ?_
  refine q_catch (vx_runV (As := [.int (nI g), .int (nI a), .int (oI x), .int (oI y), .int v, .int w]) (rest := [.int (nI 0), .ref ob]) ⟨hx, hb, hml, hown, hts⟩ (kX0_draftXA l D h ad cI cZ ex pa di qu gc dg dp dv dd ds dc td ho ak se pr hlf g a x y v w hg he ha hxr hyr hbad) (cwV 6 hts gL_draft_X0_draft rfl rfl rfl (by decide +kernel) ⟨Nat.le_of_ble_eq_true rfl, Nat.le_of_ble_eq_true rfl⟩) ⟨tP_blind, va_recv hK hP (ci := 0) (q0 := 0) rfl rfl, tP_pre hP hK hE⟩ rfl rfl hl.1 rfl (lv_room (Nat.le_of_ble_eq_true rfl)) dL_draft_13 ⟨Nat.le_of_ble_eq_true rfl, Nat.le_of_ble_eq_true rfl⟩) (fun H ce q9 h1 h2 h3 h4 h5 => ?_)
  obtain ⟨t0, ht0, htab⟩ := tab_c htab
  obtain ⟨t1, ht1, htab⟩ := tab_c htab
  refine vx_catch (own := RL) (name := "java/lang/IllegalArgumentException") (E := "java/lang/IllegalArgumentException") hown [⟨0, 18, 21, 13⟩] ⟨0, 18, 25, 29⟩ t1 (ht0.trans (congrArg (List.cons ⟨0, 18, 21, 13⟩) ht1)) (fun z hz => by
    simp only [List.mem_cons, List.not_mem_nil, or_false] at hz
    subst hz
    exact Or.inr ⟨by decide, "java/lang/IndexOutOfBoundsException", hts (.classLink RL 13 "java/lang/IndexOutOfBoundsException") (by decide +kernel), hN.2.1⟩) (by decide) (by decide) (hts (.classLink RL 29 "java/lang/IllegalArgumentException") (by decide +kernel)) (va_Nw.use rfl (hE.2.2.2.1 "java/lang/IllegalArgumentException" (by decide))) h3 h4 h5 ?_
  refine lv_astore (lv' := [(8, .ref q9), (0, .ref h), (1, .int (nI g)), (2, .int (nI a)), (3, .int (oI x)), (4, .int (oI y)), (5, .int v), (6, .int w), (7, .ref ob)]) hx hb dL_draft_25 hl (by decide) rfl (fun ls hl => ?_)
  refine lv_iconst (v := nI 2) hx hb dL_draft_27 (by decide) ?_
  exact q_eret hx hb hr hlocks h1 h2 dL_draft_28

set_option maxHeartbeats 4000000 in
set_option maxRecDepth 100000 in
theorem kL_draftXS (l : Launch) (D : va_G) (h : Nat) (ad : Nat → Nat) (cI cZ : ClassId) (ex : Nat → Bool) (pa : Nat → Option Nat) (di : Nat → Nat) (qu : Nat → Nat) (gc : Nat) (dg : Nat → Nat) (dp : Nat → Nat) (dv : Nat → Option Nat) (dd : Nat → Nat) (ds : Nat → Nat) (dc : Nat) (td : Nat) (ho : Nat → Option Nat) (ak : Nat → Bool) (se : Nat → Option Nat) (pr : Nat → Option Nat) (hlf : l.stackTraces = false) (ob : Nat) (g a : Nat) (x y v : Option Nat) (w : Nat) (hg : g < 16) (he : ex g = true) (ha : a < 6) (hxr : ∀ k, x = some k → k < 3) (hyr : ∀ k, y = some k → k < 3) (hvr : ∀ k, v = some k → k ≤ 100000) (hw2 : w ≤ 1000) (hdc : dc = 200) : Met l yL_draft wsL_draft ({ frames := 7, cells := 1, slots := 6, locals := 109 } : Room) (tN D (hW h ad cI cZ ex pa di qu gc dg dp dv dd ds dc td ho ak se pr) (hT cI cZ) [.ref h, .int (nI g), .int (nI a), .int (oI x), .int (oI y), .int (oI v), .int (nI w), .ref ob]) (eQ 3) 1 6 nF := by
  refine mt_ofWH (cc := cL_draft) (maxL := 9) (ret := (some .int)) (by decide) rfl ?_
  intro p e s m args below meth c s₁ B hml htab hv
  obtain ⟨rfl, hP, hK, hE, hN⟩ := hv
  have hx := B.exec
  have hb := B.bytes
  have hr := B.returns
  have hts := atoms_spec (ws := wsL_draft) B.pre
  have hown : s.vm.findClass RL = some m.cls := findClass_of_methodNamed B.named
  have hlocks := B.notSynchronized
  have hl := lv_entry ([.ref h, .int (nI g), .int (nI a), .int (oI x), .int (oI y), .int (oI v), .int (nI w), .ref ob]) (n := 9) (Nat.le_of_ble_eq_true rfl)
  rw [lg_entry_eq]
  generalize (lg_sl ([.ref h, .int (nI g), .int (nI a), .int (oI x), .int (oI y), .int (oI v), .int (nI w), .ref ob]) ++ List.replicate (9 - (lg_sl ([.ref h, .int (nI g), .int (nI a), .int (oI x), .int (oI y), .int (oI v), .int (nI w), .ref ob])).length) Slot.unset).toArray = ls at hl ⊢
  have hl : lv_has ls 9 [(0, .ref h), (1, .int (nI g)), (2, .int (nI a)), (3, .int (oI x)), (4, .int (oI y)), (5, .int (oI v)), (6, .int (nI w)), (7, .ref ob)] := hl
  refine lv_aload hx hb dL_draft_0 (lv_at hl 7 rfl) ?_
  refine lv_iconst (v := nI 0) hx hb dL_draft_2 (by decide) ?_
  refine lv_aload_n hx hb dL_draft_3 rfl (lv_at hl 0 rfl) ?_
  refine lv_iload_n hx hb dL_draft_4 rfl (lv_at hl 1 rfl) ?_
  refine lv_iload_n hx hb dL_draft_5 rfl (lv_at hl 2 rfl) ?_
  refine lv_iload_n hx hb dL_draft_6 rfl (lv_at hl 3 rfl) ?_
  refine lv_iload hx hb dL_draft_7 (lv_at hl 4 rfl) ?_
  refine lv_iload hx hb dL_draft_9 (lv_at hl 5 rfl) ?_
  refine lv_iload hx hb dL_draft_11 (lv_at hl 6 rfl) ?_
  refine q_catch (vx_runV (As := [.int (nI g), .int (nI a), .int (oI x), .int (oI y), .int (oI v), .int (nI w)]) (rest := [.int (nI 0), .ref ob]) ⟨hx, hb, hml, hown, hts⟩ (kX0_draftXS l D h ad cI cZ ex pa di qu gc dg dp dv dd ds dc td ho ak se pr hlf g a x y v w hg he ha hxr hyr hvr hw2 hdc) (cwV 6 hts gL_draft_X0_draft rfl rfl rfl (by decide +kernel) ⟨Nat.le_of_ble_eq_true rfl, Nat.le_of_ble_eq_true rfl⟩) ⟨tP_blind, va_recv hK hP (ci := 0) (q0 := 0) rfl rfl, tP_pre hP hK hE⟩ rfl rfl hl.1 rfl (lv_room (Nat.le_of_ble_eq_true rfl)) dL_draft_13 ⟨Nat.le_of_ble_eq_true rfl, Nat.le_of_ble_eq_true rfl⟩) (fun H ce q9 h1 h2 h3 h4 h5 => ?_)
  obtain ⟨t0, ht0, htab⟩ := tab_c htab
  obtain ⟨t1, ht1, htab⟩ := tab_c htab
  obtain ⟨t2, ht2, htab⟩ := tab_c htab
  refine vx_catch (own := RL) (name := "java/lang/IllegalStateException") (E := "java/lang/IllegalStateException") hown [⟨0, 18, 21, 13⟩, ⟨0, 18, 25, 29⟩] ⟨0, 18, 29, 15⟩ t2 ((ht0.trans (congrArg (List.cons ⟨0, 18, 21, 13⟩) ht1)).trans (congrArg (fun z => ⟨0, 18, 21, 13⟩ :: ⟨0, 18, 25, 29⟩ :: z) ht2)) (fun z hz => by
    simp only [List.mem_cons, List.not_mem_nil, or_false] at hz
    rcases hz with rfl | rfl
    · exact Or.inr ⟨by decide, "java/lang/IndexOutOfBoundsException", hts (.classLink RL 13 "java/lang/IndexOutOfBoundsException") (by decide +kernel), hN.1⟩
    · exact Or.inr ⟨by decide, "java/lang/IllegalArgumentException", hts (.classLink RL 29 "java/lang/IllegalArgumentException") (by decide +kernel), hN.2.2⟩) (by decide) (by decide) (hts (.classLink RL 15 "java/lang/IllegalStateException") (by decide +kernel)) (va_Nw.use rfl (hE.2.2.2.1 "java/lang/IllegalStateException" (by decide))) h3 h4 h5 ?_
  refine lv_astore (lv' := [(8, .ref q9), (0, .ref h), (1, .int (nI g)), (2, .int (nI a)), (3, .int (oI x)), (4, .int (oI y)), (5, .int (oI v)), (6, .int (nI w)), (7, .ref ob)]) hx hb dL_draft_29 hl (by decide) rfl (fun ls hl => ?_)
  refine lv_iconst (v := nI 3) hx hb dL_draft_31 (by decide) ?_
  exact q_eret hx hb hr hlocks h1 h2 dL_draft_32

set_option maxHeartbeats 4000000 in
set_option maxRecDepth 100000 in
theorem kL_approve (l : Launch) (D : va_G) (h : Nat) (ad : Nat → Nat) (cI cZ : ClassId) (ex : Nat → Bool) (pa : Nat → Option Nat) (di : Nat → Nat) (qu : Nat → Nat) (gc : Nat) (dg : Nat → Nat) (dp : Nat → Nat) (dv : Nat → Option Nat) (dd : Nat → Nat) (ds : Nat → Nat) (dc : Nat) (td : Nat) (ho : Nat → Option Nat) (ak : Nat → Bool) (se : Nat → Option Nat) (pr : Nat → Option Nat) (cJ : ClassId) (ob : Nat) (f : Nat → Int64) (sz : Nat) (d : Nat) (hd : d < dc) (h1 : ds d = 1) (hdc : dc ≤ 200) (htd : td < 2147483648) (hdp : ∀ k, k < dc → dp k < 1536) (hdd : ∀ k, k < dc → dd k ≤ 1000) (hds : ∀ k, k < dc → ds k ≤ 4) : Met l yL_approve wsL_approve ({ frames := 4, cells := 0, slots := 0, locals := 86 } : Room) (wP D ((hW h ad cI cZ ex pa di qu gc dg dp dv dd ds dc td ho ak se pr) ++ [(ob, .inl (cJ, 1, .inr (.inl f)))]) (mT cI cJ cZ) [.ref h, .int (nI d), .ref ob] sz) (wQ D ((hW h ad cI cZ ex pa di qu gc dg dp dv dd ds dc td ho ak se pr) ++ [(ob, .inl (cJ, 1, .inr (.inl f)))]) ((hW h ad cI cZ ex pa di qu gc dg dp dv dd (va_up ds d 2) dc td (stl ho (va_up ds d 2) dd dp td dc) ak se pr) ++ [(ob, .inl (cJ, 1, .inr (.inl (vp_updL f 0 (bL (decide (stl ho (va_up ds d 2) dd dp td dc (dp d) = some d)))))))]) (some (.int (nI 0)))) 0 0 (va_A ((hW h ad cI cZ ex pa di qu gc dg dp dv dd ds dc td ho ak se pr) ++ [(ob, .inl (cJ, 1, .inr (.inl f)))]) sz) := by
  refine mt_ofWH (cc := cL_approve) (maxL := 4) (ret := (some .int)) (by decide) rfl ?_
  intro p e s m args below meth c s₁ B hml htab hv
  obtain ⟨rfl, hsz, hP, hK, hD0⟩ := hv
  have hx := B.exec
  have hb := B.bytes
  have hr := B.returns
  have hts := atoms_spec (ws := wsL_approve) B.pre
  have hown : s.vm.findClass RL = some m.cls := findClass_of_methodNamed B.named
  have hlocks := B.notSynchronized
  subst hsz
  have hD := hD0.self (sz := s.heap.size)
  generalize hAe : va_A ((hW h ad cI cZ ex pa di qu gc dg dp dv dd ds dc td ho ak se pr) ++ [(ob, .inl (cJ, 1, .inr (.inl f)))]) s.heap.size = A at hD ⊢
  have hA : ∀ q : Nat, s.heap.size ≤ q → A q := fun q h => by rw [← hAe]; exact Or.inr h
  have hS : va_S A s.heap s.heap [] := va_S.rf
  have hKh : va_K D vwCl (hT cI cZ) s := hK.sub [0, 1] rfl
  have hl := lv_entry ([.ref h, .int (nI d), .ref ob]) (n := 4) (Nat.le_of_ble_eq_true rfl)
  rw [lg_entry_eq]
  generalize (lg_sl ([.ref h, .int (nI d), .ref ob]) ++ List.replicate (4 - (lg_sl ([.ref h, .int (nI d), .ref ob])).length) Slot.unset).toArray = ls at hl ⊢
  have hl : lv_has ls 4 [(0, .ref h), (1, .int (nI d)), (2, .ref ob)] := hl
  refine lv_aload_n hx hb dL_approve_0 rfl (lv_at hl 2 rfl) ?_
  refine lv_iconst (v := nI 0) hx hb dL_approve_1 (by decide) ?_
  refine lv_aload_n hx hb dL_approve_2 rfl (lv_at hl 0 rfl) ?_
  refine lv_iload_n hx hb dL_approve_3 rfl (lv_at hl 1 rfl) ?_
  refine q_wcallFI (wb := [(ob, .inl (cJ, 1, .inr (.inl f)))]) (r := bI (decide (stl ho (va_up ds d 2) dd dp td dc (dp d) = some d))) (wa' := (hW h ad cI cZ ex pa di qu gc dg dp dv dd (va_up ds d 2) dc td (stl ho (va_up ds d 2) dd dp td dc) ak se pr)) (va_runV (As := [.int (nI d)]) (rest := [.int (nI 0), .ref ob]) ⟨hx, hb, hml, hown, hts⟩ (kX0_approve l D h ad cI cZ ex pa di qu gc dg dp dv dd ds dc td ho ak se pr _ d hd h1 hdc htd hdp hdd hds) (cwV 1 hts gL_approve_X0_approve rfl rfl rfl (by decide +kernel) ⟨Nat.le_of_ble_eq_true rfl, Nat.le_of_ble_eq_true rfl⟩) ⟨wP_blind, va_recv hKh (va_Pl hP) (ci := 0) (q0 := 0) rfl rfl, wP_pre (va_Pl hP) hKh (va_Dl hD)⟩ rfl rfl hl.1 rfl (lv_room (Nat.le_of_ble_eq_true rfl)) dL_approve_4 ⟨Nat.zero_le _, Nat.zero_le _⟩) hP hD hS hA rfl (fun H locs hP hD hS => ?_)
  refine q_ifB_eq (b := decide (stl ho (va_up ds d 2) dd dp td dc (dp d) = some d)) (tgt := 14) hx hb dL_approve_7 (by decide) (fun k1 => ?_) (fun k1 => ?_)
  · refine lv_lconst (v := lN 0) hx hb dL_approve_14 (by decide) ?_
    refine q_topL (y := bL (decide (stl ho (va_up ds d 2) dd dp td dc (dp d) = some d))) (by rw [k1]; decide) ?_
    refine q_ost hx hb hK hP hD hS 14 2 rfl rfl dL_approve_15 (fun H locs hP hD hS => ?_)
    have hP : va_P D vwCl ((hW h ad cI cZ ex pa di qu gc dg dp dv dd (va_up ds d 2) dc td (stl ho (va_up ds d 2) dd dp td dc) ak se pr) ++ [(ob, .inl (cJ, 1, .inr (.inl (vp_updL f 0 (bL (decide (stl ho (va_up ds d 2) dd dp td dc (dp d) = some d)))))))]) H := hP
    refine lv_goto (tgt := 25) hx hb dL_approve_16 (by decide) ?_
    refine lv_iconst (v := nI 0) hx hb dL_approve_25 (by decide) ?_
    exact q_wretI hx hb hr hlocks hAe hP hS rfl dL_approve_26
  · refine lv_lconst (v := lN 1) hx hb dL_approve_10 (by decide) ?_
    refine q_topL (y := bL (decide (stl ho (va_up ds d 2) dd dp td dc (dp d) = some d))) (by rw [k1]; decide) ?_
    refine lv_goto (tgt := 15) hx hb dL_approve_11 (by decide) ?_
    refine q_ost hx hb hK hP hD hS 14 2 rfl rfl dL_approve_15 (fun H locs hP hD hS => ?_)
    have hP : va_P D vwCl ((hW h ad cI cZ ex pa di qu gc dg dp dv dd (va_up ds d 2) dc td (stl ho (va_up ds d 2) dd dp td dc) ak se pr) ++ [(ob, .inl (cJ, 1, .inr (.inl (vp_updL f 0 (bL (decide (stl ho (va_up ds d 2) dd dp td dc (dp d) = some d)))))))]) H := hP
    refine lv_goto (tgt := 25) hx hb dL_approve_16 (by decide) ?_
    refine lv_iconst (v := nI 0) hx hb dL_approve_25 (by decide) ?_
    exact q_wretI hx hb hr hlocks hAe hP hS rfl dL_approve_26

set_option maxHeartbeats 4000000 in
set_option maxRecDepth 100000 in
theorem kL_approveXI (l : Launch) (D : va_G) (h : Nat) (ad : Nat → Nat) (cI cZ : ClassId) (ex : Nat → Bool) (pa : Nat → Option Nat) (di : Nat → Nat) (qu : Nat → Nat) (gc : Nat) (dg : Nat → Nat) (dp : Nat → Nat) (dv : Nat → Option Nat) (dd : Nat → Nat) (ds : Nat → Nat) (dc : Nat) (td : Nat) (ho : Nat → Option Nat) (ak : Nat → Bool) (se : Nat → Option Nat) (pr : Nat → Option Nat) (hlf : l.stackTraces = false) (ob : Nat) (d : Int32) (hd : dBad dc ds d) (hdc : dc ≤ 200) : Met l yL_approve wsL_approve ({ frames := 8, cells := 1, slots := 6, locals := 124 } : Room) (tN D (hW h ad cI cZ ex pa di qu gc dg dp dv dd ds dc td ho ak se pr) (hT cI cZ) [.ref h, .int d, .ref ob]) (eQ 1) 1 6 nF := by
  refine mt_ofWH (cc := cL_approve) (maxL := 4) (ret := (some .int)) (by decide) rfl ?_
  intro p e s m args below meth c s₁ B hml htab hv
  obtain ⟨rfl, hP, hK, hE, hN⟩ := hv
  have hx := B.exec
  have hb := B.bytes
  have hr := B.returns
  have hts := atoms_spec (ws := wsL_approve) B.pre
  have hown : s.vm.findClass RL = some m.cls := findClass_of_methodNamed B.named
  have hlocks := B.notSynchronized
  have hl := lv_entry ([.ref h, .int d, .ref ob]) (n := 4) (Nat.le_of_ble_eq_true rfl)
  rw [lg_entry_eq]
  generalize (lg_sl ([.ref h, .int d, .ref ob]) ++ List.replicate (4 - (lg_sl ([.ref h, .int d, .ref ob])).length) Slot.unset).toArray = ls at hl ⊢
  have hl : lv_has ls 4 [(0, .ref h), (1, .int d), (2, .ref ob)] := hl
  refine lv_aload_n hx hb dL_approve_0 rfl (lv_at hl 2 rfl) ?_
  refine lv_iconst (v := nI 0) hx hb dL_approve_1 (by decide) ?_
  refine lv_aload_n hx hb dL_approve_2 rfl (lv_at hl 0 rfl) ?_
  refine lv_iload_n hx hb dL_approve_3 rfl (lv_at hl 1 rfl) ?_
  refine q_catch (vx_runV (As := [.int d]) (rest := [.int (nI 0), .ref ob]) ⟨hx, hb, hml, hown, hts⟩ (kX0_approveXI l D h ad cI cZ ex pa di qu gc dg dp dv dd ds dc td ho ak se pr hlf d hd hdc) (cwV 1 hts gL_approve_X0_approve rfl rfl rfl (by decide +kernel) ⟨Nat.le_of_ble_eq_true rfl, Nat.le_of_ble_eq_true rfl⟩) ⟨tP_blind, va_recv hK hP (ci := 0) (q0 := 0) rfl rfl, tP_pre hP hK hE⟩ rfl rfl hl.1 rfl (lv_room (Nat.le_of_ble_eq_true rfl)) dL_approve_4 ⟨Nat.le_of_ble_eq_true rfl, Nat.le_of_ble_eq_true rfl⟩) (fun H ce q9 h1 h2 h3 h4 h5 => ?_)
  obtain ⟨t0, ht0, htab⟩ := tab_c htab
  refine vx_catch (own := RL) (name := "java/lang/IndexOutOfBoundsException") (E := "java/lang/IndexOutOfBoundsException") hown [] ⟨0, 16, 19, 13⟩ t0 ht0 (fun z hz => by cases hz) (by decide) (by decide) (hts (.classLink RL 13 "java/lang/IndexOutOfBoundsException") (by decide +kernel)) (va_Nw.use rfl (hE.2.2.2.1 "java/lang/IndexOutOfBoundsException" (by decide))) h3 h4 h5 ?_
  refine lv_astore_n (lv' := [(3, .ref q9), (0, .ref h), (1, .int d), (2, .ref ob)]) hx hb dL_approve_19 rfl hl (by decide) rfl (fun ls hl => ?_)
  refine lv_iconst (v := nI 1) hx hb dL_approve_20 (by decide) ?_
  exact q_eret hx hb hr hlocks h1 h2 dL_approve_21

set_option maxHeartbeats 4000000 in
set_option maxRecDepth 100000 in
theorem kL_approveXS (l : Launch) (D : va_G) (h : Nat) (ad : Nat → Nat) (cI cZ : ClassId) (ex : Nat → Bool) (pa : Nat → Option Nat) (di : Nat → Nat) (qu : Nat → Nat) (gc : Nat) (dg : Nat → Nat) (dp : Nat → Nat) (dv : Nat → Option Nat) (dd : Nat → Nat) (ds : Nat → Nat) (dc : Nat) (td : Nat) (ho : Nat → Option Nat) (ak : Nat → Bool) (se : Nat → Option Nat) (pr : Nat → Option Nat) (hlf : l.stackTraces = false) (ob : Nat) (d : Nat) (hd : d < dc) (hdc : dc ≤ 200) (h1 : ds d ≠ 1) (h4 : ds d ≠ 4) (hd4 : ds d ≤ 4) : Met l yL_approve wsL_approve ({ frames := 7, cells := 1, slots := 6, locals := 103 } : Room) (tN D (hW h ad cI cZ ex pa di qu gc dg dp dv dd ds dc td ho ak se pr) (hT cI cZ) [.ref h, .int (nI d), .ref ob]) (eQ 2) 1 6 nF := by
  refine mt_ofWH (cc := cL_approve) (maxL := 4) (ret := (some .int)) (by decide) rfl ?_
  intro p e s m args below meth c s₁ B hml htab hv
  obtain ⟨rfl, hP, hK, hE, hN⟩ := hv
  have hx := B.exec
  have hb := B.bytes
  have hr := B.returns
  have hts := atoms_spec (ws := wsL_approve) B.pre
  have hown : s.vm.findClass RL = some m.cls := findClass_of_methodNamed B.named
  have hlocks := B.notSynchronized
  have hl := lv_entry ([.ref h, .int (nI d), .ref ob]) (n := 4) (Nat.le_of_ble_eq_true rfl)
  rw [lg_entry_eq]
  generalize (lg_sl ([.ref h, .int (nI d), .ref ob]) ++ List.replicate (4 - (lg_sl ([.ref h, .int (nI d), .ref ob])).length) Slot.unset).toArray = ls at hl ⊢
  have hl : lv_has ls 4 [(0, .ref h), (1, .int (nI d)), (2, .ref ob)] := hl
  refine lv_aload_n hx hb dL_approve_0 rfl (lv_at hl 2 rfl) ?_
  refine lv_iconst (v := nI 0) hx hb dL_approve_1 (by decide) ?_
  refine lv_aload_n hx hb dL_approve_2 rfl (lv_at hl 0 rfl) ?_
  refine lv_iload_n hx hb dL_approve_3 rfl (lv_at hl 1 rfl) ?_
  refine q_catch (vx_runV (As := [.int (nI d)]) (rest := [.int (nI 0), .ref ob]) ⟨hx, hb, hml, hown, hts⟩ (kX0_approveXS l D h ad cI cZ ex pa di qu gc dg dp dv dd ds dc td ho ak se pr hlf d hd hdc h1 h4 hd4) (cwV 1 hts gL_approve_X0_approve rfl rfl rfl (by decide +kernel) ⟨Nat.le_of_ble_eq_true rfl, Nat.le_of_ble_eq_true rfl⟩) ⟨tP_blind, va_recv hK hP (ci := 0) (q0 := 0) rfl rfl, tP_pre hP hK hE⟩ rfl rfl hl.1 rfl (lv_room (Nat.le_of_ble_eq_true rfl)) dL_approve_4 ⟨Nat.le_of_ble_eq_true rfl, Nat.le_of_ble_eq_true rfl⟩) (fun H ce q9 h1 h2 h3 h4 h5 => ?_)
  obtain ⟨t0, ht0, htab⟩ := tab_c htab
  obtain ⟨t1, ht1, htab⟩ := tab_c htab
  refine vx_catch (own := RL) (name := "java/lang/IllegalStateException") (E := "java/lang/IllegalStateException") hown [⟨0, 16, 19, 13⟩] ⟨0, 16, 22, 15⟩ t1 (ht0.trans (congrArg (List.cons ⟨0, 16, 19, 13⟩) ht1)) (fun z hz => by
    simp only [List.mem_cons, List.not_mem_nil, or_false] at hz
    subst hz
    exact Or.inr ⟨by decide, "java/lang/IndexOutOfBoundsException", hts (.classLink RL 13 "java/lang/IndexOutOfBoundsException") (by decide +kernel), hN.1⟩) (by decide) (by decide) (hts (.classLink RL 15 "java/lang/IllegalStateException") (by decide +kernel)) (va_Nw.use rfl (hE.2.2.2.1 "java/lang/IllegalStateException" (by decide))) h3 h4 h5 ?_
  refine lv_astore_n (lv' := [(3, .ref q9), (0, .ref h), (1, .int (nI d)), (2, .ref ob)]) hx hb dL_approve_22 rfl hl (by decide) rfl (fun ls hl => ?_)
  refine lv_iconst (v := nI 2) hx hb dL_approve_23 (by decide) ?_
  exact q_eret hx hb hr hlocks h1 h2 dL_approve_24

set_option maxHeartbeats 4000000 in
set_option maxRecDepth 100000 in
theorem kL_reject (l : Launch) (D : va_G) (h : Nat) (ad : Nat → Nat) (cI cZ : ClassId) (ex : Nat → Bool) (pa : Nat → Option Nat) (di : Nat → Nat) (qu : Nat → Nat) (gc : Nat) (dg : Nat → Nat) (dp : Nat → Nat) (dv : Nat → Option Nat) (dd : Nat → Nat) (ds : Nat → Nat) (dc : Nat) (td : Nat) (ho : Nat → Option Nat) (ak : Nat → Bool) (se : Nat → Option Nat) (pr : Nat → Option Nat) (cJ : ClassId) (ob : Nat) (f : Nat → Int64) (sz : Nat) (d : Nat) (hd : d < dc) (h3 : ds d ≠ 3) (h4 : ds d ≠ 4) (hho : HO ho dc) (hdc : dc ≤ 200) (htd : td < 2147483648) (hdp : ∀ k, k < dc → dp k < 1536) (hdd : ∀ k, k < dc → dd k ≤ 1000) (hds : ∀ k, k < dc → ds k ≤ 4) : Met l yL_reject wsL_reject ({ frames := 4, cells := 0, slots := 0, locals := 87 } : Room) (wP D ((hW h ad cI cZ ex pa di qu gc dg dp dv dd ds dc td ho ak se pr) ++ [(ob, .inl (cJ, 1, .inr (.inl f)))]) (mT cI cJ cZ) [.ref h, .int (nI d), .ref ob] sz) (wQ D ((hW h ad cI cZ ex pa di qu gc dg dp dv dd ds dc td ho ak se pr) ++ [(ob, .inl (cJ, 1, .inr (.inl f)))]) ((hW h ad cI cZ ex pa di qu gc dg dp dv dd (va_up ds d 3) dc td (stl ho (va_up ds d 3) dd dp td dc) ak se pr) ++ [(ob, .inl (cJ, 1, .inr (.inl (vp_updL f 0 (bL (decide (ho (dp d) = some d)))))))]) (some (.int (nI 0)))) 0 0 (va_A ((hW h ad cI cZ ex pa di qu gc dg dp dv dd ds dc td ho ak se pr) ++ [(ob, .inl (cJ, 1, .inr (.inl f)))]) sz) := by
  refine mt_ofWH (cc := cL_reject) (maxL := 4) (ret := (some .int)) (by decide) rfl ?_
  intro p e s m args below meth c s₁ B hml htab hv
  obtain ⟨rfl, hsz, hP, hK, hD0⟩ := hv
  have hx := B.exec
  have hb := B.bytes
  have hr := B.returns
  have hts := atoms_spec (ws := wsL_reject) B.pre
  have hown : s.vm.findClass RL = some m.cls := findClass_of_methodNamed B.named
  have hlocks := B.notSynchronized
  subst hsz
  have hD := hD0.self (sz := s.heap.size)
  generalize hAe : va_A ((hW h ad cI cZ ex pa di qu gc dg dp dv dd ds dc td ho ak se pr) ++ [(ob, .inl (cJ, 1, .inr (.inl f)))]) s.heap.size = A at hD ⊢
  have hA : ∀ q : Nat, s.heap.size ≤ q → A q := fun q h => by rw [← hAe]; exact Or.inr h
  have hS : va_S A s.heap s.heap [] := va_S.rf
  have hKh : va_K D vwCl (hT cI cZ) s := hK.sub [0, 1] rfl
  have hl := lv_entry ([.ref h, .int (nI d), .ref ob]) (n := 4) (Nat.le_of_ble_eq_true rfl)
  rw [lg_entry_eq]
  generalize (lg_sl ([.ref h, .int (nI d), .ref ob]) ++ List.replicate (4 - (lg_sl ([.ref h, .int (nI d), .ref ob])).length) Slot.unset).toArray = ls at hl ⊢
  have hl : lv_has ls 4 [(0, .ref h), (1, .int (nI d)), (2, .ref ob)] := hl
  refine lv_aload_n hx hb dL_reject_0 rfl (lv_at hl 2 rfl) ?_
  refine lv_iconst (v := nI 0) hx hb dL_reject_1 (by decide) ?_
  refine lv_aload_n hx hb dL_reject_2 rfl (lv_at hl 0 rfl) ?_
  refine lv_iload_n hx hb dL_reject_3 rfl (lv_at hl 1 rfl) ?_
  refine q_wcallFI (wb := [(ob, .inl (cJ, 1, .inr (.inl f)))]) (r := bI (decide (ho (dp d) = some d))) (wa' := (hW h ad cI cZ ex pa di qu gc dg dp dv dd (va_up ds d 3) dc td (stl ho (va_up ds d 3) dd dp td dc) ak se pr)) (va_runV (As := [.int (nI d)]) (rest := [.int (nI 0), .ref ob]) ⟨hx, hb, hml, hown, hts⟩ (kX0_reject l D h ad cI cZ ex pa di qu gc dg dp dv dd ds dc td ho ak se pr _ d hd h3 h4 hho hdc htd hdp hdd hds) (cwV 1 hts gL_reject_X0_reject rfl rfl rfl (by decide +kernel) ⟨Nat.le_of_ble_eq_true rfl, Nat.le_of_ble_eq_true rfl⟩) ⟨wP_blind, va_recv hKh (va_Pl hP) (ci := 0) (q0 := 0) rfl rfl, wP_pre (va_Pl hP) hKh (va_Dl hD)⟩ rfl rfl hl.1 rfl (lv_room (Nat.le_of_ble_eq_true rfl)) dL_reject_4 ⟨Nat.zero_le _, Nat.zero_le _⟩) hP hD hS hA rfl (fun H locs hP hD hS => ?_)
  refine q_ifB_eq (b := decide (ho (dp d) = some d)) (tgt := 14) hx hb dL_reject_7 (by decide) (fun k1 => ?_) (fun k1 => ?_)
  · refine lv_lconst (v := lN 0) hx hb dL_reject_14 (by decide) ?_
    refine q_topL (y := bL (decide (ho (dp d) = some d))) (by rw [k1]; decide) ?_
    refine q_ost hx hb hK hP hD hS 14 2 rfl rfl dL_reject_15 (fun H locs hP hD hS => ?_)
    have hP : va_P D vwCl ((hW h ad cI cZ ex pa di qu gc dg dp dv dd (va_up ds d 3) dc td (stl ho (va_up ds d 3) dd dp td dc) ak se pr) ++ [(ob, .inl (cJ, 1, .inr (.inl (vp_updL f 0 (bL (decide (ho (dp d) = some d)))))))]) H := hP
    refine lv_goto (tgt := 25) hx hb dL_reject_16 (by decide) ?_
    refine lv_iconst (v := nI 0) hx hb dL_reject_25 (by decide) ?_
    exact q_wretI hx hb hr hlocks hAe hP hS rfl dL_reject_26
  · refine lv_lconst (v := lN 1) hx hb dL_reject_10 (by decide) ?_
    refine q_topL (y := bL (decide (ho (dp d) = some d))) (by rw [k1]; decide) ?_
    refine lv_goto (tgt := 15) hx hb dL_reject_11 (by decide) ?_
    refine q_ost hx hb hK hP hD hS 14 2 rfl rfl dL_reject_15 (fun H locs hP hD hS => ?_)
    have hP : va_P D vwCl ((hW h ad cI cZ ex pa di qu gc dg dp dv dd (va_up ds d 3) dc td (stl ho (va_up ds d 3) dd dp td dc) ak se pr) ++ [(ob, .inl (cJ, 1, .inr (.inl (vp_updL f 0 (bL (decide (ho (dp d) = some d)))))))]) H := hP
    refine lv_goto (tgt := 25) hx hb dL_reject_16 (by decide) ?_
    refine lv_iconst (v := nI 0) hx hb dL_reject_25 (by decide) ?_
    exact q_wretI hx hb hr hlocks hAe hP hS rfl dL_reject_26

set_option maxHeartbeats 4000000 in
set_option maxRecDepth 100000 in
theorem kL_rejectXI (l : Launch) (D : va_G) (h : Nat) (ad : Nat → Nat) (cI cZ : ClassId) (ex : Nat → Bool) (pa : Nat → Option Nat) (di : Nat → Nat) (qu : Nat → Nat) (gc : Nat) (dg : Nat → Nat) (dp : Nat → Nat) (dv : Nat → Option Nat) (dd : Nat → Nat) (ds : Nat → Nat) (dc : Nat) (td : Nat) (ho : Nat → Option Nat) (ak : Nat → Bool) (se : Nat → Option Nat) (pr : Nat → Option Nat) (hlf : l.stackTraces = false) (ob : Nat) (d : Int32) (hd : dBad dc ds d) (hdc : dc ≤ 200) : Met l yL_reject wsL_reject ({ frames := 8, cells := 1, slots := 6, locals := 125 } : Room) (tN D (hW h ad cI cZ ex pa di qu gc dg dp dv dd ds dc td ho ak se pr) (hT cI cZ) [.ref h, .int d, .ref ob]) (eQ 1) 1 6 nF := by
  refine mt_ofWH (cc := cL_reject) (maxL := 4) (ret := (some .int)) (by decide) rfl ?_
  intro p e s m args below meth c s₁ B hml htab hv
  obtain ⟨rfl, hP, hK, hE, hN⟩ := hv
  have hx := B.exec
  have hb := B.bytes
  have hr := B.returns
  have hts := atoms_spec (ws := wsL_reject) B.pre
  have hown : s.vm.findClass RL = some m.cls := findClass_of_methodNamed B.named
  have hlocks := B.notSynchronized
  have hl := lv_entry ([.ref h, .int d, .ref ob]) (n := 4) (Nat.le_of_ble_eq_true rfl)
  rw [lg_entry_eq]
  generalize (lg_sl ([.ref h, .int d, .ref ob]) ++ List.replicate (4 - (lg_sl ([.ref h, .int d, .ref ob])).length) Slot.unset).toArray = ls at hl ⊢
  have hl : lv_has ls 4 [(0, .ref h), (1, .int d), (2, .ref ob)] := hl
  refine lv_aload_n hx hb dL_reject_0 rfl (lv_at hl 2 rfl) ?_
  refine lv_iconst (v := nI 0) hx hb dL_reject_1 (by decide) ?_
  refine lv_aload_n hx hb dL_reject_2 rfl (lv_at hl 0 rfl) ?_
  refine lv_iload_n hx hb dL_reject_3 rfl (lv_at hl 1 rfl) ?_
  refine q_catch (vx_runV (As := [.int d]) (rest := [.int (nI 0), .ref ob]) ⟨hx, hb, hml, hown, hts⟩ (kX0_rejectXI l D h ad cI cZ ex pa di qu gc dg dp dv dd ds dc td ho ak se pr hlf d hd hdc) (cwV 1 hts gL_reject_X0_reject rfl rfl rfl (by decide +kernel) ⟨Nat.le_of_ble_eq_true rfl, Nat.le_of_ble_eq_true rfl⟩) ⟨tP_blind, va_recv hK hP (ci := 0) (q0 := 0) rfl rfl, tP_pre hP hK hE⟩ rfl rfl hl.1 rfl (lv_room (Nat.le_of_ble_eq_true rfl)) dL_reject_4 ⟨Nat.le_of_ble_eq_true rfl, Nat.le_of_ble_eq_true rfl⟩) (fun H ce q9 h1 h2 h3 h4 h5 => ?_)
  obtain ⟨t0, ht0, htab⟩ := tab_c htab
  refine vx_catch (own := RL) (name := "java/lang/IndexOutOfBoundsException") (E := "java/lang/IndexOutOfBoundsException") hown [] ⟨0, 16, 19, 13⟩ t0 ht0 (fun z hz => by cases hz) (by decide) (by decide) (hts (.classLink RL 13 "java/lang/IndexOutOfBoundsException") (by decide +kernel)) (va_Nw.use rfl (hE.2.2.2.1 "java/lang/IndexOutOfBoundsException" (by decide))) h3 h4 h5 ?_
  refine lv_astore_n (lv' := [(3, .ref q9), (0, .ref h), (1, .int d), (2, .ref ob)]) hx hb dL_reject_19 rfl hl (by decide) rfl (fun ls hl => ?_)
  refine lv_iconst (v := nI 1) hx hb dL_reject_20 (by decide) ?_
  exact q_eret hx hb hr hlocks h1 h2 dL_reject_21

set_option maxHeartbeats 4000000 in
set_option maxRecDepth 100000 in
theorem kL_rejectXS (l : Launch) (D : va_G) (h : Nat) (ad : Nat → Nat) (cI cZ : ClassId) (ex : Nat → Bool) (pa : Nat → Option Nat) (di : Nat → Nat) (qu : Nat → Nat) (gc : Nat) (dg : Nat → Nat) (dp : Nat → Nat) (dv : Nat → Option Nat) (dd : Nat → Nat) (ds : Nat → Nat) (dc : Nat) (td : Nat) (ho : Nat → Option Nat) (ak : Nat → Bool) (se : Nat → Option Nat) (pr : Nat → Option Nat) (hlf : l.stackTraces = false) (ob : Nat) (d : Nat) (hd : d < dc) (hdc : dc ≤ 200) (h3 : ds d = 3) : Met l yL_reject wsL_reject ({ frames := 7, cells := 1, slots := 6, locals := 104 } : Room) (tN D (hW h ad cI cZ ex pa di qu gc dg dp dv dd ds dc td ho ak se pr) (hT cI cZ) [.ref h, .int (nI d), .ref ob]) (eQ 2) 1 6 nF := by
  refine mt_ofWH (cc := cL_reject) (maxL := 4) (ret := (some .int)) (by decide) rfl ?_
  intro p e s m args below meth c s₁ B hml htab hv
  obtain ⟨rfl, hP, hK, hE, hN⟩ := hv
  have hx := B.exec
  have hb := B.bytes
  have hr := B.returns
  have hts := atoms_spec (ws := wsL_reject) B.pre
  have hown : s.vm.findClass RL = some m.cls := findClass_of_methodNamed B.named
  have hlocks := B.notSynchronized
  have hl := lv_entry ([.ref h, .int (nI d), .ref ob]) (n := 4) (Nat.le_of_ble_eq_true rfl)
  rw [lg_entry_eq]
  generalize (lg_sl ([.ref h, .int (nI d), .ref ob]) ++ List.replicate (4 - (lg_sl ([.ref h, .int (nI d), .ref ob])).length) Slot.unset).toArray = ls at hl ⊢
  have hl : lv_has ls 4 [(0, .ref h), (1, .int (nI d)), (2, .ref ob)] := hl
  refine lv_aload_n hx hb dL_reject_0 rfl (lv_at hl 2 rfl) ?_
  refine lv_iconst (v := nI 0) hx hb dL_reject_1 (by decide) ?_
  refine lv_aload_n hx hb dL_reject_2 rfl (lv_at hl 0 rfl) ?_
  refine lv_iload_n hx hb dL_reject_3 rfl (lv_at hl 1 rfl) ?_
  refine q_catch (vx_runV (As := [.int (nI d)]) (rest := [.int (nI 0), .ref ob]) ⟨hx, hb, hml, hown, hts⟩ (kX0_rejectXS l D h ad cI cZ ex pa di qu gc dg dp dv dd ds dc td ho ak se pr hlf d hd hdc h3) (cwV 1 hts gL_reject_X0_reject rfl rfl rfl (by decide +kernel) ⟨Nat.le_of_ble_eq_true rfl, Nat.le_of_ble_eq_true rfl⟩) ⟨tP_blind, va_recv hK hP (ci := 0) (q0 := 0) rfl rfl, tP_pre hP hK hE⟩ rfl rfl hl.1 rfl (lv_room (Nat.le_of_ble_eq_true rfl)) dL_reject_4 ⟨Nat.le_of_ble_eq_true rfl, Nat.le_of_ble_eq_true rfl⟩) (fun H ce q9 h1 h2 h3 h4 h5 => ?_)
  obtain ⟨t0, ht0, htab⟩ := tab_c htab
  obtain ⟨t1, ht1, htab⟩ := tab_c htab
  refine vx_catch (own := RL) (name := "java/lang/IllegalStateException") (E := "java/lang/IllegalStateException") hown [⟨0, 16, 19, 13⟩] ⟨0, 16, 22, 15⟩ t1 (ht0.trans (congrArg (List.cons ⟨0, 16, 19, 13⟩) ht1)) (fun z hz => by
    simp only [List.mem_cons, List.not_mem_nil, or_false] at hz
    subst hz
    exact Or.inr ⟨by decide, "java/lang/IndexOutOfBoundsException", hts (.classLink RL 13 "java/lang/IndexOutOfBoundsException") (by decide +kernel), hN.1⟩) (by decide) (by decide) (hts (.classLink RL 15 "java/lang/IllegalStateException") (by decide +kernel)) (va_Nw.use rfl (hE.2.2.2.1 "java/lang/IllegalStateException" (by decide))) h3 h4 h5 ?_
  refine lv_astore_n (lv' := [(3, .ref q9), (0, .ref h), (1, .int (nI d)), (2, .ref ob)]) hx hb dL_reject_22 rfl hl (by decide) rfl (fun ls hl => ?_)
  refine lv_iconst (v := nI 2) hx hb dL_reject_23 (by decide) ?_
  exact q_eret hx hb hr hlocks h1 h2 dL_reject_24

set_option maxHeartbeats 4000000 in
set_option maxRecDepth 100000 in
theorem kL_pass (l : Launch) (D : va_G) (h : Nat) (ad : Nat → Nat) (cI cZ : ClassId) (ex : Nat → Bool) (pa : Nat → Option Nat) (di : Nat → Nat) (qu : Nat → Nat) (gc : Nat) (dg : Nat → Nat) (dp : Nat → Nat) (dv : Nat → Option Nat) (dd : Nat → Nat) (ds : Nat → Nat) (dc : Nat) (td : Nat) (ho : Nat → Option Nat) (ak : Nat → Bool) (se : Nat → Option Nat) (pr : Nat → Option Nat) (cJ : ClassId) (ob : Nat) (f : Nat → Int64) (sz : Nat) (w : Nat) (hw1 : 1 ≤ w) (hw2 : w ≤ 100) (htw : td + w < 2147483648) (hdc : dc ≤ 200) (htd : td < 2147483648) (hdp : ∀ k, k < dc → dp k < 1536) (hdd : ∀ k, k < dc → dd k ≤ 1000) (hds : ∀ k, k < dc → ds k ≤ 4) (hret : td + w < 2147483648) : Met l yL_pass wsL_pass ({ frames := 4, cells := 0, slots := 0, locals := 86 } : Room) (wP D ((hW h ad cI cZ ex pa di qu gc dg dp dv dd ds dc td ho ak se pr) ++ [(ob, .inl (cJ, 1, .inr (.inl f)))]) (mT cI cJ cZ) [.ref h, .int (nI w), .ref ob] sz) (wQ D ((hW h ad cI cZ ex pa di qu gc dg dp dv dd ds dc td ho ak se pr) ++ [(ob, .inl (cJ, 1, .inr (.inl f)))]) ((hW h ad cI cZ ex pa di qu gc dg dp dv dd ds dc (td + w) (stl ho ds dd dp (td + w) dc) ak se pr) ++ [(ob, .inl (cJ, 1, .inr (.inl (vp_updL f 0 (lN (td + w))))))]) (some (.int (nI 0)))) 0 0 (va_A ((hW h ad cI cZ ex pa di qu gc dg dp dv dd ds dc td ho ak se pr) ++ [(ob, .inl (cJ, 1, .inr (.inl f)))]) sz) := by
  refine mt_ofWH (cc := cL_pass) (maxL := 4) (ret := (some .int)) (by decide) rfl ?_
  intro p e s m args below meth c s₁ B hml htab hv
  obtain ⟨rfl, hsz, hP, hK, hD0⟩ := hv
  have hx := B.exec
  have hb := B.bytes
  have hr := B.returns
  have hts := atoms_spec (ws := wsL_pass) B.pre
  have hown : s.vm.findClass RL = some m.cls := findClass_of_methodNamed B.named
  have hlocks := B.notSynchronized
  subst hsz
  have hD := hD0.self (sz := s.heap.size)
  generalize hAe : va_A ((hW h ad cI cZ ex pa di qu gc dg dp dv dd ds dc td ho ak se pr) ++ [(ob, .inl (cJ, 1, .inr (.inl f)))]) s.heap.size = A at hD ⊢
  have hA : ∀ q : Nat, s.heap.size ≤ q → A q := fun q h => by rw [← hAe]; exact Or.inr h
  have hS : va_S A s.heap s.heap [] := va_S.rf
  have hKh : va_K D vwCl (hT cI cZ) s := hK.sub [0, 1] rfl
  have hl := lv_entry ([.ref h, .int (nI w), .ref ob]) (n := 4) (Nat.le_of_ble_eq_true rfl)
  rw [lg_entry_eq]
  generalize (lg_sl ([.ref h, .int (nI w), .ref ob]) ++ List.replicate (4 - (lg_sl ([.ref h, .int (nI w), .ref ob])).length) Slot.unset).toArray = ls at hl ⊢
  have hl : lv_has ls 4 [(0, .ref h), (1, .int (nI w)), (2, .ref ob)] := hl
  refine lv_aload_n hx hb dL_pass_0 rfl (lv_at hl 2 rfl) ?_
  refine lv_iconst (v := nI 0) hx hb dL_pass_1 (by decide) ?_
  refine lv_aload_n hx hb dL_pass_2 rfl (lv_at hl 0 rfl) ?_
  refine lv_iload_n hx hb dL_pass_3 rfl (lv_at hl 1 rfl) ?_
  refine q_wcallFI (wb := [(ob, .inl (cJ, 1, .inr (.inl f)))]) (r := nI (td + w)) (wa' := (hW h ad cI cZ ex pa di qu gc dg dp dv dd ds dc (td + w) (stl ho ds dd dp (td + w) dc) ak se pr)) (va_runV (As := [.int (nI w)]) (rest := [.int (nI 0), .ref ob]) ⟨hx, hb, hml, hown, hts⟩ (kX0_pass l D h ad cI cZ ex pa di qu gc dg dp dv dd ds dc td ho ak se pr _ w hw1 hw2 htw hdc htd hdp hdd hds) (cwV 1 hts gL_pass_X0_pass rfl rfl rfl (by decide +kernel) ⟨Nat.le_of_ble_eq_true rfl, Nat.le_of_ble_eq_true rfl⟩) ⟨wP_blind, va_recv hKh (va_Pl hP) (ci := 0) (q0 := 0) rfl rfl, wP_pre (va_Pl hP) hKh (va_Dl hD)⟩ rfl rfl hl.1 rfl (lv_room (Nat.le_of_ble_eq_true rfl)) dL_pass_4 ⟨Nat.zero_le _, Nat.zero_le _⟩) hP hD hS hA rfl (fun H locs hP hD hS => ?_)
  refine lv_i2l (v := lN (td + w)) hx hb dL_pass_7 (nI_l hret) ?_
  refine q_ost hx hb hK hP hD hS 14 2 rfl rfl dL_pass_8 (fun H locs hP hD hS => ?_)
  have hP : va_P D vwCl ((hW h ad cI cZ ex pa di qu gc dg dp dv dd ds dc (td + w) (stl ho ds dd dp (td + w) dc) ak se pr) ++ [(ob, .inl (cJ, 1, .inr (.inl (vp_updL f 0 (lN (td + w))))))]) H := hP
  refine lv_goto (tgt := 15) hx hb dL_pass_9 (by decide) ?_
  refine lv_iconst (v := nI 0) hx hb dL_pass_15 (by decide) ?_
  exact q_wretI hx hb hr hlocks hAe hP hS rfl dL_pass_16

set_option maxHeartbeats 4000000 in
set_option maxRecDepth 100000 in
theorem kL_passXA (l : Launch) (D : va_G) (h : Nat) (ad : Nat → Nat) (cI cZ : ClassId) (ex : Nat → Bool) (pa : Nat → Option Nat) (di : Nat → Nat) (qu : Nat → Nat) (gc : Nat) (dg : Nat → Nat) (dp : Nat → Nat) (dv : Nat → Option Nat) (dd : Nat → Nat) (ds : Nat → Nat) (dc : Nat) (td : Nat) (ho : Nat → Option Nat) (ak : Nat → Bool) (se : Nat → Option Nat) (pr : Nat → Option Nat) (hlf : l.stackTraces = false) (ob : Nat) (w : Int32) (hw : w < nI 1 ∨ nI 100 < w) : Met l yL_pass wsL_pass ({ frames := 7, cells := 1, slots := 6, locals := 103 } : Room) (tN D (hW h ad cI cZ ex pa di qu gc dg dp dv dd ds dc td ho ak se pr) (hT cI cZ) [.ref h, .int w, .ref ob]) (eQ 1) 1 6 nF := by
  refine mt_ofWH (cc := cL_pass) (maxL := 4) (ret := (some .int)) (by decide) rfl ?_
  intro p e s m args below meth c s₁ B hml htab hv
  obtain ⟨rfl, hP, hK, hE, hN⟩ := hv
  have hx := B.exec
  have hb := B.bytes
  have hr := B.returns
  have hts := atoms_spec (ws := wsL_pass) B.pre
  have hown : s.vm.findClass RL = some m.cls := findClass_of_methodNamed B.named
  have hlocks := B.notSynchronized
  have hl := lv_entry ([.ref h, .int w, .ref ob]) (n := 4) (Nat.le_of_ble_eq_true rfl)
  rw [lg_entry_eq]
  generalize (lg_sl ([.ref h, .int w, .ref ob]) ++ List.replicate (4 - (lg_sl ([.ref h, .int w, .ref ob])).length) Slot.unset).toArray = ls at hl ⊢
  have hl : lv_has ls 4 [(0, .ref h), (1, .int w), (2, .ref ob)] := hl
  refine lv_aload_n hx hb dL_pass_0 rfl (lv_at hl 2 rfl) ?_
  refine lv_iconst (v := nI 0) hx hb dL_pass_1 (by decide) ?_
  refine lv_aload_n hx hb dL_pass_2 rfl (lv_at hl 0 rfl) ?_
  refine lv_iload_n hx hb dL_pass_3 rfl (lv_at hl 1 rfl) ?_
  refine q_catch (vx_runV (As := [.int w]) (rest := [.int (nI 0), .ref ob]) ⟨hx, hb, hml, hown, hts⟩ (kX0_passXA l D h ad cI cZ ex pa di qu gc dg dp dv dd ds dc td ho ak se pr hlf w hw) (cwV 1 hts gL_pass_X0_pass rfl rfl rfl (by decide +kernel) ⟨Nat.le_of_ble_eq_true rfl, Nat.le_of_ble_eq_true rfl⟩) ⟨tP_blind, va_recv hK hP (ci := 0) (q0 := 0) rfl rfl, tP_pre hP hK hE⟩ rfl rfl hl.1 rfl (lv_room (Nat.le_of_ble_eq_true rfl)) dL_pass_4 ⟨Nat.le_of_ble_eq_true rfl, Nat.le_of_ble_eq_true rfl⟩) (fun H ce q9 h1 h2 h3 h4 h5 => ?_)
  obtain ⟨t0, ht0, htab⟩ := tab_c htab
  refine vx_catch (own := RL) (name := "java/lang/IllegalArgumentException") (E := "java/lang/IllegalArgumentException") hown [] ⟨0, 9, 12, 29⟩ t0 ht0 (fun z hz => by cases hz) (by decide) (by decide) (hts (.classLink RL 29 "java/lang/IllegalArgumentException") (by decide +kernel)) (va_Nw.use rfl (hE.2.2.2.1 "java/lang/IllegalArgumentException" (by decide))) h3 h4 h5 ?_
  refine lv_astore_n (lv' := [(3, .ref q9), (0, .ref h), (1, .int w), (2, .ref ob)]) hx hb dL_pass_12 rfl hl (by decide) rfl (fun ls hl => ?_)
  refine lv_iconst (v := nI 1) hx hb dL_pass_13 (by decide) ?_
  exact q_eret hx hb hr hlocks h1 h2 dL_pass_14

set_option maxHeartbeats 4000000 in
set_option maxRecDepth 100000 in
theorem kL_value (l : Launch) (D : va_G) (h : Nat) (ad : Nat → Nat) (cI cZ : ClassId) (ex : Nat → Bool) (pa : Nat → Option Nat) (di : Nat → Nat) (qu : Nat → Nat) (gc : Nat) (dg : Nat → Nat) (dp : Nat → Nat) (dv : Nat → Option Nat) (dd : Nat → Nat) (ds : Nat → Nat) (dc : Nat) (td : Nat) (ho : Nat → Option Nat) (ak : Nat → Bool) (se : Nat → Option Nat) (pr : Nat → Option Nat) (cJ : ClassId) (ob : Nat) (f : Nat → Int64) (sz : Nat) (g a sp tp : Nat) (hg : g < 16) (ha : a < 6) (hs : sp < 3) (ht : tp < 3) (he : ex g = true) (hpr : PR pa) (hho : HO ho dc) (hdc : dc ≤ 200) (hdv : DV dv dc) (hnv : vlu ex pa ho dv a (sp + 1) (tp + 1) g ≠ none) (hret : ∀ k, vlu ex pa ho dv a (sp + 1) (tp + 1) g = some k → k < 2 ^ 31) : Met l yL_value wsL_value ({ frames := 5, cells := 0, slots := 0, locals := 127 } : Room) (wP D ((hW h ad cI cZ ex pa di qu gc dg dp dv dd ds dc td ho ak se pr) ++ [(ob, .inl (cJ, 1, .inr (.inl f)))]) (mT cI cJ cZ) [.ref h, .int (nI g), .int (nI a), .int (nI sp), .int (nI tp), .ref ob] sz) (wQ D ((hW h ad cI cZ ex pa di qu gc dg dp dv dd ds dc td ho ak se pr) ++ [(ob, .inl (cJ, 1, .inr (.inl f)))]) ((hW h ad cI cZ ex pa di qu gc dg dp dv dd ds dc td ho ak se pr) ++ [(ob, .inl (cJ, 1, .inr (.inl (vp_updL f 0 (oL (vlu ex pa ho dv a (sp + 1) (tp + 1) g))))))]) (some (.int (nI 0)))) 0 0 (va_A ((hW h ad cI cZ ex pa di qu gc dg dp dv dd ds dc td ho ak se pr) ++ [(ob, .inl (cJ, 1, .inr (.inl f)))]) sz) := by
  refine mt_ofWH (cc := cL_value) (maxL := 7) (ret := (some .int)) (by decide) rfl ?_
  intro p e s m args below meth c s₁ B hml htab hv
  obtain ⟨rfl, hsz, hP, hK, hD0⟩ := hv
  have hx := B.exec
  have hb := B.bytes
  have hr := B.returns
  have hts := atoms_spec (ws := wsL_value) B.pre
  have hown : s.vm.findClass RL = some m.cls := findClass_of_methodNamed B.named
  have hlocks := B.notSynchronized
  subst hsz
  have hD := hD0.self (sz := s.heap.size)
  generalize hAe : va_A ((hW h ad cI cZ ex pa di qu gc dg dp dv dd ds dc td ho ak se pr) ++ [(ob, .inl (cJ, 1, .inr (.inl f)))]) s.heap.size = A at hD ⊢
  have hA : ∀ q : Nat, s.heap.size ≤ q → A q := fun q h => by rw [← hAe]; exact Or.inr h
  have hS : va_S A s.heap s.heap [] := va_S.rf
  have hKh : va_K D vwCl (hT cI cZ) s := hK.sub [0, 1] rfl
  have hl := lv_entry ([.ref h, .int (nI g), .int (nI a), .int (nI sp), .int (nI tp), .ref ob]) (n := 7) (Nat.le_of_ble_eq_true rfl)
  rw [lg_entry_eq]
  generalize (lg_sl ([.ref h, .int (nI g), .int (nI a), .int (nI sp), .int (nI tp), .ref ob]) ++ List.replicate (7 - (lg_sl ([.ref h, .int (nI g), .int (nI a), .int (nI sp), .int (nI tp), .ref ob])).length) Slot.unset).toArray = ls at hl ⊢
  have hl : lv_has ls 7 [(0, .ref h), (1, .int (nI g)), (2, .int (nI a)), (3, .int (nI sp)), (4, .int (nI tp)), (5, .ref ob)] := hl
  refine lv_aload hx hb dL_value_0 (lv_at hl 5 rfl) ?_
  refine lv_iconst (v := nI 0) hx hb dL_value_2 (by decide) ?_
  refine lv_aload_n hx hb dL_value_3 rfl (lv_at hl 0 rfl) ?_
  refine lv_iload_n hx hb dL_value_4 rfl (lv_at hl 1 rfl) ?_
  refine lv_iload_n hx hb dL_value_5 rfl (lv_at hl 2 rfl) ?_
  refine lv_iload_n hx hb dL_value_6 rfl (lv_at hl 3 rfl) ?_
  refine lv_iload hx hb dL_value_7 (lv_at hl 4 rfl) ?_
  refine q_callI (r := oI (vlu ex pa ho dv a (sp + 1) (tp + 1) g)) (va_runV (As := [.int (nI g), .int (nI a), .int (nI sp), .int (nI tp)]) (rest := [.int (nI 0), .ref ob]) ⟨hx, hb, hml, hown, hts⟩ (kX0_value l D h ad cI cZ ex pa di qu gc dg dp dv dd ds dc td ho ak se pr g a sp tp hg ha hs ht he hpr hho hdc hdv hnv) (cwV 4 hts gL_value_X0_value rfl rfl rfl (by decide +kernel) ⟨Nat.le_of_ble_eq_true rfl, Nat.le_of_ble_eq_true rfl⟩) ⟨pP_blind, va_recv hKh (va_Pl hP) (ci := 0) (q0 := 0) rfl rfl, pP_pre (va_Pl hP) hKh⟩ rfl rfl hl.1 rfl (lv_room (Nat.le_of_ble_eq_true rfl)) dL_value_9 ⟨Nat.zero_le _, Nat.zero_le _⟩) ?_
  refine lv_i2l (v := oL (vlu ex pa ho dv a (sp + 1) (tp + 1) g)) hx hb dL_value_12 (oI_l hret) ?_
  refine q_ost hx hb hK hP hD hS 14 2 rfl rfl dL_value_13 (fun H locs hP hD hS => ?_)
  have hP : va_P D vwCl ((hW h ad cI cZ ex pa di qu gc dg dp dv dd ds dc td ho ak se pr) ++ [(ob, .inl (cJ, 1, .inr (.inl (vp_updL f 0 (oL (vlu ex pa ho dv a (sp + 1) (tp + 1) g))))))]) H := hP
  refine lv_goto (tgt := 25) hx hb dL_value_14 (by decide) ?_
  refine lv_iconst (v := nI 0) hx hb dL_value_25 (by decide) ?_
  exact q_wretI hx hb hr hlocks hAe hP hS rfl dL_value_26

set_option maxHeartbeats 4000000 in
set_option maxRecDepth 100000 in
theorem kL_valueXI (l : Launch) (D : va_G) (h : Nat) (ad : Nat → Nat) (cI cZ : ClassId) (ex : Nat → Bool) (pa : Nat → Option Nat) (di : Nat → Nat) (qu : Nat → Nat) (gc : Nat) (dg : Nat → Nat) (dp : Nat → Nat) (dv : Nat → Option Nat) (dd : Nat → Nat) (ds : Nat → Nat) (dc : Nat) (td : Nat) (ho : Nat → Option Nat) (ak : Nat → Bool) (se : Nat → Option Nat) (pr : Nat → Option Nat) (hlf : l.stackTraces = false) (ob : Nat) (g a x y : Int32) (hs : (gBad ex g ∨ ∃ j, j < 16 ∧ g = nI j ∧ ex j = true ∧ (aBad 6 a ∨ ∃ a2, a2 < 6 ∧ a = nI a2 ∧ (aBad 3 x ∨ ∃ x2, x2 < 3 ∧ x = nI x2 ∧ aBad 3 y)))) : Met l yL_value wsL_value ({ frames := 9, cells := 1, slots := 6, locals := 152 } : Room) (tN D (hW h ad cI cZ ex pa di qu gc dg dp dv dd ds dc td ho ak se pr) (hT cI cZ) [.ref h, .int g, .int a, .int x, .int y, .ref ob]) (eQ 1) 1 6 nF := by
  refine mt_ofWH (cc := cL_value) (maxL := 7) (ret := (some .int)) (by decide) rfl ?_
  intro p e s m args below meth c s₁ B hml htab hv
  obtain ⟨rfl, hP, hK, hE, hN⟩ := hv
  have hx := B.exec
  have hb := B.bytes
  have hr := B.returns
  have hts := atoms_spec (ws := wsL_value) B.pre
  have hown : s.vm.findClass RL = some m.cls := findClass_of_methodNamed B.named
  have hlocks := B.notSynchronized
  have hl := lv_entry ([.ref h, .int g, .int a, .int x, .int y, .ref ob]) (n := 7) (Nat.le_of_ble_eq_true rfl)
  rw [lg_entry_eq]
  generalize (lg_sl ([.ref h, .int g, .int a, .int x, .int y, .ref ob]) ++ List.replicate (7 - (lg_sl ([.ref h, .int g, .int a, .int x, .int y, .ref ob])).length) Slot.unset).toArray = ls at hl ⊢
  have hl : lv_has ls 7 [(0, .ref h), (1, .int g), (2, .int a), (3, .int x), (4, .int y), (5, .ref ob)] := hl
  refine lv_aload hx hb dL_value_0 (lv_at hl 5 rfl) ?_
  refine lv_iconst (v := nI 0) hx hb dL_value_2 (by decide) ?_
  refine lv_aload_n hx hb dL_value_3 rfl (lv_at hl 0 rfl) ?_
  refine lv_iload_n hx hb dL_value_4 rfl (lv_at hl 1 rfl) ?_
  refine lv_iload_n hx hb dL_value_5 rfl (lv_at hl 2 rfl) ?_
  refine lv_iload_n hx hb dL_value_6 rfl (lv_at hl 3 rfl) ?_
  refine lv_iload hx hb dL_value_7 (lv_at hl 4 rfl) ?_
  refine q_catch (vx_runV (As := [.int g, .int a, .int x, .int y]) (rest := [.int (nI 0), .ref ob]) ⟨hx, hb, hml, hown, hts⟩ (kX0_valueXI l D h ad cI cZ ex pa di qu gc dg dp dv dd ds dc td ho ak se pr hlf g a x y hs) (cwV 4 hts gL_value_X0_value rfl rfl rfl (by decide +kernel) ⟨Nat.le_of_ble_eq_true rfl, Nat.le_of_ble_eq_true rfl⟩) ⟨tP_blind, va_recv hK hP (ci := 0) (q0 := 0) rfl rfl, tP_pre hP hK hE⟩ rfl rfl hl.1 rfl (lv_room (Nat.le_of_ble_eq_true rfl)) dL_value_9 ⟨Nat.le_of_ble_eq_true rfl, Nat.le_of_ble_eq_true rfl⟩) (fun H ce q9 h1 h2 h3 h4 h5 => ?_)
  obtain ⟨t0, ht0, htab⟩ := tab_c htab
  refine vx_catch (own := RL) (name := "java/lang/IndexOutOfBoundsException") (E := "java/lang/IndexOutOfBoundsException") hown [] ⟨0, 14, 17, 13⟩ t0 ht0 (fun z hz => by cases hz) (by decide) (by decide) (hts (.classLink RL 13 "java/lang/IndexOutOfBoundsException") (by decide +kernel)) (va_Nw.use rfl (hE.2.2.2.1 "java/lang/IndexOutOfBoundsException" (by decide))) h3 h4 h5 ?_
  refine lv_astore (lv' := [(6, .ref q9), (0, .ref h), (1, .int g), (2, .int a), (3, .int x), (4, .int y), (5, .ref ob)]) hx hb dL_value_17 hl (by decide) rfl (fun ls hl => ?_)
  refine lv_iconst (v := nI 1) hx hb dL_value_19 (by decide) ?_
  exact q_eret hx hb hr hlocks h1 h2 dL_value_20

set_option maxHeartbeats 4000000 in
set_option maxRecDepth 100000 in
theorem kL_valueXS (l : Launch) (D : va_G) (h : Nat) (ad : Nat → Nat) (cI cZ : ClassId) (ex : Nat → Bool) (pa : Nat → Option Nat) (di : Nat → Nat) (qu : Nat → Nat) (gc : Nat) (dg : Nat → Nat) (dp : Nat → Nat) (dv : Nat → Option Nat) (dd : Nat → Nat) (ds : Nat → Nat) (dc : Nat) (td : Nat) (ho : Nat → Option Nat) (ak : Nat → Bool) (se : Nat → Option Nat) (pr : Nat → Option Nat) (hlf : l.stackTraces = false) (ob : Nat) (g a sp tp : Nat) (hg : g < 16) (ha : a < 6) (hs : sp < 3) (ht : tp < 3) (he : ex g = true) (hpr : PR pa) (hho : HO ho dc) (hdc : dc ≤ 200) (hdv : DV dv dc) (hnv : vlu ex pa ho dv a (sp + 1) (tp + 1) g = none) : Met l yL_value wsL_value ({ frames := 7, cells := 1, slots := 6, locals := 127 } : Room) (tN D (hW h ad cI cZ ex pa di qu gc dg dp dv dd ds dc td ho ak se pr) (hT cI cZ) [.ref h, .int (nI g), .int (nI a), .int (nI sp), .int (nI tp), .ref ob]) (eQ 2) 1 6 nF := by
  refine mt_ofWH (cc := cL_value) (maxL := 7) (ret := (some .int)) (by decide) rfl ?_
  intro p e s m args below meth c s₁ B hml htab hv
  obtain ⟨rfl, hP, hK, hE, hN⟩ := hv
  have hx := B.exec
  have hb := B.bytes
  have hr := B.returns
  have hts := atoms_spec (ws := wsL_value) B.pre
  have hown : s.vm.findClass RL = some m.cls := findClass_of_methodNamed B.named
  have hlocks := B.notSynchronized
  have hl := lv_entry ([.ref h, .int (nI g), .int (nI a), .int (nI sp), .int (nI tp), .ref ob]) (n := 7) (Nat.le_of_ble_eq_true rfl)
  rw [lg_entry_eq]
  generalize (lg_sl ([.ref h, .int (nI g), .int (nI a), .int (nI sp), .int (nI tp), .ref ob]) ++ List.replicate (7 - (lg_sl ([.ref h, .int (nI g), .int (nI a), .int (nI sp), .int (nI tp), .ref ob])).length) Slot.unset).toArray = ls at hl ⊢
  have hl : lv_has ls 7 [(0, .ref h), (1, .int (nI g)), (2, .int (nI a)), (3, .int (nI sp)), (4, .int (nI tp)), (5, .ref ob)] := hl
  refine lv_aload hx hb dL_value_0 (lv_at hl 5 rfl) ?_
  refine lv_iconst (v := nI 0) hx hb dL_value_2 (by decide) ?_
  refine lv_aload_n hx hb dL_value_3 rfl (lv_at hl 0 rfl) ?_
  refine lv_iload_n hx hb dL_value_4 rfl (lv_at hl 1 rfl) ?_
  refine lv_iload_n hx hb dL_value_5 rfl (lv_at hl 2 rfl) ?_
  refine lv_iload_n hx hb dL_value_6 rfl (lv_at hl 3 rfl) ?_
  refine lv_iload hx hb dL_value_7 (lv_at hl 4 rfl) ?_
  refine q_catch (vx_runV (As := [.int (nI g), .int (nI a), .int (nI sp), .int (nI tp)]) (rest := [.int (nI 0), .ref ob]) ⟨hx, hb, hml, hown, hts⟩ (kX0_valueXS l D h ad cI cZ ex pa di qu gc dg dp dv dd ds dc td ho ak se pr hlf g a sp tp hg ha hs ht he hpr hho hdc hdv hnv) (cwV 4 hts gL_value_X0_value rfl rfl rfl (by decide +kernel) ⟨Nat.le_of_ble_eq_true rfl, Nat.le_of_ble_eq_true rfl⟩) ⟨tP_blind, va_recv hK hP (ci := 0) (q0 := 0) rfl rfl, tP_pre hP hK hE⟩ rfl rfl hl.1 rfl (lv_room (Nat.le_of_ble_eq_true rfl)) dL_value_9 ⟨Nat.le_of_ble_eq_true rfl, Nat.le_of_ble_eq_true rfl⟩) (fun H ce q9 h1 h2 h3 h4 h5 => ?_)
  obtain ⟨t0, ht0, htab⟩ := tab_c htab
  obtain ⟨t1, ht1, htab⟩ := tab_c htab
  refine vx_catch (own := RL) (name := "java/lang/IllegalStateException") (E := "java/lang/IllegalStateException") hown [⟨0, 14, 17, 13⟩] ⟨0, 14, 21, 15⟩ t1 (ht0.trans (congrArg (List.cons ⟨0, 14, 17, 13⟩) ht1)) (fun z hz => by
    simp only [List.mem_cons, List.not_mem_nil, or_false] at hz
    subst hz
    exact Or.inr ⟨by decide, "java/lang/IndexOutOfBoundsException", hts (.classLink RL 13 "java/lang/IndexOutOfBoundsException") (by decide +kernel), hN.1⟩) (by decide) (by decide) (hts (.classLink RL 15 "java/lang/IllegalStateException") (by decide +kernel)) (va_Nw.use rfl (hE.2.2.2.1 "java/lang/IllegalStateException" (by decide))) h3 h4 h5 ?_
  refine lv_astore (lv' := [(6, .ref q9), (0, .ref h), (1, .int (nI g)), (2, .int (nI a)), (3, .int (nI sp)), (4, .int (nI tp)), (5, .ref ob)]) hx hb dL_value_21 hl (by decide) rfl (fun ls hl => ?_)
  refine lv_iconst (v := nI 2) hx hb dL_value_23 (by decide) ?_
  exact q_eret hx hb hr hlocks h1 h2 dL_value_24

set_option maxHeartbeats 4000000 in
set_option maxRecDepth 100000 in
theorem kL_origin (l : Launch) (D : va_G) (h : Nat) (ad : Nat → Nat) (cI cZ : ClassId) (ex : Nat → Bool) (pa : Nat → Option Nat) (di : Nat → Nat) (qu : Nat → Nat) (gc : Nat) (dg : Nat → Nat) (dp : Nat → Nat) (dv : Nat → Option Nat) (dd : Nat → Nat) (ds : Nat → Nat) (dc : Nat) (td : Nat) (ho : Nat → Option Nat) (ak : Nat → Bool) (se : Nat → Option Nat) (pr : Nat → Option Nat) (cJ : ClassId) (ob : Nat) (f : Nat → Int64) (sz : Nat) (g a sp tp : Nat) (hg : g < 16) (ha : a < 6) (hs : sp < 3) (ht : tp < 3) (he : ex g = true) (hpr : PR pa) (hho : HO ho dc) (hdc : dc ≤ 200) (hret : ∀ k, org ex pa ho a (sp + 1) (tp + 1) 3 (some g) = some k → k < 2 ^ 31) : Met l yL_origin wsL_origin ({ frames := 4, cells := 0, slots := 0, locals := 101 } : Room) (wP D ((hW h ad cI cZ ex pa di qu gc dg dp dv dd ds dc td ho ak se pr) ++ [(ob, .inl (cJ, 1, .inr (.inl f)))]) (mT cI cJ cZ) [.ref h, .int (nI g), .int (nI a), .int (nI sp), .int (nI tp), .ref ob] sz) (wQ D ((hW h ad cI cZ ex pa di qu gc dg dp dv dd ds dc td ho ak se pr) ++ [(ob, .inl (cJ, 1, .inr (.inl f)))]) ((hW h ad cI cZ ex pa di qu gc dg dp dv dd ds dc td ho ak se pr) ++ [(ob, .inl (cJ, 1, .inr (.inl (vp_updL f 0 (oL (org ex pa ho a (sp + 1) (tp + 1) 3 (some g)))))))]) (some (.int (nI 0)))) 0 0 (va_A ((hW h ad cI cZ ex pa di qu gc dg dp dv dd ds dc td ho ak se pr) ++ [(ob, .inl (cJ, 1, .inr (.inl f)))]) sz) := by
  refine mt_ofWH (cc := cL_origin) (maxL := 7) (ret := (some .int)) (by decide) rfl ?_
  intro p e s m args below meth c s₁ B hml htab hv
  obtain ⟨rfl, hsz, hP, hK, hD0⟩ := hv
  have hx := B.exec
  have hb := B.bytes
  have hr := B.returns
  have hts := atoms_spec (ws := wsL_origin) B.pre
  have hown : s.vm.findClass RL = some m.cls := findClass_of_methodNamed B.named
  have hlocks := B.notSynchronized
  subst hsz
  have hD := hD0.self (sz := s.heap.size)
  generalize hAe : va_A ((hW h ad cI cZ ex pa di qu gc dg dp dv dd ds dc td ho ak se pr) ++ [(ob, .inl (cJ, 1, .inr (.inl f)))]) s.heap.size = A at hD ⊢
  have hA : ∀ q : Nat, s.heap.size ≤ q → A q := fun q h => by rw [← hAe]; exact Or.inr h
  have hS : va_S A s.heap s.heap [] := va_S.rf
  have hKh : va_K D vwCl (hT cI cZ) s := hK.sub [0, 1] rfl
  have hl := lv_entry ([.ref h, .int (nI g), .int (nI a), .int (nI sp), .int (nI tp), .ref ob]) (n := 7) (Nat.le_of_ble_eq_true rfl)
  rw [lg_entry_eq]
  generalize (lg_sl ([.ref h, .int (nI g), .int (nI a), .int (nI sp), .int (nI tp), .ref ob]) ++ List.replicate (7 - (lg_sl ([.ref h, .int (nI g), .int (nI a), .int (nI sp), .int (nI tp), .ref ob])).length) Slot.unset).toArray = ls at hl ⊢
  have hl : lv_has ls 7 [(0, .ref h), (1, .int (nI g)), (2, .int (nI a)), (3, .int (nI sp)), (4, .int (nI tp)), (5, .ref ob)] := hl
  refine lv_aload hx hb dL_origin_0 (lv_at hl 5 rfl) ?_
  refine lv_iconst (v := nI 0) hx hb dL_origin_2 (by decide) ?_
  refine lv_aload_n hx hb dL_origin_3 rfl (lv_at hl 0 rfl) ?_
  refine lv_iload_n hx hb dL_origin_4 rfl (lv_at hl 1 rfl) ?_
  refine lv_iload_n hx hb dL_origin_5 rfl (lv_at hl 2 rfl) ?_
  refine lv_iload_n hx hb dL_origin_6 rfl (lv_at hl 3 rfl) ?_
  refine lv_iload hx hb dL_origin_7 (lv_at hl 4 rfl) ?_
  refine q_callI (r := oI (org ex pa ho a (sp + 1) (tp + 1) 3 (some g))) (va_runV (As := [.int (nI g), .int (nI a), .int (nI sp), .int (nI tp)]) (rest := [.int (nI 0), .ref ob]) ⟨hx, hb, hml, hown, hts⟩ (kX0_origin l D h ad cI cZ ex pa di qu gc dg dp dv dd ds dc td ho ak se pr g a sp tp hg ha hs ht he hpr hho hdc) (cwV 4 hts gL_origin_X0_origin rfl rfl rfl (by decide +kernel) ⟨Nat.le_of_ble_eq_true rfl, Nat.le_of_ble_eq_true rfl⟩) ⟨pP_blind, va_recv hKh (va_Pl hP) (ci := 0) (q0 := 0) rfl rfl, pP_pre (va_Pl hP) hKh⟩ rfl rfl hl.1 rfl (lv_room (Nat.le_of_ble_eq_true rfl)) dL_origin_9 ⟨Nat.zero_le _, Nat.zero_le _⟩) ?_
  refine lv_i2l (v := oL (org ex pa ho a (sp + 1) (tp + 1) 3 (some g))) hx hb dL_origin_12 (oI_l hret) ?_
  refine q_ost hx hb hK hP hD hS 14 2 rfl rfl dL_origin_13 (fun H locs hP hD hS => ?_)
  have hP : va_P D vwCl ((hW h ad cI cZ ex pa di qu gc dg dp dv dd ds dc td ho ak se pr) ++ [(ob, .inl (cJ, 1, .inr (.inl (vp_updL f 0 (oL (org ex pa ho a (sp + 1) (tp + 1) 3 (some g)))))))]) H := hP
  refine lv_goto (tgt := 21) hx hb dL_origin_14 (by decide) ?_
  refine lv_iconst (v := nI 0) hx hb dL_origin_21 (by decide) ?_
  exact q_wretI hx hb hr hlocks hAe hP hS rfl dL_origin_22

set_option maxHeartbeats 4000000 in
set_option maxRecDepth 100000 in
theorem kL_originXI (l : Launch) (D : va_G) (h : Nat) (ad : Nat → Nat) (cI cZ : ClassId) (ex : Nat → Bool) (pa : Nat → Option Nat) (di : Nat → Nat) (qu : Nat → Nat) (gc : Nat) (dg : Nat → Nat) (dp : Nat → Nat) (dv : Nat → Option Nat) (dd : Nat → Nat) (ds : Nat → Nat) (dc : Nat) (td : Nat) (ho : Nat → Option Nat) (ak : Nat → Bool) (se : Nat → Option Nat) (pr : Nat → Option Nat) (hlf : l.stackTraces = false) (ob : Nat) (g a x y : Int32) (hs : (gBad ex g ∨ ∃ j, j < 16 ∧ g = nI j ∧ ex j = true ∧ (aBad 6 a ∨ ∃ a2, a2 < 6 ∧ a = nI a2 ∧ (aBad 3 x ∨ ∃ x2, x2 < 3 ∧ x = nI x2 ∧ aBad 3 y)))) : Met l yL_origin wsL_origin ({ frames := 9, cells := 1, slots := 6, locals := 151 } : Room) (tN D (hW h ad cI cZ ex pa di qu gc dg dp dv dd ds dc td ho ak se pr) (hT cI cZ) [.ref h, .int g, .int a, .int x, .int y, .ref ob]) (eQ 1) 1 6 nF := by
  refine mt_ofWH (cc := cL_origin) (maxL := 7) (ret := (some .int)) (by decide) rfl ?_
  intro p e s m args below meth c s₁ B hml htab hv
  obtain ⟨rfl, hP, hK, hE, hN⟩ := hv
  have hx := B.exec
  have hb := B.bytes
  have hr := B.returns
  have hts := atoms_spec (ws := wsL_origin) B.pre
  have hown : s.vm.findClass RL = some m.cls := findClass_of_methodNamed B.named
  have hlocks := B.notSynchronized
  have hl := lv_entry ([.ref h, .int g, .int a, .int x, .int y, .ref ob]) (n := 7) (Nat.le_of_ble_eq_true rfl)
  rw [lg_entry_eq]
  generalize (lg_sl ([.ref h, .int g, .int a, .int x, .int y, .ref ob]) ++ List.replicate (7 - (lg_sl ([.ref h, .int g, .int a, .int x, .int y, .ref ob])).length) Slot.unset).toArray = ls at hl ⊢
  have hl : lv_has ls 7 [(0, .ref h), (1, .int g), (2, .int a), (3, .int x), (4, .int y), (5, .ref ob)] := hl
  refine lv_aload hx hb dL_origin_0 (lv_at hl 5 rfl) ?_
  refine lv_iconst (v := nI 0) hx hb dL_origin_2 (by decide) ?_
  refine lv_aload_n hx hb dL_origin_3 rfl (lv_at hl 0 rfl) ?_
  refine lv_iload_n hx hb dL_origin_4 rfl (lv_at hl 1 rfl) ?_
  refine lv_iload_n hx hb dL_origin_5 rfl (lv_at hl 2 rfl) ?_
  refine lv_iload_n hx hb dL_origin_6 rfl (lv_at hl 3 rfl) ?_
  refine lv_iload hx hb dL_origin_7 (lv_at hl 4 rfl) ?_
  refine q_catch (vx_runV (As := [.int g, .int a, .int x, .int y]) (rest := [.int (nI 0), .ref ob]) ⟨hx, hb, hml, hown, hts⟩ (kX0_originXI l D h ad cI cZ ex pa di qu gc dg dp dv dd ds dc td ho ak se pr hlf g a x y hs) (cwV 4 hts gL_origin_X0_origin rfl rfl rfl (by decide +kernel) ⟨Nat.le_of_ble_eq_true rfl, Nat.le_of_ble_eq_true rfl⟩) ⟨tP_blind, va_recv hK hP (ci := 0) (q0 := 0) rfl rfl, tP_pre hP hK hE⟩ rfl rfl hl.1 rfl (lv_room (Nat.le_of_ble_eq_true rfl)) dL_origin_9 ⟨Nat.le_of_ble_eq_true rfl, Nat.le_of_ble_eq_true rfl⟩) (fun H ce q9 h1 h2 h3 h4 h5 => ?_)
  obtain ⟨t0, ht0, htab⟩ := tab_c htab
  refine vx_catch (own := RL) (name := "java/lang/IndexOutOfBoundsException") (E := "java/lang/IndexOutOfBoundsException") hown [] ⟨0, 14, 17, 13⟩ t0 ht0 (fun z hz => by cases hz) (by decide) (by decide) (hts (.classLink RL 13 "java/lang/IndexOutOfBoundsException") (by decide +kernel)) (va_Nw.use rfl (hE.2.2.2.1 "java/lang/IndexOutOfBoundsException" (by decide))) h3 h4 h5 ?_
  refine lv_astore (lv' := [(6, .ref q9), (0, .ref h), (1, .int g), (2, .int a), (3, .int x), (4, .int y), (5, .ref ob)]) hx hb dL_origin_17 hl (by decide) rfl (fun ls hl => ?_)
  refine lv_iconst (v := nI 1) hx hb dL_origin_19 (by decide) ?_
  exact q_eret hx hb hr hlocks h1 h2 dL_origin_20

set_option maxHeartbeats 4000000 in
set_option maxRecDepth 100000 in
theorem kL_told (l : Launch) (D : va_G) (h : Nat) (ad : Nat → Nat) (cI cZ : ClassId) (ex : Nat → Bool) (pa : Nat → Option Nat) (di : Nat → Nat) (qu : Nat → Nat) (gc : Nat) (dg : Nat → Nat) (dp : Nat → Nat) (dv : Nat → Option Nat) (dd : Nat → Nat) (ds : Nat → Nat) (dc : Nat) (td : Nat) (ho : Nat → Option Nat) (ak : Nat → Bool) (se : Nat → Option Nat) (pr : Nat → Option Nat) (cJ : ClassId) (ob : Nat) (f : Nat → Int64) (sz : Nat) (g : Nat) (hg : g < 16) (he : ex g = true) (hho : HO ho dc) (hdc : dc ≤ 200) (hret : cnt (fun j => decide (ho (g * 96 + j) ≠ none)) 96 < 2147483648) : Met l yL_told wsL_told ({ frames := 3, cells := 0, slots := 0, locals := 66 } : Room) (wP D ((hW h ad cI cZ ex pa di qu gc dg dp dv dd ds dc td ho ak se pr) ++ [(ob, .inl (cJ, 1, .inr (.inl f)))]) (mT cI cJ cZ) [.ref h, .int (nI g), .ref ob] sz) (wQ D ((hW h ad cI cZ ex pa di qu gc dg dp dv dd ds dc td ho ak se pr) ++ [(ob, .inl (cJ, 1, .inr (.inl f)))]) ((hW h ad cI cZ ex pa di qu gc dg dp dv dd ds dc td ho ak se pr) ++ [(ob, .inl (cJ, 1, .inr (.inl (vp_updL f 0 (lN (cnt (fun j => decide (ho (g * 96 + j) ≠ none)) 96))))))]) (some (.int (nI 0)))) 0 0 (va_A ((hW h ad cI cZ ex pa di qu gc dg dp dv dd ds dc td ho ak se pr) ++ [(ob, .inl (cJ, 1, .inr (.inl f)))]) sz) := by
  refine mt_ofWH (cc := cL_told) (maxL := 4) (ret := (some .int)) (by decide) rfl ?_
  intro p e s m args below meth c s₁ B hml htab hv
  obtain ⟨rfl, hsz, hP, hK, hD0⟩ := hv
  have hx := B.exec
  have hb := B.bytes
  have hr := B.returns
  have hts := atoms_spec (ws := wsL_told) B.pre
  have hown : s.vm.findClass RL = some m.cls := findClass_of_methodNamed B.named
  have hlocks := B.notSynchronized
  subst hsz
  have hD := hD0.self (sz := s.heap.size)
  generalize hAe : va_A ((hW h ad cI cZ ex pa di qu gc dg dp dv dd ds dc td ho ak se pr) ++ [(ob, .inl (cJ, 1, .inr (.inl f)))]) s.heap.size = A at hD ⊢
  have hA : ∀ q : Nat, s.heap.size ≤ q → A q := fun q h => by rw [← hAe]; exact Or.inr h
  have hS : va_S A s.heap s.heap [] := va_S.rf
  have hKh : va_K D vwCl (hT cI cZ) s := hK.sub [0, 1] rfl
  have hl := lv_entry ([.ref h, .int (nI g), .ref ob]) (n := 4) (Nat.le_of_ble_eq_true rfl)
  rw [lg_entry_eq]
  generalize (lg_sl ([.ref h, .int (nI g), .ref ob]) ++ List.replicate (4 - (lg_sl ([.ref h, .int (nI g), .ref ob])).length) Slot.unset).toArray = ls at hl ⊢
  have hl : lv_has ls 4 [(0, .ref h), (1, .int (nI g)), (2, .ref ob)] := hl
  refine lv_aload_n hx hb dL_told_0 rfl (lv_at hl 2 rfl) ?_
  refine lv_iconst (v := nI 0) hx hb dL_told_1 (by decide) ?_
  refine lv_aload_n hx hb dL_told_2 rfl (lv_at hl 0 rfl) ?_
  refine lv_iload_n hx hb dL_told_3 rfl (lv_at hl 1 rfl) ?_
  refine q_callI (r := nI (cnt (fun j => decide (ho (g * 96 + j) ≠ none)) 96)) (va_runV (As := [.int (nI g)]) (rest := [.int (nI 0), .ref ob]) ⟨hx, hb, hml, hown, hts⟩ (kX0_told l D h ad cI cZ ex pa di qu gc dg dp dv dd ds dc td ho ak se pr g hg he hho hdc) (cwV 1 hts gL_told_X0_told rfl rfl rfl (by decide +kernel) ⟨Nat.le_of_ble_eq_true rfl, Nat.le_of_ble_eq_true rfl⟩) ⟨pP_blind, va_recv hKh (va_Pl hP) (ci := 0) (q0 := 0) rfl rfl, pP_pre (va_Pl hP) hKh⟩ rfl rfl hl.1 rfl (lv_room (Nat.le_of_ble_eq_true rfl)) dL_told_4 ⟨Nat.zero_le _, Nat.zero_le _⟩) ?_
  refine lv_i2l (v := lN (cnt (fun j => decide (ho (g * 96 + j) ≠ none)) 96)) hx hb dL_told_7 (nI_l hret) ?_
  refine q_ost hx hb hK hP hD hS 14 2 rfl rfl dL_told_8 (fun H locs hP hD hS => ?_)
  have hP : va_P D vwCl ((hW h ad cI cZ ex pa di qu gc dg dp dv dd ds dc td ho ak se pr) ++ [(ob, .inl (cJ, 1, .inr (.inl (vp_updL f 0 (lN (cnt (fun j => decide (ho (g * 96 + j) ≠ none)) 96))))))]) H := hP
  refine lv_goto (tgt := 15) hx hb dL_told_9 (by decide) ?_
  refine lv_iconst (v := nI 0) hx hb dL_told_15 (by decide) ?_
  exact q_wretI hx hb hr hlocks hAe hP hS rfl dL_told_16

set_option maxHeartbeats 4000000 in
set_option maxRecDepth 100000 in
theorem kL_toldXI (l : Launch) (D : va_G) (h : Nat) (ad : Nat → Nat) (cI cZ : ClassId) (ex : Nat → Bool) (pa : Nat → Option Nat) (di : Nat → Nat) (qu : Nat → Nat) (gc : Nat) (dg : Nat → Nat) (dp : Nat → Nat) (dv : Nat → Option Nat) (dd : Nat → Nat) (ds : Nat → Nat) (dc : Nat) (td : Nat) (ho : Nat → Option Nat) (ak : Nat → Bool) (se : Nat → Option Nat) (pr : Nat → Option Nat) (hlf : l.stackTraces = false) (ob : Nat) (g : Int32) (hg : gBad ex g) : Met l yL_told wsL_told ({ frames := 8, cells := 1, slots := 6, locals := 127 } : Room) (tN D (hW h ad cI cZ ex pa di qu gc dg dp dv dd ds dc td ho ak se pr) (hT cI cZ) [.ref h, .int g, .ref ob]) (eQ 1) 1 6 nF := by
  refine mt_ofWH (cc := cL_told) (maxL := 4) (ret := (some .int)) (by decide) rfl ?_
  intro p e s m args below meth c s₁ B hml htab hv
  obtain ⟨rfl, hP, hK, hE, hN⟩ := hv
  have hx := B.exec
  have hb := B.bytes
  have hr := B.returns
  have hts := atoms_spec (ws := wsL_told) B.pre
  have hown : s.vm.findClass RL = some m.cls := findClass_of_methodNamed B.named
  have hlocks := B.notSynchronized
  have hl := lv_entry ([.ref h, .int g, .ref ob]) (n := 4) (Nat.le_of_ble_eq_true rfl)
  rw [lg_entry_eq]
  generalize (lg_sl ([.ref h, .int g, .ref ob]) ++ List.replicate (4 - (lg_sl ([.ref h, .int g, .ref ob])).length) Slot.unset).toArray = ls at hl ⊢
  have hl : lv_has ls 4 [(0, .ref h), (1, .int g), (2, .ref ob)] := hl
  refine lv_aload_n hx hb dL_told_0 rfl (lv_at hl 2 rfl) ?_
  refine lv_iconst (v := nI 0) hx hb dL_told_1 (by decide) ?_
  refine lv_aload_n hx hb dL_told_2 rfl (lv_at hl 0 rfl) ?_
  refine lv_iload_n hx hb dL_told_3 rfl (lv_at hl 1 rfl) ?_
  refine q_catch (vx_runV (As := [.int g]) (rest := [.int (nI 0), .ref ob]) ⟨hx, hb, hml, hown, hts⟩ (kX0_toldXI l D h ad cI cZ ex pa di qu gc dg dp dv dd ds dc td ho ak se pr hlf g hg) (cwV 1 hts gL_told_X0_told rfl rfl rfl (by decide +kernel) ⟨Nat.le_of_ble_eq_true rfl, Nat.le_of_ble_eq_true rfl⟩) ⟨tP_blind, va_recv hK hP (ci := 0) (q0 := 0) rfl rfl, tP_pre hP hK hE⟩ rfl rfl hl.1 rfl (lv_room (Nat.le_of_ble_eq_true rfl)) dL_told_4 ⟨Nat.le_of_ble_eq_true rfl, Nat.le_of_ble_eq_true rfl⟩) (fun H ce q9 h1 h2 h3 h4 h5 => ?_)
  obtain ⟨t0, ht0, htab⟩ := tab_c htab
  refine vx_catch (own := RL) (name := "java/lang/IndexOutOfBoundsException") (E := "java/lang/IndexOutOfBoundsException") hown [] ⟨0, 9, 12, 13⟩ t0 ht0 (fun z hz => by cases hz) (by decide) (by decide) (hts (.classLink RL 13 "java/lang/IndexOutOfBoundsException") (by decide +kernel)) (va_Nw.use rfl (hE.2.2.2.1 "java/lang/IndexOutOfBoundsException" (by decide))) h3 h4 h5 ?_
  refine lv_astore_n (lv' := [(3, .ref q9), (0, .ref h), (1, .int g), (2, .ref ob)]) hx hb dL_told_12 rfl hl (by decide) rfl (fun ls hl => ?_)
  refine lv_iconst (v := nI 1) hx hb dL_told_13 (by decide) ?_
  exact q_eret hx hb hr hlocks h1 h2 dL_told_14

set_option maxHeartbeats 4000000 in
set_option maxRecDepth 100000 in
theorem kL_toggleAsked (l : Launch) (D : va_G) (h : Nat) (ad : Nat → Nat) (cI cZ : ClassId) (ex : Nat → Bool) (pa : Nat → Option Nat) (di : Nat → Nat) (qu : Nat → Nat) (gc : Nat) (dg : Nat → Nat) (dp : Nat → Nat) (dv : Nat → Option Nat) (dd : Nat → Nat) (ds : Nat → Nat) (dc : Nat) (td : Nat) (ho : Nat → Option Nat) (ak : Nat → Bool) (se : Nat → Option Nat) (pr : Nat → Option Nat) (cJ : ClassId) (ob : Nat) (f : Nat → Int64) (sz : Nat) (sp a : Nat) (hs : sp < 3) (ha : a < 6) : Met l yL_toggleAsked wsL_toggleAsked ({ frames := 2, cells := 0, slots := 0, locals := 43 } : Room) (wP D ((hW h ad cI cZ ex pa di qu gc dg dp dv dd ds dc td ho ak se pr) ++ [(ob, .inl (cJ, 1, .inr (.inl f)))]) (mT cI cJ cZ) [.ref h, .int (nI sp), .int (nI a), .ref ob] sz) (wQ D ((hW h ad cI cZ ex pa di qu gc dg dp dv dd ds dc td ho ak se pr) ++ [(ob, .inl (cJ, 1, .inr (.inl f)))]) ((hW h ad cI cZ ex pa di qu gc dg dp dv dd ds dc td ho (va_up ak (sp * 6 + a) (!ak (sp * 6 + a))) se pr) ++ [(ob, .inl (cJ, 1, .inr (.inl (vp_updL f 0 (bL (!ak (sp * 6 + a)))))))]) (some (.int (nI 0)))) 0 0 (va_A ((hW h ad cI cZ ex pa di qu gc dg dp dv dd ds dc td ho ak se pr) ++ [(ob, .inl (cJ, 1, .inr (.inl f)))]) sz) := by
  refine mt_ofWH (cc := cL_toggleAsked) (maxL := 5) (ret := (some .int)) (by decide) rfl ?_
  intro p e s m args below meth c s₁ B hml htab hv
  obtain ⟨rfl, hsz, hP, hK, hD0⟩ := hv
  have hx := B.exec
  have hb := B.bytes
  have hr := B.returns
  have hts := atoms_spec (ws := wsL_toggleAsked) B.pre
  have hown : s.vm.findClass RL = some m.cls := findClass_of_methodNamed B.named
  have hlocks := B.notSynchronized
  subst hsz
  have hD := hD0.self (sz := s.heap.size)
  generalize hAe : va_A ((hW h ad cI cZ ex pa di qu gc dg dp dv dd ds dc td ho ak se pr) ++ [(ob, .inl (cJ, 1, .inr (.inl f)))]) s.heap.size = A at hD ⊢
  have hA : ∀ q : Nat, s.heap.size ≤ q → A q := fun q h => by rw [← hAe]; exact Or.inr h
  have hS : va_S A s.heap s.heap [] := va_S.rf
  have hKh : va_K D vwCl (hT cI cZ) s := hK.sub [0, 1] rfl
  have hl := lv_entry ([.ref h, .int (nI sp), .int (nI a), .ref ob]) (n := 5) (Nat.le_of_ble_eq_true rfl)
  rw [lg_entry_eq]
  generalize (lg_sl ([.ref h, .int (nI sp), .int (nI a), .ref ob]) ++ List.replicate (5 - (lg_sl ([.ref h, .int (nI sp), .int (nI a), .ref ob])).length) Slot.unset).toArray = ls at hl ⊢
  have hl : lv_has ls 5 [(0, .ref h), (1, .int (nI sp)), (2, .int (nI a)), (3, .ref ob)] := hl
  refine lv_aload_n hx hb dL_toggleAsked_0 rfl (lv_at hl 3 rfl) ?_
  refine lv_iconst (v := nI 0) hx hb dL_toggleAsked_1 (by decide) ?_
  refine lv_aload_n hx hb dL_toggleAsked_2 rfl (lv_at hl 0 rfl) ?_
  refine lv_iload_n hx hb dL_toggleAsked_3 rfl (lv_at hl 1 rfl) ?_
  refine lv_iload_n hx hb dL_toggleAsked_4 rfl (lv_at hl 2 rfl) ?_
  refine q_wcallFI (wb := [(ob, .inl (cJ, 1, .inr (.inl f)))]) (r := bI (!ak (sp * 6 + a))) (wa' := (hW h ad cI cZ ex pa di qu gc dg dp dv dd ds dc td ho (va_up ak (sp * 6 + a) (!ak (sp * 6 + a))) se pr)) (va_runV (As := [.int (nI sp), .int (nI a)]) (rest := [.int (nI 0), .ref ob]) ⟨hx, hb, hml, hown, hts⟩ (kX0_toggleAsked l D h ad cI cZ ex pa di qu gc dg dp dv dd ds dc td ho ak se pr _ sp a hs ha) (cwV 2 hts gL_toggleAsked_X0_toggleAsked rfl rfl rfl (by decide +kernel) ⟨Nat.le_of_ble_eq_true rfl, Nat.le_of_ble_eq_true rfl⟩) ⟨wP_blind, va_recv hKh (va_Pl hP) (ci := 0) (q0 := 0) rfl rfl, wP_pre (va_Pl hP) hKh (va_Dl hD)⟩ rfl rfl hl.1 rfl (lv_room (Nat.le_of_ble_eq_true rfl)) dL_toggleAsked_5 ⟨Nat.zero_le _, Nat.zero_le _⟩) hP hD hS hA rfl (fun H locs hP hD hS => ?_)
  refine q_ifB_eq (b := !ak (sp * 6 + a)) (tgt := 15) hx hb dL_toggleAsked_8 (by decide) (fun k1 => ?_) (fun k1 => ?_)
  · refine lv_lconst (v := lN 0) hx hb dL_toggleAsked_15 (by decide) ?_
    refine q_topL (y := bL (!ak (sp * 6 + a))) (by rw [k1]; decide) ?_
    refine q_ost hx hb hK hP hD hS 14 2 rfl rfl dL_toggleAsked_16 (fun H locs hP hD hS => ?_)
    have hP : va_P D vwCl ((hW h ad cI cZ ex pa di qu gc dg dp dv dd ds dc td ho (va_up ak (sp * 6 + a) (!ak (sp * 6 + a))) se pr) ++ [(ob, .inl (cJ, 1, .inr (.inl (vp_updL f 0 (bL (!ak (sp * 6 + a)))))))]) H := hP
    refine lv_goto (tgt := 24) hx hb dL_toggleAsked_17 (by decide) ?_
    refine lv_iconst (v := nI 0) hx hb dL_toggleAsked_24 (by decide) ?_
    exact q_wretI hx hb hr hlocks hAe hP hS rfl dL_toggleAsked_25
  · refine lv_lconst (v := lN 1) hx hb dL_toggleAsked_11 (by decide) ?_
    refine q_topL (y := bL (!ak (sp * 6 + a))) (by rw [k1]; decide) ?_
    refine lv_goto (tgt := 16) hx hb dL_toggleAsked_12 (by decide) ?_
    refine q_ost hx hb hK hP hD hS 14 2 rfl rfl dL_toggleAsked_16 (fun H locs hP hD hS => ?_)
    have hP : va_P D vwCl ((hW h ad cI cZ ex pa di qu gc dg dp dv dd ds dc td ho (va_up ak (sp * 6 + a) (!ak (sp * 6 + a))) se pr) ++ [(ob, .inl (cJ, 1, .inr (.inl (vp_updL f 0 (bL (!ak (sp * 6 + a)))))))]) H := hP
    refine lv_goto (tgt := 24) hx hb dL_toggleAsked_17 (by decide) ?_
    refine lv_iconst (v := nI 0) hx hb dL_toggleAsked_24 (by decide) ?_
    exact q_wretI hx hb hr hlocks hAe hP hS rfl dL_toggleAsked_25

set_option maxHeartbeats 4000000 in
set_option maxRecDepth 100000 in
theorem kL_toggleAskedXI (l : Launch) (D : va_G) (h : Nat) (ad : Nat → Nat) (cI cZ : ClassId) (ex : Nat → Bool) (pa : Nat → Option Nat) (di : Nat → Nat) (qu : Nat → Nat) (gc : Nat) (dg : Nat → Nat) (dp : Nat → Nat) (dv : Nat → Option Nat) (dd : Nat → Nat) (ds : Nat → Nat) (dc : Nat) (td : Nat) (ho : Nat → Option Nat) (ak : Nat → Bool) (se : Nat → Option Nat) (pr : Nat → Option Nat) (hlf : l.stackTraces = false) (ob : Nat) (x a : Int32) (hs : aBad 3 x ∨ ∃ x2, x2 < 3 ∧ x = nI x2 ∧ aBad 6 a) : Met l yL_toggleAsked wsL_toggleAsked ({ frames := 8, cells := 1, slots := 6, locals := 125 } : Room) (tN D (hW h ad cI cZ ex pa di qu gc dg dp dv dd ds dc td ho ak se pr) (hT cI cZ) [.ref h, .int x, .int a, .ref ob]) (eQ 1) 1 6 nF := by
  refine mt_ofWH (cc := cL_toggleAsked) (maxL := 5) (ret := (some .int)) (by decide) rfl ?_
  intro p e s m args below meth c s₁ B hml htab hv
  obtain ⟨rfl, hP, hK, hE, hN⟩ := hv
  have hx := B.exec
  have hb := B.bytes
  have hr := B.returns
  have hts := atoms_spec (ws := wsL_toggleAsked) B.pre
  have hown : s.vm.findClass RL = some m.cls := findClass_of_methodNamed B.named
  have hlocks := B.notSynchronized
  have hl := lv_entry ([.ref h, .int x, .int a, .ref ob]) (n := 5) (Nat.le_of_ble_eq_true rfl)
  rw [lg_entry_eq]
  generalize (lg_sl ([.ref h, .int x, .int a, .ref ob]) ++ List.replicate (5 - (lg_sl ([.ref h, .int x, .int a, .ref ob])).length) Slot.unset).toArray = ls at hl ⊢
  have hl : lv_has ls 5 [(0, .ref h), (1, .int x), (2, .int a), (3, .ref ob)] := hl
  refine lv_aload_n hx hb dL_toggleAsked_0 rfl (lv_at hl 3 rfl) ?_
  refine lv_iconst (v := nI 0) hx hb dL_toggleAsked_1 (by decide) ?_
  refine lv_aload_n hx hb dL_toggleAsked_2 rfl (lv_at hl 0 rfl) ?_
  refine lv_iload_n hx hb dL_toggleAsked_3 rfl (lv_at hl 1 rfl) ?_
  refine lv_iload_n hx hb dL_toggleAsked_4 rfl (lv_at hl 2 rfl) ?_
  refine q_catch (vx_runV (As := [.int x, .int a]) (rest := [.int (nI 0), .ref ob]) ⟨hx, hb, hml, hown, hts⟩ (kX0_toggleAskedXI l D h ad cI cZ ex pa di qu gc dg dp dv dd ds dc td ho ak se pr hlf x a hs) (cwV 2 hts gL_toggleAsked_X0_toggleAsked rfl rfl rfl (by decide +kernel) ⟨Nat.le_of_ble_eq_true rfl, Nat.le_of_ble_eq_true rfl⟩) ⟨tP_blind, va_recv hK hP (ci := 0) (q0 := 0) rfl rfl, tP_pre hP hK hE⟩ rfl rfl hl.1 rfl (lv_room (Nat.le_of_ble_eq_true rfl)) dL_toggleAsked_5 ⟨Nat.le_of_ble_eq_true rfl, Nat.le_of_ble_eq_true rfl⟩) (fun H ce q9 h1 h2 h3 h4 h5 => ?_)
  obtain ⟨t0, ht0, htab⟩ := tab_c htab
  refine vx_catch (own := RL) (name := "java/lang/IndexOutOfBoundsException") (E := "java/lang/IndexOutOfBoundsException") hown [] ⟨0, 17, 20, 13⟩ t0 ht0 (fun z hz => by cases hz) (by decide) (by decide) (hts (.classLink RL 13 "java/lang/IndexOutOfBoundsException") (by decide +kernel)) (va_Nw.use rfl (hE.2.2.2.1 "java/lang/IndexOutOfBoundsException" (by decide))) h3 h4 h5 ?_
  refine lv_astore (lv' := [(4, .ref q9), (0, .ref h), (1, .int x), (2, .int a), (3, .ref ob)]) hx hb dL_toggleAsked_20 hl (by decide) rfl (fun ls hl => ?_)
  refine lv_iconst (v := nI 1) hx hb dL_toggleAsked_22 (by decide) ?_
  exact q_eret hx hb hr hlocks h1 h2 dL_toggleAsked_23

set_option maxHeartbeats 4000000 in
set_option maxRecDepth 100000 in
theorem kL_missing (l : Launch) (D : va_G) (h : Nat) (ad : Nat → Nat) (cI cZ : ClassId) (ex : Nat → Bool) (pa : Nat → Option Nat) (di : Nat → Nat) (qu : Nat → Nat) (gc : Nat) (dg : Nat → Nat) (dp : Nat → Nat) (dv : Nat → Option Nat) (dd : Nat → Nat) (ds : Nat → Nat) (dc : Nat) (td : Nat) (ho : Nat → Option Nat) (ak : Nat → Bool) (se : Nat → Option Nat) (pr : Nat → Option Nat) (cJ : ClassId) (ob : Nat) (f : Nat → Int64) (sz : Nat) (g sp tp : Nat) (hg : g < 16) (hs : sp < 3) (ht : tp < 3) (he : ex g = true) (hpr : PR pa) (hho : HO ho dc) (hdc : dc ≤ 200) (hdv : DV dv dc) (hret : bset (lck ex pa ho dv ak g sp tp) 6 < 2147483648) : Met l yL_missing wsL_missing ({ frames := 6, cells := 0, slots := 0, locals := 150 } : Room) (wP D ((hW h ad cI cZ ex pa di qu gc dg dp dv dd ds dc td ho ak se pr) ++ [(ob, .inl (cJ, 1, .inr (.inl f)))]) (mT cI cJ cZ) [.ref h, .int (nI g), .int (nI sp), .int (nI tp), .ref ob] sz) (wQ D ((hW h ad cI cZ ex pa di qu gc dg dp dv dd ds dc td ho ak se pr) ++ [(ob, .inl (cJ, 1, .inr (.inl f)))]) ((hW h ad cI cZ ex pa di qu gc dg dp dv dd ds dc td ho ak se pr) ++ [(ob, .inl (cJ, 1, .inr (.inl (vp_updL f 0 (lN (bset (lck ex pa ho dv ak g sp tp) 6))))))]) (some (.int (nI 0)))) 0 0 (va_A ((hW h ad cI cZ ex pa di qu gc dg dp dv dd ds dc td ho ak se pr) ++ [(ob, .inl (cJ, 1, .inr (.inl f)))]) sz) := by
  refine mt_ofWH (cc := cL_missing) (maxL := 6) (ret := (some .int)) (by decide) rfl ?_
  intro p e s m args below meth c s₁ B hml htab hv
  obtain ⟨rfl, hsz, hP, hK, hD0⟩ := hv
  have hx := B.exec
  have hb := B.bytes
  have hr := B.returns
  have hts := atoms_spec (ws := wsL_missing) B.pre
  have hown : s.vm.findClass RL = some m.cls := findClass_of_methodNamed B.named
  have hlocks := B.notSynchronized
  subst hsz
  have hD := hD0.self (sz := s.heap.size)
  generalize hAe : va_A ((hW h ad cI cZ ex pa di qu gc dg dp dv dd ds dc td ho ak se pr) ++ [(ob, .inl (cJ, 1, .inr (.inl f)))]) s.heap.size = A at hD ⊢
  have hA : ∀ q : Nat, s.heap.size ≤ q → A q := fun q h => by rw [← hAe]; exact Or.inr h
  have hS : va_S A s.heap s.heap [] := va_S.rf
  have hKh : va_K D vwCl (hT cI cZ) s := hK.sub [0, 1] rfl
  have hl := lv_entry ([.ref h, .int (nI g), .int (nI sp), .int (nI tp), .ref ob]) (n := 6) (Nat.le_of_ble_eq_true rfl)
  rw [lg_entry_eq]
  generalize (lg_sl ([.ref h, .int (nI g), .int (nI sp), .int (nI tp), .ref ob]) ++ List.replicate (6 - (lg_sl ([.ref h, .int (nI g), .int (nI sp), .int (nI tp), .ref ob])).length) Slot.unset).toArray = ls at hl ⊢
  have hl : lv_has ls 6 [(0, .ref h), (1, .int (nI g)), (2, .int (nI sp)), (3, .int (nI tp)), (4, .ref ob)] := hl
  refine lv_aload hx hb dL_missing_0 (lv_at hl 4 rfl) ?_
  refine lv_iconst (v := nI 0) hx hb dL_missing_2 (by decide) ?_
  refine lv_aload_n hx hb dL_missing_3 rfl (lv_at hl 0 rfl) ?_
  refine lv_iload_n hx hb dL_missing_4 rfl (lv_at hl 1 rfl) ?_
  refine lv_iload_n hx hb dL_missing_5 rfl (lv_at hl 2 rfl) ?_
  refine lv_iload_n hx hb dL_missing_6 rfl (lv_at hl 3 rfl) ?_
  refine q_callI (r := nI (bset (lck ex pa ho dv ak g sp tp) 6)) (va_runV (As := [.int (nI g), .int (nI sp), .int (nI tp)]) (rest := [.int (nI 0), .ref ob]) ⟨hx, hb, hml, hown, hts⟩ (kX0_missing l D h ad cI cZ ex pa di qu gc dg dp dv dd ds dc td ho ak se pr g sp tp hg hs ht he hpr hho hdc hdv) (cwV 3 hts gL_missing_X0_missing rfl rfl rfl (by decide +kernel) ⟨Nat.le_of_ble_eq_true rfl, Nat.le_of_ble_eq_true rfl⟩) ⟨pP_blind, va_recv hKh (va_Pl hP) (ci := 0) (q0 := 0) rfl rfl, pP_pre (va_Pl hP) hKh⟩ rfl rfl hl.1 rfl (lv_room (Nat.le_of_ble_eq_true rfl)) dL_missing_7 ⟨Nat.zero_le _, Nat.zero_le _⟩) ?_
  refine lv_i2l (v := lN (bset (lck ex pa ho dv ak g sp tp) 6)) hx hb dL_missing_10 (nI_l hret) ?_
  refine q_ost hx hb hK hP hD hS 14 2 rfl rfl dL_missing_11 (fun H locs hP hD hS => ?_)
  have hP : va_P D vwCl ((hW h ad cI cZ ex pa di qu gc dg dp dv dd ds dc td ho ak se pr) ++ [(ob, .inl (cJ, 1, .inr (.inl (vp_updL f 0 (lN (bset (lck ex pa ho dv ak g sp tp) 6))))))]) H := hP
  refine lv_goto (tgt := 19) hx hb dL_missing_12 (by decide) ?_
  refine lv_iconst (v := nI 0) hx hb dL_missing_19 (by decide) ?_
  exact q_wretI hx hb hr hlocks hAe hP hS rfl dL_missing_20

set_option maxHeartbeats 4000000 in
set_option maxRecDepth 100000 in
theorem kL_missingXI (l : Launch) (D : va_G) (h : Nat) (ad : Nat → Nat) (cI cZ : ClassId) (ex : Nat → Bool) (pa : Nat → Option Nat) (di : Nat → Nat) (qu : Nat → Nat) (gc : Nat) (dg : Nat → Nat) (dp : Nat → Nat) (dv : Nat → Option Nat) (dd : Nat → Nat) (ds : Nat → Nat) (dc : Nat) (td : Nat) (ho : Nat → Option Nat) (ak : Nat → Bool) (se : Nat → Option Nat) (pr : Nat → Option Nat) (hlf : l.stackTraces = false) (ob : Nat) (g x y : Int32) (hs : (gBad ex g ∨ ∃ j, j < 16 ∧ g = nI j ∧ ex j = true ∧ (aBad 3 x ∨ ∃ x2, x2 < 3 ∧ x = nI x2 ∧ aBad 3 y))) : Met l yL_missing wsL_missing ({ frames := 8, cells := 1, slots := 6, locals := 126 } : Room) (tN D (hW h ad cI cZ ex pa di qu gc dg dp dv dd ds dc td ho ak se pr) (hT cI cZ) [.ref h, .int g, .int x, .int y, .ref ob]) (eQ 1) 1 6 nF := by
  refine mt_ofWH (cc := cL_missing) (maxL := 6) (ret := (some .int)) (by decide) rfl ?_
  intro p e s m args below meth c s₁ B hml htab hv
  obtain ⟨rfl, hP, hK, hE, hN⟩ := hv
  have hx := B.exec
  have hb := B.bytes
  have hr := B.returns
  have hts := atoms_spec (ws := wsL_missing) B.pre
  have hown : s.vm.findClass RL = some m.cls := findClass_of_methodNamed B.named
  have hlocks := B.notSynchronized
  have hl := lv_entry ([.ref h, .int g, .int x, .int y, .ref ob]) (n := 6) (Nat.le_of_ble_eq_true rfl)
  rw [lg_entry_eq]
  generalize (lg_sl ([.ref h, .int g, .int x, .int y, .ref ob]) ++ List.replicate (6 - (lg_sl ([.ref h, .int g, .int x, .int y, .ref ob])).length) Slot.unset).toArray = ls at hl ⊢
  have hl : lv_has ls 6 [(0, .ref h), (1, .int g), (2, .int x), (3, .int y), (4, .ref ob)] := hl
  refine lv_aload hx hb dL_missing_0 (lv_at hl 4 rfl) ?_
  refine lv_iconst (v := nI 0) hx hb dL_missing_2 (by decide) ?_
  refine lv_aload_n hx hb dL_missing_3 rfl (lv_at hl 0 rfl) ?_
  refine lv_iload_n hx hb dL_missing_4 rfl (lv_at hl 1 rfl) ?_
  refine lv_iload_n hx hb dL_missing_5 rfl (lv_at hl 2 rfl) ?_
  refine lv_iload_n hx hb dL_missing_6 rfl (lv_at hl 3 rfl) ?_
  refine q_catch (vx_runV (As := [.int g, .int x, .int y]) (rest := [.int (nI 0), .ref ob]) ⟨hx, hb, hml, hown, hts⟩ (kX0_missingXI l D h ad cI cZ ex pa di qu gc dg dp dv dd ds dc td ho ak se pr hlf g x y hs) (cwV 3 hts gL_missing_X0_missing rfl rfl rfl (by decide +kernel) ⟨Nat.le_of_ble_eq_true rfl, Nat.le_of_ble_eq_true rfl⟩) ⟨tP_blind, va_recv hK hP (ci := 0) (q0 := 0) rfl rfl, tP_pre hP hK hE⟩ rfl rfl hl.1 rfl (lv_room (Nat.le_of_ble_eq_true rfl)) dL_missing_7 ⟨Nat.le_of_ble_eq_true rfl, Nat.le_of_ble_eq_true rfl⟩) (fun H ce q9 h1 h2 h3 h4 h5 => ?_)
  obtain ⟨t0, ht0, htab⟩ := tab_c htab
  refine vx_catch (own := RL) (name := "java/lang/IndexOutOfBoundsException") (E := "java/lang/IndexOutOfBoundsException") hown [] ⟨0, 12, 15, 13⟩ t0 ht0 (fun z hz => by cases hz) (by decide) (by decide) (hts (.classLink RL 13 "java/lang/IndexOutOfBoundsException") (by decide +kernel)) (va_Nw.use rfl (hE.2.2.2.1 "java/lang/IndexOutOfBoundsException" (by decide))) h3 h4 h5 ?_
  refine lv_astore (lv' := [(5, .ref q9), (0, .ref h), (1, .int g), (2, .int x), (3, .int y), (4, .ref ob)]) hx hb dL_missing_15 hl (by decide) rfl (fun ls hl => ?_)
  refine lv_iconst (v := nI 1) hx hb dL_missing_17 (by decide) ?_
  exact q_eret hx hb hr hlocks h1 h2 dL_missing_18

set_option maxHeartbeats 4000000 in
set_option maxRecDepth 100000 in
theorem kL_complete (l : Launch) (D : va_G) (h : Nat) (ad : Nat → Nat) (cI cZ : ClassId) (ex : Nat → Bool) (pa : Nat → Option Nat) (di : Nat → Nat) (qu : Nat → Nat) (gc : Nat) (dg : Nat → Nat) (dp : Nat → Nat) (dv : Nat → Option Nat) (dd : Nat → Nat) (ds : Nat → Nat) (dc : Nat) (td : Nat) (ho : Nat → Option Nat) (ak : Nat → Bool) (se : Nat → Option Nat) (pr : Nat → Option Nat) (cJ : ClassId) (ob : Nat) (f : Nat → Int64) (sz : Nat) (sp : Nat) (hs : sp < 3) (hpr : PR pa) (hho : HO ho dc) (hdc : dc ≤ 200) (hdv : DV dv dc) (hret : cnt (cpl ex pa ho dv ak sp) 16 < 2147483648) : Met l yL_complete wsL_complete ({ frames := 7, cells := 0, slots := 0, locals := 173 } : Room) (wP D ((hW h ad cI cZ ex pa di qu gc dg dp dv dd ds dc td ho ak se pr) ++ [(ob, .inl (cJ, 1, .inr (.inl f)))]) (mT cI cJ cZ) [.ref h, .int (nI sp), .ref ob] sz) (wQ D ((hW h ad cI cZ ex pa di qu gc dg dp dv dd ds dc td ho ak se pr) ++ [(ob, .inl (cJ, 1, .inr (.inl f)))]) ((hW h ad cI cZ ex pa di qu gc dg dp dv dd ds dc td ho ak se pr) ++ [(ob, .inl (cJ, 1, .inr (.inl (vp_updL f 0 (lN (cnt (cpl ex pa ho dv ak sp) 16))))))]) (some (.int (nI 0)))) 0 0 (va_A ((hW h ad cI cZ ex pa di qu gc dg dp dv dd ds dc td ho ak se pr) ++ [(ob, .inl (cJ, 1, .inr (.inl f)))]) sz) := by
  refine mt_ofWH (cc := cL_complete) (maxL := 4) (ret := (some .int)) (by decide) rfl ?_
  intro p e s m args below meth c s₁ B hml htab hv
  obtain ⟨rfl, hsz, hP, hK, hD0⟩ := hv
  have hx := B.exec
  have hb := B.bytes
  have hr := B.returns
  have hts := atoms_spec (ws := wsL_complete) B.pre
  have hown : s.vm.findClass RL = some m.cls := findClass_of_methodNamed B.named
  have hlocks := B.notSynchronized
  subst hsz
  have hD := hD0.self (sz := s.heap.size)
  generalize hAe : va_A ((hW h ad cI cZ ex pa di qu gc dg dp dv dd ds dc td ho ak se pr) ++ [(ob, .inl (cJ, 1, .inr (.inl f)))]) s.heap.size = A at hD ⊢
  have hA : ∀ q : Nat, s.heap.size ≤ q → A q := fun q h => by rw [← hAe]; exact Or.inr h
  have hS : va_S A s.heap s.heap [] := va_S.rf
  have hKh : va_K D vwCl (hT cI cZ) s := hK.sub [0, 1] rfl
  have hl := lv_entry ([.ref h, .int (nI sp), .ref ob]) (n := 4) (Nat.le_of_ble_eq_true rfl)
  rw [lg_entry_eq]
  generalize (lg_sl ([.ref h, .int (nI sp), .ref ob]) ++ List.replicate (4 - (lg_sl ([.ref h, .int (nI sp), .ref ob])).length) Slot.unset).toArray = ls at hl ⊢
  have hl : lv_has ls 4 [(0, .ref h), (1, .int (nI sp)), (2, .ref ob)] := hl
  refine lv_aload_n hx hb dL_complete_0 rfl (lv_at hl 2 rfl) ?_
  refine lv_iconst (v := nI 0) hx hb dL_complete_1 (by decide) ?_
  refine lv_aload_n hx hb dL_complete_2 rfl (lv_at hl 0 rfl) ?_
  refine lv_iload_n hx hb dL_complete_3 rfl (lv_at hl 1 rfl) ?_
  refine q_callI (r := nI (cnt (cpl ex pa ho dv ak sp) 16)) (va_runV (As := [.int (nI sp)]) (rest := [.int (nI 0), .ref ob]) ⟨hx, hb, hml, hown, hts⟩ (kX0_complete l D h ad cI cZ ex pa di qu gc dg dp dv dd ds dc td ho ak se pr sp hs hpr hho hdc hdv) (cwV 1 hts gL_complete_X0_complete rfl rfl rfl (by decide +kernel) ⟨Nat.le_of_ble_eq_true rfl, Nat.le_of_ble_eq_true rfl⟩) ⟨pP_blind, va_recv hKh (va_Pl hP) (ci := 0) (q0 := 0) rfl rfl, pP_pre (va_Pl hP) hKh⟩ rfl rfl hl.1 rfl (lv_room (Nat.le_of_ble_eq_true rfl)) dL_complete_4 ⟨Nat.zero_le _, Nat.zero_le _⟩) ?_
  refine lv_i2l (v := lN (cnt (cpl ex pa ho dv ak sp) 16)) hx hb dL_complete_7 (nI_l hret) ?_
  refine q_ost hx hb hK hP hD hS 14 2 rfl rfl dL_complete_8 (fun H locs hP hD hS => ?_)
  have hP : va_P D vwCl ((hW h ad cI cZ ex pa di qu gc dg dp dv dd ds dc td ho ak se pr) ++ [(ob, .inl (cJ, 1, .inr (.inl (vp_updL f 0 (lN (cnt (cpl ex pa ho dv ak sp) 16))))))]) H := hP
  refine lv_goto (tgt := 15) hx hb dL_complete_9 (by decide) ?_
  refine lv_iconst (v := nI 0) hx hb dL_complete_15 (by decide) ?_
  exact q_wretI hx hb hr hlocks hAe hP hS rfl dL_complete_16

set_option maxHeartbeats 4000000 in
set_option maxRecDepth 100000 in
theorem kL_completeXI (l : Launch) (D : va_G) (h : Nat) (ad : Nat → Nat) (cI cZ : ClassId) (ex : Nat → Bool) (pa : Nat → Option Nat) (di : Nat → Nat) (qu : Nat → Nat) (gc : Nat) (dg : Nat → Nat) (dp : Nat → Nat) (dv : Nat → Option Nat) (dd : Nat → Nat) (ds : Nat → Nat) (dc : Nat) (td : Nat) (ho : Nat → Option Nat) (ak : Nat → Bool) (se : Nat → Option Nat) (pr : Nat → Option Nat) (hlf : l.stackTraces = false) (ob : Nat) (x : Int32) (hs : aBad 3 x) : Met l yL_complete wsL_complete ({ frames := 8, cells := 1, slots := 6, locals := 125 } : Room) (tN D (hW h ad cI cZ ex pa di qu gc dg dp dv dd ds dc td ho ak se pr) (hT cI cZ) [.ref h, .int x, .ref ob]) (eQ 1) 1 6 nF := by
  refine mt_ofWH (cc := cL_complete) (maxL := 4) (ret := (some .int)) (by decide) rfl ?_
  intro p e s m args below meth c s₁ B hml htab hv
  obtain ⟨rfl, hP, hK, hE, hN⟩ := hv
  have hx := B.exec
  have hb := B.bytes
  have hr := B.returns
  have hts := atoms_spec (ws := wsL_complete) B.pre
  have hown : s.vm.findClass RL = some m.cls := findClass_of_methodNamed B.named
  have hlocks := B.notSynchronized
  have hl := lv_entry ([.ref h, .int x, .ref ob]) (n := 4) (Nat.le_of_ble_eq_true rfl)
  rw [lg_entry_eq]
  generalize (lg_sl ([.ref h, .int x, .ref ob]) ++ List.replicate (4 - (lg_sl ([.ref h, .int x, .ref ob])).length) Slot.unset).toArray = ls at hl ⊢
  have hl : lv_has ls 4 [(0, .ref h), (1, .int x), (2, .ref ob)] := hl
  refine lv_aload_n hx hb dL_complete_0 rfl (lv_at hl 2 rfl) ?_
  refine lv_iconst (v := nI 0) hx hb dL_complete_1 (by decide) ?_
  refine lv_aload_n hx hb dL_complete_2 rfl (lv_at hl 0 rfl) ?_
  refine lv_iload_n hx hb dL_complete_3 rfl (lv_at hl 1 rfl) ?_
  refine q_catch (vx_runV (As := [.int x]) (rest := [.int (nI 0), .ref ob]) ⟨hx, hb, hml, hown, hts⟩ (kX0_completeXI l D h ad cI cZ ex pa di qu gc dg dp dv dd ds dc td ho ak se pr hlf x hs) (cwV 1 hts gL_complete_X0_complete rfl rfl rfl (by decide +kernel) ⟨Nat.le_of_ble_eq_true rfl, Nat.le_of_ble_eq_true rfl⟩) ⟨tP_blind, va_recv hK hP (ci := 0) (q0 := 0) rfl rfl, tP_pre hP hK hE⟩ rfl rfl hl.1 rfl (lv_room (Nat.le_of_ble_eq_true rfl)) dL_complete_4 ⟨Nat.le_of_ble_eq_true rfl, Nat.le_of_ble_eq_true rfl⟩) (fun H ce q9 h1 h2 h3 h4 h5 => ?_)
  obtain ⟨t0, ht0, htab⟩ := tab_c htab
  refine vx_catch (own := RL) (name := "java/lang/IndexOutOfBoundsException") (E := "java/lang/IndexOutOfBoundsException") hown [] ⟨0, 9, 12, 13⟩ t0 ht0 (fun z hz => by cases hz) (by decide) (by decide) (hts (.classLink RL 13 "java/lang/IndexOutOfBoundsException") (by decide +kernel)) (va_Nw.use rfl (hE.2.2.2.1 "java/lang/IndexOutOfBoundsException" (by decide))) h3 h4 h5 ?_
  refine lv_astore_n (lv' := [(3, .ref q9), (0, .ref h), (1, .int x), (2, .ref ob)]) hx hb dL_complete_12 rfl hl (by decide) rfl (fun ls hl => ?_)
  refine lv_iconst (v := nI 1) hx hb dL_complete_13 (by decide) ?_
  exact q_eret hx hb hr hlocks h1 h2 dL_complete_14

set_option maxHeartbeats 4000000 in
set_option maxRecDepth 100000 in
theorem kL_price (l : Launch) (D : va_G) (h : Nat) (ad : Nat → Nat) (cI cZ : ClassId) (ex : Nat → Bool) (pa : Nat → Option Nat) (di : Nat → Nat) (qu : Nat → Nat) (gc : Nat) (dg : Nat → Nat) (dp : Nat → Nat) (dv : Nat → Option Nat) (dd : Nat → Nat) (ds : Nat → Nat) (dc : Nat) (td : Nat) (ho : Nat → Option Nat) (ak : Nat → Bool) (se : Nat → Option Nat) (pr : Nat → Option Nat) (cJ : ClassId) (ob : Nat) (f : Nat → Int64) (sz : Nat) (g sp : Nat) (hg : g < 16) (hs : sp < 3) (he : ex g = true) (hpr : PR pa) (hho : HO ho dc) (hdc : dc ≤ 200) (hdv : DV dv dc) (hqu : ∀ k, k < 256 → qu k ≤ 20) (hdi : ∀ k, k < 16 → di k ≤ 100) (hpb : ∀ k, k < 16 → ∀ v, pr k = some v → v ≤ 1000000000) (hnv : prs (vlu ex pa ho dv 0 (sp + 1) (0 + 1)) qu di pr (g + 1) g ≠ none) (hret : ∀ k, prs (vlu ex pa ho dv 0 (sp + 1) (0 + 1)) qu di pr (g + 1) g = some k → k < 2 ^ 31) : Met l yL_price wsL_price ({ frames := 6, cells := 0, slots := 0, locals := 149 } : Room) (wP D ((hW h ad cI cZ ex pa di qu gc dg dp dv dd ds dc td ho ak se pr) ++ [(ob, .inl (cJ, 1, .inr (.inl f)))]) (mT cI cJ cZ) [.ref h, .int (nI g), .int (nI sp), .ref ob] sz) (wQ D ((hW h ad cI cZ ex pa di qu gc dg dp dv dd ds dc td ho ak se pr) ++ [(ob, .inl (cJ, 1, .inr (.inl f)))]) ((hW h ad cI cZ ex pa di qu gc dg dp dv dd ds dc td ho ak se (prs (vlu ex pa ho dv 0 (sp + 1) (0 + 1)) qu di pr (g + 1))) ++ [(ob, .inl (cJ, 1, .inr (.inl (vp_updL f 0 (oL (prs (vlu ex pa ho dv 0 (sp + 1) (0 + 1)) qu di pr (g + 1) g))))))]) (some (.int (nI 0)))) 0 0 (va_A ((hW h ad cI cZ ex pa di qu gc dg dp dv dd ds dc td ho ak se pr) ++ [(ob, .inl (cJ, 1, .inr (.inl f)))]) sz) := by
  refine mt_ofWH (cc := cL_price) (maxL := 5) (ret := (some .int)) (by decide) rfl ?_
  intro p e s m args below meth c s₁ B hml htab hv
  obtain ⟨rfl, hsz, hP, hK, hD0⟩ := hv
  have hx := B.exec
  have hb := B.bytes
  have hr := B.returns
  have hts := atoms_spec (ws := wsL_price) B.pre
  have hown : s.vm.findClass RL = some m.cls := findClass_of_methodNamed B.named
  have hlocks := B.notSynchronized
  subst hsz
  have hD := hD0.self (sz := s.heap.size)
  generalize hAe : va_A ((hW h ad cI cZ ex pa di qu gc dg dp dv dd ds dc td ho ak se pr) ++ [(ob, .inl (cJ, 1, .inr (.inl f)))]) s.heap.size = A at hD ⊢
  have hA : ∀ q : Nat, s.heap.size ≤ q → A q := fun q h => by rw [← hAe]; exact Or.inr h
  have hS : va_S A s.heap s.heap [] := va_S.rf
  have hKh : va_K D vwCl (hT cI cZ) s := hK.sub [0, 1] rfl
  have hl := lv_entry ([.ref h, .int (nI g), .int (nI sp), .ref ob]) (n := 5) (Nat.le_of_ble_eq_true rfl)
  rw [lg_entry_eq]
  generalize (lg_sl ([.ref h, .int (nI g), .int (nI sp), .ref ob]) ++ List.replicate (5 - (lg_sl ([.ref h, .int (nI g), .int (nI sp), .ref ob])).length) Slot.unset).toArray = ls at hl ⊢
  have hl : lv_has ls 5 [(0, .ref h), (1, .int (nI g)), (2, .int (nI sp)), (3, .ref ob)] := hl
  refine lv_aload_n hx hb dL_price_0 rfl (lv_at hl 3 rfl) ?_
  refine lv_iconst (v := nI 0) hx hb dL_price_1 (by decide) ?_
  refine lv_aload_n hx hb dL_price_2 rfl (lv_at hl 0 rfl) ?_
  refine lv_iload_n hx hb dL_price_3 rfl (lv_at hl 1 rfl) ?_
  refine lv_iload_n hx hb dL_price_4 rfl (lv_at hl 2 rfl) ?_
  refine q_wcallFI (wb := [(ob, .inl (cJ, 1, .inr (.inl f)))]) (r := oI (prs (vlu ex pa ho dv 0 (sp + 1) (0 + 1)) qu di pr (g + 1) g)) (wa' := (hW h ad cI cZ ex pa di qu gc dg dp dv dd ds dc td ho ak se (prs (vlu ex pa ho dv 0 (sp + 1) (0 + 1)) qu di pr (g + 1)))) (va_runV (As := [.int (nI g), .int (nI sp)]) (rest := [.int (nI 0), .ref ob]) ⟨hx, hb, hml, hown, hts⟩ (kX0_price l D h ad cI cZ ex pa di qu gc dg dp dv dd ds dc td ho ak se pr _ g sp hg hs he hpr hho hdc hdv hqu hdi hpb hnv) (cwV 2 hts gL_price_X0_price rfl rfl rfl (by decide +kernel) ⟨Nat.le_of_ble_eq_true rfl, Nat.le_of_ble_eq_true rfl⟩) ⟨wP_blind, va_recv hKh (va_Pl hP) (ci := 0) (q0 := 0) rfl rfl, wP_pre (va_Pl hP) hKh (va_Dl hD)⟩ rfl rfl hl.1 rfl (lv_room (Nat.le_of_ble_eq_true rfl)) dL_price_5 ⟨Nat.zero_le _, Nat.zero_le _⟩) hP hD hS hA rfl (fun H locs hP hD hS => ?_)
  refine lv_i2l (v := oL (prs (vlu ex pa ho dv 0 (sp + 1) (0 + 1)) qu di pr (g + 1) g)) hx hb dL_price_8 (oI_l hret) ?_
  refine q_ost hx hb hK hP hD hS 14 2 rfl rfl dL_price_9 (fun H locs hP hD hS => ?_)
  have hP : va_P D vwCl ((hW h ad cI cZ ex pa di qu gc dg dp dv dd ds dc td ho ak se (prs (vlu ex pa ho dv 0 (sp + 1) (0 + 1)) qu di pr (g + 1))) ++ [(ob, .inl (cJ, 1, .inr (.inl (vp_updL f 0 (oL (prs (vlu ex pa ho dv 0 (sp + 1) (0 + 1)) qu di pr (g + 1) g))))))]) H := hP
  refine lv_goto (tgt := 21) hx hb dL_price_10 (by decide) ?_
  refine lv_iconst (v := nI 0) hx hb dL_price_21 (by decide) ?_
  exact q_wretI hx hb hr hlocks hAe hP hS rfl dL_price_22

set_option maxHeartbeats 4000000 in
set_option maxRecDepth 100000 in
theorem kL_priceXI (l : Launch) (D : va_G) (h : Nat) (ad : Nat → Nat) (cI cZ : ClassId) (ex : Nat → Bool) (pa : Nat → Option Nat) (di : Nat → Nat) (qu : Nat → Nat) (gc : Nat) (dg : Nat → Nat) (dp : Nat → Nat) (dv : Nat → Option Nat) (dd : Nat → Nat) (ds : Nat → Nat) (dc : Nat) (td : Nat) (ho : Nat → Option Nat) (ak : Nat → Bool) (se : Nat → Option Nat) (pr : Nat → Option Nat) (hlf : l.stackTraces = false) (ob : Nat) (g x : Int32) (hs : gBad ex g ∨ ∃ j, j < 16 ∧ g = nI j ∧ ex j = true ∧ aBad 3 x) : Met l yL_price wsL_price ({ frames := 8, cells := 1, slots := 6, locals := 126 } : Room) (tN D (hW h ad cI cZ ex pa di qu gc dg dp dv dd ds dc td ho ak se pr) (hT cI cZ) [.ref h, .int g, .int x, .ref ob]) (eQ 1) 1 6 nF := by
  refine mt_ofWH (cc := cL_price) (maxL := 5) (ret := (some .int)) (by decide) rfl ?_
  intro p e s m args below meth c s₁ B hml htab hv
  obtain ⟨rfl, hP, hK, hE, hN⟩ := hv
  have hx := B.exec
  have hb := B.bytes
  have hr := B.returns
  have hts := atoms_spec (ws := wsL_price) B.pre
  have hown : s.vm.findClass RL = some m.cls := findClass_of_methodNamed B.named
  have hlocks := B.notSynchronized
  have hl := lv_entry ([.ref h, .int g, .int x, .ref ob]) (n := 5) (Nat.le_of_ble_eq_true rfl)
  rw [lg_entry_eq]
  generalize (lg_sl ([.ref h, .int g, .int x, .ref ob]) ++ List.replicate (5 - (lg_sl ([.ref h, .int g, .int x, .ref ob])).length) Slot.unset).toArray = ls at hl ⊢
  have hl : lv_has ls 5 [(0, .ref h), (1, .int g), (2, .int x), (3, .ref ob)] := hl
  refine lv_aload_n hx hb dL_price_0 rfl (lv_at hl 3 rfl) ?_
  refine lv_iconst (v := nI 0) hx hb dL_price_1 (by decide) ?_
  refine lv_aload_n hx hb dL_price_2 rfl (lv_at hl 0 rfl) ?_
  refine lv_iload_n hx hb dL_price_3 rfl (lv_at hl 1 rfl) ?_
  refine lv_iload_n hx hb dL_price_4 rfl (lv_at hl 2 rfl) ?_
  refine q_catch (vx_runV (As := [.int g, .int x]) (rest := [.int (nI 0), .ref ob]) ⟨hx, hb, hml, hown, hts⟩ (kX0_priceXI l D h ad cI cZ ex pa di qu gc dg dp dv dd ds dc td ho ak se pr hlf g x hs) (cwV 2 hts gL_price_X0_price rfl rfl rfl (by decide +kernel) ⟨Nat.le_of_ble_eq_true rfl, Nat.le_of_ble_eq_true rfl⟩) ⟨tP_blind, va_recv hK hP (ci := 0) (q0 := 0) rfl rfl, tP_pre hP hK hE⟩ rfl rfl hl.1 rfl (lv_room (Nat.le_of_ble_eq_true rfl)) dL_price_5 ⟨Nat.le_of_ble_eq_true rfl, Nat.le_of_ble_eq_true rfl⟩) (fun H ce q9 h1 h2 h3 h4 h5 => ?_)
  obtain ⟨t0, ht0, htab⟩ := tab_c htab
  refine vx_catch (own := RL) (name := "java/lang/IndexOutOfBoundsException") (E := "java/lang/IndexOutOfBoundsException") hown [] ⟨0, 10, 13, 13⟩ t0 ht0 (fun z hz => by cases hz) (by decide) (by decide) (hts (.classLink RL 13 "java/lang/IndexOutOfBoundsException") (by decide +kernel)) (va_Nw.use rfl (hE.2.2.2.1 "java/lang/IndexOutOfBoundsException" (by decide))) h3 h4 h5 ?_
  refine lv_astore (lv' := [(4, .ref q9), (0, .ref h), (1, .int g), (2, .int x), (3, .ref ob)]) hx hb dL_price_13 hl (by decide) rfl (fun ls hl => ?_)
  refine lv_iconst (v := nI 1) hx hb dL_price_15 (by decide) ?_
  exact q_eret hx hb hr hlocks h1 h2 dL_price_16

set_option maxHeartbeats 4000000 in
set_option maxRecDepth 100000 in
theorem kL_changed (l : Launch) (D : va_G) (h : Nat) (ad : Nat → Nat) (cI cZ : ClassId) (ex : Nat → Bool) (pa : Nat → Option Nat) (di : Nat → Nat) (qu : Nat → Nat) (gc : Nat) (dg : Nat → Nat) (dp : Nat → Nat) (dv : Nat → Option Nat) (dd : Nat → Nat) (ds : Nat → Nat) (dc : Nat) (td : Nat) (ho : Nat → Option Nat) (ak : Nat → Bool) (se : Nat → Option Nat) (pr : Nat → Option Nat) (cJ : ClassId) (ob : Nat) (f : Nat → Int64) (sz : Nat) (sp : Nat) (hs : sp < 3) (hpr : PR pa) (hho : HO ho dc) (hdc : dc ≤ 200) (hdv : DV dv dc) (hse : ∀ k, k < 864 → ∀ v, se k = some v → v ≤ 100000) (hret : bset (lkd ex pa ho dv se sp) 16 < 2147483648) : Met l yL_changed wsL_changed ({ frames := 7, cells := 0, slots := 0, locals := 170 } : Room) (wP D ((hW h ad cI cZ ex pa di qu gc dg dp dv dd ds dc td ho ak se pr) ++ [(ob, .inl (cJ, 1, .inr (.inl f)))]) (mT cI cJ cZ) [.ref h, .int (nI sp), .ref ob] sz) (wQ D ((hW h ad cI cZ ex pa di qu gc dg dp dv dd ds dc td ho ak se pr) ++ [(ob, .inl (cJ, 1, .inr (.inl f)))]) ((hW h ad cI cZ ex pa di qu gc dg dp dv dd ds dc td ho ak se pr) ++ [(ob, .inl (cJ, 1, .inr (.inl (vp_updL f 0 (lN (bset (lkd ex pa ho dv se sp) 16))))))]) (some (.int (nI 0)))) 0 0 (va_A ((hW h ad cI cZ ex pa di qu gc dg dp dv dd ds dc td ho ak se pr) ++ [(ob, .inl (cJ, 1, .inr (.inl f)))]) sz) := by
  refine mt_ofWH (cc := cL_changed) (maxL := 4) (ret := (some .int)) (by decide) rfl ?_
  intro p e s m args below meth c s₁ B hml htab hv
  obtain ⟨rfl, hsz, hP, hK, hD0⟩ := hv
  have hx := B.exec
  have hb := B.bytes
  have hr := B.returns
  have hts := atoms_spec (ws := wsL_changed) B.pre
  have hown : s.vm.findClass RL = some m.cls := findClass_of_methodNamed B.named
  have hlocks := B.notSynchronized
  subst hsz
  have hD := hD0.self (sz := s.heap.size)
  generalize hAe : va_A ((hW h ad cI cZ ex pa di qu gc dg dp dv dd ds dc td ho ak se pr) ++ [(ob, .inl (cJ, 1, .inr (.inl f)))]) s.heap.size = A at hD ⊢
  have hA : ∀ q : Nat, s.heap.size ≤ q → A q := fun q h => by rw [← hAe]; exact Or.inr h
  have hS : va_S A s.heap s.heap [] := va_S.rf
  have hKh : va_K D vwCl (hT cI cZ) s := hK.sub [0, 1] rfl
  have hl := lv_entry ([.ref h, .int (nI sp), .ref ob]) (n := 4) (Nat.le_of_ble_eq_true rfl)
  rw [lg_entry_eq]
  generalize (lg_sl ([.ref h, .int (nI sp), .ref ob]) ++ List.replicate (4 - (lg_sl ([.ref h, .int (nI sp), .ref ob])).length) Slot.unset).toArray = ls at hl ⊢
  have hl : lv_has ls 4 [(0, .ref h), (1, .int (nI sp)), (2, .ref ob)] := hl
  refine lv_aload_n hx hb dL_changed_0 rfl (lv_at hl 2 rfl) ?_
  refine lv_iconst (v := nI 0) hx hb dL_changed_1 (by decide) ?_
  refine lv_aload_n hx hb dL_changed_2 rfl (lv_at hl 0 rfl) ?_
  refine lv_iload_n hx hb dL_changed_3 rfl (lv_at hl 1 rfl) ?_
  refine q_callI (r := nI (bset (lkd ex pa ho dv se sp) 16)) (va_runV (As := [.int (nI sp)]) (rest := [.int (nI 0), .ref ob]) ⟨hx, hb, hml, hown, hts⟩ (kX0_changed l D h ad cI cZ ex pa di qu gc dg dp dv dd ds dc td ho ak se pr sp hs hpr hho hdc hdv hse) (cwV 1 hts gL_changed_X0_changed rfl rfl rfl (by decide +kernel) ⟨Nat.le_of_ble_eq_true rfl, Nat.le_of_ble_eq_true rfl⟩) ⟨pP_blind, va_recv hKh (va_Pl hP) (ci := 0) (q0 := 0) rfl rfl, pP_pre (va_Pl hP) hKh⟩ rfl rfl hl.1 rfl (lv_room (Nat.le_of_ble_eq_true rfl)) dL_changed_4 ⟨Nat.zero_le _, Nat.zero_le _⟩) ?_
  refine lv_i2l (v := lN (bset (lkd ex pa ho dv se sp) 16)) hx hb dL_changed_7 (nI_l hret) ?_
  refine q_ost hx hb hK hP hD hS 14 2 rfl rfl dL_changed_8 (fun H locs hP hD hS => ?_)
  have hP : va_P D vwCl ((hW h ad cI cZ ex pa di qu gc dg dp dv dd ds dc td ho ak se pr) ++ [(ob, .inl (cJ, 1, .inr (.inl (vp_updL f 0 (lN (bset (lkd ex pa ho dv se sp) 16))))))]) H := hP
  refine lv_goto (tgt := 15) hx hb dL_changed_9 (by decide) ?_
  refine lv_iconst (v := nI 0) hx hb dL_changed_15 (by decide) ?_
  exact q_wretI hx hb hr hlocks hAe hP hS rfl dL_changed_16

set_option maxHeartbeats 4000000 in
set_option maxRecDepth 100000 in
theorem kL_changedXI (l : Launch) (D : va_G) (h : Nat) (ad : Nat → Nat) (cI cZ : ClassId) (ex : Nat → Bool) (pa : Nat → Option Nat) (di : Nat → Nat) (qu : Nat → Nat) (gc : Nat) (dg : Nat → Nat) (dp : Nat → Nat) (dv : Nat → Option Nat) (dd : Nat → Nat) (ds : Nat → Nat) (dc : Nat) (td : Nat) (ho : Nat → Option Nat) (ak : Nat → Bool) (se : Nat → Option Nat) (pr : Nat → Option Nat) (hlf : l.stackTraces = false) (ob : Nat) (x : Int32) (hs : aBad 3 x) : Met l yL_changed wsL_changed ({ frames := 8, cells := 1, slots := 6, locals := 123 } : Room) (tN D (hW h ad cI cZ ex pa di qu gc dg dp dv dd ds dc td ho ak se pr) (hT cI cZ) [.ref h, .int x, .ref ob]) (eQ 1) 1 6 nF := by
  refine mt_ofWH (cc := cL_changed) (maxL := 4) (ret := (some .int)) (by decide) rfl ?_
  intro p e s m args below meth c s₁ B hml htab hv
  obtain ⟨rfl, hP, hK, hE, hN⟩ := hv
  have hx := B.exec
  have hb := B.bytes
  have hr := B.returns
  have hts := atoms_spec (ws := wsL_changed) B.pre
  have hown : s.vm.findClass RL = some m.cls := findClass_of_methodNamed B.named
  have hlocks := B.notSynchronized
  have hl := lv_entry ([.ref h, .int x, .ref ob]) (n := 4) (Nat.le_of_ble_eq_true rfl)
  rw [lg_entry_eq]
  generalize (lg_sl ([.ref h, .int x, .ref ob]) ++ List.replicate (4 - (lg_sl ([.ref h, .int x, .ref ob])).length) Slot.unset).toArray = ls at hl ⊢
  have hl : lv_has ls 4 [(0, .ref h), (1, .int x), (2, .ref ob)] := hl
  refine lv_aload_n hx hb dL_changed_0 rfl (lv_at hl 2 rfl) ?_
  refine lv_iconst (v := nI 0) hx hb dL_changed_1 (by decide) ?_
  refine lv_aload_n hx hb dL_changed_2 rfl (lv_at hl 0 rfl) ?_
  refine lv_iload_n hx hb dL_changed_3 rfl (lv_at hl 1 rfl) ?_
  refine q_catch (vx_runV (As := [.int x]) (rest := [.int (nI 0), .ref ob]) ⟨hx, hb, hml, hown, hts⟩ (kX0_changedXI l D h ad cI cZ ex pa di qu gc dg dp dv dd ds dc td ho ak se pr hlf x hs) (cwV 1 hts gL_changed_X0_changed rfl rfl rfl (by decide +kernel) ⟨Nat.le_of_ble_eq_true rfl, Nat.le_of_ble_eq_true rfl⟩) ⟨tP_blind, va_recv hK hP (ci := 0) (q0 := 0) rfl rfl, tP_pre hP hK hE⟩ rfl rfl hl.1 rfl (lv_room (Nat.le_of_ble_eq_true rfl)) dL_changed_4 ⟨Nat.le_of_ble_eq_true rfl, Nat.le_of_ble_eq_true rfl⟩) (fun H ce q9 h1 h2 h3 h4 h5 => ?_)
  obtain ⟨t0, ht0, htab⟩ := tab_c htab
  refine vx_catch (own := RL) (name := "java/lang/IndexOutOfBoundsException") (E := "java/lang/IndexOutOfBoundsException") hown [] ⟨0, 9, 12, 13⟩ t0 ht0 (fun z hz => by cases hz) (by decide) (by decide) (hts (.classLink RL 13 "java/lang/IndexOutOfBoundsException") (by decide +kernel)) (va_Nw.use rfl (hE.2.2.2.1 "java/lang/IndexOutOfBoundsException" (by decide))) h3 h4 h5 ?_
  refine lv_astore_n (lv' := [(3, .ref q9), (0, .ref h), (1, .int x), (2, .ref ob)]) hx hb dL_changed_12 rfl hl (by decide) rfl (fun ls hl => ?_)
  refine lv_iconst (v := nI 1) hx hb dL_changed_13 (by decide) ?_
  exact q_eret hx hb hr hlocks h1 h2 dL_changed_14

set_option maxHeartbeats 4000000 in
set_option maxRecDepth 100000 in
theorem kL_feed (l : Launch) (D : va_G) (h : Nat) (ad : Nat → Nat) (cI cZ : ClassId) (ex : Nat → Bool) (pa : Nat → Option Nat) (di : Nat → Nat) (qu : Nat → Nat) (gc : Nat) (dg : Nat → Nat) (dp : Nat → Nat) (dv : Nat → Option Nat) (dd : Nat → Nat) (ds : Nat → Nat) (dc : Nat) (td : Nat) (ho : Nat → Option Nat) (ak : Nat → Bool) (se : Nat → Option Nat) (pr : Nat → Option Nat) (cJ : ClassId) (ob : Nat) (f : Nat → Int64) (sz : Nat) (sp : Nat) (hs : sp < 3) (hpr : PR pa) (hho : HO ho dc) (hdc : dc ≤ 200) (hdv : DV dv dc) (hse : ∀ k, k < 864 → ∀ v, se k = some v → v ≤ 100000) (hret : pcn (bset (lkd ex pa ho dv se sp) 16) 16 < 2147483648) : Met l yL_feed wsL_feed ({ frames := 7, cells := 0, slots := 0, locals := 172 } : Room) (wP D ((hW h ad cI cZ ex pa di qu gc dg dp dv dd ds dc td ho ak se pr) ++ [(ob, .inl (cJ, 1, .inr (.inl f)))]) (mT cI cJ cZ) [.ref h, .int (nI sp), .ref ob] sz) (wQ D ((hW h ad cI cZ ex pa di qu gc dg dp dv dd ds dc td ho ak se pr) ++ [(ob, .inl (cJ, 1, .inr (.inl f)))]) ((hW h ad cI cZ ex pa di qu gc dg dp dv dd ds dc td ho ak (fed ex pa ho dv sp se 16) pr) ++ [(ob, .inl (cJ, 1, .inr (.inl (vp_updL f 0 (lN (pcn (bset (lkd ex pa ho dv se sp) 16) 16))))))]) (some (.int (nI 0)))) 0 0 (va_A ((hW h ad cI cZ ex pa di qu gc dg dp dv dd ds dc td ho ak se pr) ++ [(ob, .inl (cJ, 1, .inr (.inl f)))]) sz) := by
  refine mt_ofWH (cc := cL_feed) (maxL := 4) (ret := (some .int)) (by decide) rfl ?_
  intro p e s m args below meth c s₁ B hml htab hv
  obtain ⟨rfl, hsz, hP, hK, hD0⟩ := hv
  have hx := B.exec
  have hb := B.bytes
  have hr := B.returns
  have hts := atoms_spec (ws := wsL_feed) B.pre
  have hown : s.vm.findClass RL = some m.cls := findClass_of_methodNamed B.named
  have hlocks := B.notSynchronized
  subst hsz
  have hD := hD0.self (sz := s.heap.size)
  generalize hAe : va_A ((hW h ad cI cZ ex pa di qu gc dg dp dv dd ds dc td ho ak se pr) ++ [(ob, .inl (cJ, 1, .inr (.inl f)))]) s.heap.size = A at hD ⊢
  have hA : ∀ q : Nat, s.heap.size ≤ q → A q := fun q h => by rw [← hAe]; exact Or.inr h
  have hS : va_S A s.heap s.heap [] := va_S.rf
  have hKh : va_K D vwCl (hT cI cZ) s := hK.sub [0, 1] rfl
  have hl := lv_entry ([.ref h, .int (nI sp), .ref ob]) (n := 4) (Nat.le_of_ble_eq_true rfl)
  rw [lg_entry_eq]
  generalize (lg_sl ([.ref h, .int (nI sp), .ref ob]) ++ List.replicate (4 - (lg_sl ([.ref h, .int (nI sp), .ref ob])).length) Slot.unset).toArray = ls at hl ⊢
  have hl : lv_has ls 4 [(0, .ref h), (1, .int (nI sp)), (2, .ref ob)] := hl
  refine lv_aload_n hx hb dL_feed_0 rfl (lv_at hl 2 rfl) ?_
  refine lv_iconst (v := nI 0) hx hb dL_feed_1 (by decide) ?_
  refine lv_aload_n hx hb dL_feed_2 rfl (lv_at hl 0 rfl) ?_
  refine lv_iload_n hx hb dL_feed_3 rfl (lv_at hl 1 rfl) ?_
  refine q_wcallFI (wb := [(ob, .inl (cJ, 1, .inr (.inl f)))]) (r := nI (pcn (bset (lkd ex pa ho dv se sp) 16) 16)) (wa' := (hW h ad cI cZ ex pa di qu gc dg dp dv dd ds dc td ho ak (fed ex pa ho dv sp se 16) pr)) (va_runV (As := [.int (nI sp)]) (rest := [.int (nI 0), .ref ob]) ⟨hx, hb, hml, hown, hts⟩ (kX0_feed l D h ad cI cZ ex pa di qu gc dg dp dv dd ds dc td ho ak se pr _ sp hs hpr hho hdc hdv hse) (cwV 1 hts gL_feed_X0_feed rfl rfl rfl (by decide +kernel) ⟨Nat.le_of_ble_eq_true rfl, Nat.le_of_ble_eq_true rfl⟩) ⟨wP_blind, va_recv hKh (va_Pl hP) (ci := 0) (q0 := 0) rfl rfl, wP_pre (va_Pl hP) hKh (va_Dl hD)⟩ rfl rfl hl.1 rfl (lv_room (Nat.le_of_ble_eq_true rfl)) dL_feed_4 ⟨Nat.zero_le _, Nat.zero_le _⟩) hP hD hS hA rfl (fun H locs hP hD hS => ?_)
  refine lv_i2l (v := lN (pcn (bset (lkd ex pa ho dv se sp) 16) 16)) hx hb dL_feed_7 (nI_l hret) ?_
  refine q_ost hx hb hK hP hD hS 14 2 rfl rfl dL_feed_8 (fun H locs hP hD hS => ?_)
  have hP : va_P D vwCl ((hW h ad cI cZ ex pa di qu gc dg dp dv dd ds dc td ho ak (fed ex pa ho dv sp se 16) pr) ++ [(ob, .inl (cJ, 1, .inr (.inl (vp_updL f 0 (lN (pcn (bset (lkd ex pa ho dv se sp) 16) 16))))))]) H := hP
  refine lv_goto (tgt := 15) hx hb dL_feed_9 (by decide) ?_
  refine lv_iconst (v := nI 0) hx hb dL_feed_15 (by decide) ?_
  exact q_wretI hx hb hr hlocks hAe hP hS rfl dL_feed_16

set_option maxHeartbeats 4000000 in
set_option maxRecDepth 100000 in
theorem kL_feedXI (l : Launch) (D : va_G) (h : Nat) (ad : Nat → Nat) (cI cZ : ClassId) (ex : Nat → Bool) (pa : Nat → Option Nat) (di : Nat → Nat) (qu : Nat → Nat) (gc : Nat) (dg : Nat → Nat) (dp : Nat → Nat) (dv : Nat → Option Nat) (dd : Nat → Nat) (ds : Nat → Nat) (dc : Nat) (td : Nat) (ho : Nat → Option Nat) (ak : Nat → Bool) (se : Nat → Option Nat) (pr : Nat → Option Nat) (hlf : l.stackTraces = false) (ob : Nat) (x : Int32) (hs : aBad 3 x) : Met l yL_feed wsL_feed ({ frames := 8, cells := 1, slots := 6, locals := 125 } : Room) (tN D (hW h ad cI cZ ex pa di qu gc dg dp dv dd ds dc td ho ak se pr) (hT cI cZ) [.ref h, .int x, .ref ob]) (eQ 1) 1 6 nF := by
  refine mt_ofWH (cc := cL_feed) (maxL := 4) (ret := (some .int)) (by decide) rfl ?_
  intro p e s m args below meth c s₁ B hml htab hv
  obtain ⟨rfl, hP, hK, hE, hN⟩ := hv
  have hx := B.exec
  have hb := B.bytes
  have hr := B.returns
  have hts := atoms_spec (ws := wsL_feed) B.pre
  have hown : s.vm.findClass RL = some m.cls := findClass_of_methodNamed B.named
  have hlocks := B.notSynchronized
  have hl := lv_entry ([.ref h, .int x, .ref ob]) (n := 4) (Nat.le_of_ble_eq_true rfl)
  rw [lg_entry_eq]
  generalize (lg_sl ([.ref h, .int x, .ref ob]) ++ List.replicate (4 - (lg_sl ([.ref h, .int x, .ref ob])).length) Slot.unset).toArray = ls at hl ⊢
  have hl : lv_has ls 4 [(0, .ref h), (1, .int x), (2, .ref ob)] := hl
  refine lv_aload_n hx hb dL_feed_0 rfl (lv_at hl 2 rfl) ?_
  refine lv_iconst (v := nI 0) hx hb dL_feed_1 (by decide) ?_
  refine lv_aload_n hx hb dL_feed_2 rfl (lv_at hl 0 rfl) ?_
  refine lv_iload_n hx hb dL_feed_3 rfl (lv_at hl 1 rfl) ?_
  refine q_catch (vx_runV (As := [.int x]) (rest := [.int (nI 0), .ref ob]) ⟨hx, hb, hml, hown, hts⟩ (kX0_feedXI l D h ad cI cZ ex pa di qu gc dg dp dv dd ds dc td ho ak se pr hlf x hs) (cwV 1 hts gL_feed_X0_feed rfl rfl rfl (by decide +kernel) ⟨Nat.le_of_ble_eq_true rfl, Nat.le_of_ble_eq_true rfl⟩) ⟨tP_blind, va_recv hK hP (ci := 0) (q0 := 0) rfl rfl, tP_pre hP hK hE⟩ rfl rfl hl.1 rfl (lv_room (Nat.le_of_ble_eq_true rfl)) dL_feed_4 ⟨Nat.le_of_ble_eq_true rfl, Nat.le_of_ble_eq_true rfl⟩) (fun H ce q9 h1 h2 h3 h4 h5 => ?_)
  obtain ⟨t0, ht0, htab⟩ := tab_c htab
  refine vx_catch (own := RL) (name := "java/lang/IndexOutOfBoundsException") (E := "java/lang/IndexOutOfBoundsException") hown [] ⟨0, 9, 12, 13⟩ t0 ht0 (fun z hz => by cases hz) (by decide) (by decide) (hts (.classLink RL 13 "java/lang/IndexOutOfBoundsException") (by decide +kernel)) (va_Nw.use rfl (hE.2.2.2.1 "java/lang/IndexOutOfBoundsException" (by decide))) h3 h4 h5 ?_
  refine lv_astore_n (lv' := [(3, .ref q9), (0, .ref h), (1, .int x), (2, .ref ob)]) hx hb dL_feed_12 rfl hl (by decide) rfl (fun ls hl => ?_)
  refine lv_iconst (v := nI 1) hx hb dL_feed_13 (by decide) ?_
  exact q_eret hx hb hr hlocks h1 h2 dL_feed_14
