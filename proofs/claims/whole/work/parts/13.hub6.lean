set_option maxHeartbeats 4000000 in
set_option maxRecDepth 100000 in
theorem kX0_checkGoodX (l : Launch) (D : va_G) (h : Nat) (ad : Nat → Nat) (cI cZ : ClassId) (ex : Nat → Bool) (pa : Nat → Option Nat) (di : Nat → Nat) (qu : Nat → Nat) (gc : Nat) (dg : Nat → Nat) (dp : Nat → Nat) (dv : Nat → Option Nat) (dd : Nat → Nat) (ds : Nat → Nat) (dc : Nat) (td : Nat) (ho : Nat → Option Nat) (ak : Nat → Bool) (se : Nat → Option Nat) (pr : Nat → Option Nat) (hlf : l.stackTraces = false) (g : Int32) (hg : gBad ex g) : vx_Met l yX0_checkGood wsX0_checkGood ({ frames := 6, cells := 1, slots := 6, locals := 82 } : Room) (tP D (hW h ad cI cZ ex pa di qu gc dg dp dv dd ds dc td ho ak se pr) (hT cI cZ) [.ref h, .int g]) nQ (tX "java/lang/IndexOutOfBoundsException") 1 6 nF := by
  refine vx_ofW (cc := cX0_checkGood) (maxL := 2) (ret := none) (by decide) rfl ?_
  intro p e s m args below meth c s₁ B hml hexc hv
  obtain ⟨rfl, hP, hK, hE⟩ := hv
  have hx := B.exec
  have hb := B.bytes
  have hr := B.returns
  have hts := atoms_spec (ws := wsX0_checkGood) B.pre
  have hown : s.vm.findClass RX0 = some m.cls := findClass_of_methodNamed B.named
  have hlocks := B.notSynchronized
  have hl := lv_entry ([.ref h, .int g]) (n := 2) (Nat.le_of_ble_eq_true rfl)
  rw [lg_entry_eq]
  generalize (lg_sl ([.ref h, .int g]) ++ List.replicate (2 - (lg_sl ([.ref h, .int g])).length) Slot.unset).toArray = ls at hl ⊢
  have hl : lv_has ls 2 [(0, .ref h), (1, .int g)] := hl
  rcases gBad_c hg with hg | ⟨j, hj, rfl, he⟩
  · refine lv_aload_n hx hb dX0_checkGood_0 rfl (lv_at hl 0 rfl) ?_
    refine lv_iload_n hx hb dX0_checkGood_1 rfl (lv_at hl 1 rfl) ?_
    refine q_callI (r := bI false) (va_runV (As := [.int g]) (rest := []) ⟨hx, hb, hml, hown, hts⟩ (kX0_isGoodR l D h ad cI cZ ex pa di qu gc dg dp dv dd ds dc td ho ak se pr g hg) (cwV 1 hts gX0_checkGood_X0_isGood rfl rfl rfl (by decide +kernel) ⟨Nat.le_of_ble_eq_true rfl, Nat.le_of_ble_eq_true rfl⟩) ⟨pP_blind, va_recv hK hP (ci := 0) (q0 := 0) rfl rfl, pP_pre hP hK⟩ rfl rfl hl.1 rfl (lv_room (Nat.le_of_ble_eq_true rfl)) dX0_checkGood_2 ⟨Nat.zero_le _, Nat.zero_le _⟩) ?_
    refine q_ifB_ne (b := false) (tgt := 18) hx hb dX0_checkGood_5 (by decide) (fun k5 => absurd k5 (by decide)) (fun k5 => ?_)
    obtain ⟨sa, hstr⟩ := hE.2.2.1 (124, "no such good") (by decide +kernel)
    exact vx_throwS (is := 124) (text := "no such good") (names := ["java/lang/RuntimeException", "java/lang/Exception"]) (A := nF) hx hb hlf hown (by decide +kernel) (by decide +kernel) (hts (.classLink RX0 122 "java/lang/IndexOutOfBoundsException") (by decide +kernel)) (hts (.initialized "java/lang/IndexOutOfBoundsException") (by decide +kernel)) hstr (vx_hat (B := tB "java/lang/IndexOutOfBoundsException") (fun w hw => hts w (thI_checkGood w hw)) (by decide +kernel) (tE_B hE (by decide))) (by decide +kernel) hE.1 hE.2.1 va_S.rf (hl.1.trans hml.symm) dX0_checkGood_8 dX0_checkGood_11 dX0_checkGood_12 dX0_checkGood_14 dX0_checkGood_17 (fun z hz => (hexc z hz).elim) (Nat.le_of_ble_eq_true rfl) (Nat.le_of_ble_eq_true rfl) (Nat.le_of_ble_eq_true rfl) (Nat.le_of_ble_eq_true rfl) hlocks (fun t ht h1 h2 => ⟨rfl, h1, h2⟩) (fun z hz => by cases hz) (Nat.le_refl 1) (Nat.le_refl 6)
  · refine lv_aload_n hx hb dX0_checkGood_0 rfl (lv_at hl 0 rfl) ?_
    refine lv_iload_n hx hb dX0_checkGood_1 rfl (lv_at hl 1 rfl) ?_
    refine q_callI (r := bI (ex j)) (va_runV (As := [.int (nI j)]) (rest := []) ⟨hx, hb, hml, hown, hts⟩ (kX0_isGoodN l D h ad cI cZ ex pa di qu gc dg dp dv dd ds dc td ho ak se pr j hj) (cwV 1 hts gX0_checkGood_X0_isGood rfl rfl rfl (by decide +kernel) ⟨Nat.le_of_ble_eq_true rfl, Nat.le_of_ble_eq_true rfl⟩) ⟨pP_blind, va_recv hK hP (ci := 0) (q0 := 0) rfl rfl, pP_pre hP hK⟩ rfl rfl hl.1 rfl (lv_room (Nat.le_of_ble_eq_true rfl)) dX0_checkGood_2 ⟨Nat.zero_le _, Nat.zero_le _⟩) ?_
    refine q_ifB_ne (b := ex j) (tgt := 18) hx hb dX0_checkGood_5 (by decide) (fun k5 => absurd k5 (by rw [he]; decide)) (fun k5 => ?_)
    obtain ⟨sa, hstr⟩ := hE.2.2.1 (124, "no such good") (by decide +kernel)
    exact vx_throwS (is := 124) (text := "no such good") (names := ["java/lang/RuntimeException", "java/lang/Exception"]) (A := nF) hx hb hlf hown (by decide +kernel) (by decide +kernel) (hts (.classLink RX0 122 "java/lang/IndexOutOfBoundsException") (by decide +kernel)) (hts (.initialized "java/lang/IndexOutOfBoundsException") (by decide +kernel)) hstr (vx_hat (B := tB "java/lang/IndexOutOfBoundsException") (fun w hw => hts w (thI_checkGood w hw)) (by decide +kernel) (tE_B hE (by decide))) (by decide +kernel) hE.1 hE.2.1 va_S.rf (hl.1.trans hml.symm) dX0_checkGood_8 dX0_checkGood_11 dX0_checkGood_12 dX0_checkGood_14 dX0_checkGood_17 (fun z hz => (hexc z hz).elim) (Nat.le_of_ble_eq_true rfl) (Nat.le_of_ble_eq_true rfl) (Nat.le_of_ble_eq_true rfl) (Nat.le_of_ble_eq_true rfl) hlocks (fun t ht h1 h2 => ⟨rfl, h1, h2⟩) (fun z hz => by cases hz) (Nat.le_refl 1) (Nat.le_refl 6)

set_option maxHeartbeats 4000000 in
set_option maxRecDepth 100000 in
theorem kX0_checkParentX (l : Launch) (D : va_G) (h : Nat) (ad : Nat → Nat) (cI cZ : ClassId) (ex : Nat → Bool) (pa : Nat → Option Nat) (di : Nat → Nat) (qu : Nat → Nat) (gc : Nat) (dg : Nat → Nat) (dp : Nat → Nat) (dv : Nat → Option Nat) (dd : Nat → Nat) (ds : Nat → Nat) (dc : Nat) (td : Nat) (ho : Nat → Option Nat) (ak : Nat → Bool) (se : Nat → Option Nat) (pr : Nat → Option Nat) (hlf : l.stackTraces = false) (g : Int32) (hg : gBad ex g) (hne : g ≠ -1) : vx_Met l yX0_checkParent wsX0_checkParent ({ frames := 6, cells := 1, slots := 6, locals := 82 } : Room) (tP D (hW h ad cI cZ ex pa di qu gc dg dp dv dd ds dc td ho ak se pr) (hT cI cZ) [.ref h, .int g]) nQ (tX "java/lang/IndexOutOfBoundsException") 1 6 nF := by
  refine vx_ofW (cc := cX0_checkParent) (maxL := 2) (ret := none) (by decide) rfl ?_
  intro p e s m args below meth c s₁ B hml hexc hv
  obtain ⟨rfl, hP, hK, hE⟩ := hv
  have hx := B.exec
  have hb := B.bytes
  have hr := B.returns
  have hts := atoms_spec (ws := wsX0_checkParent) B.pre
  have hown : s.vm.findClass RX0 = some m.cls := findClass_of_methodNamed B.named
  have hlocks := B.notSynchronized
  have hl := lv_entry ([.ref h, .int g]) (n := 2) (Nat.le_of_ble_eq_true rfl)
  rw [lg_entry_eq]
  generalize (lg_sl ([.ref h, .int g]) ++ List.replicate (2 - (lg_sl ([.ref h, .int g])).length) Slot.unset).toArray = ls at hl ⊢
  have hl : lv_has ls 2 [(0, .ref h), (1, .int g)] := hl
  refine lv_iload_n hx hb dX0_checkParent_0 rfl (lv_at hl 1 rfl) ?_
  refine lv_iconst (v := oI none) hx hb dX0_checkParent_1 (by decide) ?_
  refine lv_icmp_eq (tgt := 23) hx hb dX0_checkParent_2 (by decide) (fun k2 => absurd k2 hne) (fun k2 => ?_)
  rcases gBad_c hg with hg | ⟨j, hj, rfl, he⟩
  · refine lv_aload_n hx hb dX0_checkParent_5 rfl (lv_at hl 0 rfl) ?_
    refine lv_iload_n hx hb dX0_checkParent_6 rfl (lv_at hl 1 rfl) ?_
    refine q_callI (r := bI false) (va_runV (As := [.int g]) (rest := []) ⟨hx, hb, hml, hown, hts⟩ (kX0_isGoodR l D h ad cI cZ ex pa di qu gc dg dp dv dd ds dc td ho ak se pr g hg) (cwV 1 hts gX0_checkParent_X0_isGood rfl rfl rfl (by decide +kernel) ⟨Nat.le_of_ble_eq_true rfl, Nat.le_of_ble_eq_true rfl⟩) ⟨pP_blind, va_recv hK hP (ci := 0) (q0 := 0) rfl rfl, pP_pre hP hK⟩ rfl rfl hl.1 rfl (lv_room (Nat.le_of_ble_eq_true rfl)) dX0_checkParent_7 ⟨Nat.zero_le _, Nat.zero_le _⟩) ?_
    refine q_ifB_ne (b := false) (tgt := 23) hx hb dX0_checkParent_10 (by decide) (fun k10 => absurd k10 (by decide)) (fun k10 => ?_)
    obtain ⟨sa, hstr⟩ := hE.2.2.1 (127, "the parent is neither -1 nor a good") (by decide +kernel)
    exact vx_throwS (is := 127) (text := "the parent is neither -1 nor a good") (names := ["java/lang/RuntimeException", "java/lang/Exception"]) (A := nF) hx hb hlf hown (by decide +kernel) (by decide +kernel) (hts (.classLink RX0 122 "java/lang/IndexOutOfBoundsException") (by decide +kernel)) (hts (.initialized "java/lang/IndexOutOfBoundsException") (by decide +kernel)) hstr (vx_hat (B := tB "java/lang/IndexOutOfBoundsException") (fun w hw => hts w (thI_checkParent w hw)) (by decide +kernel) (tE_B hE (by decide))) (by decide +kernel) hE.1 hE.2.1 va_S.rf (hl.1.trans hml.symm) dX0_checkParent_13 dX0_checkParent_16 dX0_checkParent_17 dX0_checkParent_19 dX0_checkParent_22 (fun z hz => (hexc z hz).elim) (Nat.le_of_ble_eq_true rfl) (Nat.le_of_ble_eq_true rfl) (Nat.le_of_ble_eq_true rfl) (Nat.le_of_ble_eq_true rfl) hlocks (fun t ht h1 h2 => ⟨rfl, h1, h2⟩) (fun z hz => by cases hz) (Nat.le_refl 1) (Nat.le_refl 6)
  · refine lv_aload_n hx hb dX0_checkParent_5 rfl (lv_at hl 0 rfl) ?_
    refine lv_iload_n hx hb dX0_checkParent_6 rfl (lv_at hl 1 rfl) ?_
    refine q_callI (r := bI (ex j)) (va_runV (As := [.int (nI j)]) (rest := []) ⟨hx, hb, hml, hown, hts⟩ (kX0_isGoodN l D h ad cI cZ ex pa di qu gc dg dp dv dd ds dc td ho ak se pr j hj) (cwV 1 hts gX0_checkParent_X0_isGood rfl rfl rfl (by decide +kernel) ⟨Nat.le_of_ble_eq_true rfl, Nat.le_of_ble_eq_true rfl⟩) ⟨pP_blind, va_recv hK hP (ci := 0) (q0 := 0) rfl rfl, pP_pre hP hK⟩ rfl rfl hl.1 rfl (lv_room (Nat.le_of_ble_eq_true rfl)) dX0_checkParent_7 ⟨Nat.zero_le _, Nat.zero_le _⟩) ?_
    refine q_ifB_ne (b := ex j) (tgt := 23) hx hb dX0_checkParent_10 (by decide) (fun k10 => absurd k10 (by rw [he]; decide)) (fun k10 => ?_)
    obtain ⟨sa, hstr⟩ := hE.2.2.1 (127, "the parent is neither -1 nor a good") (by decide +kernel)
    exact vx_throwS (is := 127) (text := "the parent is neither -1 nor a good") (names := ["java/lang/RuntimeException", "java/lang/Exception"]) (A := nF) hx hb hlf hown (by decide +kernel) (by decide +kernel) (hts (.classLink RX0 122 "java/lang/IndexOutOfBoundsException") (by decide +kernel)) (hts (.initialized "java/lang/IndexOutOfBoundsException") (by decide +kernel)) hstr (vx_hat (B := tB "java/lang/IndexOutOfBoundsException") (fun w hw => hts w (thI_checkParent w hw)) (by decide +kernel) (tE_B hE (by decide))) (by decide +kernel) hE.1 hE.2.1 va_S.rf (hl.1.trans hml.symm) dX0_checkParent_13 dX0_checkParent_16 dX0_checkParent_17 dX0_checkParent_19 dX0_checkParent_22 (fun z hz => (hexc z hz).elim) (Nat.le_of_ble_eq_true rfl) (Nat.le_of_ble_eq_true rfl) (Nat.le_of_ble_eq_true rfl) (Nat.le_of_ble_eq_true rfl) hlocks (fun t ht h1 h2 => ⟨rfl, h1, h2⟩) (fun z hz => by cases hz) (Nat.le_refl 1) (Nat.le_refl 6)

set_option maxHeartbeats 4000000 in
set_option maxRecDepth 100000 in
theorem kX0_checkAttributeX (l : Launch) (hlf : l.stackTraces = false) (a : Int32) (ha : aBad 6 a) : vx_Met l yX0_checkAttribute wsX0_checkAttribute ({ frames := 6, cells := 1, slots := 6, locals := 82 } : Room) (tPS [.int a]) nQ (tX "java/lang/IndexOutOfBoundsException") 1 6 nF := by
  refine vx_ofW (cc := cX0_checkAttribute) (maxL := 1) (ret := none) (by decide) rfl ?_
  intro p e s m args below meth c s₁ B hml hexc hv
  obtain ⟨rfl, hE⟩ := hv
  have hx := B.exec
  have hb := B.bytes
  have hr := B.returns
  have hts := atoms_spec (ws := wsX0_checkAttribute) B.pre
  have hown : s.vm.findClass RX0 = some m.cls := findClass_of_methodNamed B.named
  have hlocks := B.notSynchronized
  have hl := lv_entry ([.int a]) (n := 1) (Nat.le_of_ble_eq_true rfl)
  rw [lg_entry_eq]
  generalize (lg_sl ([.int a]) ++ List.replicate (1 - (lg_sl ([.int a])).length) Slot.unset).toArray = ls at hl ⊢
  have hl : lv_has ls 1 [(0, .int a)] := hl
  refine lv_iload_n hx hb dX0_checkAttribute_0 rfl (lv_at hl 0 rfl) ?_
  refine lv_if_lt (tgt := 10) hx hb dX0_checkAttribute_1 (by decide) (fun k1 => ?_) (fun k1 => ?_)
  · obtain ⟨sa, hstr⟩ := hE.2.2.1 (199, "no such attribute") (by decide +kernel)
    exact vx_throwS (is := 199) (text := "no such attribute") (names := ["java/lang/RuntimeException", "java/lang/Exception"]) (A := nF) hx hb hlf hown (by decide +kernel) (by decide +kernel) (hts (.classLink RX0 122 "java/lang/IndexOutOfBoundsException") (by decide +kernel)) (hts (.initialized "java/lang/IndexOutOfBoundsException") (by decide +kernel)) hstr (vx_hat (B := tB "java/lang/IndexOutOfBoundsException") (fun w hw => hts w (thI_checkAttribute w hw)) (by decide +kernel) (tE_B hE (by decide))) (by decide +kernel) hE.1 hE.2.1 va_S.rf (hl.1.trans hml.symm) dX0_checkAttribute_10 dX0_checkAttribute_13 dX0_checkAttribute_14 dX0_checkAttribute_16 dX0_checkAttribute_19 (fun z hz => (hexc z hz).elim) (Nat.le_of_ble_eq_true rfl) (Nat.le_of_ble_eq_true rfl) (Nat.le_of_ble_eq_true rfl) (Nat.le_of_ble_eq_true rfl) hlocks (fun t ht h1 h2 => ⟨rfl, h1, h2⟩) (fun z hz => by cases hz) (Nat.le_refl 1) (Nat.le_refl 6)
  · refine lv_iload_n hx hb dX0_checkAttribute_4 rfl (lv_at hl 0 rfl) ?_
    refine lv_bipush (v := nI 6) hx hb dX0_checkAttribute_5 (by decide) ?_
    refine lv_icmp_lt (tgt := 20) hx hb dX0_checkAttribute_7 (by decide) (fun k7 => absurd k7 (Int32.not_lt.mpr (ha.resolve_left k1))) (fun k7 => ?_)
    obtain ⟨sa, hstr⟩ := hE.2.2.1 (199, "no such attribute") (by decide +kernel)
    exact vx_throwS (is := 199) (text := "no such attribute") (names := ["java/lang/RuntimeException", "java/lang/Exception"]) (A := nF) hx hb hlf hown (by decide +kernel) (by decide +kernel) (hts (.classLink RX0 122 "java/lang/IndexOutOfBoundsException") (by decide +kernel)) (hts (.initialized "java/lang/IndexOutOfBoundsException") (by decide +kernel)) hstr (vx_hat (B := tB "java/lang/IndexOutOfBoundsException") (fun w hw => hts w (thI_checkAttribute w hw)) (by decide +kernel) (tE_B hE (by decide))) (by decide +kernel) hE.1 hE.2.1 va_S.rf (hl.1.trans hml.symm) dX0_checkAttribute_10 dX0_checkAttribute_13 dX0_checkAttribute_14 dX0_checkAttribute_16 dX0_checkAttribute_19 (fun z hz => (hexc z hz).elim) (Nat.le_of_ble_eq_true rfl) (Nat.le_of_ble_eq_true rfl) (Nat.le_of_ble_eq_true rfl) (Nat.le_of_ble_eq_true rfl) hlocks (fun t ht h1 h2 => ⟨rfl, h1, h2⟩) (fun z hz => by cases hz) (Nat.le_refl 1) (Nat.le_refl 6)

set_option maxHeartbeats 4000000 in
set_option maxRecDepth 100000 in
theorem kX0_checkShopX (l : Launch) (hlf : l.stackTraces = false) (a : Int32) (ha : aBad 3 a) : vx_Met l yX0_checkShop wsX0_checkShop ({ frames := 6, cells := 1, slots := 6, locals := 82 } : Room) (tPS [.int a]) nQ (tX "java/lang/IndexOutOfBoundsException") 1 6 nF := by
  refine vx_ofW (cc := cX0_checkShop) (maxL := 1) (ret := none) (by decide) rfl ?_
  intro p e s m args below meth c s₁ B hml hexc hv
  obtain ⟨rfl, hE⟩ := hv
  have hx := B.exec
  have hb := B.bytes
  have hr := B.returns
  have hts := atoms_spec (ws := wsX0_checkShop) B.pre
  have hown : s.vm.findClass RX0 = some m.cls := findClass_of_methodNamed B.named
  have hlocks := B.notSynchronized
  have hl := lv_entry ([.int a]) (n := 1) (Nat.le_of_ble_eq_true rfl)
  rw [lg_entry_eq]
  generalize (lg_sl ([.int a]) ++ List.replicate (1 - (lg_sl ([.int a])).length) Slot.unset).toArray = ls at hl ⊢
  have hl : lv_has ls 1 [(0, .int a)] := hl
  refine lv_iload_n hx hb dX0_checkShop_0 rfl (lv_at hl 0 rfl) ?_
  refine lv_if_lt (tgt := 9) hx hb dX0_checkShop_1 (by decide) (fun k1 => ?_) (fun k1 => ?_)
  · obtain ⟨sa, hstr⟩ := hE.2.2.1 (201, "no such shop") (by decide +kernel)
    exact vx_throwS (is := 201) (text := "no such shop") (names := ["java/lang/RuntimeException", "java/lang/Exception"]) (A := nF) hx hb hlf hown (by decide +kernel) (by decide +kernel) (hts (.classLink RX0 122 "java/lang/IndexOutOfBoundsException") (by decide +kernel)) (hts (.initialized "java/lang/IndexOutOfBoundsException") (by decide +kernel)) hstr (vx_hat (B := tB "java/lang/IndexOutOfBoundsException") (fun w hw => hts w (thI_checkShop w hw)) (by decide +kernel) (tE_B hE (by decide))) (by decide +kernel) hE.1 hE.2.1 va_S.rf (hl.1.trans hml.symm) dX0_checkShop_9 dX0_checkShop_12 dX0_checkShop_13 dX0_checkShop_15 dX0_checkShop_18 (fun z hz => (hexc z hz).elim) (Nat.le_of_ble_eq_true rfl) (Nat.le_of_ble_eq_true rfl) (Nat.le_of_ble_eq_true rfl) (Nat.le_of_ble_eq_true rfl) hlocks (fun t ht h1 h2 => ⟨rfl, h1, h2⟩) (fun z hz => by cases hz) (Nat.le_refl 1) (Nat.le_refl 6)
  · refine lv_iload_n hx hb dX0_checkShop_4 rfl (lv_at hl 0 rfl) ?_
    refine lv_iconst (v := nI 3) hx hb dX0_checkShop_5 (by decide) ?_
    refine lv_icmp_lt (tgt := 19) hx hb dX0_checkShop_6 (by decide) (fun k6 => absurd k6 (Int32.not_lt.mpr (ha.resolve_left k1))) (fun k6 => ?_)
    obtain ⟨sa, hstr⟩ := hE.2.2.1 (201, "no such shop") (by decide +kernel)
    exact vx_throwS (is := 201) (text := "no such shop") (names := ["java/lang/RuntimeException", "java/lang/Exception"]) (A := nF) hx hb hlf hown (by decide +kernel) (by decide +kernel) (hts (.classLink RX0 122 "java/lang/IndexOutOfBoundsException") (by decide +kernel)) (hts (.initialized "java/lang/IndexOutOfBoundsException") (by decide +kernel)) hstr (vx_hat (B := tB "java/lang/IndexOutOfBoundsException") (fun w hw => hts w (thI_checkShop w hw)) (by decide +kernel) (tE_B hE (by decide))) (by decide +kernel) hE.1 hE.2.1 va_S.rf (hl.1.trans hml.symm) dX0_checkShop_9 dX0_checkShop_12 dX0_checkShop_13 dX0_checkShop_15 dX0_checkShop_18 (fun z hz => (hexc z hz).elim) (Nat.le_of_ble_eq_true rfl) (Nat.le_of_ble_eq_true rfl) (Nat.le_of_ble_eq_true rfl) (Nat.le_of_ble_eq_true rfl) hlocks (fun t ht h1 h2 => ⟨rfl, h1, h2⟩) (fun z hz => by cases hz) (Nat.le_refl 1) (Nat.le_refl 6)

set_option maxHeartbeats 4000000 in
set_option maxRecDepth 100000 in
theorem kX0_checkTongueX (l : Launch) (hlf : l.stackTraces = false) (a : Int32) (ha : aBad 3 a) : vx_Met l yX0_checkTongue wsX0_checkTongue ({ frames := 6, cells := 1, slots := 6, locals := 82 } : Room) (tPS [.int a]) nQ (tX "java/lang/IndexOutOfBoundsException") 1 6 nF := by
  refine vx_ofW (cc := cX0_checkTongue) (maxL := 1) (ret := none) (by decide) rfl ?_
  intro p e s m args below meth c s₁ B hml hexc hv
  obtain ⟨rfl, hE⟩ := hv
  have hx := B.exec
  have hb := B.bytes
  have hr := B.returns
  have hts := atoms_spec (ws := wsX0_checkTongue) B.pre
  have hown : s.vm.findClass RX0 = some m.cls := findClass_of_methodNamed B.named
  have hlocks := B.notSynchronized
  have hl := lv_entry ([.int a]) (n := 1) (Nat.le_of_ble_eq_true rfl)
  rw [lg_entry_eq]
  generalize (lg_sl ([.int a]) ++ List.replicate (1 - (lg_sl ([.int a])).length) Slot.unset).toArray = ls at hl ⊢
  have hl : lv_has ls 1 [(0, .int a)] := hl
  refine lv_iload_n hx hb dX0_checkTongue_0 rfl (lv_at hl 0 rfl) ?_
  refine lv_if_lt (tgt := 9) hx hb dX0_checkTongue_1 (by decide) (fun k1 => ?_) (fun k1 => ?_)
  · obtain ⟨sa, hstr⟩ := hE.2.2.1 (203, "no such tongue") (by decide +kernel)
    exact vx_throwS (is := 203) (text := "no such tongue") (names := ["java/lang/RuntimeException", "java/lang/Exception"]) (A := nF) hx hb hlf hown (by decide +kernel) (by decide +kernel) (hts (.classLink RX0 122 "java/lang/IndexOutOfBoundsException") (by decide +kernel)) (hts (.initialized "java/lang/IndexOutOfBoundsException") (by decide +kernel)) hstr (vx_hat (B := tB "java/lang/IndexOutOfBoundsException") (fun w hw => hts w (thI_checkTongue w hw)) (by decide +kernel) (tE_B hE (by decide))) (by decide +kernel) hE.1 hE.2.1 va_S.rf (hl.1.trans hml.symm) dX0_checkTongue_9 dX0_checkTongue_12 dX0_checkTongue_13 dX0_checkTongue_15 dX0_checkTongue_18 (fun z hz => (hexc z hz).elim) (Nat.le_of_ble_eq_true rfl) (Nat.le_of_ble_eq_true rfl) (Nat.le_of_ble_eq_true rfl) (Nat.le_of_ble_eq_true rfl) hlocks (fun t ht h1 h2 => ⟨rfl, h1, h2⟩) (fun z hz => by cases hz) (Nat.le_refl 1) (Nat.le_refl 6)
  · refine lv_iload_n hx hb dX0_checkTongue_4 rfl (lv_at hl 0 rfl) ?_
    refine lv_iconst (v := nI 3) hx hb dX0_checkTongue_5 (by decide) ?_
    refine lv_icmp_lt (tgt := 19) hx hb dX0_checkTongue_6 (by decide) (fun k6 => absurd k6 (Int32.not_lt.mpr (ha.resolve_left k1))) (fun k6 => ?_)
    obtain ⟨sa, hstr⟩ := hE.2.2.1 (203, "no such tongue") (by decide +kernel)
    exact vx_throwS (is := 203) (text := "no such tongue") (names := ["java/lang/RuntimeException", "java/lang/Exception"]) (A := nF) hx hb hlf hown (by decide +kernel) (by decide +kernel) (hts (.classLink RX0 122 "java/lang/IndexOutOfBoundsException") (by decide +kernel)) (hts (.initialized "java/lang/IndexOutOfBoundsException") (by decide +kernel)) hstr (vx_hat (B := tB "java/lang/IndexOutOfBoundsException") (fun w hw => hts w (thI_checkTongue w hw)) (by decide +kernel) (tE_B hE (by decide))) (by decide +kernel) hE.1 hE.2.1 va_S.rf (hl.1.trans hml.symm) dX0_checkTongue_9 dX0_checkTongue_12 dX0_checkTongue_13 dX0_checkTongue_15 dX0_checkTongue_18 (fun z hz => (hexc z hz).elim) (Nat.le_of_ble_eq_true rfl) (Nat.le_of_ble_eq_true rfl) (Nat.le_of_ble_eq_true rfl) (Nat.le_of_ble_eq_true rfl) hlocks (fun t ht h1 h2 => ⟨rfl, h1, h2⟩) (fun z hz => by cases hz) (Nat.le_refl 1) (Nat.le_refl 6)

set_option maxHeartbeats 4000000 in
set_option maxRecDepth 100000 in
theorem kX0_checkDraftX (l : Launch) (D : va_G) (h : Nat) (ad : Nat → Nat) (cI cZ : ClassId) (ex : Nat → Bool) (pa : Nat → Option Nat) (di : Nat → Nat) (qu : Nat → Nat) (gc : Nat) (dg : Nat → Nat) (dp : Nat → Nat) (dv : Nat → Option Nat) (dd : Nat → Nat) (ds : Nat → Nat) (dc : Nat) (td : Nat) (ho : Nat → Option Nat) (ak : Nat → Bool) (se : Nat → Option Nat) (pr : Nat → Option Nat) (hlf : l.stackTraces = false) (d : Int32) (hd : dBad dc ds d) (hdc : dc ≤ 200) : vx_Met l yX0_checkDraft wsX0_checkDraft ({ frames := 6, cells := 1, slots := 6, locals := 82 } : Room) (tP D (hW h ad cI cZ ex pa di qu gc dg dp dv dd ds dc td ho ak se pr) (hT cI cZ) [.ref h, .int d]) nQ (tX "java/lang/IndexOutOfBoundsException") 1 6 nF := by
  refine vx_ofW (cc := cX0_checkDraft) (maxL := 2) (ret := none) (by decide) rfl ?_
  intro p e s m args below meth c s₁ B hml hexc hv
  obtain ⟨rfl, hP, hK, hE⟩ := hv
  have hx := B.exec
  have hb := B.bytes
  have hr := B.returns
  have hts := atoms_spec (ws := wsX0_checkDraft) B.pre
  have hown : s.vm.findClass RX0 = some m.cls := findClass_of_methodNamed B.named
  have hlocks := B.notSynchronized
  have hl := lv_entry ([.ref h, .int d]) (n := 2) (Nat.le_of_ble_eq_true rfl)
  rw [lg_entry_eq]
  generalize (lg_sl ([.ref h, .int d]) ++ List.replicate (2 - (lg_sl ([.ref h, .int d])).length) Slot.unset).toArray = ls at hl ⊢
  have hl : lv_has ls 2 [(0, .ref h), (1, .int d)] := hl
  rcases hd with hd | hd | ⟨j, hj, rfl, he⟩
  · refine lv_aload_n hx hb dX0_checkDraft_0 rfl (lv_at hl 0 rfl) ?_
    refine lv_iload_n hx hb dX0_checkDraft_1 rfl (lv_at hl 1 rfl) ?_
    refine q_callI (r := bI false) (va_runV (As := [.int d]) (rest := []) ⟨hx, hb, hml, hown, hts⟩ (kX0_isEnteredR l D h ad cI cZ ex pa di qu gc dg dp dv dd ds dc td ho ak se pr d hd) (cwV 1 hts gX0_checkDraft_X0_isEntered rfl rfl rfl (by decide +kernel) ⟨Nat.le_of_ble_eq_true rfl, Nat.le_of_ble_eq_true rfl⟩) ⟨pP_blind, va_recv hK hP (ci := 0) (q0 := 0) rfl rfl, pP_pre hP hK⟩ rfl rfl hl.1 rfl (lv_room (Nat.le_of_ble_eq_true rfl)) dX0_checkDraft_2 ⟨Nat.zero_le _, Nat.zero_le _⟩) ?_
    refine q_ifB_eq (b := false) (tgt := 18) hx hb dX0_checkDraft_5 (by decide) (fun k5 => ?_) (fun k5 => absurd k5 (by decide))
    obtain ⟨sa, hstr⟩ := hE.2.2.1 (170, "no such draft") (by decide +kernel)
    exact vx_throwS (is := 170) (text := "no such draft") (names := ["java/lang/RuntimeException", "java/lang/Exception"]) (A := nF) hx hb hlf hown (by decide +kernel) (by decide +kernel) (hts (.classLink RX0 122 "java/lang/IndexOutOfBoundsException") (by decide +kernel)) (hts (.initialized "java/lang/IndexOutOfBoundsException") (by decide +kernel)) hstr (vx_hat (B := tB "java/lang/IndexOutOfBoundsException") (fun w hw => hts w (thI_checkDraft w hw)) (by decide +kernel) (tE_B hE (by decide))) (by decide +kernel) hE.1 hE.2.1 va_S.rf (hl.1.trans hml.symm) dX0_checkDraft_18 dX0_checkDraft_21 dX0_checkDraft_22 dX0_checkDraft_24 dX0_checkDraft_27 (fun z hz => (hexc z hz).elim) (Nat.le_of_ble_eq_true rfl) (Nat.le_of_ble_eq_true rfl) (Nat.le_of_ble_eq_true rfl) (Nat.le_of_ble_eq_true rfl) hlocks (fun t ht h1 h2 => ⟨rfl, h1, h2⟩) (fun z hz => by cases hz) (Nat.le_refl 1) (Nat.le_refl 6)
  · obtain ⟨j, hj, rfl⟩ : ∃ j : Nat, j < 2147483648 ∧ d = nI j := nI_any (fun e9 => absurd (Int32.lt_of_le_of_lt hd e9) (nI_pos (by omega)))
    have hj2 : dc ≤ j := (nI_leI (by omega) hj).mp hd
    refine lv_aload_n hx hb dX0_checkDraft_0 rfl (lv_at hl 0 rfl) ?_
    refine lv_iload_n hx hb dX0_checkDraft_1 rfl (lv_at hl 1 rfl) ?_
    refine q_callI (r := bI (decide (j < dc))) (va_runV (As := [.int (nI j)]) (rest := []) ⟨hx, hb, hml, hown, hts⟩ (kX0_isEnteredN l D h ad cI cZ ex pa di qu gc dg dp dv dd ds dc td ho ak se pr j hj hdc) (cwV 1 hts gX0_checkDraft_X0_isEntered rfl rfl rfl (by decide +kernel) ⟨Nat.le_of_ble_eq_true rfl, Nat.le_of_ble_eq_true rfl⟩) ⟨pP_blind, va_recv hK hP (ci := 0) (q0 := 0) rfl rfl, pP_pre hP hK⟩ rfl rfl hl.1 rfl (lv_room (Nat.le_of_ble_eq_true rfl)) dX0_checkDraft_2 ⟨Nat.zero_le _, Nat.zero_le _⟩) ?_
    refine q_ifB_eq (b := decide (j < dc)) (tgt := 18) hx hb dX0_checkDraft_5 (by decide) (fun k5 => ?_) (fun k5 => absurd k5 (by rw [decide_eq_false (by omega)]; decide))
    obtain ⟨sa, hstr⟩ := hE.2.2.1 (170, "no such draft") (by decide +kernel)
    exact vx_throwS (is := 170) (text := "no such draft") (names := ["java/lang/RuntimeException", "java/lang/Exception"]) (A := nF) hx hb hlf hown (by decide +kernel) (by decide +kernel) (hts (.classLink RX0 122 "java/lang/IndexOutOfBoundsException") (by decide +kernel)) (hts (.initialized "java/lang/IndexOutOfBoundsException") (by decide +kernel)) hstr (vx_hat (B := tB "java/lang/IndexOutOfBoundsException") (fun w hw => hts w (thI_checkDraft w hw)) (by decide +kernel) (tE_B hE (by decide))) (by decide +kernel) hE.1 hE.2.1 va_S.rf (hl.1.trans hml.symm) dX0_checkDraft_18 dX0_checkDraft_21 dX0_checkDraft_22 dX0_checkDraft_24 dX0_checkDraft_27 (fun z hz => (hexc z hz).elim) (Nat.le_of_ble_eq_true rfl) (Nat.le_of_ble_eq_true rfl) (Nat.le_of_ble_eq_true rfl) (Nat.le_of_ble_eq_true rfl) hlocks (fun t ht h1 h2 => ⟨rfl, h1, h2⟩) (fun z hz => by cases hz) (Nat.le_refl 1) (Nat.le_refl 6)
  · refine lv_aload_n hx hb dX0_checkDraft_0 rfl (lv_at hl 0 rfl) ?_
    refine lv_iload_n hx hb dX0_checkDraft_1 rfl (lv_at hl 1 rfl) ?_
    refine q_callI (r := bI (decide (j < dc))) (va_runV (As := [.int (nI j)]) (rest := []) ⟨hx, hb, hml, hown, hts⟩ (kX0_isEnteredN l D h ad cI cZ ex pa di qu gc dg dp dv dd ds dc td ho ak se pr j (by omega) hdc) (cwV 1 hts gX0_checkDraft_X0_isEntered rfl rfl rfl (by decide +kernel) ⟨Nat.le_of_ble_eq_true rfl, Nat.le_of_ble_eq_true rfl⟩) ⟨pP_blind, va_recv hK hP (ci := 0) (q0 := 0) rfl rfl, pP_pre hP hK⟩ rfl rfl hl.1 rfl (lv_room (Nat.le_of_ble_eq_true rfl)) dX0_checkDraft_2 ⟨Nat.zero_le _, Nat.zero_le _⟩) ?_
    refine q_ifB_eq (b := decide (j < dc)) (tgt := 18) hx hb dX0_checkDraft_5 (by decide) (fun k5 => absurd k5 (by rw [decide_eq_true hj]; decide)) (fun k5 => ?_)
    refine lv_aload_n hx hb dX0_checkDraft_8 rfl (lv_at hl 0 rfl) ?_
    refine va_get (D := D) (ci := 0) (v := .ref (ad 9)) (C := RX0) (T := TX0) (N := 16) hx hb hts (iX0_checkDraft) hown hK hP 0 rfl rfl 9 (by decide) (hts (.fieldLink RX0 39 "ShopHub" "draftStates" "[I") (by decide +kernel)) (fun _ h9 => h9) rfl dX0_checkDraft_9 ?_
    refine lv_iload_n hx hb dX0_checkDraft_12 rfl (lv_at hl 1 rfl) ?_
    refine q_ald nI ds hx hb hK hP 9 1 rfl rfl (k := j) (by omega) (Nat.le_of_ble_eq_true rfl) dX0_checkDraft_13 ?_
    refine lv_iconst (v := nI 4) hx hb dX0_checkDraft_14 (by decide) ?_
    refine q_icmpN_ne (a := ds j) (b := 4) (tgt := 28) (by omega) (by omega) hx hb dX0_checkDraft_15 (by decide) (fun k15 => absurd he k15) (fun k15 => ?_)
    obtain ⟨sa, hstr⟩ := hE.2.2.1 (170, "no such draft") (by decide +kernel)
    exact vx_throwS (is := 170) (text := "no such draft") (names := ["java/lang/RuntimeException", "java/lang/Exception"]) (A := nF) hx hb hlf hown (by decide +kernel) (by decide +kernel) (hts (.classLink RX0 122 "java/lang/IndexOutOfBoundsException") (by decide +kernel)) (hts (.initialized "java/lang/IndexOutOfBoundsException") (by decide +kernel)) hstr (vx_hat (B := tB "java/lang/IndexOutOfBoundsException") (fun w hw => hts w (thI_checkDraft w hw)) (by decide +kernel) (tE_B hE (by decide))) (by decide +kernel) hE.1 hE.2.1 va_S.rf (hl.1.trans hml.symm) dX0_checkDraft_18 dX0_checkDraft_21 dX0_checkDraft_22 dX0_checkDraft_24 dX0_checkDraft_27 (fun z hz => (hexc z hz).elim) (Nat.le_of_ble_eq_true rfl) (Nat.le_of_ble_eq_true rfl) (Nat.le_of_ble_eq_true rfl) (Nat.le_of_ble_eq_true rfl) hlocks (fun t ht h1 h2 => ⟨rfl, h1, h2⟩) (fun z hz => by cases hz) (Nat.le_refl 1) (Nat.le_refl 6)

set_option maxHeartbeats 4000000 in
set_option maxRecDepth 100000 in
theorem kX0_checkSightX (l : Launch) (D : va_G) (h : Nat) (ad : Nat → Nat) (cI cZ : ClassId) (ex : Nat → Bool) (pa : Nat → Option Nat) (di : Nat → Nat) (qu : Nat → Nat) (gc : Nat) (dg : Nat → Nat) (dp : Nat → Nat) (dv : Nat → Option Nat) (dd : Nat → Nat) (ds : Nat → Nat) (dc : Nat) (td : Nat) (ho : Nat → Option Nat) (ak : Nat → Bool) (se : Nat → Option Nat) (pr : Nat → Option Nat) (hlf : l.stackTraces = false) (g a x y : Int32) (hs : (gBad ex g ∨ ∃ j, j < 16 ∧ g = nI j ∧ ex j = true ∧ (aBad 6 a ∨ ∃ a2, a2 < 6 ∧ a = nI a2 ∧ (aBad 3 x ∨ ∃ x2, x2 < 3 ∧ x = nI x2 ∧ aBad 3 y)))) : vx_Met l yX0_checkSight wsX0_checkSight ({ frames := 7, cells := 1, slots := 6, locals := 103 } : Room) (tP D (hW h ad cI cZ ex pa di qu gc dg dp dv dd ds dc td ho ak se pr) (hT cI cZ) [.ref h, .int g, .int a, .int x, .int y]) nQ (tX "java/lang/IndexOutOfBoundsException") 1 6 nF := by
  refine vx_ofW (cc := cX0_checkSight) (maxL := 5) (ret := none) (by decide) rfl ?_
  intro p e s m args below meth c s₁ B hml hexc hv
  obtain ⟨rfl, hP, hK, hE⟩ := hv
  have hx := B.exec
  have hb := B.bytes
  have hr := B.returns
  have hts := atoms_spec (ws := wsX0_checkSight) B.pre
  have hown : s.vm.findClass RX0 = some m.cls := findClass_of_methodNamed B.named
  have hlocks := B.notSynchronized
  have hl := lv_entry ([.ref h, .int g, .int a, .int x, .int y]) (n := 5) (Nat.le_of_ble_eq_true rfl)
  rw [lg_entry_eq]
  generalize (lg_sl ([.ref h, .int g, .int a, .int x, .int y]) ++ List.replicate (5 - (lg_sl ([.ref h, .int g, .int a, .int x, .int y])).length) Slot.unset).toArray = ls at hl ⊢
  have hl : lv_has ls 5 [(0, .ref h), (1, .int g), (2, .int a), (3, .int x), (4, .int y)] := hl
  rcases hs with hs | ⟨j, hj, rfl, he, hs⟩
  · refine lv_aload_n hx hb dX0_checkSight_0 rfl (lv_at hl 0 rfl) ?_
    refine lv_iload_n hx hb dX0_checkSight_1 rfl (lv_at hl 1 rfl) ?_
    exact q_callT hlocks hexc (vx_runV (As := [.int g]) (rest := []) ⟨hx, hb, hml, hown, hts⟩ (kX0_checkGoodX l D h ad cI cZ ex pa di qu gc dg dp dv dd ds dc td ho ak se pr hlf g hs) (cwV 1 hts gX0_checkSight_X0_checkGood rfl rfl rfl (by decide +kernel) ⟨Nat.le_of_ble_eq_true rfl, Nat.le_of_ble_eq_true rfl⟩) ⟨tP_blind, va_recv hK hP (ci := 0) (q0 := 0) rfl rfl, tP_pre hP hK hE⟩ rfl rfl hl.1 rfl (lv_room (Nat.le_of_ble_eq_true rfl)) dX0_checkSight_2 ⟨Nat.le_of_ble_eq_true rfl, Nat.le_of_ble_eq_true rfl⟩)
  · refine lv_aload_n hx hb dX0_checkSight_0 rfl (lv_at hl 0 rfl) ?_
    refine lv_iload_n hx hb dX0_checkSight_1 rfl (lv_at hl 1 rfl) ?_
    refine q_callV (va_runV (As := [.int (nI j)]) (rest := []) ⟨hx, hb, hml, hown, hts⟩ (kX0_checkGood l D h ad cI cZ ex pa di qu gc dg dp dv dd ds dc td ho ak se pr j hj he) (cwV 1 hts gX0_checkSight_X0_checkGood rfl rfl rfl (by decide +kernel) ⟨Nat.le_of_ble_eq_true rfl, Nat.le_of_ble_eq_true rfl⟩) ⟨pP_blind, va_recv hK hP (ci := 0) (q0 := 0) rfl rfl, pP_pre hP hK⟩ rfl rfl hl.1 rfl (lv_room (Nat.le_of_ble_eq_true rfl)) dX0_checkSight_2 ⟨Nat.zero_le _, Nat.zero_le _⟩) ?_
    rcases hs with hs | ⟨a2, ha, rfl, hs⟩
    · refine lv_iload_n hx hb dX0_checkSight_5 rfl (lv_at hl 2 rfl) ?_
      exact q_callT hlocks hexc (vx_runS (As := [.int a]) (rest := []) ⟨hx, hb, hml, hown, hts⟩ (kX0_checkAttributeX l hlf a hs) (cwS 1 hts gX0_checkSight_X0_checkAttribute rfl rfl rfl (by decide +kernel) ⟨Nat.le_of_ble_eq_true rfl, Nat.le_of_ble_eq_true rfl⟩) ⟨tPS_blind, tPS_pre hE⟩ rfl rfl hl.1 rfl (lv_room (Nat.le_of_ble_eq_true rfl)) dX0_checkSight_6 ⟨Nat.le_of_ble_eq_true rfl, Nat.le_of_ble_eq_true rfl⟩)
    · refine lv_iload_n hx hb dX0_checkSight_5 rfl (lv_at hl 2 rfl) ?_
      refine q_callV (va_runS (As := [.int (nI a2)]) (rest := []) ⟨hx, hb, hml, hown, hts⟩ (kX0_checkAttribute l a2 ha) (cwS 1 hts gX0_checkSight_X0_checkAttribute rfl rfl rfl (by decide +kernel) ⟨Nat.le_of_ble_eq_true rfl, Nat.le_of_ble_eq_true rfl⟩) ⟨sP_blind, sP_pre⟩ rfl rfl hl.1 rfl (lv_room (Nat.le_of_ble_eq_true rfl)) dX0_checkSight_6 ⟨Nat.zero_le _, Nat.zero_le _⟩) ?_
      rcases hs with hs | ⟨x2, hx2, rfl, hs⟩
      · refine lv_iload_n hx hb dX0_checkSight_9 rfl (lv_at hl 3 rfl) ?_
        exact q_callT hlocks hexc (vx_runS (As := [.int x]) (rest := []) ⟨hx, hb, hml, hown, hts⟩ (kX0_checkShopX l hlf x hs) (cwS 1 hts gX0_checkSight_X0_checkShop rfl rfl rfl (by decide +kernel) ⟨Nat.le_of_ble_eq_true rfl, Nat.le_of_ble_eq_true rfl⟩) ⟨tPS_blind, tPS_pre hE⟩ rfl rfl hl.1 rfl (lv_room (Nat.le_of_ble_eq_true rfl)) dX0_checkSight_10 ⟨Nat.le_of_ble_eq_true rfl, Nat.le_of_ble_eq_true rfl⟩)
      · refine lv_iload_n hx hb dX0_checkSight_9 rfl (lv_at hl 3 rfl) ?_
        refine q_callV (va_runS (As := [.int (nI x2)]) (rest := []) ⟨hx, hb, hml, hown, hts⟩ (kX0_checkShop l x2 hx2) (cwS 1 hts gX0_checkSight_X0_checkShop rfl rfl rfl (by decide +kernel) ⟨Nat.le_of_ble_eq_true rfl, Nat.le_of_ble_eq_true rfl⟩) ⟨sP_blind, sP_pre⟩ rfl rfl hl.1 rfl (lv_room (Nat.le_of_ble_eq_true rfl)) dX0_checkSight_10 ⟨Nat.zero_le _, Nat.zero_le _⟩) ?_
        refine lv_iload hx hb dX0_checkSight_13 (lv_at hl 4 rfl) ?_
        exact q_callT hlocks hexc (vx_runS (As := [.int y]) (rest := []) ⟨hx, hb, hml, hown, hts⟩ (kX0_checkTongueX l hlf y hs) (cwS 1 hts gX0_checkSight_X0_checkTongue rfl rfl rfl (by decide +kernel) ⟨Nat.le_of_ble_eq_true rfl, Nat.le_of_ble_eq_true rfl⟩) ⟨tPS_blind, tPS_pre hE⟩ rfl rfl hl.1 rfl (lv_room (Nat.le_of_ble_eq_true rfl)) dX0_checkSight_15 ⟨Nat.le_of_ble_eq_true rfl, Nat.le_of_ble_eq_true rfl⟩)

set_option maxHeartbeats 4000000 in
set_option maxRecDepth 100000 in
theorem kX0_addGoodXI (l : Launch) (D : va_G) (h : Nat) (ad : Nat → Nat) (cI cZ : ClassId) (ex : Nat → Bool) (pa : Nat → Option Nat) (di : Nat → Nat) (qu : Nat → Nat) (gc : Nat) (dg : Nat → Nat) (dp : Nat → Nat) (dv : Nat → Option Nat) (dd : Nat → Nat) (ds : Nat → Nat) (dc : Nat) (td : Nat) (ho : Nat → Option Nat) (ak : Nat → Bool) (se : Nat → Option Nat) (pr : Nat → Option Nat) (hlf : l.stackTraces = false) (g : Int32) (hg : gBad ex g) (hne : g ≠ -1) : vx_Met l yX0_addGood wsX0_addGood ({ frames := 7, cells := 1, slots := 6, locals := 103 } : Room) (tP D (hW h ad cI cZ ex pa di qu gc dg dp dv dd ds dc td ho ak se pr) (hT cI cZ) [.ref h, .int g]) nQ (tX "java/lang/IndexOutOfBoundsException") 1 6 nF := by
  refine vx_ofW (cc := cX0_addGood) (maxL := 3) (ret := (some .int)) (by decide) rfl ?_
  intro p e s m args below meth c s₁ B hml hexc hv
  obtain ⟨rfl, hP, hK, hE⟩ := hv
  have hx := B.exec
  have hb := B.bytes
  have hr := B.returns
  have hts := atoms_spec (ws := wsX0_addGood) B.pre
  have hown : s.vm.findClass RX0 = some m.cls := findClass_of_methodNamed B.named
  have hlocks := B.notSynchronized
  have hl := lv_entry ([.ref h, .int g]) (n := 3) (Nat.le_of_ble_eq_true rfl)
  rw [lg_entry_eq]
  generalize (lg_sl ([.ref h, .int g]) ++ List.replicate (3 - (lg_sl ([.ref h, .int g])).length) Slot.unset).toArray = ls at hl ⊢
  have hl : lv_has ls 3 [(0, .ref h), (1, .int g)] := hl
  refine lv_aload_n hx hb dX0_addGood_0 rfl (lv_at hl 0 rfl) ?_
  refine lv_iload_n hx hb dX0_addGood_1 rfl (lv_at hl 1 rfl) ?_
  exact q_callT hlocks hexc (vx_runV (As := [.int g]) (rest := []) ⟨hx, hb, hml, hown, hts⟩ (kX0_checkParentX l D h ad cI cZ ex pa di qu gc dg dp dv dd ds dc td ho ak se pr hlf g hg hne) (cwV 1 hts gX0_addGood_X0_checkParent rfl rfl rfl (by decide +kernel) ⟨Nat.le_of_ble_eq_true rfl, Nat.le_of_ble_eq_true rfl⟩) ⟨tP_blind, va_recv hK hP (ci := 0) (q0 := 0) rfl rfl, tP_pre hP hK hE⟩ rfl rfl hl.1 rfl (lv_room (Nat.le_of_ble_eq_true rfl)) dX0_addGood_2 ⟨Nat.le_of_ble_eq_true rfl, Nat.le_of_ble_eq_true rfl⟩)

set_option maxHeartbeats 4000000 in
set_option maxRecDepth 100000 in
theorem kX0_addGoodXS (l : Launch) (D : va_G) (h : Nat) (ad : Nat → Nat) (cI cZ : ClassId) (ex : Nat → Bool) (pa : Nat → Option Nat) (di : Nat → Nat) (qu : Nat → Nat) (gc : Nat) (dg : Nat → Nat) (dp : Nat → Nat) (dv : Nat → Option Nat) (dd : Nat → Nat) (ds : Nat → Nat) (dc : Nat) (td : Nat) (ho : Nat → Option Nat) (ak : Nat → Bool) (se : Nat → Option Nat) (pr : Nat → Option Nat) (hlf : l.stackTraces = false) (o : Option Nat) (lev : Nat → Nat) (hti : TI ex pa lev) (ho2 : okO ex o) (hgc : gc ≤ 16) (hbad : lvZ lev o = 2 ∨ gc = 16) : vx_Met l yX0_addGood wsX0_addGood ({ frames := 6, cells := 1, slots := 6, locals := 82 } : Room) (tP D (hW h ad cI cZ ex pa di qu gc dg dp dv dd ds dc td ho ak se pr) (hT cI cZ) [.ref h, .int (oI o)]) nQ (tX "java/lang/IllegalStateException") 1 6 nF := by
  refine vx_ofW (cc := cX0_addGood) (maxL := 3) (ret := (some .int)) (by decide) rfl ?_
  intro p e s m args below meth c s₁ B hml hexc hv
  obtain ⟨rfl, hP, hK, hE⟩ := hv
  have hx := B.exec
  have hb := B.bytes
  have hr := B.returns
  have hts := atoms_spec (ws := wsX0_addGood) B.pre
  have hown : s.vm.findClass RX0 = some m.cls := findClass_of_methodNamed B.named
  have hlocks := B.notSynchronized
  have hl := lv_entry ([.ref h, .int (oI o)]) (n := 3) (Nat.le_of_ble_eq_true rfl)
  rw [lg_entry_eq]
  generalize (lg_sl ([.ref h, .int (oI o)]) ++ List.replicate (3 - (lg_sl ([.ref h, .int (oI o)])).length) Slot.unset).toArray = ls at hl ⊢
  have hl : lv_has ls 3 [(0, .ref h), (1, .int (oI o))] := hl
  have hL1 := lvZ_ge lev o
  have hL2 := lvZ_le hti ho2
  refine lv_aload_n hx hb dX0_addGood_0 rfl (lv_at hl 0 rfl) ?_
  refine lv_iload_n hx hb dX0_addGood_1 rfl (lv_at hl 1 rfl) ?_
  refine q_callV (va_runV (As := [.int (oI o)]) (rest := []) ⟨hx, hb, hml, hown, hts⟩ (kX0_checkParent l D h ad cI cZ ex pa di qu gc dg dp dv dd ds dc td ho ak se pr o ho2) (cwV 1 hts gX0_addGood_X0_checkParent rfl rfl rfl (by decide +kernel) ⟨Nat.le_of_ble_eq_true rfl, Nat.le_of_ble_eq_true rfl⟩) ⟨pP_blind, va_recv hK hP (ci := 0) (q0 := 0) rfl rfl, pP_pre hP hK⟩ rfl rfl hl.1 rfl (lv_room (Nat.le_of_ble_eq_true rfl)) dX0_addGood_2 ⟨Nat.zero_le _, Nat.zero_le _⟩) ?_
  refine lv_aload_n hx hb dX0_addGood_5 rfl (lv_at hl 0 rfl) ?_
  refine lv_iload_n hx hb dX0_addGood_6 rfl (lv_at hl 1 rfl) ?_
  refine q_callI (r := zI (lvZ lev o)) (va_runV (As := [.int (oI o)]) (rest := []) ⟨hx, hb, hml, hown, hts⟩ (kX0_levelOf l D h ad cI cZ ex pa di qu gc dg dp dv dd ds dc td ho ak se pr o lev hti ho2) (cwV 1 hts gX0_addGood_X0_levelOf rfl rfl rfl (by decide +kernel) ⟨Nat.le_of_ble_eq_true rfl, Nat.le_of_ble_eq_true rfl⟩) ⟨pP_blind, va_recv hK hP (ci := 0) (q0 := 0) rfl rfl, pP_pre hP hK⟩ rfl rfl hl.1 rfl (lv_room (Nat.le_of_ble_eq_true rfl)) dX0_addGood_7 ⟨Nat.zero_le _, Nat.zero_le _⟩) ?_
  refine lv_iconst (v := nI 1) hx hb dX0_addGood_10 (by decide) ?_
  refine q_top (y := zI ((1 : Nat) : Int)) (nz 1) ?_
  refine q_addZ (a := lvZ lev o) (b := ((1 : Nat) : Int)) hx hb dX0_addGood_11 ?_
  refine lv_iconst (v := nI 3) hx hb dX0_addGood_12 (by decide) ?_
  refine q_top (y := zI ((3 : Nat) : Int)) (nz 3) ?_
  refine q_icmpZ_lt (a := (lvZ lev o) + ((1 : Nat) : Int)) (b := ((3 : Nat) : Int)) (tgt := 26) (by omega) (by omega) hx hb dX0_addGood_13 (by decide) (fun k13 => ?_) (fun k13 => ?_)
  · refine lv_aload_n hx hb dX0_addGood_26 rfl (lv_at hl 0 rfl) ?_
    refine va_get (D := D) (ci := 0) (v := .int (nI gc)) (C := RX0) (T := TX0) (N := 16) hx hb hts (iX0_addGood) hown hK hP 0 rfl rfl 4 (by decide) (hts (.fieldLink RX0 23 "ShopHub" "goodCount" "I") (by decide +kernel)) (fun _ h9 => h9) rfl dX0_addGood_27 ?_
    refine lv_bipush (v := nI 16) hx hb dX0_addGood_30 (by decide) ?_
    refine q_icmpN_lt (a := gc) (b := 16) (tgt := 45) (by omega) (by omega) hx hb dX0_addGood_32 (by decide) (fun k32 => absurd k32 (by omega)) (fun k32 => ?_)
    obtain ⟨sa, hstr⟩ := hE.2.2.1 (75, "there have been 16 goods") (by decide +kernel)
    exact vx_throwS (is := 75) (text := "there have been 16 goods") (names := ["java/lang/RuntimeException", "java/lang/Exception"]) (A := nF) hx hb hlf hown (by decide +kernel) (by decide +kernel) (hts (.classLink RX0 68 "java/lang/IllegalStateException") (by decide +kernel)) (hts (.initialized "java/lang/IllegalStateException") (by decide +kernel)) hstr (vx_hat (B := tB "java/lang/IllegalStateException") (fun w hw => hts w (thS_addGood w hw)) (by decide +kernel) (tE_B hE (by decide))) (by decide +kernel) hE.1 hE.2.1 va_S.rf (hl.1.trans hml.symm) dX0_addGood_35 dX0_addGood_38 dX0_addGood_39 dX0_addGood_41 dX0_addGood_44 (fun z hz => (hexc z hz).elim) (Nat.le_of_ble_eq_true rfl) (Nat.le_of_ble_eq_true rfl) (Nat.le_of_ble_eq_true rfl) (Nat.le_of_ble_eq_true rfl) hlocks (fun t ht h1 h2 => ⟨rfl, h1, h2⟩) (fun z hz => by cases hz) (Nat.le_refl 1) (Nat.le_refl 6)
  · obtain ⟨sa, hstr⟩ := hE.2.2.1 (70, "the parent is at the deepest level") (by decide +kernel)
    exact vx_throwS (is := 70) (text := "the parent is at the deepest level") (names := ["java/lang/RuntimeException", "java/lang/Exception"]) (A := nF) hx hb hlf hown (by decide +kernel) (by decide +kernel) (hts (.classLink RX0 68 "java/lang/IllegalStateException") (by decide +kernel)) (hts (.initialized "java/lang/IllegalStateException") (by decide +kernel)) hstr (vx_hat (B := tB "java/lang/IllegalStateException") (fun w hw => hts w (thS_addGood w hw)) (by decide +kernel) (tE_B hE (by decide))) (by decide +kernel) hE.1 hE.2.1 va_S.rf (hl.1.trans hml.symm) dX0_addGood_16 dX0_addGood_19 dX0_addGood_20 dX0_addGood_22 dX0_addGood_25 (fun z hz => (hexc z hz).elim) (Nat.le_of_ble_eq_true rfl) (Nat.le_of_ble_eq_true rfl) (Nat.le_of_ble_eq_true rfl) (Nat.le_of_ble_eq_true rfl) hlocks (fun t ht h1 h2 => ⟨rfl, h1, h2⟩) (fun z hz => by cases hz) (Nat.le_refl 1) (Nat.le_refl 6)

set_option maxHeartbeats 4000000 in
set_option maxRecDepth 100000 in
theorem kX0_moveXI (l : Launch) (D : va_G) (h : Nat) (ad : Nat → Nat) (cI cZ : ClassId) (ex : Nat → Bool) (pa : Nat → Option Nat) (di : Nat → Nat) (qu : Nat → Nat) (gc : Nat) (dg : Nat → Nat) (dp : Nat → Nat) (dv : Nat → Option Nat) (dd : Nat → Nat) (ds : Nat → Nat) (dc : Nat) (td : Nat) (ho : Nat → Option Nat) (ak : Nat → Bool) (se : Nat → Option Nat) (pr : Nat → Option Nat) (hlf : l.stackTraces = false) (g o : Int32) (hg : gBad ex g ∨ ∃ j, j < 16 ∧ g = nI j ∧ ex j = true ∧ gBad ex o ∧ o ≠ -1) : vx_Met l yX0_move wsX0_move ({ frames := 7, cells := 1, slots := 6, locals := 103 } : Room) (tP D (hW h ad cI cZ ex pa di qu gc dg dp dv dd ds dc td ho ak se pr) (hT cI cZ) [.ref h, .int g, .int o]) nQ (tX "java/lang/IndexOutOfBoundsException") 1 6 nF := by
  refine vx_ofW (cc := cX0_move) (maxL := 4) (ret := (some .int)) (by decide) rfl ?_
  intro p e s m args below meth c s₁ B hml hexc hv
  obtain ⟨rfl, hP, hK, hE⟩ := hv
  have hx := B.exec
  have hb := B.bytes
  have hr := B.returns
  have hts := atoms_spec (ws := wsX0_move) B.pre
  have hown : s.vm.findClass RX0 = some m.cls := findClass_of_methodNamed B.named
  have hlocks := B.notSynchronized
  have hl := lv_entry ([.ref h, .int g, .int o]) (n := 4) (Nat.le_of_ble_eq_true rfl)
  rw [lg_entry_eq]
  generalize (lg_sl ([.ref h, .int g, .int o]) ++ List.replicate (4 - (lg_sl ([.ref h, .int g, .int o])).length) Slot.unset).toArray = ls at hl ⊢
  have hl : lv_has ls 4 [(0, .ref h), (1, .int g), (2, .int o)] := hl
  rcases hg with hg | ⟨j, hj, rfl, he, hg, hne⟩
  · refine lv_aload_n hx hb dX0_move_0 rfl (lv_at hl 0 rfl) ?_
    refine lv_iload_n hx hb dX0_move_1 rfl (lv_at hl 1 rfl) ?_
    exact q_callT hlocks hexc (vx_runV (As := [.int g]) (rest := []) ⟨hx, hb, hml, hown, hts⟩ (kX0_checkGoodX l D h ad cI cZ ex pa di qu gc dg dp dv dd ds dc td ho ak se pr hlf g hg) (cwV 1 hts gX0_move_X0_checkGood rfl rfl rfl (by decide +kernel) ⟨Nat.le_of_ble_eq_true rfl, Nat.le_of_ble_eq_true rfl⟩) ⟨tP_blind, va_recv hK hP (ci := 0) (q0 := 0) rfl rfl, tP_pre hP hK hE⟩ rfl rfl hl.1 rfl (lv_room (Nat.le_of_ble_eq_true rfl)) dX0_move_2 ⟨Nat.le_of_ble_eq_true rfl, Nat.le_of_ble_eq_true rfl⟩)
  · refine lv_aload_n hx hb dX0_move_0 rfl (lv_at hl 0 rfl) ?_
    refine lv_iload_n hx hb dX0_move_1 rfl (lv_at hl 1 rfl) ?_
    refine q_callV (va_runV (As := [.int (nI j)]) (rest := []) ⟨hx, hb, hml, hown, hts⟩ (kX0_checkGood l D h ad cI cZ ex pa di qu gc dg dp dv dd ds dc td ho ak se pr j hj he) (cwV 1 hts gX0_move_X0_checkGood rfl rfl rfl (by decide +kernel) ⟨Nat.le_of_ble_eq_true rfl, Nat.le_of_ble_eq_true rfl⟩) ⟨pP_blind, va_recv hK hP (ci := 0) (q0 := 0) rfl rfl, pP_pre hP hK⟩ rfl rfl hl.1 rfl (lv_room (Nat.le_of_ble_eq_true rfl)) dX0_move_2 ⟨Nat.zero_le _, Nat.zero_le _⟩) ?_
    refine lv_aload_n hx hb dX0_move_5 rfl (lv_at hl 0 rfl) ?_
    refine lv_iload_n hx hb dX0_move_6 rfl (lv_at hl 2 rfl) ?_
    exact q_callT hlocks hexc (vx_runV (As := [.int o]) (rest := []) ⟨hx, hb, hml, hown, hts⟩ (kX0_checkParentX l D h ad cI cZ ex pa di qu gc dg dp dv dd ds dc td ho ak se pr hlf o hg hne) (cwV 1 hts gX0_move_X0_checkParent rfl rfl rfl (by decide +kernel) ⟨Nat.le_of_ble_eq_true rfl, Nat.le_of_ble_eq_true rfl⟩) ⟨tP_blind, va_recv hK hP (ci := 0) (q0 := 0) rfl rfl, tP_pre hP hK hE⟩ rfl rfl hl.1 rfl (lv_room (Nat.le_of_ble_eq_true rfl)) dX0_move_7 ⟨Nat.le_of_ble_eq_true rfl, Nat.le_of_ble_eq_true rfl⟩)

set_option maxHeartbeats 4000000 in
set_option maxRecDepth 100000 in
theorem kX0_moveXS (l : Launch) (D : va_G) (h : Nat) (ad : Nat → Nat) (cI cZ : ClassId) (ex : Nat → Bool) (pa : Nat → Option Nat) (di : Nat → Nat) (qu : Nat → Nat) (gc : Nat) (dg : Nat → Nat) (dp : Nat → Nat) (dv : Nat → Option Nat) (dd : Nat → Nat) (ds : Nat → Nat) (dc : Nat) (td : Nat) (ho : Nat → Option Nat) (ak : Nat → Bool) (se : Nat → Option Nat) (pr : Nat → Option Nat) (hlf : l.stackTraces = false) (g : Nat) (o : Option Nat) (lev : Nat → Nat) (hti : TI ex pa lev) (hpr : PR pa) (hg : g < 16) (he : ex g = true) (ho2 : okO ex o) (hbad : wth ex pa g 3 o = true ∨ (wth ex pa g 3 o = false ∧ 3 ≤ lvZ lev o + ((mxd (fun k => wth ex pa g 3 (some k)) lev (lev g) 16 : Nat) : Int) - ((lev g : Nat) : Int) + 1)) : vx_Met l yX0_move wsX0_move ({ frames := 6, cells := 1, slots := 6, locals := 82 } : Room) (tP D (hW h ad cI cZ ex pa di qu gc dg dp dv dd ds dc td ho ak se pr) (hT cI cZ) [.ref h, .int (nI g), .int (oI o)]) nQ (tX "java/lang/IllegalStateException") 1 6 nF := by
  refine vx_ofW (cc := cX0_move) (maxL := 4) (ret := (some .int)) (by decide) rfl ?_
  intro p e s m args below meth c s₁ B hml hexc hv
  obtain ⟨rfl, hP, hK, hE⟩ := hv
  have hx := B.exec
  have hb := B.bytes
  have hr := B.returns
  have hts := atoms_spec (ws := wsX0_move) B.pre
  have hown : s.vm.findClass RX0 = some m.cls := findClass_of_methodNamed B.named
  have hlocks := B.notSynchronized
  have hl := lv_entry ([.ref h, .int (nI g), .int (oI o)]) (n := 4) (Nat.le_of_ble_eq_true rfl)
  rw [lg_entry_eq]
  generalize (lg_sl ([.ref h, .int (nI g), .int (oI o)]) ++ List.replicate (4 - (lg_sl ([.ref h, .int (nI g), .int (oI o)])).length) Slot.unset).toArray = ls at hl ⊢
  have hl : lv_has ls 4 [(0, .ref h), (1, .int (nI g)), (2, .int (oI o))] := hl
  have hL1 := lvZ_ge lev o
  have hL2 := lvZ_le hti ho2
  have hM1 : mxd (fun k => wth ex pa g 3 (some k)) lev (lev g) 16 ≤ 2 := mxd_le (TI_le hti hg he) (fun k hk h9 => TI_le hti hk (wth_ex h9)) 16 (Nat.le_refl 16)
  have hM2 := TI_le hti hg he
  refine lv_aload_n hx hb dX0_move_0 rfl (lv_at hl 0 rfl) ?_
  refine lv_iload_n hx hb dX0_move_1 rfl (lv_at hl 1 rfl) ?_
  refine q_callV (va_runV (As := [.int (nI g)]) (rest := []) ⟨hx, hb, hml, hown, hts⟩ (kX0_checkGood l D h ad cI cZ ex pa di qu gc dg dp dv dd ds dc td ho ak se pr g hg he) (cwV 1 hts gX0_move_X0_checkGood rfl rfl rfl (by decide +kernel) ⟨Nat.le_of_ble_eq_true rfl, Nat.le_of_ble_eq_true rfl⟩) ⟨pP_blind, va_recv hK hP (ci := 0) (q0 := 0) rfl rfl, pP_pre hP hK⟩ rfl rfl hl.1 rfl (lv_room (Nat.le_of_ble_eq_true rfl)) dX0_move_2 ⟨Nat.zero_le _, Nat.zero_le _⟩) ?_
  refine lv_aload_n hx hb dX0_move_5 rfl (lv_at hl 0 rfl) ?_
  refine lv_iload_n hx hb dX0_move_6 rfl (lv_at hl 2 rfl) ?_
  refine q_callV (va_runV (As := [.int (oI o)]) (rest := []) ⟨hx, hb, hml, hown, hts⟩ (kX0_checkParent l D h ad cI cZ ex pa di qu gc dg dp dv dd ds dc td ho ak se pr o ho2) (cwV 1 hts gX0_move_X0_checkParent rfl rfl rfl (by decide +kernel) ⟨Nat.le_of_ble_eq_true rfl, Nat.le_of_ble_eq_true rfl⟩) ⟨pP_blind, va_recv hK hP (ci := 0) (q0 := 0) rfl rfl, pP_pre hP hK⟩ rfl rfl hl.1 rfl (lv_room (Nat.le_of_ble_eq_true rfl)) dX0_move_7 ⟨Nat.zero_le _, Nat.zero_le _⟩) ?_
  refine lv_aload_n hx hb dX0_move_10 rfl (lv_at hl 0 rfl) ?_
  refine lv_iload_n hx hb dX0_move_11 rfl (lv_at hl 2 rfl) ?_
  refine lv_iload_n hx hb dX0_move_12 rfl (lv_at hl 1 rfl) ?_
  refine q_callI (r := bI (wth ex pa g 3 o)) (va_runV (As := [.int (oI o), .int (nI g)]) (rest := []) ⟨hx, hb, hml, hown, hts⟩ (kX0_isWithin l D h ad cI cZ ex pa di qu gc dg dp dv dd ds dc td ho ak se pr o g hg hpr (fun k h9 => (ho2 k h9).1)) (cwV 2 hts gX0_move_X0_isWithin rfl rfl rfl (by decide +kernel) ⟨Nat.le_of_ble_eq_true rfl, Nat.le_of_ble_eq_true rfl⟩) ⟨pP_blind, va_recv hK hP (ci := 0) (q0 := 0) rfl rfl, pP_pre hP hK⟩ rfl rfl hl.1 rfl (lv_room (Nat.le_of_ble_eq_true rfl)) dX0_move_13 ⟨Nat.zero_le _, Nat.zero_le _⟩) ?_
  refine q_ifB_eq (b := wth ex pa g 3 o) (tgt := 29) hx hb dX0_move_16 (by decide) (fun k16 => ?_) (fun k16 => ?_)
  · have hb2 := (hbad.resolve_left (by rw [k16]; decide)).2
    refine lv_aload_n hx hb dX0_move_29 rfl (lv_at hl 0 rfl) ?_
    refine lv_iload_n hx hb dX0_move_30 rfl (lv_at hl 2 rfl) ?_
    refine q_callI (r := zI (lvZ lev o)) (va_runV (As := [.int (oI o)]) (rest := []) ⟨hx, hb, hml, hown, hts⟩ (kX0_levelOf l D h ad cI cZ ex pa di qu gc dg dp dv dd ds dc td ho ak se pr o lev hti ho2) (cwV 1 hts gX0_move_X0_levelOf rfl rfl rfl (by decide +kernel) ⟨Nat.le_of_ble_eq_true rfl, Nat.le_of_ble_eq_true rfl⟩) ⟨pP_blind, va_recv hK hP (ci := 0) (q0 := 0) rfl rfl, pP_pre hP hK⟩ rfl rfl hl.1 rfl (lv_room (Nat.le_of_ble_eq_true rfl)) dX0_move_31 ⟨Nat.zero_le _, Nat.zero_le _⟩) ?_
    refine lv_aload_n hx hb dX0_move_34 rfl (lv_at hl 0 rfl) ?_
    refine lv_iload_n hx hb dX0_move_35 rfl (lv_at hl 1 rfl) ?_
    refine q_callI (r := zI (((mxd (fun k => wth ex pa g 3 (some k)) lev (lev g) 16 : Nat) : Int) - ((lev g : Nat) : Int) + 1)) (va_runV (As := [.int (nI g)]) (rest := [.int (zI (lvZ lev o))]) ⟨hx, hb, hml, hown, hts⟩ (kX0_levelsWithin l D h ad cI cZ ex pa di qu gc dg dp dv dd ds dc td ho ak se pr g lev hg he hti hpr) (cwV 1 hts gX0_move_X0_levelsWithin rfl rfl rfl (by decide +kernel) ⟨Nat.le_of_ble_eq_true rfl, Nat.le_of_ble_eq_true rfl⟩) ⟨pP_blind, va_recv hK hP (ci := 0) (q0 := 0) rfl rfl, pP_pre hP hK⟩ rfl rfl hl.1 rfl (lv_room (Nat.le_of_ble_eq_true rfl)) dX0_move_36 ⟨Nat.zero_le _, Nat.zero_le _⟩) ?_
    refine q_addZ (a := lvZ lev o) (b := ((mxd (fun k => wth ex pa g 3 (some k)) lev (lev g) 16 : Nat) : Int) - ((lev g : Nat) : Int) + 1) hx hb dX0_move_39 ?_
    refine lv_iconst (v := nI 3) hx hb dX0_move_40 (by decide) ?_
    refine q_top (y := zI ((3 : Nat) : Int)) (nz 3) ?_
    refine q_icmpZ_lt (a := (lvZ lev o) + (((mxd (fun k => wth ex pa g 3 (some k)) lev (lev g) 16 : Nat) : Int) - ((lev g : Nat) : Int) + 1)) (b := ((3 : Nat) : Int)) (tgt := 54) (by omega) (by omega) hx hb dX0_move_41 (by decide) (fun k41 => absurd k41 (by omega)) (fun k41 => ?_)
    obtain ⟨sa, hstr⟩ := hE.2.2.1 (89, "some good would be too deep") (by decide +kernel)
    exact vx_throwS (is := 89) (text := "some good would be too deep") (names := ["java/lang/RuntimeException", "java/lang/Exception"]) (A := nF) hx hb hlf hown (by decide +kernel) (by decide +kernel) (hts (.classLink RX0 68 "java/lang/IllegalStateException") (by decide +kernel)) (hts (.initialized "java/lang/IllegalStateException") (by decide +kernel)) hstr (vx_hat (B := tB "java/lang/IllegalStateException") (fun w hw => hts w (thS_move w hw)) (by decide +kernel) (tE_B hE (by decide))) (by decide +kernel) hE.1 hE.2.1 va_S.rf (hl.1.trans hml.symm) dX0_move_44 dX0_move_47 dX0_move_48 dX0_move_50 dX0_move_53 (fun z hz => (hexc z hz).elim) (Nat.le_of_ble_eq_true rfl) (Nat.le_of_ble_eq_true rfl) (Nat.le_of_ble_eq_true rfl) (Nat.le_of_ble_eq_true rfl) hlocks (fun t ht h1 h2 => ⟨rfl, h1, h2⟩) (fun z hz => by cases hz) (Nat.le_refl 1) (Nat.le_refl 6)
  · obtain ⟨sa, hstr⟩ := hE.2.2.1 (84, "the parent is the good itself or below it") (by decide +kernel)
    exact vx_throwS (is := 84) (text := "the parent is the good itself or below it") (names := ["java/lang/RuntimeException", "java/lang/Exception"]) (A := nF) hx hb hlf hown (by decide +kernel) (by decide +kernel) (hts (.classLink RX0 68 "java/lang/IllegalStateException") (by decide +kernel)) (hts (.initialized "java/lang/IllegalStateException") (by decide +kernel)) hstr (vx_hat (B := tB "java/lang/IllegalStateException") (fun w hw => hts w (thS_move w hw)) (by decide +kernel) (tE_B hE (by decide))) (by decide +kernel) hE.1 hE.2.1 va_S.rf (hl.1.trans hml.symm) dX0_move_19 dX0_move_22 dX0_move_23 dX0_move_25 dX0_move_28 (fun z hz => (hexc z hz).elim) (Nat.le_of_ble_eq_true rfl) (Nat.le_of_ble_eq_true rfl) (Nat.le_of_ble_eq_true rfl) (Nat.le_of_ble_eq_true rfl) hlocks (fun t ht h1 h2 => ⟨rfl, h1, h2⟩) (fun z hz => by cases hz) (Nat.le_refl 1) (Nat.le_refl 6)

set_option maxHeartbeats 4000000 in
set_option maxRecDepth 100000 in
theorem kX0_deleteXI (l : Launch) (D : va_G) (h : Nat) (ad : Nat → Nat) (cI cZ : ClassId) (ex : Nat → Bool) (pa : Nat → Option Nat) (di : Nat → Nat) (qu : Nat → Nat) (gc : Nat) (dg : Nat → Nat) (dp : Nat → Nat) (dv : Nat → Option Nat) (dd : Nat → Nat) (ds : Nat → Nat) (dc : Nat) (td : Nat) (ho : Nat → Option Nat) (ak : Nat → Bool) (se : Nat → Option Nat) (pr : Nat → Option Nat) (hlf : l.stackTraces = false) (g : Int32) (hg : gBad ex g) : vx_Met l yX0_delete wsX0_delete ({ frames := 7, cells := 1, slots := 6, locals := 103 } : Room) (tP D (hW h ad cI cZ ex pa di qu gc dg dp dv dd ds dc td ho ak se pr) (hT cI cZ) [.ref h, .int g]) nQ (tX "java/lang/IndexOutOfBoundsException") 1 6 nF := by
  refine vx_ofW (cc := cX0_delete) (maxL := 3) (ret := none) (by decide) rfl ?_
  intro p e s m args below meth c s₁ B hml hexc hv
  obtain ⟨rfl, hP, hK, hE⟩ := hv
  have hx := B.exec
  have hb := B.bytes
  have hr := B.returns
  have hts := atoms_spec (ws := wsX0_delete) B.pre
  have hown : s.vm.findClass RX0 = some m.cls := findClass_of_methodNamed B.named
  have hlocks := B.notSynchronized
  have hl := lv_entry ([.ref h, .int g]) (n := 3) (Nat.le_of_ble_eq_true rfl)
  rw [lg_entry_eq]
  generalize (lg_sl ([.ref h, .int g]) ++ List.replicate (3 - (lg_sl ([.ref h, .int g])).length) Slot.unset).toArray = ls at hl ⊢
  have hl : lv_has ls 3 [(0, .ref h), (1, .int g)] := hl
  refine lv_aload_n hx hb dX0_delete_0 rfl (lv_at hl 0 rfl) ?_
  refine lv_iload_n hx hb dX0_delete_1 rfl (lv_at hl 1 rfl) ?_
  exact q_callT hlocks hexc (vx_runV (As := [.int g]) (rest := []) ⟨hx, hb, hml, hown, hts⟩ (kX0_checkGoodX l D h ad cI cZ ex pa di qu gc dg dp dv dd ds dc td ho ak se pr hlf g hg) (cwV 1 hts gX0_delete_X0_checkGood rfl rfl rfl (by decide +kernel) ⟨Nat.le_of_ble_eq_true rfl, Nat.le_of_ble_eq_true rfl⟩) ⟨tP_blind, va_recv hK hP (ci := 0) (q0 := 0) rfl rfl, tP_pre hP hK hE⟩ rfl rfl hl.1 rfl (lv_room (Nat.le_of_ble_eq_true rfl)) dX0_delete_2 ⟨Nat.le_of_ble_eq_true rfl, Nat.le_of_ble_eq_true rfl⟩)

set_option maxHeartbeats 4000000 in
set_option maxRecDepth 100000 in
theorem kX0_deleteXS (l : Launch) (D : va_G) (h : Nat) (ad : Nat → Nat) (cI cZ : ClassId) (ex : Nat → Bool) (pa : Nat → Option Nat) (di : Nat → Nat) (qu : Nat → Nat) (gc : Nat) (dg : Nat → Nat) (dp : Nat → Nat) (dv : Nat → Option Nat) (dd : Nat → Nat) (ds : Nat → Nat) (dc : Nat) (td : Nat) (ho : Nat → Option Nat) (ak : Nat → Bool) (se : Nat → Option Nat) (pr : Nat → Option Nat) (hlf : l.stackTraces = false) (g : Nat) (hg : g < 16) (he : ex g = true) (hpr : PR pa) (hqu : ∀ k, k < 256 → qu k ≤ 20) (hbad : exU (fun k => decide (pa k = some g)) 16 = true ∨ exU (fun k => decide (0 < qu (k * 16 + g))) 16 = true) : vx_Met l yX0_delete wsX0_delete ({ frames := 6, cells := 1, slots := 6, locals := 82 } : Room) (tP D (hW h ad cI cZ ex pa di qu gc dg dp dv dd ds dc td ho ak se pr) (hT cI cZ) [.ref h, .int (nI g)]) nQ (tX "java/lang/IllegalStateException") 1 6 nF := by
  refine vx_ofW (cc := cX0_delete) (maxL := 3) (ret := none) (by decide) rfl ?_
  intro p e s m args below meth c s₁ B hml hexc hv
  obtain ⟨rfl, hP, hK, hE⟩ := hv
  have hx := B.exec
  have hb := B.bytes
  have hr := B.returns
  have hts := atoms_spec (ws := wsX0_delete) B.pre
  have hown : s.vm.findClass RX0 = some m.cls := findClass_of_methodNamed B.named
  have hlocks := B.notSynchronized
  have hl := lv_entry ([.ref h, .int (nI g)]) (n := 3) (Nat.le_of_ble_eq_true rfl)
  rw [lg_entry_eq]
  generalize (lg_sl ([.ref h, .int (nI g)]) ++ List.replicate (3 - (lg_sl ([.ref h, .int (nI g)])).length) Slot.unset).toArray = ls at hl ⊢
  have hl : lv_has ls 3 [(0, .ref h), (1, .int (nI g))] := hl
  refine lv_aload_n hx hb dX0_delete_0 rfl (lv_at hl 0 rfl) ?_
  refine lv_iload_n hx hb dX0_delete_1 rfl (lv_at hl 1 rfl) ?_
  refine q_callV (va_runV (As := [.int (nI g)]) (rest := []) ⟨hx, hb, hml, hown, hts⟩ (kX0_checkGood l D h ad cI cZ ex pa di qu gc dg dp dv dd ds dc td ho ak se pr g hg he) (cwV 1 hts gX0_delete_X0_checkGood rfl rfl rfl (by decide +kernel) ⟨Nat.le_of_ble_eq_true rfl, Nat.le_of_ble_eq_true rfl⟩) ⟨pP_blind, va_recv hK hP (ci := 0) (q0 := 0) rfl rfl, pP_pre hP hK⟩ rfl rfl hl.1 rfl (lv_room (Nat.le_of_ble_eq_true rfl)) dX0_delete_2 ⟨Nat.zero_le _, Nat.zero_le _⟩) ?_
  refine lv_aload_n hx hb dX0_delete_5 rfl (lv_at hl 0 rfl) ?_
  refine lv_iload_n hx hb dX0_delete_6 rfl (lv_at hl 1 rfl) ?_
  refine q_callI (r := bI (exU (fun k => decide (pa k = some g)) 16)) (va_runV (As := [.int (nI g)]) (rest := []) ⟨hx, hb, hml, hown, hts⟩ (kX0_isParent l D h ad cI cZ ex pa di qu gc dg dp dv dd ds dc td ho ak se pr g hg hpr) (cwV 1 hts gX0_delete_X0_isParent rfl rfl rfl (by decide +kernel) ⟨Nat.le_of_ble_eq_true rfl, Nat.le_of_ble_eq_true rfl⟩) ⟨pP_blind, va_recv hK hP (ci := 0) (q0 := 0) rfl rfl, pP_pre hP hK⟩ rfl rfl hl.1 rfl (lv_room (Nat.le_of_ble_eq_true rfl)) dX0_delete_7 ⟨Nat.zero_le _, Nat.zero_le _⟩) ?_
  refine q_ifB_eq (b := exU (fun k => decide (pa k = some g)) 16) (tgt := 23) hx hb dX0_delete_10 (by decide) (fun k10 => ?_) (fun k10 => ?_)
  · refine lv_aload_n hx hb dX0_delete_23 rfl (lv_at hl 0 rfl) ?_
    refine lv_iload_n hx hb dX0_delete_24 rfl (lv_at hl 1 rfl) ?_
    refine q_callI (r := bI (exU (fun k => decide (0 < qu (k * 16 + g))) 16)) (va_runV (As := [.int (nI g)]) (rest := []) ⟨hx, hb, hml, hown, hts⟩ (kX0_isPart l D h ad cI cZ ex pa di qu gc dg dp dv dd ds dc td ho ak se pr g hg hqu) (cwV 1 hts gX0_delete_X0_isPart rfl rfl rfl (by decide +kernel) ⟨Nat.le_of_ble_eq_true rfl, Nat.le_of_ble_eq_true rfl⟩) ⟨pP_blind, va_recv hK hP (ci := 0) (q0 := 0) rfl rfl, pP_pre hP hK⟩ rfl rfl hl.1 rfl (lv_room (Nat.le_of_ble_eq_true rfl)) dX0_delete_25 ⟨Nat.zero_le _, Nat.zero_le _⟩) ?_
    refine q_ifB_eq (b := exU (fun k => decide (0 < qu (k * 16 + g))) 16) (tgt := 41) hx hb dX0_delete_28 (by decide) (fun k28 => absurd (hbad.resolve_left (by rw [k10]; decide)) (by rw [k28]; decide)) (fun k28 => ?_)
    obtain ⟨sa, hstr⟩ := hE.2.2.1 (100, "the good is a part of a good") (by decide +kernel)
    exact vx_throwS (is := 100) (text := "the good is a part of a good") (names := ["java/lang/RuntimeException", "java/lang/Exception"]) (A := nF) hx hb hlf hown (by decide +kernel) (by decide +kernel) (hts (.classLink RX0 68 "java/lang/IllegalStateException") (by decide +kernel)) (hts (.initialized "java/lang/IllegalStateException") (by decide +kernel)) hstr (vx_hat (B := tB "java/lang/IllegalStateException") (fun w hw => hts w (thS_delete w hw)) (by decide +kernel) (tE_B hE (by decide))) (by decide +kernel) hE.1 hE.2.1 va_S.rf (hl.1.trans hml.symm) dX0_delete_31 dX0_delete_34 dX0_delete_35 dX0_delete_37 dX0_delete_40 (fun z hz => (hexc z hz).elim) (Nat.le_of_ble_eq_true rfl) (Nat.le_of_ble_eq_true rfl) (Nat.le_of_ble_eq_true rfl) (Nat.le_of_ble_eq_true rfl) hlocks (fun t ht h1 h2 => ⟨rfl, h1, h2⟩) (fun z hz => by cases hz) (Nat.le_refl 1) (Nat.le_refl 6)
  · obtain ⟨sa, hstr⟩ := hE.2.2.1 (95, "the good is the parent of a good") (by decide +kernel)
    exact vx_throwS (is := 95) (text := "the good is the parent of a good") (names := ["java/lang/RuntimeException", "java/lang/Exception"]) (A := nF) hx hb hlf hown (by decide +kernel) (by decide +kernel) (hts (.classLink RX0 68 "java/lang/IllegalStateException") (by decide +kernel)) (hts (.initialized "java/lang/IllegalStateException") (by decide +kernel)) hstr (vx_hat (B := tB "java/lang/IllegalStateException") (fun w hw => hts w (thS_delete w hw)) (by decide +kernel) (tE_B hE (by decide))) (by decide +kernel) hE.1 hE.2.1 va_S.rf (hl.1.trans hml.symm) dX0_delete_13 dX0_delete_16 dX0_delete_17 dX0_delete_19 dX0_delete_22 (fun z hz => (hexc z hz).elim) (Nat.le_of_ble_eq_true rfl) (Nat.le_of_ble_eq_true rfl) (Nat.le_of_ble_eq_true rfl) (Nat.le_of_ble_eq_true rfl) hlocks (fun t ht h1 h2 => ⟨rfl, h1, h2⟩) (fun z hz => by cases hz) (Nat.le_refl 1) (Nat.le_refl 6)

set_option maxHeartbeats 4000000 in
set_option maxRecDepth 100000 in
theorem kX0_addPartXI (l : Launch) (D : va_G) (h : Nat) (ad : Nat → Nat) (cI cZ : ClassId) (ex : Nat → Bool) (pa : Nat → Option Nat) (di : Nat → Nat) (qu : Nat → Nat) (gc : Nat) (dg : Nat → Nat) (dp : Nat → Nat) (dv : Nat → Option Nat) (dd : Nat → Nat) (ds : Nat → Nat) (dc : Nat) (td : Nat) (ho : Nat → Option Nat) (ak : Nat → Bool) (se : Nat → Option Nat) (pr : Nat → Option Nat) (hlf : l.stackTraces = false) (g q w : Int32) (hg : gBad ex g ∨ ∃ j, j < 16 ∧ g = nI j ∧ ex j = true ∧ gBad ex q) : vx_Met l yX0_addPart wsX0_addPart ({ frames := 7, cells := 1, slots := 6, locals := 103 } : Room) (tP D (hW h ad cI cZ ex pa di qu gc dg dp dv dd ds dc td ho ak se pr) (hT cI cZ) [.ref h, .int g, .int q, .int w]) nQ (tX "java/lang/IndexOutOfBoundsException") 1 6 nF := by
  refine vx_ofW (cc := cX0_addPart) (maxL := 6) (ret := (some .int)) (by decide) rfl ?_
  intro p e s m args below meth c s₁ B hml hexc hv
  obtain ⟨rfl, hP, hK, hE⟩ := hv
  have hx := B.exec
  have hb := B.bytes
  have hr := B.returns
  have hts := atoms_spec (ws := wsX0_addPart) B.pre
  have hown : s.vm.findClass RX0 = some m.cls := findClass_of_methodNamed B.named
  have hlocks := B.notSynchronized
  have hl := lv_entry ([.ref h, .int g, .int q, .int w]) (n := 6) (Nat.le_of_ble_eq_true rfl)
  rw [lg_entry_eq]
  generalize (lg_sl ([.ref h, .int g, .int q, .int w]) ++ List.replicate (6 - (lg_sl ([.ref h, .int g, .int q, .int w])).length) Slot.unset).toArray = ls at hl ⊢
  have hl : lv_has ls 6 [(0, .ref h), (1, .int g), (2, .int q), (3, .int w)] := hl
  rcases hg with hg | ⟨j, hj, rfl, he, hg⟩
  · refine lv_aload_n hx hb dX0_addPart_0 rfl (lv_at hl 0 rfl) ?_
    refine lv_iload_n hx hb dX0_addPart_1 rfl (lv_at hl 1 rfl) ?_
    exact q_callT hlocks hexc (vx_runV (As := [.int g]) (rest := []) ⟨hx, hb, hml, hown, hts⟩ (kX0_checkGoodX l D h ad cI cZ ex pa di qu gc dg dp dv dd ds dc td ho ak se pr hlf g hg) (cwV 1 hts gX0_addPart_X0_checkGood rfl rfl rfl (by decide +kernel) ⟨Nat.le_of_ble_eq_true rfl, Nat.le_of_ble_eq_true rfl⟩) ⟨tP_blind, va_recv hK hP (ci := 0) (q0 := 0) rfl rfl, tP_pre hP hK hE⟩ rfl rfl hl.1 rfl (lv_room (Nat.le_of_ble_eq_true rfl)) dX0_addPart_2 ⟨Nat.le_of_ble_eq_true rfl, Nat.le_of_ble_eq_true rfl⟩)
  · refine lv_aload_n hx hb dX0_addPart_0 rfl (lv_at hl 0 rfl) ?_
    refine lv_iload_n hx hb dX0_addPart_1 rfl (lv_at hl 1 rfl) ?_
    refine q_callV (va_runV (As := [.int (nI j)]) (rest := []) ⟨hx, hb, hml, hown, hts⟩ (kX0_checkGood l D h ad cI cZ ex pa di qu gc dg dp dv dd ds dc td ho ak se pr j hj he) (cwV 1 hts gX0_addPart_X0_checkGood rfl rfl rfl (by decide +kernel) ⟨Nat.le_of_ble_eq_true rfl, Nat.le_of_ble_eq_true rfl⟩) ⟨pP_blind, va_recv hK hP (ci := 0) (q0 := 0) rfl rfl, pP_pre hP hK⟩ rfl rfl hl.1 rfl (lv_room (Nat.le_of_ble_eq_true rfl)) dX0_addPart_2 ⟨Nat.zero_le _, Nat.zero_le _⟩) ?_
    refine lv_aload_n hx hb dX0_addPart_5 rfl (lv_at hl 0 rfl) ?_
    refine lv_iload_n hx hb dX0_addPart_6 rfl (lv_at hl 2 rfl) ?_
    exact q_callT hlocks hexc (vx_runV (As := [.int q]) (rest := []) ⟨hx, hb, hml, hown, hts⟩ (kX0_checkGoodX l D h ad cI cZ ex pa di qu gc dg dp dv dd ds dc td ho ak se pr hlf q hg) (cwV 1 hts gX0_addPart_X0_checkGood rfl rfl rfl (by decide +kernel) ⟨Nat.le_of_ble_eq_true rfl, Nat.le_of_ble_eq_true rfl⟩) ⟨tP_blind, va_recv hK hP (ci := 0) (q0 := 0) rfl rfl, tP_pre hP hK hE⟩ rfl rfl hl.1 rfl (lv_room (Nat.le_of_ble_eq_true rfl)) dX0_addPart_7 ⟨Nat.le_of_ble_eq_true rfl, Nat.le_of_ble_eq_true rfl⟩)

set_option maxHeartbeats 4000000 in
set_option maxRecDepth 100000 in
theorem kX0_addPartXA (l : Launch) (D : va_G) (h : Nat) (ad : Nat → Nat) (cI cZ : ClassId) (ex : Nat → Bool) (pa : Nat → Option Nat) (di : Nat → Nat) (qu : Nat → Nat) (gc : Nat) (dg : Nat → Nat) (dp : Nat → Nat) (dv : Nat → Option Nat) (dd : Nat → Nat) (ds : Nat → Nat) (dc : Nat) (td : Nat) (ho : Nat → Option Nat) (ak : Nat → Bool) (se : Nat → Option Nat) (pr : Nat → Option Nat) (hlf : l.stackTraces = false) (g q : Nat) (w : Int32) (hg : g < 16) (he : ex g = true) (hq : q < 16) (he2 : ex q = true) (hbad : g ≤ q ∨ w < nI 1 ∨ nI 20 < w) : vx_Met l yX0_addPart wsX0_addPart ({ frames := 6, cells := 1, slots := 6, locals := 82 } : Room) (tP D (hW h ad cI cZ ex pa di qu gc dg dp dv dd ds dc td ho ak se pr) (hT cI cZ) [.ref h, .int (nI g), .int (nI q), .int w]) nQ (tX "java/lang/IllegalArgumentException") 1 6 nF := by
  refine vx_ofW (cc := cX0_addPart) (maxL := 6) (ret := (some .int)) (by decide) rfl ?_
  intro p e s m args below meth c s₁ B hml hexc hv
  obtain ⟨rfl, hP, hK, hE⟩ := hv
  have hx := B.exec
  have hb := B.bytes
  have hr := B.returns
  have hts := atoms_spec (ws := wsX0_addPart) B.pre
  have hown : s.vm.findClass RX0 = some m.cls := findClass_of_methodNamed B.named
  have hlocks := B.notSynchronized
  have hl := lv_entry ([.ref h, .int (nI g), .int (nI q), .int w]) (n := 6) (Nat.le_of_ble_eq_true rfl)
  rw [lg_entry_eq]
  generalize (lg_sl ([.ref h, .int (nI g), .int (nI q), .int w]) ++ List.replicate (6 - (lg_sl ([.ref h, .int (nI g), .int (nI q), .int w])).length) Slot.unset).toArray = ls at hl ⊢
  have hl : lv_has ls 6 [(0, .ref h), (1, .int (nI g)), (2, .int (nI q)), (3, .int w)] := hl
  refine lv_aload_n hx hb dX0_addPart_0 rfl (lv_at hl 0 rfl) ?_
  refine lv_iload_n hx hb dX0_addPart_1 rfl (lv_at hl 1 rfl) ?_
  refine q_callV (va_runV (As := [.int (nI g)]) (rest := []) ⟨hx, hb, hml, hown, hts⟩ (kX0_checkGood l D h ad cI cZ ex pa di qu gc dg dp dv dd ds dc td ho ak se pr g hg he) (cwV 1 hts gX0_addPart_X0_checkGood rfl rfl rfl (by decide +kernel) ⟨Nat.le_of_ble_eq_true rfl, Nat.le_of_ble_eq_true rfl⟩) ⟨pP_blind, va_recv hK hP (ci := 0) (q0 := 0) rfl rfl, pP_pre hP hK⟩ rfl rfl hl.1 rfl (lv_room (Nat.le_of_ble_eq_true rfl)) dX0_addPart_2 ⟨Nat.zero_le _, Nat.zero_le _⟩) ?_
  refine lv_aload_n hx hb dX0_addPart_5 rfl (lv_at hl 0 rfl) ?_
  refine lv_iload_n hx hb dX0_addPart_6 rfl (lv_at hl 2 rfl) ?_
  refine q_callV (va_runV (As := [.int (nI q)]) (rest := []) ⟨hx, hb, hml, hown, hts⟩ (kX0_checkGood l D h ad cI cZ ex pa di qu gc dg dp dv dd ds dc td ho ak se pr q hq he2) (cwV 1 hts gX0_addPart_X0_checkGood rfl rfl rfl (by decide +kernel) ⟨Nat.le_of_ble_eq_true rfl, Nat.le_of_ble_eq_true rfl⟩) ⟨pP_blind, va_recv hK hP (ci := 0) (q0 := 0) rfl rfl, pP_pre hP hK⟩ rfl rfl hl.1 rfl (lv_room (Nat.le_of_ble_eq_true rfl)) dX0_addPart_7 ⟨Nat.zero_le _, Nat.zero_le _⟩) ?_
  refine lv_iload_n hx hb dX0_addPart_10 rfl (lv_at hl 2 rfl) ?_
  refine lv_iload_n hx hb dX0_addPart_11 rfl (lv_at hl 1 rfl) ?_
  refine q_icmpN_lt (a := q) (b := g) (tgt := 25) (by omega) (by omega) hx hb dX0_addPart_12 (by decide) (fun k12 => ?_) (fun k12 => ?_)
  · have hb2 := hbad.resolve_left (by omega)
    refine lv_iload_n hx hb dX0_addPart_25 rfl (lv_at hl 3 rfl) ?_
    refine lv_iconst (v := nI 1) hx hb dX0_addPart_26 (by decide) ?_
    refine lv_icmp_lt (tgt := 36) hx hb dX0_addPart_27 (by decide) (fun k27 => ?_) (fun k27 => ?_)
    · obtain ⟨sa, hstr⟩ := hE.2.2.1 (113, "the quantity is out of range") (by decide +kernel)
      exact vx_throwS (is := 113) (text := "the quantity is out of range") (names := ["java/lang/RuntimeException", "java/lang/Exception"]) (A := nF) hx hb hlf hown (by decide +kernel) (by decide +kernel) (hts (.classLink RX0 108 "java/lang/IllegalArgumentException") (by decide +kernel)) (hts (.initialized "java/lang/IllegalArgumentException") (by decide +kernel)) hstr (vx_hat (B := tB "java/lang/IllegalArgumentException") (fun w hw => hts w (thA_addPart w hw)) (by decide +kernel) (tE_B hE (by decide))) (by decide +kernel) hE.1 hE.2.1 va_S.rf (hl.1.trans hml.symm) dX0_addPart_36 dX0_addPart_39 dX0_addPart_40 dX0_addPart_42 dX0_addPart_45 (fun z hz => (hexc z hz).elim) (Nat.le_of_ble_eq_true rfl) (Nat.le_of_ble_eq_true rfl) (Nat.le_of_ble_eq_true rfl) (Nat.le_of_ble_eq_true rfl) hlocks (fun t ht h1 h2 => ⟨rfl, h1, h2⟩) (fun z hz => by cases hz) (Nat.le_refl 1) (Nat.le_refl 6)
    · refine lv_iload_n hx hb dX0_addPart_30 rfl (lv_at hl 3 rfl) ?_
      refine lv_bipush (v := nI 20) hx hb dX0_addPart_31 (by decide) ?_
      refine lv_icmp_le (tgt := 46) hx hb dX0_addPart_33 (by decide) (fun k33 => absurd k33 (Int32.not_le.mpr (hb2.resolve_left k27))) (fun k33 => ?_)
      obtain ⟨sa, hstr⟩ := hE.2.2.1 (113, "the quantity is out of range") (by decide +kernel)
      exact vx_throwS (is := 113) (text := "the quantity is out of range") (names := ["java/lang/RuntimeException", "java/lang/Exception"]) (A := nF) hx hb hlf hown (by decide +kernel) (by decide +kernel) (hts (.classLink RX0 108 "java/lang/IllegalArgumentException") (by decide +kernel)) (hts (.initialized "java/lang/IllegalArgumentException") (by decide +kernel)) hstr (vx_hat (B := tB "java/lang/IllegalArgumentException") (fun w hw => hts w (thA_addPart w hw)) (by decide +kernel) (tE_B hE (by decide))) (by decide +kernel) hE.1 hE.2.1 va_S.rf (hl.1.trans hml.symm) dX0_addPart_36 dX0_addPart_39 dX0_addPart_40 dX0_addPart_42 dX0_addPart_45 (fun z hz => (hexc z hz).elim) (Nat.le_of_ble_eq_true rfl) (Nat.le_of_ble_eq_true rfl) (Nat.le_of_ble_eq_true rfl) (Nat.le_of_ble_eq_true rfl) hlocks (fun t ht h1 h2 => ⟨rfl, h1, h2⟩) (fun z hz => by cases hz) (Nat.le_refl 1) (Nat.le_refl 6)
  · obtain ⟨sa, hstr⟩ := hE.2.2.1 (110, "the part is not lower than the good") (by decide +kernel)
    exact vx_throwS (is := 110) (text := "the part is not lower than the good") (names := ["java/lang/RuntimeException", "java/lang/Exception"]) (A := nF) hx hb hlf hown (by decide +kernel) (by decide +kernel) (hts (.classLink RX0 108 "java/lang/IllegalArgumentException") (by decide +kernel)) (hts (.initialized "java/lang/IllegalArgumentException") (by decide +kernel)) hstr (vx_hat (B := tB "java/lang/IllegalArgumentException") (fun w hw => hts w (thA_addPart w hw)) (by decide +kernel) (tE_B hE (by decide))) (by decide +kernel) hE.1 hE.2.1 va_S.rf (hl.1.trans hml.symm) dX0_addPart_15 dX0_addPart_18 dX0_addPart_19 dX0_addPart_21 dX0_addPart_24 (fun z hz => (hexc z hz).elim) (Nat.le_of_ble_eq_true rfl) (Nat.le_of_ble_eq_true rfl) (Nat.le_of_ble_eq_true rfl) (Nat.le_of_ble_eq_true rfl) hlocks (fun t ht h1 h2 => ⟨rfl, h1, h2⟩) (fun z hz => by cases hz) (Nat.le_refl 1) (Nat.le_refl 6)

set_option maxHeartbeats 4000000 in
set_option maxRecDepth 100000 in
theorem kX0_addPartXS (l : Launch) (D : va_G) (h : Nat) (ad : Nat → Nat) (cI cZ : ClassId) (ex : Nat → Bool) (pa : Nat → Option Nat) (di : Nat → Nat) (qu : Nat → Nat) (gc : Nat) (dg : Nat → Nat) (dp : Nat → Nat) (dv : Nat → Option Nat) (dd : Nat → Nat) (ds : Nat → Nat) (dc : Nat) (td : Nat) (ho : Nat → Option Nat) (ak : Nat → Bool) (se : Nat → Option Nat) (pr : Nat → Option Nat) (hlf : l.stackTraces = false) (g q w : Nat) (hg : g < 16) (he : ex g = true) (hq : q < 16) (he2 : ex q = true) (hlt : q < g) (hw1 : 1 ≤ w) (hw2 : w ≤ 20) (hqu : ∀ k, k < 256 → qu k ≤ 20) (hsm : 20 < qu (g * 16 + q) + w) : vx_Met l yX0_addPart wsX0_addPart ({ frames := 6, cells := 1, slots := 6, locals := 82 } : Room) (tP D (hW h ad cI cZ ex pa di qu gc dg dp dv dd ds dc td ho ak se pr) (hT cI cZ) [.ref h, .int (nI g), .int (nI q), .int (nI w)]) nQ (tX "java/lang/IllegalStateException") 1 6 nF := by
  refine vx_ofW (cc := cX0_addPart) (maxL := 6) (ret := (some .int)) (by decide) rfl ?_
  intro p e s m args below meth c s₁ B hml hexc hv
  obtain ⟨rfl, hP, hK, hE⟩ := hv
  have hx := B.exec
  have hb := B.bytes
  have hr := B.returns
  have hts := atoms_spec (ws := wsX0_addPart) B.pre
  have hown : s.vm.findClass RX0 = some m.cls := findClass_of_methodNamed B.named
  have hlocks := B.notSynchronized
  have hl := lv_entry ([.ref h, .int (nI g), .int (nI q), .int (nI w)]) (n := 6) (Nat.le_of_ble_eq_true rfl)
  rw [lg_entry_eq]
  generalize (lg_sl ([.ref h, .int (nI g), .int (nI q), .int (nI w)]) ++ List.replicate (6 - (lg_sl ([.ref h, .int (nI g), .int (nI q), .int (nI w)])).length) Slot.unset).toArray = ls at hl ⊢
  have hl : lv_has ls 6 [(0, .ref h), (1, .int (nI g)), (2, .int (nI q)), (3, .int (nI w))] := hl
  have hq9 := hqu (g * 16 + q) (by omega)
  refine lv_aload_n hx hb dX0_addPart_0 rfl (lv_at hl 0 rfl) ?_
  refine lv_iload_n hx hb dX0_addPart_1 rfl (lv_at hl 1 rfl) ?_
  refine q_callV (va_runV (As := [.int (nI g)]) (rest := []) ⟨hx, hb, hml, hown, hts⟩ (kX0_checkGood l D h ad cI cZ ex pa di qu gc dg dp dv dd ds dc td ho ak se pr g hg he) (cwV 1 hts gX0_addPart_X0_checkGood rfl rfl rfl (by decide +kernel) ⟨Nat.le_of_ble_eq_true rfl, Nat.le_of_ble_eq_true rfl⟩) ⟨pP_blind, va_recv hK hP (ci := 0) (q0 := 0) rfl rfl, pP_pre hP hK⟩ rfl rfl hl.1 rfl (lv_room (Nat.le_of_ble_eq_true rfl)) dX0_addPart_2 ⟨Nat.zero_le _, Nat.zero_le _⟩) ?_
  refine lv_aload_n hx hb dX0_addPart_5 rfl (lv_at hl 0 rfl) ?_
  refine lv_iload_n hx hb dX0_addPart_6 rfl (lv_at hl 2 rfl) ?_
  refine q_callV (va_runV (As := [.int (nI q)]) (rest := []) ⟨hx, hb, hml, hown, hts⟩ (kX0_checkGood l D h ad cI cZ ex pa di qu gc dg dp dv dd ds dc td ho ak se pr q hq he2) (cwV 1 hts gX0_addPart_X0_checkGood rfl rfl rfl (by decide +kernel) ⟨Nat.le_of_ble_eq_true rfl, Nat.le_of_ble_eq_true rfl⟩) ⟨pP_blind, va_recv hK hP (ci := 0) (q0 := 0) rfl rfl, pP_pre hP hK⟩ rfl rfl hl.1 rfl (lv_room (Nat.le_of_ble_eq_true rfl)) dX0_addPart_7 ⟨Nat.zero_le _, Nat.zero_le _⟩) ?_
  refine lv_iload_n hx hb dX0_addPart_10 rfl (lv_at hl 2 rfl) ?_
  refine lv_iload_n hx hb dX0_addPart_11 rfl (lv_at hl 1 rfl) ?_
  refine q_icmpN_lt (a := q) (b := g) (tgt := 25) (by omega) (by omega) hx hb dX0_addPart_12 (by decide) (fun k12 => ?_) (fun k12 => absurd k12 (by omega))
  refine lv_iload_n hx hb dX0_addPart_25 rfl (lv_at hl 3 rfl) ?_
  refine lv_iconst (v := nI 1) hx hb dX0_addPart_26 (by decide) ?_
  refine q_icmpN_lt (a := w) (b := 1) (tgt := 36) (by omega) (by omega) hx hb dX0_addPart_27 (by decide) (fun k27 => absurd k27 (by omega)) (fun k27 => ?_)
  refine lv_iload_n hx hb dX0_addPart_30 rfl (lv_at hl 3 rfl) ?_
  refine lv_bipush (v := nI 20) hx hb dX0_addPart_31 (by decide) ?_
  refine q_icmpN_le (a := w) (b := 20) (tgt := 46) (by omega) (by omega) hx hb dX0_addPart_33 (by decide) (fun k33 => ?_) (fun k33 => absurd k33 (by omega))
  refine lv_iload_n hx hb dX0_addPart_46 rfl (lv_at hl 1 rfl) ?_
  refine lv_bipush (v := nI 16) hx hb dX0_addPart_47 (by decide) ?_
  refine q_mulN (a := g) (b := 16) hx hb dX0_addPart_49 ?_
  refine lv_iload_n hx hb dX0_addPart_50 rfl (lv_at hl 2 rfl) ?_
  refine q_addN (a := g * 16) (b := q) hx hb dX0_addPart_51 ?_
  refine lv_istore (lv' := [(4, .int (nI ((g * 16) + q))), (0, .ref h), (1, .int (nI g)), (2, .int (nI q)), (3, .int (nI w))]) hx hb dX0_addPart_52 hl (by decide) rfl (fun ls hl => ?_)
  refine lv_aload_n hx hb dX0_addPart_54 rfl (lv_at hl 1 rfl) ?_
  refine va_get (D := D) (ci := 0) (v := .ref (ad 3)) (C := RX0) (T := TX0) (N := 16) hx hb hts (iX0_addPart) hown hK hP 0 rfl rfl 3 (by decide) (hts (.fieldLink RX0 20 "ShopHub" "quantities" "[I") (by decide +kernel)) (fun _ h9 => h9) rfl dX0_addPart_55 ?_
  refine lv_iload hx hb dX0_addPart_58 (lv_at hl 0 rfl) ?_
  refine q_ald nI qu hx hb hK hP 4 1 rfl rfl (k := (g * 16) + q) (by omega) (Nat.le_of_ble_eq_true rfl) dX0_addPart_60 ?_
  refine lv_iload_n hx hb dX0_addPart_61 rfl (lv_at hl 4 rfl) ?_
  refine q_addN (a := qu ((g * 16) + q)) (b := w) hx hb dX0_addPart_62 ?_
  refine lv_istore (lv' := [(5, .int (nI ((qu ((g * 16) + q)) + w))), (4, .int (nI ((g * 16) + q))), (0, .ref h), (1, .int (nI g)), (2, .int (nI q)), (3, .int (nI w))]) hx hb dX0_addPart_63 hl (by decide) rfl (fun ls hl => ?_)
  refine lv_iload hx hb dX0_addPart_65 (lv_at hl 0 rfl) ?_
  refine lv_bipush (v := nI 20) hx hb dX0_addPart_67 (by decide) ?_
  refine q_icmpN_le (a := (qu ((g * 16) + q)) + w) (b := 20) (tgt := 82) (by omega) (by omega) hx hb dX0_addPart_69 (by decide) (fun k69 => absurd k69 (by omega)) (fun k69 => ?_)
  obtain ⟨sa, hstr⟩ := hE.2.2.1 (115, "the quantity of the part would be more than 20") (by decide +kernel)
  exact vx_throwS (is := 115) (text := "the quantity of the part would be more than 20") (names := ["java/lang/RuntimeException", "java/lang/Exception"]) (A := nF) hx hb hlf hown (by decide +kernel) (by decide +kernel) (hts (.classLink RX0 68 "java/lang/IllegalStateException") (by decide +kernel)) (hts (.initialized "java/lang/IllegalStateException") (by decide +kernel)) hstr (vx_hat (B := tB "java/lang/IllegalStateException") (fun w hw => hts w (thS_addPart w hw)) (by decide +kernel) (tE_B hE (by decide))) (by decide +kernel) hE.1 hE.2.1 va_S.rf (hl.1.trans hml.symm) dX0_addPart_72 dX0_addPart_75 dX0_addPart_76 dX0_addPart_78 dX0_addPart_81 (fun z hz => (hexc z hz).elim) (Nat.le_of_ble_eq_true rfl) (Nat.le_of_ble_eq_true rfl) (Nat.le_of_ble_eq_true rfl) (Nat.le_of_ble_eq_true rfl) hlocks (fun t ht h1 h2 => ⟨rfl, h1, h2⟩) (fun z hz => by cases hz) (Nat.le_refl 1) (Nat.le_refl 6)

set_option maxHeartbeats 4000000 in
set_option maxRecDepth 100000 in
theorem kX0_setDiscountXI (l : Launch) (D : va_G) (h : Nat) (ad : Nat → Nat) (cI cZ : ClassId) (ex : Nat → Bool) (pa : Nat → Option Nat) (di : Nat → Nat) (qu : Nat → Nat) (gc : Nat) (dg : Nat → Nat) (dp : Nat → Nat) (dv : Nat → Option Nat) (dd : Nat → Nat) (ds : Nat → Nat) (dc : Nat) (td : Nat) (ho : Nat → Option Nat) (ak : Nat → Bool) (se : Nat → Option Nat) (pr : Nat → Option Nat) (hlf : l.stackTraces = false) (g w : Int32) (hg : gBad ex g) : vx_Met l yX0_setDiscount wsX0_setDiscount ({ frames := 7, cells := 1, slots := 6, locals := 103 } : Room) (tP D (hW h ad cI cZ ex pa di qu gc dg dp dv dd ds dc td ho ak se pr) (hT cI cZ) [.ref h, .int g, .int w]) nQ (tX "java/lang/IndexOutOfBoundsException") 1 6 nF := by
  refine vx_ofW (cc := cX0_setDiscount) (maxL := 4) (ret := (some .int)) (by decide) rfl ?_
  intro p e s m args below meth c s₁ B hml hexc hv
  obtain ⟨rfl, hP, hK, hE⟩ := hv
  have hx := B.exec
  have hb := B.bytes
  have hr := B.returns
  have hts := atoms_spec (ws := wsX0_setDiscount) B.pre
  have hown : s.vm.findClass RX0 = some m.cls := findClass_of_methodNamed B.named
  have hlocks := B.notSynchronized
  have hl := lv_entry ([.ref h, .int g, .int w]) (n := 4) (Nat.le_of_ble_eq_true rfl)
  rw [lg_entry_eq]
  generalize (lg_sl ([.ref h, .int g, .int w]) ++ List.replicate (4 - (lg_sl ([.ref h, .int g, .int w])).length) Slot.unset).toArray = ls at hl ⊢
  have hl : lv_has ls 4 [(0, .ref h), (1, .int g), (2, .int w)] := hl
  refine lv_aload_n hx hb dX0_setDiscount_0 rfl (lv_at hl 0 rfl) ?_
  refine lv_iload_n hx hb dX0_setDiscount_1 rfl (lv_at hl 1 rfl) ?_
  exact q_callT hlocks hexc (vx_runV (As := [.int g]) (rest := []) ⟨hx, hb, hml, hown, hts⟩ (kX0_checkGoodX l D h ad cI cZ ex pa di qu gc dg dp dv dd ds dc td ho ak se pr hlf g hg) (cwV 1 hts gX0_setDiscount_X0_checkGood rfl rfl rfl (by decide +kernel) ⟨Nat.le_of_ble_eq_true rfl, Nat.le_of_ble_eq_true rfl⟩) ⟨tP_blind, va_recv hK hP (ci := 0) (q0 := 0) rfl rfl, tP_pre hP hK hE⟩ rfl rfl hl.1 rfl (lv_room (Nat.le_of_ble_eq_true rfl)) dX0_setDiscount_2 ⟨Nat.le_of_ble_eq_true rfl, Nat.le_of_ble_eq_true rfl⟩)

set_option maxHeartbeats 4000000 in
set_option maxRecDepth 100000 in
theorem kX0_setDiscountXA (l : Launch) (D : va_G) (h : Nat) (ad : Nat → Nat) (cI cZ : ClassId) (ex : Nat → Bool) (pa : Nat → Option Nat) (di : Nat → Nat) (qu : Nat → Nat) (gc : Nat) (dg : Nat → Nat) (dp : Nat → Nat) (dv : Nat → Option Nat) (dd : Nat → Nat) (ds : Nat → Nat) (dc : Nat) (td : Nat) (ho : Nat → Option Nat) (ak : Nat → Bool) (se : Nat → Option Nat) (pr : Nat → Option Nat) (hlf : l.stackTraces = false) (g : Nat) (w : Int32) (hg : g < 16) (he : ex g = true) (hw : w < 0 ∨ nI 100 < w) : vx_Met l yX0_setDiscount wsX0_setDiscount ({ frames := 6, cells := 1, slots := 6, locals := 82 } : Room) (tP D (hW h ad cI cZ ex pa di qu gc dg dp dv dd ds dc td ho ak se pr) (hT cI cZ) [.ref h, .int (nI g), .int w]) nQ (tX "java/lang/IllegalArgumentException") 1 6 nF := by
  refine vx_ofW (cc := cX0_setDiscount) (maxL := 4) (ret := (some .int)) (by decide) rfl ?_
  intro p e s m args below meth c s₁ B hml hexc hv
  obtain ⟨rfl, hP, hK, hE⟩ := hv
  have hx := B.exec
  have hb := B.bytes
  have hr := B.returns
  have hts := atoms_spec (ws := wsX0_setDiscount) B.pre
  have hown : s.vm.findClass RX0 = some m.cls := findClass_of_methodNamed B.named
  have hlocks := B.notSynchronized
  have hl := lv_entry ([.ref h, .int (nI g), .int w]) (n := 4) (Nat.le_of_ble_eq_true rfl)
  rw [lg_entry_eq]
  generalize (lg_sl ([.ref h, .int (nI g), .int w]) ++ List.replicate (4 - (lg_sl ([.ref h, .int (nI g), .int w])).length) Slot.unset).toArray = ls at hl ⊢
  have hl : lv_has ls 4 [(0, .ref h), (1, .int (nI g)), (2, .int w)] := hl
  refine lv_aload_n hx hb dX0_setDiscount_0 rfl (lv_at hl 0 rfl) ?_
  refine lv_iload_n hx hb dX0_setDiscount_1 rfl (lv_at hl 1 rfl) ?_
  refine q_callV (va_runV (As := [.int (nI g)]) (rest := []) ⟨hx, hb, hml, hown, hts⟩ (kX0_checkGood l D h ad cI cZ ex pa di qu gc dg dp dv dd ds dc td ho ak se pr g hg he) (cwV 1 hts gX0_setDiscount_X0_checkGood rfl rfl rfl (by decide +kernel) ⟨Nat.le_of_ble_eq_true rfl, Nat.le_of_ble_eq_true rfl⟩) ⟨pP_blind, va_recv hK hP (ci := 0) (q0 := 0) rfl rfl, pP_pre hP hK⟩ rfl rfl hl.1 rfl (lv_room (Nat.le_of_ble_eq_true rfl)) dX0_setDiscount_2 ⟨Nat.zero_le _, Nat.zero_le _⟩) ?_
  refine lv_iload_n hx hb dX0_setDiscount_5 rfl (lv_at hl 2 rfl) ?_
  refine lv_if_lt (tgt := 15) hx hb dX0_setDiscount_6 (by decide) (fun k6 => ?_) (fun k6 => ?_)
  · obtain ⟨sa, hstr⟩ := hE.2.2.1 (117, "the discount is out of range") (by decide +kernel)
    exact vx_throwS (is := 117) (text := "the discount is out of range") (names := ["java/lang/RuntimeException", "java/lang/Exception"]) (A := nF) hx hb hlf hown (by decide +kernel) (by decide +kernel) (hts (.classLink RX0 108 "java/lang/IllegalArgumentException") (by decide +kernel)) (hts (.initialized "java/lang/IllegalArgumentException") (by decide +kernel)) hstr (vx_hat (B := tB "java/lang/IllegalArgumentException") (fun w hw => hts w (thA_setDiscount w hw)) (by decide +kernel) (tE_B hE (by decide))) (by decide +kernel) hE.1 hE.2.1 va_S.rf (hl.1.trans hml.symm) dX0_setDiscount_15 dX0_setDiscount_18 dX0_setDiscount_19 dX0_setDiscount_21 dX0_setDiscount_24 (fun z hz => (hexc z hz).elim) (Nat.le_of_ble_eq_true rfl) (Nat.le_of_ble_eq_true rfl) (Nat.le_of_ble_eq_true rfl) (Nat.le_of_ble_eq_true rfl) hlocks (fun t ht h1 h2 => ⟨rfl, h1, h2⟩) (fun z hz => by cases hz) (Nat.le_refl 1) (Nat.le_refl 6)
  · refine lv_iload_n hx hb dX0_setDiscount_9 rfl (lv_at hl 2 rfl) ?_
    refine lv_bipush (v := nI 100) hx hb dX0_setDiscount_10 (by decide) ?_
    refine lv_icmp_le (tgt := 25) hx hb dX0_setDiscount_12 (by decide) (fun k12 => absurd k12 (Int32.not_le.mpr (hw.resolve_left k6))) (fun k12 => ?_)
    obtain ⟨sa, hstr⟩ := hE.2.2.1 (117, "the discount is out of range") (by decide +kernel)
    exact vx_throwS (is := 117) (text := "the discount is out of range") (names := ["java/lang/RuntimeException", "java/lang/Exception"]) (A := nF) hx hb hlf hown (by decide +kernel) (by decide +kernel) (hts (.classLink RX0 108 "java/lang/IllegalArgumentException") (by decide +kernel)) (hts (.initialized "java/lang/IllegalArgumentException") (by decide +kernel)) hstr (vx_hat (B := tB "java/lang/IllegalArgumentException") (fun w hw => hts w (thA_setDiscount w hw)) (by decide +kernel) (tE_B hE (by decide))) (by decide +kernel) hE.1 hE.2.1 va_S.rf (hl.1.trans hml.symm) dX0_setDiscount_15 dX0_setDiscount_18 dX0_setDiscount_19 dX0_setDiscount_21 dX0_setDiscount_24 (fun z hz => (hexc z hz).elim) (Nat.le_of_ble_eq_true rfl) (Nat.le_of_ble_eq_true rfl) (Nat.le_of_ble_eq_true rfl) (Nat.le_of_ble_eq_true rfl) hlocks (fun t ht h1 h2 => ⟨rfl, h1, h2⟩) (fun z hz => by cases hz) (Nat.le_refl 1) (Nat.le_refl 6)

set_option maxHeartbeats 4000000 in
set_option maxRecDepth 100000 in
theorem kX0_draftXI (l : Launch) (D : va_G) (h : Nat) (ad : Nat → Nat) (cI cZ : ClassId) (ex : Nat → Bool) (pa : Nat → Option Nat) (di : Nat → Nat) (qu : Nat → Nat) (gc : Nat) (dg : Nat → Nat) (dp : Nat → Nat) (dv : Nat → Option Nat) (dd : Nat → Nat) (ds : Nat → Nat) (dc : Nat) (td : Nat) (ho : Nat → Option Nat) (ak : Nat → Bool) (se : Nat → Option Nat) (pr : Nat → Option Nat) (hlf : l.stackTraces = false) (g a x y v w : Int32) (hs : (gBad ex g ∨ ∃ j, j < 16 ∧ g = nI j ∧ ex j = true ∧ (aBad 6 a ∨ ∃ a2, a2 < 6 ∧ a = nI a2 ∧ ((aBad 3 x ∧ x ≠ -1) ∨ ((x = -1 ∨ ∃ x2, x2 < 3 ∧ x = nI x2) ∧ aBad 3 y ∧ y ≠ -1))))) : vx_Met l yX0_draft wsX0_draft ({ frames := 7, cells := 1, slots := 6, locals := 103 } : Room) (tP D (hW h ad cI cZ ex pa di qu gc dg dp dv dd ds dc td ho ak se pr) (hT cI cZ) [.ref h, .int g, .int a, .int x, .int y, .int v, .int w]) nQ (tX "java/lang/IndexOutOfBoundsException") 1 6 nF := by
  refine vx_ofW (cc := cX0_draft) (maxL := 8) (ret := (some .int)) (by decide) rfl ?_
  intro p e s m args below meth c s₁ B hml hexc hv
  obtain ⟨rfl, hP, hK, hE⟩ := hv
  have hx := B.exec
  have hb := B.bytes
  have hr := B.returns
  have hts := atoms_spec (ws := wsX0_draft) B.pre
  have hown : s.vm.findClass RX0 = some m.cls := findClass_of_methodNamed B.named
  have hlocks := B.notSynchronized
  have hl := lv_entry ([.ref h, .int g, .int a, .int x, .int y, .int v, .int w]) (n := 8) (Nat.le_of_ble_eq_true rfl)
  rw [lg_entry_eq]
  generalize (lg_sl ([.ref h, .int g, .int a, .int x, .int y, .int v, .int w]) ++ List.replicate (8 - (lg_sl ([.ref h, .int g, .int a, .int x, .int y, .int v, .int w])).length) Slot.unset).toArray = ls at hl ⊢
  have hl : lv_has ls 8 [(0, .ref h), (1, .int g), (2, .int a), (3, .int x), (4, .int y), (5, .int v), (6, .int w)] := hl
  rcases hs with hs | ⟨j, hj, rfl, he, hs⟩
  · refine lv_aload_n hx hb dX0_draft_0 rfl (lv_at hl 0 rfl) ?_
    refine lv_iload_n hx hb dX0_draft_1 rfl (lv_at hl 1 rfl) ?_
    exact q_callT hlocks hexc (vx_runV (As := [.int g]) (rest := []) ⟨hx, hb, hml, hown, hts⟩ (kX0_checkGoodX l D h ad cI cZ ex pa di qu gc dg dp dv dd ds dc td ho ak se pr hlf g hs) (cwV 1 hts gX0_draft_X0_checkGood rfl rfl rfl (by decide +kernel) ⟨Nat.le_of_ble_eq_true rfl, Nat.le_of_ble_eq_true rfl⟩) ⟨tP_blind, va_recv hK hP (ci := 0) (q0 := 0) rfl rfl, tP_pre hP hK hE⟩ rfl rfl hl.1 rfl (lv_room (Nat.le_of_ble_eq_true rfl)) dX0_draft_2 ⟨Nat.le_of_ble_eq_true rfl, Nat.le_of_ble_eq_true rfl⟩)
  · refine lv_aload_n hx hb dX0_draft_0 rfl (lv_at hl 0 rfl) ?_
    refine lv_iload_n hx hb dX0_draft_1 rfl (lv_at hl 1 rfl) ?_
    refine q_callV (va_runV (As := [.int (nI j)]) (rest := []) ⟨hx, hb, hml, hown, hts⟩ (kX0_checkGood l D h ad cI cZ ex pa di qu gc dg dp dv dd ds dc td ho ak se pr j hj he) (cwV 1 hts gX0_draft_X0_checkGood rfl rfl rfl (by decide +kernel) ⟨Nat.le_of_ble_eq_true rfl, Nat.le_of_ble_eq_true rfl⟩) ⟨pP_blind, va_recv hK hP (ci := 0) (q0 := 0) rfl rfl, pP_pre hP hK⟩ rfl rfl hl.1 rfl (lv_room (Nat.le_of_ble_eq_true rfl)) dX0_draft_2 ⟨Nat.zero_le _, Nat.zero_le _⟩) ?_
    rcases hs with hs | ⟨a2, ha, rfl, hs⟩
    · refine lv_iload_n hx hb dX0_draft_5 rfl (lv_at hl 2 rfl) ?_
      exact q_callT hlocks hexc (vx_runS (As := [.int a]) (rest := []) ⟨hx, hb, hml, hown, hts⟩ (kX0_checkAttributeX l hlf a hs) (cwS 1 hts gX0_draft_X0_checkAttribute rfl rfl rfl (by decide +kernel) ⟨Nat.le_of_ble_eq_true rfl, Nat.le_of_ble_eq_true rfl⟩) ⟨tPS_blind, tPS_pre hE⟩ rfl rfl hl.1 rfl (lv_room (Nat.le_of_ble_eq_true rfl)) dX0_draft_6 ⟨Nat.le_of_ble_eq_true rfl, Nat.le_of_ble_eq_true rfl⟩)
    · refine lv_iload_n hx hb dX0_draft_5 rfl (lv_at hl 2 rfl) ?_
      refine q_callV (va_runS (As := [.int (nI a2)]) (rest := []) ⟨hx, hb, hml, hown, hts⟩ (kX0_checkAttribute l a2 ha) (cwS 1 hts gX0_draft_X0_checkAttribute rfl rfl rfl (by decide +kernel) ⟨Nat.le_of_ble_eq_true rfl, Nat.le_of_ble_eq_true rfl⟩) ⟨sP_blind, sP_pre⟩ rfl rfl hl.1 rfl (lv_room (Nat.le_of_ble_eq_true rfl)) dX0_draft_6 ⟨Nat.zero_le _, Nat.zero_le _⟩) ?_
      rcases hs with ⟨hs, hne⟩ | ⟨rfl | ⟨x2, hx2, rfl⟩, hs, hne⟩
      · refine lv_iload_n hx hb dX0_draft_9 rfl (lv_at hl 3 rfl) ?_
        refine lv_iconst (v := oI none) hx hb dX0_draft_10 (by decide) ?_
        refine lv_icmp_eq (tgt := 18) hx hb dX0_draft_11 (by decide) (fun k11 => absurd k11 hne) (fun k11 => ?_)
        refine lv_iload_n hx hb dX0_draft_14 rfl (lv_at hl 3 rfl) ?_
        exact q_callT hlocks hexc (vx_runS (As := [.int x]) (rest := []) ⟨hx, hb, hml, hown, hts⟩ (kX0_checkShopX l hlf x hs) (cwS 1 hts gX0_draft_X0_checkShop rfl rfl rfl (by decide +kernel) ⟨Nat.le_of_ble_eq_true rfl, Nat.le_of_ble_eq_true rfl⟩) ⟨tPS_blind, tPS_pre hE⟩ rfl rfl hl.1 rfl (lv_room (Nat.le_of_ble_eq_true rfl)) dX0_draft_15 ⟨Nat.le_of_ble_eq_true rfl, Nat.le_of_ble_eq_true rfl⟩)
      · refine lv_iload_n hx hb dX0_draft_9 rfl (lv_at hl 3 rfl) ?_
        refine lv_iconst (v := oI none) hx hb dX0_draft_10 (by decide) ?_
        refine q_icmpO_eq (a := none) (b := none) (tgt := 18) (fun k h9 => by cases h9) (fun k h9 => by cases h9) hx hb dX0_draft_11 (by decide) (fun k11 => ?_) (fun k11 => absurd rfl k11)
        refine lv_iload hx hb dX0_draft_18 (lv_at hl 4 rfl) ?_
        refine lv_iconst (v := oI none) hx hb dX0_draft_20 (by decide) ?_
        refine lv_icmp_eq (tgt := 29) hx hb dX0_draft_21 (by decide) (fun k21 => absurd k21 hne) (fun k21 => ?_)
        refine lv_iload hx hb dX0_draft_24 (lv_at hl 4 rfl) ?_
        exact q_callT hlocks hexc (vx_runS (As := [.int y]) (rest := []) ⟨hx, hb, hml, hown, hts⟩ (kX0_checkTongueX l hlf y hs) (cwS 1 hts gX0_draft_X0_checkTongue rfl rfl rfl (by decide +kernel) ⟨Nat.le_of_ble_eq_true rfl, Nat.le_of_ble_eq_true rfl⟩) ⟨tPS_blind, tPS_pre hE⟩ rfl rfl hl.1 rfl (lv_room (Nat.le_of_ble_eq_true rfl)) dX0_draft_26 ⟨Nat.le_of_ble_eq_true rfl, Nat.le_of_ble_eq_true rfl⟩)
      · refine lv_iload_n hx hb dX0_draft_9 rfl (lv_at hl 3 rfl) ?_
        refine lv_iconst (v := oI none) hx hb dX0_draft_10 (by decide) ?_
        refine q_top2 (y := oI (some x2)) ((rfl : nI x2 = oI (some x2))) ?_
        refine q_icmpO_eq (a := some x2) (b := none) (tgt := 18) (fun k h9 => by cases h9; omega) (fun k h9 => by cases h9) hx hb dX0_draft_11 (by decide) (fun k11 => (by cases k11)) (fun k11 => ?_)
        refine lv_iload_n hx hb dX0_draft_14 rfl (lv_at hl 3 rfl) ?_
        refine q_callV (va_runS (As := [.int (nI x2)]) (rest := []) ⟨hx, hb, hml, hown, hts⟩ (kX0_checkShop l x2 hx2) (cwS 1 hts gX0_draft_X0_checkShop rfl rfl rfl (by decide +kernel) ⟨Nat.le_of_ble_eq_true rfl, Nat.le_of_ble_eq_true rfl⟩) ⟨sP_blind, sP_pre⟩ rfl rfl hl.1 rfl (lv_room (Nat.le_of_ble_eq_true rfl)) dX0_draft_15 ⟨Nat.zero_le _, Nat.zero_le _⟩) ?_
        refine lv_iload hx hb dX0_draft_18 (lv_at hl 4 rfl) ?_
        refine lv_iconst (v := oI none) hx hb dX0_draft_20 (by decide) ?_
        refine lv_icmp_eq (tgt := 29) hx hb dX0_draft_21 (by decide) (fun k21 => absurd k21 hne) (fun k21 => ?_)
        refine lv_iload hx hb dX0_draft_24 (lv_at hl 4 rfl) ?_
        exact q_callT hlocks hexc (vx_runS (As := [.int y]) (rest := []) ⟨hx, hb, hml, hown, hts⟩ (kX0_checkTongueX l hlf y hs) (cwS 1 hts gX0_draft_X0_checkTongue rfl rfl rfl (by decide +kernel) ⟨Nat.le_of_ble_eq_true rfl, Nat.le_of_ble_eq_true rfl⟩) ⟨tPS_blind, tPS_pre hE⟩ rfl rfl hl.1 rfl (lv_room (Nat.le_of_ble_eq_true rfl)) dX0_draft_26 ⟨Nat.le_of_ble_eq_true rfl, Nat.le_of_ble_eq_true rfl⟩)

set_option maxHeartbeats 4000000 in
set_option maxRecDepth 100000 in
theorem kX0_draftXA (l : Launch) (D : va_G) (h : Nat) (ad : Nat → Nat) (cI cZ : ClassId) (ex : Nat → Bool) (pa : Nat → Option Nat) (di : Nat → Nat) (qu : Nat → Nat) (gc : Nat) (dg : Nat → Nat) (dp : Nat → Nat) (dv : Nat → Option Nat) (dd : Nat → Nat) (ds : Nat → Nat) (dc : Nat) (td : Nat) (ho : Nat → Option Nat) (ak : Nat → Bool) (se : Nat → Option Nat) (pr : Nat → Option Nat) (hlf : l.stackTraces = false) (g a : Nat) (x y : Option Nat) (v w : Int32) (hg : g < 16) (he : ex g = true) (ha : a < 6) (hxr : ∀ k, x = some k → k < 3) (hyr : ∀ k, y = some k → k < 3) (hbad : (v ≠ -1 ∧ (v < 0 ∨ nI 100000 < v)) ∨ ((∃ o : Option Nat, v = oI o ∧ ∀ k, o = some k → k ≤ 100000) ∧ (w < 0 ∨ nI 1000 < w))) : vx_Met l yX0_draft wsX0_draft ({ frames := 6, cells := 1, slots := 6, locals := 82 } : Room) (tP D (hW h ad cI cZ ex pa di qu gc dg dp dv dd ds dc td ho ak se pr) (hT cI cZ) [.ref h, .int (nI g), .int (nI a), .int (oI x), .int (oI y), .int v, .int w]) nQ (tX "java/lang/IllegalArgumentException") 1 6 nF := by
  refine vx_ofW (cc := cX0_draft) (maxL := 8) (ret := (some .int)) (by decide) rfl ?_
  intro p e s m args below meth c s₁ B hml hexc hv
  obtain ⟨rfl, hP, hK, hE⟩ := hv
  have hx := B.exec
  have hb := B.bytes
  have hr := B.returns
  have hts := atoms_spec (ws := wsX0_draft) B.pre
  have hown : s.vm.findClass RX0 = some m.cls := findClass_of_methodNamed B.named
  have hlocks := B.notSynchronized
  have hl := lv_entry ([.ref h, .int (nI g), .int (nI a), .int (oI x), .int (oI y), .int v, .int w]) (n := 8) (Nat.le_of_ble_eq_true rfl)
  rw [lg_entry_eq]
  generalize (lg_sl ([.ref h, .int (nI g), .int (nI a), .int (oI x), .int (oI y), .int v, .int w]) ++ List.replicate (8 - (lg_sl ([.ref h, .int (nI g), .int (nI a), .int (oI x), .int (oI y), .int v, .int w])).length) Slot.unset).toArray = ls at hl ⊢
  have hl : lv_has ls 8 [(0, .ref h), (1, .int (nI g)), (2, .int (nI a)), (3, .int (oI x)), (4, .int (oI y)), (5, .int v), (6, .int w)] := hl
  refine lv_aload_n hx hb dX0_draft_0 rfl (lv_at hl 0 rfl) ?_
  refine lv_iload_n hx hb dX0_draft_1 rfl (lv_at hl 1 rfl) ?_
  refine q_callV (va_runV (As := [.int (nI g)]) (rest := []) ⟨hx, hb, hml, hown, hts⟩ (kX0_checkGood l D h ad cI cZ ex pa di qu gc dg dp dv dd ds dc td ho ak se pr g hg he) (cwV 1 hts gX0_draft_X0_checkGood rfl rfl rfl (by decide +kernel) ⟨Nat.le_of_ble_eq_true rfl, Nat.le_of_ble_eq_true rfl⟩) ⟨pP_blind, va_recv hK hP (ci := 0) (q0 := 0) rfl rfl, pP_pre hP hK⟩ rfl rfl hl.1 rfl (lv_room (Nat.le_of_ble_eq_true rfl)) dX0_draft_2 ⟨Nat.zero_le _, Nat.zero_le _⟩) ?_
  refine lv_iload_n hx hb dX0_draft_5 rfl (lv_at hl 2 rfl) ?_
  refine q_callV (va_runS (As := [.int (nI a)]) (rest := []) ⟨hx, hb, hml, hown, hts⟩ (kX0_checkAttribute l a ha) (cwS 1 hts gX0_draft_X0_checkAttribute rfl rfl rfl (by decide +kernel) ⟨Nat.le_of_ble_eq_true rfl, Nat.le_of_ble_eq_true rfl⟩) ⟨sP_blind, sP_pre⟩ rfl rfl hl.1 rfl (lv_room (Nat.le_of_ble_eq_true rfl)) dX0_draft_6 ⟨Nat.zero_le _, Nat.zero_le _⟩) ?_
  cases x with
  | none =>
    refine lv_iload_n hx hb dX0_draft_9 rfl (lv_at hl 3 rfl) ?_
    refine lv_iconst (v := oI none) hx hb dX0_draft_10 (by decide) ?_
    refine q_icmpO_eq (a := none) (b := none) (tgt := 18) (fun k h9 => by cases h9) (fun k h9 => by cases h9) hx hb dX0_draft_11 (by decide) (fun k11 => ?_) (fun k11 => absurd rfl k11)
    cases y with
    | none =>
      refine lv_iload hx hb dX0_draft_18 (lv_at hl 4 rfl) ?_
      refine lv_iconst (v := oI none) hx hb dX0_draft_20 (by decide) ?_
      refine q_icmpO_eq (a := none) (b := none) (tgt := 29) (fun k h9 => by cases h9) (fun k h9 => by cases h9) hx hb dX0_draft_21 (by decide) (fun k21 => ?_) (fun k21 => absurd rfl k21)
      rcases hbad with ⟨hne, hv⟩ | ⟨⟨o, rfl, hv⟩, hw⟩
      · refine lv_iload hx hb dX0_draft_29 (lv_at hl 5 rfl) ?_
        refine lv_iconst (v := oI none) hx hb dX0_draft_31 (by decide) ?_
        refine lv_icmp_eq (tgt := 57) hx hb dX0_draft_32 (by decide) (fun k32 => absurd k32 hne) (fun k32 => ?_)
        refine lv_iload hx hb dX0_draft_35 (lv_at hl 5 rfl) ?_
        refine lv_if_lt (tgt := 47) hx hb dX0_draft_37 (by decide) (fun k37 => ?_) (fun k37 => ?_)
        · obtain ⟨sa, hstr⟩ := hE.2.2.1 (145, "the value is out of range") (by decide +kernel)
          exact vx_throwS (is := 145) (text := "the value is out of range") (names := ["java/lang/RuntimeException", "java/lang/Exception"]) (A := nF) hx hb hlf hown (by decide +kernel) (by decide +kernel) (hts (.classLink RX0 108 "java/lang/IllegalArgumentException") (by decide +kernel)) (hts (.initialized "java/lang/IllegalArgumentException") (by decide +kernel)) hstr (vx_hat (B := tB "java/lang/IllegalArgumentException") (fun w hw => hts w (thA_draft w hw)) (by decide +kernel) (tE_B hE (by decide))) (by decide +kernel) hE.1 hE.2.1 va_S.rf (hl.1.trans hml.symm) dX0_draft_47 dX0_draft_50 dX0_draft_51 dX0_draft_53 dX0_draft_56 (fun z hz => (hexc z hz).elim) (Nat.le_of_ble_eq_true rfl) (Nat.le_of_ble_eq_true rfl) (Nat.le_of_ble_eq_true rfl) (Nat.le_of_ble_eq_true rfl) hlocks (fun t ht h1 h2 => ⟨rfl, h1, h2⟩) (fun z hz => by cases hz) (Nat.le_refl 1) (Nat.le_refl 6)
        · refine lv_iload hx hb dX0_draft_40 (lv_at hl 5 rfl) ?_
          refine lv_ldc (v := 100000) hx hb hown (hts (.constant RX0 144 (100000)) (by decide +kernel)) dX0_draft_42 ?_
          refine q_top (y := nI 100000) (by decide : (100000 : Int32) = nI 100000) ?_
          refine lv_icmp_le (tgt := 57) hx hb dX0_draft_44 (by decide) (fun k44 => absurd k44 (Int32.not_le.mpr (hv.resolve_left k37))) (fun k44 => ?_)
          obtain ⟨sa, hstr⟩ := hE.2.2.1 (145, "the value is out of range") (by decide +kernel)
          exact vx_throwS (is := 145) (text := "the value is out of range") (names := ["java/lang/RuntimeException", "java/lang/Exception"]) (A := nF) hx hb hlf hown (by decide +kernel) (by decide +kernel) (hts (.classLink RX0 108 "java/lang/IllegalArgumentException") (by decide +kernel)) (hts (.initialized "java/lang/IllegalArgumentException") (by decide +kernel)) hstr (vx_hat (B := tB "java/lang/IllegalArgumentException") (fun w hw => hts w (thA_draft w hw)) (by decide +kernel) (tE_B hE (by decide))) (by decide +kernel) hE.1 hE.2.1 va_S.rf (hl.1.trans hml.symm) dX0_draft_47 dX0_draft_50 dX0_draft_51 dX0_draft_53 dX0_draft_56 (fun z hz => (hexc z hz).elim) (Nat.le_of_ble_eq_true rfl) (Nat.le_of_ble_eq_true rfl) (Nat.le_of_ble_eq_true rfl) (Nat.le_of_ble_eq_true rfl) hlocks (fun t ht h1 h2 => ⟨rfl, h1, h2⟩) (fun z hz => by cases hz) (Nat.le_refl 1) (Nat.le_refl 6)
      · refine lv_iload hx hb dX0_draft_29 (lv_at hl 5 rfl) ?_
        refine lv_iconst (v := oI none) hx hb dX0_draft_31 (by decide) ?_
        refine q_icmpO_eq (a := o) (b := none) (tgt := 57) (fun k h9 => by have := hv k h9; omega) (fun k h9 => by cases h9) hx hb dX0_draft_32 (by decide) (fun k32 => ?_) (fun k32 => ?_)
        · refine lv_iload hx hb dX0_draft_57 (lv_at hl 6 rfl) ?_
          refine lv_if_lt (tgt := 70) hx hb dX0_draft_59 (by decide) (fun k59 => ?_) (fun k59 => ?_)
          · obtain ⟨sa, hstr⟩ := hE.2.2.1 (147, "the day is out of range") (by decide +kernel)
            exact vx_throwS (is := 147) (text := "the day is out of range") (names := ["java/lang/RuntimeException", "java/lang/Exception"]) (A := nF) hx hb hlf hown (by decide +kernel) (by decide +kernel) (hts (.classLink RX0 108 "java/lang/IllegalArgumentException") (by decide +kernel)) (hts (.initialized "java/lang/IllegalArgumentException") (by decide +kernel)) hstr (vx_hat (B := tB "java/lang/IllegalArgumentException") (fun w hw => hts w (thA_draft w hw)) (by decide +kernel) (tE_B hE (by decide))) (by decide +kernel) hE.1 hE.2.1 va_S.rf (hl.1.trans hml.symm) dX0_draft_70 dX0_draft_73 dX0_draft_74 dX0_draft_76 dX0_draft_79 (fun z hz => (hexc z hz).elim) (Nat.le_of_ble_eq_true rfl) (Nat.le_of_ble_eq_true rfl) (Nat.le_of_ble_eq_true rfl) (Nat.le_of_ble_eq_true rfl) hlocks (fun t ht h1 h2 => ⟨rfl, h1, h2⟩) (fun z hz => by cases hz) (Nat.le_refl 1) (Nat.le_refl 6)
          · refine lv_iload hx hb dX0_draft_62 (lv_at hl 6 rfl) ?_
            refine lv_sipush (v := nI 1000) hx hb dX0_draft_64 (by decide) ?_
            refine lv_icmp_le (tgt := 80) hx hb dX0_draft_67 (by decide) (fun k67 => absurd k67 (Int32.not_le.mpr (hw.resolve_left k59))) (fun k67 => ?_)
            obtain ⟨sa, hstr⟩ := hE.2.2.1 (147, "the day is out of range") (by decide +kernel)
            exact vx_throwS (is := 147) (text := "the day is out of range") (names := ["java/lang/RuntimeException", "java/lang/Exception"]) (A := nF) hx hb hlf hown (by decide +kernel) (by decide +kernel) (hts (.classLink RX0 108 "java/lang/IllegalArgumentException") (by decide +kernel)) (hts (.initialized "java/lang/IllegalArgumentException") (by decide +kernel)) hstr (vx_hat (B := tB "java/lang/IllegalArgumentException") (fun w hw => hts w (thA_draft w hw)) (by decide +kernel) (tE_B hE (by decide))) (by decide +kernel) hE.1 hE.2.1 va_S.rf (hl.1.trans hml.symm) dX0_draft_70 dX0_draft_73 dX0_draft_74 dX0_draft_76 dX0_draft_79 (fun z hz => (hexc z hz).elim) (Nat.le_of_ble_eq_true rfl) (Nat.le_of_ble_eq_true rfl) (Nat.le_of_ble_eq_true rfl) (Nat.le_of_ble_eq_true rfl) hlocks (fun t ht h1 h2 => ⟨rfl, h1, h2⟩) (fun z hz => by cases hz) (Nat.le_refl 1) (Nat.le_refl 6)
        · obtain ⟨v2, rfl⟩ := Option.ne_none_iff_exists'.mp k32
          have hv3 := hv v2 rfl
          refine lv_iload hx hb dX0_draft_35 (lv_at hl 5 rfl) ?_
          refine q_ifN_lt (a := v2) 47 (by omega) hx hb dX0_draft_37 (by decide) ?_
          refine lv_iload hx hb dX0_draft_40 (lv_at hl 5 rfl) ?_
          refine lv_ldc (v := 100000) hx hb hown (hts (.constant RX0 144 (100000)) (by decide +kernel)) dX0_draft_42 ?_
          refine q_top (y := nI 100000) (by decide : (100000 : Int32) = nI 100000) ?_
          refine q_icmpN_le (a := v2) (b := 100000) (tgt := 57) (by omega) (by omega) hx hb dX0_draft_44 (by decide) (fun k44 => ?_) (fun k44 => absurd k44 (by omega))
          refine lv_iload hx hb dX0_draft_57 (lv_at hl 6 rfl) ?_
          refine lv_if_lt (tgt := 70) hx hb dX0_draft_59 (by decide) (fun k59 => ?_) (fun k59 => ?_)
          · obtain ⟨sa, hstr⟩ := hE.2.2.1 (147, "the day is out of range") (by decide +kernel)
            exact vx_throwS (is := 147) (text := "the day is out of range") (names := ["java/lang/RuntimeException", "java/lang/Exception"]) (A := nF) hx hb hlf hown (by decide +kernel) (by decide +kernel) (hts (.classLink RX0 108 "java/lang/IllegalArgumentException") (by decide +kernel)) (hts (.initialized "java/lang/IllegalArgumentException") (by decide +kernel)) hstr (vx_hat (B := tB "java/lang/IllegalArgumentException") (fun w hw => hts w (thA_draft w hw)) (by decide +kernel) (tE_B hE (by decide))) (by decide +kernel) hE.1 hE.2.1 va_S.rf (hl.1.trans hml.symm) dX0_draft_70 dX0_draft_73 dX0_draft_74 dX0_draft_76 dX0_draft_79 (fun z hz => (hexc z hz).elim) (Nat.le_of_ble_eq_true rfl) (Nat.le_of_ble_eq_true rfl) (Nat.le_of_ble_eq_true rfl) (Nat.le_of_ble_eq_true rfl) hlocks (fun t ht h1 h2 => ⟨rfl, h1, h2⟩) (fun z hz => by cases hz) (Nat.le_refl 1) (Nat.le_refl 6)
          · refine lv_iload hx hb dX0_draft_62 (lv_at hl 6 rfl) ?_
            refine lv_sipush (v := nI 1000) hx hb dX0_draft_64 (by decide) ?_
            refine lv_icmp_le (tgt := 80) hx hb dX0_draft_67 (by decide) (fun k67 => absurd k67 (Int32.not_le.mpr (hw.resolve_left k59))) (fun k67 => ?_)
            obtain ⟨sa, hstr⟩ := hE.2.2.1 (147, "the day is out of range") (by decide +kernel)
            exact vx_throwS (is := 147) (text := "the day is out of range") (names := ["java/lang/RuntimeException", "java/lang/Exception"]) (A := nF) hx hb hlf hown (by decide +kernel) (by decide +kernel) (hts (.classLink RX0 108 "java/lang/IllegalArgumentException") (by decide +kernel)) (hts (.initialized "java/lang/IllegalArgumentException") (by decide +kernel)) hstr (vx_hat (B := tB "java/lang/IllegalArgumentException") (fun w hw => hts w (thA_draft w hw)) (by decide +kernel) (tE_B hE (by decide))) (by decide +kernel) hE.1 hE.2.1 va_S.rf (hl.1.trans hml.symm) dX0_draft_70 dX0_draft_73 dX0_draft_74 dX0_draft_76 dX0_draft_79 (fun z hz => (hexc z hz).elim) (Nat.le_of_ble_eq_true rfl) (Nat.le_of_ble_eq_true rfl) (Nat.le_of_ble_eq_true rfl) (Nat.le_of_ble_eq_true rfl) hlocks (fun t ht h1 h2 => ⟨rfl, h1, h2⟩) (fun z hz => by cases hz) (Nat.le_refl 1) (Nat.le_refl 6)
    | some y2 =>
      have hy3 := hyr y2 rfl
      refine lv_iload hx hb dX0_draft_18 (lv_at hl 4 rfl) ?_
      refine lv_iconst (v := oI none) hx hb dX0_draft_20 (by decide) ?_
      refine q_top2 (y := oI (some y2)) ((rfl : nI y2 = oI (some y2))) ?_
      refine q_icmpO_eq (a := some y2) (b := none) (tgt := 29) (fun k h9 => by cases h9; omega) (fun k h9 => by cases h9) hx hb dX0_draft_21 (by decide) (fun k21 => (by cases k21)) (fun k21 => ?_)
      refine lv_iload hx hb dX0_draft_24 (lv_at hl 4 rfl) ?_
      refine q_callV (va_runS (As := [.int (nI y2)]) (rest := []) ⟨hx, hb, hml, hown, hts⟩ (kX0_checkTongue l y2 hy3) (cwS 1 hts gX0_draft_X0_checkTongue rfl rfl rfl (by decide +kernel) ⟨Nat.le_of_ble_eq_true rfl, Nat.le_of_ble_eq_true rfl⟩) ⟨sP_blind, sP_pre⟩ rfl rfl hl.1 rfl (lv_room (Nat.le_of_ble_eq_true rfl)) dX0_draft_26 ⟨Nat.zero_le _, Nat.zero_le _⟩) ?_
      rcases hbad with ⟨hne, hv⟩ | ⟨⟨o, rfl, hv⟩, hw⟩
      · refine lv_iload hx hb dX0_draft_29 (lv_at hl 5 rfl) ?_
        refine lv_iconst (v := oI none) hx hb dX0_draft_31 (by decide) ?_
        refine lv_icmp_eq (tgt := 57) hx hb dX0_draft_32 (by decide) (fun k32 => absurd k32 hne) (fun k32 => ?_)
        refine lv_iload hx hb dX0_draft_35 (lv_at hl 5 rfl) ?_
        refine lv_if_lt (tgt := 47) hx hb dX0_draft_37 (by decide) (fun k37 => ?_) (fun k37 => ?_)
        · obtain ⟨sa, hstr⟩ := hE.2.2.1 (145, "the value is out of range") (by decide +kernel)
          exact vx_throwS (is := 145) (text := "the value is out of range") (names := ["java/lang/RuntimeException", "java/lang/Exception"]) (A := nF) hx hb hlf hown (by decide +kernel) (by decide +kernel) (hts (.classLink RX0 108 "java/lang/IllegalArgumentException") (by decide +kernel)) (hts (.initialized "java/lang/IllegalArgumentException") (by decide +kernel)) hstr (vx_hat (B := tB "java/lang/IllegalArgumentException") (fun w hw => hts w (thA_draft w hw)) (by decide +kernel) (tE_B hE (by decide))) (by decide +kernel) hE.1 hE.2.1 va_S.rf (hl.1.trans hml.symm) dX0_draft_47 dX0_draft_50 dX0_draft_51 dX0_draft_53 dX0_draft_56 (fun z hz => (hexc z hz).elim) (Nat.le_of_ble_eq_true rfl) (Nat.le_of_ble_eq_true rfl) (Nat.le_of_ble_eq_true rfl) (Nat.le_of_ble_eq_true rfl) hlocks (fun t ht h1 h2 => ⟨rfl, h1, h2⟩) (fun z hz => by cases hz) (Nat.le_refl 1) (Nat.le_refl 6)
        · refine lv_iload hx hb dX0_draft_40 (lv_at hl 5 rfl) ?_
          refine lv_ldc (v := 100000) hx hb hown (hts (.constant RX0 144 (100000)) (by decide +kernel)) dX0_draft_42 ?_
          refine q_top (y := nI 100000) (by decide : (100000 : Int32) = nI 100000) ?_
          refine lv_icmp_le (tgt := 57) hx hb dX0_draft_44 (by decide) (fun k44 => absurd k44 (Int32.not_le.mpr (hv.resolve_left k37))) (fun k44 => ?_)
          obtain ⟨sa, hstr⟩ := hE.2.2.1 (145, "the value is out of range") (by decide +kernel)
          exact vx_throwS (is := 145) (text := "the value is out of range") (names := ["java/lang/RuntimeException", "java/lang/Exception"]) (A := nF) hx hb hlf hown (by decide +kernel) (by decide +kernel) (hts (.classLink RX0 108 "java/lang/IllegalArgumentException") (by decide +kernel)) (hts (.initialized "java/lang/IllegalArgumentException") (by decide +kernel)) hstr (vx_hat (B := tB "java/lang/IllegalArgumentException") (fun w hw => hts w (thA_draft w hw)) (by decide +kernel) (tE_B hE (by decide))) (by decide +kernel) hE.1 hE.2.1 va_S.rf (hl.1.trans hml.symm) dX0_draft_47 dX0_draft_50 dX0_draft_51 dX0_draft_53 dX0_draft_56 (fun z hz => (hexc z hz).elim) (Nat.le_of_ble_eq_true rfl) (Nat.le_of_ble_eq_true rfl) (Nat.le_of_ble_eq_true rfl) (Nat.le_of_ble_eq_true rfl) hlocks (fun t ht h1 h2 => ⟨rfl, h1, h2⟩) (fun z hz => by cases hz) (Nat.le_refl 1) (Nat.le_refl 6)
      · refine lv_iload hx hb dX0_draft_29 (lv_at hl 5 rfl) ?_
        refine lv_iconst (v := oI none) hx hb dX0_draft_31 (by decide) ?_
        refine q_icmpO_eq (a := o) (b := none) (tgt := 57) (fun k h9 => by have := hv k h9; omega) (fun k h9 => by cases h9) hx hb dX0_draft_32 (by decide) (fun k32 => ?_) (fun k32 => ?_)
        · refine lv_iload hx hb dX0_draft_57 (lv_at hl 6 rfl) ?_
          refine lv_if_lt (tgt := 70) hx hb dX0_draft_59 (by decide) (fun k59 => ?_) (fun k59 => ?_)
          · obtain ⟨sa, hstr⟩ := hE.2.2.1 (147, "the day is out of range") (by decide +kernel)
            exact vx_throwS (is := 147) (text := "the day is out of range") (names := ["java/lang/RuntimeException", "java/lang/Exception"]) (A := nF) hx hb hlf hown (by decide +kernel) (by decide +kernel) (hts (.classLink RX0 108 "java/lang/IllegalArgumentException") (by decide +kernel)) (hts (.initialized "java/lang/IllegalArgumentException") (by decide +kernel)) hstr (vx_hat (B := tB "java/lang/IllegalArgumentException") (fun w hw => hts w (thA_draft w hw)) (by decide +kernel) (tE_B hE (by decide))) (by decide +kernel) hE.1 hE.2.1 va_S.rf (hl.1.trans hml.symm) dX0_draft_70 dX0_draft_73 dX0_draft_74 dX0_draft_76 dX0_draft_79 (fun z hz => (hexc z hz).elim) (Nat.le_of_ble_eq_true rfl) (Nat.le_of_ble_eq_true rfl) (Nat.le_of_ble_eq_true rfl) (Nat.le_of_ble_eq_true rfl) hlocks (fun t ht h1 h2 => ⟨rfl, h1, h2⟩) (fun z hz => by cases hz) (Nat.le_refl 1) (Nat.le_refl 6)
          · refine lv_iload hx hb dX0_draft_62 (lv_at hl 6 rfl) ?_
            refine lv_sipush (v := nI 1000) hx hb dX0_draft_64 (by decide) ?_
            refine lv_icmp_le (tgt := 80) hx hb dX0_draft_67 (by decide) (fun k67 => absurd k67 (Int32.not_le.mpr (hw.resolve_left k59))) (fun k67 => ?_)
            obtain ⟨sa, hstr⟩ := hE.2.2.1 (147, "the day is out of range") (by decide +kernel)
            exact vx_throwS (is := 147) (text := "the day is out of range") (names := ["java/lang/RuntimeException", "java/lang/Exception"]) (A := nF) hx hb hlf hown (by decide +kernel) (by decide +kernel) (hts (.classLink RX0 108 "java/lang/IllegalArgumentException") (by decide +kernel)) (hts (.initialized "java/lang/IllegalArgumentException") (by decide +kernel)) hstr (vx_hat (B := tB "java/lang/IllegalArgumentException") (fun w hw => hts w (thA_draft w hw)) (by decide +kernel) (tE_B hE (by decide))) (by decide +kernel) hE.1 hE.2.1 va_S.rf (hl.1.trans hml.symm) dX0_draft_70 dX0_draft_73 dX0_draft_74 dX0_draft_76 dX0_draft_79 (fun z hz => (hexc z hz).elim) (Nat.le_of_ble_eq_true rfl) (Nat.le_of_ble_eq_true rfl) (Nat.le_of_ble_eq_true rfl) (Nat.le_of_ble_eq_true rfl) hlocks (fun t ht h1 h2 => ⟨rfl, h1, h2⟩) (fun z hz => by cases hz) (Nat.le_refl 1) (Nat.le_refl 6)
        · obtain ⟨v2, rfl⟩ := Option.ne_none_iff_exists'.mp k32
          have hv3 := hv v2 rfl
          refine lv_iload hx hb dX0_draft_35 (lv_at hl 5 rfl) ?_
          refine q_ifN_lt (a := v2) 47 (by omega) hx hb dX0_draft_37 (by decide) ?_
          refine lv_iload hx hb dX0_draft_40 (lv_at hl 5 rfl) ?_
          refine lv_ldc (v := 100000) hx hb hown (hts (.constant RX0 144 (100000)) (by decide +kernel)) dX0_draft_42 ?_
          refine q_top (y := nI 100000) (by decide : (100000 : Int32) = nI 100000) ?_
          refine q_icmpN_le (a := v2) (b := 100000) (tgt := 57) (by omega) (by omega) hx hb dX0_draft_44 (by decide) (fun k44 => ?_) (fun k44 => absurd k44 (by omega))
          refine lv_iload hx hb dX0_draft_57 (lv_at hl 6 rfl) ?_
          refine lv_if_lt (tgt := 70) hx hb dX0_draft_59 (by decide) (fun k59 => ?_) (fun k59 => ?_)
          · obtain ⟨sa, hstr⟩ := hE.2.2.1 (147, "the day is out of range") (by decide +kernel)
            exact vx_throwS (is := 147) (text := "the day is out of range") (names := ["java/lang/RuntimeException", "java/lang/Exception"]) (A := nF) hx hb hlf hown (by decide +kernel) (by decide +kernel) (hts (.classLink RX0 108 "java/lang/IllegalArgumentException") (by decide +kernel)) (hts (.initialized "java/lang/IllegalArgumentException") (by decide +kernel)) hstr (vx_hat (B := tB "java/lang/IllegalArgumentException") (fun w hw => hts w (thA_draft w hw)) (by decide +kernel) (tE_B hE (by decide))) (by decide +kernel) hE.1 hE.2.1 va_S.rf (hl.1.trans hml.symm) dX0_draft_70 dX0_draft_73 dX0_draft_74 dX0_draft_76 dX0_draft_79 (fun z hz => (hexc z hz).elim) (Nat.le_of_ble_eq_true rfl) (Nat.le_of_ble_eq_true rfl) (Nat.le_of_ble_eq_true rfl) (Nat.le_of_ble_eq_true rfl) hlocks (fun t ht h1 h2 => ⟨rfl, h1, h2⟩) (fun z hz => by cases hz) (Nat.le_refl 1) (Nat.le_refl 6)
          · refine lv_iload hx hb dX0_draft_62 (lv_at hl 6 rfl) ?_
            refine lv_sipush (v := nI 1000) hx hb dX0_draft_64 (by decide) ?_
            refine lv_icmp_le (tgt := 80) hx hb dX0_draft_67 (by decide) (fun k67 => absurd k67 (Int32.not_le.mpr (hw.resolve_left k59))) (fun k67 => ?_)
            obtain ⟨sa, hstr⟩ := hE.2.2.1 (147, "the day is out of range") (by decide +kernel)
            exact vx_throwS (is := 147) (text := "the day is out of range") (names := ["java/lang/RuntimeException", "java/lang/Exception"]) (A := nF) hx hb hlf hown (by decide +kernel) (by decide +kernel) (hts (.classLink RX0 108 "java/lang/IllegalArgumentException") (by decide +kernel)) (hts (.initialized "java/lang/IllegalArgumentException") (by decide +kernel)) hstr (vx_hat (B := tB "java/lang/IllegalArgumentException") (fun w hw => hts w (thA_draft w hw)) (by decide +kernel) (tE_B hE (by decide))) (by decide +kernel) hE.1 hE.2.1 va_S.rf (hl.1.trans hml.symm) dX0_draft_70 dX0_draft_73 dX0_draft_74 dX0_draft_76 dX0_draft_79 (fun z hz => (hexc z hz).elim) (Nat.le_of_ble_eq_true rfl) (Nat.le_of_ble_eq_true rfl) (Nat.le_of_ble_eq_true rfl) (Nat.le_of_ble_eq_true rfl) hlocks (fun t ht h1 h2 => ⟨rfl, h1, h2⟩) (fun z hz => by cases hz) (Nat.le_refl 1) (Nat.le_refl 6)
  | some x2 =>
    have hx3 := hxr x2 rfl
    refine lv_iload_n hx hb dX0_draft_9 rfl (lv_at hl 3 rfl) ?_
    refine lv_iconst (v := oI none) hx hb dX0_draft_10 (by decide) ?_
    refine q_top2 (y := oI (some x2)) ((rfl : nI x2 = oI (some x2))) ?_
    refine q_icmpO_eq (a := some x2) (b := none) (tgt := 18) (fun k h9 => by cases h9; omega) (fun k h9 => by cases h9) hx hb dX0_draft_11 (by decide) (fun k11 => (by cases k11)) (fun k11 => ?_)
    refine lv_iload_n hx hb dX0_draft_14 rfl (lv_at hl 3 rfl) ?_
    refine q_callV (va_runS (As := [.int (nI x2)]) (rest := []) ⟨hx, hb, hml, hown, hts⟩ (kX0_checkShop l x2 hx3) (cwS 1 hts gX0_draft_X0_checkShop rfl rfl rfl (by decide +kernel) ⟨Nat.le_of_ble_eq_true rfl, Nat.le_of_ble_eq_true rfl⟩) ⟨sP_blind, sP_pre⟩ rfl rfl hl.1 rfl (lv_room (Nat.le_of_ble_eq_true rfl)) dX0_draft_15 ⟨Nat.zero_le _, Nat.zero_le _⟩) ?_
    cases y with
    | none =>
      refine lv_iload hx hb dX0_draft_18 (lv_at hl 4 rfl) ?_
      refine lv_iconst (v := oI none) hx hb dX0_draft_20 (by decide) ?_
      refine q_icmpO_eq (a := none) (b := none) (tgt := 29) (fun k h9 => by cases h9) (fun k h9 => by cases h9) hx hb dX0_draft_21 (by decide) (fun k21 => ?_) (fun k21 => absurd rfl k21)
      rcases hbad with ⟨hne, hv⟩ | ⟨⟨o, rfl, hv⟩, hw⟩
      · refine lv_iload hx hb dX0_draft_29 (lv_at hl 5 rfl) ?_
        refine lv_iconst (v := oI none) hx hb dX0_draft_31 (by decide) ?_
        refine lv_icmp_eq (tgt := 57) hx hb dX0_draft_32 (by decide) (fun k32 => absurd k32 hne) (fun k32 => ?_)
        refine lv_iload hx hb dX0_draft_35 (lv_at hl 5 rfl) ?_
        refine lv_if_lt (tgt := 47) hx hb dX0_draft_37 (by decide) (fun k37 => ?_) (fun k37 => ?_)
        · obtain ⟨sa, hstr⟩ := hE.2.2.1 (145, "the value is out of range") (by decide +kernel)
          exact vx_throwS (is := 145) (text := "the value is out of range") (names := ["java/lang/RuntimeException", "java/lang/Exception"]) (A := nF) hx hb hlf hown (by decide +kernel) (by decide +kernel) (hts (.classLink RX0 108 "java/lang/IllegalArgumentException") (by decide +kernel)) (hts (.initialized "java/lang/IllegalArgumentException") (by decide +kernel)) hstr (vx_hat (B := tB "java/lang/IllegalArgumentException") (fun w hw => hts w (thA_draft w hw)) (by decide +kernel) (tE_B hE (by decide))) (by decide +kernel) hE.1 hE.2.1 va_S.rf (hl.1.trans hml.symm) dX0_draft_47 dX0_draft_50 dX0_draft_51 dX0_draft_53 dX0_draft_56 (fun z hz => (hexc z hz).elim) (Nat.le_of_ble_eq_true rfl) (Nat.le_of_ble_eq_true rfl) (Nat.le_of_ble_eq_true rfl) (Nat.le_of_ble_eq_true rfl) hlocks (fun t ht h1 h2 => ⟨rfl, h1, h2⟩) (fun z hz => by cases hz) (Nat.le_refl 1) (Nat.le_refl 6)
        · refine lv_iload hx hb dX0_draft_40 (lv_at hl 5 rfl) ?_
          refine lv_ldc (v := 100000) hx hb hown (hts (.constant RX0 144 (100000)) (by decide +kernel)) dX0_draft_42 ?_
          refine q_top (y := nI 100000) (by decide : (100000 : Int32) = nI 100000) ?_
          refine lv_icmp_le (tgt := 57) hx hb dX0_draft_44 (by decide) (fun k44 => absurd k44 (Int32.not_le.mpr (hv.resolve_left k37))) (fun k44 => ?_)
          obtain ⟨sa, hstr⟩ := hE.2.2.1 (145, "the value is out of range") (by decide +kernel)
          exact vx_throwS (is := 145) (text := "the value is out of range") (names := ["java/lang/RuntimeException", "java/lang/Exception"]) (A := nF) hx hb hlf hown (by decide +kernel) (by decide +kernel) (hts (.classLink RX0 108 "java/lang/IllegalArgumentException") (by decide +kernel)) (hts (.initialized "java/lang/IllegalArgumentException") (by decide +kernel)) hstr (vx_hat (B := tB "java/lang/IllegalArgumentException") (fun w hw => hts w (thA_draft w hw)) (by decide +kernel) (tE_B hE (by decide))) (by decide +kernel) hE.1 hE.2.1 va_S.rf (hl.1.trans hml.symm) dX0_draft_47 dX0_draft_50 dX0_draft_51 dX0_draft_53 dX0_draft_56 (fun z hz => (hexc z hz).elim) (Nat.le_of_ble_eq_true rfl) (Nat.le_of_ble_eq_true rfl) (Nat.le_of_ble_eq_true rfl) (Nat.le_of_ble_eq_true rfl) hlocks (fun t ht h1 h2 => ⟨rfl, h1, h2⟩) (fun z hz => by cases hz) (Nat.le_refl 1) (Nat.le_refl 6)
      · refine lv_iload hx hb dX0_draft_29 (lv_at hl 5 rfl) ?_
        refine lv_iconst (v := oI none) hx hb dX0_draft_31 (by decide) ?_
        refine q_icmpO_eq (a := o) (b := none) (tgt := 57) (fun k h9 => by have := hv k h9; omega) (fun k h9 => by cases h9) hx hb dX0_draft_32 (by decide) (fun k32 => ?_) (fun k32 => ?_)
        · refine lv_iload hx hb dX0_draft_57 (lv_at hl 6 rfl) ?_
          refine lv_if_lt (tgt := 70) hx hb dX0_draft_59 (by decide) (fun k59 => ?_) (fun k59 => ?_)
          · obtain ⟨sa, hstr⟩ := hE.2.2.1 (147, "the day is out of range") (by decide +kernel)
            exact vx_throwS (is := 147) (text := "the day is out of range") (names := ["java/lang/RuntimeException", "java/lang/Exception"]) (A := nF) hx hb hlf hown (by decide +kernel) (by decide +kernel) (hts (.classLink RX0 108 "java/lang/IllegalArgumentException") (by decide +kernel)) (hts (.initialized "java/lang/IllegalArgumentException") (by decide +kernel)) hstr (vx_hat (B := tB "java/lang/IllegalArgumentException") (fun w hw => hts w (thA_draft w hw)) (by decide +kernel) (tE_B hE (by decide))) (by decide +kernel) hE.1 hE.2.1 va_S.rf (hl.1.trans hml.symm) dX0_draft_70 dX0_draft_73 dX0_draft_74 dX0_draft_76 dX0_draft_79 (fun z hz => (hexc z hz).elim) (Nat.le_of_ble_eq_true rfl) (Nat.le_of_ble_eq_true rfl) (Nat.le_of_ble_eq_true rfl) (Nat.le_of_ble_eq_true rfl) hlocks (fun t ht h1 h2 => ⟨rfl, h1, h2⟩) (fun z hz => by cases hz) (Nat.le_refl 1) (Nat.le_refl 6)
          · refine lv_iload hx hb dX0_draft_62 (lv_at hl 6 rfl) ?_
            refine lv_sipush (v := nI 1000) hx hb dX0_draft_64 (by decide) ?_
            refine lv_icmp_le (tgt := 80) hx hb dX0_draft_67 (by decide) (fun k67 => absurd k67 (Int32.not_le.mpr (hw.resolve_left k59))) (fun k67 => ?_)
            obtain ⟨sa, hstr⟩ := hE.2.2.1 (147, "the day is out of range") (by decide +kernel)
            exact vx_throwS (is := 147) (text := "the day is out of range") (names := ["java/lang/RuntimeException", "java/lang/Exception"]) (A := nF) hx hb hlf hown (by decide +kernel) (by decide +kernel) (hts (.classLink RX0 108 "java/lang/IllegalArgumentException") (by decide +kernel)) (hts (.initialized "java/lang/IllegalArgumentException") (by decide +kernel)) hstr (vx_hat (B := tB "java/lang/IllegalArgumentException") (fun w hw => hts w (thA_draft w hw)) (by decide +kernel) (tE_B hE (by decide))) (by decide +kernel) hE.1 hE.2.1 va_S.rf (hl.1.trans hml.symm) dX0_draft_70 dX0_draft_73 dX0_draft_74 dX0_draft_76 dX0_draft_79 (fun z hz => (hexc z hz).elim) (Nat.le_of_ble_eq_true rfl) (Nat.le_of_ble_eq_true rfl) (Nat.le_of_ble_eq_true rfl) (Nat.le_of_ble_eq_true rfl) hlocks (fun t ht h1 h2 => ⟨rfl, h1, h2⟩) (fun z hz => by cases hz) (Nat.le_refl 1) (Nat.le_refl 6)
        · obtain ⟨v2, rfl⟩ := Option.ne_none_iff_exists'.mp k32
          have hv3 := hv v2 rfl
          refine lv_iload hx hb dX0_draft_35 (lv_at hl 5 rfl) ?_
          refine q_ifN_lt (a := v2) 47 (by omega) hx hb dX0_draft_37 (by decide) ?_
          refine lv_iload hx hb dX0_draft_40 (lv_at hl 5 rfl) ?_
          refine lv_ldc (v := 100000) hx hb hown (hts (.constant RX0 144 (100000)) (by decide +kernel)) dX0_draft_42 ?_
          refine q_top (y := nI 100000) (by decide : (100000 : Int32) = nI 100000) ?_
          refine q_icmpN_le (a := v2) (b := 100000) (tgt := 57) (by omega) (by omega) hx hb dX0_draft_44 (by decide) (fun k44 => ?_) (fun k44 => absurd k44 (by omega))
          refine lv_iload hx hb dX0_draft_57 (lv_at hl 6 rfl) ?_
          refine lv_if_lt (tgt := 70) hx hb dX0_draft_59 (by decide) (fun k59 => ?_) (fun k59 => ?_)
          · obtain ⟨sa, hstr⟩ := hE.2.2.1 (147, "the day is out of range") (by decide +kernel)
            exact vx_throwS (is := 147) (text := "the day is out of range") (names := ["java/lang/RuntimeException", "java/lang/Exception"]) (A := nF) hx hb hlf hown (by decide +kernel) (by decide +kernel) (hts (.classLink RX0 108 "java/lang/IllegalArgumentException") (by decide +kernel)) (hts (.initialized "java/lang/IllegalArgumentException") (by decide +kernel)) hstr (vx_hat (B := tB "java/lang/IllegalArgumentException") (fun w hw => hts w (thA_draft w hw)) (by decide +kernel) (tE_B hE (by decide))) (by decide +kernel) hE.1 hE.2.1 va_S.rf (hl.1.trans hml.symm) dX0_draft_70 dX0_draft_73 dX0_draft_74 dX0_draft_76 dX0_draft_79 (fun z hz => (hexc z hz).elim) (Nat.le_of_ble_eq_true rfl) (Nat.le_of_ble_eq_true rfl) (Nat.le_of_ble_eq_true rfl) (Nat.le_of_ble_eq_true rfl) hlocks (fun t ht h1 h2 => ⟨rfl, h1, h2⟩) (fun z hz => by cases hz) (Nat.le_refl 1) (Nat.le_refl 6)
          · refine lv_iload hx hb dX0_draft_62 (lv_at hl 6 rfl) ?_
            refine lv_sipush (v := nI 1000) hx hb dX0_draft_64 (by decide) ?_
            refine lv_icmp_le (tgt := 80) hx hb dX0_draft_67 (by decide) (fun k67 => absurd k67 (Int32.not_le.mpr (hw.resolve_left k59))) (fun k67 => ?_)
            obtain ⟨sa, hstr⟩ := hE.2.2.1 (147, "the day is out of range") (by decide +kernel)
            exact vx_throwS (is := 147) (text := "the day is out of range") (names := ["java/lang/RuntimeException", "java/lang/Exception"]) (A := nF) hx hb hlf hown (by decide +kernel) (by decide +kernel) (hts (.classLink RX0 108 "java/lang/IllegalArgumentException") (by decide +kernel)) (hts (.initialized "java/lang/IllegalArgumentException") (by decide +kernel)) hstr (vx_hat (B := tB "java/lang/IllegalArgumentException") (fun w hw => hts w (thA_draft w hw)) (by decide +kernel) (tE_B hE (by decide))) (by decide +kernel) hE.1 hE.2.1 va_S.rf (hl.1.trans hml.symm) dX0_draft_70 dX0_draft_73 dX0_draft_74 dX0_draft_76 dX0_draft_79 (fun z hz => (hexc z hz).elim) (Nat.le_of_ble_eq_true rfl) (Nat.le_of_ble_eq_true rfl) (Nat.le_of_ble_eq_true rfl) (Nat.le_of_ble_eq_true rfl) hlocks (fun t ht h1 h2 => ⟨rfl, h1, h2⟩) (fun z hz => by cases hz) (Nat.le_refl 1) (Nat.le_refl 6)
    | some y2 =>
      have hy3 := hyr y2 rfl
      refine lv_iload hx hb dX0_draft_18 (lv_at hl 4 rfl) ?_
      refine lv_iconst (v := oI none) hx hb dX0_draft_20 (by decide) ?_
      refine q_top2 (y := oI (some y2)) ((rfl : nI y2 = oI (some y2))) ?_
      refine q_icmpO_eq (a := some y2) (b := none) (tgt := 29) (fun k h9 => by cases h9; omega) (fun k h9 => by cases h9) hx hb dX0_draft_21 (by decide) (fun k21 => (by cases k21)) (fun k21 => ?_)
      refine lv_iload hx hb dX0_draft_24 (lv_at hl 4 rfl) ?_
      refine q_callV (va_runS (As := [.int (nI y2)]) (rest := []) ⟨hx, hb, hml, hown, hts⟩ (kX0_checkTongue l y2 hy3) (cwS 1 hts gX0_draft_X0_checkTongue rfl rfl rfl (by decide +kernel) ⟨Nat.le_of_ble_eq_true rfl, Nat.le_of_ble_eq_true rfl⟩) ⟨sP_blind, sP_pre⟩ rfl rfl hl.1 rfl (lv_room (Nat.le_of_ble_eq_true rfl)) dX0_draft_26 ⟨Nat.zero_le _, Nat.zero_le _⟩) ?_
      rcases hbad with ⟨hne, hv⟩ | ⟨⟨o, rfl, hv⟩, hw⟩
      · refine lv_iload hx hb dX0_draft_29 (lv_at hl 5 rfl) ?_
        refine lv_iconst (v := oI none) hx hb dX0_draft_31 (by decide) ?_
        refine lv_icmp_eq (tgt := 57) hx hb dX0_draft_32 (by decide) (fun k32 => absurd k32 hne) (fun k32 => ?_)
        refine lv_iload hx hb dX0_draft_35 (lv_at hl 5 rfl) ?_
        refine lv_if_lt (tgt := 47) hx hb dX0_draft_37 (by decide) (fun k37 => ?_) (fun k37 => ?_)
        · obtain ⟨sa, hstr⟩ := hE.2.2.1 (145, "the value is out of range") (by decide +kernel)
          exact vx_throwS (is := 145) (text := "the value is out of range") (names := ["java/lang/RuntimeException", "java/lang/Exception"]) (A := nF) hx hb hlf hown (by decide +kernel) (by decide +kernel) (hts (.classLink RX0 108 "java/lang/IllegalArgumentException") (by decide +kernel)) (hts (.initialized "java/lang/IllegalArgumentException") (by decide +kernel)) hstr (vx_hat (B := tB "java/lang/IllegalArgumentException") (fun w hw => hts w (thA_draft w hw)) (by decide +kernel) (tE_B hE (by decide))) (by decide +kernel) hE.1 hE.2.1 va_S.rf (hl.1.trans hml.symm) dX0_draft_47 dX0_draft_50 dX0_draft_51 dX0_draft_53 dX0_draft_56 (fun z hz => (hexc z hz).elim) (Nat.le_of_ble_eq_true rfl) (Nat.le_of_ble_eq_true rfl) (Nat.le_of_ble_eq_true rfl) (Nat.le_of_ble_eq_true rfl) hlocks (fun t ht h1 h2 => ⟨rfl, h1, h2⟩) (fun z hz => by cases hz) (Nat.le_refl 1) (Nat.le_refl 6)
        · refine lv_iload hx hb dX0_draft_40 (lv_at hl 5 rfl) ?_
          refine lv_ldc (v := 100000) hx hb hown (hts (.constant RX0 144 (100000)) (by decide +kernel)) dX0_draft_42 ?_
          refine q_top (y := nI 100000) (by decide : (100000 : Int32) = nI 100000) ?_
          refine lv_icmp_le (tgt := 57) hx hb dX0_draft_44 (by decide) (fun k44 => absurd k44 (Int32.not_le.mpr (hv.resolve_left k37))) (fun k44 => ?_)
          obtain ⟨sa, hstr⟩ := hE.2.2.1 (145, "the value is out of range") (by decide +kernel)
          exact vx_throwS (is := 145) (text := "the value is out of range") (names := ["java/lang/RuntimeException", "java/lang/Exception"]) (A := nF) hx hb hlf hown (by decide +kernel) (by decide +kernel) (hts (.classLink RX0 108 "java/lang/IllegalArgumentException") (by decide +kernel)) (hts (.initialized "java/lang/IllegalArgumentException") (by decide +kernel)) hstr (vx_hat (B := tB "java/lang/IllegalArgumentException") (fun w hw => hts w (thA_draft w hw)) (by decide +kernel) (tE_B hE (by decide))) (by decide +kernel) hE.1 hE.2.1 va_S.rf (hl.1.trans hml.symm) dX0_draft_47 dX0_draft_50 dX0_draft_51 dX0_draft_53 dX0_draft_56 (fun z hz => (hexc z hz).elim) (Nat.le_of_ble_eq_true rfl) (Nat.le_of_ble_eq_true rfl) (Nat.le_of_ble_eq_true rfl) (Nat.le_of_ble_eq_true rfl) hlocks (fun t ht h1 h2 => ⟨rfl, h1, h2⟩) (fun z hz => by cases hz) (Nat.le_refl 1) (Nat.le_refl 6)
      · refine lv_iload hx hb dX0_draft_29 (lv_at hl 5 rfl) ?_
        refine lv_iconst (v := oI none) hx hb dX0_draft_31 (by decide) ?_
        refine q_icmpO_eq (a := o) (b := none) (tgt := 57) (fun k h9 => by have := hv k h9; omega) (fun k h9 => by cases h9) hx hb dX0_draft_32 (by decide) (fun k32 => ?_) (fun k32 => ?_)
        · refine lv_iload hx hb dX0_draft_57 (lv_at hl 6 rfl) ?_
          refine lv_if_lt (tgt := 70) hx hb dX0_draft_59 (by decide) (fun k59 => ?_) (fun k59 => ?_)
          · obtain ⟨sa, hstr⟩ := hE.2.2.1 (147, "the day is out of range") (by decide +kernel)
            exact vx_throwS (is := 147) (text := "the day is out of range") (names := ["java/lang/RuntimeException", "java/lang/Exception"]) (A := nF) hx hb hlf hown (by decide +kernel) (by decide +kernel) (hts (.classLink RX0 108 "java/lang/IllegalArgumentException") (by decide +kernel)) (hts (.initialized "java/lang/IllegalArgumentException") (by decide +kernel)) hstr (vx_hat (B := tB "java/lang/IllegalArgumentException") (fun w hw => hts w (thA_draft w hw)) (by decide +kernel) (tE_B hE (by decide))) (by decide +kernel) hE.1 hE.2.1 va_S.rf (hl.1.trans hml.symm) dX0_draft_70 dX0_draft_73 dX0_draft_74 dX0_draft_76 dX0_draft_79 (fun z hz => (hexc z hz).elim) (Nat.le_of_ble_eq_true rfl) (Nat.le_of_ble_eq_true rfl) (Nat.le_of_ble_eq_true rfl) (Nat.le_of_ble_eq_true rfl) hlocks (fun t ht h1 h2 => ⟨rfl, h1, h2⟩) (fun z hz => by cases hz) (Nat.le_refl 1) (Nat.le_refl 6)
          · refine lv_iload hx hb dX0_draft_62 (lv_at hl 6 rfl) ?_
            refine lv_sipush (v := nI 1000) hx hb dX0_draft_64 (by decide) ?_
            refine lv_icmp_le (tgt := 80) hx hb dX0_draft_67 (by decide) (fun k67 => absurd k67 (Int32.not_le.mpr (hw.resolve_left k59))) (fun k67 => ?_)
            obtain ⟨sa, hstr⟩ := hE.2.2.1 (147, "the day is out of range") (by decide +kernel)
            exact vx_throwS (is := 147) (text := "the day is out of range") (names := ["java/lang/RuntimeException", "java/lang/Exception"]) (A := nF) hx hb hlf hown (by decide +kernel) (by decide +kernel) (hts (.classLink RX0 108 "java/lang/IllegalArgumentException") (by decide +kernel)) (hts (.initialized "java/lang/IllegalArgumentException") (by decide +kernel)) hstr (vx_hat (B := tB "java/lang/IllegalArgumentException") (fun w hw => hts w (thA_draft w hw)) (by decide +kernel) (tE_B hE (by decide))) (by decide +kernel) hE.1 hE.2.1 va_S.rf (hl.1.trans hml.symm) dX0_draft_70 dX0_draft_73 dX0_draft_74 dX0_draft_76 dX0_draft_79 (fun z hz => (hexc z hz).elim) (Nat.le_of_ble_eq_true rfl) (Nat.le_of_ble_eq_true rfl) (Nat.le_of_ble_eq_true rfl) (Nat.le_of_ble_eq_true rfl) hlocks (fun t ht h1 h2 => ⟨rfl, h1, h2⟩) (fun z hz => by cases hz) (Nat.le_refl 1) (Nat.le_refl 6)
        · obtain ⟨v2, rfl⟩ := Option.ne_none_iff_exists'.mp k32
          have hv3 := hv v2 rfl
          refine lv_iload hx hb dX0_draft_35 (lv_at hl 5 rfl) ?_
          refine q_ifN_lt (a := v2) 47 (by omega) hx hb dX0_draft_37 (by decide) ?_
          refine lv_iload hx hb dX0_draft_40 (lv_at hl 5 rfl) ?_
          refine lv_ldc (v := 100000) hx hb hown (hts (.constant RX0 144 (100000)) (by decide +kernel)) dX0_draft_42 ?_
          refine q_top (y := nI 100000) (by decide : (100000 : Int32) = nI 100000) ?_
          refine q_icmpN_le (a := v2) (b := 100000) (tgt := 57) (by omega) (by omega) hx hb dX0_draft_44 (by decide) (fun k44 => ?_) (fun k44 => absurd k44 (by omega))
          refine lv_iload hx hb dX0_draft_57 (lv_at hl 6 rfl) ?_
          refine lv_if_lt (tgt := 70) hx hb dX0_draft_59 (by decide) (fun k59 => ?_) (fun k59 => ?_)
          · obtain ⟨sa, hstr⟩ := hE.2.2.1 (147, "the day is out of range") (by decide +kernel)
            exact vx_throwS (is := 147) (text := "the day is out of range") (names := ["java/lang/RuntimeException", "java/lang/Exception"]) (A := nF) hx hb hlf hown (by decide +kernel) (by decide +kernel) (hts (.classLink RX0 108 "java/lang/IllegalArgumentException") (by decide +kernel)) (hts (.initialized "java/lang/IllegalArgumentException") (by decide +kernel)) hstr (vx_hat (B := tB "java/lang/IllegalArgumentException") (fun w hw => hts w (thA_draft w hw)) (by decide +kernel) (tE_B hE (by decide))) (by decide +kernel) hE.1 hE.2.1 va_S.rf (hl.1.trans hml.symm) dX0_draft_70 dX0_draft_73 dX0_draft_74 dX0_draft_76 dX0_draft_79 (fun z hz => (hexc z hz).elim) (Nat.le_of_ble_eq_true rfl) (Nat.le_of_ble_eq_true rfl) (Nat.le_of_ble_eq_true rfl) (Nat.le_of_ble_eq_true rfl) hlocks (fun t ht h1 h2 => ⟨rfl, h1, h2⟩) (fun z hz => by cases hz) (Nat.le_refl 1) (Nat.le_refl 6)
          · refine lv_iload hx hb dX0_draft_62 (lv_at hl 6 rfl) ?_
            refine lv_sipush (v := nI 1000) hx hb dX0_draft_64 (by decide) ?_
            refine lv_icmp_le (tgt := 80) hx hb dX0_draft_67 (by decide) (fun k67 => absurd k67 (Int32.not_le.mpr (hw.resolve_left k59))) (fun k67 => ?_)
            obtain ⟨sa, hstr⟩ := hE.2.2.1 (147, "the day is out of range") (by decide +kernel)
            exact vx_throwS (is := 147) (text := "the day is out of range") (names := ["java/lang/RuntimeException", "java/lang/Exception"]) (A := nF) hx hb hlf hown (by decide +kernel) (by decide +kernel) (hts (.classLink RX0 108 "java/lang/IllegalArgumentException") (by decide +kernel)) (hts (.initialized "java/lang/IllegalArgumentException") (by decide +kernel)) hstr (vx_hat (B := tB "java/lang/IllegalArgumentException") (fun w hw => hts w (thA_draft w hw)) (by decide +kernel) (tE_B hE (by decide))) (by decide +kernel) hE.1 hE.2.1 va_S.rf (hl.1.trans hml.symm) dX0_draft_70 dX0_draft_73 dX0_draft_74 dX0_draft_76 dX0_draft_79 (fun z hz => (hexc z hz).elim) (Nat.le_of_ble_eq_true rfl) (Nat.le_of_ble_eq_true rfl) (Nat.le_of_ble_eq_true rfl) (Nat.le_of_ble_eq_true rfl) hlocks (fun t ht h1 h2 => ⟨rfl, h1, h2⟩) (fun z hz => by cases hz) (Nat.le_refl 1) (Nat.le_refl 6)

set_option maxHeartbeats 4000000 in
set_option maxRecDepth 100000 in
theorem kX0_draftXS (l : Launch) (D : va_G) (h : Nat) (ad : Nat → Nat) (cI cZ : ClassId) (ex : Nat → Bool) (pa : Nat → Option Nat) (di : Nat → Nat) (qu : Nat → Nat) (gc : Nat) (dg : Nat → Nat) (dp : Nat → Nat) (dv : Nat → Option Nat) (dd : Nat → Nat) (ds : Nat → Nat) (dc : Nat) (td : Nat) (ho : Nat → Option Nat) (ak : Nat → Bool) (se : Nat → Option Nat) (pr : Nat → Option Nat) (hlf : l.stackTraces = false) (g a : Nat) (x y v : Option Nat) (w : Nat) (hg : g < 16) (he : ex g = true) (ha : a < 6) (hxr : ∀ k, x = some k → k < 3) (hyr : ∀ k, y = some k → k < 3) (hvr : ∀ k, v = some k → k ≤ 100000) (hw2 : w ≤ 1000) (hdc : dc = 200) : vx_Met l yX0_draft wsX0_draft ({ frames := 6, cells := 1, slots := 6, locals := 82 } : Room) (tP D (hW h ad cI cZ ex pa di qu gc dg dp dv dd ds dc td ho ak se pr) (hT cI cZ) [.ref h, .int (nI g), .int (nI a), .int (oI x), .int (oI y), .int (oI v), .int (nI w)]) nQ (tX "java/lang/IllegalStateException") 1 6 nF := by
  refine vx_ofW (cc := cX0_draft) (maxL := 8) (ret := (some .int)) (by decide) rfl ?_
  intro p e s m args below meth c s₁ B hml hexc hv
  obtain ⟨rfl, hP, hK, hE⟩ := hv
  have hx := B.exec
  have hb := B.bytes
  have hr := B.returns
  have hts := atoms_spec (ws := wsX0_draft) B.pre
  have hown : s.vm.findClass RX0 = some m.cls := findClass_of_methodNamed B.named
  have hlocks := B.notSynchronized
  have hl := lv_entry ([.ref h, .int (nI g), .int (nI a), .int (oI x), .int (oI y), .int (oI v), .int (nI w)]) (n := 8) (Nat.le_of_ble_eq_true rfl)
  rw [lg_entry_eq]
  generalize (lg_sl ([.ref h, .int (nI g), .int (nI a), .int (oI x), .int (oI y), .int (oI v), .int (nI w)]) ++ List.replicate (8 - (lg_sl ([.ref h, .int (nI g), .int (nI a), .int (oI x), .int (oI y), .int (oI v), .int (nI w)])).length) Slot.unset).toArray = ls at hl ⊢
  have hl : lv_has ls 8 [(0, .ref h), (1, .int (nI g)), (2, .int (nI a)), (3, .int (oI x)), (4, .int (oI y)), (5, .int (oI v)), (6, .int (nI w))] := hl
  refine lv_aload_n hx hb dX0_draft_0 rfl (lv_at hl 0 rfl) ?_
  refine lv_iload_n hx hb dX0_draft_1 rfl (lv_at hl 1 rfl) ?_
  refine q_callV (va_runV (As := [.int (nI g)]) (rest := []) ⟨hx, hb, hml, hown, hts⟩ (kX0_checkGood l D h ad cI cZ ex pa di qu gc dg dp dv dd ds dc td ho ak se pr g hg he) (cwV 1 hts gX0_draft_X0_checkGood rfl rfl rfl (by decide +kernel) ⟨Nat.le_of_ble_eq_true rfl, Nat.le_of_ble_eq_true rfl⟩) ⟨pP_blind, va_recv hK hP (ci := 0) (q0 := 0) rfl rfl, pP_pre hP hK⟩ rfl rfl hl.1 rfl (lv_room (Nat.le_of_ble_eq_true rfl)) dX0_draft_2 ⟨Nat.zero_le _, Nat.zero_le _⟩) ?_
  refine lv_iload_n hx hb dX0_draft_5 rfl (lv_at hl 2 rfl) ?_
  refine q_callV (va_runS (As := [.int (nI a)]) (rest := []) ⟨hx, hb, hml, hown, hts⟩ (kX0_checkAttribute l a ha) (cwS 1 hts gX0_draft_X0_checkAttribute rfl rfl rfl (by decide +kernel) ⟨Nat.le_of_ble_eq_true rfl, Nat.le_of_ble_eq_true rfl⟩) ⟨sP_blind, sP_pre⟩ rfl rfl hl.1 rfl (lv_room (Nat.le_of_ble_eq_true rfl)) dX0_draft_6 ⟨Nat.zero_le _, Nat.zero_le _⟩) ?_
  cases x with
  | none =>
    refine lv_iload_n hx hb dX0_draft_9 rfl (lv_at hl 3 rfl) ?_
    refine lv_iconst (v := oI none) hx hb dX0_draft_10 (by decide) ?_
    refine q_icmpO_eq (a := none) (b := none) (tgt := 18) (fun k h9 => by cases h9) (fun k h9 => by cases h9) hx hb dX0_draft_11 (by decide) (fun k11 => ?_) (fun k11 => absurd rfl k11)
    cases y with
    | none =>
      refine lv_iload hx hb dX0_draft_18 (lv_at hl 4 rfl) ?_
      refine lv_iconst (v := oI none) hx hb dX0_draft_20 (by decide) ?_
      refine q_icmpO_eq (a := none) (b := none) (tgt := 29) (fun k h9 => by cases h9) (fun k h9 => by cases h9) hx hb dX0_draft_21 (by decide) (fun k21 => ?_) (fun k21 => absurd rfl k21)
      cases v with
      | none =>
        refine lv_iload hx hb dX0_draft_29 (lv_at hl 5 rfl) ?_
        refine lv_iconst (v := oI none) hx hb dX0_draft_31 (by decide) ?_
        refine q_icmpO_eq (a := none) (b := none) (tgt := 57) (fun k h9 => by cases h9) (fun k h9 => by cases h9) hx hb dX0_draft_32 (by decide) (fun k32 => ?_) (fun k32 => absurd rfl k32)
        refine lv_iload hx hb dX0_draft_57 (lv_at hl 6 rfl) ?_
        refine q_ifN_lt (a := w) 70 (by omega) hx hb dX0_draft_59 (by decide) ?_
        refine lv_iload hx hb dX0_draft_62 (lv_at hl 6 rfl) ?_
        refine lv_sipush (v := nI 1000) hx hb dX0_draft_64 (by decide) ?_
        refine q_icmpN_le (a := w) (b := 1000) (tgt := 80) (by omega) (by omega) hx hb dX0_draft_67 (by decide) (fun k67 => ?_) (fun k67 => absurd k67 (by omega))
        refine lv_aload_n hx hb dX0_draft_80 rfl (lv_at hl 0 rfl) ?_
        refine va_get (D := D) (ci := 0) (v := .int (nI dc)) (C := RX0) (T := TX0) (N := 16) hx hb hts (iX0_draft) hown hK hP 0 rfl rfl 10 (by decide) (hts (.fieldLink RX0 42 "ShopHub" "draftCount" "I") (by decide +kernel)) (fun _ h9 => h9) rfl dX0_draft_81 ?_
        refine lv_sipush (v := nI 200) hx hb dX0_draft_84 (by decide) ?_
        refine q_icmpN_lt (a := dc) (b := 200) (tgt := 100) (by omega) (by omega) hx hb dX0_draft_87 (by decide) (fun k87 => absurd k87 (by omega)) (fun k87 => ?_)
        obtain ⟨sa, hstr⟩ := hE.2.2.1 (149, "there have been 200 drafts") (by decide +kernel)
        exact vx_throwS (is := 149) (text := "there have been 200 drafts") (names := ["java/lang/RuntimeException", "java/lang/Exception"]) (A := nF) hx hb hlf hown (by decide +kernel) (by decide +kernel) (hts (.classLink RX0 68 "java/lang/IllegalStateException") (by decide +kernel)) (hts (.initialized "java/lang/IllegalStateException") (by decide +kernel)) hstr (vx_hat (B := tB "java/lang/IllegalStateException") (fun w hw => hts w (thS_draft w hw)) (by decide +kernel) (tE_B hE (by decide))) (by decide +kernel) hE.1 hE.2.1 va_S.rf (hl.1.trans hml.symm) dX0_draft_90 dX0_draft_93 dX0_draft_94 dX0_draft_96 dX0_draft_99 (fun z hz => (hexc z hz).elim) (Nat.le_of_ble_eq_true rfl) (Nat.le_of_ble_eq_true rfl) (Nat.le_of_ble_eq_true rfl) (Nat.le_of_ble_eq_true rfl) hlocks (fun t ht h1 h2 => ⟨rfl, h1, h2⟩) (fun z hz => by cases hz) (Nat.le_refl 1) (Nat.le_refl 6)
      | some v2 =>
        have hv3 := hvr v2 rfl
        refine lv_iload hx hb dX0_draft_29 (lv_at hl 5 rfl) ?_
        refine lv_iconst (v := oI none) hx hb dX0_draft_31 (by decide) ?_
        refine q_top2 (y := oI (some v2)) ((rfl : nI v2 = oI (some v2))) ?_
        refine q_icmpO_eq (a := some v2) (b := none) (tgt := 57) (fun k h9 => by cases h9; omega) (fun k h9 => by cases h9) hx hb dX0_draft_32 (by decide) (fun k32 => (by cases k32)) (fun k32 => ?_)
        refine lv_iload hx hb dX0_draft_35 (lv_at hl 5 rfl) ?_
        refine q_ifN_lt (a := v2) 47 (by omega) hx hb dX0_draft_37 (by decide) ?_
        refine lv_iload hx hb dX0_draft_40 (lv_at hl 5 rfl) ?_
        refine lv_ldc (v := 100000) hx hb hown (hts (.constant RX0 144 (100000)) (by decide +kernel)) dX0_draft_42 ?_
        refine q_top (y := nI 100000) (by decide : (100000 : Int32) = nI 100000) ?_
        refine q_icmpN_le (a := v2) (b := 100000) (tgt := 57) (by omega) (by omega) hx hb dX0_draft_44 (by decide) (fun k44 => ?_) (fun k44 => absurd k44 (by omega))
        refine lv_iload hx hb dX0_draft_57 (lv_at hl 6 rfl) ?_
        refine q_ifN_lt (a := w) 70 (by omega) hx hb dX0_draft_59 (by decide) ?_
        refine lv_iload hx hb dX0_draft_62 (lv_at hl 6 rfl) ?_
        refine lv_sipush (v := nI 1000) hx hb dX0_draft_64 (by decide) ?_
        refine q_icmpN_le (a := w) (b := 1000) (tgt := 80) (by omega) (by omega) hx hb dX0_draft_67 (by decide) (fun k67 => ?_) (fun k67 => absurd k67 (by omega))
        refine lv_aload_n hx hb dX0_draft_80 rfl (lv_at hl 0 rfl) ?_
        refine va_get (D := D) (ci := 0) (v := .int (nI dc)) (C := RX0) (T := TX0) (N := 16) hx hb hts (iX0_draft) hown hK hP 0 rfl rfl 10 (by decide) (hts (.fieldLink RX0 42 "ShopHub" "draftCount" "I") (by decide +kernel)) (fun _ h9 => h9) rfl dX0_draft_81 ?_
        refine lv_sipush (v := nI 200) hx hb dX0_draft_84 (by decide) ?_
        refine q_icmpN_lt (a := dc) (b := 200) (tgt := 100) (by omega) (by omega) hx hb dX0_draft_87 (by decide) (fun k87 => absurd k87 (by omega)) (fun k87 => ?_)
        obtain ⟨sa, hstr⟩ := hE.2.2.1 (149, "there have been 200 drafts") (by decide +kernel)
        exact vx_throwS (is := 149) (text := "there have been 200 drafts") (names := ["java/lang/RuntimeException", "java/lang/Exception"]) (A := nF) hx hb hlf hown (by decide +kernel) (by decide +kernel) (hts (.classLink RX0 68 "java/lang/IllegalStateException") (by decide +kernel)) (hts (.initialized "java/lang/IllegalStateException") (by decide +kernel)) hstr (vx_hat (B := tB "java/lang/IllegalStateException") (fun w hw => hts w (thS_draft w hw)) (by decide +kernel) (tE_B hE (by decide))) (by decide +kernel) hE.1 hE.2.1 va_S.rf (hl.1.trans hml.symm) dX0_draft_90 dX0_draft_93 dX0_draft_94 dX0_draft_96 dX0_draft_99 (fun z hz => (hexc z hz).elim) (Nat.le_of_ble_eq_true rfl) (Nat.le_of_ble_eq_true rfl) (Nat.le_of_ble_eq_true rfl) (Nat.le_of_ble_eq_true rfl) hlocks (fun t ht h1 h2 => ⟨rfl, h1, h2⟩) (fun z hz => by cases hz) (Nat.le_refl 1) (Nat.le_refl 6)
    | some y2 =>
      have hy3 := hyr y2 rfl
      refine lv_iload hx hb dX0_draft_18 (lv_at hl 4 rfl) ?_
      refine lv_iconst (v := oI none) hx hb dX0_draft_20 (by decide) ?_
      refine q_top2 (y := oI (some y2)) ((rfl : nI y2 = oI (some y2))) ?_
      refine q_icmpO_eq (a := some y2) (b := none) (tgt := 29) (fun k h9 => by cases h9; omega) (fun k h9 => by cases h9) hx hb dX0_draft_21 (by decide) (fun k21 => (by cases k21)) (fun k21 => ?_)
      refine lv_iload hx hb dX0_draft_24 (lv_at hl 4 rfl) ?_
      refine q_callV (va_runS (As := [.int (nI y2)]) (rest := []) ⟨hx, hb, hml, hown, hts⟩ (kX0_checkTongue l y2 hy3) (cwS 1 hts gX0_draft_X0_checkTongue rfl rfl rfl (by decide +kernel) ⟨Nat.le_of_ble_eq_true rfl, Nat.le_of_ble_eq_true rfl⟩) ⟨sP_blind, sP_pre⟩ rfl rfl hl.1 rfl (lv_room (Nat.le_of_ble_eq_true rfl)) dX0_draft_26 ⟨Nat.zero_le _, Nat.zero_le _⟩) ?_
      cases v with
      | none =>
        refine lv_iload hx hb dX0_draft_29 (lv_at hl 5 rfl) ?_
        refine lv_iconst (v := oI none) hx hb dX0_draft_31 (by decide) ?_
        refine q_icmpO_eq (a := none) (b := none) (tgt := 57) (fun k h9 => by cases h9) (fun k h9 => by cases h9) hx hb dX0_draft_32 (by decide) (fun k32 => ?_) (fun k32 => absurd rfl k32)
        refine lv_iload hx hb dX0_draft_57 (lv_at hl 6 rfl) ?_
        refine q_ifN_lt (a := w) 70 (by omega) hx hb dX0_draft_59 (by decide) ?_
        refine lv_iload hx hb dX0_draft_62 (lv_at hl 6 rfl) ?_
        refine lv_sipush (v := nI 1000) hx hb dX0_draft_64 (by decide) ?_
        refine q_icmpN_le (a := w) (b := 1000) (tgt := 80) (by omega) (by omega) hx hb dX0_draft_67 (by decide) (fun k67 => ?_) (fun k67 => absurd k67 (by omega))
        refine lv_aload_n hx hb dX0_draft_80 rfl (lv_at hl 0 rfl) ?_
        refine va_get (D := D) (ci := 0) (v := .int (nI dc)) (C := RX0) (T := TX0) (N := 16) hx hb hts (iX0_draft) hown hK hP 0 rfl rfl 10 (by decide) (hts (.fieldLink RX0 42 "ShopHub" "draftCount" "I") (by decide +kernel)) (fun _ h9 => h9) rfl dX0_draft_81 ?_
        refine lv_sipush (v := nI 200) hx hb dX0_draft_84 (by decide) ?_
        refine q_icmpN_lt (a := dc) (b := 200) (tgt := 100) (by omega) (by omega) hx hb dX0_draft_87 (by decide) (fun k87 => absurd k87 (by omega)) (fun k87 => ?_)
        obtain ⟨sa, hstr⟩ := hE.2.2.1 (149, "there have been 200 drafts") (by decide +kernel)
        exact vx_throwS (is := 149) (text := "there have been 200 drafts") (names := ["java/lang/RuntimeException", "java/lang/Exception"]) (A := nF) hx hb hlf hown (by decide +kernel) (by decide +kernel) (hts (.classLink RX0 68 "java/lang/IllegalStateException") (by decide +kernel)) (hts (.initialized "java/lang/IllegalStateException") (by decide +kernel)) hstr (vx_hat (B := tB "java/lang/IllegalStateException") (fun w hw => hts w (thS_draft w hw)) (by decide +kernel) (tE_B hE (by decide))) (by decide +kernel) hE.1 hE.2.1 va_S.rf (hl.1.trans hml.symm) dX0_draft_90 dX0_draft_93 dX0_draft_94 dX0_draft_96 dX0_draft_99 (fun z hz => (hexc z hz).elim) (Nat.le_of_ble_eq_true rfl) (Nat.le_of_ble_eq_true rfl) (Nat.le_of_ble_eq_true rfl) (Nat.le_of_ble_eq_true rfl) hlocks (fun t ht h1 h2 => ⟨rfl, h1, h2⟩) (fun z hz => by cases hz) (Nat.le_refl 1) (Nat.le_refl 6)
      | some v2 =>
        have hv3 := hvr v2 rfl
        refine lv_iload hx hb dX0_draft_29 (lv_at hl 5 rfl) ?_
        refine lv_iconst (v := oI none) hx hb dX0_draft_31 (by decide) ?_
        refine q_top2 (y := oI (some v2)) ((rfl : nI v2 = oI (some v2))) ?_
        refine q_icmpO_eq (a := some v2) (b := none) (tgt := 57) (fun k h9 => by cases h9; omega) (fun k h9 => by cases h9) hx hb dX0_draft_32 (by decide) (fun k32 => (by cases k32)) (fun k32 => ?_)
        refine lv_iload hx hb dX0_draft_35 (lv_at hl 5 rfl) ?_
        refine q_ifN_lt (a := v2) 47 (by omega) hx hb dX0_draft_37 (by decide) ?_
        refine lv_iload hx hb dX0_draft_40 (lv_at hl 5 rfl) ?_
        refine lv_ldc (v := 100000) hx hb hown (hts (.constant RX0 144 (100000)) (by decide +kernel)) dX0_draft_42 ?_
        refine q_top (y := nI 100000) (by decide : (100000 : Int32) = nI 100000) ?_
        refine q_icmpN_le (a := v2) (b := 100000) (tgt := 57) (by omega) (by omega) hx hb dX0_draft_44 (by decide) (fun k44 => ?_) (fun k44 => absurd k44 (by omega))
        refine lv_iload hx hb dX0_draft_57 (lv_at hl 6 rfl) ?_
        refine q_ifN_lt (a := w) 70 (by omega) hx hb dX0_draft_59 (by decide) ?_
        refine lv_iload hx hb dX0_draft_62 (lv_at hl 6 rfl) ?_
        refine lv_sipush (v := nI 1000) hx hb dX0_draft_64 (by decide) ?_
        refine q_icmpN_le (a := w) (b := 1000) (tgt := 80) (by omega) (by omega) hx hb dX0_draft_67 (by decide) (fun k67 => ?_) (fun k67 => absurd k67 (by omega))
        refine lv_aload_n hx hb dX0_draft_80 rfl (lv_at hl 0 rfl) ?_
        refine va_get (D := D) (ci := 0) (v := .int (nI dc)) (C := RX0) (T := TX0) (N := 16) hx hb hts (iX0_draft) hown hK hP 0 rfl rfl 10 (by decide) (hts (.fieldLink RX0 42 "ShopHub" "draftCount" "I") (by decide +kernel)) (fun _ h9 => h9) rfl dX0_draft_81 ?_
        refine lv_sipush (v := nI 200) hx hb dX0_draft_84 (by decide) ?_
        refine q_icmpN_lt (a := dc) (b := 200) (tgt := 100) (by omega) (by omega) hx hb dX0_draft_87 (by decide) (fun k87 => absurd k87 (by omega)) (fun k87 => ?_)
        obtain ⟨sa, hstr⟩ := hE.2.2.1 (149, "there have been 200 drafts") (by decide +kernel)
        exact vx_throwS (is := 149) (text := "there have been 200 drafts") (names := ["java/lang/RuntimeException", "java/lang/Exception"]) (A := nF) hx hb hlf hown (by decide +kernel) (by decide +kernel) (hts (.classLink RX0 68 "java/lang/IllegalStateException") (by decide +kernel)) (hts (.initialized "java/lang/IllegalStateException") (by decide +kernel)) hstr (vx_hat (B := tB "java/lang/IllegalStateException") (fun w hw => hts w (thS_draft w hw)) (by decide +kernel) (tE_B hE (by decide))) (by decide +kernel) hE.1 hE.2.1 va_S.rf (hl.1.trans hml.symm) dX0_draft_90 dX0_draft_93 dX0_draft_94 dX0_draft_96 dX0_draft_99 (fun z hz => (hexc z hz).elim) (Nat.le_of_ble_eq_true rfl) (Nat.le_of_ble_eq_true rfl) (Nat.le_of_ble_eq_true rfl) (Nat.le_of_ble_eq_true rfl) hlocks (fun t ht h1 h2 => ⟨rfl, h1, h2⟩) (fun z hz => by cases hz) (Nat.le_refl 1) (Nat.le_refl 6)
  | some x2 =>
    have hx3 := hxr x2 rfl
    refine lv_iload_n hx hb dX0_draft_9 rfl (lv_at hl 3 rfl) ?_
    refine lv_iconst (v := oI none) hx hb dX0_draft_10 (by decide) ?_
    refine q_top2 (y := oI (some x2)) ((rfl : nI x2 = oI (some x2))) ?_
    refine q_icmpO_eq (a := some x2) (b := none) (tgt := 18) (fun k h9 => by cases h9; omega) (fun k h9 => by cases h9) hx hb dX0_draft_11 (by decide) (fun k11 => (by cases k11)) (fun k11 => ?_)
    refine lv_iload_n hx hb dX0_draft_14 rfl (lv_at hl 3 rfl) ?_
    refine q_callV (va_runS (As := [.int (nI x2)]) (rest := []) ⟨hx, hb, hml, hown, hts⟩ (kX0_checkShop l x2 hx3) (cwS 1 hts gX0_draft_X0_checkShop rfl rfl rfl (by decide +kernel) ⟨Nat.le_of_ble_eq_true rfl, Nat.le_of_ble_eq_true rfl⟩) ⟨sP_blind, sP_pre⟩ rfl rfl hl.1 rfl (lv_room (Nat.le_of_ble_eq_true rfl)) dX0_draft_15 ⟨Nat.zero_le _, Nat.zero_le _⟩) ?_
    cases y with
    | none =>
      refine lv_iload hx hb dX0_draft_18 (lv_at hl 4 rfl) ?_
      refine lv_iconst (v := oI none) hx hb dX0_draft_20 (by decide) ?_
      refine q_icmpO_eq (a := none) (b := none) (tgt := 29) (fun k h9 => by cases h9) (fun k h9 => by cases h9) hx hb dX0_draft_21 (by decide) (fun k21 => ?_) (fun k21 => absurd rfl k21)
      cases v with
      | none =>
        refine lv_iload hx hb dX0_draft_29 (lv_at hl 5 rfl) ?_
        refine lv_iconst (v := oI none) hx hb dX0_draft_31 (by decide) ?_
        refine q_icmpO_eq (a := none) (b := none) (tgt := 57) (fun k h9 => by cases h9) (fun k h9 => by cases h9) hx hb dX0_draft_32 (by decide) (fun k32 => ?_) (fun k32 => absurd rfl k32)
        refine lv_iload hx hb dX0_draft_57 (lv_at hl 6 rfl) ?_
        refine q_ifN_lt (a := w) 70 (by omega) hx hb dX0_draft_59 (by decide) ?_
        refine lv_iload hx hb dX0_draft_62 (lv_at hl 6 rfl) ?_
        refine lv_sipush (v := nI 1000) hx hb dX0_draft_64 (by decide) ?_
        refine q_icmpN_le (a := w) (b := 1000) (tgt := 80) (by omega) (by omega) hx hb dX0_draft_67 (by decide) (fun k67 => ?_) (fun k67 => absurd k67 (by omega))
        refine lv_aload_n hx hb dX0_draft_80 rfl (lv_at hl 0 rfl) ?_
        refine va_get (D := D) (ci := 0) (v := .int (nI dc)) (C := RX0) (T := TX0) (N := 16) hx hb hts (iX0_draft) hown hK hP 0 rfl rfl 10 (by decide) (hts (.fieldLink RX0 42 "ShopHub" "draftCount" "I") (by decide +kernel)) (fun _ h9 => h9) rfl dX0_draft_81 ?_
        refine lv_sipush (v := nI 200) hx hb dX0_draft_84 (by decide) ?_
        refine q_icmpN_lt (a := dc) (b := 200) (tgt := 100) (by omega) (by omega) hx hb dX0_draft_87 (by decide) (fun k87 => absurd k87 (by omega)) (fun k87 => ?_)
        obtain ⟨sa, hstr⟩ := hE.2.2.1 (149, "there have been 200 drafts") (by decide +kernel)
        exact vx_throwS (is := 149) (text := "there have been 200 drafts") (names := ["java/lang/RuntimeException", "java/lang/Exception"]) (A := nF) hx hb hlf hown (by decide +kernel) (by decide +kernel) (hts (.classLink RX0 68 "java/lang/IllegalStateException") (by decide +kernel)) (hts (.initialized "java/lang/IllegalStateException") (by decide +kernel)) hstr (vx_hat (B := tB "java/lang/IllegalStateException") (fun w hw => hts w (thS_draft w hw)) (by decide +kernel) (tE_B hE (by decide))) (by decide +kernel) hE.1 hE.2.1 va_S.rf (hl.1.trans hml.symm) dX0_draft_90 dX0_draft_93 dX0_draft_94 dX0_draft_96 dX0_draft_99 (fun z hz => (hexc z hz).elim) (Nat.le_of_ble_eq_true rfl) (Nat.le_of_ble_eq_true rfl) (Nat.le_of_ble_eq_true rfl) (Nat.le_of_ble_eq_true rfl) hlocks (fun t ht h1 h2 => ⟨rfl, h1, h2⟩) (fun z hz => by cases hz) (Nat.le_refl 1) (Nat.le_refl 6)
      | some v2 =>
        have hv3 := hvr v2 rfl
        refine lv_iload hx hb dX0_draft_29 (lv_at hl 5 rfl) ?_
        refine lv_iconst (v := oI none) hx hb dX0_draft_31 (by decide) ?_
        refine q_top2 (y := oI (some v2)) ((rfl : nI v2 = oI (some v2))) ?_
        refine q_icmpO_eq (a := some v2) (b := none) (tgt := 57) (fun k h9 => by cases h9; omega) (fun k h9 => by cases h9) hx hb dX0_draft_32 (by decide) (fun k32 => (by cases k32)) (fun k32 => ?_)
        refine lv_iload hx hb dX0_draft_35 (lv_at hl 5 rfl) ?_
        refine q_ifN_lt (a := v2) 47 (by omega) hx hb dX0_draft_37 (by decide) ?_
        refine lv_iload hx hb dX0_draft_40 (lv_at hl 5 rfl) ?_
        refine lv_ldc (v := 100000) hx hb hown (hts (.constant RX0 144 (100000)) (by decide +kernel)) dX0_draft_42 ?_
        refine q_top (y := nI 100000) (by decide : (100000 : Int32) = nI 100000) ?_
        refine q_icmpN_le (a := v2) (b := 100000) (tgt := 57) (by omega) (by omega) hx hb dX0_draft_44 (by decide) (fun k44 => ?_) (fun k44 => absurd k44 (by omega))
        refine lv_iload hx hb dX0_draft_57 (lv_at hl 6 rfl) ?_
        refine q_ifN_lt (a := w) 70 (by omega) hx hb dX0_draft_59 (by decide) ?_
        refine lv_iload hx hb dX0_draft_62 (lv_at hl 6 rfl) ?_
        refine lv_sipush (v := nI 1000) hx hb dX0_draft_64 (by decide) ?_
        refine q_icmpN_le (a := w) (b := 1000) (tgt := 80) (by omega) (by omega) hx hb dX0_draft_67 (by decide) (fun k67 => ?_) (fun k67 => absurd k67 (by omega))
        refine lv_aload_n hx hb dX0_draft_80 rfl (lv_at hl 0 rfl) ?_
        refine va_get (D := D) (ci := 0) (v := .int (nI dc)) (C := RX0) (T := TX0) (N := 16) hx hb hts (iX0_draft) hown hK hP 0 rfl rfl 10 (by decide) (hts (.fieldLink RX0 42 "ShopHub" "draftCount" "I") (by decide +kernel)) (fun _ h9 => h9) rfl dX0_draft_81 ?_
        refine lv_sipush (v := nI 200) hx hb dX0_draft_84 (by decide) ?_
        refine q_icmpN_lt (a := dc) (b := 200) (tgt := 100) (by omega) (by omega) hx hb dX0_draft_87 (by decide) (fun k87 => absurd k87 (by omega)) (fun k87 => ?_)
        obtain ⟨sa, hstr⟩ := hE.2.2.1 (149, "there have been 200 drafts") (by decide +kernel)
        exact vx_throwS (is := 149) (text := "there have been 200 drafts") (names := ["java/lang/RuntimeException", "java/lang/Exception"]) (A := nF) hx hb hlf hown (by decide +kernel) (by decide +kernel) (hts (.classLink RX0 68 "java/lang/IllegalStateException") (by decide +kernel)) (hts (.initialized "java/lang/IllegalStateException") (by decide +kernel)) hstr (vx_hat (B := tB "java/lang/IllegalStateException") (fun w hw => hts w (thS_draft w hw)) (by decide +kernel) (tE_B hE (by decide))) (by decide +kernel) hE.1 hE.2.1 va_S.rf (hl.1.trans hml.symm) dX0_draft_90 dX0_draft_93 dX0_draft_94 dX0_draft_96 dX0_draft_99 (fun z hz => (hexc z hz).elim) (Nat.le_of_ble_eq_true rfl) (Nat.le_of_ble_eq_true rfl) (Nat.le_of_ble_eq_true rfl) (Nat.le_of_ble_eq_true rfl) hlocks (fun t ht h1 h2 => ⟨rfl, h1, h2⟩) (fun z hz => by cases hz) (Nat.le_refl 1) (Nat.le_refl 6)
    | some y2 =>
      have hy3 := hyr y2 rfl
      refine lv_iload hx hb dX0_draft_18 (lv_at hl 4 rfl) ?_
      refine lv_iconst (v := oI none) hx hb dX0_draft_20 (by decide) ?_
      refine q_top2 (y := oI (some y2)) ((rfl : nI y2 = oI (some y2))) ?_
      refine q_icmpO_eq (a := some y2) (b := none) (tgt := 29) (fun k h9 => by cases h9; omega) (fun k h9 => by cases h9) hx hb dX0_draft_21 (by decide) (fun k21 => (by cases k21)) (fun k21 => ?_)
      refine lv_iload hx hb dX0_draft_24 (lv_at hl 4 rfl) ?_
      refine q_callV (va_runS (As := [.int (nI y2)]) (rest := []) ⟨hx, hb, hml, hown, hts⟩ (kX0_checkTongue l y2 hy3) (cwS 1 hts gX0_draft_X0_checkTongue rfl rfl rfl (by decide +kernel) ⟨Nat.le_of_ble_eq_true rfl, Nat.le_of_ble_eq_true rfl⟩) ⟨sP_blind, sP_pre⟩ rfl rfl hl.1 rfl (lv_room (Nat.le_of_ble_eq_true rfl)) dX0_draft_26 ⟨Nat.zero_le _, Nat.zero_le _⟩) ?_
      cases v with
      | none =>
        refine lv_iload hx hb dX0_draft_29 (lv_at hl 5 rfl) ?_
        refine lv_iconst (v := oI none) hx hb dX0_draft_31 (by decide) ?_
        refine q_icmpO_eq (a := none) (b := none) (tgt := 57) (fun k h9 => by cases h9) (fun k h9 => by cases h9) hx hb dX0_draft_32 (by decide) (fun k32 => ?_) (fun k32 => absurd rfl k32)
        refine lv_iload hx hb dX0_draft_57 (lv_at hl 6 rfl) ?_
        refine q_ifN_lt (a := w) 70 (by omega) hx hb dX0_draft_59 (by decide) ?_
        refine lv_iload hx hb dX0_draft_62 (lv_at hl 6 rfl) ?_
        refine lv_sipush (v := nI 1000) hx hb dX0_draft_64 (by decide) ?_
        refine q_icmpN_le (a := w) (b := 1000) (tgt := 80) (by omega) (by omega) hx hb dX0_draft_67 (by decide) (fun k67 => ?_) (fun k67 => absurd k67 (by omega))
        refine lv_aload_n hx hb dX0_draft_80 rfl (lv_at hl 0 rfl) ?_
        refine va_get (D := D) (ci := 0) (v := .int (nI dc)) (C := RX0) (T := TX0) (N := 16) hx hb hts (iX0_draft) hown hK hP 0 rfl rfl 10 (by decide) (hts (.fieldLink RX0 42 "ShopHub" "draftCount" "I") (by decide +kernel)) (fun _ h9 => h9) rfl dX0_draft_81 ?_
        refine lv_sipush (v := nI 200) hx hb dX0_draft_84 (by decide) ?_
        refine q_icmpN_lt (a := dc) (b := 200) (tgt := 100) (by omega) (by omega) hx hb dX0_draft_87 (by decide) (fun k87 => absurd k87 (by omega)) (fun k87 => ?_)
        obtain ⟨sa, hstr⟩ := hE.2.2.1 (149, "there have been 200 drafts") (by decide +kernel)
        exact vx_throwS (is := 149) (text := "there have been 200 drafts") (names := ["java/lang/RuntimeException", "java/lang/Exception"]) (A := nF) hx hb hlf hown (by decide +kernel) (by decide +kernel) (hts (.classLink RX0 68 "java/lang/IllegalStateException") (by decide +kernel)) (hts (.initialized "java/lang/IllegalStateException") (by decide +kernel)) hstr (vx_hat (B := tB "java/lang/IllegalStateException") (fun w hw => hts w (thS_draft w hw)) (by decide +kernel) (tE_B hE (by decide))) (by decide +kernel) hE.1 hE.2.1 va_S.rf (hl.1.trans hml.symm) dX0_draft_90 dX0_draft_93 dX0_draft_94 dX0_draft_96 dX0_draft_99 (fun z hz => (hexc z hz).elim) (Nat.le_of_ble_eq_true rfl) (Nat.le_of_ble_eq_true rfl) (Nat.le_of_ble_eq_true rfl) (Nat.le_of_ble_eq_true rfl) hlocks (fun t ht h1 h2 => ⟨rfl, h1, h2⟩) (fun z hz => by cases hz) (Nat.le_refl 1) (Nat.le_refl 6)
      | some v2 =>
        have hv3 := hvr v2 rfl
        refine lv_iload hx hb dX0_draft_29 (lv_at hl 5 rfl) ?_
        refine lv_iconst (v := oI none) hx hb dX0_draft_31 (by decide) ?_
        refine q_top2 (y := oI (some v2)) ((rfl : nI v2 = oI (some v2))) ?_
        refine q_icmpO_eq (a := some v2) (b := none) (tgt := 57) (fun k h9 => by cases h9; omega) (fun k h9 => by cases h9) hx hb dX0_draft_32 (by decide) (fun k32 => (by cases k32)) (fun k32 => ?_)
        refine lv_iload hx hb dX0_draft_35 (lv_at hl 5 rfl) ?_
        refine q_ifN_lt (a := v2) 47 (by omega) hx hb dX0_draft_37 (by decide) ?_
        refine lv_iload hx hb dX0_draft_40 (lv_at hl 5 rfl) ?_
        refine lv_ldc (v := 100000) hx hb hown (hts (.constant RX0 144 (100000)) (by decide +kernel)) dX0_draft_42 ?_
        refine q_top (y := nI 100000) (by decide : (100000 : Int32) = nI 100000) ?_
        refine q_icmpN_le (a := v2) (b := 100000) (tgt := 57) (by omega) (by omega) hx hb dX0_draft_44 (by decide) (fun k44 => ?_) (fun k44 => absurd k44 (by omega))
        refine lv_iload hx hb dX0_draft_57 (lv_at hl 6 rfl) ?_
        refine q_ifN_lt (a := w) 70 (by omega) hx hb dX0_draft_59 (by decide) ?_
        refine lv_iload hx hb dX0_draft_62 (lv_at hl 6 rfl) ?_
        refine lv_sipush (v := nI 1000) hx hb dX0_draft_64 (by decide) ?_
        refine q_icmpN_le (a := w) (b := 1000) (tgt := 80) (by omega) (by omega) hx hb dX0_draft_67 (by decide) (fun k67 => ?_) (fun k67 => absurd k67 (by omega))
        refine lv_aload_n hx hb dX0_draft_80 rfl (lv_at hl 0 rfl) ?_
        refine va_get (D := D) (ci := 0) (v := .int (nI dc)) (C := RX0) (T := TX0) (N := 16) hx hb hts (iX0_draft) hown hK hP 0 rfl rfl 10 (by decide) (hts (.fieldLink RX0 42 "ShopHub" "draftCount" "I") (by decide +kernel)) (fun _ h9 => h9) rfl dX0_draft_81 ?_
        refine lv_sipush (v := nI 200) hx hb dX0_draft_84 (by decide) ?_
        refine q_icmpN_lt (a := dc) (b := 200) (tgt := 100) (by omega) (by omega) hx hb dX0_draft_87 (by decide) (fun k87 => absurd k87 (by omega)) (fun k87 => ?_)
        obtain ⟨sa, hstr⟩ := hE.2.2.1 (149, "there have been 200 drafts") (by decide +kernel)
        exact vx_throwS (is := 149) (text := "there have been 200 drafts") (names := ["java/lang/RuntimeException", "java/lang/Exception"]) (A := nF) hx hb hlf hown (by decide +kernel) (by decide +kernel) (hts (.classLink RX0 68 "java/lang/IllegalStateException") (by decide +kernel)) (hts (.initialized "java/lang/IllegalStateException") (by decide +kernel)) hstr (vx_hat (B := tB "java/lang/IllegalStateException") (fun w hw => hts w (thS_draft w hw)) (by decide +kernel) (tE_B hE (by decide))) (by decide +kernel) hE.1 hE.2.1 va_S.rf (hl.1.trans hml.symm) dX0_draft_90 dX0_draft_93 dX0_draft_94 dX0_draft_96 dX0_draft_99 (fun z hz => (hexc z hz).elim) (Nat.le_of_ble_eq_true rfl) (Nat.le_of_ble_eq_true rfl) (Nat.le_of_ble_eq_true rfl) (Nat.le_of_ble_eq_true rfl) hlocks (fun t ht h1 h2 => ⟨rfl, h1, h2⟩) (fun z hz => by cases hz) (Nat.le_refl 1) (Nat.le_refl 6)

set_option maxHeartbeats 4000000 in
set_option maxRecDepth 100000 in
theorem kX0_approveXI (l : Launch) (D : va_G) (h : Nat) (ad : Nat → Nat) (cI cZ : ClassId) (ex : Nat → Bool) (pa : Nat → Option Nat) (di : Nat → Nat) (qu : Nat → Nat) (gc : Nat) (dg : Nat → Nat) (dp : Nat → Nat) (dv : Nat → Option Nat) (dd : Nat → Nat) (ds : Nat → Nat) (dc : Nat) (td : Nat) (ho : Nat → Option Nat) (ak : Nat → Bool) (se : Nat → Option Nat) (pr : Nat → Option Nat) (hlf : l.stackTraces = false) (d : Int32) (hd : dBad dc ds d) (hdc : dc ≤ 200) : vx_Met l yX0_approve wsX0_approve ({ frames := 7, cells := 1, slots := 6, locals := 103 } : Room) (tP D (hW h ad cI cZ ex pa di qu gc dg dp dv dd ds dc td ho ak se pr) (hT cI cZ) [.ref h, .int d]) nQ (tX "java/lang/IndexOutOfBoundsException") 1 6 nF := by
  refine vx_ofW (cc := cX0_approve) (maxL := 2) (ret := (some .boolean)) (by decide) rfl ?_
  intro p e s m args below meth c s₁ B hml hexc hv
  obtain ⟨rfl, hP, hK, hE⟩ := hv
  have hx := B.exec
  have hb := B.bytes
  have hr := B.returns
  have hts := atoms_spec (ws := wsX0_approve) B.pre
  have hown : s.vm.findClass RX0 = some m.cls := findClass_of_methodNamed B.named
  have hlocks := B.notSynchronized
  have hl := lv_entry ([.ref h, .int d]) (n := 2) (Nat.le_of_ble_eq_true rfl)
  rw [lg_entry_eq]
  generalize (lg_sl ([.ref h, .int d]) ++ List.replicate (2 - (lg_sl ([.ref h, .int d])).length) Slot.unset).toArray = ls at hl ⊢
  have hl : lv_has ls 2 [(0, .ref h), (1, .int d)] := hl
  refine lv_aload_n hx hb dX0_approve_0 rfl (lv_at hl 0 rfl) ?_
  refine lv_iload_n hx hb dX0_approve_1 rfl (lv_at hl 1 rfl) ?_
  exact q_callT hlocks hexc (vx_runV (As := [.int d]) (rest := []) ⟨hx, hb, hml, hown, hts⟩ (kX0_checkDraftX l D h ad cI cZ ex pa di qu gc dg dp dv dd ds dc td ho ak se pr hlf d hd hdc) (cwV 1 hts gX0_approve_X0_checkDraft rfl rfl rfl (by decide +kernel) ⟨Nat.le_of_ble_eq_true rfl, Nat.le_of_ble_eq_true rfl⟩) ⟨tP_blind, va_recv hK hP (ci := 0) (q0 := 0) rfl rfl, tP_pre hP hK hE⟩ rfl rfl hl.1 rfl (lv_room (Nat.le_of_ble_eq_true rfl)) dX0_approve_2 ⟨Nat.le_of_ble_eq_true rfl, Nat.le_of_ble_eq_true rfl⟩)

set_option maxHeartbeats 4000000 in
set_option maxRecDepth 100000 in
theorem kX0_approveXS (l : Launch) (D : va_G) (h : Nat) (ad : Nat → Nat) (cI cZ : ClassId) (ex : Nat → Bool) (pa : Nat → Option Nat) (di : Nat → Nat) (qu : Nat → Nat) (gc : Nat) (dg : Nat → Nat) (dp : Nat → Nat) (dv : Nat → Option Nat) (dd : Nat → Nat) (ds : Nat → Nat) (dc : Nat) (td : Nat) (ho : Nat → Option Nat) (ak : Nat → Bool) (se : Nat → Option Nat) (pr : Nat → Option Nat) (hlf : l.stackTraces = false) (d : Nat) (hd : d < dc) (hdc : dc ≤ 200) (h1 : ds d ≠ 1) (h4 : ds d ≠ 4) (hd4 : ds d ≤ 4) : vx_Met l yX0_approve wsX0_approve ({ frames := 6, cells := 1, slots := 6, locals := 82 } : Room) (tP D (hW h ad cI cZ ex pa di qu gc dg dp dv dd ds dc td ho ak se pr) (hT cI cZ) [.ref h, .int (nI d)]) nQ (tX "java/lang/IllegalStateException") 1 6 nF := by
  refine vx_ofW (cc := cX0_approve) (maxL := 2) (ret := (some .boolean)) (by decide) rfl ?_
  intro p e s m args below meth c s₁ B hml hexc hv
  obtain ⟨rfl, hP, hK, hE⟩ := hv
  have hx := B.exec
  have hb := B.bytes
  have hr := B.returns
  have hts := atoms_spec (ws := wsX0_approve) B.pre
  have hown : s.vm.findClass RX0 = some m.cls := findClass_of_methodNamed B.named
  have hlocks := B.notSynchronized
  have hl := lv_entry ([.ref h, .int (nI d)]) (n := 2) (Nat.le_of_ble_eq_true rfl)
  rw [lg_entry_eq]
  generalize (lg_sl ([.ref h, .int (nI d)]) ++ List.replicate (2 - (lg_sl ([.ref h, .int (nI d)])).length) Slot.unset).toArray = ls at hl ⊢
  have hl : lv_has ls 2 [(0, .ref h), (1, .int (nI d))] := hl
  refine lv_aload_n hx hb dX0_approve_0 rfl (lv_at hl 0 rfl) ?_
  refine lv_iload_n hx hb dX0_approve_1 rfl (lv_at hl 1 rfl) ?_
  refine q_callV (va_runV (As := [.int (nI d)]) (rest := []) ⟨hx, hb, hml, hown, hts⟩ (kX0_checkDraft l D h ad cI cZ ex pa di qu gc dg dp dv dd ds dc td ho ak se pr d hd hdc h4 hd4) (cwV 1 hts gX0_approve_X0_checkDraft rfl rfl rfl (by decide +kernel) ⟨Nat.le_of_ble_eq_true rfl, Nat.le_of_ble_eq_true rfl⟩) ⟨pP_blind, va_recv hK hP (ci := 0) (q0 := 0) rfl rfl, pP_pre hP hK⟩ rfl rfl hl.1 rfl (lv_room (Nat.le_of_ble_eq_true rfl)) dX0_approve_2 ⟨Nat.zero_le _, Nat.zero_le _⟩) ?_
  refine lv_aload_n hx hb dX0_approve_5 rfl (lv_at hl 0 rfl) ?_
  refine va_get (D := D) (ci := 0) (v := .ref (ad 9)) (C := RX0) (T := TX0) (N := 16) hx hb hts (iX0_approve) hown hK hP 0 rfl rfl 9 (by decide) (hts (.fieldLink RX0 39 "ShopHub" "draftStates" "[I") (by decide +kernel)) (fun _ h9 => h9) rfl dX0_approve_6 ?_
  refine lv_iload_n hx hb dX0_approve_9 rfl (lv_at hl 1 rfl) ?_
  refine q_ald nI ds hx hb hK hP 9 1 rfl rfl (k := d) (by omega) (Nat.le_of_ble_eq_true rfl) dX0_approve_10 ?_
  refine lv_iconst (v := nI 1) hx hb dX0_approve_11 (by decide) ?_
  refine q_icmpN_eq (a := ds d) (b := 1) (tgt := 25) (by omega) (by omega) hx hb dX0_approve_12 (by decide) (fun k12 => absurd k12 h1) (fun k12 => ?_)
  obtain ⟨sa, hstr⟩ := hE.2.2.1 (158, "the draft is not open") (by decide +kernel)
  exact vx_throwS (is := 158) (text := "the draft is not open") (names := ["java/lang/RuntimeException", "java/lang/Exception"]) (A := nF) hx hb hlf hown (by decide +kernel) (by decide +kernel) (hts (.classLink RX0 68 "java/lang/IllegalStateException") (by decide +kernel)) (hts (.initialized "java/lang/IllegalStateException") (by decide +kernel)) hstr (vx_hat (B := tB "java/lang/IllegalStateException") (fun w hw => hts w (thS_approve w hw)) (by decide +kernel) (tE_B hE (by decide))) (by decide +kernel) hE.1 hE.2.1 va_S.rf (hl.1.trans hml.symm) dX0_approve_15 dX0_approve_18 dX0_approve_19 dX0_approve_21 dX0_approve_24 (fun z hz => (hexc z hz).elim) (Nat.le_of_ble_eq_true rfl) (Nat.le_of_ble_eq_true rfl) (Nat.le_of_ble_eq_true rfl) (Nat.le_of_ble_eq_true rfl) hlocks (fun t ht h1 h2 => ⟨rfl, h1, h2⟩) (fun z hz => by cases hz) (Nat.le_refl 1) (Nat.le_refl 6)

set_option maxHeartbeats 4000000 in
set_option maxRecDepth 100000 in
theorem kX0_rejectXI (l : Launch) (D : va_G) (h : Nat) (ad : Nat → Nat) (cI cZ : ClassId) (ex : Nat → Bool) (pa : Nat → Option Nat) (di : Nat → Nat) (qu : Nat → Nat) (gc : Nat) (dg : Nat → Nat) (dp : Nat → Nat) (dv : Nat → Option Nat) (dd : Nat → Nat) (ds : Nat → Nat) (dc : Nat) (td : Nat) (ho : Nat → Option Nat) (ak : Nat → Bool) (se : Nat → Option Nat) (pr : Nat → Option Nat) (hlf : l.stackTraces = false) (d : Int32) (hd : dBad dc ds d) (hdc : dc ≤ 200) : vx_Met l yX0_reject wsX0_reject ({ frames := 7, cells := 1, slots := 6, locals := 103 } : Room) (tP D (hW h ad cI cZ ex pa di qu gc dg dp dv dd ds dc td ho ak se pr) (hT cI cZ) [.ref h, .int d]) nQ (tX "java/lang/IndexOutOfBoundsException") 1 6 nF := by
  refine vx_ofW (cc := cX0_reject) (maxL := 3) (ret := (some .boolean)) (by decide) rfl ?_
  intro p e s m args below meth c s₁ B hml hexc hv
  obtain ⟨rfl, hP, hK, hE⟩ := hv
  have hx := B.exec
  have hb := B.bytes
  have hr := B.returns
  have hts := atoms_spec (ws := wsX0_reject) B.pre
  have hown : s.vm.findClass RX0 = some m.cls := findClass_of_methodNamed B.named
  have hlocks := B.notSynchronized
  have hl := lv_entry ([.ref h, .int d]) (n := 3) (Nat.le_of_ble_eq_true rfl)
  rw [lg_entry_eq]
  generalize (lg_sl ([.ref h, .int d]) ++ List.replicate (3 - (lg_sl ([.ref h, .int d])).length) Slot.unset).toArray = ls at hl ⊢
  have hl : lv_has ls 3 [(0, .ref h), (1, .int d)] := hl
  refine lv_aload_n hx hb dX0_reject_0 rfl (lv_at hl 0 rfl) ?_
  refine lv_iload_n hx hb dX0_reject_1 rfl (lv_at hl 1 rfl) ?_
  exact q_callT hlocks hexc (vx_runV (As := [.int d]) (rest := []) ⟨hx, hb, hml, hown, hts⟩ (kX0_checkDraftX l D h ad cI cZ ex pa di qu gc dg dp dv dd ds dc td ho ak se pr hlf d hd hdc) (cwV 1 hts gX0_reject_X0_checkDraft rfl rfl rfl (by decide +kernel) ⟨Nat.le_of_ble_eq_true rfl, Nat.le_of_ble_eq_true rfl⟩) ⟨tP_blind, va_recv hK hP (ci := 0) (q0 := 0) rfl rfl, tP_pre hP hK hE⟩ rfl rfl hl.1 rfl (lv_room (Nat.le_of_ble_eq_true rfl)) dX0_reject_2 ⟨Nat.le_of_ble_eq_true rfl, Nat.le_of_ble_eq_true rfl⟩)

set_option maxHeartbeats 4000000 in
set_option maxRecDepth 100000 in
theorem kX0_rejectXS (l : Launch) (D : va_G) (h : Nat) (ad : Nat → Nat) (cI cZ : ClassId) (ex : Nat → Bool) (pa : Nat → Option Nat) (di : Nat → Nat) (qu : Nat → Nat) (gc : Nat) (dg : Nat → Nat) (dp : Nat → Nat) (dv : Nat → Option Nat) (dd : Nat → Nat) (ds : Nat → Nat) (dc : Nat) (td : Nat) (ho : Nat → Option Nat) (ak : Nat → Bool) (se : Nat → Option Nat) (pr : Nat → Option Nat) (hlf : l.stackTraces = false) (d : Nat) (hd : d < dc) (hdc : dc ≤ 200) (h3 : ds d = 3) : vx_Met l yX0_reject wsX0_reject ({ frames := 6, cells := 1, slots := 6, locals := 82 } : Room) (tP D (hW h ad cI cZ ex pa di qu gc dg dp dv dd ds dc td ho ak se pr) (hT cI cZ) [.ref h, .int (nI d)]) nQ (tX "java/lang/IllegalStateException") 1 6 nF := by
  refine vx_ofW (cc := cX0_reject) (maxL := 3) (ret := (some .boolean)) (by decide) rfl ?_
  intro p e s m args below meth c s₁ B hml hexc hv
  obtain ⟨rfl, hP, hK, hE⟩ := hv
  have hx := B.exec
  have hb := B.bytes
  have hr := B.returns
  have hts := atoms_spec (ws := wsX0_reject) B.pre
  have hown : s.vm.findClass RX0 = some m.cls := findClass_of_methodNamed B.named
  have hlocks := B.notSynchronized
  have hl := lv_entry ([.ref h, .int (nI d)]) (n := 3) (Nat.le_of_ble_eq_true rfl)
  rw [lg_entry_eq]
  generalize (lg_sl ([.ref h, .int (nI d)]) ++ List.replicate (3 - (lg_sl ([.ref h, .int (nI d)])).length) Slot.unset).toArray = ls at hl ⊢
  have hl : lv_has ls 3 [(0, .ref h), (1, .int (nI d))] := hl
  refine lv_aload_n hx hb dX0_reject_0 rfl (lv_at hl 0 rfl) ?_
  refine lv_iload_n hx hb dX0_reject_1 rfl (lv_at hl 1 rfl) ?_
  refine q_callV (va_runV (As := [.int (nI d)]) (rest := []) ⟨hx, hb, hml, hown, hts⟩ (kX0_checkDraft l D h ad cI cZ ex pa di qu gc dg dp dv dd ds dc td ho ak se pr d hd hdc (by omega) (by omega)) (cwV 1 hts gX0_reject_X0_checkDraft rfl rfl rfl (by decide +kernel) ⟨Nat.le_of_ble_eq_true rfl, Nat.le_of_ble_eq_true rfl⟩) ⟨pP_blind, va_recv hK hP (ci := 0) (q0 := 0) rfl rfl, pP_pre hP hK⟩ rfl rfl hl.1 rfl (lv_room (Nat.le_of_ble_eq_true rfl)) dX0_reject_2 ⟨Nat.zero_le _, Nat.zero_le _⟩) ?_
  refine lv_aload_n hx hb dX0_reject_5 rfl (lv_at hl 0 rfl) ?_
  refine va_get (D := D) (ci := 0) (v := .ref (ad 9)) (C := RX0) (T := TX0) (N := 16) hx hb hts (iX0_reject) hown hK hP 0 rfl rfl 9 (by decide) (hts (.fieldLink RX0 39 "ShopHub" "draftStates" "[I") (by decide +kernel)) (fun _ h9 => h9) rfl dX0_reject_6 ?_
  refine lv_iload_n hx hb dX0_reject_9 rfl (lv_at hl 1 rfl) ?_
  refine q_ald nI ds hx hb hK hP 9 1 rfl rfl (k := d) (by omega) (Nat.le_of_ble_eq_true rfl) dX0_reject_10 ?_
  refine lv_iconst (v := nI 3) hx hb dX0_reject_11 (by decide) ?_
  refine q_icmpN_ne (a := ds d) (b := 3) (tgt := 25) (by omega) (by omega) hx hb dX0_reject_12 (by decide) (fun k12 => absurd h3 k12) (fun k12 => ?_)
  obtain ⟨sa, hstr⟩ := hE.2.2.1 (163, "the draft is rejected") (by decide +kernel)
  exact vx_throwS (is := 163) (text := "the draft is rejected") (names := ["java/lang/RuntimeException", "java/lang/Exception"]) (A := nF) hx hb hlf hown (by decide +kernel) (by decide +kernel) (hts (.classLink RX0 68 "java/lang/IllegalStateException") (by decide +kernel)) (hts (.initialized "java/lang/IllegalStateException") (by decide +kernel)) hstr (vx_hat (B := tB "java/lang/IllegalStateException") (fun w hw => hts w (thS_reject w hw)) (by decide +kernel) (tE_B hE (by decide))) (by decide +kernel) hE.1 hE.2.1 va_S.rf (hl.1.trans hml.symm) dX0_reject_15 dX0_reject_18 dX0_reject_19 dX0_reject_21 dX0_reject_24 (fun z hz => (hexc z hz).elim) (Nat.le_of_ble_eq_true rfl) (Nat.le_of_ble_eq_true rfl) (Nat.le_of_ble_eq_true rfl) (Nat.le_of_ble_eq_true rfl) hlocks (fun t ht h1 h2 => ⟨rfl, h1, h2⟩) (fun z hz => by cases hz) (Nat.le_refl 1) (Nat.le_refl 6)

set_option maxHeartbeats 4000000 in
set_option maxRecDepth 100000 in
theorem kX0_passXA (l : Launch) (D : va_G) (h : Nat) (ad : Nat → Nat) (cI cZ : ClassId) (ex : Nat → Bool) (pa : Nat → Option Nat) (di : Nat → Nat) (qu : Nat → Nat) (gc : Nat) (dg : Nat → Nat) (dp : Nat → Nat) (dv : Nat → Option Nat) (dd : Nat → Nat) (ds : Nat → Nat) (dc : Nat) (td : Nat) (ho : Nat → Option Nat) (ak : Nat → Bool) (se : Nat → Option Nat) (pr : Nat → Option Nat) (hlf : l.stackTraces = false) (w : Int32) (hw : w < nI 1 ∨ nI 100 < w) : vx_Met l yX0_pass wsX0_pass ({ frames := 6, cells := 1, slots := 6, locals := 82 } : Room) (tP D (hW h ad cI cZ ex pa di qu gc dg dp dv dd ds dc td ho ak se pr) (hT cI cZ) [.ref h, .int w]) nQ (tX "java/lang/IllegalArgumentException") 1 6 nF := by
  refine vx_ofW (cc := cX0_pass) (maxL := 2) (ret := (some .int)) (by decide) rfl ?_
  intro p e s m args below meth c s₁ B hml hexc hv
  obtain ⟨rfl, hP, hK, hE⟩ := hv
  have hx := B.exec
  have hb := B.bytes
  have hr := B.returns
  have hts := atoms_spec (ws := wsX0_pass) B.pre
  have hown : s.vm.findClass RX0 = some m.cls := findClass_of_methodNamed B.named
  have hlocks := B.notSynchronized
  have hl := lv_entry ([.ref h, .int w]) (n := 2) (Nat.le_of_ble_eq_true rfl)
  rw [lg_entry_eq]
  generalize (lg_sl ([.ref h, .int w]) ++ List.replicate (2 - (lg_sl ([.ref h, .int w])).length) Slot.unset).toArray = ls at hl ⊢
  have hl : lv_has ls 2 [(0, .ref h), (1, .int w)] := hl
  refine lv_iload_n hx hb dX0_pass_0 rfl (lv_at hl 1 rfl) ?_
  refine lv_iconst (v := nI 1) hx hb dX0_pass_1 (by decide) ?_
  refine lv_icmp_lt (tgt := 11) hx hb dX0_pass_2 (by decide) (fun k2 => ?_) (fun k2 => ?_)
  · obtain ⟨sa, hstr⟩ := hE.2.2.1 (165, "the days are out of range") (by decide +kernel)
    exact vx_throwS (is := 165) (text := "the days are out of range") (names := ["java/lang/RuntimeException", "java/lang/Exception"]) (A := nF) hx hb hlf hown (by decide +kernel) (by decide +kernel) (hts (.classLink RX0 108 "java/lang/IllegalArgumentException") (by decide +kernel)) (hts (.initialized "java/lang/IllegalArgumentException") (by decide +kernel)) hstr (vx_hat (B := tB "java/lang/IllegalArgumentException") (fun w hw => hts w (thA_pass w hw)) (by decide +kernel) (tE_B hE (by decide))) (by decide +kernel) hE.1 hE.2.1 va_S.rf (hl.1.trans hml.symm) dX0_pass_11 dX0_pass_14 dX0_pass_15 dX0_pass_17 dX0_pass_20 (fun z hz => (hexc z hz).elim) (Nat.le_of_ble_eq_true rfl) (Nat.le_of_ble_eq_true rfl) (Nat.le_of_ble_eq_true rfl) (Nat.le_of_ble_eq_true rfl) hlocks (fun t ht h1 h2 => ⟨rfl, h1, h2⟩) (fun z hz => by cases hz) (Nat.le_refl 1) (Nat.le_refl 6)
  · refine lv_iload_n hx hb dX0_pass_5 rfl (lv_at hl 1 rfl) ?_
    refine lv_bipush (v := nI 100) hx hb dX0_pass_6 (by decide) ?_
    refine lv_icmp_le (tgt := 21) hx hb dX0_pass_8 (by decide) (fun k8 => absurd k8 (Int32.not_le.mpr (hw.resolve_left k2))) (fun k8 => ?_)
    obtain ⟨sa, hstr⟩ := hE.2.2.1 (165, "the days are out of range") (by decide +kernel)
    exact vx_throwS (is := 165) (text := "the days are out of range") (names := ["java/lang/RuntimeException", "java/lang/Exception"]) (A := nF) hx hb hlf hown (by decide +kernel) (by decide +kernel) (hts (.classLink RX0 108 "java/lang/IllegalArgumentException") (by decide +kernel)) (hts (.initialized "java/lang/IllegalArgumentException") (by decide +kernel)) hstr (vx_hat (B := tB "java/lang/IllegalArgumentException") (fun w hw => hts w (thA_pass w hw)) (by decide +kernel) (tE_B hE (by decide))) (by decide +kernel) hE.1 hE.2.1 va_S.rf (hl.1.trans hml.symm) dX0_pass_11 dX0_pass_14 dX0_pass_15 dX0_pass_17 dX0_pass_20 (fun z hz => (hexc z hz).elim) (Nat.le_of_ble_eq_true rfl) (Nat.le_of_ble_eq_true rfl) (Nat.le_of_ble_eq_true rfl) (Nat.le_of_ble_eq_true rfl) hlocks (fun t ht h1 h2 => ⟨rfl, h1, h2⟩) (fun z hz => by cases hz) (Nat.le_refl 1) (Nat.le_refl 6)

set_option maxHeartbeats 4000000 in
set_option maxRecDepth 100000 in
theorem kX0_valueXI (l : Launch) (D : va_G) (h : Nat) (ad : Nat → Nat) (cI cZ : ClassId) (ex : Nat → Bool) (pa : Nat → Option Nat) (di : Nat → Nat) (qu : Nat → Nat) (gc : Nat) (dg : Nat → Nat) (dp : Nat → Nat) (dv : Nat → Option Nat) (dd : Nat → Nat) (ds : Nat → Nat) (dc : Nat) (td : Nat) (ho : Nat → Option Nat) (ak : Nat → Bool) (se : Nat → Option Nat) (pr : Nat → Option Nat) (hlf : l.stackTraces = false) (g a x y : Int32) (hs : (gBad ex g ∨ ∃ j, j < 16 ∧ g = nI j ∧ ex j = true ∧ (aBad 6 a ∨ ∃ a2, a2 < 6 ∧ a = nI a2 ∧ (aBad 3 x ∨ ∃ x2, x2 < 3 ∧ x = nI x2 ∧ aBad 3 y)))) : vx_Met l yX0_value wsX0_value ({ frames := 8, cells := 1, slots := 6, locals := 127 } : Room) (tP D (hW h ad cI cZ ex pa di qu gc dg dp dv dd ds dc td ho ak se pr) (hT cI cZ) [.ref h, .int g, .int a, .int x, .int y]) nQ (tX "java/lang/IndexOutOfBoundsException") 1 6 nF := by
  refine vx_ofW (cc := cX0_value) (maxL := 6) (ret := (some .int)) (by decide) rfl ?_
  intro p e s m args below meth c s₁ B hml hexc hv
  obtain ⟨rfl, hP, hK, hE⟩ := hv
  have hx := B.exec
  have hb := B.bytes
  have hr := B.returns
  have hts := atoms_spec (ws := wsX0_value) B.pre
  have hown : s.vm.findClass RX0 = some m.cls := findClass_of_methodNamed B.named
  have hlocks := B.notSynchronized
  have hl := lv_entry ([.ref h, .int g, .int a, .int x, .int y]) (n := 6) (Nat.le_of_ble_eq_true rfl)
  rw [lg_entry_eq]
  generalize (lg_sl ([.ref h, .int g, .int a, .int x, .int y]) ++ List.replicate (6 - (lg_sl ([.ref h, .int g, .int a, .int x, .int y])).length) Slot.unset).toArray = ls at hl ⊢
  have hl : lv_has ls 6 [(0, .ref h), (1, .int g), (2, .int a), (3, .int x), (4, .int y)] := hl
  refine lv_aload_n hx hb dX0_value_0 rfl (lv_at hl 0 rfl) ?_
  refine lv_iload_n hx hb dX0_value_1 rfl (lv_at hl 1 rfl) ?_
  refine lv_iload_n hx hb dX0_value_2 rfl (lv_at hl 2 rfl) ?_
  refine lv_iload_n hx hb dX0_value_3 rfl (lv_at hl 3 rfl) ?_
  refine lv_iload hx hb dX0_value_4 (lv_at hl 4 rfl) ?_
  exact q_callT hlocks hexc (vx_runV (As := [.int g, .int a, .int x, .int y]) (rest := []) ⟨hx, hb, hml, hown, hts⟩ (kX0_checkSightX l D h ad cI cZ ex pa di qu gc dg dp dv dd ds dc td ho ak se pr hlf g a x y hs) (cwV 4 hts gX0_value_X0_checkSight rfl rfl rfl (by decide +kernel) ⟨Nat.le_of_ble_eq_true rfl, Nat.le_of_ble_eq_true rfl⟩) ⟨tP_blind, va_recv hK hP (ci := 0) (q0 := 0) rfl rfl, tP_pre hP hK hE⟩ rfl rfl hl.1 rfl (lv_room (Nat.le_of_ble_eq_true rfl)) dX0_value_6 ⟨Nat.le_of_ble_eq_true rfl, Nat.le_of_ble_eq_true rfl⟩)

set_option maxHeartbeats 4000000 in
set_option maxRecDepth 100000 in
theorem kX0_valueXS (l : Launch) (D : va_G) (h : Nat) (ad : Nat → Nat) (cI cZ : ClassId) (ex : Nat → Bool) (pa : Nat → Option Nat) (di : Nat → Nat) (qu : Nat → Nat) (gc : Nat) (dg : Nat → Nat) (dp : Nat → Nat) (dv : Nat → Option Nat) (dd : Nat → Nat) (ds : Nat → Nat) (dc : Nat) (td : Nat) (ho : Nat → Option Nat) (ak : Nat → Bool) (se : Nat → Option Nat) (pr : Nat → Option Nat) (hlf : l.stackTraces = false) (g a sp tp : Nat) (hg : g < 16) (ha : a < 6) (hs : sp < 3) (ht : tp < 3) (he : ex g = true) (hpr : PR pa) (hho : HO ho dc) (hdc : dc ≤ 200) (hdv : DV dv dc) (hnv : vlu ex pa ho dv a (sp + 1) (tp + 1) g = none) : vx_Met l yX0_value wsX0_value ({ frames := 6, cells := 1, slots := 6, locals := 102 } : Room) (tP D (hW h ad cI cZ ex pa di qu gc dg dp dv dd ds dc td ho ak se pr) (hT cI cZ) [.ref h, .int (nI g), .int (nI a), .int (nI sp), .int (nI tp)]) nQ (tX "java/lang/IllegalStateException") 1 6 nF := by
  refine vx_ofW (cc := cX0_value) (maxL := 6) (ret := (some .int)) (by decide) rfl ?_
  intro p e s m args below meth c s₁ B hml hexc hv
  obtain ⟨rfl, hP, hK, hE⟩ := hv
  have hx := B.exec
  have hb := B.bytes
  have hr := B.returns
  have hts := atoms_spec (ws := wsX0_value) B.pre
  have hown : s.vm.findClass RX0 = some m.cls := findClass_of_methodNamed B.named
  have hlocks := B.notSynchronized
  have hl := lv_entry ([.ref h, .int (nI g), .int (nI a), .int (nI sp), .int (nI tp)]) (n := 6) (Nat.le_of_ble_eq_true rfl)
  rw [lg_entry_eq]
  generalize (lg_sl ([.ref h, .int (nI g), .int (nI a), .int (nI sp), .int (nI tp)]) ++ List.replicate (6 - (lg_sl ([.ref h, .int (nI g), .int (nI a), .int (nI sp), .int (nI tp)])).length) Slot.unset).toArray = ls at hl ⊢
  have hl : lv_has ls 6 [(0, .ref h), (1, .int (nI g)), (2, .int (nI a)), (3, .int (nI sp)), (4, .int (nI tp))] := hl
  refine lv_aload_n hx hb dX0_value_0 rfl (lv_at hl 0 rfl) ?_
  refine lv_iload_n hx hb dX0_value_1 rfl (lv_at hl 1 rfl) ?_
  refine lv_iload_n hx hb dX0_value_2 rfl (lv_at hl 2 rfl) ?_
  refine lv_iload_n hx hb dX0_value_3 rfl (lv_at hl 3 rfl) ?_
  refine lv_iload hx hb dX0_value_4 (lv_at hl 4 rfl) ?_
  refine q_callV (va_runV (As := [.int (nI g), .int (nI a), .int (nI sp), .int (nI tp)]) (rest := []) ⟨hx, hb, hml, hown, hts⟩ (kX0_checkSight l D h ad cI cZ ex pa di qu gc dg dp dv dd ds dc td ho ak se pr g a sp tp hg ha hs ht he) (cwV 4 hts gX0_value_X0_checkSight rfl rfl rfl (by decide +kernel) ⟨Nat.le_of_ble_eq_true rfl, Nat.le_of_ble_eq_true rfl⟩) ⟨pP_blind, va_recv hK hP (ci := 0) (q0 := 0) rfl rfl, pP_pre hP hK⟩ rfl rfl hl.1 rfl (lv_room (Nat.le_of_ble_eq_true rfl)) dX0_value_6 ⟨Nat.zero_le _, Nat.zero_le _⟩) ?_
  refine lv_aload_n hx hb dX0_value_9 rfl (lv_at hl 0 rfl) ?_
  refine lv_iload_n hx hb dX0_value_10 rfl (lv_at hl 1 rfl) ?_
  refine lv_iload_n hx hb dX0_value_11 rfl (lv_at hl 2 rfl) ?_
  refine lv_iload_n hx hb dX0_value_12 rfl (lv_at hl 3 rfl) ?_
  refine lv_iload hx hb dX0_value_13 (lv_at hl 4 rfl) ?_
  refine q_callI (r := oI (vlu ex pa ho dv a (sp + 1) (tp + 1) g)) (va_runV (As := [.int (nI g), .int (nI a), .int (nI sp), .int (nI tp)]) (rest := []) ⟨hx, hb, hml, hown, hts⟩ (kX0_findValue l D h ad cI cZ ex pa di qu gc dg dp dv dd ds dc td ho ak se pr g a sp tp hg ha hs ht hpr hho hdc) (cwV 4 hts gX0_value_X0_findValue rfl rfl rfl (by decide +kernel) ⟨Nat.le_of_ble_eq_true rfl, Nat.le_of_ble_eq_true rfl⟩) ⟨pP_blind, va_recv hK hP (ci := 0) (q0 := 0) rfl rfl, pP_pre hP hK⟩ rfl rfl hl.1 rfl (lv_room (Nat.le_of_ble_eq_true rfl)) dX0_value_15 ⟨Nat.zero_le _, Nat.zero_le _⟩) ?_
  refine lv_istore (lv' := [(5, .int (oI (vlu ex pa ho dv a (sp + 1) (tp + 1) g))), (0, .ref h), (1, .int (nI g)), (2, .int (nI a)), (3, .int (nI sp)), (4, .int (nI tp))]) hx hb dX0_value_18 hl (by decide) rfl (fun ls hl => ?_)
  refine lv_iload hx hb dX0_value_20 (lv_at hl 0 rfl) ?_
  refine lv_iconst (v := oI none) hx hb dX0_value_22 (by decide) ?_
  refine q_icmpO_ne (a := vlu ex pa ho dv a (sp + 1) (tp + 1) g) (b := none) (tgt := 36) (fun k h9 => by have := vlu_in hho hpr hdv hg ha (show sp + 1 < 4 by omega) (show tp + 1 < 4 by omega) k h9; omega) (fun k h9 => by cases h9) hx hb dX0_value_23 (by decide) (fun k23 => absurd hnv k23) (fun k23 => ?_)
  obtain ⟨sa, hstr⟩ := hE.2.2.1 (182, "there is no value") (by decide +kernel)
  exact vx_throwS (is := 182) (text := "there is no value") (names := ["java/lang/RuntimeException", "java/lang/Exception"]) (A := nF) hx hb hlf hown (by decide +kernel) (by decide +kernel) (hts (.classLink RX0 68 "java/lang/IllegalStateException") (by decide +kernel)) (hts (.initialized "java/lang/IllegalStateException") (by decide +kernel)) hstr (vx_hat (B := tB "java/lang/IllegalStateException") (fun w hw => hts w (thS_value w hw)) (by decide +kernel) (tE_B hE (by decide))) (by decide +kernel) hE.1 hE.2.1 va_S.rf (hl.1.trans hml.symm) dX0_value_26 dX0_value_29 dX0_value_30 dX0_value_32 dX0_value_35 (fun z hz => (hexc z hz).elim) (Nat.le_of_ble_eq_true rfl) (Nat.le_of_ble_eq_true rfl) (Nat.le_of_ble_eq_true rfl) (Nat.le_of_ble_eq_true rfl) hlocks (fun t ht h1 h2 => ⟨rfl, h1, h2⟩) (fun z hz => by cases hz) (Nat.le_refl 1) (Nat.le_refl 6)

set_option maxHeartbeats 4000000 in
set_option maxRecDepth 100000 in
theorem kX0_originXI (l : Launch) (D : va_G) (h : Nat) (ad : Nat → Nat) (cI cZ : ClassId) (ex : Nat → Bool) (pa : Nat → Option Nat) (di : Nat → Nat) (qu : Nat → Nat) (gc : Nat) (dg : Nat → Nat) (dp : Nat → Nat) (dv : Nat → Option Nat) (dd : Nat → Nat) (ds : Nat → Nat) (dc : Nat) (td : Nat) (ho : Nat → Option Nat) (ak : Nat → Bool) (se : Nat → Option Nat) (pr : Nat → Option Nat) (hlf : l.stackTraces = false) (g a x y : Int32) (hs : (gBad ex g ∨ ∃ j, j < 16 ∧ g = nI j ∧ ex j = true ∧ (aBad 6 a ∨ ∃ a2, a2 < 6 ∧ a = nI a2 ∧ (aBad 3 x ∨ ∃ x2, x2 < 3 ∧ x = nI x2 ∧ aBad 3 y)))) : vx_Met l yX0_origin wsX0_origin ({ frames := 8, cells := 1, slots := 6, locals := 127 } : Room) (tP D (hW h ad cI cZ ex pa di qu gc dg dp dv dd ds dc td ho ak se pr) (hT cI cZ) [.ref h, .int g, .int a, .int x, .int y]) nQ (tX "java/lang/IndexOutOfBoundsException") 1 6 nF := by
  refine vx_ofW (cc := cX0_origin) (maxL := 5) (ret := (some .int)) (by decide) rfl ?_
  intro p e s m args below meth c s₁ B hml hexc hv
  obtain ⟨rfl, hP, hK, hE⟩ := hv
  have hx := B.exec
  have hb := B.bytes
  have hr := B.returns
  have hts := atoms_spec (ws := wsX0_origin) B.pre
  have hown : s.vm.findClass RX0 = some m.cls := findClass_of_methodNamed B.named
  have hlocks := B.notSynchronized
  have hl := lv_entry ([.ref h, .int g, .int a, .int x, .int y]) (n := 5) (Nat.le_of_ble_eq_true rfl)
  rw [lg_entry_eq]
  generalize (lg_sl ([.ref h, .int g, .int a, .int x, .int y]) ++ List.replicate (5 - (lg_sl ([.ref h, .int g, .int a, .int x, .int y])).length) Slot.unset).toArray = ls at hl ⊢
  have hl : lv_has ls 5 [(0, .ref h), (1, .int g), (2, .int a), (3, .int x), (4, .int y)] := hl
  refine lv_aload_n hx hb dX0_origin_0 rfl (lv_at hl 0 rfl) ?_
  refine lv_iload_n hx hb dX0_origin_1 rfl (lv_at hl 1 rfl) ?_
  refine lv_iload_n hx hb dX0_origin_2 rfl (lv_at hl 2 rfl) ?_
  refine lv_iload_n hx hb dX0_origin_3 rfl (lv_at hl 3 rfl) ?_
  refine lv_iload hx hb dX0_origin_4 (lv_at hl 4 rfl) ?_
  exact q_callT hlocks hexc (vx_runV (As := [.int g, .int a, .int x, .int y]) (rest := []) ⟨hx, hb, hml, hown, hts⟩ (kX0_checkSightX l D h ad cI cZ ex pa di qu gc dg dp dv dd ds dc td ho ak se pr hlf g a x y hs) (cwV 4 hts gX0_origin_X0_checkSight rfl rfl rfl (by decide +kernel) ⟨Nat.le_of_ble_eq_true rfl, Nat.le_of_ble_eq_true rfl⟩) ⟨tP_blind, va_recv hK hP (ci := 0) (q0 := 0) rfl rfl, tP_pre hP hK hE⟩ rfl rfl hl.1 rfl (lv_room (Nat.le_of_ble_eq_true rfl)) dX0_origin_6 ⟨Nat.le_of_ble_eq_true rfl, Nat.le_of_ble_eq_true rfl⟩)

set_option maxHeartbeats 4000000 in
set_option maxRecDepth 100000 in
theorem kX0_toldXI (l : Launch) (D : va_G) (h : Nat) (ad : Nat → Nat) (cI cZ : ClassId) (ex : Nat → Bool) (pa : Nat → Option Nat) (di : Nat → Nat) (qu : Nat → Nat) (gc : Nat) (dg : Nat → Nat) (dp : Nat → Nat) (dv : Nat → Option Nat) (dd : Nat → Nat) (ds : Nat → Nat) (dc : Nat) (td : Nat) (ho : Nat → Option Nat) (ak : Nat → Bool) (se : Nat → Option Nat) (pr : Nat → Option Nat) (hlf : l.stackTraces = false) (g : Int32) (hg : gBad ex g) : vx_Met l yX0_told wsX0_told ({ frames := 7, cells := 1, slots := 6, locals := 103 } : Room) (tP D (hW h ad cI cZ ex pa di qu gc dg dp dv dd ds dc td ho ak se pr) (hT cI cZ) [.ref h, .int g]) nQ (tX "java/lang/IndexOutOfBoundsException") 1 6 nF := by
  refine vx_ofW (cc := cX0_told) (maxL := 5) (ret := (some .int)) (by decide) rfl ?_
  intro p e s m args below meth c s₁ B hml hexc hv
  obtain ⟨rfl, hP, hK, hE⟩ := hv
  have hx := B.exec
  have hb := B.bytes
  have hr := B.returns
  have hts := atoms_spec (ws := wsX0_told) B.pre
  have hown : s.vm.findClass RX0 = some m.cls := findClass_of_methodNamed B.named
  have hlocks := B.notSynchronized
  have hl := lv_entry ([.ref h, .int g]) (n := 5) (Nat.le_of_ble_eq_true rfl)
  rw [lg_entry_eq]
  generalize (lg_sl ([.ref h, .int g]) ++ List.replicate (5 - (lg_sl ([.ref h, .int g])).length) Slot.unset).toArray = ls at hl ⊢
  have hl : lv_has ls 5 [(0, .ref h), (1, .int g)] := hl
  refine lv_aload_n hx hb dX0_told_0 rfl (lv_at hl 0 rfl) ?_
  refine lv_iload_n hx hb dX0_told_1 rfl (lv_at hl 1 rfl) ?_
  exact q_callT hlocks hexc (vx_runV (As := [.int g]) (rest := []) ⟨hx, hb, hml, hown, hts⟩ (kX0_checkGoodX l D h ad cI cZ ex pa di qu gc dg dp dv dd ds dc td ho ak se pr hlf g hg) (cwV 1 hts gX0_told_X0_checkGood rfl rfl rfl (by decide +kernel) ⟨Nat.le_of_ble_eq_true rfl, Nat.le_of_ble_eq_true rfl⟩) ⟨tP_blind, va_recv hK hP (ci := 0) (q0 := 0) rfl rfl, tP_pre hP hK hE⟩ rfl rfl hl.1 rfl (lv_room (Nat.le_of_ble_eq_true rfl)) dX0_told_2 ⟨Nat.le_of_ble_eq_true rfl, Nat.le_of_ble_eq_true rfl⟩)

set_option maxHeartbeats 4000000 in
set_option maxRecDepth 100000 in
theorem kX0_toggleAskedXI (l : Launch) (D : va_G) (h : Nat) (ad : Nat → Nat) (cI cZ : ClassId) (ex : Nat → Bool) (pa : Nat → Option Nat) (di : Nat → Nat) (qu : Nat → Nat) (gc : Nat) (dg : Nat → Nat) (dp : Nat → Nat) (dv : Nat → Option Nat) (dd : Nat → Nat) (ds : Nat → Nat) (dc : Nat) (td : Nat) (ho : Nat → Option Nat) (ak : Nat → Bool) (se : Nat → Option Nat) (pr : Nat → Option Nat) (hlf : l.stackTraces = false) (x a : Int32) (hs : aBad 3 x ∨ ∃ x2, x2 < 3 ∧ x = nI x2 ∧ aBad 6 a) : vx_Met l yX0_toggleAsked wsX0_toggleAsked ({ frames := 7, cells := 1, slots := 6, locals := 102 } : Room) (tP D (hW h ad cI cZ ex pa di qu gc dg dp dv dd ds dc td ho ak se pr) (hT cI cZ) [.ref h, .int x, .int a]) nQ (tX "java/lang/IndexOutOfBoundsException") 1 6 nF := by
  refine vx_ofW (cc := cX0_toggleAsked) (maxL := 4) (ret := (some .boolean)) (by decide) rfl ?_
  intro p e s m args below meth c s₁ B hml hexc hv
  obtain ⟨rfl, hP, hK, hE⟩ := hv
  have hx := B.exec
  have hb := B.bytes
  have hr := B.returns
  have hts := atoms_spec (ws := wsX0_toggleAsked) B.pre
  have hown : s.vm.findClass RX0 = some m.cls := findClass_of_methodNamed B.named
  have hlocks := B.notSynchronized
  have hl := lv_entry ([.ref h, .int x, .int a]) (n := 4) (Nat.le_of_ble_eq_true rfl)
  rw [lg_entry_eq]
  generalize (lg_sl ([.ref h, .int x, .int a]) ++ List.replicate (4 - (lg_sl ([.ref h, .int x, .int a])).length) Slot.unset).toArray = ls at hl ⊢
  have hl : lv_has ls 4 [(0, .ref h), (1, .int x), (2, .int a)] := hl
  rcases hs with hs | ⟨x2, hx2, rfl, hs⟩
  · refine lv_iload_n hx hb dX0_toggleAsked_0 rfl (lv_at hl 1 rfl) ?_
    exact q_callT hlocks hexc (vx_runS (As := [.int x]) (rest := []) ⟨hx, hb, hml, hown, hts⟩ (kX0_checkShopX l hlf x hs) (cwS 1 hts gX0_toggleAsked_X0_checkShop rfl rfl rfl (by decide +kernel) ⟨Nat.le_of_ble_eq_true rfl, Nat.le_of_ble_eq_true rfl⟩) ⟨tPS_blind, tPS_pre hE⟩ rfl rfl hl.1 rfl (lv_room (Nat.le_of_ble_eq_true rfl)) dX0_toggleAsked_1 ⟨Nat.le_of_ble_eq_true rfl, Nat.le_of_ble_eq_true rfl⟩)
  · refine lv_iload_n hx hb dX0_toggleAsked_0 rfl (lv_at hl 1 rfl) ?_
    refine q_callV (va_runS (As := [.int (nI x2)]) (rest := []) ⟨hx, hb, hml, hown, hts⟩ (kX0_checkShop l x2 hx2) (cwS 1 hts gX0_toggleAsked_X0_checkShop rfl rfl rfl (by decide +kernel) ⟨Nat.le_of_ble_eq_true rfl, Nat.le_of_ble_eq_true rfl⟩) ⟨sP_blind, sP_pre⟩ rfl rfl hl.1 rfl (lv_room (Nat.le_of_ble_eq_true rfl)) dX0_toggleAsked_1 ⟨Nat.zero_le _, Nat.zero_le _⟩) ?_
    refine lv_iload_n hx hb dX0_toggleAsked_4 rfl (lv_at hl 2 rfl) ?_
    exact q_callT hlocks hexc (vx_runS (As := [.int a]) (rest := []) ⟨hx, hb, hml, hown, hts⟩ (kX0_checkAttributeX l hlf a hs) (cwS 1 hts gX0_toggleAsked_X0_checkAttribute rfl rfl rfl (by decide +kernel) ⟨Nat.le_of_ble_eq_true rfl, Nat.le_of_ble_eq_true rfl⟩) ⟨tPS_blind, tPS_pre hE⟩ rfl rfl hl.1 rfl (lv_room (Nat.le_of_ble_eq_true rfl)) dX0_toggleAsked_5 ⟨Nat.le_of_ble_eq_true rfl, Nat.le_of_ble_eq_true rfl⟩)

set_option maxHeartbeats 4000000 in
set_option maxRecDepth 100000 in
theorem kX0_missingXI (l : Launch) (D : va_G) (h : Nat) (ad : Nat → Nat) (cI cZ : ClassId) (ex : Nat → Bool) (pa : Nat → Option Nat) (di : Nat → Nat) (qu : Nat → Nat) (gc : Nat) (dg : Nat → Nat) (dp : Nat → Nat) (dv : Nat → Option Nat) (dd : Nat → Nat) (ds : Nat → Nat) (dc : Nat) (td : Nat) (ho : Nat → Option Nat) (ak : Nat → Bool) (se : Nat → Option Nat) (pr : Nat → Option Nat) (hlf : l.stackTraces = false) (g x y : Int32) (hs : (gBad ex g ∨ ∃ j, j < 16 ∧ g = nI j ∧ ex j = true ∧ (aBad 3 x ∨ ∃ x2, x2 < 3 ∧ x = nI x2 ∧ aBad 3 y))) : vx_Met l yX0_missing wsX0_missing ({ frames := 7, cells := 1, slots := 6, locals := 103 } : Room) (tP D (hW h ad cI cZ ex pa di qu gc dg dp dv dd ds dc td ho ak se pr) (hT cI cZ) [.ref h, .int g, .int x, .int y]) nQ (tX "java/lang/IndexOutOfBoundsException") 1 6 nF := by
  refine vx_ofW (cc := cX0_missing) (maxL := 4) (ret := (some .int)) (by decide) rfl ?_
  intro p e s m args below meth c s₁ B hml hexc hv
  obtain ⟨rfl, hP, hK, hE⟩ := hv
  have hx := B.exec
  have hb := B.bytes
  have hr := B.returns
  have hts := atoms_spec (ws := wsX0_missing) B.pre
  have hown : s.vm.findClass RX0 = some m.cls := findClass_of_methodNamed B.named
  have hlocks := B.notSynchronized
  have hl := lv_entry ([.ref h, .int g, .int x, .int y]) (n := 4) (Nat.le_of_ble_eq_true rfl)
  rw [lg_entry_eq]
  generalize (lg_sl ([.ref h, .int g, .int x, .int y]) ++ List.replicate (4 - (lg_sl ([.ref h, .int g, .int x, .int y])).length) Slot.unset).toArray = ls at hl ⊢
  have hl : lv_has ls 4 [(0, .ref h), (1, .int g), (2, .int x), (3, .int y)] := hl
  rcases hs with hs | ⟨j, hj, rfl, he, hs⟩
  · refine lv_aload_n hx hb dX0_missing_0 rfl (lv_at hl 0 rfl) ?_
    refine lv_iload_n hx hb dX0_missing_1 rfl (lv_at hl 1 rfl) ?_
    exact q_callT hlocks hexc (vx_runV (As := [.int g]) (rest := []) ⟨hx, hb, hml, hown, hts⟩ (kX0_checkGoodX l D h ad cI cZ ex pa di qu gc dg dp dv dd ds dc td ho ak se pr hlf g hs) (cwV 1 hts gX0_missing_X0_checkGood rfl rfl rfl (by decide +kernel) ⟨Nat.le_of_ble_eq_true rfl, Nat.le_of_ble_eq_true rfl⟩) ⟨tP_blind, va_recv hK hP (ci := 0) (q0 := 0) rfl rfl, tP_pre hP hK hE⟩ rfl rfl hl.1 rfl (lv_room (Nat.le_of_ble_eq_true rfl)) dX0_missing_2 ⟨Nat.le_of_ble_eq_true rfl, Nat.le_of_ble_eq_true rfl⟩)
  · refine lv_aload_n hx hb dX0_missing_0 rfl (lv_at hl 0 rfl) ?_
    refine lv_iload_n hx hb dX0_missing_1 rfl (lv_at hl 1 rfl) ?_
    refine q_callV (va_runV (As := [.int (nI j)]) (rest := []) ⟨hx, hb, hml, hown, hts⟩ (kX0_checkGood l D h ad cI cZ ex pa di qu gc dg dp dv dd ds dc td ho ak se pr j hj he) (cwV 1 hts gX0_missing_X0_checkGood rfl rfl rfl (by decide +kernel) ⟨Nat.le_of_ble_eq_true rfl, Nat.le_of_ble_eq_true rfl⟩) ⟨pP_blind, va_recv hK hP (ci := 0) (q0 := 0) rfl rfl, pP_pre hP hK⟩ rfl rfl hl.1 rfl (lv_room (Nat.le_of_ble_eq_true rfl)) dX0_missing_2 ⟨Nat.zero_le _, Nat.zero_le _⟩) ?_
    rcases hs with hs | ⟨x2, hx2, rfl, hs⟩
    · refine lv_iload_n hx hb dX0_missing_5 rfl (lv_at hl 2 rfl) ?_
      exact q_callT hlocks hexc (vx_runS (As := [.int x]) (rest := []) ⟨hx, hb, hml, hown, hts⟩ (kX0_checkShopX l hlf x hs) (cwS 1 hts gX0_missing_X0_checkShop rfl rfl rfl (by decide +kernel) ⟨Nat.le_of_ble_eq_true rfl, Nat.le_of_ble_eq_true rfl⟩) ⟨tPS_blind, tPS_pre hE⟩ rfl rfl hl.1 rfl (lv_room (Nat.le_of_ble_eq_true rfl)) dX0_missing_6 ⟨Nat.le_of_ble_eq_true rfl, Nat.le_of_ble_eq_true rfl⟩)
    · refine lv_iload_n hx hb dX0_missing_5 rfl (lv_at hl 2 rfl) ?_
      refine q_callV (va_runS (As := [.int (nI x2)]) (rest := []) ⟨hx, hb, hml, hown, hts⟩ (kX0_checkShop l x2 hx2) (cwS 1 hts gX0_missing_X0_checkShop rfl rfl rfl (by decide +kernel) ⟨Nat.le_of_ble_eq_true rfl, Nat.le_of_ble_eq_true rfl⟩) ⟨sP_blind, sP_pre⟩ rfl rfl hl.1 rfl (lv_room (Nat.le_of_ble_eq_true rfl)) dX0_missing_6 ⟨Nat.zero_le _, Nat.zero_le _⟩) ?_
      refine lv_iload_n hx hb dX0_missing_9 rfl (lv_at hl 3 rfl) ?_
      exact q_callT hlocks hexc (vx_runS (As := [.int y]) (rest := []) ⟨hx, hb, hml, hown, hts⟩ (kX0_checkTongueX l hlf y hs) (cwS 1 hts gX0_missing_X0_checkTongue rfl rfl rfl (by decide +kernel) ⟨Nat.le_of_ble_eq_true rfl, Nat.le_of_ble_eq_true rfl⟩) ⟨tPS_blind, tPS_pre hE⟩ rfl rfl hl.1 rfl (lv_room (Nat.le_of_ble_eq_true rfl)) dX0_missing_10 ⟨Nat.le_of_ble_eq_true rfl, Nat.le_of_ble_eq_true rfl⟩)

set_option maxHeartbeats 4000000 in
set_option maxRecDepth 100000 in
theorem kX0_completeXI (l : Launch) (D : va_G) (h : Nat) (ad : Nat → Nat) (cI cZ : ClassId) (ex : Nat → Bool) (pa : Nat → Option Nat) (di : Nat → Nat) (qu : Nat → Nat) (gc : Nat) (dg : Nat → Nat) (dp : Nat → Nat) (dv : Nat → Option Nat) (dd : Nat → Nat) (ds : Nat → Nat) (dc : Nat) (td : Nat) (ho : Nat → Option Nat) (ak : Nat → Bool) (se : Nat → Option Nat) (pr : Nat → Option Nat) (hlf : l.stackTraces = false) (x : Int32) (hs : aBad 3 x) : vx_Met l yX0_complete wsX0_complete ({ frames := 7, cells := 1, slots := 6, locals := 102 } : Room) (tP D (hW h ad cI cZ ex pa di qu gc dg dp dv dd ds dc td ho ak se pr) (hT cI cZ) [.ref h, .int x]) nQ (tX "java/lang/IndexOutOfBoundsException") 1 6 nF := by
  refine vx_ofW (cc := cX0_complete) (maxL := 4) (ret := (some .int)) (by decide) rfl ?_
  intro p e s m args below meth c s₁ B hml hexc hv
  obtain ⟨rfl, hP, hK, hE⟩ := hv
  have hx := B.exec
  have hb := B.bytes
  have hr := B.returns
  have hts := atoms_spec (ws := wsX0_complete) B.pre
  have hown : s.vm.findClass RX0 = some m.cls := findClass_of_methodNamed B.named
  have hlocks := B.notSynchronized
  have hl := lv_entry ([.ref h, .int x]) (n := 4) (Nat.le_of_ble_eq_true rfl)
  rw [lg_entry_eq]
  generalize (lg_sl ([.ref h, .int x]) ++ List.replicate (4 - (lg_sl ([.ref h, .int x])).length) Slot.unset).toArray = ls at hl ⊢
  have hl : lv_has ls 4 [(0, .ref h), (1, .int x)] := hl
  refine lv_iload_n hx hb dX0_complete_0 rfl (lv_at hl 1 rfl) ?_
  exact q_callT hlocks hexc (vx_runS (As := [.int x]) (rest := []) ⟨hx, hb, hml, hown, hts⟩ (kX0_checkShopX l hlf x hs) (cwS 1 hts gX0_complete_X0_checkShop rfl rfl rfl (by decide +kernel) ⟨Nat.le_of_ble_eq_true rfl, Nat.le_of_ble_eq_true rfl⟩) ⟨tPS_blind, tPS_pre hE⟩ rfl rfl hl.1 rfl (lv_room (Nat.le_of_ble_eq_true rfl)) dX0_complete_1 ⟨Nat.le_of_ble_eq_true rfl, Nat.le_of_ble_eq_true rfl⟩)

set_option maxHeartbeats 4000000 in
set_option maxRecDepth 100000 in
theorem kX0_changedXI (l : Launch) (D : va_G) (h : Nat) (ad : Nat → Nat) (cI cZ : ClassId) (ex : Nat → Bool) (pa : Nat → Option Nat) (di : Nat → Nat) (qu : Nat → Nat) (gc : Nat) (dg : Nat → Nat) (dp : Nat → Nat) (dv : Nat → Option Nat) (dd : Nat → Nat) (ds : Nat → Nat) (dc : Nat) (td : Nat) (ho : Nat → Option Nat) (ak : Nat → Bool) (se : Nat → Option Nat) (pr : Nat → Option Nat) (hlf : l.stackTraces = false) (x : Int32) (hs : aBad 3 x) : vx_Met l yX0_changed wsX0_changed ({ frames := 7, cells := 1, slots := 6, locals := 102 } : Room) (tP D (hW h ad cI cZ ex pa di qu gc dg dp dv dd ds dc td ho ak se pr) (hT cI cZ) [.ref h, .int x]) nQ (tX "java/lang/IndexOutOfBoundsException") 1 6 nF := by
  refine vx_ofW (cc := cX0_changed) (maxL := 2) (ret := (some .int)) (by decide) rfl ?_
  intro p e s m args below meth c s₁ B hml hexc hv
  obtain ⟨rfl, hP, hK, hE⟩ := hv
  have hx := B.exec
  have hb := B.bytes
  have hr := B.returns
  have hts := atoms_spec (ws := wsX0_changed) B.pre
  have hown : s.vm.findClass RX0 = some m.cls := findClass_of_methodNamed B.named
  have hlocks := B.notSynchronized
  have hl := lv_entry ([.ref h, .int x]) (n := 2) (Nat.le_of_ble_eq_true rfl)
  rw [lg_entry_eq]
  generalize (lg_sl ([.ref h, .int x]) ++ List.replicate (2 - (lg_sl ([.ref h, .int x])).length) Slot.unset).toArray = ls at hl ⊢
  have hl : lv_has ls 2 [(0, .ref h), (1, .int x)] := hl
  refine lv_iload_n hx hb dX0_changed_0 rfl (lv_at hl 1 rfl) ?_
  exact q_callT hlocks hexc (vx_runS (As := [.int x]) (rest := []) ⟨hx, hb, hml, hown, hts⟩ (kX0_checkShopX l hlf x hs) (cwS 1 hts gX0_changed_X0_checkShop rfl rfl rfl (by decide +kernel) ⟨Nat.le_of_ble_eq_true rfl, Nat.le_of_ble_eq_true rfl⟩) ⟨tPS_blind, tPS_pre hE⟩ rfl rfl hl.1 rfl (lv_room (Nat.le_of_ble_eq_true rfl)) dX0_changed_1 ⟨Nat.le_of_ble_eq_true rfl, Nat.le_of_ble_eq_true rfl⟩)

set_option maxHeartbeats 4000000 in
set_option maxRecDepth 100000 in
theorem kX0_feedXI (l : Launch) (D : va_G) (h : Nat) (ad : Nat → Nat) (cI cZ : ClassId) (ex : Nat → Bool) (pa : Nat → Option Nat) (di : Nat → Nat) (qu : Nat → Nat) (gc : Nat) (dg : Nat → Nat) (dp : Nat → Nat) (dv : Nat → Option Nat) (dd : Nat → Nat) (ds : Nat → Nat) (dc : Nat) (td : Nat) (ho : Nat → Option Nat) (ak : Nat → Bool) (se : Nat → Option Nat) (pr : Nat → Option Nat) (hlf : l.stackTraces = false) (x : Int32) (hs : aBad 3 x) : vx_Met l yX0_feed wsX0_feed ({ frames := 7, cells := 1, slots := 6, locals := 102 } : Room) (tP D (hW h ad cI cZ ex pa di qu gc dg dp dv dd ds dc td ho ak se pr) (hT cI cZ) [.ref h, .int x]) nQ (tX "java/lang/IndexOutOfBoundsException") 1 6 nF := by
  refine vx_ofW (cc := cX0_feed) (maxL := 4) (ret := (some .int)) (by decide) rfl ?_
  intro p e s m args below meth c s₁ B hml hexc hv
  obtain ⟨rfl, hP, hK, hE⟩ := hv
  have hx := B.exec
  have hb := B.bytes
  have hr := B.returns
  have hts := atoms_spec (ws := wsX0_feed) B.pre
  have hown : s.vm.findClass RX0 = some m.cls := findClass_of_methodNamed B.named
  have hlocks := B.notSynchronized
  have hl := lv_entry ([.ref h, .int x]) (n := 4) (Nat.le_of_ble_eq_true rfl)
  rw [lg_entry_eq]
  generalize (lg_sl ([.ref h, .int x]) ++ List.replicate (4 - (lg_sl ([.ref h, .int x])).length) Slot.unset).toArray = ls at hl ⊢
  have hl : lv_has ls 4 [(0, .ref h), (1, .int x)] := hl
  refine lv_iload_n hx hb dX0_feed_0 rfl (lv_at hl 1 rfl) ?_
  exact q_callT hlocks hexc (vx_runS (As := [.int x]) (rest := []) ⟨hx, hb, hml, hown, hts⟩ (kX0_checkShopX l hlf x hs) (cwS 1 hts gX0_feed_X0_checkShop rfl rfl rfl (by decide +kernel) ⟨Nat.le_of_ble_eq_true rfl, Nat.le_of_ble_eq_true rfl⟩) ⟨tPS_blind, tPS_pre hE⟩ rfl rfl hl.1 rfl (lv_room (Nat.le_of_ble_eq_true rfl)) dX0_feed_1 ⟨Nat.le_of_ble_eq_true rfl, Nat.le_of_ble_eq_true rfl⟩)

set_option maxHeartbeats 4000000 in
set_option maxRecDepth 100000 in
theorem kX0_priceXI (l : Launch) (D : va_G) (h : Nat) (ad : Nat → Nat) (cI cZ : ClassId) (ex : Nat → Bool) (pa : Nat → Option Nat) (di : Nat → Nat) (qu : Nat → Nat) (gc : Nat) (dg : Nat → Nat) (dp : Nat → Nat) (dv : Nat → Option Nat) (dd : Nat → Nat) (ds : Nat → Nat) (dc : Nat) (td : Nat) (ho : Nat → Option Nat) (ak : Nat → Bool) (se : Nat → Option Nat) (pr : Nat → Option Nat) (hlf : l.stackTraces = false) (g x : Int32) (hs : gBad ex g ∨ ∃ j, j < 16 ∧ g = nI j ∧ ex j = true ∧ aBad 3 x) : vx_Met l yX0_price wsX0_price ({ frames := 7, cells := 1, slots := 6, locals := 103 } : Room) (tP D (hW h ad cI cZ ex pa di qu gc dg dp dv dd ds dc td ho ak se pr) (hT cI cZ) [.ref h, .int g, .int x]) nQ (tX "java/lang/IndexOutOfBoundsException") 1 6 nF := by
  refine vx_ofW (cc := cX0_price) (maxL := 4) (ret := (some .int)) (by decide) rfl ?_
  intro p e s m args below meth c s₁ B hml hexc hv
  obtain ⟨rfl, hP, hK, hE⟩ := hv
  have hx := B.exec
  have hb := B.bytes
  have hr := B.returns
  have hts := atoms_spec (ws := wsX0_price) B.pre
  have hown : s.vm.findClass RX0 = some m.cls := findClass_of_methodNamed B.named
  have hlocks := B.notSynchronized
  have hl := lv_entry ([.ref h, .int g, .int x]) (n := 4) (Nat.le_of_ble_eq_true rfl)
  rw [lg_entry_eq]
  generalize (lg_sl ([.ref h, .int g, .int x]) ++ List.replicate (4 - (lg_sl ([.ref h, .int g, .int x])).length) Slot.unset).toArray = ls at hl ⊢
  have hl : lv_has ls 4 [(0, .ref h), (1, .int g), (2, .int x)] := hl
  rcases hs with hs | ⟨j, hj, rfl, he, hs⟩
  · refine lv_aload_n hx hb dX0_price_0 rfl (lv_at hl 0 rfl) ?_
    refine lv_iload_n hx hb dX0_price_1 rfl (lv_at hl 1 rfl) ?_
    exact q_callT hlocks hexc (vx_runV (As := [.int g]) (rest := []) ⟨hx, hb, hml, hown, hts⟩ (kX0_checkGoodX l D h ad cI cZ ex pa di qu gc dg dp dv dd ds dc td ho ak se pr hlf g hs) (cwV 1 hts gX0_price_X0_checkGood rfl rfl rfl (by decide +kernel) ⟨Nat.le_of_ble_eq_true rfl, Nat.le_of_ble_eq_true rfl⟩) ⟨tP_blind, va_recv hK hP (ci := 0) (q0 := 0) rfl rfl, tP_pre hP hK hE⟩ rfl rfl hl.1 rfl (lv_room (Nat.le_of_ble_eq_true rfl)) dX0_price_2 ⟨Nat.le_of_ble_eq_true rfl, Nat.le_of_ble_eq_true rfl⟩)
  · refine lv_aload_n hx hb dX0_price_0 rfl (lv_at hl 0 rfl) ?_
    refine lv_iload_n hx hb dX0_price_1 rfl (lv_at hl 1 rfl) ?_
    refine q_callV (va_runV (As := [.int (nI j)]) (rest := []) ⟨hx, hb, hml, hown, hts⟩ (kX0_checkGood l D h ad cI cZ ex pa di qu gc dg dp dv dd ds dc td ho ak se pr j hj he) (cwV 1 hts gX0_price_X0_checkGood rfl rfl rfl (by decide +kernel) ⟨Nat.le_of_ble_eq_true rfl, Nat.le_of_ble_eq_true rfl⟩) ⟨pP_blind, va_recv hK hP (ci := 0) (q0 := 0) rfl rfl, pP_pre hP hK⟩ rfl rfl hl.1 rfl (lv_room (Nat.le_of_ble_eq_true rfl)) dX0_price_2 ⟨Nat.zero_le _, Nat.zero_le _⟩) ?_
    refine lv_iload_n hx hb dX0_price_5 rfl (lv_at hl 2 rfl) ?_
    exact q_callT hlocks hexc (vx_runS (As := [.int x]) (rest := []) ⟨hx, hb, hml, hown, hts⟩ (kX0_checkShopX l hlf x hs) (cwS 1 hts gX0_price_X0_checkShop rfl rfl rfl (by decide +kernel) ⟨Nat.le_of_ble_eq_true rfl, Nat.le_of_ble_eq_true rfl⟩) ⟨tPS_blind, tPS_pre hE⟩ rfl rfl hl.1 rfl (lv_room (Nat.le_of_ble_eq_true rfl)) dX0_price_6 ⟨Nat.le_of_ble_eq_true rfl, Nat.le_of_ble_eq_true rfl⟩)
