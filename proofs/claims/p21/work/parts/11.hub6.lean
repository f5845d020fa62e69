set_option maxHeartbeats 4000000 in
set_option maxRecDepth 100000 in
theorem kX0_checkGoodX (l : Launch) (D : va_G) (h : Nat) (ad : Nat → Nat) (cI cZ : ClassId) (ex : Nat → Bool) (pa : Nat → Option Nat) (di : Nat → Nat) (qu : Nat → Nat) (gc : Nat) (dg : Nat → Nat) (dp : Nat → Nat) (dv : Nat → Option Nat) (dd : Nat → Nat) (ds : Nat → Nat) (dc : Nat) (td : Nat) (ho : Nat → Option Nat) (ak : Nat → Bool) (se : Nat → Option Nat) (pr : Nat → Option Nat) (hlf : l.stackTraces = false) (g : Int32) (hg : gBad ex g) : vx_Met l yX0_checkGood wsX0_checkGood ({ frames := 6, cells := 1, slots := 6, locals := 82 } : Room) (tP D (hW h ad cI cZ ex pa di qu gc dg dp dv dd ds dc td ho ak se pr) (hT cI cZ) [.ref h, .int g]) nQ (tX "java/lang/IndexOutOfBoundsException") 1 6 nF := by
  refine vx_ofW (cc := cX0_checkGood) (maxL := 2) (ret := none) (by decide) rfl ?_
  intro p e s m args below meth c s₁ B hml hexc hv
  obtain ⟨rfl, hP, hK, hE⟩ := hv
  have hx := B.exec
  have hb := B.bytes
  have hr := B.returns
  have hts := atoms_spec (ws := wsX0_checkGood) B.pre
  have hown : s.vm.findClass RX0 = some m.cls := findClass_of_methodNamed B.named
  have hlocks := B.notSynchronized
  have hl := lv_entry ([.ref h, .int g]) (n := 2) (Nat.le_of_ble_eq_true rfl)
  rw [lg_entry_eq]
  generalize (lg_sl ([.ref h, .int g]) ++ List.replicate (2 - (lg_sl ([.ref h, .int g])).length) Slot.unset).toArray = ls at hl ⊢
  have hl : lv_has ls 2 [(0, .ref h), (1, .int g)] := hl
  rcases gBad_c hg with hg | ⟨j, hj, rfl, he⟩
  · refine lv_aload_n hx hb dX0_checkGood_0 rfl (lv_at hl 0 rfl) ?_
    refine lv_iload_n hx hb dX0_checkGood_1 rfl (lv_at hl 1 rfl) ?_
    refine q_callI (r := bI false) (va_runV (As := [.int g]) (rest := []) ⟨hx, hb, hml, hown, hts⟩ (kX0_isGoodR l D h ad cI cZ ex pa di qu gc dg dp dv dd ds dc td ho ak se pr g hg) (cwV 1 hts gX0_checkGood_X0_isGood rfl rfl rfl (by decide +kernel) ⟨Nat.le_of_ble_eq_true rfl, Nat.le_of_ble_eq_true rfl⟩) ⟨pP_blind, va_recv hK hP (ci := 0) (q0 := 0) rfl rfl, pP_pre hP hK⟩ rfl rfl hl.1 rfl (lv_room (Nat.le_of_ble_eq_true rfl)) dX0_checkGood_2 ⟨Nat.zero_le _, Nat.zero_le _⟩) ?_
    refine q_ifB_ne (b := false) (tgt := 18) hx hb dX0_checkGood_5 (by decide) (fun k5 => absurd k5 (by decide)) (fun k5 => ?_)
    obtain ⟨sa, hstr⟩ := hE.2.2.1 (124, "no such good") (by decide +kernel)
    exact vy_throwS (is := 124) (text := "no such good") (names := ["java/lang/RuntimeException", "java/lang/Exception"]) (A := nF) hx hb hlf hown (by decide +kernel) (by decide +kernel) (hts (.classLink RX0 122 "java/lang/IndexOutOfBoundsException") (by decide +kernel)) (hts (.initialized "java/lang/IndexOutOfBoundsException") (by decide +kernel)) hstr (vx_hat (B := tB "java/lang/IndexOutOfBoundsException") (fun w hw => hts w (thI_checkGood w hw)) (by decide +kernel) (tE_B hE (by decide))) (by decide +kernel) hE.1 hE.2.1 va_S.rf (hl.1.trans hml.symm) dX0_checkGood_8 dX0_checkGood_11 dX0_checkGood_12 dX0_checkGood_14 dX0_checkGood_17 (fun z hz => (hexc z hz).elim) (Nat.le_of_ble_eq_true rfl) (Nat.le_of_ble_eq_true rfl) (Nat.le_of_ble_eq_true rfl) (Nat.le_of_ble_eq_true rfl) hlocks (fun t ht h1 h2 => ⟨rfl, h1, h2⟩) (fun z hz => by cases hz) (Nat.le_refl 1) (Nat.le_refl 6)
  · refine lv_aload_n hx hb dX0_checkGood_0 rfl (lv_at hl 0 rfl) ?_
    refine lv_iload_n hx hb dX0_checkGood_1 rfl (lv_at hl 1 rfl) ?_
    refine q_callI (r := bI (ex j)) (va_runV (As := [.int (nI j)]) (rest := []) ⟨hx, hb, hml, hown, hts⟩ (kX0_isGoodN l D h ad cI cZ ex pa di qu gc dg dp dv dd ds dc td ho ak se pr j hj) (cwV 1 hts gX0_checkGood_X0_isGood rfl rfl rfl (by decide +kernel) ⟨Nat.le_of_ble_eq_true rfl, Nat.le_of_ble_eq_true rfl⟩) ⟨pP_blind, va_recv hK hP (ci := 0) (q0 := 0) rfl rfl, pP_pre hP hK⟩ rfl rfl hl.1 rfl (lv_room (Nat.le_of_ble_eq_true rfl)) dX0_checkGood_2 ⟨Nat.zero_le _, Nat.zero_le _⟩) ?_
    refine q_ifB_ne (b := ex j) (tgt := 18) hx hb dX0_checkGood_5 (by decide) (fun k5 => absurd k5 (by rw [he]; decide)) (fun k5 => ?_)
    obtain ⟨sa, hstr⟩ := hE.2.2.1 (124, "no such good") (by decide +kernel)
    exact vy_throwS (is := 124) (text := "no such good") (names := ["java/lang/RuntimeException", "java/lang/Exception"]) (A := nF) hx hb hlf hown (by decide +kernel) (by decide +kernel) (hts (.classLink RX0 122 "java/lang/IndexOutOfBoundsException") (by decide +kernel)) (hts (.initialized "java/lang/IndexOutOfBoundsException") (by decide +kernel)) hstr (vx_hat (B := tB "java/lang/IndexOutOfBoundsException") (fun w hw => hts w (thI_checkGood w hw)) (by decide +kernel) (tE_B hE (by decide))) (by decide +kernel) hE.1 hE.2.1 va_S.rf (hl.1.trans hml.symm) dX0_checkGood_8 dX0_checkGood_11 dX0_checkGood_12 dX0_checkGood_14 dX0_checkGood_17 (fun z hz => (hexc z hz).elim) (Nat.le_of_ble_eq_true rfl) (Nat.le_of_ble_eq_true rfl) (Nat.le_of_ble_eq_true rfl) (Nat.le_of_ble_eq_true rfl) hlocks (fun t ht h1 h2 => ⟨rfl, h1, h2⟩) (fun z hz => by cases hz) (Nat.le_refl 1) (Nat.le_refl 6)

set_option maxHeartbeats 4000000 in
set_option maxRecDepth 100000 in
theorem kX0_checkAttributeX (l : Launch) (hlf : l.stackTraces = false) (a : Int32) (ha : aBad 6 a) : vx_Met l yX0_checkAttribute wsX0_checkAttribute ({ frames := 6, cells := 1, slots := 6, locals := 82 } : Room) (tPS [.int a]) nQ (tX "java/lang/IndexOutOfBoundsException") 1 6 nF := by
  refine vx_ofW (cc := cX0_checkAttribute) (maxL := 1) (ret := none) (by decide) rfl ?_
  intro p e s m args below meth c s₁ B hml hexc hv
  obtain ⟨rfl, hE⟩ := hv
  have hx := B.exec
  have hb := B.bytes
  have hr := B.returns
  have hts := atoms_spec (ws := wsX0_checkAttribute) B.pre
  have hown : s.vm.findClass RX0 = some m.cls := findClass_of_methodNamed B.named
  have hlocks := B.notSynchronized
  have hl := lv_entry ([.int a]) (n := 1) (Nat.le_of_ble_eq_true rfl)
  rw [lg_entry_eq]
  generalize (lg_sl ([.int a]) ++ List.replicate (1 - (lg_sl ([.int a])).length) Slot.unset).toArray = ls at hl ⊢
  have hl : lv_has ls 1 [(0, .int a)] := hl
  refine lv_iload_n hx hb dX0_checkAttribute_0 rfl (lv_at hl 0 rfl) ?_
  refine lv_if_lt (tgt := 10) hx hb dX0_checkAttribute_1 (by decide) (fun k1 => ?_) (fun k1 => ?_)
  · obtain ⟨sa, hstr⟩ := hE.2.2.1 (199, "no such attribute") (by decide +kernel)
    exact vy_throwS (is := 199) (text := "no such attribute") (names := ["java/lang/RuntimeException", "java/lang/Exception"]) (A := nF) hx hb hlf hown (by decide +kernel) (by decide +kernel) (hts (.classLink RX0 122 "java/lang/IndexOutOfBoundsException") (by decide +kernel)) (hts (.initialized "java/lang/IndexOutOfBoundsException") (by decide +kernel)) hstr (vx_hat (B := tB "java/lang/IndexOutOfBoundsException") (fun w hw => hts w (thI_checkAttribute w hw)) (by decide +kernel) (tE_B hE (by decide))) (by decide +kernel) hE.1 hE.2.1 va_S.rf (hl.1.trans hml.symm) dX0_checkAttribute_10 dX0_checkAttribute_13 dX0_checkAttribute_14 dX0_checkAttribute_16 dX0_checkAttribute_19 (fun z hz => (hexc z hz).elim) (Nat.le_of_ble_eq_true rfl) (Nat.le_of_ble_eq_true rfl) (Nat.le_of_ble_eq_true rfl) (Nat.le_of_ble_eq_true rfl) hlocks (fun t ht h1 h2 => ⟨rfl, h1, h2⟩) (fun z hz => by cases hz) (Nat.le_refl 1) (Nat.le_refl 6)
  · refine lv_iload_n hx hb dX0_checkAttribute_4 rfl (lv_at hl 0 rfl) ?_
    refine lv_bipush (v := nI 6) hx hb dX0_checkAttribute_5 (by decide) ?_
    refine lv_icmp_lt (tgt := 20) hx hb dX0_checkAttribute_7 (by decide) (fun k7 => absurd k7 (Int32.not_lt.mpr (ha.resolve_left k1))) (fun k7 => ?_)
    obtain ⟨sa, hstr⟩ := hE.2.2.1 (199, "no such attribute") (by decide +kernel)
    exact vy_throwS (is := 199) (text := "no such attribute") (names := ["java/lang/RuntimeException", "java/lang/Exception"]) (A := nF) hx hb hlf hown (by decide +kernel) (by decide +kernel) (hts (.classLink RX0 122 "java/lang/IndexOutOfBoundsException") (by decide +kernel)) (hts (.initialized "java/lang/IndexOutOfBoundsException") (by decide +kernel)) hstr (vx_hat (B := tB "java/lang/IndexOutOfBoundsException") (fun w hw => hts w (thI_checkAttribute w hw)) (by decide +kernel) (tE_B hE (by decide))) (by decide +kernel) hE.1 hE.2.1 va_S.rf (hl.1.trans hml.symm) dX0_checkAttribute_10 dX0_checkAttribute_13 dX0_checkAttribute_14 dX0_checkAttribute_16 dX0_checkAttribute_19 (fun z hz => (hexc z hz).elim) (Nat.le_of_ble_eq_true rfl) (Nat.le_of_ble_eq_true rfl) (Nat.le_of_ble_eq_true rfl) (Nat.le_of_ble_eq_true rfl) hlocks (fun t ht h1 h2 => ⟨rfl, h1, h2⟩) (fun z hz => by cases hz) (Nat.le_refl 1) (Nat.le_refl 6)

set_option maxHeartbeats 4000000 in
set_option maxRecDepth 100000 in
theorem kX0_checkShopX (l : Launch) (hlf : l.stackTraces = false) (a : Int32) (ha : aBad 3 a) : vx_Met l yX0_checkShop wsX0_checkShop ({ frames := 6, cells := 1, slots := 6, locals := 82 } : Room) (tPS [.int a]) nQ (tX "java/lang/IndexOutOfBoundsException") 1 6 nF := by
  refine vx_ofW (cc := cX0_checkShop) (maxL := 1) (ret := none) (by decide) rfl ?_
  intro p e s m args below meth c s₁ B hml hexc hv
  obtain ⟨rfl, hE⟩ := hv
  have hx := B.exec
  have hb := B.bytes
  have hr := B.returns
  have hts := atoms_spec (ws := wsX0_checkShop) B.pre
  have hown : s.vm.findClass RX0 = some m.cls := findClass_of_methodNamed B.named
  have hlocks := B.notSynchronized
  have hl := lv_entry ([.int a]) (n := 1) (Nat.le_of_ble_eq_true rfl)
  rw [lg_entry_eq]
  generalize (lg_sl ([.int a]) ++ List.replicate (1 - (lg_sl ([.int a])).length) Slot.unset).toArray = ls at hl ⊢
  have hl : lv_has ls 1 [(0, .int a)] := hl
  refine lv_iload_n hx hb dX0_checkShop_0 rfl (lv_at hl 0 rfl) ?_
  refine lv_if_lt (tgt := 9) hx hb dX0_checkShop_1 (by decide) (fun k1 => ?_) (fun k1 => ?_)
  · obtain ⟨sa, hstr⟩ := hE.2.2.1 (201, "no such shop") (by decide +kernel)
    exact vy_throwS (is := 201) (text := "no such shop") (names := ["java/lang/RuntimeException", "java/lang/Exception"]) (A := nF) hx hb hlf hown (by decide +kernel) (by decide +kernel) (hts (.classLink RX0 122 "java/lang/IndexOutOfBoundsException") (by decide +kernel)) (hts (.initialized "java/lang/IndexOutOfBoundsException") (by decide +kernel)) hstr (vx_hat (B := tB "java/lang/IndexOutOfBoundsException") (fun w hw => hts w (thI_checkShop w hw)) (by decide +kernel) (tE_B hE (by decide))) (by decide +kernel) hE.1 hE.2.1 va_S.rf (hl.1.trans hml.symm) dX0_checkShop_9 dX0_checkShop_12 dX0_checkShop_13 dX0_checkShop_15 dX0_checkShop_18 (fun z hz => (hexc z hz).elim) (Nat.le_of_ble_eq_true rfl) (Nat.le_of_ble_eq_true rfl) (Nat.le_of_ble_eq_true rfl) (Nat.le_of_ble_eq_true rfl) hlocks (fun t ht h1 h2 => ⟨rfl, h1, h2⟩) (fun z hz => by cases hz) (Nat.le_refl 1) (Nat.le_refl 6)
  · refine lv_iload_n hx hb dX0_checkShop_4 rfl (lv_at hl 0 rfl) ?_
    refine lv_iconst (v := nI 3) hx hb dX0_checkShop_5 (by decide) ?_
    refine lv_icmp_lt (tgt := 19) hx hb dX0_checkShop_6 (by decide) (fun k6 => absurd k6 (Int32.not_lt.mpr (ha.resolve_left k1))) (fun k6 => ?_)
    obtain ⟨sa, hstr⟩ := hE.2.2.1 (201, "no such shop") (by decide +kernel)
    exact vy_throwS (is := 201) (text := "no such shop") (names := ["java/lang/RuntimeException", "java/lang/Exception"]) (A := nF) hx hb hlf hown (by decide +kernel) (by decide +kernel) (hts (.classLink RX0 122 "java/lang/IndexOutOfBoundsException") (by decide +kernel)) (hts (.initialized "java/lang/IndexOutOfBoundsException") (by decide +kernel)) hstr (vx_hat (B := tB "java/lang/IndexOutOfBoundsException") (fun w hw => hts w (thI_checkShop w hw)) (by decide +kernel) (tE_B hE (by decide))) (by decide +kernel) hE.1 hE.2.1 va_S.rf (hl.1.trans hml.symm) dX0_checkShop_9 dX0_checkShop_12 dX0_checkShop_13 dX0_checkShop_15 dX0_checkShop_18 (fun z hz => (hexc z hz).elim) (Nat.le_of_ble_eq_true rfl) (Nat.le_of_ble_eq_true rfl) (Nat.le_of_ble_eq_true rfl) (Nat.le_of_ble_eq_true rfl) hlocks (fun t ht h1 h2 => ⟨rfl, h1, h2⟩) (fun z hz => by cases hz) (Nat.le_refl 1) (Nat.le_refl 6)

set_option maxHeartbeats 4000000 in
set_option maxRecDepth 100000 in
theorem kX0_checkTongueX (l : Launch) (hlf : l.stackTraces = false) (a : Int32) (ha : aBad 3 a) : vx_Met l yX0_checkTongue wsX0_checkTongue ({ frames := 6, cells := 1, slots := 6, locals := 82 } : Room) (tPS [.int a]) nQ (tX "java/lang/IndexOutOfBoundsException") 1 6 nF := by
  refine vx_ofW (cc := cX0_checkTongue) (maxL := 1) (ret := none) (by decide) rfl ?_
  intro p e s m args below meth c s₁ B hml hexc hv
  obtain ⟨rfl, hE⟩ := hv
  have hx := B.exec
  have hb := B.bytes
  have hr := B.returns
  have hts := atoms_spec (ws := wsX0_checkTongue) B.pre
  have hown : s.vm.findClass RX0 = some m.cls := findClass_of_methodNamed B.named
  have hlocks := B.notSynchronized
  have hl := lv_entry ([.int a]) (n := 1) (Nat.le_of_ble_eq_true rfl)
  rw [lg_entry_eq]
  generalize (lg_sl ([.int a]) ++ List.replicate (1 - (lg_sl ([.int a])).length) Slot.unset).toArray = ls at hl ⊢
  have hl : lv_has ls 1 [(0, .int a)] := hl
  refine lv_iload_n hx hb dX0_checkTongue_0 rfl (lv_at hl 0 rfl) ?_
  refine lv_if_lt (tgt := 9) hx hb dX0_checkTongue_1 (by decide) (fun k1 => ?_) (fun k1 => ?_)
  · obtain ⟨sa, hstr⟩ := hE.2.2.1 (203, "no such tongue") (by decide +kernel)
    exact vy_throwS (is := 203) (text := "no such tongue") (names := ["java/lang/RuntimeException", "java/lang/Exception"]) (A := nF) hx hb hlf hown (by decide +kernel) (by decide +kernel) (hts (.classLink RX0 122 "java/lang/IndexOutOfBoundsException") (by decide +kernel)) (hts (.initialized "java/lang/IndexOutOfBoundsException") (by decide +kernel)) hstr (vx_hat (B := tB "java/lang/IndexOutOfBoundsException") (fun w hw => hts w (thI_checkTongue w hw)) (by decide +kernel) (tE_B hE (by decide))) (by decide +kernel) hE.1 hE.2.1 va_S.rf (hl.1.trans hml.symm) dX0_checkTongue_9 dX0_checkTongue_12 dX0_checkTongue_13 dX0_checkTongue_15 dX0_checkTongue_18 (fun z hz => (hexc z hz).elim) (Nat.le_of_ble_eq_true rfl) (Nat.le_of_ble_eq_true rfl) (Nat.le_of_ble_eq_true rfl) (Nat.le_of_ble_eq_true rfl) hlocks (fun t ht h1 h2 => ⟨rfl, h1, h2⟩) (fun z hz => by cases hz) (Nat.le_refl 1) (Nat.le_refl 6)
  · refine lv_iload_n hx hb dX0_checkTongue_4 rfl (lv_at hl 0 rfl) ?_
    refine lv_iconst (v := nI 3) hx hb dX0_checkTongue_5 (by decide) ?_
    refine lv_icmp_lt (tgt := 19) hx hb dX0_checkTongue_6 (by decide) (fun k6 => absurd k6 (Int32.not_lt.mpr (ha.resolve_left k1))) (fun k6 => ?_)
    obtain ⟨sa, hstr⟩ := hE.2.2.1 (203, "no such tongue") (by decide +kernel)
    exact vy_throwS (is := 203) (text := "no such tongue") (names := ["java/lang/RuntimeException", "java/lang/Exception"]) (A := nF) hx hb hlf hown (by decide +kernel) (by decide +kernel) (hts (.classLink RX0 122 "java/lang/IndexOutOfBoundsException") (by decide +kernel)) (hts (.initialized "java/lang/IndexOutOfBoundsException") (by decide +kernel)) hstr (vx_hat (B := tB "java/lang/IndexOutOfBoundsException") (fun w hw => hts w (thI_checkTongue w hw)) (by decide +kernel) (tE_B hE (by decide))) (by decide +kernel) hE.1 hE.2.1 va_S.rf (hl.1.trans hml.symm) dX0_checkTongue_9 dX0_checkTongue_12 dX0_checkTongue_13 dX0_checkTongue_15 dX0_checkTongue_18 (fun z hz => (hexc z hz).elim) (Nat.le_of_ble_eq_true rfl) (Nat.le_of_ble_eq_true rfl) (Nat.le_of_ble_eq_true rfl) (Nat.le_of_ble_eq_true rfl) hlocks (fun t ht h1 h2 => ⟨rfl, h1, h2⟩) (fun z hz => by cases hz) (Nat.le_refl 1) (Nat.le_refl 6)

set_option maxHeartbeats 4000000 in
set_option maxRecDepth 100000 in
theorem kX0_checkSightX (l : Launch) (D : va_G) (h : Nat) (ad : Nat → Nat) (cI cZ : ClassId) (ex : Nat → Bool) (pa : Nat → Option Nat) (di : Nat → Nat) (qu : Nat → Nat) (gc : Nat) (dg : Nat → Nat) (dp : Nat → Nat) (dv : Nat → Option Nat) (dd : Nat → Nat) (ds : Nat → Nat) (dc : Nat) (td : Nat) (ho : Nat → Option Nat) (ak : Nat → Bool) (se : Nat → Option Nat) (pr : Nat → Option Nat) (hlf : l.stackTraces = false) (g a x y : Int32) (hs : (gBad ex g ∨ ∃ j, j < 16 ∧ g = nI j ∧ ex j = true ∧ (aBad 6 a ∨ ∃ a2, a2 < 6 ∧ a = nI a2 ∧ (aBad 3 x ∨ ∃ x2, x2 < 3 ∧ x = nI x2 ∧ aBad 3 y)))) : vx_Met l yX0_checkSight wsX0_checkSight ({ frames := 7, cells := 1, slots := 6, locals := 103 } : Room) (tP D (hW h ad cI cZ ex pa di qu gc dg dp dv dd ds dc td ho ak se pr) (hT cI cZ) [.ref h, .int g, .int a, .int x, .int y]) nQ (tX "java/lang/IndexOutOfBoundsException") 1 6 nF := by
  refine vx_ofW (cc := cX0_checkSight) (maxL := 5) (ret := none) (by decide) rfl ?_
  intro p e s m args below meth c s₁ B hml hexc hv
  obtain ⟨rfl, hP, hK, hE⟩ := hv
  have hx := B.exec
  have hb := B.bytes
  have hr := B.returns
  have hts := atoms_spec (ws := wsX0_checkSight) B.pre
  have hown : s.vm.findClass RX0 = some m.cls := findClass_of_methodNamed B.named
  have hlocks := B.notSynchronized
  have hl := lv_entry ([.ref h, .int g, .int a, .int x, .int y]) (n := 5) (Nat.le_of_ble_eq_true rfl)
  rw [lg_entry_eq]
  generalize (lg_sl ([.ref h, .int g, .int a, .int x, .int y]) ++ List.replicate (5 - (lg_sl ([.ref h, .int g, .int a, .int x, .int y])).length) Slot.unset).toArray = ls at hl ⊢
  have hl : lv_has ls 5 [(0, .ref h), (1, .int g), (2, .int a), (3, .int x), (4, .int y)] := hl
  rcases hs with hs | ⟨j, hj, rfl, he, hs⟩
  · refine lv_aload_n hx hb dX0_checkSight_0 rfl (lv_at hl 0 rfl) ?_
    refine lv_iload_n hx hb dX0_checkSight_1 rfl (lv_at hl 1 rfl) ?_
    exact q_callT hlocks hexc (vx_runV (As := [.int g]) (rest := []) ⟨hx, hb, hml, hown, hts⟩ (kX0_checkGoodX l D h ad cI cZ ex pa di qu gc dg dp dv dd ds dc td ho ak se pr hlf g hs) (cwV 1 hts gX0_checkSight_X0_checkGood rfl rfl rfl (by decide +kernel) ⟨Nat.le_of_ble_eq_true rfl, Nat.le_of_ble_eq_true rfl⟩) ⟨tP_blind, va_recv hK hP (ci := 0) (q0 := 0) rfl rfl, tP_pre hP hK hE⟩ rfl rfl hl.1 rfl (lv_room (Nat.le_of_ble_eq_true rfl)) dX0_checkSight_2 ⟨Nat.le_of_ble_eq_true rfl, Nat.le_of_ble_eq_true rfl⟩)
  · refine lv_aload_n hx hb dX0_checkSight_0 rfl (lv_at hl 0 rfl) ?_
    refine lv_iload_n hx hb dX0_checkSight_1 rfl (lv_at hl 1 rfl) ?_
    refine q_callV (va_runV (As := [.int (nI j)]) (rest := []) ⟨hx, hb, hml, hown, hts⟩ (kX0_checkGood l D h ad cI cZ ex pa di qu gc dg dp dv dd ds dc td ho ak se pr j hj he) (cwV 1 hts gX0_checkSight_X0_checkGood rfl rfl rfl (by decide +kernel) ⟨Nat.le_of_ble_eq_true rfl, Nat.le_of_ble_eq_true rfl⟩) ⟨pP_blind, va_recv hK hP (ci := 0) (q0 := 0) rfl rfl, pP_pre hP hK⟩ rfl rfl hl.1 rfl (lv_room (Nat.le_of_ble_eq_true rfl)) dX0_checkSight_2 ⟨Nat.zero_le _, Nat.zero_le _⟩) ?_
    rcases hs with hs | ⟨a2, ha, rfl, hs⟩
    · refine lv_iload_n hx hb dX0_checkSight_5 rfl (lv_at hl 2 rfl) ?_
      exact q_callT hlocks hexc (vx_runS (As := [.int a]) (rest := []) ⟨hx, hb, hml, hown, hts⟩ (kX0_checkAttributeX l hlf a hs) (cwS 1 hts gX0_checkSight_X0_checkAttribute rfl rfl rfl (by decide +kernel) ⟨Nat.le_of_ble_eq_true rfl, Nat.le_of_ble_eq_true rfl⟩) ⟨tPS_blind, tPS_pre hE⟩ rfl rfl hl.1 rfl (lv_room (Nat.le_of_ble_eq_true rfl)) dX0_checkSight_6 ⟨Nat.le_of_ble_eq_true rfl, Nat.le_of_ble_eq_true rfl⟩)
    · refine lv_iload_n hx hb dX0_checkSight_5 rfl (lv_at hl 2 rfl) ?_
      refine q_callV (va_runS (As := [.int (nI a2)]) (rest := []) ⟨hx, hb, hml, hown, hts⟩ (kX0_checkAttribute l a2 ha) (cwS 1 hts gX0_checkSight_X0_checkAttribute rfl rfl rfl (by decide +kernel) ⟨Nat.le_of_ble_eq_true rfl, Nat.le_of_ble_eq_true rfl⟩) ⟨sP_blind, sP_pre⟩ rfl rfl hl.1 rfl (lv_room (Nat.le_of_ble_eq_true rfl)) dX0_checkSight_6 ⟨Nat.zero_le _, Nat.zero_le _⟩) ?_
      rcases hs with hs | ⟨x2, hx2, rfl, hs⟩
      · refine lv_iload_n hx hb dX0_checkSight_9 rfl (lv_at hl 3 rfl) ?_
        exact q_callT hlocks hexc (vx_runS (As := [.int x]) (rest := []) ⟨hx, hb, hml, hown, hts⟩ (kX0_checkShopX l hlf x hs) (cwS 1 hts gX0_checkSight_X0_checkShop rfl rfl rfl (by decide +kernel) ⟨Nat.le_of_ble_eq_true rfl, Nat.le_of_ble_eq_true rfl⟩) ⟨tPS_blind, tPS_pre hE⟩ rfl rfl hl.1 rfl (lv_room (Nat.le_of_ble_eq_true rfl)) dX0_checkSight_10 ⟨Nat.le_of_ble_eq_true rfl, Nat.le_of_ble_eq_true rfl⟩)
      · refine lv_iload_n hx hb dX0_checkSight_9 rfl (lv_at hl 3 rfl) ?_
        refine q_callV (va_runS (As := [.int (nI x2)]) (rest := []) ⟨hx, hb, hml, hown, hts⟩ (kX0_checkShop l x2 hx2) (cwS 1 hts gX0_checkSight_X0_checkShop rfl rfl rfl (by decide +kernel) ⟨Nat.le_of_ble_eq_true rfl, Nat.le_of_ble_eq_true rfl⟩) ⟨sP_blind, sP_pre⟩ rfl rfl hl.1 rfl (lv_room (Nat.le_of_ble_eq_true rfl)) dX0_checkSight_10 ⟨Nat.zero_le _, Nat.zero_le _⟩) ?_
        refine lv_iload hx hb dX0_checkSight_13 (lv_at hl 4 rfl) ?_
        exact q_callT hlocks hexc (vx_runS (As := [.int y]) (rest := []) ⟨hx, hb, hml, hown, hts⟩ (kX0_checkTongueX l hlf y hs) (cwS 1 hts gX0_checkSight_X0_checkTongue rfl rfl rfl (by decide +kernel) ⟨Nat.le_of_ble_eq_true rfl, Nat.le_of_ble_eq_true rfl⟩) ⟨tPS_blind, tPS_pre hE⟩ rfl rfl hl.1 rfl (lv_room (Nat.le_of_ble_eq_true rfl)) dX0_checkSight_15 ⟨Nat.le_of_ble_eq_true rfl, Nat.le_of_ble_eq_true rfl⟩)

set_option maxHeartbeats 4000000 in
set_option maxRecDepth 100000 in
theorem kX0_valueXI (l : Launch) (D : va_G) (h : Nat) (ad : Nat → Nat) (cI cZ : ClassId) (ex : Nat → Bool) (pa : Nat → Option Nat) (di : Nat → Nat) (qu : Nat → Nat) (gc : Nat) (dg : Nat → Nat) (dp : Nat → Nat) (dv : Nat → Option Nat) (dd : Nat → Nat) (ds : Nat → Nat) (dc : Nat) (td : Nat) (ho : Nat → Option Nat) (ak : Nat → Bool) (se : Nat → Option Nat) (pr : Nat → Option Nat) (hlf : l.stackTraces = false) (g a x y : Int32) (hs : (gBad ex g ∨ ∃ j, j < 16 ∧ g = nI j ∧ ex j = true ∧ (aBad 6 a ∨ ∃ a2, a2 < 6 ∧ a = nI a2 ∧ (aBad 3 x ∨ ∃ x2, x2 < 3 ∧ x = nI x2 ∧ aBad 3 y)))) : vx_Met l yX0_value wsX0_value ({ frames := 8, cells := 1, slots := 6, locals := 127 } : Room) (tP D (hW h ad cI cZ ex pa di qu gc dg dp dv dd ds dc td ho ak se pr) (hT cI cZ) [.ref h, .int g, .int a, .int x, .int y]) nQ (tX "java/lang/IndexOutOfBoundsException") 1 6 nF := by
  refine vx_ofW (cc := cX0_value) (maxL := 6) (ret := (some .int)) (by decide) rfl ?_
  intro p e s m args below meth c s₁ B hml hexc hv
  obtain ⟨rfl, hP, hK, hE⟩ := hv
  have hx := B.exec
  have hb := B.bytes
  have hr := B.returns
  have hts := atoms_spec (ws := wsX0_value) B.pre
  have hown : s.vm.findClass RX0 = some m.cls := findClass_of_methodNamed B.named
  have hlocks := B.notSynchronized
  have hl := lv_entry ([.ref h, .int g, .int a, .int x, .int y]) (n := 6) (Nat.le_of_ble_eq_true rfl)
  rw [lg_entry_eq]
  generalize (lg_sl ([.ref h, .int g, .int a, .int x, .int y]) ++ List.replicate (6 - (lg_sl ([.ref h, .int g, .int a, .int x, .int y])).length) Slot.unset).toArray = ls at hl ⊢
  have hl : lv_has ls 6 [(0, .ref h), (1, .int g), (2, .int a), (3, .int x), (4, .int y)] := hl
  refine lv_aload_n hx hb dX0_value_0 rfl (lv_at hl 0 rfl) ?_
  refine lv_iload_n hx hb dX0_value_1 rfl (lv_at hl 1 rfl) ?_
  refine lv_iload_n hx hb dX0_value_2 rfl (lv_at hl 2 rfl) ?_
  refine lv_iload_n hx hb dX0_value_3 rfl (lv_at hl 3 rfl) ?_
  refine lv_iload hx hb dX0_value_4 (lv_at hl 4 rfl) ?_
  exact q_callT hlocks hexc (vx_runV (As := [.int g, .int a, .int x, .int y]) (rest := []) ⟨hx, hb, hml, hown, hts⟩ (kX0_checkSightX l D h ad cI cZ ex pa di qu gc dg dp dv dd ds dc td ho ak se pr hlf g a x y hs) (cwV 4 hts gX0_value_X0_checkSight rfl rfl rfl (by decide +kernel) ⟨Nat.le_of_ble_eq_true rfl, Nat.le_of_ble_eq_true rfl⟩) ⟨tP_blind, va_recv hK hP (ci := 0) (q0 := 0) rfl rfl, tP_pre hP hK hE⟩ rfl rfl hl.1 rfl (lv_room (Nat.le_of_ble_eq_true rfl)) dX0_value_6 ⟨Nat.le_of_ble_eq_true rfl, Nat.le_of_ble_eq_true rfl⟩)

set_option maxHeartbeats 4000000 in
set_option maxRecDepth 100000 in
theorem kX0_originXI (l : Launch) (D : va_G) (h : Nat) (ad : Nat → Nat) (cI cZ : ClassId) (ex : Nat → Bool) (pa : Nat → Option Nat) (di : Nat → Nat) (qu : Nat → Nat) (gc : Nat) (dg : Nat → Nat) (dp : Nat → Nat) (dv : Nat → Option Nat) (dd : Nat → Nat) (ds : Nat → Nat) (dc : Nat) (td : Nat) (ho : Nat → Option Nat) (ak : Nat → Bool) (se : Nat → Option Nat) (pr : Nat → Option Nat) (hlf : l.stackTraces = false) (g a x y : Int32) (hs : (gBad ex g ∨ ∃ j, j < 16 ∧ g = nI j ∧ ex j = true ∧ (aBad 6 a ∨ ∃ a2, a2 < 6 ∧ a = nI a2 ∧ (aBad 3 x ∨ ∃ x2, x2 < 3 ∧ x = nI x2 ∧ aBad 3 y)))) : vx_Met l yX0_origin wsX0_origin ({ frames := 8, cells := 1, slots := 6, locals := 127 } : Room) (tP D (hW h ad cI cZ ex pa di qu gc dg dp dv dd ds dc td ho ak se pr) (hT cI cZ) [.ref h, .int g, .int a, .int x, .int y]) nQ (tX "java/lang/IndexOutOfBoundsException") 1 6 nF := by
  refine vx_ofW (cc := cX0_origin) (maxL := 5) (ret := (some .int)) (by decide) rfl ?_
  intro p e s m args below meth c s₁ B hml hexc hv
  obtain ⟨rfl, hP, hK, hE⟩ := hv
  have hx := B.exec
  have hb := B.bytes
  have hr := B.returns
  have hts := atoms_spec (ws := wsX0_origin) B.pre
  have hown : s.vm.findClass RX0 = some m.cls := findClass_of_methodNamed B.named
  have hlocks := B.notSynchronized
  have hl := lv_entry ([.ref h, .int g, .int a, .int x, .int y]) (n := 5) (Nat.le_of_ble_eq_true rfl)
  rw [lg_entry_eq]
  generalize (lg_sl ([.ref h, .int g, .int a, .int x, .int y]) ++ List.replicate (5 - (lg_sl ([.ref h, .int g, .int a, .int x, .int y])).length) Slot.unset).toArray = ls at hl ⊢
  have hl : lv_has ls 5 [(0, .ref h), (1, .int g), (2, .int a), (3, .int x), (4, .int y)] := hl
  refine lv_aload_n hx hb dX0_origin_0 rfl (lv_at hl 0 rfl) ?_
  refine lv_iload_n hx hb dX0_origin_1 rfl (lv_at hl 1 rfl) ?_
  refine lv_iload_n hx hb dX0_origin_2 rfl (lv_at hl 2 rfl) ?_
  refine lv_iload_n hx hb dX0_origin_3 rfl (lv_at hl 3 rfl) ?_
  refine lv_iload hx hb dX0_origin_4 (lv_at hl 4 rfl) ?_
  exact q_callT hlocks hexc (vx_runV (As := [.int g, .int a, .int x, .int y]) (rest := []) ⟨hx, hb, hml, hown, hts⟩ (kX0_checkSightX l D h ad cI cZ ex pa di qu gc dg dp dv dd ds dc td ho ak se pr hlf g a x y hs) (cwV 4 hts gX0_origin_X0_checkSight rfl rfl rfl (by decide +kernel) ⟨Nat.le_of_ble_eq_true rfl, Nat.le_of_ble_eq_true rfl⟩) ⟨tP_blind, va_recv hK hP (ci := 0) (q0 := 0) rfl rfl, tP_pre hP hK hE⟩ rfl rfl hl.1 rfl (lv_room (Nat.le_of_ble_eq_true rfl)) dX0_origin_6 ⟨Nat.le_of_ble_eq_true rfl, Nat.le_of_ble_eq_true rfl⟩)

set_option maxHeartbeats 4000000 in
set_option maxRecDepth 100000 in
theorem kX0_missingXI (l : Launch) (D : va_G) (h : Nat) (ad : Nat → Nat) (cI cZ : ClassId) (ex : Nat → Bool) (pa : Nat → Option Nat) (di : Nat → Nat) (qu : Nat → Nat) (gc : Nat) (dg : Nat → Nat) (dp : Nat → Nat) (dv : Nat → Option Nat) (dd : Nat → Nat) (ds : Nat → Nat) (dc : Nat) (td : Nat) (ho : Nat → Option Nat) (ak : Nat → Bool) (se : Nat → Option Nat) (pr : Nat → Option Nat) (hlf : l.stackTraces = false) (g x y : Int32) (hs : (gBad ex g ∨ ∃ j, j < 16 ∧ g = nI j ∧ ex j = true ∧ (aBad 3 x ∨ ∃ x2, x2 < 3 ∧ x = nI x2 ∧ aBad 3 y))) : vx_Met l yX0_missing wsX0_missing ({ frames := 7, cells := 1, slots := 6, locals := 103 } : Room) (tP D (hW h ad cI cZ ex pa di qu gc dg dp dv dd ds dc td ho ak se pr) (hT cI cZ) [.ref h, .int g, .int x, .int y]) nQ (tX "java/lang/IndexOutOfBoundsException") 1 6 nF := by
  refine vx_ofW (cc := cX0_missing) (maxL := 4) (ret := (some .int)) (by decide) rfl ?_
  intro p e s m args below meth c s₁ B hml hexc hv
  obtain ⟨rfl, hP, hK, hE⟩ := hv
  have hx := B.exec
  have hb := B.bytes
  have hr := B.returns
  have hts := atoms_spec (ws := wsX0_missing) B.pre
  have hown : s.vm.findClass RX0 = some m.cls := findClass_of_methodNamed B.named
  have hlocks := B.notSynchronized
  have hl := lv_entry ([.ref h, .int g, .int x, .int y]) (n := 4) (Nat.le_of_ble_eq_true rfl)
  rw [lg_entry_eq]
  generalize (lg_sl ([.ref h, .int g, .int x, .int y]) ++ List.replicate (4 - (lg_sl ([.ref h, .int g, .int x, .int y])).length) Slot.unset).toArray = ls at hl ⊢
  have hl : lv_has ls 4 [(0, .ref h), (1, .int g), (2, .int x), (3, .int y)] := hl
  rcases hs with hs | ⟨j, hj, rfl, he, hs⟩
  · refine lv_aload_n hx hb dX0_missing_0 rfl (lv_at hl 0 rfl) ?_
    refine lv_iload_n hx hb dX0_missing_1 rfl (lv_at hl 1 rfl) ?_
    exact q_callT hlocks hexc (vx_runV (As := [.int g]) (rest := []) ⟨hx, hb, hml, hown, hts⟩ (kX0_checkGoodX l D h ad cI cZ ex pa di qu gc dg dp dv dd ds dc td ho ak se pr hlf g hs) (cwV 1 hts gX0_missing_X0_checkGood rfl rfl rfl (by decide +kernel) ⟨Nat.le_of_ble_eq_true rfl, Nat.le_of_ble_eq_true rfl⟩) ⟨tP_blind, va_recv hK hP (ci := 0) (q0 := 0) rfl rfl, tP_pre hP hK hE⟩ rfl rfl hl.1 rfl (lv_room (Nat.le_of_ble_eq_true rfl)) dX0_missing_2 ⟨Nat.le_of_ble_eq_true rfl, Nat.le_of_ble_eq_true rfl⟩)
  · refine lv_aload_n hx hb dX0_missing_0 rfl (lv_at hl 0 rfl) ?_
    refine lv_iload_n hx hb dX0_missing_1 rfl (lv_at hl 1 rfl) ?_
    refine q_callV (va_runV (As := [.int (nI j)]) (rest := []) ⟨hx, hb, hml, hown, hts⟩ (kX0_checkGood l D h ad cI cZ ex pa di qu gc dg dp dv dd ds dc td ho ak se pr j hj he) (cwV 1 hts gX0_missing_X0_checkGood rfl rfl rfl (by decide +kernel) ⟨Nat.le_of_ble_eq_true rfl, Nat.le_of_ble_eq_true rfl⟩) ⟨pP_blind, va_recv hK hP (ci := 0) (q0 := 0) rfl rfl, pP_pre hP hK⟩ rfl rfl hl.1 rfl (lv_room (Nat.le_of_ble_eq_true rfl)) dX0_missing_2 ⟨Nat.zero_le _, Nat.zero_le _⟩) ?_
    rcases hs with hs | ⟨x2, hx2, rfl, hs⟩
    · refine lv_iload_n hx hb dX0_missing_5 rfl (lv_at hl 2 rfl) ?_
      exact q_callT hlocks hexc (vx_runS (As := [.int x]) (rest := []) ⟨hx, hb, hml, hown, hts⟩ (kX0_checkShopX l hlf x hs) (cwS 1 hts gX0_missing_X0_checkShop rfl rfl rfl (by decide +kernel) ⟨Nat.le_of_ble_eq_true rfl, Nat.le_of_ble_eq_true rfl⟩) ⟨tPS_blind, tPS_pre hE⟩ rfl rfl hl.1 rfl (lv_room (Nat.le_of_ble_eq_true rfl)) dX0_missing_6 ⟨Nat.le_of_ble_eq_true rfl, Nat.le_of_ble_eq_true rfl⟩)
    · refine lv_iload_n hx hb dX0_missing_5 rfl (lv_at hl 2 rfl) ?_
      refine q_callV (va_runS (As := [.int (nI x2)]) (rest := []) ⟨hx, hb, hml, hown, hts⟩ (kX0_checkShop l x2 hx2) (cwS 1 hts gX0_missing_X0_checkShop rfl rfl rfl (by decide +kernel) ⟨Nat.le_of_ble_eq_true rfl, Nat.le_of_ble_eq_true rfl⟩) ⟨sP_blind, sP_pre⟩ rfl rfl hl.1 rfl (lv_room (Nat.le_of_ble_eq_true rfl)) dX0_missing_6 ⟨Nat.zero_le _, Nat.zero_le _⟩) ?_
      refine lv_iload_n hx hb dX0_missing_9 rfl (lv_at hl 3 rfl) ?_
      exact q_callT hlocks hexc (vx_runS (As := [.int y]) (rest := []) ⟨hx, hb, hml, hown, hts⟩ (kX0_checkTongueX l hlf y hs) (cwS 1 hts gX0_missing_X0_checkTongue rfl rfl rfl (by decide +kernel) ⟨Nat.le_of_ble_eq_true rfl, Nat.le_of_ble_eq_true rfl⟩) ⟨tPS_blind, tPS_pre hE⟩ rfl rfl hl.1 rfl (lv_room (Nat.le_of_ble_eq_true rfl)) dX0_missing_10 ⟨Nat.le_of_ble_eq_true rfl, Nat.le_of_ble_eq_true rfl⟩)

set_option maxHeartbeats 4000000 in
set_option maxRecDepth 100000 in
theorem kX0_completeXI (l : Launch) (D : va_G) (h : Nat) (ad : Nat → Nat) (cI cZ : ClassId) (ex : Nat → Bool) (pa : Nat → Option Nat) (di : Nat → Nat) (qu : Nat → Nat) (gc : Nat) (dg : Nat → Nat) (dp : Nat → Nat) (dv : Nat → Option Nat) (dd : Nat → Nat) (ds : Nat → Nat) (dc : Nat) (td : Nat) (ho : Nat → Option Nat) (ak : Nat → Bool) (se : Nat → Option Nat) (pr : Nat → Option Nat) (hlf : l.stackTraces = false) (x : Int32) (hs : aBad 3 x) : vx_Met l yX0_complete wsX0_complete ({ frames := 7, cells := 1, slots := 6, locals := 102 } : Room) (tP D (hW h ad cI cZ ex pa di qu gc dg dp dv dd ds dc td ho ak se pr) (hT cI cZ) [.ref h, .int x]) nQ (tX "java/lang/IndexOutOfBoundsException") 1 6 nF := by
  refine vx_ofW (cc := cX0_complete) (maxL := 4) (ret := (some .int)) (by decide) rfl ?_
  intro p e s m args below meth c s₁ B hml hexc hv
  obtain ⟨rfl, hP, hK, hE⟩ := hv
  have hx := B.exec
  have hb := B.bytes
  have hr := B.returns
  have hts := atoms_spec (ws := wsX0_complete) B.pre
  have hown : s.vm.findClass RX0 = some m.cls := findClass_of_methodNamed B.named
  have hlocks := B.notSynchronized
  have hl := lv_entry ([.ref h, .int x]) (n := 4) (Nat.le_of_ble_eq_true rfl)
  rw [lg_entry_eq]
  generalize (lg_sl ([.ref h, .int x]) ++ List.replicate (4 - (lg_sl ([.ref h, .int x])).length) Slot.unset).toArray = ls at hl ⊢
  have hl : lv_has ls 4 [(0, .ref h), (1, .int x)] := hl
  refine lv_iload_n hx hb dX0_complete_0 rfl (lv_at hl 1 rfl) ?_
  exact q_callT hlocks hexc (vx_runS (As := [.int x]) (rest := []) ⟨hx, hb, hml, hown, hts⟩ (kX0_checkShopX l hlf x hs) (cwS 1 hts gX0_complete_X0_checkShop rfl rfl rfl (by decide +kernel) ⟨Nat.le_of_ble_eq_true rfl, Nat.le_of_ble_eq_true rfl⟩) ⟨tPS_blind, tPS_pre hE⟩ rfl rfl hl.1 rfl (lv_room (Nat.le_of_ble_eq_true rfl)) dX0_complete_1 ⟨Nat.le_of_ble_eq_true rfl, Nat.le_of_ble_eq_true rfl⟩)

set_option maxHeartbeats 4000000 in
set_option maxRecDepth 100000 in
theorem kX0_changedXI (l : Launch) (D : va_G) (h : Nat) (ad : Nat → Nat) (cI cZ : ClassId) (ex : Nat → Bool) (pa : Nat → Option Nat) (di : Nat → Nat) (qu : Nat → Nat) (gc : Nat) (dg : Nat → Nat) (dp : Nat → Nat) (dv : Nat → Option Nat) (dd : Nat → Nat) (ds : Nat → Nat) (dc : Nat) (td : Nat) (ho : Nat → Option Nat) (ak : Nat → Bool) (se : Nat → Option Nat) (pr : Nat → Option Nat) (hlf : l.stackTraces = false) (x : Int32) (hs : aBad 3 x) : vx_Met l yX0_changed wsX0_changed ({ frames := 7, cells := 1, slots := 6, locals := 102 } : Room) (tP D (hW h ad cI cZ ex pa di qu gc dg dp dv dd ds dc td ho ak se pr) (hT cI cZ) [.ref h, .int x]) nQ (tX "java/lang/IndexOutOfBoundsException") 1 6 nF := by
  refine vx_ofW (cc := cX0_changed) (maxL := 2) (ret := (some .int)) (by decide) rfl ?_
  intro p e s m args below meth c s₁ B hml hexc hv
  obtain ⟨rfl, hP, hK, hE⟩ := hv
  have hx := B.exec
  have hb := B.bytes
  have hr := B.returns
  have hts := atoms_spec (ws := wsX0_changed) B.pre
  have hown : s.vm.findClass RX0 = some m.cls := findClass_of_methodNamed B.named
  have hlocks := B.notSynchronized
  have hl := lv_entry ([.ref h, .int x]) (n := 2) (Nat.le_of_ble_eq_true rfl)
  rw [lg_entry_eq]
  generalize (lg_sl ([.ref h, .int x]) ++ List.replicate (2 - (lg_sl ([.ref h, .int x])).length) Slot.unset).toArray = ls at hl ⊢
  have hl : lv_has ls 2 [(0, .ref h), (1, .int x)] := hl
  refine lv_iload_n hx hb dX0_changed_0 rfl (lv_at hl 1 rfl) ?_
  exact q_callT hlocks hexc (vx_runS (As := [.int x]) (rest := []) ⟨hx, hb, hml, hown, hts⟩ (kX0_checkShopX l hlf x hs) (cwS 1 hts gX0_changed_X0_checkShop rfl rfl rfl (by decide +kernel) ⟨Nat.le_of_ble_eq_true rfl, Nat.le_of_ble_eq_true rfl⟩) ⟨tPS_blind, tPS_pre hE⟩ rfl rfl hl.1 rfl (lv_room (Nat.le_of_ble_eq_true rfl)) dX0_changed_1 ⟨Nat.le_of_ble_eq_true rfl, Nat.le_of_ble_eq_true rfl⟩)

set_option maxHeartbeats 4000000 in
set_option maxRecDepth 100000 in
theorem kX0_feedXI (l : Launch) (D : va_G) (h : Nat) (ad : Nat → Nat) (cI cZ : ClassId) (ex : Nat → Bool) (pa : Nat → Option Nat) (di : Nat → Nat) (qu : Nat → Nat) (gc : Nat) (dg : Nat → Nat) (dp : Nat → Nat) (dv : Nat → Option Nat) (dd : Nat → Nat) (ds : Nat → Nat) (dc : Nat) (td : Nat) (ho : Nat → Option Nat) (ak : Nat → Bool) (se : Nat → Option Nat) (pr : Nat → Option Nat) (hlf : l.stackTraces = false) (x : Int32) (hs : aBad 3 x) : vx_Met l yX0_feed wsX0_feed ({ frames := 7, cells := 1, slots := 6, locals := 102 } : Room) (tP D (hW h ad cI cZ ex pa di qu gc dg dp dv dd ds dc td ho ak se pr) (hT cI cZ) [.ref h, .int x]) nQ (tX "java/lang/IndexOutOfBoundsException") 1 6 nF := by
  refine vx_ofW (cc := cX0_feed) (maxL := 4) (ret := (some .int)) (by decide) rfl ?_
  intro p e s m args below meth c s₁ B hml hexc hv
  obtain ⟨rfl, hP, hK, hE⟩ := hv
  have hx := B.exec
  have hb := B.bytes
  have hr := B.returns
  have hts := atoms_spec (ws := wsX0_feed) B.pre
  have hown : s.vm.findClass RX0 = some m.cls := findClass_of_methodNamed B.named
  have hlocks := B.notSynchronized
  have hl := lv_entry ([.ref h, .int x]) (n := 4) (Nat.le_of_ble_eq_true rfl)
  rw [lg_entry_eq]
  generalize (lg_sl ([.ref h, .int x]) ++ List.replicate (4 - (lg_sl ([.ref h, .int x])).length) Slot.unset).toArray = ls at hl ⊢
  have hl : lv_has ls 4 [(0, .ref h), (1, .int x)] := hl
  refine lv_iload_n hx hb dX0_feed_0 rfl (lv_at hl 1 rfl) ?_
  exact q_callT hlocks hexc (vx_runS (As := [.int x]) (rest := []) ⟨hx, hb, hml, hown, hts⟩ (kX0_checkShopX l hlf x hs) (cwS 1 hts gX0_feed_X0_checkShop rfl rfl rfl (by decide +kernel) ⟨Nat.le_of_ble_eq_true rfl, Nat.le_of_ble_eq_true rfl⟩) ⟨tPS_blind, tPS_pre hE⟩ rfl rfl hl.1 rfl (lv_room (Nat.le_of_ble_eq_true rfl)) dX0_feed_1 ⟨Nat.le_of_ble_eq_true rfl, Nat.le_of_ble_eq_true rfl⟩)

set_option maxHeartbeats 4000000 in
set_option maxRecDepth 100000 in
theorem kX0_priceXI (l : Launch) (D : va_G) (h : Nat) (ad : Nat → Nat) (cI cZ : ClassId) (ex : Nat → Bool) (pa : Nat → Option Nat) (di : Nat → Nat) (qu : Nat → Nat) (gc : Nat) (dg : Nat → Nat) (dp : Nat → Nat) (dv : Nat → Option Nat) (dd : Nat → Nat) (ds : Nat → Nat) (dc : Nat) (td : Nat) (ho : Nat → Option Nat) (ak : Nat → Bool) (se : Nat → Option Nat) (pr : Nat → Option Nat) (hlf : l.stackTraces = false) (g x : Int32) (hs : gBad ex g ∨ ∃ j, j < 16 ∧ g = nI j ∧ ex j = true ∧ aBad 3 x) : vx_Met l yX0_price wsX0_price ({ frames := 7, cells := 1, slots := 6, locals := 103 } : Room) (tP D (hW h ad cI cZ ex pa di qu gc dg dp dv dd ds dc td ho ak se pr) (hT cI cZ) [.ref h, .int g, .int x]) nQ (tX "java/lang/IndexOutOfBoundsException") 1 6 nF := by
  refine vx_ofW (cc := cX0_price) (maxL := 4) (ret := (some .int)) (by decide) rfl ?_
  intro p e s m args below meth c s₁ B hml hexc hv
  obtain ⟨rfl, hP, hK, hE⟩ := hv
  have hx := B.exec
  have hb := B.bytes
  have hr := B.returns
  have hts := atoms_spec (ws := wsX0_price) B.pre
  have hown : s.vm.findClass RX0 = some m.cls := findClass_of_methodNamed B.named
  have hlocks := B.notSynchronized
  have hl := lv_entry ([.ref h, .int g, .int x]) (n := 4) (Nat.le_of_ble_eq_true rfl)
  rw [lg_entry_eq]
  generalize (lg_sl ([.ref h, .int g, .int x]) ++ List.replicate (4 - (lg_sl ([.ref h, .int g, .int x])).length) Slot.unset).toArray = ls at hl ⊢
  have hl : lv_has ls 4 [(0, .ref h), (1, .int g), (2, .int x)] := hl
  rcases hs with hs | ⟨j, hj, rfl, he, hs⟩
  · refine lv_aload_n hx hb dX0_price_0 rfl (lv_at hl 0 rfl) ?_
    refine lv_iload_n hx hb dX0_price_1 rfl (lv_at hl 1 rfl) ?_
    exact q_callT hlocks hexc (vx_runV (As := [.int g]) (rest := []) ⟨hx, hb, hml, hown, hts⟩ (kX0_checkGoodX l D h ad cI cZ ex pa di qu gc dg dp dv dd ds dc td ho ak se pr hlf g hs) (cwV 1 hts gX0_price_X0_checkGood rfl rfl rfl (by decide +kernel) ⟨Nat.le_of_ble_eq_true rfl, Nat.le_of_ble_eq_true rfl⟩) ⟨tP_blind, va_recv hK hP (ci := 0) (q0 := 0) rfl rfl, tP_pre hP hK hE⟩ rfl rfl hl.1 rfl (lv_room (Nat.le_of_ble_eq_true rfl)) dX0_price_2 ⟨Nat.le_of_ble_eq_true rfl, Nat.le_of_ble_eq_true rfl⟩)
  · refine lv_aload_n hx hb dX0_price_0 rfl (lv_at hl 0 rfl) ?_
    refine lv_iload_n hx hb dX0_price_1 rfl (lv_at hl 1 rfl) ?_
    refine q_callV (va_runV (As := [.int (nI j)]) (rest := []) ⟨hx, hb, hml, hown, hts⟩ (kX0_checkGood l D h ad cI cZ ex pa di qu gc dg dp dv dd ds dc td ho ak se pr j hj he) (cwV 1 hts gX0_price_X0_checkGood rfl rfl rfl (by decide +kernel) ⟨Nat.le_of_ble_eq_true rfl, Nat.le_of_ble_eq_true rfl⟩) ⟨pP_blind, va_recv hK hP (ci := 0) (q0 := 0) rfl rfl, pP_pre hP hK⟩ rfl rfl hl.1 rfl (lv_room (Nat.le_of_ble_eq_true rfl)) dX0_price_2 ⟨Nat.zero_le _, Nat.zero_le _⟩) ?_
    refine lv_iload_n hx hb dX0_price_5 rfl (lv_at hl 2 rfl) ?_
    exact q_callT hlocks hexc (vx_runS (As := [.int x]) (rest := []) ⟨hx, hb, hml, hown, hts⟩ (kX0_checkShopX l hlf x hs) (cwS 1 hts gX0_price_X0_checkShop rfl rfl rfl (by decide +kernel) ⟨Nat.le_of_ble_eq_true rfl, Nat.le_of_ble_eq_true rfl⟩) ⟨tPS_blind, tPS_pre hE⟩ rfl rfl hl.1 rfl (lv_room (Nat.le_of_ble_eq_true rfl)) dX0_price_6 ⟨Nat.le_of_ble_eq_true rfl, Nat.le_of_ble_eq_true rfl⟩)

