set_option maxHeartbeats 4000000 in
set_option maxRecDepth 100000 in
theorem kX0_isGoodN (l : Launch) (D : va_G) (h : Nat) (ad : Nat → Nat) (cI cZ : ClassId) (ex : Nat → Bool) (pa : Nat → Option Nat) (di : Nat → Nat) (qu : Nat → Nat) (gc : Nat) (dg : Nat → Nat) (dp : Nat → Nat) (dv : Nat → Option Nat) (dd : Nat → Nat) (ds : Nat → Nat) (dc : Nat) (td : Nat) (ho : Nat → Option Nat) (ak : Nat → Bool) (se : Nat → Option Nat) (pr : Nat → Option Nat) (j : Nat) (hj : j < 16) : Met l yX0_isGood wsX0_isGood ({ frames := 0, cells := 0, slots := 0, locals := 0 } : Room) (pP D (hW h ad cI cZ ex pa di qu gc dg dp dv dd ds dc td ho ak se pr) (hT cI cZ) [.ref h, .int (nI j)]) (pQ (some (.int (bI (ex j))))) 0 0 nF := by
  refine Met.ofW (cc := cX0_isGood) (maxL := 2) (ret := (some .boolean)) (by decide) rfl ?_
  intro p e s m args below meth c s₁ B hml hv
  obtain ⟨rfl, hP, hK⟩ := hv
  have hx := B.exec
  have hb := B.bytes
  have hr := B.returns
  have hts := atoms_spec (ws := wsX0_isGood) B.pre
  have hown : s.vm.findClass RX0 = some m.cls := findClass_of_methodNamed B.named
  have hlocks := B.notSynchronized
  have hl := lv_entry ([.ref h, .int (nI j)]) (n := 2) (Nat.le_of_ble_eq_true rfl)
  rw [lg_entry_eq]
  generalize (lg_sl ([.ref h, .int (nI j)]) ++ List.replicate (2 - (lg_sl ([.ref h, .int (nI j)])).length) Slot.unset).toArray = ls at hl ⊢
  have hl : lv_has ls 2 [(0, .ref h), (1, .int (nI j))] := hl
  refine lv_iload_n hx hb dX0_isGood_0 rfl (lv_at hl 1 rfl) ?_
  refine q_ifN_lt (a := j) 23 (by omega) hx hb dX0_isGood_1 (by decide) ?_
  refine lv_iload_n hx hb dX0_isGood_4 rfl (lv_at hl 1 rfl) ?_
  refine lv_bipush (v := nI 16) hx hb dX0_isGood_5 (by decide) ?_
  refine q_icmpN_ge (a := j) (b := 16) (tgt := 23) (by omega) (by omega) hx hb dX0_isGood_7 (by decide) (fun k7 => absurd k7 (by omega)) (fun k7 => ?_)
  refine lv_aload_n hx hb dX0_isGood_10 rfl (lv_at hl 0 rfl) ?_
  refine va_get (D := D) (ci := 0) (v := .ref (ad 0)) (C := RX0) (T := TX0) (N := 16) hx hb hts (iX0_isGood) hown hK hP 0 rfl rfl 0 (by decide) (hts (.fieldLink RX0 9 "ShopHub" "exists" "[Z") (by decide +kernel)) (fun _ h9 => h9) rfl dX0_isGood_11 ?_
  refine lv_iload_n hx hb dX0_isGood_14 rfl (lv_at hl 1 rfl) ?_
  refine q_zld ex hx hb hK hP 1 0 rfl rfl (k := j) (by omega) (Nat.le_of_ble_eq_true rfl) dX0_isGood_15 ?_
  refine q_ifB_eq (b := ex j) (tgt := 23) hx hb dX0_isGood_16 (by decide) (fun k16 => ?_) (fun k16 => ?_)
  · refine lv_iconst (v := nI 0) hx hb dX0_isGood_23 (by decide) ?_
    exact q_retZ hx hb hr hlocks (by first | exact retF k16 | exact retT k16) dX0_isGood_24
  · refine lv_iconst (v := nI 1) hx hb dX0_isGood_19 (by decide) ?_
    refine lv_goto (tgt := 24) hx hb dX0_isGood_20 (by decide) ?_
    exact q_retZ hx hb hr hlocks (by first | exact retF k16 | exact retT k16) dX0_isGood_24

set_option maxHeartbeats 4000000 in
set_option maxRecDepth 100000 in
theorem kX0_isGoodR (l : Launch) (D : va_G) (h : Nat) (ad : Nat → Nat) (cI cZ : ClassId) (ex : Nat → Bool) (pa : Nat → Option Nat) (di : Nat → Nat) (qu : Nat → Nat) (gc : Nat) (dg : Nat → Nat) (dp : Nat → Nat) (dv : Nat → Option Nat) (dd : Nat → Nat) (ds : Nat → Nat) (dc : Nat) (td : Nat) (ho : Nat → Option Nat) (ak : Nat → Bool) (se : Nat → Option Nat) (pr : Nat → Option Nat) (g : Int32) (hg : g < 0 ∨ nI 16 ≤ g) : Met l yX0_isGood wsX0_isGood ({ frames := 0, cells := 0, slots := 0, locals := 0 } : Room) (pP D (hW h ad cI cZ ex pa di qu gc dg dp dv dd ds dc td ho ak se pr) (hT cI cZ) [.ref h, .int g]) (pQ (some (.int (bI false)))) 0 0 nF := by
  refine Met.ofW (cc := cX0_isGood) (maxL := 2) (ret := (some .boolean)) (by decide) rfl ?_
  intro p e s m args below meth c s₁ B hml hv
  obtain ⟨rfl, hP, hK⟩ := hv
  have hx := B.exec
  have hb := B.bytes
  have hr := B.returns
  have hts := atoms_spec (ws := wsX0_isGood) B.pre
  have hown : s.vm.findClass RX0 = some m.cls := findClass_of_methodNamed B.named
  have hlocks := B.notSynchronized
  have hl := lv_entry ([.ref h, .int g]) (n := 2) (Nat.le_of_ble_eq_true rfl)
  rw [lg_entry_eq]
  generalize (lg_sl ([.ref h, .int g]) ++ List.replicate (2 - (lg_sl ([.ref h, .int g])).length) Slot.unset).toArray = ls at hl ⊢
  have hl : lv_has ls 2 [(0, .ref h), (1, .int g)] := hl
  refine lv_iload_n hx hb dX0_isGood_0 rfl (lv_at hl 1 rfl) ?_
  refine lv_if_lt (tgt := 23) hx hb dX0_isGood_1 (by decide) (fun k1 => ?_) (fun k1 => ?_)
  · refine lv_iconst (v := nI 0) hx hb dX0_isGood_23 (by decide) ?_
    exact q_retZ hx hb hr hlocks (by decide) dX0_isGood_24
  · refine lv_iload_n hx hb dX0_isGood_4 rfl (lv_at hl 1 rfl) ?_
    refine lv_bipush (v := nI 16) hx hb dX0_isGood_5 (by decide) ?_
    refine lv_icmp_ge (tgt := 23) hx hb dX0_isGood_7 (by decide) (fun k7 => ?_) (fun k7 => absurd (hg.resolve_left k1) k7)
    refine lv_iconst (v := nI 0) hx hb dX0_isGood_23 (by decide) ?_
    exact q_retZ hx hb hr hlocks (by decide) dX0_isGood_24

set_option maxHeartbeats 4000000 in
set_option maxRecDepth 100000 in
theorem kX0_isEnteredN (l : Launch) (D : va_G) (h : Nat) (ad : Nat → Nat) (cI cZ : ClassId) (ex : Nat → Bool) (pa : Nat → Option Nat) (di : Nat → Nat) (qu : Nat → Nat) (gc : Nat) (dg : Nat → Nat) (dp : Nat → Nat) (dv : Nat → Option Nat) (dd : Nat → Nat) (ds : Nat → Nat) (dc : Nat) (td : Nat) (ho : Nat → Option Nat) (ak : Nat → Bool) (se : Nat → Option Nat) (pr : Nat → Option Nat) (j : Nat) (hj : j < 2147483648) (hdc : dc ≤ 200) : Met l yX0_isEntered wsX0_isEntered ({ frames := 0, cells := 0, slots := 0, locals := 0 } : Room) (pP D (hW h ad cI cZ ex pa di qu gc dg dp dv dd ds dc td ho ak se pr) (hT cI cZ) [.ref h, .int (nI j)]) (pQ (some (.int (bI (decide (j < dc)))))) 0 0 nF := by
  refine Met.ofW (cc := cX0_isEntered) (maxL := 2) (ret := (some .boolean)) (by decide) rfl ?_
  intro p e s m args below meth c s₁ B hml hv
  obtain ⟨rfl, hP, hK⟩ := hv
  have hx := B.exec
  have hb := B.bytes
  have hr := B.returns
  have hts := atoms_spec (ws := wsX0_isEntered) B.pre
  have hown : s.vm.findClass RX0 = some m.cls := findClass_of_methodNamed B.named
  have hlocks := B.notSynchronized
  have hl := lv_entry ([.ref h, .int (nI j)]) (n := 2) (Nat.le_of_ble_eq_true rfl)
  rw [lg_entry_eq]
  generalize (lg_sl ([.ref h, .int (nI j)]) ++ List.replicate (2 - (lg_sl ([.ref h, .int (nI j)])).length) Slot.unset).toArray = ls at hl ⊢
  have hl : lv_has ls 2 [(0, .ref h), (1, .int (nI j))] := hl
  refine lv_iload_n hx hb dX0_isEntered_0 rfl (lv_at hl 1 rfl) ?_
  refine q_ifN_lt (a := j) 16 (by omega) hx hb dX0_isEntered_1 (by decide) ?_
  refine lv_iload_n hx hb dX0_isEntered_4 rfl (lv_at hl 1 rfl) ?_
  refine lv_aload_n hx hb dX0_isEntered_5 rfl (lv_at hl 0 rfl) ?_
  refine va_get (D := D) (ci := 0) (v := .int (nI dc)) (C := RX0) (T := TX0) (N := 16) hx hb hts (iX0_isEntered) hown hK hP 0 rfl rfl 10 (by decide) (hts (.fieldLink RX0 42 "ShopHub" "draftCount" "I") (by decide +kernel)) (fun _ h9 => h9) rfl dX0_isEntered_6 ?_
  refine q_icmpN_ge (a := j) (b := dc) (tgt := 16) (by omega) (by omega) hx hb dX0_isEntered_9 (by decide) (fun k9 => ?_) (fun k9 => ?_)
  · refine lv_iconst (v := nI 0) hx hb dX0_isEntered_16 (by decide) ?_
    exact q_retZ hx hb hr hlocks (retF (decide_eq_false (by omega))) dX0_isEntered_17
  · refine lv_iconst (v := nI 1) hx hb dX0_isEntered_12 (by decide) ?_
    refine lv_goto (tgt := 17) hx hb dX0_isEntered_13 (by decide) ?_
    exact q_retZ hx hb hr hlocks (retT (decide_eq_true (by omega))) dX0_isEntered_17

set_option maxHeartbeats 4000000 in
set_option maxRecDepth 100000 in
theorem kX0_isEnteredR (l : Launch) (D : va_G) (h : Nat) (ad : Nat → Nat) (cI cZ : ClassId) (ex : Nat → Bool) (pa : Nat → Option Nat) (di : Nat → Nat) (qu : Nat → Nat) (gc : Nat) (dg : Nat → Nat) (dp : Nat → Nat) (dv : Nat → Option Nat) (dd : Nat → Nat) (ds : Nat → Nat) (dc : Nat) (td : Nat) (ho : Nat → Option Nat) (ak : Nat → Bool) (se : Nat → Option Nat) (pr : Nat → Option Nat) (g : Int32) (hg : g < 0) : Met l yX0_isEntered wsX0_isEntered ({ frames := 0, cells := 0, slots := 0, locals := 0 } : Room) (pP D (hW h ad cI cZ ex pa di qu gc dg dp dv dd ds dc td ho ak se pr) (hT cI cZ) [.ref h, .int g]) (pQ (some (.int (bI false)))) 0 0 nF := by
  refine Met.ofW (cc := cX0_isEntered) (maxL := 2) (ret := (some .boolean)) (by decide) rfl ?_
  intro p e s m args below meth c s₁ B hml hv
  obtain ⟨rfl, hP, hK⟩ := hv
  have hx := B.exec
  have hb := B.bytes
  have hr := B.returns
  have hts := atoms_spec (ws := wsX0_isEntered) B.pre
  have hown : s.vm.findClass RX0 = some m.cls := findClass_of_methodNamed B.named
  have hlocks := B.notSynchronized
  have hl := lv_entry ([.ref h, .int g]) (n := 2) (Nat.le_of_ble_eq_true rfl)
  rw [lg_entry_eq]
  generalize (lg_sl ([.ref h, .int g]) ++ List.replicate (2 - (lg_sl ([.ref h, .int g])).length) Slot.unset).toArray = ls at hl ⊢
  have hl : lv_has ls 2 [(0, .ref h), (1, .int g)] := hl
  refine lv_iload_n hx hb dX0_isEntered_0 rfl (lv_at hl 1 rfl) ?_
  refine lv_if_lt (tgt := 16) hx hb dX0_isEntered_1 (by decide) (fun k1 => ?_) (fun k1 => absurd hg k1)
  refine lv_iconst (v := nI 0) hx hb dX0_isEntered_16 (by decide) ?_
  exact q_retZ hx hb hr hlocks (by decide) dX0_isEntered_17

set_option maxHeartbeats 4000000 in
set_option maxRecDepth 100000 in
theorem kX0_placeOf (l : Launch) (g a sh to : Nat) (hg : g < 16) (ha : a < 6) (hsh : sh < 4) (hto : to < 4) : Met l yX0_placeOf wsX0_placeOf ({ frames := 0, cells := 0, slots := 0, locals := 0 } : Room) (sP [.int (nI g), .int (nI a), .int (zI ((sh : Int) - 1)), .int (zI ((to : Int) - 1))]) (pQ (some (.int (nI (plc g a sh to))))) 0 0 nF := by
  refine Met.ofW (cc := cX0_placeOf) (maxL := 6) (ret := (some .int)) (by decide) rfl ?_
  intro p e s m args below meth c s₁ B hml hv
  obtain rfl := hv
  have hx := B.exec
  have hb := B.bytes
  have hr := B.returns
  have hts := atoms_spec (ws := wsX0_placeOf) B.pre
  have hown : s.vm.findClass RX0 = some m.cls := findClass_of_methodNamed B.named
  have hlocks := B.notSynchronized
  have hl := lv_entry ([.int (nI g), .int (nI a), .int (zI ((sh : Int) - 1)), .int (zI ((to : Int) - 1))]) (n := 6) (Nat.le_of_ble_eq_true rfl)
  rw [lg_entry_eq]
  generalize (lg_sl ([.int (nI g), .int (nI a), .int (zI ((sh : Int) - 1)), .int (zI ((to : Int) - 1))]) ++ List.replicate (6 - (lg_sl ([.int (nI g), .int (nI a), .int (zI ((sh : Int) - 1)), .int (zI ((to : Int) - 1))])).length) Slot.unset).toArray = ls at hl ⊢
  have hl : lv_has ls 6 [(0, .int (nI g)), (1, .int (nI a)), (2, .int (zI ((sh : Int) - 1))), (3, .int (zI ((to : Int) - 1)))] := hl
  refine lv_iload_n hx hb dX0_placeOf_0 rfl (lv_at hl 0 rfl) ?_
  refine lv_bipush (v := nI 6) hx hb dX0_placeOf_1 (by decide) ?_
  refine q_mulN (a := g) (b := 6) hx hb dX0_placeOf_3 ?_
  refine lv_iload_n hx hb dX0_placeOf_4 rfl (lv_at hl 1 rfl) ?_
  refine q_addN (a := g * 6) (b := a) hx hb dX0_placeOf_5 ?_
  refine lv_istore (lv' := [(4, .int (nI ((g * 6) + a))), (0, .int (nI g)), (1, .int (nI a)), (2, .int (zI ((sh : Int) - 1))), (3, .int (zI ((to : Int) - 1)))]) hx hb dX0_placeOf_6 hl (by decide) rfl (fun ls hl => ?_)
  refine lv_iload_n hx hb dX0_placeOf_8 rfl (lv_at hl 3 rfl) ?_
  refine lv_iconst (v := nI 1) hx hb dX0_placeOf_9 (by decide) ?_
  refine q_top (y := zI ((1 : Nat) : Int)) (nz 1) ?_
  refine q_addZ (a := (sh : Int) - 1) (b := ((1 : Nat) : Int)) hx hb dX0_placeOf_10 ?_
  refine q_top (y := nI sh) (by rw [nz]; exact congrArg zI (by omega)) ?_
  refine lv_iconst (v := nI 4) hx hb dX0_placeOf_11 (by decide) ?_
  refine q_mulN (a := sh) (b := 4) hx hb dX0_placeOf_12 ?_
  refine lv_iload_n hx hb dX0_placeOf_13 rfl (lv_at hl 4 rfl) ?_
  refine q_top2 (y := zI ((sh * 4 : Nat) : Int)) (nz (sh * 4)) ?_
  refine q_addZ (a := ((sh * 4 : Nat) : Int)) (b := (to : Int) - 1) hx hb dX0_placeOf_14 ?_
  refine lv_iconst (v := nI 1) hx hb dX0_placeOf_15 (by decide) ?_
  refine q_top (y := zI ((1 : Nat) : Int)) (nz 1) ?_
  refine q_addZ (a := ((sh * 4 : Nat) : Int) + ((to : Int) - 1)) (b := ((1 : Nat) : Int)) hx hb dX0_placeOf_16 ?_
  refine q_top (y := nI (sh * 4 + to)) (by rw [nz]; exact congrArg zI (by omega)) ?_
  refine lv_istore (lv' := [(5, .int (nI (sh * 4 + to))), (4, .int (nI ((g * 6) + a))), (0, .int (nI g)), (1, .int (nI a)), (2, .int (zI ((sh : Int) - 1))), (3, .int (zI ((to : Int) - 1)))]) hx hb dX0_placeOf_17 hl (by decide) rfl (fun ls hl => ?_)
  refine lv_iload hx hb dX0_placeOf_19 (lv_at hl 1 rfl) ?_
  refine lv_bipush (v := nI 16) hx hb dX0_placeOf_21 (by decide) ?_
  refine q_mulN (a := (g * 6) + a) (b := 16) hx hb dX0_placeOf_23 ?_
  refine lv_iload hx hb dX0_placeOf_24 (lv_at hl 0 rfl) ?_
  refine q_addN (a := ((g * 6) + a) * 16) (b := sh * 4 + to) hx hb dX0_placeOf_26 ?_
  exact q_retI hx hb hr hlocks (rfl) dX0_placeOf_27

