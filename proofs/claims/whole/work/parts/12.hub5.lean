set_option maxHeartbeats 4000000 in
set_option maxRecDepth 100000 in
theorem kX0_checkGood (l : Launch) (D : va_G) (h : Nat) (ad : Nat → Nat) (cI cZ : ClassId) (ex : Nat → Bool) (pa : Nat → Option Nat) (di : Nat → Nat) (qu : Nat → Nat) (gc : Nat) (dg : Nat → Nat) (dp : Nat → Nat) (dv : Nat → Option Nat) (dd : Nat → Nat) (ds : Nat → Nat) (dc : Nat) (td : Nat) (ho : Nat → Option Nat) (ak : Nat → Bool) (se : Nat → Option Nat) (pr : Nat → Option Nat) (j : Nat) (hj : j < 16) (he : ex j = true) : Met l yX0_checkGood wsX0_checkGood ({ frames := 1, cells := 0, slots := 0, locals := 21 } : Room) (pP D (hW h ad cI cZ ex pa di qu gc dg dp dv dd ds dc td ho ak se pr) (hT cI cZ) [.ref h, .int (nI j)]) (pQ none) 0 0 nF := by
  refine Met.ofW (cc := cX0_checkGood) (maxL := 2) (ret := none) (by decide) rfl ?_
  intro p e s m args below meth c s₁ B hml hv
  obtain ⟨rfl, hP, hK⟩ := hv
  have hx := B.exec
  have hb := B.bytes
  have hr := B.returns
  have hts := atoms_spec (ws := wsX0_checkGood) B.pre
  have hown : s.vm.findClass RX0 = some m.cls := findClass_of_methodNamed B.named
  have hlocks := B.notSynchronized
  have hl := lv_entry ([.ref h, .int (nI j)]) (n := 2) (Nat.le_of_ble_eq_true rfl)
  rw [lg_entry_eq]
  generalize (lg_sl ([.ref h, .int (nI j)]) ++ List.replicate (2 - (lg_sl ([.ref h, .int (nI j)])).length) Slot.unset).toArray = ls at hl ⊢
  have hl : lv_has ls 2 [(0, .ref h), (1, .int (nI j))] := hl
  refine lv_aload_n hx hb dX0_checkGood_0 rfl (lv_at hl 0 rfl) ?_
  refine lv_iload_n hx hb dX0_checkGood_1 rfl (lv_at hl 1 rfl) ?_
  refine q_callI (r := bI (ex j)) (va_runV (As := [.int (nI j)]) (rest := []) ⟨hx, hb, hml, hown, hts⟩ (kX0_isGoodN l D h ad cI cZ ex pa di qu gc dg dp dv dd ds dc td ho ak se pr j hj) (cwV 1 hts gX0_checkGood_X0_isGood rfl rfl rfl (by decide +kernel) ⟨Nat.le_of_ble_eq_true rfl, Nat.le_of_ble_eq_true rfl⟩) ⟨pP_blind, va_recv hK hP (ci := 0) (q0 := 0) rfl rfl, pP_pre hP hK⟩ rfl rfl hl.1 rfl (lv_room (Nat.le_of_ble_eq_true rfl)) dX0_checkGood_2 ⟨Nat.zero_le _, Nat.zero_le _⟩) ?_
  refine q_ifB_ne (b := ex j) (tgt := 18) hx hb dX0_checkGood_5 (by decide) (fun k5 => ?_) (fun k5 => absurd k5 (by rw [he]; decide))
  exact q_retV hx hb hr hlocks dX0_checkGood_18

set_option maxHeartbeats 4000000 in
set_option maxRecDepth 100000 in
theorem kX0_checkParent (l : Launch) (D : va_G) (h : Nat) (ad : Nat → Nat) (cI cZ : ClassId) (ex : Nat → Bool) (pa : Nat → Option Nat) (di : Nat → Nat) (qu : Nat → Nat) (gc : Nat) (dg : Nat → Nat) (dp : Nat → Nat) (dv : Nat → Option Nat) (dd : Nat → Nat) (ds : Nat → Nat) (dc : Nat) (td : Nat) (ho : Nat → Option Nat) (ak : Nat → Bool) (se : Nat → Option Nat) (pr : Nat → Option Nat) (o : Option Nat) (ho2 : okO ex o) : Met l yX0_checkParent wsX0_checkParent ({ frames := 1, cells := 0, slots := 0, locals := 21 } : Room) (pP D (hW h ad cI cZ ex pa di qu gc dg dp dv dd ds dc td ho ak se pr) (hT cI cZ) [.ref h, .int (oI o)]) (pQ none) 0 0 nF := by
  refine Met.ofW (cc := cX0_checkParent) (maxL := 2) (ret := none) (by decide) rfl ?_
  intro p e s m args below meth c s₁ B hml hv
  obtain ⟨rfl, hP, hK⟩ := hv
  have hx := B.exec
  have hb := B.bytes
  have hr := B.returns
  have hts := atoms_spec (ws := wsX0_checkParent) B.pre
  have hown : s.vm.findClass RX0 = some m.cls := findClass_of_methodNamed B.named
  have hlocks := B.notSynchronized
  have hl := lv_entry ([.ref h, .int (oI o)]) (n := 2) (Nat.le_of_ble_eq_true rfl)
  rw [lg_entry_eq]
  generalize (lg_sl ([.ref h, .int (oI o)]) ++ List.replicate (2 - (lg_sl ([.ref h, .int (oI o)])).length) Slot.unset).toArray = ls at hl ⊢
  have hl : lv_has ls 2 [(0, .ref h), (1, .int (oI o))] := hl
  cases o with
  | none =>
    refine lv_iload_n hx hb dX0_checkParent_0 rfl (lv_at hl 1 rfl) ?_
    refine lv_iconst (v := oI none) hx hb dX0_checkParent_1 (by decide) ?_
    refine q_icmpO_eq (a := none) (b := none) (tgt := 23) (fun k h9 => by cases h9) (fun k h9 => by cases h9) hx hb dX0_checkParent_2 (by decide) (fun k2 => ?_) (fun k2 => absurd rfl k2)
    exact q_retV hx hb hr hlocks dX0_checkParent_23
  | some q =>
    obtain ⟨hq, he⟩ := ho2 q rfl
    refine lv_iload_n hx hb dX0_checkParent_0 rfl (lv_at hl 1 rfl) ?_
    refine lv_iconst (v := oI none) hx hb dX0_checkParent_1 (by decide) ?_
    refine q_top2 (y := oI (some q)) ((rfl : nI q = oI (some q))) ?_
    refine q_icmpO_eq (a := some q) (b := none) (tgt := 23) (fun k h9 => by cases h9; omega) (fun k h9 => by cases h9) hx hb dX0_checkParent_2 (by decide) (fun k2 => (by cases k2)) (fun k2 => ?_)
    refine lv_aload_n hx hb dX0_checkParent_5 rfl (lv_at hl 0 rfl) ?_
    refine lv_iload_n hx hb dX0_checkParent_6 rfl (lv_at hl 1 rfl) ?_
    refine q_callI (r := bI (ex q)) (va_runV (As := [.int (nI q)]) (rest := []) ⟨hx, hb, hml, hown, hts⟩ (kX0_isGoodN l D h ad cI cZ ex pa di qu gc dg dp dv dd ds dc td ho ak se pr q hq) (cwV 1 hts gX0_checkParent_X0_isGood rfl rfl rfl (by decide +kernel) ⟨Nat.le_of_ble_eq_true rfl, Nat.le_of_ble_eq_true rfl⟩) ⟨pP_blind, va_recv hK hP (ci := 0) (q0 := 0) rfl rfl, pP_pre hP hK⟩ rfl rfl hl.1 rfl (lv_room (Nat.le_of_ble_eq_true rfl)) dX0_checkParent_7 ⟨Nat.zero_le _, Nat.zero_le _⟩) ?_
    refine q_ifB_ne (b := ex q) (tgt := 23) hx hb dX0_checkParent_10 (by decide) (fun k10 => ?_) (fun k10 => absurd k10 (by rw [he]; decide))
    exact q_retV hx hb hr hlocks dX0_checkParent_23

set_option maxHeartbeats 4000000 in
set_option maxRecDepth 100000 in
theorem kX0_checkAttribute (l : Launch) (a : Nat) (ha : a < 6) : Met l yX0_checkAttribute wsX0_checkAttribute ({ frames := 0, cells := 0, slots := 0, locals := 0 } : Room) (sP [.int (nI a)]) (pQ none) 0 0 nF := by
  refine Met.ofW (cc := cX0_checkAttribute) (maxL := 1) (ret := none) (by decide) rfl ?_
  intro p e s m args below meth c s₁ B hml hv
  obtain rfl := hv
  have hx := B.exec
  have hb := B.bytes
  have hr := B.returns
  have hts := atoms_spec (ws := wsX0_checkAttribute) B.pre
  have hown : s.vm.findClass RX0 = some m.cls := findClass_of_methodNamed B.named
  have hlocks := B.notSynchronized
  have hl := lv_entry ([.int (nI a)]) (n := 1) (Nat.le_of_ble_eq_true rfl)
  rw [lg_entry_eq]
  generalize (lg_sl ([.int (nI a)]) ++ List.replicate (1 - (lg_sl ([.int (nI a)])).length) Slot.unset).toArray = ls at hl ⊢
  have hl : lv_has ls 1 [(0, .int (nI a))] := hl
  refine lv_iload_n hx hb dX0_checkAttribute_0 rfl (lv_at hl 0 rfl) ?_
  refine q_ifN_lt (a := a) 10 (by omega) hx hb dX0_checkAttribute_1 (by decide) ?_
  refine lv_iload_n hx hb dX0_checkAttribute_4 rfl (lv_at hl 0 rfl) ?_
  refine lv_bipush (v := nI 6) hx hb dX0_checkAttribute_5 (by decide) ?_
  refine q_icmpN_lt (a := a) (b := 6) (tgt := 20) (by omega) (by omega) hx hb dX0_checkAttribute_7 (by decide) (fun k7 => ?_) (fun k7 => absurd k7 (by omega))
  exact q_retV hx hb hr hlocks dX0_checkAttribute_20

set_option maxHeartbeats 4000000 in
set_option maxRecDepth 100000 in
theorem kX0_checkShop (l : Launch) (sp : Nat) (hs : sp < 3) : Met l yX0_checkShop wsX0_checkShop ({ frames := 0, cells := 0, slots := 0, locals := 0 } : Room) (sP [.int (nI sp)]) (pQ none) 0 0 nF := by
  refine Met.ofW (cc := cX0_checkShop) (maxL := 1) (ret := none) (by decide) rfl ?_
  intro p e s m args below meth c s₁ B hml hv
  obtain rfl := hv
  have hx := B.exec
  have hb := B.bytes
  have hr := B.returns
  have hts := atoms_spec (ws := wsX0_checkShop) B.pre
  have hown : s.vm.findClass RX0 = some m.cls := findClass_of_methodNamed B.named
  have hlocks := B.notSynchronized
  have hl := lv_entry ([.int (nI sp)]) (n := 1) (Nat.le_of_ble_eq_true rfl)
  rw [lg_entry_eq]
  generalize (lg_sl ([.int (nI sp)]) ++ List.replicate (1 - (lg_sl ([.int (nI sp)])).length) Slot.unset).toArray = ls at hl ⊢
  have hl : lv_has ls 1 [(0, .int (nI sp))] := hl
  refine lv_iload_n hx hb dX0_checkShop_0 rfl (lv_at hl 0 rfl) ?_
  refine q_ifN_lt (a := sp) 9 (by omega) hx hb dX0_checkShop_1 (by decide) ?_
  refine lv_iload_n hx hb dX0_checkShop_4 rfl (lv_at hl 0 rfl) ?_
  refine lv_iconst (v := nI 3) hx hb dX0_checkShop_5 (by decide) ?_
  refine q_icmpN_lt (a := sp) (b := 3) (tgt := 19) (by omega) (by omega) hx hb dX0_checkShop_6 (by decide) (fun k6 => ?_) (fun k6 => absurd k6 (by omega))
  exact q_retV hx hb hr hlocks dX0_checkShop_19

set_option maxHeartbeats 4000000 in
set_option maxRecDepth 100000 in
theorem kX0_checkTongue (l : Launch) (tp : Nat) (ht : tp < 3) : Met l yX0_checkTongue wsX0_checkTongue ({ frames := 0, cells := 0, slots := 0, locals := 0 } : Room) (sP [.int (nI tp)]) (pQ none) 0 0 nF := by
  refine Met.ofW (cc := cX0_checkTongue) (maxL := 1) (ret := none) (by decide) rfl ?_
  intro p e s m args below meth c s₁ B hml hv
  obtain rfl := hv
  have hx := B.exec
  have hb := B.bytes
  have hr := B.returns
  have hts := atoms_spec (ws := wsX0_checkTongue) B.pre
  have hown : s.vm.findClass RX0 = some m.cls := findClass_of_methodNamed B.named
  have hlocks := B.notSynchronized
  have hl := lv_entry ([.int (nI tp)]) (n := 1) (Nat.le_of_ble_eq_true rfl)
  rw [lg_entry_eq]
  generalize (lg_sl ([.int (nI tp)]) ++ List.replicate (1 - (lg_sl ([.int (nI tp)])).length) Slot.unset).toArray = ls at hl ⊢
  have hl : lv_has ls 1 [(0, .int (nI tp))] := hl
  refine lv_iload_n hx hb dX0_checkTongue_0 rfl (lv_at hl 0 rfl) ?_
  refine q_ifN_lt (a := tp) 9 (by omega) hx hb dX0_checkTongue_1 (by decide) ?_
  refine lv_iload_n hx hb dX0_checkTongue_4 rfl (lv_at hl 0 rfl) ?_
  refine lv_iconst (v := nI 3) hx hb dX0_checkTongue_5 (by decide) ?_
  refine q_icmpN_lt (a := tp) (b := 3) (tgt := 19) (by omega) (by omega) hx hb dX0_checkTongue_6 (by decide) (fun k6 => ?_) (fun k6 => absurd k6 (by omega))
  exact q_retV hx hb hr hlocks dX0_checkTongue_19

set_option maxHeartbeats 4000000 in
set_option maxRecDepth 100000 in
theorem kX0_checkDraft (l : Launch) (D : va_G) (h : Nat) (ad : Nat → Nat) (cI cZ : ClassId) (ex : Nat → Bool) (pa : Nat → Option Nat) (di : Nat → Nat) (qu : Nat → Nat) (gc : Nat) (dg : Nat → Nat) (dp : Nat → Nat) (dv : Nat → Option Nat) (dd : Nat → Nat) (ds : Nat → Nat) (dc : Nat) (td : Nat) (ho : Nat → Option Nat) (ak : Nat → Bool) (se : Nat → Option Nat) (pr : Nat → Option Nat) (d : Nat) (hd : d < dc) (hdc : dc ≤ 200) (h4 : ds d ≠ 4) (hd4 : ds d ≤ 4) : Met l yX0_checkDraft wsX0_checkDraft ({ frames := 1, cells := 0, slots := 0, locals := 21 } : Room) (pP D (hW h ad cI cZ ex pa di qu gc dg dp dv dd ds dc td ho ak se pr) (hT cI cZ) [.ref h, .int (nI d)]) (pQ none) 0 0 nF := by
  refine Met.ofW (cc := cX0_checkDraft) (maxL := 2) (ret := none) (by decide) rfl ?_
  intro p e s m args below meth c s₁ B hml hv
  obtain ⟨rfl, hP, hK⟩ := hv
  have hx := B.exec
  have hb := B.bytes
  have hr := B.returns
  have hts := atoms_spec (ws := wsX0_checkDraft) B.pre
  have hown : s.vm.findClass RX0 = some m.cls := findClass_of_methodNamed B.named
  have hlocks := B.notSynchronized
  have hl := lv_entry ([.ref h, .int (nI d)]) (n := 2) (Nat.le_of_ble_eq_true rfl)
  rw [lg_entry_eq]
  generalize (lg_sl ([.ref h, .int (nI d)]) ++ List.replicate (2 - (lg_sl ([.ref h, .int (nI d)])).length) Slot.unset).toArray = ls at hl ⊢
  have hl : lv_has ls 2 [(0, .ref h), (1, .int (nI d))] := hl
  refine lv_aload_n hx hb dX0_checkDraft_0 rfl (lv_at hl 0 rfl) ?_
  refine lv_iload_n hx hb dX0_checkDraft_1 rfl (lv_at hl 1 rfl) ?_
  refine q_callI (r := bI (decide (d < dc))) (va_runV (As := [.int (nI d)]) (rest := []) ⟨hx, hb, hml, hown, hts⟩ (kX0_isEnteredN l D h ad cI cZ ex pa di qu gc dg dp dv dd ds dc td ho ak se pr d (by omega) hdc) (cwV 1 hts gX0_checkDraft_X0_isEntered rfl rfl rfl (by decide +kernel) ⟨Nat.le_of_ble_eq_true rfl, Nat.le_of_ble_eq_true rfl⟩) ⟨pP_blind, va_recv hK hP (ci := 0) (q0 := 0) rfl rfl, pP_pre hP hK⟩ rfl rfl hl.1 rfl (lv_room (Nat.le_of_ble_eq_true rfl)) dX0_checkDraft_2 ⟨Nat.zero_le _, Nat.zero_le _⟩) ?_
  refine q_ifB_eq (b := decide (d < dc)) (tgt := 18) hx hb dX0_checkDraft_5 (by decide) (fun k5 => absurd k5 (by rw [decide_eq_true hd]; decide)) (fun k5 => ?_)
  refine lv_aload_n hx hb dX0_checkDraft_8 rfl (lv_at hl 0 rfl) ?_
  refine va_get (D := D) (ci := 0) (v := .ref (ad 9)) (C := RX0) (T := TX0) (N := 16) hx hb hts (iX0_checkDraft) hown hK hP 0 rfl rfl 9 (by decide) (hts (.fieldLink RX0 39 "ShopHub" "draftStates" "[I") (by decide +kernel)) (fun _ h9 => h9) rfl dX0_checkDraft_9 ?_
  refine lv_iload_n hx hb dX0_checkDraft_12 rfl (lv_at hl 1 rfl) ?_
  refine q_ald nI ds hx hb hK hP 9 1 rfl rfl (k := d) (by omega) (Nat.le_of_ble_eq_true rfl) dX0_checkDraft_13 ?_
  refine lv_iconst (v := nI 4) hx hb dX0_checkDraft_14 (by decide) ?_
  refine q_icmpN_ne (a := ds d) (b := 4) (tgt := 28) (by omega) (by omega) hx hb dX0_checkDraft_15 (by decide) (fun k15 => ?_) (fun k15 => absurd k15 h4)
  exact q_retV hx hb hr hlocks dX0_checkDraft_28

set_option maxHeartbeats 4000000 in
set_option maxRecDepth 100000 in
theorem kX0_checkSight (l : Launch) (D : va_G) (h : Nat) (ad : Nat → Nat) (cI cZ : ClassId) (ex : Nat → Bool) (pa : Nat → Option Nat) (di : Nat → Nat) (qu : Nat → Nat) (gc : Nat) (dg : Nat → Nat) (dp : Nat → Nat) (dv : Nat → Option Nat) (dd : Nat → Nat) (ds : Nat → Nat) (dc : Nat) (td : Nat) (ho : Nat → Option Nat) (ak : Nat → Bool) (se : Nat → Option Nat) (pr : Nat → Option Nat) (g a sp tp : Nat) (hg : g < 16) (ha : a < 6) (hs : sp < 3) (ht : tp < 3) (he : ex g = true) : Met l yX0_checkSight wsX0_checkSight ({ frames := 2, cells := 0, slots := 0, locals := 42 } : Room) (pP D (hW h ad cI cZ ex pa di qu gc dg dp dv dd ds dc td ho ak se pr) (hT cI cZ) [.ref h, .int (nI g), .int (nI a), .int (nI sp), .int (nI tp)]) (pQ none) 0 0 nF := by
  refine Met.ofW (cc := cX0_checkSight) (maxL := 5) (ret := none) (by decide) rfl ?_
  intro p e s m args below meth c s₁ B hml hv
  obtain ⟨rfl, hP, hK⟩ := hv
  have hx := B.exec
  have hb := B.bytes
  have hr := B.returns
  have hts := atoms_spec (ws := wsX0_checkSight) B.pre
  have hown : s.vm.findClass RX0 = some m.cls := findClass_of_methodNamed B.named
  have hlocks := B.notSynchronized
  have hl := lv_entry ([.ref h, .int (nI g), .int (nI a), .int (nI sp), .int (nI tp)]) (n := 5) (Nat.le_of_ble_eq_true rfl)
  rw [lg_entry_eq]
  generalize (lg_sl ([.ref h, .int (nI g), .int (nI a), .int (nI sp), .int (nI tp)]) ++ List.replicate (5 - (lg_sl ([.ref h, .int (nI g), .int (nI a), .int (nI sp), .int (nI tp)])).length) Slot.unset).toArray = ls at hl ⊢
  have hl : lv_has ls 5 [(0, .ref h), (1, .int (nI g)), (2, .int (nI a)), (3, .int (nI sp)), (4, .int (nI tp))] := hl
  refine lv_aload_n hx hb dX0_checkSight_0 rfl (lv_at hl 0 rfl) ?_
  refine lv_iload_n hx hb dX0_checkSight_1 rfl (lv_at hl 1 rfl) ?_
  refine q_callV (va_runV (As := [.int (nI g)]) (rest := []) ⟨hx, hb, hml, hown, hts⟩ (kX0_checkGood l D h ad cI cZ ex pa di qu gc dg dp dv dd ds dc td ho ak se pr g hg he) (cwV 1 hts gX0_checkSight_X0_checkGood rfl rfl rfl (by decide +kernel) ⟨Nat.le_of_ble_eq_true rfl, Nat.le_of_ble_eq_true rfl⟩) ⟨pP_blind, va_recv hK hP (ci := 0) (q0 := 0) rfl rfl, pP_pre hP hK⟩ rfl rfl hl.1 rfl (lv_room (Nat.le_of_ble_eq_true rfl)) dX0_checkSight_2 ⟨Nat.zero_le _, Nat.zero_le _⟩) ?_
  refine lv_iload_n hx hb dX0_checkSight_5 rfl (lv_at hl 2 rfl) ?_
  refine q_callV (va_runS (As := [.int (nI a)]) (rest := []) ⟨hx, hb, hml, hown, hts⟩ (kX0_checkAttribute l a ha) (cwS 1 hts gX0_checkSight_X0_checkAttribute rfl rfl rfl (by decide +kernel) ⟨Nat.le_of_ble_eq_true rfl, Nat.le_of_ble_eq_true rfl⟩) ⟨sP_blind, sP_pre⟩ rfl rfl hl.1 rfl (lv_room (Nat.le_of_ble_eq_true rfl)) dX0_checkSight_6 ⟨Nat.zero_le _, Nat.zero_le _⟩) ?_
  refine lv_iload_n hx hb dX0_checkSight_9 rfl (lv_at hl 3 rfl) ?_
  refine q_callV (va_runS (As := [.int (nI sp)]) (rest := []) ⟨hx, hb, hml, hown, hts⟩ (kX0_checkShop l sp hs) (cwS 1 hts gX0_checkSight_X0_checkShop rfl rfl rfl (by decide +kernel) ⟨Nat.le_of_ble_eq_true rfl, Nat.le_of_ble_eq_true rfl⟩) ⟨sP_blind, sP_pre⟩ rfl rfl hl.1 rfl (lv_room (Nat.le_of_ble_eq_true rfl)) dX0_checkSight_10 ⟨Nat.zero_le _, Nat.zero_le _⟩) ?_
  refine lv_iload hx hb dX0_checkSight_13 (lv_at hl 4 rfl) ?_
  refine q_callV (va_runS (As := [.int (nI tp)]) (rest := []) ⟨hx, hb, hml, hown, hts⟩ (kX0_checkTongue l tp ht) (cwS 1 hts gX0_checkSight_X0_checkTongue rfl rfl rfl (by decide +kernel) ⟨Nat.le_of_ble_eq_true rfl, Nat.le_of_ble_eq_true rfl⟩) ⟨sP_blind, sP_pre⟩ rfl rfl hl.1 rfl (lv_room (Nat.le_of_ble_eq_true rfl)) dX0_checkSight_15 ⟨Nat.zero_le _, Nat.zero_le _⟩) ?_
  exact q_retV hx hb hr hlocks dX0_checkSight_18

set_option maxHeartbeats 4000000 in
set_option maxRecDepth 100000 in
theorem kX0_addGood (l : Launch) (D : va_G) (h : Nat) (ad : Nat → Nat) (cI cZ : ClassId) (ex : Nat → Bool) (pa : Nat → Option Nat) (di : Nat → Nat) (qu : Nat → Nat) (gc : Nat) (dg : Nat → Nat) (dp : Nat → Nat) (dv : Nat → Option Nat) (dd : Nat → Nat) (ds : Nat → Nat) (dc : Nat) (td : Nat) (ho : Nat → Option Nat) (ak : Nat → Bool) (se : Nat → Option Nat) (pr : Nat → Option Nat) (sz : Nat) (o : Option Nat) (lev : Nat → Nat) (hti : TI ex pa lev) (ho2 : okO ex o) (hlv : lvZ lev o ≤ 1) (hgc : gc < 16) : Met l yX0_addGood wsX0_addGood ({ frames := 2, cells := 0, slots := 0, locals := 45 } : Room) (wP D (hW h ad cI cZ ex pa di qu gc dg dp dv dd ds dc td ho ak se pr) (hT cI cZ) [.ref h, .int (oI o)] sz) (wQ D (hW h ad cI cZ ex pa di qu gc dg dp dv dd ds dc td ho ak se pr) (hW h ad cI cZ (va_up ex gc true) (va_up pa gc o) di qu (gc + 1) dg dp dv dd ds dc td ho ak se pr) (some (.int (nI gc)))) 0 0 (va_A (hW h ad cI cZ ex pa di qu gc dg dp dv dd ds dc td ho ak se pr) sz) := by
  refine Met.ofW (cc := cX0_addGood) (maxL := 3) (ret := (some .int)) (by decide) rfl ?_
  intro p e s m args below meth c s₁ B hml hv
  obtain ⟨rfl, hsz, hP, hK, hD0⟩ := hv
  have hx := B.exec
  have hb := B.bytes
  have hr := B.returns
  have hts := atoms_spec (ws := wsX0_addGood) B.pre
  have hown : s.vm.findClass RX0 = some m.cls := findClass_of_methodNamed B.named
  have hlocks := B.notSynchronized
  subst hsz
  have hD := hD0.self (sz := s.heap.size)
  generalize hAe : va_A (hW h ad cI cZ ex pa di qu gc dg dp dv dd ds dc td ho ak se pr) s.heap.size = A at hD ⊢
  have hA : ∀ q : Nat, s.heap.size ≤ q → A q := fun q h => by rw [← hAe]; exact Or.inr h
  have hS : va_S A s.heap s.heap [] := va_S.rf
  have hl := lv_entry ([.ref h, .int (oI o)]) (n := 3) (Nat.le_of_ble_eq_true rfl)
  rw [lg_entry_eq]
  generalize (lg_sl ([.ref h, .int (oI o)]) ++ List.replicate (3 - (lg_sl ([.ref h, .int (oI o)])).length) Slot.unset).toArray = ls at hl ⊢
  have hl : lv_has ls 3 [(0, .ref h), (1, .int (oI o))] := hl
  have hL1 := lvZ_ge lev o
  have hL2 := lvZ_le hti ho2
  refine lv_aload_n hx hb dX0_addGood_0 rfl (lv_at hl 0 rfl) ?_
  refine lv_iload_n hx hb dX0_addGood_1 rfl (lv_at hl 1 rfl) ?_
  refine q_callV (va_runV (As := [.int (oI o)]) (rest := []) ⟨hx, hb, hml, hown, hts⟩ (kX0_checkParent l D h ad cI cZ ex pa di qu gc dg dp dv dd ds dc td ho ak se pr o ho2) (cwV 1 hts gX0_addGood_X0_checkParent rfl rfl rfl (by decide +kernel) ⟨Nat.le_of_ble_eq_true rfl, Nat.le_of_ble_eq_true rfl⟩) ⟨pP_blind, va_recv hK hP (ci := 0) (q0 := 0) rfl rfl, pP_pre hP hK⟩ rfl rfl hl.1 rfl (lv_room (Nat.le_of_ble_eq_true rfl)) dX0_addGood_2 ⟨Nat.zero_le _, Nat.zero_le _⟩) ?_
  refine lv_aload_n hx hb dX0_addGood_5 rfl (lv_at hl 0 rfl) ?_
  refine lv_iload_n hx hb dX0_addGood_6 rfl (lv_at hl 1 rfl) ?_
  refine q_callI (r := zI (lvZ lev o)) (va_runV (As := [.int (oI o)]) (rest := []) ⟨hx, hb, hml, hown, hts⟩ (kX0_levelOf l D h ad cI cZ ex pa di qu gc dg dp dv dd ds dc td ho ak se pr o lev hti ho2) (cwV 1 hts gX0_addGood_X0_levelOf rfl rfl rfl (by decide +kernel) ⟨Nat.le_of_ble_eq_true rfl, Nat.le_of_ble_eq_true rfl⟩) ⟨pP_blind, va_recv hK hP (ci := 0) (q0 := 0) rfl rfl, pP_pre hP hK⟩ rfl rfl hl.1 rfl (lv_room (Nat.le_of_ble_eq_true rfl)) dX0_addGood_7 ⟨Nat.zero_le _, Nat.zero_le _⟩) ?_
  refine lv_iconst (v := nI 1) hx hb dX0_addGood_10 (by decide) ?_
  refine q_top (y := zI ((1 : Nat) : Int)) (nz 1) ?_
  refine q_addZ (a := lvZ lev o) (b := ((1 : Nat) : Int)) hx hb dX0_addGood_11 ?_
  refine lv_iconst (v := nI 3) hx hb dX0_addGood_12 (by decide) ?_
  refine q_top (y := zI ((3 : Nat) : Int)) (nz 3) ?_
  refine q_icmpZ_lt (a := (lvZ lev o) + ((1 : Nat) : Int)) (b := ((3 : Nat) : Int)) (tgt := 26) (by omega) (by omega) hx hb dX0_addGood_13 (by decide) (fun k13 => ?_) (fun k13 => absurd k13 (by omega))
  refine lv_aload_n hx hb dX0_addGood_26 rfl (lv_at hl 0 rfl) ?_
  refine va_get (D := D) (ci := 0) (v := .int (nI gc)) (C := RX0) (T := TX0) (N := 16) hx hb hts (iX0_addGood) hown hK hP 0 rfl rfl 4 (by decide) (hts (.fieldLink RX0 23 "ShopHub" "goodCount" "I") (by decide +kernel)) (fun _ h9 => h9) rfl dX0_addGood_27 ?_
  refine lv_bipush (v := nI 16) hx hb dX0_addGood_30 (by decide) ?_
  refine q_icmpN_lt (a := gc) (b := 16) (tgt := 45) (by omega) (by omega) hx hb dX0_addGood_32 (by decide) (fun k32 => ?_) (fun k32 => absurd k32 (by omega))
  refine lv_aload_n hx hb dX0_addGood_45 rfl (lv_at hl 0 rfl) ?_
  refine va_get (D := D) (ci := 0) (v := .int (nI gc)) (C := RX0) (T := TX0) (N := 16) hx hb hts (iX0_addGood) hown hK hP 0 rfl rfl 4 (by decide) (hts (.fieldLink RX0 23 "ShopHub" "goodCount" "I") (by decide +kernel)) (fun _ h9 => h9) rfl dX0_addGood_46 ?_
  refine lv_istore_n (lv' := [(2, .int (nI gc)), (0, .ref h), (1, .int (oI o))]) hx hb dX0_addGood_49 rfl hl (by decide) rfl (fun ls hl => ?_)
  refine lv_aload_n hx hb dX0_addGood_50 rfl (lv_at hl 1 rfl) ?_
  refine lv_dup hx hb dX0_addGood_51 rfl ?_
  refine va_get (D := D) (ci := 0) (v := .int (nI gc)) (C := RX0) (T := TX0) (N := 16) hx hb hts (iX0_addGood) hown hK hP 0 rfl rfl 4 (by decide) (hts (.fieldLink RX0 23 "ShopHub" "goodCount" "I") (by decide +kernel)) (fun _ h9 => h9) rfl dX0_addGood_52 ?_
  refine lv_iconst (v := nI 1) hx hb dX0_addGood_55 (by decide) ?_
  refine q_addN (a := gc) (b := 1) hx hb dX0_addGood_56 ?_
  refine va_put (D := D) (ci := 0) (v := .int (nI (gc + 1))) (ty := .int) (C := RX0) (T := TX0) (N := 16) hx hb hts (iX0_addGood) tyX0 tyX0_ok nmX0 hown hK hP hD hS 0 rfl rfl 4 (by decide) (hts (.fieldLink RX0 23 "ShopHub" "goodCount" "I") (by decide +kernel)) (fun _ h9 => h9) rfl (by decide +kernel) rfl rfl (Nat.le_of_ble_eq_true rfl) dX0_addGood_57 (fun H locs hP hD hS => ?_)
  have hP : va_P D vwCl (hW h ad cI cZ ex pa di qu (gc + 1) dg dp dv dd ds dc td ho ak se pr) H := hP
  have hD : va_D A (hW h ad cI cZ ex pa di qu (gc + 1) dg dp dv dd ds dc td ho ak se pr) := hD
  refine lv_aload_n hx hb dX0_addGood_60 rfl (lv_at hl 1 rfl) ?_
  refine va_get (D := D) (ci := 0) (v := .ref (ad 0)) (C := RX0) (T := TX0) (N := 16) hx hb hts (iX0_addGood) hown hK hP 0 rfl rfl 0 (by decide) (hts (.fieldLink RX0 9 "ShopHub" "exists" "[Z") (by decide +kernel)) (fun _ h9 => h9) rfl dX0_addGood_61 ?_
  refine lv_iload_n hx hb dX0_addGood_64 rfl (lv_at hl 0 rfl) ?_
  refine lv_iconst (v := nI 1) hx hb dX0_addGood_65 (by decide) ?_
  refine q_top (y := bI true) ((by decide : nI 1 = bI true)) ?_
  refine q_zst ex true hx hb hK hP hD hS 1 0 rfl rfl (k := gc) (by omega) (Nat.le_of_ble_eq_true rfl) dX0_addGood_66 (fun H locs hP hD hS => ?_)
  have hP : va_P D vwCl (hW h ad cI cZ (va_up ex gc true) pa di qu (gc + 1) dg dp dv dd ds dc td ho ak se pr) H := hP
  have hD : va_D A (hW h ad cI cZ (va_up ex gc true) pa di qu (gc + 1) dg dp dv dd ds dc td ho ak se pr) := hD
  refine lv_aload_n hx hb dX0_addGood_67 rfl (lv_at hl 1 rfl) ?_
  refine va_get (D := D) (ci := 0) (v := .ref (ad 1)) (C := RX0) (T := TX0) (N := 16) hx hb hts (iX0_addGood) hown hK hP 0 rfl rfl 1 (by decide) (hts (.fieldLink RX0 13 "ShopHub" "parents" "[I") (by decide +kernel)) (fun _ h9 => h9) rfl dX0_addGood_68 ?_
  refine lv_iload_n hx hb dX0_addGood_71 rfl (lv_at hl 0 rfl) ?_
  refine lv_iload_n hx hb dX0_addGood_72 rfl (lv_at hl 2 rfl) ?_
  refine q_ast oI pa o hx hb hK hP hD hS 2 1 rfl rfl (k := gc) (by omega) (Nat.le_of_ble_eq_true rfl) dX0_addGood_73 (fun H locs hP hD hS => ?_)
  have hP : va_P D vwCl (hW h ad cI cZ (va_up ex gc true) (va_up pa gc o) di qu (gc + 1) dg dp dv dd ds dc td ho ak se pr) H := hP
  have hD : va_D A (hW h ad cI cZ (va_up ex gc true) (va_up pa gc o) di qu (gc + 1) dg dp dv dd ds dc td ho ak se pr) := hD
  refine lv_iload_n hx hb dX0_addGood_74 rfl (lv_at hl 0 rfl) ?_
  exact q_wretI hx hb hr hlocks hAe hP hS (rfl) dX0_addGood_75

set_option maxHeartbeats 4000000 in
set_option maxRecDepth 100000 in
theorem kX0_move (l : Launch) (D : va_G) (h : Nat) (ad : Nat → Nat) (cI cZ : ClassId) (ex : Nat → Bool) (pa : Nat → Option Nat) (di : Nat → Nat) (qu : Nat → Nat) (gc : Nat) (dg : Nat → Nat) (dp : Nat → Nat) (dv : Nat → Option Nat) (dd : Nat → Nat) (ds : Nat → Nat) (dc : Nat) (td : Nat) (ho : Nat → Option Nat) (ak : Nat → Bool) (se : Nat → Option Nat) (pr : Nat → Option Nat) (sz : Nat) (g : Nat) (o : Option Nat) (lev : Nat → Nat) (hti : TI ex pa lev) (hpr : PR pa) (hg : g < 16) (he : ex g = true) (ho2 : okO ex o) (hw : wth ex pa g 3 o = false) (hlv : lvZ lev o + ((mxd (fun k => wth ex pa g 3 (some k)) lev (lev g) 16 : Nat) : Int) - ((lev g : Nat) : Int) + 1 < 3) : Met l yX0_move wsX0_move ({ frames := 3, cells := 0, slots := 0, locals := 68 } : Room) (wP D (hW h ad cI cZ ex pa di qu gc dg dp dv dd ds dc td ho ak se pr) (hT cI cZ) [.ref h, .int (nI g), .int (oI o)] sz) (wQ D (hW h ad cI cZ ex pa di qu gc dg dp dv dd ds dc td ho ak se pr) (hW h ad cI cZ ex (va_up pa g o) di qu gc dg dp dv dd ds dc td ho ak se pr) (some (.int (oI (pa g))))) 0 0 (va_A (hW h ad cI cZ ex pa di qu gc dg dp dv dd ds dc td ho ak se pr) sz) := by
  refine Met.ofW (cc := cX0_move) (maxL := 4) (ret := (some .int)) (by decide) rfl ?_
  intro p e s m args below meth c s₁ B hml hv
  obtain ⟨rfl, hsz, hP, hK, hD0⟩ := hv
  have hx := B.exec
  have hb := B.bytes
  have hr := B.returns
  have hts := atoms_spec (ws := wsX0_move) B.pre
  have hown : s.vm.findClass RX0 = some m.cls := findClass_of_methodNamed B.named
  have hlocks := B.notSynchronized
  subst hsz
  have hD := hD0.self (sz := s.heap.size)
  generalize hAe : va_A (hW h ad cI cZ ex pa di qu gc dg dp dv dd ds dc td ho ak se pr) s.heap.size = A at hD ⊢
  have hA : ∀ q : Nat, s.heap.size ≤ q → A q := fun q h => by rw [← hAe]; exact Or.inr h
  have hS : va_S A s.heap s.heap [] := va_S.rf
  have hl := lv_entry ([.ref h, .int (nI g), .int (oI o)]) (n := 4) (Nat.le_of_ble_eq_true rfl)
  rw [lg_entry_eq]
  generalize (lg_sl ([.ref h, .int (nI g), .int (oI o)]) ++ List.replicate (4 - (lg_sl ([.ref h, .int (nI g), .int (oI o)])).length) Slot.unset).toArray = ls at hl ⊢
  have hl : lv_has ls 4 [(0, .ref h), (1, .int (nI g)), (2, .int (oI o))] := hl
  have hL1 := lvZ_ge lev o
  have hL2 := lvZ_le hti ho2
  have hM1 : mxd (fun k => wth ex pa g 3 (some k)) lev (lev g) 16 ≤ 2 := mxd_le (TI_le hti hg he) (fun k hk h9 => TI_le hti hk (wth_ex h9)) 16 (Nat.le_refl 16)
  have hM2 := TI_le hti hg he
  refine lv_aload_n hx hb dX0_move_0 rfl (lv_at hl 0 rfl) ?_
  refine lv_iload_n hx hb dX0_move_1 rfl (lv_at hl 1 rfl) ?_
  refine q_callV (va_runV (As := [.int (nI g)]) (rest := []) ⟨hx, hb, hml, hown, hts⟩ (kX0_checkGood l D h ad cI cZ ex pa di qu gc dg dp dv dd ds dc td ho ak se pr g hg he) (cwV 1 hts gX0_move_X0_checkGood rfl rfl rfl (by decide +kernel) ⟨Nat.le_of_ble_eq_true rfl, Nat.le_of_ble_eq_true rfl⟩) ⟨pP_blind, va_recv hK hP (ci := 0) (q0 := 0) rfl rfl, pP_pre hP hK⟩ rfl rfl hl.1 rfl (lv_room (Nat.le_of_ble_eq_true rfl)) dX0_move_2 ⟨Nat.zero_le _, Nat.zero_le _⟩) ?_
  refine lv_aload_n hx hb dX0_move_5 rfl (lv_at hl 0 rfl) ?_
  refine lv_iload_n hx hb dX0_move_6 rfl (lv_at hl 2 rfl) ?_
  refine q_callV (va_runV (As := [.int (oI o)]) (rest := []) ⟨hx, hb, hml, hown, hts⟩ (kX0_checkParent l D h ad cI cZ ex pa di qu gc dg dp dv dd ds dc td ho ak se pr o ho2) (cwV 1 hts gX0_move_X0_checkParent rfl rfl rfl (by decide +kernel) ⟨Nat.le_of_ble_eq_true rfl, Nat.le_of_ble_eq_true rfl⟩) ⟨pP_blind, va_recv hK hP (ci := 0) (q0 := 0) rfl rfl, pP_pre hP hK⟩ rfl rfl hl.1 rfl (lv_room (Nat.le_of_ble_eq_true rfl)) dX0_move_7 ⟨Nat.zero_le _, Nat.zero_le _⟩) ?_
  refine lv_aload_n hx hb dX0_move_10 rfl (lv_at hl 0 rfl) ?_
  refine lv_iload_n hx hb dX0_move_11 rfl (lv_at hl 2 rfl) ?_
  refine lv_iload_n hx hb dX0_move_12 rfl (lv_at hl 1 rfl) ?_
  refine q_callI (r := bI (wth ex pa g 3 o)) (va_runV (As := [.int (oI o), .int (nI g)]) (rest := []) ⟨hx, hb, hml, hown, hts⟩ (kX0_isWithin l D h ad cI cZ ex pa di qu gc dg dp dv dd ds dc td ho ak se pr o g hg hpr (fun k h9 => (ho2 k h9).1)) (cwV 2 hts gX0_move_X0_isWithin rfl rfl rfl (by decide +kernel) ⟨Nat.le_of_ble_eq_true rfl, Nat.le_of_ble_eq_true rfl⟩) ⟨pP_blind, va_recv hK hP (ci := 0) (q0 := 0) rfl rfl, pP_pre hP hK⟩ rfl rfl hl.1 rfl (lv_room (Nat.le_of_ble_eq_true rfl)) dX0_move_13 ⟨Nat.zero_le _, Nat.zero_le _⟩) ?_
  refine q_ifB_eq (b := wth ex pa g 3 o) (tgt := 29) hx hb dX0_move_16 (by decide) (fun k16 => ?_) (fun k16 => absurd k16 (by rw [hw]; decide))
  refine lv_aload_n hx hb dX0_move_29 rfl (lv_at hl 0 rfl) ?_
  refine lv_iload_n hx hb dX0_move_30 rfl (lv_at hl 2 rfl) ?_
  refine q_callI (r := zI (lvZ lev o)) (va_runV (As := [.int (oI o)]) (rest := []) ⟨hx, hb, hml, hown, hts⟩ (kX0_levelOf l D h ad cI cZ ex pa di qu gc dg dp dv dd ds dc td ho ak se pr o lev hti ho2) (cwV 1 hts gX0_move_X0_levelOf rfl rfl rfl (by decide +kernel) ⟨Nat.le_of_ble_eq_true rfl, Nat.le_of_ble_eq_true rfl⟩) ⟨pP_blind, va_recv hK hP (ci := 0) (q0 := 0) rfl rfl, pP_pre hP hK⟩ rfl rfl hl.1 rfl (lv_room (Nat.le_of_ble_eq_true rfl)) dX0_move_31 ⟨Nat.zero_le _, Nat.zero_le _⟩) ?_
  refine lv_aload_n hx hb dX0_move_34 rfl (lv_at hl 0 rfl) ?_
  refine lv_iload_n hx hb dX0_move_35 rfl (lv_at hl 1 rfl) ?_
  refine q_callI (r := zI (((mxd (fun k => wth ex pa g 3 (some k)) lev (lev g) 16 : Nat) : Int) - ((lev g : Nat) : Int) + 1)) (va_runV (As := [.int (nI g)]) (rest := [.int (zI (lvZ lev o))]) ⟨hx, hb, hml, hown, hts⟩ (kX0_levelsWithin l D h ad cI cZ ex pa di qu gc dg dp dv dd ds dc td ho ak se pr g lev hg he hti hpr) (cwV 1 hts gX0_move_X0_levelsWithin rfl rfl rfl (by decide +kernel) ⟨Nat.le_of_ble_eq_true rfl, Nat.le_of_ble_eq_true rfl⟩) ⟨pP_blind, va_recv hK hP (ci := 0) (q0 := 0) rfl rfl, pP_pre hP hK⟩ rfl rfl hl.1 rfl (lv_room (Nat.le_of_ble_eq_true rfl)) dX0_move_36 ⟨Nat.zero_le _, Nat.zero_le _⟩) ?_
  refine q_addZ (a := lvZ lev o) (b := ((mxd (fun k => wth ex pa g 3 (some k)) lev (lev g) 16 : Nat) : Int) - ((lev g : Nat) : Int) + 1) hx hb dX0_move_39 ?_
  refine lv_iconst (v := nI 3) hx hb dX0_move_40 (by decide) ?_
  refine q_top (y := zI ((3 : Nat) : Int)) (nz 3) ?_
  refine q_icmpZ_lt (a := (lvZ lev o) + (((mxd (fun k => wth ex pa g 3 (some k)) lev (lev g) 16 : Nat) : Int) - ((lev g : Nat) : Int) + 1)) (b := ((3 : Nat) : Int)) (tgt := 54) (by omega) (by omega) hx hb dX0_move_41 (by decide) (fun k41 => ?_) (fun k41 => absurd k41 (by omega))
  refine lv_aload_n hx hb dX0_move_54 rfl (lv_at hl 0 rfl) ?_
  refine va_get (D := D) (ci := 0) (v := .ref (ad 1)) (C := RX0) (T := TX0) (N := 16) hx hb hts (iX0_move) hown hK hP 0 rfl rfl 1 (by decide) (hts (.fieldLink RX0 13 "ShopHub" "parents" "[I") (by decide +kernel)) (fun _ h9 => h9) rfl dX0_move_55 ?_
  refine lv_iload_n hx hb dX0_move_58 rfl (lv_at hl 1 rfl) ?_
  refine q_ald oI pa hx hb hK hP 2 1 rfl rfl (k := g) (by omega) (Nat.le_of_ble_eq_true rfl) dX0_move_59 ?_
  refine lv_istore_n (lv' := [(3, .int (oI (pa g))), (0, .ref h), (1, .int (nI g)), (2, .int (oI o))]) hx hb dX0_move_60 rfl hl (by decide) rfl (fun ls hl => ?_)
  refine lv_aload_n hx hb dX0_move_61 rfl (lv_at hl 1 rfl) ?_
  refine va_get (D := D) (ci := 0) (v := .ref (ad 1)) (C := RX0) (T := TX0) (N := 16) hx hb hts (iX0_move) hown hK hP 0 rfl rfl 1 (by decide) (hts (.fieldLink RX0 13 "ShopHub" "parents" "[I") (by decide +kernel)) (fun _ h9 => h9) rfl dX0_move_62 ?_
  refine lv_iload_n hx hb dX0_move_65 rfl (lv_at hl 2 rfl) ?_
  refine lv_iload_n hx hb dX0_move_66 rfl (lv_at hl 3 rfl) ?_
  refine q_ast oI pa o hx hb hK hP hD hS 2 1 rfl rfl (k := g) (by omega) (Nat.le_of_ble_eq_true rfl) dX0_move_67 (fun H locs hP hD hS => ?_)
  have hP : va_P D vwCl (hW h ad cI cZ ex (va_up pa g o) di qu gc dg dp dv dd ds dc td ho ak se pr) H := hP
  have hD : va_D A (hW h ad cI cZ ex (va_up pa g o) di qu gc dg dp dv dd ds dc td ho ak se pr) := hD
  refine lv_iload_n hx hb dX0_move_68 rfl (lv_at hl 0 rfl) ?_
  exact q_wretI hx hb hr hlocks hAe hP hS (rfl) dX0_move_69

set_option maxHeartbeats 4000000 in
set_option maxRecDepth 100000 in
theorem kX0_delete (l : Launch) (D : va_G) (h : Nat) (ad : Nat → Nat) (cI cZ : ClassId) (ex : Nat → Bool) (pa : Nat → Option Nat) (di : Nat → Nat) (qu : Nat → Nat) (gc : Nat) (dg : Nat → Nat) (dp : Nat → Nat) (dv : Nat → Option Nat) (dd : Nat → Nat) (ds : Nat → Nat) (dc : Nat) (td : Nat) (ho : Nat → Option Nat) (ak : Nat → Bool) (se : Nat → Option Nat) (pr : Nat → Option Nat) (sz : Nat) (g : Nat) (hg : g < 16) (he : ex g = true) (hpr : PR pa) (hqu : ∀ k, k < 256 → qu k ≤ 20) (hnp : exU (fun k => decide (pa k = some g)) 16 = false) (hnq : exU (fun k => decide (0 < qu (k * 16 + g))) 16 = false) (hdg : ∀ k, k < dc → dg k < 16) (hdc : dc ≤ 200) (htd : td < 2147483648) (hdp : ∀ k, k < dc → dp k < 1536) (hdd : ∀ k, k < dc → dd k ≤ 1000) (hds : ∀ k, k < dc → ds k ≤ 4) : Met l yX0_delete wsX0_delete ({ frames := 3, cells := 0, slots := 0, locals := 65 } : Room) (wP D (hW h ad cI cZ ex pa di qu gc dg dp dv dd ds dc td ho ak se pr) (hT cI cZ) [.ref h, .int (nI g)] sz) (wQ D (hW h ad cI cZ ex pa di qu gc dg dp dv dd ds dc td ho ak se pr) (hW h ad cI cZ (va_up ex g false) (va_up pa g none) di (clr qu (g * 16) 16) gc dg dp dv dd (kil ds dg g dc) dc td (stl ho (kil ds dg g dc) dd dp td dc) ak se pr) none) 0 0 (va_A (hW h ad cI cZ ex pa di qu gc dg dp dv dd ds dc td ho ak se pr) sz) := by
  refine Met.ofW (cc := cX0_delete) (maxL := 3) (ret := none) (by decide) rfl ?_
  intro p e s m args below meth c s₁ B hml hv
  obtain ⟨rfl, hsz, hP, hK, hD0⟩ := hv
  have hx := B.exec
  have hb := B.bytes
  have hr := B.returns
  have hts := atoms_spec (ws := wsX0_delete) B.pre
  have hown : s.vm.findClass RX0 = some m.cls := findClass_of_methodNamed B.named
  have hlocks := B.notSynchronized
  subst hsz
  have hD := hD0.self (sz := s.heap.size)
  generalize hAe : va_A (hW h ad cI cZ ex pa di qu gc dg dp dv dd ds dc td ho ak se pr) s.heap.size = A at hD ⊢
  have hA : ∀ q : Nat, s.heap.size ≤ q → A q := fun q h => by rw [← hAe]; exact Or.inr h
  have hS : va_S A s.heap s.heap [] := va_S.rf
  have hl := lv_entry ([.ref h, .int (nI g)]) (n := 3) (Nat.le_of_ble_eq_true rfl)
  rw [lg_entry_eq]
  generalize (lg_sl ([.ref h, .int (nI g)]) ++ List.replicate (3 - (lg_sl ([.ref h, .int (nI g)])).length) Slot.unset).toArray = ls at hl ⊢
  have hl : lv_has ls 3 [(0, .ref h), (1, .int (nI g))] := hl
  refine lv_aload_n hx hb dX0_delete_0 rfl (lv_at hl 0 rfl) ?_
  refine lv_iload_n hx hb dX0_delete_1 rfl (lv_at hl 1 rfl) ?_
  refine q_callV (va_runV (As := [.int (nI g)]) (rest := []) ⟨hx, hb, hml, hown, hts⟩ (kX0_checkGood l D h ad cI cZ ex pa di qu gc dg dp dv dd ds dc td ho ak se pr g hg he) (cwV 1 hts gX0_delete_X0_checkGood rfl rfl rfl (by decide +kernel) ⟨Nat.le_of_ble_eq_true rfl, Nat.le_of_ble_eq_true rfl⟩) ⟨pP_blind, va_recv hK hP (ci := 0) (q0 := 0) rfl rfl, pP_pre hP hK⟩ rfl rfl hl.1 rfl (lv_room (Nat.le_of_ble_eq_true rfl)) dX0_delete_2 ⟨Nat.zero_le _, Nat.zero_le _⟩) ?_
  refine lv_aload_n hx hb dX0_delete_5 rfl (lv_at hl 0 rfl) ?_
  refine lv_iload_n hx hb dX0_delete_6 rfl (lv_at hl 1 rfl) ?_
  refine q_callI (r := bI (exU (fun k => decide (pa k = some g)) 16)) (va_runV (As := [.int (nI g)]) (rest := []) ⟨hx, hb, hml, hown, hts⟩ (kX0_isParent l D h ad cI cZ ex pa di qu gc dg dp dv dd ds dc td ho ak se pr g hg hpr) (cwV 1 hts gX0_delete_X0_isParent rfl rfl rfl (by decide +kernel) ⟨Nat.le_of_ble_eq_true rfl, Nat.le_of_ble_eq_true rfl⟩) ⟨pP_blind, va_recv hK hP (ci := 0) (q0 := 0) rfl rfl, pP_pre hP hK⟩ rfl rfl hl.1 rfl (lv_room (Nat.le_of_ble_eq_true rfl)) dX0_delete_7 ⟨Nat.zero_le _, Nat.zero_le _⟩) ?_
  refine q_ifB_eq (b := exU (fun k => decide (pa k = some g)) 16) (tgt := 23) hx hb dX0_delete_10 (by decide) (fun k10 => ?_) (fun k10 => absurd k10 (by rw [hnp]; decide))
  refine lv_aload_n hx hb dX0_delete_23 rfl (lv_at hl 0 rfl) ?_
  refine lv_iload_n hx hb dX0_delete_24 rfl (lv_at hl 1 rfl) ?_
  refine q_callI (r := bI (exU (fun k => decide (0 < qu (k * 16 + g))) 16)) (va_runV (As := [.int (nI g)]) (rest := []) ⟨hx, hb, hml, hown, hts⟩ (kX0_isPart l D h ad cI cZ ex pa di qu gc dg dp dv dd ds dc td ho ak se pr g hg hqu) (cwV 1 hts gX0_delete_X0_isPart rfl rfl rfl (by decide +kernel) ⟨Nat.le_of_ble_eq_true rfl, Nat.le_of_ble_eq_true rfl⟩) ⟨pP_blind, va_recv hK hP (ci := 0) (q0 := 0) rfl rfl, pP_pre hP hK⟩ rfl rfl hl.1 rfl (lv_room (Nat.le_of_ble_eq_true rfl)) dX0_delete_25 ⟨Nat.zero_le _, Nat.zero_le _⟩) ?_
  refine q_ifB_eq (b := exU (fun k => decide (0 < qu (k * 16 + g))) 16) (tgt := 41) hx hb dX0_delete_28 (by decide) (fun k28 => ?_) (fun k28 => absurd k28 (by rw [hnq]; decide))
  refine lv_aload_n hx hb dX0_delete_41 rfl (lv_at hl 0 rfl) ?_
  refine va_get (D := D) (ci := 0) (v := .ref (ad 0)) (C := RX0) (T := TX0) (N := 16) hx hb hts (iX0_delete) hown hK hP 0 rfl rfl 0 (by decide) (hts (.fieldLink RX0 9 "ShopHub" "exists" "[Z") (by decide +kernel)) (fun _ h9 => h9) rfl dX0_delete_42 ?_
  refine lv_iload_n hx hb dX0_delete_45 rfl (lv_at hl 1 rfl) ?_
  refine lv_iconst (v := nI 0) hx hb dX0_delete_46 (by decide) ?_
  refine q_top (y := bI false) ((by decide : nI 0 = bI false)) ?_
  refine q_zst ex false hx hb hK hP hD hS 1 0 rfl rfl (k := g) (by omega) (Nat.le_of_ble_eq_true rfl) dX0_delete_47 (fun H locs hP hD hS => ?_)
  have hP : va_P D vwCl (hW h ad cI cZ (va_up ex g false) pa di qu gc dg dp dv dd ds dc td ho ak se pr) H := hP
  have hD : va_D A (hW h ad cI cZ (va_up ex g false) pa di qu gc dg dp dv dd ds dc td ho ak se pr) := hD
  refine lv_aload_n hx hb dX0_delete_48 rfl (lv_at hl 0 rfl) ?_
  refine va_get (D := D) (ci := 0) (v := .ref (ad 1)) (C := RX0) (T := TX0) (N := 16) hx hb hts (iX0_delete) hown hK hP 0 rfl rfl 1 (by decide) (hts (.fieldLink RX0 13 "ShopHub" "parents" "[I") (by decide +kernel)) (fun _ h9 => h9) rfl dX0_delete_49 ?_
  refine lv_iload_n hx hb dX0_delete_52 rfl (lv_at hl 1 rfl) ?_
  refine lv_iconst (v := oI none) hx hb dX0_delete_53 (by decide) ?_
  refine q_ast oI pa none hx hb hK hP hD hS 2 1 rfl rfl (k := g) (by omega) (Nat.le_of_ble_eq_true rfl) dX0_delete_54 (fun H locs hP hD hS => ?_)
  have hP : va_P D vwCl (hW h ad cI cZ (va_up ex g false) (va_up pa g none) di qu gc dg dp dv dd ds dc td ho ak se pr) H := hP
  have hD : va_D A (hW h ad cI cZ (va_up ex g false) (va_up pa g none) di qu gc dg dp dv dd ds dc td ho ak se pr) := hD
  refine lv_iconst (v := nI 0) hx hb dX0_delete_55 (by decide) ?_
  refine lv_istore_n (lv' := [(2, .int (nI 0)), (0, .ref h), (1, .int (nI g))]) hx hb dX0_delete_56 rfl hl (by decide) rfl (fun ls hl => ?_)
  have loop57 : ∀ (n : Nat) (i : Nat), (i ≤ 16) → (17 ≤ i + n) → ∀ (H : Heap) (locs : List Loc), va_P D vwCl (hW h ad cI cZ (va_up ex g false) (va_up pa g none) di (clr qu (g * 16) i) gc dg dp dv dd ds dc td ho ak se pr) H → va_D A (hW h ad cI cZ (va_up ex g false) (va_up pa g none) di (clr qu (g * 16) i) gc dg dp dv dd ds dc td ho ak se pr) → va_S A s.heap H locs → ∀ ls : Array Slot, lv_has ls 3 [(0, .ref h), (1, .int (nI g)), (2, .int (nI i))] → W p l e ({ frames := 3, cells := 0, slots := 0, locals := 65 } : Room) s m ([.ref h, .int (nI g)] : List Value).toArray below meth c H locs 0 0 (MQ below (wQ D (hW h ad cI cZ ex pa di qu gc dg dp dv dd ds dc td ho ak se pr) (hW h ad cI cZ (va_up ex g false) (va_up pa g none) di (clr qu (g * 16) 16) gc dg dp dv dd (kil ds dg g dc) dc td (stl ho (kil ds dg g dc) dd dp td dc) ak se pr) none) ([.ref h, .int (nI g)] : List Value).toArray s 0 0 A) (F0 m 57 ls []) := by
    intro n
    induction n with
    | zero => intro i hle hn; omega
    | succ n ih =>
      intro i hle hn H locs hP hD hS ls hl
      refine lv_iload_n hx hb dX0_delete_57 rfl (lv_at hl 2 rfl) ?_
      refine lv_bipush (v := nI 16) hx hb dX0_delete_58 (by decide) ?_
      refine q_icmpN_ge (a := i) (b := 16) (tgt := 81) (by omega) (by omega) hx hb dX0_delete_60 (by decide) (fun k60 => ?_) (fun k60 => ?_)
      · refine lv_aload_n hx hb dX0_delete_81 rfl (lv_at hl 0 rfl) ?_
        refine lv_iload_n hx hb dX0_delete_82 rfl (lv_at hl 1 rfl) ?_
        refine q_wcallV (w' := (hW h ad cI cZ (va_up ex g false) (va_up pa g none) di (clr qu (g * 16) i) gc dg dp dv dd (kil ds dg g dc) dc td ho ak se pr)) (va_runV (As := [.int (nI g)]) (rest := []) ⟨hx, hb, hml, hown, hts⟩ (kX0_deleteDraftsOf l D h ad cI cZ (va_up ex g false) (va_up pa g none) di (clr qu (g * 16) i) gc dg dp dv dd ds dc td ho ak se pr _ g hdc hg hdg) (cwV 1 hts gX0_delete_X0_deleteDraftsOf rfl rfl rfl (by decide +kernel) ⟨Nat.le_of_ble_eq_true rfl, Nat.le_of_ble_eq_true rfl⟩) ⟨wP_blind, va_recv hK hP (ci := 0) (q0 := 0) rfl rfl, wP_pre hP hK hD⟩ rfl rfl hl.1 rfl (lv_room (Nat.le_of_ble_eq_true rfl)) dX0_delete_83 ⟨Nat.zero_le _, Nat.zero_le _⟩) hD hS hA rfl (fun H locs hP hD hS => ?_)
        refine lv_aload_n hx hb dX0_delete_86 rfl (lv_at hl 0 rfl) ?_
        refine q_wcallV (w' := (hW h ad cI cZ (va_up ex g false) (va_up pa g none) di (clr qu (g * 16) i) gc dg dp dv dd (kil ds dg g dc) dc td (stl ho (kil ds dg g dc) dd dp td dc) ak se pr)) (va_runV (As := []) (rest := []) ⟨hx, hb, hml, hown, hts⟩ (kX0_settleHolders l D h ad cI cZ (va_up ex g false) (va_up pa g none) di (clr qu (g * 16) i) gc dg dp dv dd (kil ds dg g dc) dc td ho ak se pr _ hdc htd hdp hdd (kil_le hds)) (cwV 0 hts gX0_delete_X0_settleHolders rfl rfl rfl (by decide +kernel) ⟨Nat.le_of_ble_eq_true rfl, Nat.le_of_ble_eq_true rfl⟩) ⟨wP_blind, va_recv hK hP (ci := 0) (q0 := 0) rfl rfl, wP_pre hP hK hD⟩ rfl rfl hl.1 rfl (lv_room (Nat.le_of_ble_eq_true rfl)) dX0_delete_87 ⟨Nat.zero_le _, Nat.zero_le _⟩) hD hS hA rfl (fun H locs hP hD hS => ?_)
        have hP : va_P D vwCl (hW h ad cI cZ (va_up ex g false) (va_up pa g none) di (clr qu (g * 16) 16) gc dg dp dv dd (kil ds dg g dc) dc td (stl ho (kil ds dg g dc) dd dp td dc) ak se pr) H := by rw [show clr qu (g * 16) 16 = clr qu (g * 16) i from by rw [show i = 16 by omega]]; exact hP
        exact q_wretV hx hb hr hlocks hAe hP hS dX0_delete_90
      · refine lv_aload_n hx hb dX0_delete_63 rfl (lv_at hl 0 rfl) ?_
        refine va_get (D := D) (ci := 0) (v := .ref (ad 3)) (C := RX0) (T := TX0) (N := 16) hx hb hts (iX0_delete) hown hK hP 0 rfl rfl 3 (by decide) (hts (.fieldLink RX0 20 "ShopHub" "quantities" "[I") (by decide +kernel)) (fun _ h9 => h9) rfl dX0_delete_64 ?_
        refine lv_iload_n hx hb dX0_delete_67 rfl (lv_at hl 1 rfl) ?_
        refine lv_bipush (v := nI 16) hx hb dX0_delete_68 (by decide) ?_
        refine q_mulN (a := g) (b := 16) hx hb dX0_delete_70 ?_
        refine lv_iload_n hx hb dX0_delete_71 rfl (lv_at hl 2 rfl) ?_
        refine q_addN (a := g * 16) (b := i) hx hb dX0_delete_72 ?_
        refine lv_iconst (v := nI 0) hx hb dX0_delete_73 (by decide) ?_
        refine q_ast nI (clr qu (g * 16) i) 0 hx hb hK hP hD hS 4 1 rfl rfl (k := (g * 16) + i) (by omega) (Nat.le_of_ble_eq_true rfl) dX0_delete_74 (fun H locs hP hD hS => ?_)
        have hP : va_P D vwCl (hW h ad cI cZ (va_up ex g false) (va_up pa g none) di (va_up (clr qu (g * 16) i) ((g * 16) + i) 0) gc dg dp dv dd ds dc td ho ak se pr) H := hP
        have hD : va_D A (hW h ad cI cZ (va_up ex g false) (va_up pa g none) di (va_up (clr qu (g * 16) i) ((g * 16) + i) 0) gc dg dp dv dd ds dc td ho ak se pr) := hD
        refine lv_iinc (v := nI (i + 1)) (lv' := [(2, .int (nI (i + 1))), (0, .ref h), (1, .int (nI g))]) hx hb dX0_delete_75 hl (k := 2) rfl (i1_n i) (by decide) rfl (fun ls hl => ?_)
        refine lv_goto (tgt := 57) hx hb dX0_delete_78 (by decide) ?_
        have hP : va_P D vwCl (hW h ad cI cZ (va_up ex g false) (va_up pa g none) di (clr qu (g * 16) (i + 1)) gc dg dp dv dd ds dc td ho ak se pr) H := by rw [show clr qu (g * 16) (i + 1) = va_up (clr qu (g * 16) i) ((g * 16) + i) 0 from clr_s _ _ _]; exact hP
        have hD : va_D A (hW h ad cI cZ (va_up ex g false) (va_up pa g none) di (clr qu (g * 16) (i + 1)) gc dg dp dv dd ds dc td ho ak se pr) := by rw [show clr qu (g * 16) (i + 1) = va_up (clr qu (g * 16) i) ((g * 16) + i) 0 from clr_s _ _ _]; exact hD
        exact ih (i + 1) (by omega) (by omega) _ _ hP hD hS _ (lv_sub hl [1, 2, 0] rfl)
  have hP : va_P D vwCl (hW h ad cI cZ (va_up ex g false) (va_up pa g none) di (clr qu (g * 16) 0) gc dg dp dv dd ds dc td ho ak se pr) H := by rw [show clr qu (g * 16) 0 = qu from clr_0 _ _]; exact hP
  have hD : va_D A (hW h ad cI cZ (va_up ex g false) (va_up pa g none) di (clr qu (g * 16) 0) gc dg dp dv dd ds dc td ho ak se pr) := by rw [show clr qu (g * 16) 0 = qu from clr_0 _ _]; exact hD
  exact loop57 17 0 (by omega) (Nat.le_refl 17) _ _ hP hD hS _ (lv_sub hl [1, 2, 0] rfl)

set_option maxHeartbeats 4000000 in
set_option maxRecDepth 100000 in
theorem kX0_addPart (l : Launch) (D : va_G) (h : Nat) (ad : Nat → Nat) (cI cZ : ClassId) (ex : Nat → Bool) (pa : Nat → Option Nat) (di : Nat → Nat) (qu : Nat → Nat) (gc : Nat) (dg : Nat → Nat) (dp : Nat → Nat) (dv : Nat → Option Nat) (dd : Nat → Nat) (ds : Nat → Nat) (dc : Nat) (td : Nat) (ho : Nat → Option Nat) (ak : Nat → Bool) (se : Nat → Option Nat) (pr : Nat → Option Nat) (sz : Nat) (g q w : Nat) (hg : g < 16) (he : ex g = true) (hq : q < 16) (he2 : ex q = true) (hlt : q < g) (hw1 : 1 ≤ w) (hw2 : w ≤ 20) (hqu : ∀ k, k < 256 → qu k ≤ 20) (hsm : qu (g * 16 + q) + w ≤ 20) : Met l yX0_addPart wsX0_addPart ({ frames := 2, cells := 0, slots := 0, locals := 42 } : Room) (wP D (hW h ad cI cZ ex pa di qu gc dg dp dv dd ds dc td ho ak se pr) (hT cI cZ) [.ref h, .int (nI g), .int (nI q), .int (nI w)] sz) (wQ D (hW h ad cI cZ ex pa di qu gc dg dp dv dd ds dc td ho ak se pr) (hW h ad cI cZ ex pa di (va_up qu (g * 16 + q) (qu (g * 16 + q) + w)) gc dg dp dv dd ds dc td ho ak se pr) (some (.int (nI (qu (g * 16 + q) + w))))) 0 0 (va_A (hW h ad cI cZ ex pa di qu gc dg dp dv dd ds dc td ho ak se pr) sz) := by
  refine Met.ofW (cc := cX0_addPart) (maxL := 6) (ret := (some .int)) (by decide) rfl ?_
  intro p e s m args below meth c s₁ B hml hv
  obtain ⟨rfl, hsz, hP, hK, hD0⟩ := hv
  have hx := B.exec
  have hb := B.bytes
  have hr := B.returns
  have hts := atoms_spec (ws := wsX0_addPart) B.pre
  have hown : s.vm.findClass RX0 = some m.cls := findClass_of_methodNamed B.named
  have hlocks := B.notSynchronized
  subst hsz
  have hD := hD0.self (sz := s.heap.size)
  generalize hAe : va_A (hW h ad cI cZ ex pa di qu gc dg dp dv dd ds dc td ho ak se pr) s.heap.size = A at hD ⊢
  have hA : ∀ q : Nat, s.heap.size ≤ q → A q := fun q h => by rw [← hAe]; exact Or.inr h
  have hS : va_S A s.heap s.heap [] := va_S.rf
  have hl := lv_entry ([.ref h, .int (nI g), .int (nI q), .int (nI w)]) (n := 6) (Nat.le_of_ble_eq_true rfl)
  rw [lg_entry_eq]
  generalize (lg_sl ([.ref h, .int (nI g), .int (nI q), .int (nI w)]) ++ List.replicate (6 - (lg_sl ([.ref h, .int (nI g), .int (nI q), .int (nI w)])).length) Slot.unset).toArray = ls at hl ⊢
  have hl : lv_has ls 6 [(0, .ref h), (1, .int (nI g)), (2, .int (nI q)), (3, .int (nI w))] := hl
  refine lv_aload_n hx hb dX0_addPart_0 rfl (lv_at hl 0 rfl) ?_
  refine lv_iload_n hx hb dX0_addPart_1 rfl (lv_at hl 1 rfl) ?_
  refine q_callV (va_runV (As := [.int (nI g)]) (rest := []) ⟨hx, hb, hml, hown, hts⟩ (kX0_checkGood l D h ad cI cZ ex pa di qu gc dg dp dv dd ds dc td ho ak se pr g hg he) (cwV 1 hts gX0_addPart_X0_checkGood rfl rfl rfl (by decide +kernel) ⟨Nat.le_of_ble_eq_true rfl, Nat.le_of_ble_eq_true rfl⟩) ⟨pP_blind, va_recv hK hP (ci := 0) (q0 := 0) rfl rfl, pP_pre hP hK⟩ rfl rfl hl.1 rfl (lv_room (Nat.le_of_ble_eq_true rfl)) dX0_addPart_2 ⟨Nat.zero_le _, Nat.zero_le _⟩) ?_
  refine lv_aload_n hx hb dX0_addPart_5 rfl (lv_at hl 0 rfl) ?_
  refine lv_iload_n hx hb dX0_addPart_6 rfl (lv_at hl 2 rfl) ?_
  refine q_callV (va_runV (As := [.int (nI q)]) (rest := []) ⟨hx, hb, hml, hown, hts⟩ (kX0_checkGood l D h ad cI cZ ex pa di qu gc dg dp dv dd ds dc td ho ak se pr q hq he2) (cwV 1 hts gX0_addPart_X0_checkGood rfl rfl rfl (by decide +kernel) ⟨Nat.le_of_ble_eq_true rfl, Nat.le_of_ble_eq_true rfl⟩) ⟨pP_blind, va_recv hK hP (ci := 0) (q0 := 0) rfl rfl, pP_pre hP hK⟩ rfl rfl hl.1 rfl (lv_room (Nat.le_of_ble_eq_true rfl)) dX0_addPart_7 ⟨Nat.zero_le _, Nat.zero_le _⟩) ?_
  refine lv_iload_n hx hb dX0_addPart_10 rfl (lv_at hl 2 rfl) ?_
  refine lv_iload_n hx hb dX0_addPart_11 rfl (lv_at hl 1 rfl) ?_
  refine q_icmpN_lt (a := q) (b := g) (tgt := 25) (by omega) (by omega) hx hb dX0_addPart_12 (by decide) (fun k12 => ?_) (fun k12 => absurd k12 (by omega))
  refine lv_iload_n hx hb dX0_addPart_25 rfl (lv_at hl 3 rfl) ?_
  refine lv_iconst (v := nI 1) hx hb dX0_addPart_26 (by decide) ?_
  refine q_icmpN_lt (a := w) (b := 1) (tgt := 36) (by omega) (by omega) hx hb dX0_addPart_27 (by decide) (fun k27 => absurd k27 (by omega)) (fun k27 => ?_)
  refine lv_iload_n hx hb dX0_addPart_30 rfl (lv_at hl 3 rfl) ?_
  refine lv_bipush (v := nI 20) hx hb dX0_addPart_31 (by decide) ?_
  refine q_icmpN_le (a := w) (b := 20) (tgt := 46) (by omega) (by omega) hx hb dX0_addPart_33 (by decide) (fun k33 => ?_) (fun k33 => absurd k33 (by omega))
  refine lv_iload_n hx hb dX0_addPart_46 rfl (lv_at hl 1 rfl) ?_
  refine lv_bipush (v := nI 16) hx hb dX0_addPart_47 (by decide) ?_
  refine q_mulN (a := g) (b := 16) hx hb dX0_addPart_49 ?_
  refine lv_iload_n hx hb dX0_addPart_50 rfl (lv_at hl 2 rfl) ?_
  refine q_addN (a := g * 16) (b := q) hx hb dX0_addPart_51 ?_
  refine lv_istore (lv' := [(4, .int (nI ((g * 16) + q))), (0, .ref h), (1, .int (nI g)), (2, .int (nI q)), (3, .int (nI w))]) hx hb dX0_addPart_52 hl (by decide) rfl (fun ls hl => ?_)
  refine lv_aload_n hx hb dX0_addPart_54 rfl (lv_at hl 1 rfl) ?_
  refine va_get (D := D) (ci := 0) (v := .ref (ad 3)) (C := RX0) (T := TX0) (N := 16) hx hb hts (iX0_addPart) hown hK hP 0 rfl rfl 3 (by decide) (hts (.fieldLink RX0 20 "ShopHub" "quantities" "[I") (by decide +kernel)) (fun _ h9 => h9) rfl dX0_addPart_55 ?_
  refine lv_iload hx hb dX0_addPart_58 (lv_at hl 0 rfl) ?_
  refine q_ald nI qu hx hb hK hP 4 1 rfl rfl (k := (g * 16) + q) (by omega) (Nat.le_of_ble_eq_true rfl) dX0_addPart_60 ?_
  refine lv_iload_n hx hb dX0_addPart_61 rfl (lv_at hl 4 rfl) ?_
  refine q_addN (a := qu ((g * 16) + q)) (b := w) hx hb dX0_addPart_62 ?_
  refine lv_istore (lv' := [(5, .int (nI ((qu ((g * 16) + q)) + w))), (4, .int (nI ((g * 16) + q))), (0, .ref h), (1, .int (nI g)), (2, .int (nI q)), (3, .int (nI w))]) hx hb dX0_addPart_63 hl (by decide) rfl (fun ls hl => ?_)
  refine lv_iload hx hb dX0_addPart_65 (lv_at hl 0 rfl) ?_
  refine lv_bipush (v := nI 20) hx hb dX0_addPart_67 (by decide) ?_
  refine q_icmpN_le (a := (qu ((g * 16) + q)) + w) (b := 20) (tgt := 82) (by omega) (by omega) hx hb dX0_addPart_69 (by decide) (fun k69 => ?_) (fun k69 => absurd k69 (by omega))
  refine lv_aload_n hx hb dX0_addPart_82 rfl (lv_at hl 2 rfl) ?_
  refine va_get (D := D) (ci := 0) (v := .ref (ad 3)) (C := RX0) (T := TX0) (N := 16) hx hb hts (iX0_addPart) hown hK hP 0 rfl rfl 3 (by decide) (hts (.fieldLink RX0 20 "ShopHub" "quantities" "[I") (by decide +kernel)) (fun _ h9 => h9) rfl dX0_addPart_83 ?_
  refine lv_iload hx hb dX0_addPart_86 (lv_at hl 1 rfl) ?_
  refine lv_iload hx hb dX0_addPart_88 (lv_at hl 0 rfl) ?_
  refine q_ast nI qu ((qu ((g * 16) + q)) + w) hx hb hK hP hD hS 4 1 rfl rfl (k := (g * 16) + q) (by omega) (Nat.le_of_ble_eq_true rfl) dX0_addPart_90 (fun H locs hP hD hS => ?_)
  have hP : va_P D vwCl (hW h ad cI cZ ex pa di (va_up qu ((g * 16) + q) ((qu ((g * 16) + q)) + w)) gc dg dp dv dd ds dc td ho ak se pr) H := hP
  have hD : va_D A (hW h ad cI cZ ex pa di (va_up qu ((g * 16) + q) ((qu ((g * 16) + q)) + w)) gc dg dp dv dd ds dc td ho ak se pr) := hD
  refine lv_iload hx hb dX0_addPart_91 (lv_at hl 0 rfl) ?_
  exact q_wretI hx hb hr hlocks hAe hP hS (rfl) dX0_addPart_93

set_option maxHeartbeats 4000000 in
set_option maxRecDepth 100000 in
theorem kX0_setDiscount (l : Launch) (D : va_G) (h : Nat) (ad : Nat → Nat) (cI cZ : ClassId) (ex : Nat → Bool) (pa : Nat → Option Nat) (di : Nat → Nat) (qu : Nat → Nat) (gc : Nat) (dg : Nat → Nat) (dp : Nat → Nat) (dv : Nat → Option Nat) (dd : Nat → Nat) (ds : Nat → Nat) (dc : Nat) (td : Nat) (ho : Nat → Option Nat) (ak : Nat → Bool) (se : Nat → Option Nat) (pr : Nat → Option Nat) (sz : Nat) (g w : Nat) (hg : g < 16) (he : ex g = true) (hw2 : w ≤ 100) : Met l yX0_setDiscount wsX0_setDiscount ({ frames := 2, cells := 0, slots := 0, locals := 42 } : Room) (wP D (hW h ad cI cZ ex pa di qu gc dg dp dv dd ds dc td ho ak se pr) (hT cI cZ) [.ref h, .int (nI g), .int (nI w)] sz) (wQ D (hW h ad cI cZ ex pa di qu gc dg dp dv dd ds dc td ho ak se pr) (hW h ad cI cZ ex pa (va_up di g w) qu gc dg dp dv dd ds dc td ho ak se pr) (some (.int (nI (di g))))) 0 0 (va_A (hW h ad cI cZ ex pa di qu gc dg dp dv dd ds dc td ho ak se pr) sz) := by
  refine Met.ofW (cc := cX0_setDiscount) (maxL := 4) (ret := (some .int)) (by decide) rfl ?_
  intro p e s m args below meth c s₁ B hml hv
  obtain ⟨rfl, hsz, hP, hK, hD0⟩ := hv
  have hx := B.exec
  have hb := B.bytes
  have hr := B.returns
  have hts := atoms_spec (ws := wsX0_setDiscount) B.pre
  have hown : s.vm.findClass RX0 = some m.cls := findClass_of_methodNamed B.named
  have hlocks := B.notSynchronized
  subst hsz
  have hD := hD0.self (sz := s.heap.size)
  generalize hAe : va_A (hW h ad cI cZ ex pa di qu gc dg dp dv dd ds dc td ho ak se pr) s.heap.size = A at hD ⊢
  have hA : ∀ q : Nat, s.heap.size ≤ q → A q := fun q h => by rw [← hAe]; exact Or.inr h
  have hS : va_S A s.heap s.heap [] := va_S.rf
  have hl := lv_entry ([.ref h, .int (nI g), .int (nI w)]) (n := 4) (Nat.le_of_ble_eq_true rfl)
  rw [lg_entry_eq]
  generalize (lg_sl ([.ref h, .int (nI g), .int (nI w)]) ++ List.replicate (4 - (lg_sl ([.ref h, .int (nI g), .int (nI w)])).length) Slot.unset).toArray = ls at hl ⊢
  have hl : lv_has ls 4 [(0, .ref h), (1, .int (nI g)), (2, .int (nI w))] := hl
  refine lv_aload_n hx hb dX0_setDiscount_0 rfl (lv_at hl 0 rfl) ?_
  refine lv_iload_n hx hb dX0_setDiscount_1 rfl (lv_at hl 1 rfl) ?_
  refine q_callV (va_runV (As := [.int (nI g)]) (rest := []) ⟨hx, hb, hml, hown, hts⟩ (kX0_checkGood l D h ad cI cZ ex pa di qu gc dg dp dv dd ds dc td ho ak se pr g hg he) (cwV 1 hts gX0_setDiscount_X0_checkGood rfl rfl rfl (by decide +kernel) ⟨Nat.le_of_ble_eq_true rfl, Nat.le_of_ble_eq_true rfl⟩) ⟨pP_blind, va_recv hK hP (ci := 0) (q0 := 0) rfl rfl, pP_pre hP hK⟩ rfl rfl hl.1 rfl (lv_room (Nat.le_of_ble_eq_true rfl)) dX0_setDiscount_2 ⟨Nat.zero_le _, Nat.zero_le _⟩) ?_
  refine lv_iload_n hx hb dX0_setDiscount_5 rfl (lv_at hl 2 rfl) ?_
  refine q_ifN_lt (a := w) 15 (by omega) hx hb dX0_setDiscount_6 (by decide) ?_
  refine lv_iload_n hx hb dX0_setDiscount_9 rfl (lv_at hl 2 rfl) ?_
  refine lv_bipush (v := nI 100) hx hb dX0_setDiscount_10 (by decide) ?_
  refine q_icmpN_le (a := w) (b := 100) (tgt := 25) (by omega) (by omega) hx hb dX0_setDiscount_12 (by decide) (fun k12 => ?_) (fun k12 => absurd k12 (by omega))
  refine lv_aload_n hx hb dX0_setDiscount_25 rfl (lv_at hl 0 rfl) ?_
  refine va_get (D := D) (ci := 0) (v := .ref (ad 2)) (C := RX0) (T := TX0) (N := 16) hx hb hts (iX0_setDiscount) hown hK hP 0 rfl rfl 2 (by decide) (hts (.fieldLink RX0 17 "ShopHub" "discounts" "[I") (by decide +kernel)) (fun _ h9 => h9) rfl dX0_setDiscount_26 ?_
  refine lv_iload_n hx hb dX0_setDiscount_29 rfl (lv_at hl 1 rfl) ?_
  refine q_ald nI di hx hb hK hP 3 1 rfl rfl (k := g) (by omega) (Nat.le_of_ble_eq_true rfl) dX0_setDiscount_30 ?_
  refine lv_istore_n (lv' := [(3, .int (nI (di g))), (0, .ref h), (1, .int (nI g)), (2, .int (nI w))]) hx hb dX0_setDiscount_31 rfl hl (by decide) rfl (fun ls hl => ?_)
  refine lv_aload_n hx hb dX0_setDiscount_32 rfl (lv_at hl 1 rfl) ?_
  refine va_get (D := D) (ci := 0) (v := .ref (ad 2)) (C := RX0) (T := TX0) (N := 16) hx hb hts (iX0_setDiscount) hown hK hP 0 rfl rfl 2 (by decide) (hts (.fieldLink RX0 17 "ShopHub" "discounts" "[I") (by decide +kernel)) (fun _ h9 => h9) rfl dX0_setDiscount_33 ?_
  refine lv_iload_n hx hb dX0_setDiscount_36 rfl (lv_at hl 2 rfl) ?_
  refine lv_iload_n hx hb dX0_setDiscount_37 rfl (lv_at hl 3 rfl) ?_
  refine q_ast nI di w hx hb hK hP hD hS 3 1 rfl rfl (k := g) (by omega) (Nat.le_of_ble_eq_true rfl) dX0_setDiscount_38 (fun H locs hP hD hS => ?_)
  have hP : va_P D vwCl (hW h ad cI cZ ex pa (va_up di g w) qu gc dg dp dv dd ds dc td ho ak se pr) H := hP
  have hD : va_D A (hW h ad cI cZ ex pa (va_up di g w) qu gc dg dp dv dd ds dc td ho ak se pr) := hD
  refine lv_iload_n hx hb dX0_setDiscount_39 rfl (lv_at hl 0 rfl) ?_
  exact q_wretI hx hb hr hlocks hAe hP hS (rfl) dX0_setDiscount_40

set_option maxHeartbeats 4000000 in
set_option maxRecDepth 100000 in
theorem kX0_draft (l : Launch) (D : va_G) (h : Nat) (ad : Nat → Nat) (cI cZ : ClassId) (ex : Nat → Bool) (pa : Nat → Option Nat) (di : Nat → Nat) (qu : Nat → Nat) (gc : Nat) (dg : Nat → Nat) (dp : Nat → Nat) (dv : Nat → Option Nat) (dd : Nat → Nat) (ds : Nat → Nat) (dc : Nat) (td : Nat) (ho : Nat → Option Nat) (ak : Nat → Bool) (se : Nat → Option Nat) (pr : Nat → Option Nat) (sz : Nat) (g a : Nat) (x y v : Option Nat) (w : Nat) (hg : g < 16) (he : ex g = true) (ha : a < 6) (hxr : ∀ k, x = some k → k < 3) (hyr : ∀ k, y = some k → k < 3) (hvr : ∀ k, v = some k → k ≤ 100000) (hw2 : w ≤ 1000) (hdc : dc < 200) : Met l yX0_draft wsX0_draft ({ frames := 2, cells := 0, slots := 0, locals := 42 } : Room) (wP D (hW h ad cI cZ ex pa di qu gc dg dp dv dd ds dc td ho ak se pr) (hT cI cZ) [.ref h, .int (nI g), .int (nI a), .int (oI x), .int (oI y), .int (oI v), .int (nI w)] sz) (wQ D (hW h ad cI cZ ex pa di qu gc dg dp dv dd ds dc td ho ak se pr) (hW h ad cI cZ ex pa di qu gc (va_up dg dc g) (va_up dp dc (plc g a (sx x) (sx y))) (va_up dv dc v) (va_up dd dc w) (va_up ds dc 1) (dc + 1) td ho ak se pr) (some (.int (nI dc)))) 0 0 (va_A (hW h ad cI cZ ex pa di qu gc dg dp dv dd ds dc td ho ak se pr) sz) := by
  refine Met.ofW (cc := cX0_draft) (maxL := 8) (ret := (some .int)) (by decide) rfl ?_
  intro p e s m args below meth c s₁ B hml hv
  obtain ⟨rfl, hsz, hP, hK, hD0⟩ := hv
  have hx := B.exec
  have hb := B.bytes
  have hr := B.returns
  have hts := atoms_spec (ws := wsX0_draft) B.pre
  have hown : s.vm.findClass RX0 = some m.cls := findClass_of_methodNamed B.named
  have hlocks := B.notSynchronized
  subst hsz
  have hD := hD0.self (sz := s.heap.size)
  generalize hAe : va_A (hW h ad cI cZ ex pa di qu gc dg dp dv dd ds dc td ho ak se pr) s.heap.size = A at hD ⊢
  have hA : ∀ q : Nat, s.heap.size ≤ q → A q := fun q h => by rw [← hAe]; exact Or.inr h
  have hS : va_S A s.heap s.heap [] := va_S.rf
  have hl := lv_entry ([.ref h, .int (nI g), .int (nI a), .int (oI x), .int (oI y), .int (oI v), .int (nI w)]) (n := 8) (Nat.le_of_ble_eq_true rfl)
  rw [lg_entry_eq]
  generalize (lg_sl ([.ref h, .int (nI g), .int (nI a), .int (oI x), .int (oI y), .int (oI v), .int (nI w)]) ++ List.replicate (8 - (lg_sl ([.ref h, .int (nI g), .int (nI a), .int (oI x), .int (oI y), .int (oI v), .int (nI w)])).length) Slot.unset).toArray = ls at hl ⊢
  have hl : lv_has ls 8 [(0, .ref h), (1, .int (nI g)), (2, .int (nI a)), (3, .int (oI x)), (4, .int (oI y)), (5, .int (oI v)), (6, .int (nI w))] := hl
  refine lv_aload_n hx hb dX0_draft_0 rfl (lv_at hl 0 rfl) ?_
  refine lv_iload_n hx hb dX0_draft_1 rfl (lv_at hl 1 rfl) ?_
  refine q_callV (va_runV (As := [.int (nI g)]) (rest := []) ⟨hx, hb, hml, hown, hts⟩ (kX0_checkGood l D h ad cI cZ ex pa di qu gc dg dp dv dd ds dc td ho ak se pr g hg he) (cwV 1 hts gX0_draft_X0_checkGood rfl rfl rfl (by decide +kernel) ⟨Nat.le_of_ble_eq_true rfl, Nat.le_of_ble_eq_true rfl⟩) ⟨pP_blind, va_recv hK hP (ci := 0) (q0 := 0) rfl rfl, pP_pre hP hK⟩ rfl rfl hl.1 rfl (lv_room (Nat.le_of_ble_eq_true rfl)) dX0_draft_2 ⟨Nat.zero_le _, Nat.zero_le _⟩) ?_
  refine lv_iload_n hx hb dX0_draft_5 rfl (lv_at hl 2 rfl) ?_
  refine q_callV (va_runS (As := [.int (nI a)]) (rest := []) ⟨hx, hb, hml, hown, hts⟩ (kX0_checkAttribute l a ha) (cwS 1 hts gX0_draft_X0_checkAttribute rfl rfl rfl (by decide +kernel) ⟨Nat.le_of_ble_eq_true rfl, Nat.le_of_ble_eq_true rfl⟩) ⟨sP_blind, sP_pre⟩ rfl rfl hl.1 rfl (lv_room (Nat.le_of_ble_eq_true rfl)) dX0_draft_6 ⟨Nat.zero_le _, Nat.zero_le _⟩) ?_
  cases x with
  | none =>
    refine lv_iload_n hx hb dX0_draft_9 rfl (lv_at hl 3 rfl) ?_
    refine lv_iconst (v := oI none) hx hb dX0_draft_10 (by decide) ?_
    refine q_icmpO_eq (a := none) (b := none) (tgt := 18) (fun k h9 => by cases h9) (fun k h9 => by cases h9) hx hb dX0_draft_11 (by decide) (fun k11 => ?_) (fun k11 => absurd rfl k11)
    cases y with
    | none =>
      refine lv_iload hx hb dX0_draft_18 (lv_at hl 4 rfl) ?_
      refine lv_iconst (v := oI none) hx hb dX0_draft_20 (by decide) ?_
      refine q_icmpO_eq (a := none) (b := none) (tgt := 29) (fun k h9 => by cases h9) (fun k h9 => by cases h9) hx hb dX0_draft_21 (by decide) (fun k21 => ?_) (fun k21 => absurd rfl k21)
      cases v with
      | none =>
        refine lv_iload hx hb dX0_draft_29 (lv_at hl 5 rfl) ?_
        refine lv_iconst (v := oI none) hx hb dX0_draft_31 (by decide) ?_
        refine q_icmpO_eq (a := none) (b := none) (tgt := 57) (fun k h9 => by cases h9) (fun k h9 => by cases h9) hx hb dX0_draft_32 (by decide) (fun k32 => ?_) (fun k32 => absurd rfl k32)
        refine lv_iload hx hb dX0_draft_57 (lv_at hl 6 rfl) ?_
        refine q_ifN_lt (a := w) 70 (by omega) hx hb dX0_draft_59 (by decide) ?_
        refine lv_iload hx hb dX0_draft_62 (lv_at hl 6 rfl) ?_
        refine lv_sipush (v := nI 1000) hx hb dX0_draft_64 (by decide) ?_
        refine q_icmpN_le (a := w) (b := 1000) (tgt := 80) (by omega) (by omega) hx hb dX0_draft_67 (by decide) (fun k67 => ?_) (fun k67 => absurd k67 (by omega))
        refine lv_aload_n hx hb dX0_draft_80 rfl (lv_at hl 0 rfl) ?_
        refine va_get (D := D) (ci := 0) (v := .int (nI dc)) (C := RX0) (T := TX0) (N := 16) hx hb hts (iX0_draft) hown hK hP 0 rfl rfl 10 (by decide) (hts (.fieldLink RX0 42 "ShopHub" "draftCount" "I") (by decide +kernel)) (fun _ h9 => h9) rfl dX0_draft_81 ?_
        refine lv_sipush (v := nI 200) hx hb dX0_draft_84 (by decide) ?_
        refine q_icmpN_lt (a := dc) (b := 200) (tgt := 100) (by omega) (by omega) hx hb dX0_draft_87 (by decide) (fun k87 => ?_) (fun k87 => absurd k87 (by omega))
        refine lv_aload_n hx hb dX0_draft_100 rfl (lv_at hl 0 rfl) ?_
        refine va_get (D := D) (ci := 0) (v := .int (nI dc)) (C := RX0) (T := TX0) (N := 16) hx hb hts (iX0_draft) hown hK hP 0 rfl rfl 10 (by decide) (hts (.fieldLink RX0 42 "ShopHub" "draftCount" "I") (by decide +kernel)) (fun _ h9 => h9) rfl dX0_draft_101 ?_
        refine lv_istore (lv' := [(7, .int (nI dc)), (0, .ref h), (1, .int (nI g)), (2, .int (nI a)), (3, .int (oI none)), (4, .int (oI none)), (5, .int (oI none)), (6, .int (nI w))]) hx hb dX0_draft_104 hl (by decide) rfl (fun ls hl => ?_)
        refine lv_aload_n hx hb dX0_draft_106 rfl (lv_at hl 1 rfl) ?_
        refine lv_dup hx hb dX0_draft_107 rfl ?_
        refine va_get (D := D) (ci := 0) (v := .int (nI dc)) (C := RX0) (T := TX0) (N := 16) hx hb hts (iX0_draft) hown hK hP 0 rfl rfl 10 (by decide) (hts (.fieldLink RX0 42 "ShopHub" "draftCount" "I") (by decide +kernel)) (fun _ h9 => h9) rfl dX0_draft_108 ?_
        refine lv_iconst (v := nI 1) hx hb dX0_draft_111 (by decide) ?_
        refine q_addN (a := dc) (b := 1) hx hb dX0_draft_112 ?_
        refine va_put (D := D) (ci := 0) (v := .int (nI (dc + 1))) (ty := .int) (C := RX0) (T := TX0) (N := 16) hx hb hts (iX0_draft) tyX0 tyX0_ok nmX0 hown hK hP hD hS 0 rfl rfl 10 (by decide) (hts (.fieldLink RX0 42 "ShopHub" "draftCount" "I") (by decide +kernel)) (fun _ h9 => h9) rfl (by decide +kernel) rfl rfl (Nat.le_of_ble_eq_true rfl) dX0_draft_113 (fun H locs hP hD hS => ?_)
        have hP : va_P D vwCl (hW h ad cI cZ ex pa di qu gc dg dp dv dd ds (dc + 1) td ho ak se pr) H := hP
        have hD : va_D A (hW h ad cI cZ ex pa di qu gc dg dp dv dd ds (dc + 1) td ho ak se pr) := hD
        refine lv_aload_n hx hb dX0_draft_116 rfl (lv_at hl 1 rfl) ?_
        refine va_get (D := D) (ci := 0) (v := .ref (ad 5)) (C := RX0) (T := TX0) (N := 16) hx hb hts (iX0_draft) hown hK hP 0 rfl rfl 5 (by decide) (hts (.fieldLink RX0 27 "ShopHub" "draftGoods" "[I") (by decide +kernel)) (fun _ h9 => h9) rfl dX0_draft_117 ?_
        refine lv_iload hx hb dX0_draft_120 (lv_at hl 0 rfl) ?_
        refine lv_iload_n hx hb dX0_draft_122 rfl (lv_at hl 2 rfl) ?_
        refine q_ast nI dg g hx hb hK hP hD hS 5 1 rfl rfl (k := dc) (by omega) (Nat.le_of_ble_eq_true rfl) dX0_draft_123 (fun H locs hP hD hS => ?_)
        have hP : va_P D vwCl (hW h ad cI cZ ex pa di qu gc (va_up dg dc g) dp dv dd ds (dc + 1) td ho ak se pr) H := hP
        have hD : va_D A (hW h ad cI cZ ex pa di qu gc (va_up dg dc g) dp dv dd ds (dc + 1) td ho ak se pr) := hD
        refine lv_aload_n hx hb dX0_draft_124 rfl (lv_at hl 1 rfl) ?_
        refine va_get (D := D) (ci := 0) (v := .ref (ad 6)) (C := RX0) (T := TX0) (N := 16) hx hb hts (iX0_draft) hown hK hP 0 rfl rfl 6 (by decide) (hts (.fieldLink RX0 30 "ShopHub" "draftPlaces" "[I") (by decide +kernel)) (fun _ h9 => h9) rfl dX0_draft_125 ?_
        refine lv_iload hx hb dX0_draft_128 (lv_at hl 0 rfl) ?_
        refine lv_iload_n hx hb dX0_draft_130 rfl (lv_at hl 2 rfl) ?_
        refine lv_iload_n hx hb dX0_draft_131 rfl (lv_at hl 3 rfl) ?_
        refine lv_iload_n hx hb dX0_draft_132 rfl (lv_at hl 4 rfl) ?_
        refine lv_iload hx hb dX0_draft_133 (lv_at hl 5 rfl) ?_
        refine q_top (y := zI (((0 : Nat) : Int) - 1)) (by decide) ?_
        refine q_top2 (y := zI (((0 : Nat) : Int) - 1)) (by decide) ?_
        refine q_callI (r := nI (plc g a 0 0)) (va_runS (As := [.int (nI g), .int (nI a), .int (zI (((0 : Nat) : Int) - 1)), .int (zI (((0 : Nat) : Int) - 1))]) (rest := [.int (nI dc), .ref (ad 6)]) ⟨hx, hb, hml, hown, hts⟩ (kX0_placeOf l g a 0 0 hg ha (by omega) (by omega)) (cwS 4 hts gX0_draft_X0_placeOf rfl rfl rfl (by decide +kernel) ⟨Nat.le_of_ble_eq_true rfl, Nat.le_of_ble_eq_true rfl⟩) ⟨sP_blind, sP_pre⟩ rfl rfl hl.1 rfl (lv_room (Nat.le_of_ble_eq_true rfl)) dX0_draft_135 ⟨Nat.zero_le _, Nat.zero_le _⟩) ?_
        refine q_ast nI dp (plc g a 0 0) hx hb hK hP hD hS 6 1 rfl rfl (k := dc) (by omega) (Nat.le_of_ble_eq_true rfl) dX0_draft_138 (fun H locs hP hD hS => ?_)
        have hP : va_P D vwCl (hW h ad cI cZ ex pa di qu gc (va_up dg dc g) (va_up dp dc (plc g a 0 0)) dv dd ds (dc + 1) td ho ak se pr) H := hP
        have hD : va_D A (hW h ad cI cZ ex pa di qu gc (va_up dg dc g) (va_up dp dc (plc g a 0 0)) dv dd ds (dc + 1) td ho ak se pr) := hD
        refine lv_aload_n hx hb dX0_draft_139 rfl (lv_at hl 1 rfl) ?_
        refine va_get (D := D) (ci := 0) (v := .ref (ad 7)) (C := RX0) (T := TX0) (N := 16) hx hb hts (iX0_draft) hown hK hP 0 rfl rfl 7 (by decide) (hts (.fieldLink RX0 33 "ShopHub" "draftValues" "[I") (by decide +kernel)) (fun _ h9 => h9) rfl dX0_draft_140 ?_
        refine lv_iload hx hb dX0_draft_143 (lv_at hl 0 rfl) ?_
        refine lv_iload hx hb dX0_draft_145 (lv_at hl 6 rfl) ?_
        refine q_ast oI dv none hx hb hK hP hD hS 7 1 rfl rfl (k := dc) (by omega) (Nat.le_of_ble_eq_true rfl) dX0_draft_147 (fun H locs hP hD hS => ?_)
        have hP : va_P D vwCl (hW h ad cI cZ ex pa di qu gc (va_up dg dc g) (va_up dp dc (plc g a 0 0)) (va_up dv dc none) dd ds (dc + 1) td ho ak se pr) H := hP
        have hD : va_D A (hW h ad cI cZ ex pa di qu gc (va_up dg dc g) (va_up dp dc (plc g a 0 0)) (va_up dv dc none) dd ds (dc + 1) td ho ak se pr) := hD
        refine lv_aload_n hx hb dX0_draft_148 rfl (lv_at hl 1 rfl) ?_
        refine va_get (D := D) (ci := 0) (v := .ref (ad 8)) (C := RX0) (T := TX0) (N := 16) hx hb hts (iX0_draft) hown hK hP 0 rfl rfl 8 (by decide) (hts (.fieldLink RX0 36 "ShopHub" "draftDays" "[I") (by decide +kernel)) (fun _ h9 => h9) rfl dX0_draft_149 ?_
        refine lv_iload hx hb dX0_draft_152 (lv_at hl 0 rfl) ?_
        refine lv_iload hx hb dX0_draft_154 (lv_at hl 7 rfl) ?_
        refine q_ast nI dd w hx hb hK hP hD hS 8 1 rfl rfl (k := dc) (by omega) (Nat.le_of_ble_eq_true rfl) dX0_draft_156 (fun H locs hP hD hS => ?_)
        have hP : va_P D vwCl (hW h ad cI cZ ex pa di qu gc (va_up dg dc g) (va_up dp dc (plc g a 0 0)) (va_up dv dc none) (va_up dd dc w) ds (dc + 1) td ho ak se pr) H := hP
        have hD : va_D A (hW h ad cI cZ ex pa di qu gc (va_up dg dc g) (va_up dp dc (plc g a 0 0)) (va_up dv dc none) (va_up dd dc w) ds (dc + 1) td ho ak se pr) := hD
        refine lv_aload_n hx hb dX0_draft_157 rfl (lv_at hl 1 rfl) ?_
        refine va_get (D := D) (ci := 0) (v := .ref (ad 9)) (C := RX0) (T := TX0) (N := 16) hx hb hts (iX0_draft) hown hK hP 0 rfl rfl 9 (by decide) (hts (.fieldLink RX0 39 "ShopHub" "draftStates" "[I") (by decide +kernel)) (fun _ h9 => h9) rfl dX0_draft_158 ?_
        refine lv_iload hx hb dX0_draft_161 (lv_at hl 0 rfl) ?_
        refine lv_iconst (v := nI 1) hx hb dX0_draft_163 (by decide) ?_
        refine q_ast nI ds 1 hx hb hK hP hD hS 9 1 rfl rfl (k := dc) (by omega) (Nat.le_of_ble_eq_true rfl) dX0_draft_164 (fun H locs hP hD hS => ?_)
        have hP : va_P D vwCl (hW h ad cI cZ ex pa di qu gc (va_up dg dc g) (va_up dp dc (plc g a 0 0)) (va_up dv dc none) (va_up dd dc w) (va_up ds dc 1) (dc + 1) td ho ak se pr) H := hP
        have hD : va_D A (hW h ad cI cZ ex pa di qu gc (va_up dg dc g) (va_up dp dc (plc g a 0 0)) (va_up dv dc none) (va_up dd dc w) (va_up ds dc 1) (dc + 1) td ho ak se pr) := hD
        refine lv_iload hx hb dX0_draft_165 (lv_at hl 0 rfl) ?_
        exact q_wretI hx hb hr hlocks hAe hP hS (rfl) dX0_draft_167
      | some v2 =>
        have hv3 := hvr v2 rfl
        refine lv_iload hx hb dX0_draft_29 (lv_at hl 5 rfl) ?_
        refine lv_iconst (v := oI none) hx hb dX0_draft_31 (by decide) ?_
        refine q_top2 (y := oI (some v2)) ((rfl : nI v2 = oI (some v2))) ?_
        refine q_icmpO_eq (a := some v2) (b := none) (tgt := 57) (fun k h9 => by cases h9; omega) (fun k h9 => by cases h9) hx hb dX0_draft_32 (by decide) (fun k32 => (by cases k32)) (fun k32 => ?_)
        refine lv_iload hx hb dX0_draft_35 (lv_at hl 5 rfl) ?_
        refine q_ifN_lt (a := v2) 47 (by omega) hx hb dX0_draft_37 (by decide) ?_
        refine lv_iload hx hb dX0_draft_40 (lv_at hl 5 rfl) ?_
        refine lv_ldc (v := 100000) hx hb hown (hts (.constant RX0 144 (100000)) (by decide +kernel)) dX0_draft_42 ?_
        refine q_top (y := nI 100000) (by decide : (100000 : Int32) = nI 100000) ?_
        refine q_icmpN_le (a := v2) (b := 100000) (tgt := 57) (by omega) (by omega) hx hb dX0_draft_44 (by decide) (fun k44 => ?_) (fun k44 => absurd k44 (by omega))
        refine lv_iload hx hb dX0_draft_57 (lv_at hl 6 rfl) ?_
        refine q_ifN_lt (a := w) 70 (by omega) hx hb dX0_draft_59 (by decide) ?_
        refine lv_iload hx hb dX0_draft_62 (lv_at hl 6 rfl) ?_
        refine lv_sipush (v := nI 1000) hx hb dX0_draft_64 (by decide) ?_
        refine q_icmpN_le (a := w) (b := 1000) (tgt := 80) (by omega) (by omega) hx hb dX0_draft_67 (by decide) (fun k67 => ?_) (fun k67 => absurd k67 (by omega))
        refine lv_aload_n hx hb dX0_draft_80 rfl (lv_at hl 0 rfl) ?_
        refine va_get (D := D) (ci := 0) (v := .int (nI dc)) (C := RX0) (T := TX0) (N := 16) hx hb hts (iX0_draft) hown hK hP 0 rfl rfl 10 (by decide) (hts (.fieldLink RX0 42 "ShopHub" "draftCount" "I") (by decide +kernel)) (fun _ h9 => h9) rfl dX0_draft_81 ?_
        refine lv_sipush (v := nI 200) hx hb dX0_draft_84 (by decide) ?_
        refine q_icmpN_lt (a := dc) (b := 200) (tgt := 100) (by omega) (by omega) hx hb dX0_draft_87 (by decide) (fun k87 => ?_) (fun k87 => absurd k87 (by omega))
        refine lv_aload_n hx hb dX0_draft_100 rfl (lv_at hl 0 rfl) ?_
        refine va_get (D := D) (ci := 0) (v := .int (nI dc)) (C := RX0) (T := TX0) (N := 16) hx hb hts (iX0_draft) hown hK hP 0 rfl rfl 10 (by decide) (hts (.fieldLink RX0 42 "ShopHub" "draftCount" "I") (by decide +kernel)) (fun _ h9 => h9) rfl dX0_draft_101 ?_
        refine lv_istore (lv' := [(7, .int (nI dc)), (0, .ref h), (1, .int (nI g)), (2, .int (nI a)), (3, .int (oI none)), (4, .int (oI none)), (5, .int (nI v2)), (6, .int (nI w))]) hx hb dX0_draft_104 hl (by decide) rfl (fun ls hl => ?_)
        refine lv_aload_n hx hb dX0_draft_106 rfl (lv_at hl 1 rfl) ?_
        refine lv_dup hx hb dX0_draft_107 rfl ?_
        refine va_get (D := D) (ci := 0) (v := .int (nI dc)) (C := RX0) (T := TX0) (N := 16) hx hb hts (iX0_draft) hown hK hP 0 rfl rfl 10 (by decide) (hts (.fieldLink RX0 42 "ShopHub" "draftCount" "I") (by decide +kernel)) (fun _ h9 => h9) rfl dX0_draft_108 ?_
        refine lv_iconst (v := nI 1) hx hb dX0_draft_111 (by decide) ?_
        refine q_addN (a := dc) (b := 1) hx hb dX0_draft_112 ?_
        refine va_put (D := D) (ci := 0) (v := .int (nI (dc + 1))) (ty := .int) (C := RX0) (T := TX0) (N := 16) hx hb hts (iX0_draft) tyX0 tyX0_ok nmX0 hown hK hP hD hS 0 rfl rfl 10 (by decide) (hts (.fieldLink RX0 42 "ShopHub" "draftCount" "I") (by decide +kernel)) (fun _ h9 => h9) rfl (by decide +kernel) rfl rfl (Nat.le_of_ble_eq_true rfl) dX0_draft_113 (fun H locs hP hD hS => ?_)
        have hP : va_P D vwCl (hW h ad cI cZ ex pa di qu gc dg dp dv dd ds (dc + 1) td ho ak se pr) H := hP
        have hD : va_D A (hW h ad cI cZ ex pa di qu gc dg dp dv dd ds (dc + 1) td ho ak se pr) := hD
        refine lv_aload_n hx hb dX0_draft_116 rfl (lv_at hl 1 rfl) ?_
        refine va_get (D := D) (ci := 0) (v := .ref (ad 5)) (C := RX0) (T := TX0) (N := 16) hx hb hts (iX0_draft) hown hK hP 0 rfl rfl 5 (by decide) (hts (.fieldLink RX0 27 "ShopHub" "draftGoods" "[I") (by decide +kernel)) (fun _ h9 => h9) rfl dX0_draft_117 ?_
        refine lv_iload hx hb dX0_draft_120 (lv_at hl 0 rfl) ?_
        refine lv_iload_n hx hb dX0_draft_122 rfl (lv_at hl 2 rfl) ?_
        refine q_ast nI dg g hx hb hK hP hD hS 5 1 rfl rfl (k := dc) (by omega) (Nat.le_of_ble_eq_true rfl) dX0_draft_123 (fun H locs hP hD hS => ?_)
        have hP : va_P D vwCl (hW h ad cI cZ ex pa di qu gc (va_up dg dc g) dp dv dd ds (dc + 1) td ho ak se pr) H := hP
        have hD : va_D A (hW h ad cI cZ ex pa di qu gc (va_up dg dc g) dp dv dd ds (dc + 1) td ho ak se pr) := hD
        refine lv_aload_n hx hb dX0_draft_124 rfl (lv_at hl 1 rfl) ?_
        refine va_get (D := D) (ci := 0) (v := .ref (ad 6)) (C := RX0) (T := TX0) (N := 16) hx hb hts (iX0_draft) hown hK hP 0 rfl rfl 6 (by decide) (hts (.fieldLink RX0 30 "ShopHub" "draftPlaces" "[I") (by decide +kernel)) (fun _ h9 => h9) rfl dX0_draft_125 ?_
        refine lv_iload hx hb dX0_draft_128 (lv_at hl 0 rfl) ?_
        refine lv_iload_n hx hb dX0_draft_130 rfl (lv_at hl 2 rfl) ?_
        refine lv_iload_n hx hb dX0_draft_131 rfl (lv_at hl 3 rfl) ?_
        refine lv_iload_n hx hb dX0_draft_132 rfl (lv_at hl 4 rfl) ?_
        refine lv_iload hx hb dX0_draft_133 (lv_at hl 5 rfl) ?_
        refine q_top (y := zI (((0 : Nat) : Int) - 1)) (by decide) ?_
        refine q_top2 (y := zI (((0 : Nat) : Int) - 1)) (by decide) ?_
        refine q_callI (r := nI (plc g a 0 0)) (va_runS (As := [.int (nI g), .int (nI a), .int (zI (((0 : Nat) : Int) - 1)), .int (zI (((0 : Nat) : Int) - 1))]) (rest := [.int (nI dc), .ref (ad 6)]) ⟨hx, hb, hml, hown, hts⟩ (kX0_placeOf l g a 0 0 hg ha (by omega) (by omega)) (cwS 4 hts gX0_draft_X0_placeOf rfl rfl rfl (by decide +kernel) ⟨Nat.le_of_ble_eq_true rfl, Nat.le_of_ble_eq_true rfl⟩) ⟨sP_blind, sP_pre⟩ rfl rfl hl.1 rfl (lv_room (Nat.le_of_ble_eq_true rfl)) dX0_draft_135 ⟨Nat.zero_le _, Nat.zero_le _⟩) ?_
        refine q_ast nI dp (plc g a 0 0) hx hb hK hP hD hS 6 1 rfl rfl (k := dc) (by omega) (Nat.le_of_ble_eq_true rfl) dX0_draft_138 (fun H locs hP hD hS => ?_)
        have hP : va_P D vwCl (hW h ad cI cZ ex pa di qu gc (va_up dg dc g) (va_up dp dc (plc g a 0 0)) dv dd ds (dc + 1) td ho ak se pr) H := hP
        have hD : va_D A (hW h ad cI cZ ex pa di qu gc (va_up dg dc g) (va_up dp dc (plc g a 0 0)) dv dd ds (dc + 1) td ho ak se pr) := hD
        refine lv_aload_n hx hb dX0_draft_139 rfl (lv_at hl 1 rfl) ?_
        refine va_get (D := D) (ci := 0) (v := .ref (ad 7)) (C := RX0) (T := TX0) (N := 16) hx hb hts (iX0_draft) hown hK hP 0 rfl rfl 7 (by decide) (hts (.fieldLink RX0 33 "ShopHub" "draftValues" "[I") (by decide +kernel)) (fun _ h9 => h9) rfl dX0_draft_140 ?_
        refine lv_iload hx hb dX0_draft_143 (lv_at hl 0 rfl) ?_
        refine lv_iload hx hb dX0_draft_145 (lv_at hl 6 rfl) ?_
        refine q_top (y := oI (some v2)) ((rfl : nI v2 = oI (some v2))) ?_
        refine q_ast oI dv (some v2) hx hb hK hP hD hS 7 1 rfl rfl (k := dc) (by omega) (Nat.le_of_ble_eq_true rfl) dX0_draft_147 (fun H locs hP hD hS => ?_)
        have hP : va_P D vwCl (hW h ad cI cZ ex pa di qu gc (va_up dg dc g) (va_up dp dc (plc g a 0 0)) (va_up dv dc (some v2)) dd ds (dc + 1) td ho ak se pr) H := hP
        have hD : va_D A (hW h ad cI cZ ex pa di qu gc (va_up dg dc g) (va_up dp dc (plc g a 0 0)) (va_up dv dc (some v2)) dd ds (dc + 1) td ho ak se pr) := hD
        refine lv_aload_n hx hb dX0_draft_148 rfl (lv_at hl 1 rfl) ?_
        refine va_get (D := D) (ci := 0) (v := .ref (ad 8)) (C := RX0) (T := TX0) (N := 16) hx hb hts (iX0_draft) hown hK hP 0 rfl rfl 8 (by decide) (hts (.fieldLink RX0 36 "ShopHub" "draftDays" "[I") (by decide +kernel)) (fun _ h9 => h9) rfl dX0_draft_149 ?_
        refine lv_iload hx hb dX0_draft_152 (lv_at hl 0 rfl) ?_
        refine lv_iload hx hb dX0_draft_154 (lv_at hl 7 rfl) ?_
        refine q_ast nI dd w hx hb hK hP hD hS 8 1 rfl rfl (k := dc) (by omega) (Nat.le_of_ble_eq_true rfl) dX0_draft_156 (fun H locs hP hD hS => ?_)
        have hP : va_P D vwCl (hW h ad cI cZ ex pa di qu gc (va_up dg dc g) (va_up dp dc (plc g a 0 0)) (va_up dv dc (some v2)) (va_up dd dc w) ds (dc + 1) td ho ak se pr) H := hP
        have hD : va_D A (hW h ad cI cZ ex pa di qu gc (va_up dg dc g) (va_up dp dc (plc g a 0 0)) (va_up dv dc (some v2)) (va_up dd dc w) ds (dc + 1) td ho ak se pr) := hD
        refine lv_aload_n hx hb dX0_draft_157 rfl (lv_at hl 1 rfl) ?_
        refine va_get (D := D) (ci := 0) (v := .ref (ad 9)) (C := RX0) (T := TX0) (N := 16) hx hb hts (iX0_draft) hown hK hP 0 rfl rfl 9 (by decide) (hts (.fieldLink RX0 39 "ShopHub" "draftStates" "[I") (by decide +kernel)) (fun _ h9 => h9) rfl dX0_draft_158 ?_
        refine lv_iload hx hb dX0_draft_161 (lv_at hl 0 rfl) ?_
        refine lv_iconst (v := nI 1) hx hb dX0_draft_163 (by decide) ?_
        refine q_ast nI ds 1 hx hb hK hP hD hS 9 1 rfl rfl (k := dc) (by omega) (Nat.le_of_ble_eq_true rfl) dX0_draft_164 (fun H locs hP hD hS => ?_)
        have hP : va_P D vwCl (hW h ad cI cZ ex pa di qu gc (va_up dg dc g) (va_up dp dc (plc g a 0 0)) (va_up dv dc (some v2)) (va_up dd dc w) (va_up ds dc 1) (dc + 1) td ho ak se pr) H := hP
        have hD : va_D A (hW h ad cI cZ ex pa di qu gc (va_up dg dc g) (va_up dp dc (plc g a 0 0)) (va_up dv dc (some v2)) (va_up dd dc w) (va_up ds dc 1) (dc + 1) td ho ak se pr) := hD
        refine lv_iload hx hb dX0_draft_165 (lv_at hl 0 rfl) ?_
        exact q_wretI hx hb hr hlocks hAe hP hS (rfl) dX0_draft_167
    | some y2 =>
      have hy3 := hyr y2 rfl
      refine lv_iload hx hb dX0_draft_18 (lv_at hl 4 rfl) ?_
      refine lv_iconst (v := oI none) hx hb dX0_draft_20 (by decide) ?_
      refine q_top2 (y := oI (some y2)) ((rfl : nI y2 = oI (some y2))) ?_
      refine q_icmpO_eq (a := some y2) (b := none) (tgt := 29) (fun k h9 => by cases h9; omega) (fun k h9 => by cases h9) hx hb dX0_draft_21 (by decide) (fun k21 => (by cases k21)) (fun k21 => ?_)
      refine lv_iload hx hb dX0_draft_24 (lv_at hl 4 rfl) ?_
      refine q_callV (va_runS (As := [.int (nI y2)]) (rest := []) ⟨hx, hb, hml, hown, hts⟩ (kX0_checkTongue l y2 hy3) (cwS 1 hts gX0_draft_X0_checkTongue rfl rfl rfl (by decide +kernel) ⟨Nat.le_of_ble_eq_true rfl, Nat.le_of_ble_eq_true rfl⟩) ⟨sP_blind, sP_pre⟩ rfl rfl hl.1 rfl (lv_room (Nat.le_of_ble_eq_true rfl)) dX0_draft_26 ⟨Nat.zero_le _, Nat.zero_le _⟩) ?_
      cases v with
      | none =>
        refine lv_iload hx hb dX0_draft_29 (lv_at hl 5 rfl) ?_
        refine lv_iconst (v := oI none) hx hb dX0_draft_31 (by decide) ?_
        refine q_icmpO_eq (a := none) (b := none) (tgt := 57) (fun k h9 => by cases h9) (fun k h9 => by cases h9) hx hb dX0_draft_32 (by decide) (fun k32 => ?_) (fun k32 => absurd rfl k32)
        refine lv_iload hx hb dX0_draft_57 (lv_at hl 6 rfl) ?_
        refine q_ifN_lt (a := w) 70 (by omega) hx hb dX0_draft_59 (by decide) ?_
        refine lv_iload hx hb dX0_draft_62 (lv_at hl 6 rfl) ?_
        refine lv_sipush (v := nI 1000) hx hb dX0_draft_64 (by decide) ?_
        refine q_icmpN_le (a := w) (b := 1000) (tgt := 80) (by omega) (by omega) hx hb dX0_draft_67 (by decide) (fun k67 => ?_) (fun k67 => absurd k67 (by omega))
        refine lv_aload_n hx hb dX0_draft_80 rfl (lv_at hl 0 rfl) ?_
        refine va_get (D := D) (ci := 0) (v := .int (nI dc)) (C := RX0) (T := TX0) (N := 16) hx hb hts (iX0_draft) hown hK hP 0 rfl rfl 10 (by decide) (hts (.fieldLink RX0 42 "ShopHub" "draftCount" "I") (by decide +kernel)) (fun _ h9 => h9) rfl dX0_draft_81 ?_
        refine lv_sipush (v := nI 200) hx hb dX0_draft_84 (by decide) ?_
        refine q_icmpN_lt (a := dc) (b := 200) (tgt := 100) (by omega) (by omega) hx hb dX0_draft_87 (by decide) (fun k87 => ?_) (fun k87 => absurd k87 (by omega))
        refine lv_aload_n hx hb dX0_draft_100 rfl (lv_at hl 0 rfl) ?_
        refine va_get (D := D) (ci := 0) (v := .int (nI dc)) (C := RX0) (T := TX0) (N := 16) hx hb hts (iX0_draft) hown hK hP 0 rfl rfl 10 (by decide) (hts (.fieldLink RX0 42 "ShopHub" "draftCount" "I") (by decide +kernel)) (fun _ h9 => h9) rfl dX0_draft_101 ?_
        refine lv_istore (lv' := [(7, .int (nI dc)), (0, .ref h), (1, .int (nI g)), (2, .int (nI a)), (3, .int (oI none)), (4, .int (nI y2)), (5, .int (oI none)), (6, .int (nI w))]) hx hb dX0_draft_104 hl (by decide) rfl (fun ls hl => ?_)
        refine lv_aload_n hx hb dX0_draft_106 rfl (lv_at hl 1 rfl) ?_
        refine lv_dup hx hb dX0_draft_107 rfl ?_
        refine va_get (D := D) (ci := 0) (v := .int (nI dc)) (C := RX0) (T := TX0) (N := 16) hx hb hts (iX0_draft) hown hK hP 0 rfl rfl 10 (by decide) (hts (.fieldLink RX0 42 "ShopHub" "draftCount" "I") (by decide +kernel)) (fun _ h9 => h9) rfl dX0_draft_108 ?_
        refine lv_iconst (v := nI 1) hx hb dX0_draft_111 (by decide) ?_
        refine q_addN (a := dc) (b := 1) hx hb dX0_draft_112 ?_
        refine va_put (D := D) (ci := 0) (v := .int (nI (dc + 1))) (ty := .int) (C := RX0) (T := TX0) (N := 16) hx hb hts (iX0_draft) tyX0 tyX0_ok nmX0 hown hK hP hD hS 0 rfl rfl 10 (by decide) (hts (.fieldLink RX0 42 "ShopHub" "draftCount" "I") (by decide +kernel)) (fun _ h9 => h9) rfl (by decide +kernel) rfl rfl (Nat.le_of_ble_eq_true rfl) dX0_draft_113 (fun H locs hP hD hS => ?_)
        have hP : va_P D vwCl (hW h ad cI cZ ex pa di qu gc dg dp dv dd ds (dc + 1) td ho ak se pr) H := hP
        have hD : va_D A (hW h ad cI cZ ex pa di qu gc dg dp dv dd ds (dc + 1) td ho ak se pr) := hD
        refine lv_aload_n hx hb dX0_draft_116 rfl (lv_at hl 1 rfl) ?_
        refine va_get (D := D) (ci := 0) (v := .ref (ad 5)) (C := RX0) (T := TX0) (N := 16) hx hb hts (iX0_draft) hown hK hP 0 rfl rfl 5 (by decide) (hts (.fieldLink RX0 27 "ShopHub" "draftGoods" "[I") (by decide +kernel)) (fun _ h9 => h9) rfl dX0_draft_117 ?_
        refine lv_iload hx hb dX0_draft_120 (lv_at hl 0 rfl) ?_
        refine lv_iload_n hx hb dX0_draft_122 rfl (lv_at hl 2 rfl) ?_
        refine q_ast nI dg g hx hb hK hP hD hS 5 1 rfl rfl (k := dc) (by omega) (Nat.le_of_ble_eq_true rfl) dX0_draft_123 (fun H locs hP hD hS => ?_)
        have hP : va_P D vwCl (hW h ad cI cZ ex pa di qu gc (va_up dg dc g) dp dv dd ds (dc + 1) td ho ak se pr) H := hP
        have hD : va_D A (hW h ad cI cZ ex pa di qu gc (va_up dg dc g) dp dv dd ds (dc + 1) td ho ak se pr) := hD
        refine lv_aload_n hx hb dX0_draft_124 rfl (lv_at hl 1 rfl) ?_
        refine va_get (D := D) (ci := 0) (v := .ref (ad 6)) (C := RX0) (T := TX0) (N := 16) hx hb hts (iX0_draft) hown hK hP 0 rfl rfl 6 (by decide) (hts (.fieldLink RX0 30 "ShopHub" "draftPlaces" "[I") (by decide +kernel)) (fun _ h9 => h9) rfl dX0_draft_125 ?_
        refine lv_iload hx hb dX0_draft_128 (lv_at hl 0 rfl) ?_
        refine lv_iload_n hx hb dX0_draft_130 rfl (lv_at hl 2 rfl) ?_
        refine lv_iload_n hx hb dX0_draft_131 rfl (lv_at hl 3 rfl) ?_
        refine lv_iload_n hx hb dX0_draft_132 rfl (lv_at hl 4 rfl) ?_
        refine lv_iload hx hb dX0_draft_133 (lv_at hl 5 rfl) ?_
        refine q_top (y := zI (((y2 + 1 : Nat) : Int) - 1)) (by rw [nz]; exact congrArg zI (by omega)) ?_
        refine q_top2 (y := zI (((0 : Nat) : Int) - 1)) (by decide) ?_
        refine q_callI (r := nI (plc g a 0 (y2 + 1))) (va_runS (As := [.int (nI g), .int (nI a), .int (zI (((0 : Nat) : Int) - 1)), .int (zI (((y2 + 1 : Nat) : Int) - 1))]) (rest := [.int (nI dc), .ref (ad 6)]) ⟨hx, hb, hml, hown, hts⟩ (kX0_placeOf l g a 0 (y2 + 1) hg ha (by omega) (by omega)) (cwS 4 hts gX0_draft_X0_placeOf rfl rfl rfl (by decide +kernel) ⟨Nat.le_of_ble_eq_true rfl, Nat.le_of_ble_eq_true rfl⟩) ⟨sP_blind, sP_pre⟩ rfl rfl hl.1 rfl (lv_room (Nat.le_of_ble_eq_true rfl)) dX0_draft_135 ⟨Nat.zero_le _, Nat.zero_le _⟩) ?_
        refine q_ast nI dp (plc g a 0 (y2 + 1)) hx hb hK hP hD hS 6 1 rfl rfl (k := dc) (by omega) (Nat.le_of_ble_eq_true rfl) dX0_draft_138 (fun H locs hP hD hS => ?_)
        have hP : va_P D vwCl (hW h ad cI cZ ex pa di qu gc (va_up dg dc g) (va_up dp dc (plc g a 0 (y2 + 1))) dv dd ds (dc + 1) td ho ak se pr) H := hP
        have hD : va_D A (hW h ad cI cZ ex pa di qu gc (va_up dg dc g) (va_up dp dc (plc g a 0 (y2 + 1))) dv dd ds (dc + 1) td ho ak se pr) := hD
        refine lv_aload_n hx hb dX0_draft_139 rfl (lv_at hl 1 rfl) ?_
        refine va_get (D := D) (ci := 0) (v := .ref (ad 7)) (C := RX0) (T := TX0) (N := 16) hx hb hts (iX0_draft) hown hK hP 0 rfl rfl 7 (by decide) (hts (.fieldLink RX0 33 "ShopHub" "draftValues" "[I") (by decide +kernel)) (fun _ h9 => h9) rfl dX0_draft_140 ?_
        refine lv_iload hx hb dX0_draft_143 (lv_at hl 0 rfl) ?_
        refine lv_iload hx hb dX0_draft_145 (lv_at hl 6 rfl) ?_
        refine q_ast oI dv none hx hb hK hP hD hS 7 1 rfl rfl (k := dc) (by omega) (Nat.le_of_ble_eq_true rfl) dX0_draft_147 (fun H locs hP hD hS => ?_)
        have hP : va_P D vwCl (hW h ad cI cZ ex pa di qu gc (va_up dg dc g) (va_up dp dc (plc g a 0 (y2 + 1))) (va_up dv dc none) dd ds (dc + 1) td ho ak se pr) H := hP
        have hD : va_D A (hW h ad cI cZ ex pa di qu gc (va_up dg dc g) (va_up dp dc (plc g a 0 (y2 + 1))) (va_up dv dc none) dd ds (dc + 1) td ho ak se pr) := hD
        refine lv_aload_n hx hb dX0_draft_148 rfl (lv_at hl 1 rfl) ?_
        refine va_get (D := D) (ci := 0) (v := .ref (ad 8)) (C := RX0) (T := TX0) (N := 16) hx hb hts (iX0_draft) hown hK hP 0 rfl rfl 8 (by decide) (hts (.fieldLink RX0 36 "ShopHub" "draftDays" "[I") (by decide +kernel)) (fun _ h9 => h9) rfl dX0_draft_149 ?_
        refine lv_iload hx hb dX0_draft_152 (lv_at hl 0 rfl) ?_
        refine lv_iload hx hb dX0_draft_154 (lv_at hl 7 rfl) ?_
        refine q_ast nI dd w hx hb hK hP hD hS 8 1 rfl rfl (k := dc) (by omega) (Nat.le_of_ble_eq_true rfl) dX0_draft_156 (fun H locs hP hD hS => ?_)
        have hP : va_P D vwCl (hW h ad cI cZ ex pa di qu gc (va_up dg dc g) (va_up dp dc (plc g a 0 (y2 + 1))) (va_up dv dc none) (va_up dd dc w) ds (dc + 1) td ho ak se pr) H := hP
        have hD : va_D A (hW h ad cI cZ ex pa di qu gc (va_up dg dc g) (va_up dp dc (plc g a 0 (y2 + 1))) (va_up dv dc none) (va_up dd dc w) ds (dc + 1) td ho ak se pr) := hD
        refine lv_aload_n hx hb dX0_draft_157 rfl (lv_at hl 1 rfl) ?_
        refine va_get (D := D) (ci := 0) (v := .ref (ad 9)) (C := RX0) (T := TX0) (N := 16) hx hb hts (iX0_draft) hown hK hP 0 rfl rfl 9 (by decide) (hts (.fieldLink RX0 39 "ShopHub" "draftStates" "[I") (by decide +kernel)) (fun _ h9 => h9) rfl dX0_draft_158 ?_
        refine lv_iload hx hb dX0_draft_161 (lv_at hl 0 rfl) ?_
        refine lv_iconst (v := nI 1) hx hb dX0_draft_163 (by decide) ?_
        refine q_ast nI ds 1 hx hb hK hP hD hS 9 1 rfl rfl (k := dc) (by omega) (Nat.le_of_ble_eq_true rfl) dX0_draft_164 (fun H locs hP hD hS => ?_)
        have hP : va_P D vwCl (hW h ad cI cZ ex pa di qu gc (va_up dg dc g) (va_up dp dc (plc g a 0 (y2 + 1))) (va_up dv dc none) (va_up dd dc w) (va_up ds dc 1) (dc + 1) td ho ak se pr) H := hP
        have hD : va_D A (hW h ad cI cZ ex pa di qu gc (va_up dg dc g) (va_up dp dc (plc g a 0 (y2 + 1))) (va_up dv dc none) (va_up dd dc w) (va_up ds dc 1) (dc + 1) td ho ak se pr) := hD
        refine lv_iload hx hb dX0_draft_165 (lv_at hl 0 rfl) ?_
        exact q_wretI hx hb hr hlocks hAe hP hS (rfl) dX0_draft_167
      | some v2 =>
        have hv3 := hvr v2 rfl
        refine lv_iload hx hb dX0_draft_29 (lv_at hl 5 rfl) ?_
        refine lv_iconst (v := oI none) hx hb dX0_draft_31 (by decide) ?_
        refine q_top2 (y := oI (some v2)) ((rfl : nI v2 = oI (some v2))) ?_
        refine q_icmpO_eq (a := some v2) (b := none) (tgt := 57) (fun k h9 => by cases h9; omega) (fun k h9 => by cases h9) hx hb dX0_draft_32 (by decide) (fun k32 => (by cases k32)) (fun k32 => ?_)
        refine lv_iload hx hb dX0_draft_35 (lv_at hl 5 rfl) ?_
        refine q_ifN_lt (a := v2) 47 (by omega) hx hb dX0_draft_37 (by decide) ?_
        refine lv_iload hx hb dX0_draft_40 (lv_at hl 5 rfl) ?_
        refine lv_ldc (v := 100000) hx hb hown (hts (.constant RX0 144 (100000)) (by decide +kernel)) dX0_draft_42 ?_
        refine q_top (y := nI 100000) (by decide : (100000 : Int32) = nI 100000) ?_
        refine q_icmpN_le (a := v2) (b := 100000) (tgt := 57) (by omega) (by omega) hx hb dX0_draft_44 (by decide) (fun k44 => ?_) (fun k44 => absurd k44 (by omega))
        refine lv_iload hx hb dX0_draft_57 (lv_at hl 6 rfl) ?_
        refine q_ifN_lt (a := w) 70 (by omega) hx hb dX0_draft_59 (by decide) ?_
        refine lv_iload hx hb dX0_draft_62 (lv_at hl 6 rfl) ?_
        refine lv_sipush (v := nI 1000) hx hb dX0_draft_64 (by decide) ?_
        refine q_icmpN_le (a := w) (b := 1000) (tgt := 80) (by omega) (by omega) hx hb dX0_draft_67 (by decide) (fun k67 => ?_) (fun k67 => absurd k67 (by omega))
        refine lv_aload_n hx hb dX0_draft_80 rfl (lv_at hl 0 rfl) ?_
        refine va_get (D := D) (ci := 0) (v := .int (nI dc)) (C := RX0) (T := TX0) (N := 16) hx hb hts (iX0_draft) hown hK hP 0 rfl rfl 10 (by decide) (hts (.fieldLink RX0 42 "ShopHub" "draftCount" "I") (by decide +kernel)) (fun _ h9 => h9) rfl dX0_draft_81 ?_
        refine lv_sipush (v := nI 200) hx hb dX0_draft_84 (by decide) ?_
        refine q_icmpN_lt (a := dc) (b := 200) (tgt := 100) (by omega) (by omega) hx hb dX0_draft_87 (by decide) (fun k87 => ?_) (fun k87 => absurd k87 (by omega))
        refine lv_aload_n hx hb dX0_draft_100 rfl (lv_at hl 0 rfl) ?_
        refine va_get (D := D) (ci := 0) (v := .int (nI dc)) (C := RX0) (T := TX0) (N := 16) hx hb hts (iX0_draft) hown hK hP 0 rfl rfl 10 (by decide) (hts (.fieldLink RX0 42 "ShopHub" "draftCount" "I") (by decide +kernel)) (fun _ h9 => h9) rfl dX0_draft_101 ?_
        refine lv_istore (lv' := [(7, .int (nI dc)), (0, .ref h), (1, .int (nI g)), (2, .int (nI a)), (3, .int (oI none)), (4, .int (nI y2)), (5, .int (nI v2)), (6, .int (nI w))]) hx hb dX0_draft_104 hl (by decide) rfl (fun ls hl => ?_)
        refine lv_aload_n hx hb dX0_draft_106 rfl (lv_at hl 1 rfl) ?_
        refine lv_dup hx hb dX0_draft_107 rfl ?_
        refine va_get (D := D) (ci := 0) (v := .int (nI dc)) (C := RX0) (T := TX0) (N := 16) hx hb hts (iX0_draft) hown hK hP 0 rfl rfl 10 (by decide) (hts (.fieldLink RX0 42 "ShopHub" "draftCount" "I") (by decide +kernel)) (fun _ h9 => h9) rfl dX0_draft_108 ?_
        refine lv_iconst (v := nI 1) hx hb dX0_draft_111 (by decide) ?_
        refine q_addN (a := dc) (b := 1) hx hb dX0_draft_112 ?_
        refine va_put (D := D) (ci := 0) (v := .int (nI (dc + 1))) (ty := .int) (C := RX0) (T := TX0) (N := 16) hx hb hts (iX0_draft) tyX0 tyX0_ok nmX0 hown hK hP hD hS 0 rfl rfl 10 (by decide) (hts (.fieldLink RX0 42 "ShopHub" "draftCount" "I") (by decide +kernel)) (fun _ h9 => h9) rfl (by decide +kernel) rfl rfl (Nat.le_of_ble_eq_true rfl) dX0_draft_113 (fun H locs hP hD hS => ?_)
        have hP : va_P D vwCl (hW h ad cI cZ ex pa di qu gc dg dp dv dd ds (dc + 1) td ho ak se pr) H := hP
        have hD : va_D A (hW h ad cI cZ ex pa di qu gc dg dp dv dd ds (dc + 1) td ho ak se pr) := hD
        refine lv_aload_n hx hb dX0_draft_116 rfl (lv_at hl 1 rfl) ?_
        refine va_get (D := D) (ci := 0) (v := .ref (ad 5)) (C := RX0) (T := TX0) (N := 16) hx hb hts (iX0_draft) hown hK hP 0 rfl rfl 5 (by decide) (hts (.fieldLink RX0 27 "ShopHub" "draftGoods" "[I") (by decide +kernel)) (fun _ h9 => h9) rfl dX0_draft_117 ?_
        refine lv_iload hx hb dX0_draft_120 (lv_at hl 0 rfl) ?_
        refine lv_iload_n hx hb dX0_draft_122 rfl (lv_at hl 2 rfl) ?_
        refine q_ast nI dg g hx hb hK hP hD hS 5 1 rfl rfl (k := dc) (by omega) (Nat.le_of_ble_eq_true rfl) dX0_draft_123 (fun H locs hP hD hS => ?_)
        have hP : va_P D vwCl (hW h ad cI cZ ex pa di qu gc (va_up dg dc g) dp dv dd ds (dc + 1) td ho ak se pr) H := hP
        have hD : va_D A (hW h ad cI cZ ex pa di qu gc (va_up dg dc g) dp dv dd ds (dc + 1) td ho ak se pr) := hD
        refine lv_aload_n hx hb dX0_draft_124 rfl (lv_at hl 1 rfl) ?_
        refine va_get (D := D) (ci := 0) (v := .ref (ad 6)) (C := RX0) (T := TX0) (N := 16) hx hb hts (iX0_draft) hown hK hP 0 rfl rfl 6 (by decide) (hts (.fieldLink RX0 30 "ShopHub" "draftPlaces" "[I") (by decide +kernel)) (fun _ h9 => h9) rfl dX0_draft_125 ?_
        refine lv_iload hx hb dX0_draft_128 (lv_at hl 0 rfl) ?_
        refine lv_iload_n hx hb dX0_draft_130 rfl (lv_at hl 2 rfl) ?_
        refine lv_iload_n hx hb dX0_draft_131 rfl (lv_at hl 3 rfl) ?_
        refine lv_iload_n hx hb dX0_draft_132 rfl (lv_at hl 4 rfl) ?_
        refine lv_iload hx hb dX0_draft_133 (lv_at hl 5 rfl) ?_
        refine q_top (y := zI (((y2 + 1 : Nat) : Int) - 1)) (by rw [nz]; exact congrArg zI (by omega)) ?_
        refine q_top2 (y := zI (((0 : Nat) : Int) - 1)) (by decide) ?_
        refine q_callI (r := nI (plc g a 0 (y2 + 1))) (va_runS (As := [.int (nI g), .int (nI a), .int (zI (((0 : Nat) : Int) - 1)), .int (zI (((y2 + 1 : Nat) : Int) - 1))]) (rest := [.int (nI dc), .ref (ad 6)]) ⟨hx, hb, hml, hown, hts⟩ (kX0_placeOf l g a 0 (y2 + 1) hg ha (by omega) (by omega)) (cwS 4 hts gX0_draft_X0_placeOf rfl rfl rfl (by decide +kernel) ⟨Nat.le_of_ble_eq_true rfl, Nat.le_of_ble_eq_true rfl⟩) ⟨sP_blind, sP_pre⟩ rfl rfl hl.1 rfl (lv_room (Nat.le_of_ble_eq_true rfl)) dX0_draft_135 ⟨Nat.zero_le _, Nat.zero_le _⟩) ?_
        refine q_ast nI dp (plc g a 0 (y2 + 1)) hx hb hK hP hD hS 6 1 rfl rfl (k := dc) (by omega) (Nat.le_of_ble_eq_true rfl) dX0_draft_138 (fun H locs hP hD hS => ?_)
        have hP : va_P D vwCl (hW h ad cI cZ ex pa di qu gc (va_up dg dc g) (va_up dp dc (plc g a 0 (y2 + 1))) dv dd ds (dc + 1) td ho ak se pr) H := hP
        have hD : va_D A (hW h ad cI cZ ex pa di qu gc (va_up dg dc g) (va_up dp dc (plc g a 0 (y2 + 1))) dv dd ds (dc + 1) td ho ak se pr) := hD
        refine lv_aload_n hx hb dX0_draft_139 rfl (lv_at hl 1 rfl) ?_
        refine va_get (D := D) (ci := 0) (v := .ref (ad 7)) (C := RX0) (T := TX0) (N := 16) hx hb hts (iX0_draft) hown hK hP 0 rfl rfl 7 (by decide) (hts (.fieldLink RX0 33 "ShopHub" "draftValues" "[I") (by decide +kernel)) (fun _ h9 => h9) rfl dX0_draft_140 ?_
        refine lv_iload hx hb dX0_draft_143 (lv_at hl 0 rfl) ?_
        refine lv_iload hx hb dX0_draft_145 (lv_at hl 6 rfl) ?_
        refine q_top (y := oI (some v2)) ((rfl : nI v2 = oI (some v2))) ?_
        refine q_ast oI dv (some v2) hx hb hK hP hD hS 7 1 rfl rfl (k := dc) (by omega) (Nat.le_of_ble_eq_true rfl) dX0_draft_147 (fun H locs hP hD hS => ?_)
        have hP : va_P D vwCl (hW h ad cI cZ ex pa di qu gc (va_up dg dc g) (va_up dp dc (plc g a 0 (y2 + 1))) (va_up dv dc (some v2)) dd ds (dc + 1) td ho ak se pr) H := hP
        have hD : va_D A (hW h ad cI cZ ex pa di qu gc (va_up dg dc g) (va_up dp dc (plc g a 0 (y2 + 1))) (va_up dv dc (some v2)) dd ds (dc + 1) td ho ak se pr) := hD
        refine lv_aload_n hx hb dX0_draft_148 rfl (lv_at hl 1 rfl) ?_
        refine va_get (D := D) (ci := 0) (v := .ref (ad 8)) (C := RX0) (T := TX0) (N := 16) hx hb hts (iX0_draft) hown hK hP 0 rfl rfl 8 (by decide) (hts (.fieldLink RX0 36 "ShopHub" "draftDays" "[I") (by decide +kernel)) (fun _ h9 => h9) rfl dX0_draft_149 ?_
        refine lv_iload hx hb dX0_draft_152 (lv_at hl 0 rfl) ?_
        refine lv_iload hx hb dX0_draft_154 (lv_at hl 7 rfl) ?_
        refine q_ast nI dd w hx hb hK hP hD hS 8 1 rfl rfl (k := dc) (by omega) (Nat.le_of_ble_eq_true rfl) dX0_draft_156 (fun H locs hP hD hS => ?_)
        have hP : va_P D vwCl (hW h ad cI cZ ex pa di qu gc (va_up dg dc g) (va_up dp dc (plc g a 0 (y2 + 1))) (va_up dv dc (some v2)) (va_up dd dc w) ds (dc + 1) td ho ak se pr) H := hP
        have hD : va_D A (hW h ad cI cZ ex pa di qu gc (va_up dg dc g) (va_up dp dc (plc g a 0 (y2 + 1))) (va_up dv dc (some v2)) (va_up dd dc w) ds (dc + 1) td ho ak se pr) := hD
        refine lv_aload_n hx hb dX0_draft_157 rfl (lv_at hl 1 rfl) ?_
        refine va_get (D := D) (ci := 0) (v := .ref (ad 9)) (C := RX0) (T := TX0) (N := 16) hx hb hts (iX0_draft) hown hK hP 0 rfl rfl 9 (by decide) (hts (.fieldLink RX0 39 "ShopHub" "draftStates" "[I") (by decide +kernel)) (fun _ h9 => h9) rfl dX0_draft_158 ?_
        refine lv_iload hx hb dX0_draft_161 (lv_at hl 0 rfl) ?_
        refine lv_iconst (v := nI 1) hx hb dX0_draft_163 (by decide) ?_
        refine q_ast nI ds 1 hx hb hK hP hD hS 9 1 rfl rfl (k := dc) (by omega) (Nat.le_of_ble_eq_true rfl) dX0_draft_164 (fun H locs hP hD hS => ?_)
        have hP : va_P D vwCl (hW h ad cI cZ ex pa di qu gc (va_up dg dc g) (va_up dp dc (plc g a 0 (y2 + 1))) (va_up dv dc (some v2)) (va_up dd dc w) (va_up ds dc 1) (dc + 1) td ho ak se pr) H := hP
        have hD : va_D A (hW h ad cI cZ ex pa di qu gc (va_up dg dc g) (va_up dp dc (plc g a 0 (y2 + 1))) (va_up dv dc (some v2)) (va_up dd dc w) (va_up ds dc 1) (dc + 1) td ho ak se pr) := hD
        refine lv_iload hx hb dX0_draft_165 (lv_at hl 0 rfl) ?_
        exact q_wretI hx hb hr hlocks hAe hP hS (rfl) dX0_draft_167
  | some x2 =>
    have hx3 := hxr x2 rfl
    refine lv_iload_n hx hb dX0_draft_9 rfl (lv_at hl 3 rfl) ?_
    refine lv_iconst (v := oI none) hx hb dX0_draft_10 (by decide) ?_
    refine q_top2 (y := oI (some x2)) ((rfl : nI x2 = oI (some x2))) ?_
    refine q_icmpO_eq (a := some x2) (b := none) (tgt := 18) (fun k h9 => by cases h9; omega) (fun k h9 => by cases h9) hx hb dX0_draft_11 (by decide) (fun k11 => (by cases k11)) (fun k11 => ?_)
    refine lv_iload_n hx hb dX0_draft_14 rfl (lv_at hl 3 rfl) ?_
    refine q_callV (va_runS (As := [.int (nI x2)]) (rest := []) ⟨hx, hb, hml, hown, hts⟩ (kX0_checkShop l x2 hx3) (cwS 1 hts gX0_draft_X0_checkShop rfl rfl rfl (by decide +kernel) ⟨Nat.le_of_ble_eq_true rfl, Nat.le_of_ble_eq_true rfl⟩) ⟨sP_blind, sP_pre⟩ rfl rfl hl.1 rfl (lv_room (Nat.le_of_ble_eq_true rfl)) dX0_draft_15 ⟨Nat.zero_le _, Nat.zero_le _⟩) ?_
    cases y with
    | none =>
      refine lv_iload hx hb dX0_draft_18 (lv_at hl 4 rfl) ?_
      refine lv_iconst (v := oI none) hx hb dX0_draft_20 (by decide) ?_
      refine q_icmpO_eq (a := none) (b := none) (tgt := 29) (fun k h9 => by cases h9) (fun k h9 => by cases h9) hx hb dX0_draft_21 (by decide) (fun k21 => ?_) (fun k21 => absurd rfl k21)
      cases v with
      | none =>
        refine lv_iload hx hb dX0_draft_29 (lv_at hl 5 rfl) ?_
        refine lv_iconst (v := oI none) hx hb dX0_draft_31 (by decide) ?_
        refine q_icmpO_eq (a := none) (b := none) (tgt := 57) (fun k h9 => by cases h9) (fun k h9 => by cases h9) hx hb dX0_draft_32 (by decide) (fun k32 => ?_) (fun k32 => absurd rfl k32)
        refine lv_iload hx hb dX0_draft_57 (lv_at hl 6 rfl) ?_
        refine q_ifN_lt (a := w) 70 (by omega) hx hb dX0_draft_59 (by decide) ?_
        refine lv_iload hx hb dX0_draft_62 (lv_at hl 6 rfl) ?_
        refine lv_sipush (v := nI 1000) hx hb dX0_draft_64 (by decide) ?_
        refine q_icmpN_le (a := w) (b := 1000) (tgt := 80) (by omega) (by omega) hx hb dX0_draft_67 (by decide) (fun k67 => ?_) (fun k67 => absurd k67 (by omega))
        refine lv_aload_n hx hb dX0_draft_80 rfl (lv_at hl 0 rfl) ?_
        refine va_get (D := D) (ci := 0) (v := .int (nI dc)) (C := RX0) (T := TX0) (N := 16) hx hb hts (iX0_draft) hown hK hP 0 rfl rfl 10 (by decide) (hts (.fieldLink RX0 42 "ShopHub" "draftCount" "I") (by decide +kernel)) (fun _ h9 => h9) rfl dX0_draft_81 ?_
        refine lv_sipush (v := nI 200) hx hb dX0_draft_84 (by decide) ?_
        refine q_icmpN_lt (a := dc) (b := 200) (tgt := 100) (by omega) (by omega) hx hb dX0_draft_87 (by decide) (fun k87 => ?_) (fun k87 => absurd k87 (by omega))
        refine lv_aload_n hx hb dX0_draft_100 rfl (lv_at hl 0 rfl) ?_
        refine va_get (D := D) (ci := 0) (v := .int (nI dc)) (C := RX0) (T := TX0) (N := 16) hx hb hts (iX0_draft) hown hK hP 0 rfl rfl 10 (by decide) (hts (.fieldLink RX0 42 "ShopHub" "draftCount" "I") (by decide +kernel)) (fun _ h9 => h9) rfl dX0_draft_101 ?_
        refine lv_istore (lv' := [(7, .int (nI dc)), (0, .ref h), (1, .int (nI g)), (2, .int (nI a)), (3, .int (nI x2)), (4, .int (oI none)), (5, .int (oI none)), (6, .int (nI w))]) hx hb dX0_draft_104 hl (by decide) rfl (fun ls hl => ?_)
        refine lv_aload_n hx hb dX0_draft_106 rfl (lv_at hl 1 rfl) ?_
        refine lv_dup hx hb dX0_draft_107 rfl ?_
        refine va_get (D := D) (ci := 0) (v := .int (nI dc)) (C := RX0) (T := TX0) (N := 16) hx hb hts (iX0_draft) hown hK hP 0 rfl rfl 10 (by decide) (hts (.fieldLink RX0 42 "ShopHub" "draftCount" "I") (by decide +kernel)) (fun _ h9 => h9) rfl dX0_draft_108 ?_
        refine lv_iconst (v := nI 1) hx hb dX0_draft_111 (by decide) ?_
        refine q_addN (a := dc) (b := 1) hx hb dX0_draft_112 ?_
        refine va_put (D := D) (ci := 0) (v := .int (nI (dc + 1))) (ty := .int) (C := RX0) (T := TX0) (N := 16) hx hb hts (iX0_draft) tyX0 tyX0_ok nmX0 hown hK hP hD hS 0 rfl rfl 10 (by decide) (hts (.fieldLink RX0 42 "ShopHub" "draftCount" "I") (by decide +kernel)) (fun _ h9 => h9) rfl (by decide +kernel) rfl rfl (Nat.le_of_ble_eq_true rfl) dX0_draft_113 (fun H locs hP hD hS => ?_)
        have hP : va_P D vwCl (hW h ad cI cZ ex pa di qu gc dg dp dv dd ds (dc + 1) td ho ak se pr) H := hP
        have hD : va_D A (hW h ad cI cZ ex pa di qu gc dg dp dv dd ds (dc + 1) td ho ak se pr) := hD
        refine lv_aload_n hx hb dX0_draft_116 rfl (lv_at hl 1 rfl) ?_
        refine va_get (D := D) (ci := 0) (v := .ref (ad 5)) (C := RX0) (T := TX0) (N := 16) hx hb hts (iX0_draft) hown hK hP 0 rfl rfl 5 (by decide) (hts (.fieldLink RX0 27 "ShopHub" "draftGoods" "[I") (by decide +kernel)) (fun _ h9 => h9) rfl dX0_draft_117 ?_
        refine lv_iload hx hb dX0_draft_120 (lv_at hl 0 rfl) ?_
        refine lv_iload_n hx hb dX0_draft_122 rfl (lv_at hl 2 rfl) ?_
        refine q_ast nI dg g hx hb hK hP hD hS 5 1 rfl rfl (k := dc) (by omega) (Nat.le_of_ble_eq_true rfl) dX0_draft_123 (fun H locs hP hD hS => ?_)
        have hP : va_P D vwCl (hW h ad cI cZ ex pa di qu gc (va_up dg dc g) dp dv dd ds (dc + 1) td ho ak se pr) H := hP
        have hD : va_D A (hW h ad cI cZ ex pa di qu gc (va_up dg dc g) dp dv dd ds (dc + 1) td ho ak se pr) := hD
        refine lv_aload_n hx hb dX0_draft_124 rfl (lv_at hl 1 rfl) ?_
        refine va_get (D := D) (ci := 0) (v := .ref (ad 6)) (C := RX0) (T := TX0) (N := 16) hx hb hts (iX0_draft) hown hK hP 0 rfl rfl 6 (by decide) (hts (.fieldLink RX0 30 "ShopHub" "draftPlaces" "[I") (by decide +kernel)) (fun _ h9 => h9) rfl dX0_draft_125 ?_
        refine lv_iload hx hb dX0_draft_128 (lv_at hl 0 rfl) ?_
        refine lv_iload_n hx hb dX0_draft_130 rfl (lv_at hl 2 rfl) ?_
        refine lv_iload_n hx hb dX0_draft_131 rfl (lv_at hl 3 rfl) ?_
        refine lv_iload_n hx hb dX0_draft_132 rfl (lv_at hl 4 rfl) ?_
        refine lv_iload hx hb dX0_draft_133 (lv_at hl 5 rfl) ?_
        refine q_top (y := zI (((0 : Nat) : Int) - 1)) (by decide) ?_
        refine q_top2 (y := zI (((x2 + 1 : Nat) : Int) - 1)) (by rw [nz]; exact congrArg zI (by omega)) ?_
        refine q_callI (r := nI (plc g a (x2 + 1) 0)) (va_runS (As := [.int (nI g), .int (nI a), .int (zI (((x2 + 1 : Nat) : Int) - 1)), .int (zI (((0 : Nat) : Int) - 1))]) (rest := [.int (nI dc), .ref (ad 6)]) ⟨hx, hb, hml, hown, hts⟩ (kX0_placeOf l g a (x2 + 1) 0 hg ha (by omega) (by omega)) (cwS 4 hts gX0_draft_X0_placeOf rfl rfl rfl (by decide +kernel) ⟨Nat.le_of_ble_eq_true rfl, Nat.le_of_ble_eq_true rfl⟩) ⟨sP_blind, sP_pre⟩ rfl rfl hl.1 rfl (lv_room (Nat.le_of_ble_eq_true rfl)) dX0_draft_135 ⟨Nat.zero_le _, Nat.zero_le _⟩) ?_
        refine q_ast nI dp (plc g a (x2 + 1) 0) hx hb hK hP hD hS 6 1 rfl rfl (k := dc) (by omega) (Nat.le_of_ble_eq_true rfl) dX0_draft_138 (fun H locs hP hD hS => ?_)
        have hP : va_P D vwCl (hW h ad cI cZ ex pa di qu gc (va_up dg dc g) (va_up dp dc (plc g a (x2 + 1) 0)) dv dd ds (dc + 1) td ho ak se pr) H := hP
        have hD : va_D A (hW h ad cI cZ ex pa di qu gc (va_up dg dc g) (va_up dp dc (plc g a (x2 + 1) 0)) dv dd ds (dc + 1) td ho ak se pr) := hD
        refine lv_aload_n hx hb dX0_draft_139 rfl (lv_at hl 1 rfl) ?_
        refine va_get (D := D) (ci := 0) (v := .ref (ad 7)) (C := RX0) (T := TX0) (N := 16) hx hb hts (iX0_draft) hown hK hP 0 rfl rfl 7 (by decide) (hts (.fieldLink RX0 33 "ShopHub" "draftValues" "[I") (by decide +kernel)) (fun _ h9 => h9) rfl dX0_draft_140 ?_
        refine lv_iload hx hb dX0_draft_143 (lv_at hl 0 rfl) ?_
        refine lv_iload hx hb dX0_draft_145 (lv_at hl 6 rfl) ?_
        refine q_ast oI dv none hx hb hK hP hD hS 7 1 rfl rfl (k := dc) (by omega) (Nat.le_of_ble_eq_true rfl) dX0_draft_147 (fun H locs hP hD hS => ?_)
        have hP : va_P D vwCl (hW h ad cI cZ ex pa di qu gc (va_up dg dc g) (va_up dp dc (plc g a (x2 + 1) 0)) (va_up dv dc none) dd ds (dc + 1) td ho ak se pr) H := hP
        have hD : va_D A (hW h ad cI cZ ex pa di qu gc (va_up dg dc g) (va_up dp dc (plc g a (x2 + 1) 0)) (va_up dv dc none) dd ds (dc + 1) td ho ak se pr) := hD
        refine lv_aload_n hx hb dX0_draft_148 rfl (lv_at hl 1 rfl) ?_
        refine va_get (D := D) (ci := 0) (v := .ref (ad 8)) (C := RX0) (T := TX0) (N := 16) hx hb hts (iX0_draft) hown hK hP 0 rfl rfl 8 (by decide) (hts (.fieldLink RX0 36 "ShopHub" "draftDays" "[I") (by decide +kernel)) (fun _ h9 => h9) rfl dX0_draft_149 ?_
        refine lv_iload hx hb dX0_draft_152 (lv_at hl 0 rfl) ?_
        refine lv_iload hx hb dX0_draft_154 (lv_at hl 7 rfl) ?_
        refine q_ast nI dd w hx hb hK hP hD hS 8 1 rfl rfl (k := dc) (by omega) (Nat.le_of_ble_eq_true rfl) dX0_draft_156 (fun H locs hP hD hS => ?_)
        have hP : va_P D vwCl (hW h ad cI cZ ex pa di qu gc (va_up dg dc g) (va_up dp dc (plc g a (x2 + 1) 0)) (va_up dv dc none) (va_up dd dc w) ds (dc + 1) td ho ak se pr) H := hP
        have hD : va_D A (hW h ad cI cZ ex pa di qu gc (va_up dg dc g) (va_up dp dc (plc g a (x2 + 1) 0)) (va_up dv dc none) (va_up dd dc w) ds (dc + 1) td ho ak se pr) := hD
        refine lv_aload_n hx hb dX0_draft_157 rfl (lv_at hl 1 rfl) ?_
        refine va_get (D := D) (ci := 0) (v := .ref (ad 9)) (C := RX0) (T := TX0) (N := 16) hx hb hts (iX0_draft) hown hK hP 0 rfl rfl 9 (by decide) (hts (.fieldLink RX0 39 "ShopHub" "draftStates" "[I") (by decide +kernel)) (fun _ h9 => h9) rfl dX0_draft_158 ?_
        refine lv_iload hx hb dX0_draft_161 (lv_at hl 0 rfl) ?_
        refine lv_iconst (v := nI 1) hx hb dX0_draft_163 (by decide) ?_
        refine q_ast nI ds 1 hx hb hK hP hD hS 9 1 rfl rfl (k := dc) (by omega) (Nat.le_of_ble_eq_true rfl) dX0_draft_164 (fun H locs hP hD hS => ?_)
        have hP : va_P D vwCl (hW h ad cI cZ ex pa di qu gc (va_up dg dc g) (va_up dp dc (plc g a (x2 + 1) 0)) (va_up dv dc none) (va_up dd dc w) (va_up ds dc 1) (dc + 1) td ho ak se pr) H := hP
        have hD : va_D A (hW h ad cI cZ ex pa di qu gc (va_up dg dc g) (va_up dp dc (plc g a (x2 + 1) 0)) (va_up dv dc none) (va_up dd dc w) (va_up ds dc 1) (dc + 1) td ho ak se pr) := hD
        refine lv_iload hx hb dX0_draft_165 (lv_at hl 0 rfl) ?_
        exact q_wretI hx hb hr hlocks hAe hP hS (rfl) dX0_draft_167
      | some v2 =>
        have hv3 := hvr v2 rfl
        refine lv_iload hx hb dX0_draft_29 (lv_at hl 5 rfl) ?_
        refine lv_iconst (v := oI none) hx hb dX0_draft_31 (by decide) ?_
        refine q_top2 (y := oI (some v2)) ((rfl : nI v2 = oI (some v2))) ?_
        refine q_icmpO_eq (a := some v2) (b := none) (tgt := 57) (fun k h9 => by cases h9; omega) (fun k h9 => by cases h9) hx hb dX0_draft_32 (by decide) (fun k32 => (by cases k32)) (fun k32 => ?_)
        refine lv_iload hx hb dX0_draft_35 (lv_at hl 5 rfl) ?_
        refine q_ifN_lt (a := v2) 47 (by omega) hx hb dX0_draft_37 (by decide) ?_
        refine lv_iload hx hb dX0_draft_40 (lv_at hl 5 rfl) ?_
        refine lv_ldc (v := 100000) hx hb hown (hts (.constant RX0 144 (100000)) (by decide +kernel)) dX0_draft_42 ?_
        refine q_top (y := nI 100000) (by decide : (100000 : Int32) = nI 100000) ?_
        refine q_icmpN_le (a := v2) (b := 100000) (tgt := 57) (by omega) (by omega) hx hb dX0_draft_44 (by decide) (fun k44 => ?_) (fun k44 => absurd k44 (by omega))
        refine lv_iload hx hb dX0_draft_57 (lv_at hl 6 rfl) ?_
        refine q_ifN_lt (a := w) 70 (by omega) hx hb dX0_draft_59 (by decide) ?_
        refine lv_iload hx hb dX0_draft_62 (lv_at hl 6 rfl) ?_
        refine lv_sipush (v := nI 1000) hx hb dX0_draft_64 (by decide) ?_
        refine q_icmpN_le (a := w) (b := 1000) (tgt := 80) (by omega) (by omega) hx hb dX0_draft_67 (by decide) (fun k67 => ?_) (fun k67 => absurd k67 (by omega))
        refine lv_aload_n hx hb dX0_draft_80 rfl (lv_at hl 0 rfl) ?_
        refine va_get (D := D) (ci := 0) (v := .int (nI dc)) (C := RX0) (T := TX0) (N := 16) hx hb hts (iX0_draft) hown hK hP 0 rfl rfl 10 (by decide) (hts (.fieldLink RX0 42 "ShopHub" "draftCount" "I") (by decide +kernel)) (fun _ h9 => h9) rfl dX0_draft_81 ?_
        refine lv_sipush (v := nI 200) hx hb dX0_draft_84 (by decide) ?_
        refine q_icmpN_lt (a := dc) (b := 200) (tgt := 100) (by omega) (by omega) hx hb dX0_draft_87 (by decide) (fun k87 => ?_) (fun k87 => absurd k87 (by omega))
        refine lv_aload_n hx hb dX0_draft_100 rfl (lv_at hl 0 rfl) ?_
        refine va_get (D := D) (ci := 0) (v := .int (nI dc)) (C := RX0) (T := TX0) (N := 16) hx hb hts (iX0_draft) hown hK hP 0 rfl rfl 10 (by decide) (hts (.fieldLink RX0 42 "ShopHub" "draftCount" "I") (by decide +kernel)) (fun _ h9 => h9) rfl dX0_draft_101 ?_
        refine lv_istore (lv' := [(7, .int (nI dc)), (0, .ref h), (1, .int (nI g)), (2, .int (nI a)), (3, .int (nI x2)), (4, .int (oI none)), (5, .int (nI v2)), (6, .int (nI w))]) hx hb dX0_draft_104 hl (by decide) rfl (fun ls hl => ?_)
        refine lv_aload_n hx hb dX0_draft_106 rfl (lv_at hl 1 rfl) ?_
        refine lv_dup hx hb dX0_draft_107 rfl ?_
        refine va_get (D := D) (ci := 0) (v := .int (nI dc)) (C := RX0) (T := TX0) (N := 16) hx hb hts (iX0_draft) hown hK hP 0 rfl rfl 10 (by decide) (hts (.fieldLink RX0 42 "ShopHub" "draftCount" "I") (by decide +kernel)) (fun _ h9 => h9) rfl dX0_draft_108 ?_
        refine lv_iconst (v := nI 1) hx hb dX0_draft_111 (by decide) ?_
        refine q_addN (a := dc) (b := 1) hx hb dX0_draft_112 ?_
        refine va_put (D := D) (ci := 0) (v := .int (nI (dc + 1))) (ty := .int) (C := RX0) (T := TX0) (N := 16) hx hb hts (iX0_draft) tyX0 tyX0_ok nmX0 hown hK hP hD hS 0 rfl rfl 10 (by decide) (hts (.fieldLink RX0 42 "ShopHub" "draftCount" "I") (by decide +kernel)) (fun _ h9 => h9) rfl (by decide +kernel) rfl rfl (Nat.le_of_ble_eq_true rfl) dX0_draft_113 (fun H locs hP hD hS => ?_)
        have hP : va_P D vwCl (hW h ad cI cZ ex pa di qu gc dg dp dv dd ds (dc + 1) td ho ak se pr) H := hP
        have hD : va_D A (hW h ad cI cZ ex pa di qu gc dg dp dv dd ds (dc + 1) td ho ak se pr) := hD
        refine lv_aload_n hx hb dX0_draft_116 rfl (lv_at hl 1 rfl) ?_
        refine va_get (D := D) (ci := 0) (v := .ref (ad 5)) (C := RX0) (T := TX0) (N := 16) hx hb hts (iX0_draft) hown hK hP 0 rfl rfl 5 (by decide) (hts (.fieldLink RX0 27 "ShopHub" "draftGoods" "[I") (by decide +kernel)) (fun _ h9 => h9) rfl dX0_draft_117 ?_
        refine lv_iload hx hb dX0_draft_120 (lv_at hl 0 rfl) ?_
        refine lv_iload_n hx hb dX0_draft_122 rfl (lv_at hl 2 rfl) ?_
        refine q_ast nI dg g hx hb hK hP hD hS 5 1 rfl rfl (k := dc) (by omega) (Nat.le_of_ble_eq_true rfl) dX0_draft_123 (fun H locs hP hD hS => ?_)
        have hP : va_P D vwCl (hW h ad cI cZ ex pa di qu gc (va_up dg dc g) dp dv dd ds (dc + 1) td ho ak se pr) H := hP
        have hD : va_D A (hW h ad cI cZ ex pa di qu gc (va_up dg dc g) dp dv dd ds (dc + 1) td ho ak se pr) := hD
        refine lv_aload_n hx hb dX0_draft_124 rfl (lv_at hl 1 rfl) ?_
        refine va_get (D := D) (ci := 0) (v := .ref (ad 6)) (C := RX0) (T := TX0) (N := 16) hx hb hts (iX0_draft) hown hK hP 0 rfl rfl 6 (by decide) (hts (.fieldLink RX0 30 "ShopHub" "draftPlaces" "[I") (by decide +kernel)) (fun _ h9 => h9) rfl dX0_draft_125 ?_
        refine lv_iload hx hb dX0_draft_128 (lv_at hl 0 rfl) ?_
        refine lv_iload_n hx hb dX0_draft_130 rfl (lv_at hl 2 rfl) ?_
        refine lv_iload_n hx hb dX0_draft_131 rfl (lv_at hl 3 rfl) ?_
        refine lv_iload_n hx hb dX0_draft_132 rfl (lv_at hl 4 rfl) ?_
        refine lv_iload hx hb dX0_draft_133 (lv_at hl 5 rfl) ?_
        refine q_top (y := zI (((0 : Nat) : Int) - 1)) (by decide) ?_
        refine q_top2 (y := zI (((x2 + 1 : Nat) : Int) - 1)) (by rw [nz]; exact congrArg zI (by omega)) ?_
        refine q_callI (r := nI (plc g a (x2 + 1) 0)) (va_runS (As := [.int (nI g), .int (nI a), .int (zI (((x2 + 1 : Nat) : Int) - 1)), .int (zI (((0 : Nat) : Int) - 1))]) (rest := [.int (nI dc), .ref (ad 6)]) ⟨hx, hb, hml, hown, hts⟩ (kX0_placeOf l g a (x2 + 1) 0 hg ha (by omega) (by omega)) (cwS 4 hts gX0_draft_X0_placeOf rfl rfl rfl (by decide +kernel) ⟨Nat.le_of_ble_eq_true rfl, Nat.le_of_ble_eq_true rfl⟩) ⟨sP_blind, sP_pre⟩ rfl rfl hl.1 rfl (lv_room (Nat.le_of_ble_eq_true rfl)) dX0_draft_135 ⟨Nat.zero_le _, Nat.zero_le _⟩) ?_
        refine q_ast nI dp (plc g a (x2 + 1) 0) hx hb hK hP hD hS 6 1 rfl rfl (k := dc) (by omega) (Nat.le_of_ble_eq_true rfl) dX0_draft_138 (fun H locs hP hD hS => ?_)
        have hP : va_P D vwCl (hW h ad cI cZ ex pa di qu gc (va_up dg dc g) (va_up dp dc (plc g a (x2 + 1) 0)) dv dd ds (dc + 1) td ho ak se pr) H := hP
        have hD : va_D A (hW h ad cI cZ ex pa di qu gc (va_up dg dc g) (va_up dp dc (plc g a (x2 + 1) 0)) dv dd ds (dc + 1) td ho ak se pr) := hD
        refine lv_aload_n hx hb dX0_draft_139 rfl (lv_at hl 1 rfl) ?_
        refine va_get (D := D) (ci := 0) (v := .ref (ad 7)) (C := RX0) (T := TX0) (N := 16) hx hb hts (iX0_draft) hown hK hP 0 rfl rfl 7 (by decide) (hts (.fieldLink RX0 33 "ShopHub" "draftValues" "[I") (by decide +kernel)) (fun _ h9 => h9) rfl dX0_draft_140 ?_
        refine lv_iload hx hb dX0_draft_143 (lv_at hl 0 rfl) ?_
        refine lv_iload hx hb dX0_draft_145 (lv_at hl 6 rfl) ?_
        refine q_top (y := oI (some v2)) ((rfl : nI v2 = oI (some v2))) ?_
        refine q_ast oI dv (some v2) hx hb hK hP hD hS 7 1 rfl rfl (k := dc) (by omega) (Nat.le_of_ble_eq_true rfl) dX0_draft_147 (fun H locs hP hD hS => ?_)
        have hP : va_P D vwCl (hW h ad cI cZ ex pa di qu gc (va_up dg dc g) (va_up dp dc (plc g a (x2 + 1) 0)) (va_up dv dc (some v2)) dd ds (dc + 1) td ho ak se pr) H := hP
        have hD : va_D A (hW h ad cI cZ ex pa di qu gc (va_up dg dc g) (va_up dp dc (plc g a (x2 + 1) 0)) (va_up dv dc (some v2)) dd ds (dc + 1) td ho ak se pr) := hD
        refine lv_aload_n hx hb dX0_draft_148 rfl (lv_at hl 1 rfl) ?_
        refine va_get (D := D) (ci := 0) (v := .ref (ad 8)) (C := RX0) (T := TX0) (N := 16) hx hb hts (iX0_draft) hown hK hP 0 rfl rfl 8 (by decide) (hts (.fieldLink RX0 36 "ShopHub" "draftDays" "[I") (by decide +kernel)) (fun _ h9 => h9) rfl dX0_draft_149 ?_
        refine lv_iload hx hb dX0_draft_152 (lv_at hl 0 rfl) ?_
        refine lv_iload hx hb dX0_draft_154 (lv_at hl 7 rfl) ?_
        refine q_ast nI dd w hx hb hK hP hD hS 8 1 rfl rfl (k := dc) (by omega) (Nat.le_of_ble_eq_true rfl) dX0_draft_156 (fun H locs hP hD hS => ?_)
        have hP : va_P D vwCl (hW h ad cI cZ ex pa di qu gc (va_up dg dc g) (va_up dp dc (plc g a (x2 + 1) 0)) (va_up dv dc (some v2)) (va_up dd dc w) ds (dc + 1) td ho ak se pr) H := hP
        have hD : va_D A (hW h ad cI cZ ex pa di qu gc (va_up dg dc g) (va_up dp dc (plc g a (x2 + 1) 0)) (va_up dv dc (some v2)) (va_up dd dc w) ds (dc + 1) td ho ak se pr) := hD
        refine lv_aload_n hx hb dX0_draft_157 rfl (lv_at hl 1 rfl) ?_
        refine va_get (D := D) (ci := 0) (v := .ref (ad 9)) (C := RX0) (T := TX0) (N := 16) hx hb hts (iX0_draft) hown hK hP 0 rfl rfl 9 (by decide) (hts (.fieldLink RX0 39 "ShopHub" "draftStates" "[I") (by decide +kernel)) (fun _ h9 => h9) rfl dX0_draft_158 ?_
        refine lv_iload hx hb dX0_draft_161 (lv_at hl 0 rfl) ?_
        refine lv_iconst (v := nI 1) hx hb dX0_draft_163 (by decide) ?_
        refine q_ast nI ds 1 hx hb hK hP hD hS 9 1 rfl rfl (k := dc) (by omega) (Nat.le_of_ble_eq_true rfl) dX0_draft_164 (fun H locs hP hD hS => ?_)
        have hP : va_P D vwCl (hW h ad cI cZ ex pa di qu gc (va_up dg dc g) (va_up dp dc (plc g a (x2 + 1) 0)) (va_up dv dc (some v2)) (va_up dd dc w) (va_up ds dc 1) (dc + 1) td ho ak se pr) H := hP
        have hD : va_D A (hW h ad cI cZ ex pa di qu gc (va_up dg dc g) (va_up dp dc (plc g a (x2 + 1) 0)) (va_up dv dc (some v2)) (va_up dd dc w) (va_up ds dc 1) (dc + 1) td ho ak se pr) := hD
        refine lv_iload hx hb dX0_draft_165 (lv_at hl 0 rfl) ?_
        exact q_wretI hx hb hr hlocks hAe hP hS (rfl) dX0_draft_167
    | some y2 =>
      have hy3 := hyr y2 rfl
      refine lv_iload hx hb dX0_draft_18 (lv_at hl 4 rfl) ?_
      refine lv_iconst (v := oI none) hx hb dX0_draft_20 (by decide) ?_
      refine q_top2 (y := oI (some y2)) ((rfl : nI y2 = oI (some y2))) ?_
      refine q_icmpO_eq (a := some y2) (b := none) (tgt := 29) (fun k h9 => by cases h9; omega) (fun k h9 => by cases h9) hx hb dX0_draft_21 (by decide) (fun k21 => (by cases k21)) (fun k21 => ?_)
      refine lv_iload hx hb dX0_draft_24 (lv_at hl 4 rfl) ?_
      refine q_callV (va_runS (As := [.int (nI y2)]) (rest := []) ⟨hx, hb, hml, hown, hts⟩ (kX0_checkTongue l y2 hy3) (cwS 1 hts gX0_draft_X0_checkTongue rfl rfl rfl (by decide +kernel) ⟨Nat.le_of_ble_eq_true rfl, Nat.le_of_ble_eq_true rfl⟩) ⟨sP_blind, sP_pre⟩ rfl rfl hl.1 rfl (lv_room (Nat.le_of_ble_eq_true rfl)) dX0_draft_26 ⟨Nat.zero_le _, Nat.zero_le _⟩) ?_
      cases v with
      | none =>
        refine lv_iload hx hb dX0_draft_29 (lv_at hl 5 rfl) ?_
        refine lv_iconst (v := oI none) hx hb dX0_draft_31 (by decide) ?_
        refine q_icmpO_eq (a := none) (b := none) (tgt := 57) (fun k h9 => by cases h9) (fun k h9 => by cases h9) hx hb dX0_draft_32 (by decide) (fun k32 => ?_) (fun k32 => absurd rfl k32)
        refine lv_iload hx hb dX0_draft_57 (lv_at hl 6 rfl) ?_
        refine q_ifN_lt (a := w) 70 (by omega) hx hb dX0_draft_59 (by decide) ?_
        refine lv_iload hx hb dX0_draft_62 (lv_at hl 6 rfl) ?_
        refine lv_sipush (v := nI 1000) hx hb dX0_draft_64 (by decide) ?_
        refine q_icmpN_le (a := w) (b := 1000) (tgt := 80) (by omega) (by omega) hx hb dX0_draft_67 (by decide) (fun k67 => ?_) (fun k67 => absurd k67 (by omega))
        refine lv_aload_n hx hb dX0_draft_80 rfl (lv_at hl 0 rfl) ?_
        refine va_get (D := D) (ci := 0) (v := .int (nI dc)) (C := RX0) (T := TX0) (N := 16) hx hb hts (iX0_draft) hown hK hP 0 rfl rfl 10 (by decide) (hts (.fieldLink RX0 42 "ShopHub" "draftCount" "I") (by decide +kernel)) (fun _ h9 => h9) rfl dX0_draft_81 ?_
        refine lv_sipush (v := nI 200) hx hb dX0_draft_84 (by decide) ?_
        refine q_icmpN_lt (a := dc) (b := 200) (tgt := 100) (by omega) (by omega) hx hb dX0_draft_87 (by decide) (fun k87 => ?_) (fun k87 => absurd k87 (by omega))
        refine lv_aload_n hx hb dX0_draft_100 rfl (lv_at hl 0 rfl) ?_
        refine va_get (D := D) (ci := 0) (v := .int (nI dc)) (C := RX0) (T := TX0) (N := 16) hx hb hts (iX0_draft) hown hK hP 0 rfl rfl 10 (by decide) (hts (.fieldLink RX0 42 "ShopHub" "draftCount" "I") (by decide +kernel)) (fun _ h9 => h9) rfl dX0_draft_101 ?_
        refine lv_istore (lv' := [(7, .int (nI dc)), (0, .ref h), (1, .int (nI g)), (2, .int (nI a)), (3, .int (nI x2)), (4, .int (nI y2)), (5, .int (oI none)), (6, .int (nI w))]) hx hb dX0_draft_104 hl (by decide) rfl (fun ls hl => ?_)
        refine lv_aload_n hx hb dX0_draft_106 rfl (lv_at hl 1 rfl) ?_
        refine lv_dup hx hb dX0_draft_107 rfl ?_
        refine va_get (D := D) (ci := 0) (v := .int (nI dc)) (C := RX0) (T := TX0) (N := 16) hx hb hts (iX0_draft) hown hK hP 0 rfl rfl 10 (by decide) (hts (.fieldLink RX0 42 "ShopHub" "draftCount" "I") (by decide +kernel)) (fun _ h9 => h9) rfl dX0_draft_108 ?_
        refine lv_iconst (v := nI 1) hx hb dX0_draft_111 (by decide) ?_
        refine q_addN (a := dc) (b := 1) hx hb dX0_draft_112 ?_
        refine va_put (D := D) (ci := 0) (v := .int (nI (dc + 1))) (ty := .int) (C := RX0) (T := TX0) (N := 16) hx hb hts (iX0_draft) tyX0 tyX0_ok nmX0 hown hK hP hD hS 0 rfl rfl 10 (by decide) (hts (.fieldLink RX0 42 "ShopHub" "draftCount" "I") (by decide +kernel)) (fun _ h9 => h9) rfl (by decide +kernel) rfl rfl (Nat.le_of_ble_eq_true rfl) dX0_draft_113 (fun H locs hP hD hS => ?_)
        have hP : va_P D vwCl (hW h ad cI cZ ex pa di qu gc dg dp dv dd ds (dc + 1) td ho ak se pr) H := hP
        have hD : va_D A (hW h ad cI cZ ex pa di qu gc dg dp dv dd ds (dc + 1) td ho ak se pr) := hD
        refine lv_aload_n hx hb dX0_draft_116 rfl (lv_at hl 1 rfl) ?_
        refine va_get (D := D) (ci := 0) (v := .ref (ad 5)) (C := RX0) (T := TX0) (N := 16) hx hb hts (iX0_draft) hown hK hP 0 rfl rfl 5 (by decide) (hts (.fieldLink RX0 27 "ShopHub" "draftGoods" "[I") (by decide +kernel)) (fun _ h9 => h9) rfl dX0_draft_117 ?_
        refine lv_iload hx hb dX0_draft_120 (lv_at hl 0 rfl) ?_
        refine lv_iload_n hx hb dX0_draft_122 rfl (lv_at hl 2 rfl) ?_
        refine q_ast nI dg g hx hb hK hP hD hS 5 1 rfl rfl (k := dc) (by omega) (Nat.le_of_ble_eq_true rfl) dX0_draft_123 (fun H locs hP hD hS => ?_)
        have hP : va_P D vwCl (hW h ad cI cZ ex pa di qu gc (va_up dg dc g) dp dv dd ds (dc + 1) td ho ak se pr) H := hP
        have hD : va_D A (hW h ad cI cZ ex pa di qu gc (va_up dg dc g) dp dv dd ds (dc + 1) td ho ak se pr) := hD
        refine lv_aload_n hx hb dX0_draft_124 rfl (lv_at hl 1 rfl) ?_
        refine va_get (D := D) (ci := 0) (v := .ref (ad 6)) (C := RX0) (T := TX0) (N := 16) hx hb hts (iX0_draft) hown hK hP 0 rfl rfl 6 (by decide) (hts (.fieldLink RX0 30 "ShopHub" "draftPlaces" "[I") (by decide +kernel)) (fun _ h9 => h9) rfl dX0_draft_125 ?_
        refine lv_iload hx hb dX0_draft_128 (lv_at hl 0 rfl) ?_
        refine lv_iload_n hx hb dX0_draft_130 rfl (lv_at hl 2 rfl) ?_
        refine lv_iload_n hx hb dX0_draft_131 rfl (lv_at hl 3 rfl) ?_
        refine lv_iload_n hx hb dX0_draft_132 rfl (lv_at hl 4 rfl) ?_
        refine lv_iload hx hb dX0_draft_133 (lv_at hl 5 rfl) ?_
        refine q_top (y := zI (((y2 + 1 : Nat) : Int) - 1)) (by rw [nz]; exact congrArg zI (by omega)) ?_
        refine q_top2 (y := zI (((x2 + 1 : Nat) : Int) - 1)) (by rw [nz]; exact congrArg zI (by omega)) ?_
        refine q_callI (r := nI (plc g a (x2 + 1) (y2 + 1))) (va_runS (As := [.int (nI g), .int (nI a), .int (zI (((x2 + 1 : Nat) : Int) - 1)), .int (zI (((y2 + 1 : Nat) : Int) - 1))]) (rest := [.int (nI dc), .ref (ad 6)]) ⟨hx, hb, hml, hown, hts⟩ (kX0_placeOf l g a (x2 + 1) (y2 + 1) hg ha (by omega) (by omega)) (cwS 4 hts gX0_draft_X0_placeOf rfl rfl rfl (by decide +kernel) ⟨Nat.le_of_ble_eq_true rfl, Nat.le_of_ble_eq_true rfl⟩) ⟨sP_blind, sP_pre⟩ rfl rfl hl.1 rfl (lv_room (Nat.le_of_ble_eq_true rfl)) dX0_draft_135 ⟨Nat.zero_le _, Nat.zero_le _⟩) ?_
        refine q_ast nI dp (plc g a (x2 + 1) (y2 + 1)) hx hb hK hP hD hS 6 1 rfl rfl (k := dc) (by omega) (Nat.le_of_ble_eq_true rfl) dX0_draft_138 (fun H locs hP hD hS => ?_)
        have hP : va_P D vwCl (hW h ad cI cZ ex pa di qu gc (va_up dg dc g) (va_up dp dc (plc g a (x2 + 1) (y2 + 1))) dv dd ds (dc + 1) td ho ak se pr) H := hP
        have hD : va_D A (hW h ad cI cZ ex pa di qu gc (va_up dg dc g) (va_up dp dc (plc g a (x2 + 1) (y2 + 1))) dv dd ds (dc + 1) td ho ak se pr) := hD
        refine lv_aload_n hx hb dX0_draft_139 rfl (lv_at hl 1 rfl) ?_
        refine va_get (D := D) (ci := 0) (v := .ref (ad 7)) (C := RX0) (T := TX0) (N := 16) hx hb hts (iX0_draft) hown hK hP 0 rfl rfl 7 (by decide) (hts (.fieldLink RX0 33 "ShopHub" "draftValues" "[I") (by decide +kernel)) (fun _ h9 => h9) rfl dX0_draft_140 ?_
        refine lv_iload hx hb dX0_draft_143 (lv_at hl 0 rfl) ?_
        refine lv_iload hx hb dX0_draft_145 (lv_at hl 6 rfl) ?_
        refine q_ast oI dv none hx hb hK hP hD hS 7 1 rfl rfl (k := dc) (by omega) (Nat.le_of_ble_eq_true rfl) dX0_draft_147 (fun H locs hP hD hS => ?_)
        have hP : va_P D vwCl (hW h ad cI cZ ex pa di qu gc (va_up dg dc g) (va_up dp dc (plc g a (x2 + 1) (y2 + 1))) (va_up dv dc none) dd ds (dc + 1) td ho ak se pr) H := hP
        have hD : va_D A (hW h ad cI cZ ex pa di qu gc (va_up dg dc g) (va_up dp dc (plc g a (x2 + 1) (y2 + 1))) (va_up dv dc none) dd ds (dc + 1) td ho ak se pr) := hD
        refine lv_aload_n hx hb dX0_draft_148 rfl (lv_at hl 1 rfl) ?_
        refine va_get (D := D) (ci := 0) (v := .ref (ad 8)) (C := RX0) (T := TX0) (N := 16) hx hb hts (iX0_draft) hown hK hP 0 rfl rfl 8 (by decide) (hts (.fieldLink RX0 36 "ShopHub" "draftDays" "[I") (by decide +kernel)) (fun _ h9 => h9) rfl dX0_draft_149 ?_
        refine lv_iload hx hb dX0_draft_152 (lv_at hl 0 rfl) ?_
        refine lv_iload hx hb dX0_draft_154 (lv_at hl 7 rfl) ?_
        refine q_ast nI dd w hx hb hK hP hD hS 8 1 rfl rfl (k := dc) (by omega) (Nat.le_of_ble_eq_true rfl) dX0_draft_156 (fun H locs hP hD hS => ?_)
        have hP : va_P D vwCl (hW h ad cI cZ ex pa di qu gc (va_up dg dc g) (va_up dp dc (plc g a (x2 + 1) (y2 + 1))) (va_up dv dc none) (va_up dd dc w) ds (dc + 1) td ho ak se pr) H := hP
        have hD : va_D A (hW h ad cI cZ ex pa di qu gc (va_up dg dc g) (va_up dp dc (plc g a (x2 + 1) (y2 + 1))) (va_up dv dc none) (va_up dd dc w) ds (dc + 1) td ho ak se pr) := hD
        refine lv_aload_n hx hb dX0_draft_157 rfl (lv_at hl 1 rfl) ?_
        refine va_get (D := D) (ci := 0) (v := .ref (ad 9)) (C := RX0) (T := TX0) (N := 16) hx hb hts (iX0_draft) hown hK hP 0 rfl rfl 9 (by decide) (hts (.fieldLink RX0 39 "ShopHub" "draftStates" "[I") (by decide +kernel)) (fun _ h9 => h9) rfl dX0_draft_158 ?_
        refine lv_iload hx hb dX0_draft_161 (lv_at hl 0 rfl) ?_
        refine lv_iconst (v := nI 1) hx hb dX0_draft_163 (by decide) ?_
        refine q_ast nI ds 1 hx hb hK hP hD hS 9 1 rfl rfl (k := dc) (by omega) (Nat.le_of_ble_eq_true rfl) dX0_draft_164 (fun H locs hP hD hS => ?_)
        have hP : va_P D vwCl (hW h ad cI cZ ex pa di qu gc (va_up dg dc g) (va_up dp dc (plc g a (x2 + 1) (y2 + 1))) (va_up dv dc none) (va_up dd dc w) (va_up ds dc 1) (dc + 1) td ho ak se pr) H := hP
        have hD : va_D A (hW h ad cI cZ ex pa di qu gc (va_up dg dc g) (va_up dp dc (plc g a (x2 + 1) (y2 + 1))) (va_up dv dc none) (va_up dd dc w) (va_up ds dc 1) (dc + 1) td ho ak se pr) := hD
        refine lv_iload hx hb dX0_draft_165 (lv_at hl 0 rfl) ?_
        exact q_wretI hx hb hr hlocks hAe hP hS (rfl) dX0_draft_167
      | some v2 =>
        have hv3 := hvr v2 rfl
        refine lv_iload hx hb dX0_draft_29 (lv_at hl 5 rfl) ?_
        refine lv_iconst (v := oI none) hx hb dX0_draft_31 (by decide) ?_
        refine q_top2 (y := oI (some v2)) ((rfl : nI v2 = oI (some v2))) ?_
        refine q_icmpO_eq (a := some v2) (b := none) (tgt := 57) (fun k h9 => by cases h9; omega) (fun k h9 => by cases h9) hx hb dX0_draft_32 (by decide) (fun k32 => (by cases k32)) (fun k32 => ?_)
        refine lv_iload hx hb dX0_draft_35 (lv_at hl 5 rfl) ?_
        refine q_ifN_lt (a := v2) 47 (by omega) hx hb dX0_draft_37 (by decide) ?_
        refine lv_iload hx hb dX0_draft_40 (lv_at hl 5 rfl) ?_
        refine lv_ldc (v := 100000) hx hb hown (hts (.constant RX0 144 (100000)) (by decide +kernel)) dX0_draft_42 ?_
        refine q_top (y := nI 100000) (by decide : (100000 : Int32) = nI 100000) ?_
        refine q_icmpN_le (a := v2) (b := 100000) (tgt := 57) (by omega) (by omega) hx hb dX0_draft_44 (by decide) (fun k44 => ?_) (fun k44 => absurd k44 (by omega))
        refine lv_iload hx hb dX0_draft_57 (lv_at hl 6 rfl) ?_
        refine q_ifN_lt (a := w) 70 (by omega) hx hb dX0_draft_59 (by decide) ?_
        refine lv_iload hx hb dX0_draft_62 (lv_at hl 6 rfl) ?_
        refine lv_sipush (v := nI 1000) hx hb dX0_draft_64 (by decide) ?_
        refine q_icmpN_le (a := w) (b := 1000) (tgt := 80) (by omega) (by omega) hx hb dX0_draft_67 (by decide) (fun k67 => ?_) (fun k67 => absurd k67 (by omega))
        refine lv_aload_n hx hb dX0_draft_80 rfl (lv_at hl 0 rfl) ?_
        refine va_get (D := D) (ci := 0) (v := .int (nI dc)) (C := RX0) (T := TX0) (N := 16) hx hb hts (iX0_draft) hown hK hP 0 rfl rfl 10 (by decide) (hts (.fieldLink RX0 42 "ShopHub" "draftCount" "I") (by decide +kernel)) (fun _ h9 => h9) rfl dX0_draft_81 ?_
        refine lv_sipush (v := nI 200) hx hb dX0_draft_84 (by decide) ?_
        refine q_icmpN_lt (a := dc) (b := 200) (tgt := 100) (by omega) (by omega) hx hb dX0_draft_87 (by decide) (fun k87 => ?_) (fun k87 => absurd k87 (by omega))
        refine lv_aload_n hx hb dX0_draft_100 rfl (lv_at hl 0 rfl) ?_
        refine va_get (D := D) (ci := 0) (v := .int (nI dc)) (C := RX0) (T := TX0) (N := 16) hx hb hts (iX0_draft) hown hK hP 0 rfl rfl 10 (by decide) (hts (.fieldLink RX0 42 "ShopHub" "draftCount" "I") (by decide +kernel)) (fun _ h9 => h9) rfl dX0_draft_101 ?_
        refine lv_istore (lv' := [(7, .int (nI dc)), (0, .ref h), (1, .int (nI g)), (2, .int (nI a)), (3, .int (nI x2)), (4, .int (nI y2)), (5, .int (nI v2)), (6, .int (nI w))]) hx hb dX0_draft_104 hl (by decide) rfl (fun ls hl => ?_)
        refine lv_aload_n hx hb dX0_draft_106 rfl (lv_at hl 1 rfl) ?_
        refine lv_dup hx hb dX0_draft_107 rfl ?_
        refine va_get (D := D) (ci := 0) (v := .int (nI dc)) (C := RX0) (T := TX0) (N := 16) hx hb hts (iX0_draft) hown hK hP 0 rfl rfl 10 (by decide) (hts (.fieldLink RX0 42 "ShopHub" "draftCount" "I") (by decide +kernel)) (fun _ h9 => h9) rfl dX0_draft_108 ?_
        refine lv_iconst (v := nI 1) hx hb dX0_draft_111 (by decide) ?_
        refine q_addN (a := dc) (b := 1) hx hb dX0_draft_112 ?_
        refine va_put (D := D) (ci := 0) (v := .int (nI (dc + 1))) (ty := .int) (C := RX0) (T := TX0) (N := 16) hx hb hts (iX0_draft) tyX0 tyX0_ok nmX0 hown hK hP hD hS 0 rfl rfl 10 (by decide) (hts (.fieldLink RX0 42 "ShopHub" "draftCount" "I") (by decide +kernel)) (fun _ h9 => h9) rfl (by decide +kernel) rfl rfl (Nat.le_of_ble_eq_true rfl) dX0_draft_113 (fun H locs hP hD hS => ?_)
        have hP : va_P D vwCl (hW h ad cI cZ ex pa di qu gc dg dp dv dd ds (dc + 1) td ho ak se pr) H := hP
        have hD : va_D A (hW h ad cI cZ ex pa di qu gc dg dp dv dd ds (dc + 1) td ho ak se pr) := hD
        refine lv_aload_n hx hb dX0_draft_116 rfl (lv_at hl 1 rfl) ?_
        refine va_get (D := D) (ci := 0) (v := .ref (ad 5)) (C := RX0) (T := TX0) (N := 16) hx hb hts (iX0_draft) hown hK hP 0 rfl rfl 5 (by decide) (hts (.fieldLink RX0 27 "ShopHub" "draftGoods" "[I") (by decide +kernel)) (fun _ h9 => h9) rfl dX0_draft_117 ?_
        refine lv_iload hx hb dX0_draft_120 (lv_at hl 0 rfl) ?_
        refine lv_iload_n hx hb dX0_draft_122 rfl (lv_at hl 2 rfl) ?_
        refine q_ast nI dg g hx hb hK hP hD hS 5 1 rfl rfl (k := dc) (by omega) (Nat.le_of_ble_eq_true rfl) dX0_draft_123 (fun H locs hP hD hS => ?_)
        have hP : va_P D vwCl (hW h ad cI cZ ex pa di qu gc (va_up dg dc g) dp dv dd ds (dc + 1) td ho ak se pr) H := hP
        have hD : va_D A (hW h ad cI cZ ex pa di qu gc (va_up dg dc g) dp dv dd ds (dc + 1) td ho ak se pr) := hD
        refine lv_aload_n hx hb dX0_draft_124 rfl (lv_at hl 1 rfl) ?_
        refine va_get (D := D) (ci := 0) (v := .ref (ad 6)) (C := RX0) (T := TX0) (N := 16) hx hb hts (iX0_draft) hown hK hP 0 rfl rfl 6 (by decide) (hts (.fieldLink RX0 30 "ShopHub" "draftPlaces" "[I") (by decide +kernel)) (fun _ h9 => h9) rfl dX0_draft_125 ?_
        refine lv_iload hx hb dX0_draft_128 (lv_at hl 0 rfl) ?_
        refine lv_iload_n hx hb dX0_draft_130 rfl (lv_at hl 2 rfl) ?_
        refine lv_iload_n hx hb dX0_draft_131 rfl (lv_at hl 3 rfl) ?_
        refine lv_iload_n hx hb dX0_draft_132 rfl (lv_at hl 4 rfl) ?_
        refine lv_iload hx hb dX0_draft_133 (lv_at hl 5 rfl) ?_
        refine q_top (y := zI (((y2 + 1 : Nat) : Int) - 1)) (by rw [nz]; exact congrArg zI (by omega)) ?_
        refine q_top2 (y := zI (((x2 + 1 : Nat) : Int) - 1)) (by rw [nz]; exact congrArg zI (by omega)) ?_
        refine q_callI (r := nI (plc g a (x2 + 1) (y2 + 1))) (va_runS (As := [.int (nI g), .int (nI a), .int (zI (((x2 + 1 : Nat) : Int) - 1)), .int (zI (((y2 + 1 : Nat) : Int) - 1))]) (rest := [.int (nI dc), .ref (ad 6)]) ⟨hx, hb, hml, hown, hts⟩ (kX0_placeOf l g a (x2 + 1) (y2 + 1) hg ha (by omega) (by omega)) (cwS 4 hts gX0_draft_X0_placeOf rfl rfl rfl (by decide +kernel) ⟨Nat.le_of_ble_eq_true rfl, Nat.le_of_ble_eq_true rfl⟩) ⟨sP_blind, sP_pre⟩ rfl rfl hl.1 rfl (lv_room (Nat.le_of_ble_eq_true rfl)) dX0_draft_135 ⟨Nat.zero_le _, Nat.zero_le _⟩) ?_
        refine q_ast nI dp (plc g a (x2 + 1) (y2 + 1)) hx hb hK hP hD hS 6 1 rfl rfl (k := dc) (by omega) (Nat.le_of_ble_eq_true rfl) dX0_draft_138 (fun H locs hP hD hS => ?_)
        have hP : va_P D vwCl (hW h ad cI cZ ex pa di qu gc (va_up dg dc g) (va_up dp dc (plc g a (x2 + 1) (y2 + 1))) dv dd ds (dc + 1) td ho ak se pr) H := hP
        have hD : va_D A (hW h ad cI cZ ex pa di qu gc (va_up dg dc g) (va_up dp dc (plc g a (x2 + 1) (y2 + 1))) dv dd ds (dc + 1) td ho ak se pr) := hD
        refine lv_aload_n hx hb dX0_draft_139 rfl (lv_at hl 1 rfl) ?_
        refine va_get (D := D) (ci := 0) (v := .ref (ad 7)) (C := RX0) (T := TX0) (N := 16) hx hb hts (iX0_draft) hown hK hP 0 rfl rfl 7 (by decide) (hts (.fieldLink RX0 33 "ShopHub" "draftValues" "[I") (by decide +kernel)) (fun _ h9 => h9) rfl dX0_draft_140 ?_
        refine lv_iload hx hb dX0_draft_143 (lv_at hl 0 rfl) ?_
        refine lv_iload hx hb dX0_draft_145 (lv_at hl 6 rfl) ?_
        refine q_top (y := oI (some v2)) ((rfl : nI v2 = oI (some v2))) ?_
        refine q_ast oI dv (some v2) hx hb hK hP hD hS 7 1 rfl rfl (k := dc) (by omega) (Nat.le_of_ble_eq_true rfl) dX0_draft_147 (fun H locs hP hD hS => ?_)
        have hP : va_P D vwCl (hW h ad cI cZ ex pa di qu gc (va_up dg dc g) (va_up dp dc (plc g a (x2 + 1) (y2 + 1))) (va_up dv dc (some v2)) dd ds (dc + 1) td ho ak se pr) H := hP
        have hD : va_D A (hW h ad cI cZ ex pa di qu gc (va_up dg dc g) (va_up dp dc (plc g a (x2 + 1) (y2 + 1))) (va_up dv dc (some v2)) dd ds (dc + 1) td ho ak se pr) := hD
        refine lv_aload_n hx hb dX0_draft_148 rfl (lv_at hl 1 rfl) ?_
        refine va_get (D := D) (ci := 0) (v := .ref (ad 8)) (C := RX0) (T := TX0) (N := 16) hx hb hts (iX0_draft) hown hK hP 0 rfl rfl 8 (by decide) (hts (.fieldLink RX0 36 "ShopHub" "draftDays" "[I") (by decide +kernel)) (fun _ h9 => h9) rfl dX0_draft_149 ?_
        refine lv_iload hx hb dX0_draft_152 (lv_at hl 0 rfl) ?_
        refine lv_iload hx hb dX0_draft_154 (lv_at hl 7 rfl) ?_
        refine q_ast nI dd w hx hb hK hP hD hS 8 1 rfl rfl (k := dc) (by omega) (Nat.le_of_ble_eq_true rfl) dX0_draft_156 (fun H locs hP hD hS => ?_)
        have hP : va_P D vwCl (hW h ad cI cZ ex pa di qu gc (va_up dg dc g) (va_up dp dc (plc g a (x2 + 1) (y2 + 1))) (va_up dv dc (some v2)) (va_up dd dc w) ds (dc + 1) td ho ak se pr) H := hP
        have hD : va_D A (hW h ad cI cZ ex pa di qu gc (va_up dg dc g) (va_up dp dc (plc g a (x2 + 1) (y2 + 1))) (va_up dv dc (some v2)) (va_up dd dc w) ds (dc + 1) td ho ak se pr) := hD
        refine lv_aload_n hx hb dX0_draft_157 rfl (lv_at hl 1 rfl) ?_
        refine va_get (D := D) (ci := 0) (v := .ref (ad 9)) (C := RX0) (T := TX0) (N := 16) hx hb hts (iX0_draft) hown hK hP 0 rfl rfl 9 (by decide) (hts (.fieldLink RX0 39 "ShopHub" "draftStates" "[I") (by decide +kernel)) (fun _ h9 => h9) rfl dX0_draft_158 ?_
        refine lv_iload hx hb dX0_draft_161 (lv_at hl 0 rfl) ?_
        refine lv_iconst (v := nI 1) hx hb dX0_draft_163 (by decide) ?_
        refine q_ast nI ds 1 hx hb hK hP hD hS 9 1 rfl rfl (k := dc) (by omega) (Nat.le_of_ble_eq_true rfl) dX0_draft_164 (fun H locs hP hD hS => ?_)
        have hP : va_P D vwCl (hW h ad cI cZ ex pa di qu gc (va_up dg dc g) (va_up dp dc (plc g a (x2 + 1) (y2 + 1))) (va_up dv dc (some v2)) (va_up dd dc w) (va_up ds dc 1) (dc + 1) td ho ak se pr) H := hP
        have hD : va_D A (hW h ad cI cZ ex pa di qu gc (va_up dg dc g) (va_up dp dc (plc g a (x2 + 1) (y2 + 1))) (va_up dv dc (some v2)) (va_up dd dc w) (va_up ds dc 1) (dc + 1) td ho ak se pr) := hD
        refine lv_iload hx hb dX0_draft_165 (lv_at hl 0 rfl) ?_
        exact q_wretI hx hb hr hlocks hAe hP hS (rfl) dX0_draft_167

set_option maxHeartbeats 4000000 in
set_option maxRecDepth 100000 in
theorem kX0_approve (l : Launch) (D : va_G) (h : Nat) (ad : Nat → Nat) (cI cZ : ClassId) (ex : Nat → Bool) (pa : Nat → Option Nat) (di : Nat → Nat) (qu : Nat → Nat) (gc : Nat) (dg : Nat → Nat) (dp : Nat → Nat) (dv : Nat → Option Nat) (dd : Nat → Nat) (ds : Nat → Nat) (dc : Nat) (td : Nat) (ho : Nat → Option Nat) (ak : Nat → Bool) (se : Nat → Option Nat) (pr : Nat → Option Nat) (sz : Nat) (d : Nat) (hd : d < dc) (h1 : ds d = 1) (hdc : dc ≤ 200) (htd : td < 2147483648) (hdp : ∀ k, k < dc → dp k < 1536) (hdd : ∀ k, k < dc → dd k ≤ 1000) (hds : ∀ k, k < dc → ds k ≤ 4) : Met l yX0_approve wsX0_approve ({ frames := 3, cells := 0, slots := 0, locals := 65 } : Room) (wP D (hW h ad cI cZ ex pa di qu gc dg dp dv dd ds dc td ho ak se pr) (hT cI cZ) [.ref h, .int (nI d)] sz) (wQ D (hW h ad cI cZ ex pa di qu gc dg dp dv dd ds dc td ho ak se pr) (hW h ad cI cZ ex pa di qu gc dg dp dv dd (va_up ds d 2) dc td (stl ho (va_up ds d 2) dd dp td dc) ak se pr) (some (.int (bI (decide (stl ho (va_up ds d 2) dd dp td dc (dp d) = some d)))))) 0 0 (va_A (hW h ad cI cZ ex pa di qu gc dg dp dv dd ds dc td ho ak se pr) sz) := by
  refine Met.ofW (cc := cX0_approve) (maxL := 2) (ret := (some .boolean)) (by decide) rfl ?_
  intro p e s m args below meth c s₁ B hml hv
  obtain ⟨rfl, hsz, hP, hK, hD0⟩ := hv
  have hx := B.exec
  have hb := B.bytes
  have hr := B.returns
  have hts := atoms_spec (ws := wsX0_approve) B.pre
  have hown : s.vm.findClass RX0 = some m.cls := findClass_of_methodNamed B.named
  have hlocks := B.notSynchronized
  subst hsz
  have hD := hD0.self (sz := s.heap.size)
  generalize hAe : va_A (hW h ad cI cZ ex pa di qu gc dg dp dv dd ds dc td ho ak se pr) s.heap.size = A at hD ⊢
  have hA : ∀ q : Nat, s.heap.size ≤ q → A q := fun q h => by rw [← hAe]; exact Or.inr h
  have hS : va_S A s.heap s.heap [] := va_S.rf
  have hl := lv_entry ([.ref h, .int (nI d)]) (n := 2) (Nat.le_of_ble_eq_true rfl)
  rw [lg_entry_eq]
  generalize (lg_sl ([.ref h, .int (nI d)]) ++ List.replicate (2 - (lg_sl ([.ref h, .int (nI d)])).length) Slot.unset).toArray = ls at hl ⊢
  have hl : lv_has ls 2 [(0, .ref h), (1, .int (nI d))] := hl
  refine lv_aload_n hx hb dX0_approve_0 rfl (lv_at hl 0 rfl) ?_
  refine lv_iload_n hx hb dX0_approve_1 rfl (lv_at hl 1 rfl) ?_
  refine q_callV (va_runV (As := [.int (nI d)]) (rest := []) ⟨hx, hb, hml, hown, hts⟩ (kX0_checkDraft l D h ad cI cZ ex pa di qu gc dg dp dv dd ds dc td ho ak se pr d hd hdc (by omega) (by omega)) (cwV 1 hts gX0_approve_X0_checkDraft rfl rfl rfl (by decide +kernel) ⟨Nat.le_of_ble_eq_true rfl, Nat.le_of_ble_eq_true rfl⟩) ⟨pP_blind, va_recv hK hP (ci := 0) (q0 := 0) rfl rfl, pP_pre hP hK⟩ rfl rfl hl.1 rfl (lv_room (Nat.le_of_ble_eq_true rfl)) dX0_approve_2 ⟨Nat.zero_le _, Nat.zero_le _⟩) ?_
  refine lv_aload_n hx hb dX0_approve_5 rfl (lv_at hl 0 rfl) ?_
  refine va_get (D := D) (ci := 0) (v := .ref (ad 9)) (C := RX0) (T := TX0) (N := 16) hx hb hts (iX0_approve) hown hK hP 0 rfl rfl 9 (by decide) (hts (.fieldLink RX0 39 "ShopHub" "draftStates" "[I") (by decide +kernel)) (fun _ h9 => h9) rfl dX0_approve_6 ?_
  refine lv_iload_n hx hb dX0_approve_9 rfl (lv_at hl 1 rfl) ?_
  refine q_ald nI ds hx hb hK hP 9 1 rfl rfl (k := d) (by omega) (Nat.le_of_ble_eq_true rfl) dX0_approve_10 ?_
  refine lv_iconst (v := nI 1) hx hb dX0_approve_11 (by decide) ?_
  refine q_icmpN_eq (a := ds d) (b := 1) (tgt := 25) (by omega) (by omega) hx hb dX0_approve_12 (by decide) (fun k12 => ?_) (fun k12 => absurd h1 k12)
  refine lv_aload_n hx hb dX0_approve_25 rfl (lv_at hl 0 rfl) ?_
  refine va_get (D := D) (ci := 0) (v := .ref (ad 9)) (C := RX0) (T := TX0) (N := 16) hx hb hts (iX0_approve) hown hK hP 0 rfl rfl 9 (by decide) (hts (.fieldLink RX0 39 "ShopHub" "draftStates" "[I") (by decide +kernel)) (fun _ h9 => h9) rfl dX0_approve_26 ?_
  refine lv_iload_n hx hb dX0_approve_29 rfl (lv_at hl 1 rfl) ?_
  refine lv_iconst (v := nI 2) hx hb dX0_approve_30 (by decide) ?_
  refine q_ast nI ds 2 hx hb hK hP hD hS 9 1 rfl rfl (k := d) (by omega) (Nat.le_of_ble_eq_true rfl) dX0_approve_31 (fun H locs hP hD hS => ?_)
  have hP : va_P D vwCl (hW h ad cI cZ ex pa di qu gc dg dp dv dd (va_up ds d 2) dc td ho ak se pr) H := hP
  have hD : va_D A (hW h ad cI cZ ex pa di qu gc dg dp dv dd (va_up ds d 2) dc td ho ak se pr) := hD
  refine lv_aload_n hx hb dX0_approve_32 rfl (lv_at hl 0 rfl) ?_
  refine q_wcallV (w' := (hW h ad cI cZ ex pa di qu gc dg dp dv dd (va_up ds d 2) dc td (stl ho (va_up ds d 2) dd dp td dc) ak se pr)) (va_runV (As := []) (rest := []) ⟨hx, hb, hml, hown, hts⟩ (kX0_settleHolders l D h ad cI cZ ex pa di qu gc dg dp dv dd (va_up ds d 2) dc td ho ak se pr _ hdc htd hdp hdd (up_le (by decide) hds)) (cwV 0 hts gX0_approve_X0_settleHolders rfl rfl rfl (by decide +kernel) ⟨Nat.le_of_ble_eq_true rfl, Nat.le_of_ble_eq_true rfl⟩) ⟨wP_blind, va_recv hK hP (ci := 0) (q0 := 0) rfl rfl, wP_pre hP hK hD⟩ rfl rfl hl.1 rfl (lv_room (Nat.le_of_ble_eq_true rfl)) dX0_approve_33 ⟨Nat.zero_le _, Nat.zero_le _⟩) hD hS hA rfl (fun H locs hP hD hS => ?_)
  refine lv_aload_n hx hb dX0_approve_36 rfl (lv_at hl 0 rfl) ?_
  refine lv_iload_n hx hb dX0_approve_37 rfl (lv_at hl 1 rfl) ?_
  refine q_callI (r := bI (decide (stl ho (va_up ds d 2) dd dp td dc (dp d) = some d))) (va_runV (As := [.int (nI d)]) (rest := []) ⟨hx, hb, hml, hown, hts⟩ (kX0_holdsAtItsPlace l D h ad cI cZ ex pa di qu gc dg dp dv dd (va_up ds d 2) dc td (stl ho (va_up ds d 2) dd dp td dc) ak se pr d (by omega) (hdp d hd) (stl_HO (Nat.le_refl dc)) hdc) (cwV 1 hts gX0_approve_X0_holdsAtItsPlace rfl rfl rfl (by decide +kernel) ⟨Nat.le_of_ble_eq_true rfl, Nat.le_of_ble_eq_true rfl⟩) ⟨pP_blind, va_recv hK hP (ci := 0) (q0 := 0) rfl rfl, pP_pre hP hK⟩ rfl rfl hl.1 rfl (lv_room (Nat.le_of_ble_eq_true rfl)) dX0_approve_38 ⟨Nat.zero_le _, Nat.zero_le _⟩) ?_
  exact q_wretZ hx hb hr hlocks hAe hP hS (rfl) dX0_approve_41

set_option maxHeartbeats 4000000 in
set_option maxRecDepth 100000 in
theorem kX0_reject (l : Launch) (D : va_G) (h : Nat) (ad : Nat → Nat) (cI cZ : ClassId) (ex : Nat → Bool) (pa : Nat → Option Nat) (di : Nat → Nat) (qu : Nat → Nat) (gc : Nat) (dg : Nat → Nat) (dp : Nat → Nat) (dv : Nat → Option Nat) (dd : Nat → Nat) (ds : Nat → Nat) (dc : Nat) (td : Nat) (ho : Nat → Option Nat) (ak : Nat → Bool) (se : Nat → Option Nat) (pr : Nat → Option Nat) (sz : Nat) (d : Nat) (hd : d < dc) (h3 : ds d ≠ 3) (h4 : ds d ≠ 4) (hho : HO ho dc) (hdc : dc ≤ 200) (htd : td < 2147483648) (hdp : ∀ k, k < dc → dp k < 1536) (hdd : ∀ k, k < dc → dd k ≤ 1000) (hds : ∀ k, k < dc → ds k ≤ 4) : Met l yX0_reject wsX0_reject ({ frames := 3, cells := 0, slots := 0, locals := 65 } : Room) (wP D (hW h ad cI cZ ex pa di qu gc dg dp dv dd ds dc td ho ak se pr) (hT cI cZ) [.ref h, .int (nI d)] sz) (wQ D (hW h ad cI cZ ex pa di qu gc dg dp dv dd ds dc td ho ak se pr) (hW h ad cI cZ ex pa di qu gc dg dp dv dd (va_up ds d 3) dc td (stl ho (va_up ds d 3) dd dp td dc) ak se pr) (some (.int (bI (decide (ho (dp d) = some d)))))) 0 0 (va_A (hW h ad cI cZ ex pa di qu gc dg dp dv dd ds dc td ho ak se pr) sz) := by
  refine Met.ofW (cc := cX0_reject) (maxL := 3) (ret := (some .boolean)) (by decide) rfl ?_
  intro p e s m args below meth c s₁ B hml hv
  obtain ⟨rfl, hsz, hP, hK, hD0⟩ := hv
  have hx := B.exec
  have hb := B.bytes
  have hr := B.returns
  have hts := atoms_spec (ws := wsX0_reject) B.pre
  have hown : s.vm.findClass RX0 = some m.cls := findClass_of_methodNamed B.named
  have hlocks := B.notSynchronized
  subst hsz
  have hD := hD0.self (sz := s.heap.size)
  generalize hAe : va_A (hW h ad cI cZ ex pa di qu gc dg dp dv dd ds dc td ho ak se pr) s.heap.size = A at hD ⊢
  have hA : ∀ q : Nat, s.heap.size ≤ q → A q := fun q h => by rw [← hAe]; exact Or.inr h
  have hS : va_S A s.heap s.heap [] := va_S.rf
  have hl := lv_entry ([.ref h, .int (nI d)]) (n := 3) (Nat.le_of_ble_eq_true rfl)
  rw [lg_entry_eq]
  generalize (lg_sl ([.ref h, .int (nI d)]) ++ List.replicate (3 - (lg_sl ([.ref h, .int (nI d)])).length) Slot.unset).toArray = ls at hl ⊢
  have hl : lv_has ls 3 [(0, .ref h), (1, .int (nI d))] := hl
  have hd4 := hds d hd
  refine lv_aload_n hx hb dX0_reject_0 rfl (lv_at hl 0 rfl) ?_
  refine lv_iload_n hx hb dX0_reject_1 rfl (lv_at hl 1 rfl) ?_
  refine q_callV (va_runV (As := [.int (nI d)]) (rest := []) ⟨hx, hb, hml, hown, hts⟩ (kX0_checkDraft l D h ad cI cZ ex pa di qu gc dg dp dv dd ds dc td ho ak se pr d hd hdc h4 hd4) (cwV 1 hts gX0_reject_X0_checkDraft rfl rfl rfl (by decide +kernel) ⟨Nat.le_of_ble_eq_true rfl, Nat.le_of_ble_eq_true rfl⟩) ⟨pP_blind, va_recv hK hP (ci := 0) (q0 := 0) rfl rfl, pP_pre hP hK⟩ rfl rfl hl.1 rfl (lv_room (Nat.le_of_ble_eq_true rfl)) dX0_reject_2 ⟨Nat.zero_le _, Nat.zero_le _⟩) ?_
  refine lv_aload_n hx hb dX0_reject_5 rfl (lv_at hl 0 rfl) ?_
  refine va_get (D := D) (ci := 0) (v := .ref (ad 9)) (C := RX0) (T := TX0) (N := 16) hx hb hts (iX0_reject) hown hK hP 0 rfl rfl 9 (by decide) (hts (.fieldLink RX0 39 "ShopHub" "draftStates" "[I") (by decide +kernel)) (fun _ h9 => h9) rfl dX0_reject_6 ?_
  refine lv_iload_n hx hb dX0_reject_9 rfl (lv_at hl 1 rfl) ?_
  refine q_ald nI ds hx hb hK hP 9 1 rfl rfl (k := d) (by omega) (Nat.le_of_ble_eq_true rfl) dX0_reject_10 ?_
  refine lv_iconst (v := nI 3) hx hb dX0_reject_11 (by decide) ?_
  refine q_icmpN_ne (a := ds d) (b := 3) (tgt := 25) (by omega) (by omega) hx hb dX0_reject_12 (by decide) (fun k12 => ?_) (fun k12 => absurd k12 h3)
  refine lv_aload_n hx hb dX0_reject_25 rfl (lv_at hl 0 rfl) ?_
  refine lv_iload_n hx hb dX0_reject_26 rfl (lv_at hl 1 rfl) ?_
  refine q_callI (r := bI (decide (ho (dp d) = some d))) (va_runV (As := [.int (nI d)]) (rest := []) ⟨hx, hb, hml, hown, hts⟩ (kX0_holdsAtItsPlace l D h ad cI cZ ex pa di qu gc dg dp dv dd ds dc td ho ak se pr d (by omega) (hdp d hd) hho hdc) (cwV 1 hts gX0_reject_X0_holdsAtItsPlace rfl rfl rfl (by decide +kernel) ⟨Nat.le_of_ble_eq_true rfl, Nat.le_of_ble_eq_true rfl⟩) ⟨pP_blind, va_recv hK hP (ci := 0) (q0 := 0) rfl rfl, pP_pre hP hK⟩ rfl rfl hl.1 rfl (lv_room (Nat.le_of_ble_eq_true rfl)) dX0_reject_27 ⟨Nat.zero_le _, Nat.zero_le _⟩) ?_
  refine lv_istore_n (lv' := [(2, .int (bI (decide (ho (dp d) = some d)))), (0, .ref h), (1, .int (nI d))]) hx hb dX0_reject_30 rfl hl (by decide) rfl (fun ls hl => ?_)
  refine lv_aload_n hx hb dX0_reject_31 rfl (lv_at hl 1 rfl) ?_
  refine va_get (D := D) (ci := 0) (v := .ref (ad 9)) (C := RX0) (T := TX0) (N := 16) hx hb hts (iX0_reject) hown hK hP 0 rfl rfl 9 (by decide) (hts (.fieldLink RX0 39 "ShopHub" "draftStates" "[I") (by decide +kernel)) (fun _ h9 => h9) rfl dX0_reject_32 ?_
  refine lv_iload_n hx hb dX0_reject_35 rfl (lv_at hl 2 rfl) ?_
  refine lv_iconst (v := nI 3) hx hb dX0_reject_36 (by decide) ?_
  refine q_ast nI ds 3 hx hb hK hP hD hS 9 1 rfl rfl (k := d) (by omega) (Nat.le_of_ble_eq_true rfl) dX0_reject_37 (fun H locs hP hD hS => ?_)
  have hP : va_P D vwCl (hW h ad cI cZ ex pa di qu gc dg dp dv dd (va_up ds d 3) dc td ho ak se pr) H := hP
  have hD : va_D A (hW h ad cI cZ ex pa di qu gc dg dp dv dd (va_up ds d 3) dc td ho ak se pr) := hD
  refine lv_aload_n hx hb dX0_reject_38 rfl (lv_at hl 1 rfl) ?_
  refine q_wcallV (w' := (hW h ad cI cZ ex pa di qu gc dg dp dv dd (va_up ds d 3) dc td (stl ho (va_up ds d 3) dd dp td dc) ak se pr)) (va_runV (As := []) (rest := []) ⟨hx, hb, hml, hown, hts⟩ (kX0_settleHolders l D h ad cI cZ ex pa di qu gc dg dp dv dd (va_up ds d 3) dc td ho ak se pr _ hdc htd hdp hdd (up_le (by decide) hds)) (cwV 0 hts gX0_reject_X0_settleHolders rfl rfl rfl (by decide +kernel) ⟨Nat.le_of_ble_eq_true rfl, Nat.le_of_ble_eq_true rfl⟩) ⟨wP_blind, va_recv hK hP (ci := 0) (q0 := 0) rfl rfl, wP_pre hP hK hD⟩ rfl rfl hl.1 rfl (lv_room (Nat.le_of_ble_eq_true rfl)) dX0_reject_39 ⟨Nat.zero_le _, Nat.zero_le _⟩) hD hS hA rfl (fun H locs hP hD hS => ?_)
  refine lv_iload_n hx hb dX0_reject_42 rfl (lv_at hl 0 rfl) ?_
  exact q_wretZ hx hb hr hlocks hAe hP hS (rfl) dX0_reject_43

set_option maxHeartbeats 4000000 in
set_option maxRecDepth 100000 in
theorem kX0_pass (l : Launch) (D : va_G) (h : Nat) (ad : Nat → Nat) (cI cZ : ClassId) (ex : Nat → Bool) (pa : Nat → Option Nat) (di : Nat → Nat) (qu : Nat → Nat) (gc : Nat) (dg : Nat → Nat) (dp : Nat → Nat) (dv : Nat → Option Nat) (dd : Nat → Nat) (ds : Nat → Nat) (dc : Nat) (td : Nat) (ho : Nat → Option Nat) (ak : Nat → Bool) (se : Nat → Option Nat) (pr : Nat → Option Nat) (sz : Nat) (w : Nat) (hw1 : 1 ≤ w) (hw2 : w ≤ 100) (htw : td + w < 2147483648) (hdc : dc ≤ 200) (htd : td < 2147483648) (hdp : ∀ k, k < dc → dp k < 1536) (hdd : ∀ k, k < dc → dd k ≤ 1000) (hds : ∀ k, k < dc → ds k ≤ 4) : Met l yX0_pass wsX0_pass ({ frames := 3, cells := 0, slots := 0, locals := 65 } : Room) (wP D (hW h ad cI cZ ex pa di qu gc dg dp dv dd ds dc td ho ak se pr) (hT cI cZ) [.ref h, .int (nI w)] sz) (wQ D (hW h ad cI cZ ex pa di qu gc dg dp dv dd ds dc td ho ak se pr) (hW h ad cI cZ ex pa di qu gc dg dp dv dd ds dc (td + w) (stl ho ds dd dp (td + w) dc) ak se pr) (some (.int (nI (td + w))))) 0 0 (va_A (hW h ad cI cZ ex pa di qu gc dg dp dv dd ds dc td ho ak se pr) sz) := by
  refine Met.ofW (cc := cX0_pass) (maxL := 2) (ret := (some .int)) (by decide) rfl ?_
  intro p e s m args below meth c s₁ B hml hv
  obtain ⟨rfl, hsz, hP, hK, hD0⟩ := hv
  have hx := B.exec
  have hb := B.bytes
  have hr := B.returns
  have hts := atoms_spec (ws := wsX0_pass) B.pre
  have hown : s.vm.findClass RX0 = some m.cls := findClass_of_methodNamed B.named
  have hlocks := B.notSynchronized
  subst hsz
  have hD := hD0.self (sz := s.heap.size)
  generalize hAe : va_A (hW h ad cI cZ ex pa di qu gc dg dp dv dd ds dc td ho ak se pr) s.heap.size = A at hD ⊢
  have hA : ∀ q : Nat, s.heap.size ≤ q → A q := fun q h => by rw [← hAe]; exact Or.inr h
  have hS : va_S A s.heap s.heap [] := va_S.rf
  have hl := lv_entry ([.ref h, .int (nI w)]) (n := 2) (Nat.le_of_ble_eq_true rfl)
  rw [lg_entry_eq]
  generalize (lg_sl ([.ref h, .int (nI w)]) ++ List.replicate (2 - (lg_sl ([.ref h, .int (nI w)])).length) Slot.unset).toArray = ls at hl ⊢
  have hl : lv_has ls 2 [(0, .ref h), (1, .int (nI w))] := hl
  refine lv_iload_n hx hb dX0_pass_0 rfl (lv_at hl 1 rfl) ?_
  refine lv_iconst (v := nI 1) hx hb dX0_pass_1 (by decide) ?_
  refine q_icmpN_lt (a := w) (b := 1) (tgt := 11) (by omega) (by omega) hx hb dX0_pass_2 (by decide) (fun k2 => absurd k2 (by omega)) (fun k2 => ?_)
  refine lv_iload_n hx hb dX0_pass_5 rfl (lv_at hl 1 rfl) ?_
  refine lv_bipush (v := nI 100) hx hb dX0_pass_6 (by decide) ?_
  refine q_icmpN_le (a := w) (b := 100) (tgt := 21) (by omega) (by omega) hx hb dX0_pass_8 (by decide) (fun k8 => ?_) (fun k8 => absurd k8 (by omega))
  refine lv_aload_n hx hb dX0_pass_21 rfl (lv_at hl 0 rfl) ?_
  refine lv_dup hx hb dX0_pass_22 rfl ?_
  refine va_get (D := D) (ci := 0) (v := .int (nI td)) (C := RX0) (T := TX0) (N := 16) hx hb hts (iX0_pass) hown hK hP 0 rfl rfl 11 (by decide) (hts (.fieldLink RX0 45 "ShopHub" "today" "I") (by decide +kernel)) (fun _ h9 => h9) rfl dX0_pass_23 ?_
  refine lv_iload_n hx hb dX0_pass_26 rfl (lv_at hl 1 rfl) ?_
  refine q_addN (a := td) (b := w) hx hb dX0_pass_27 ?_
  refine va_put (D := D) (ci := 0) (v := .int (nI (td + w))) (ty := .int) (C := RX0) (T := TX0) (N := 16) hx hb hts (iX0_pass) tyX0 tyX0_ok nmX0 hown hK hP hD hS 0 rfl rfl 11 (by decide) (hts (.fieldLink RX0 45 "ShopHub" "today" "I") (by decide +kernel)) (fun _ h9 => h9) rfl (by decide +kernel) rfl rfl (Nat.le_of_ble_eq_true rfl) dX0_pass_28 (fun H locs hP hD hS => ?_)
  have hP : va_P D vwCl (hW h ad cI cZ ex pa di qu gc dg dp dv dd ds dc (td + w) ho ak se pr) H := hP
  have hD : va_D A (hW h ad cI cZ ex pa di qu gc dg dp dv dd ds dc (td + w) ho ak se pr) := hD
  refine lv_aload_n hx hb dX0_pass_31 rfl (lv_at hl 0 rfl) ?_
  refine q_wcallV (w' := (hW h ad cI cZ ex pa di qu gc dg dp dv dd ds dc (td + w) (stl ho ds dd dp (td + w) dc) ak se pr)) (va_runV (As := []) (rest := []) ⟨hx, hb, hml, hown, hts⟩ (kX0_settleHolders l D h ad cI cZ ex pa di qu gc dg dp dv dd ds dc (td + w) ho ak se pr _ hdc htw hdp hdd hds) (cwV 0 hts gX0_pass_X0_settleHolders rfl rfl rfl (by decide +kernel) ⟨Nat.le_of_ble_eq_true rfl, Nat.le_of_ble_eq_true rfl⟩) ⟨wP_blind, va_recv hK hP (ci := 0) (q0 := 0) rfl rfl, wP_pre hP hK hD⟩ rfl rfl hl.1 rfl (lv_room (Nat.le_of_ble_eq_true rfl)) dX0_pass_32 ⟨Nat.zero_le _, Nat.zero_le _⟩) hD hS hA rfl (fun H locs hP hD hS => ?_)
  refine lv_aload_n hx hb dX0_pass_35 rfl (lv_at hl 0 rfl) ?_
  refine va_get (D := D) (ci := 0) (v := .int (nI (td + w))) (C := RX0) (T := TX0) (N := 16) hx hb hts (iX0_pass) hown hK hP 0 rfl rfl 11 (by decide) (hts (.fieldLink RX0 45 "ShopHub" "today" "I") (by decide +kernel)) (fun _ h9 => h9) rfl dX0_pass_36 ?_
  exact q_wretI hx hb hr hlocks hAe hP hS (rfl) dX0_pass_39

set_option maxHeartbeats 4000000 in
set_option maxRecDepth 100000 in
theorem kX0_value (l : Launch) (D : va_G) (h : Nat) (ad : Nat → Nat) (cI cZ : ClassId) (ex : Nat → Bool) (pa : Nat → Option Nat) (di : Nat → Nat) (qu : Nat → Nat) (gc : Nat) (dg : Nat → Nat) (dp : Nat → Nat) (dv : Nat → Option Nat) (dd : Nat → Nat) (ds : Nat → Nat) (dc : Nat) (td : Nat) (ho : Nat → Option Nat) (ak : Nat → Bool) (se : Nat → Option Nat) (pr : Nat → Option Nat) (g a sp tp : Nat) (hg : g < 16) (ha : a < 6) (hs : sp < 3) (ht : tp < 3) (he : ex g = true) (hpr : PR pa) (hho : HO ho dc) (hdc : dc ≤ 200) (hdv : DV dv dc) (hnv : vlu ex pa ho dv a (sp + 1) (tp + 1) g ≠ none) : Met l yX0_value wsX0_value ({ frames := 4, cells := 0, slots := 0, locals := 102 } : Room) (pP D (hW h ad cI cZ ex pa di qu gc dg dp dv dd ds dc td ho ak se pr) (hT cI cZ) [.ref h, .int (nI g), .int (nI a), .int (nI sp), .int (nI tp)]) (pQ (some (.int (oI (vlu ex pa ho dv a (sp + 1) (tp + 1) g))))) 0 0 nF := by
  refine Met.ofW (cc := cX0_value) (maxL := 6) (ret := (some .int)) (by decide) rfl ?_
  intro p e s m args below meth c s₁ B hml hv
  obtain ⟨rfl, hP, hK⟩ := hv
  have hx := B.exec
  have hb := B.bytes
  have hr := B.returns
  have hts := atoms_spec (ws := wsX0_value) B.pre
  have hown : s.vm.findClass RX0 = some m.cls := findClass_of_methodNamed B.named
  have hlocks := B.notSynchronized
  have hl := lv_entry ([.ref h, .int (nI g), .int (nI a), .int (nI sp), .int (nI tp)]) (n := 6) (Nat.le_of_ble_eq_true rfl)
  rw [lg_entry_eq]
  generalize (lg_sl ([.ref h, .int (nI g), .int (nI a), .int (nI sp), .int (nI tp)]) ++ List.replicate (6 - (lg_sl ([.ref h, .int (nI g), .int (nI a), .int (nI sp), .int (nI tp)])).length) Slot.unset).toArray = ls at hl ⊢
  have hl : lv_has ls 6 [(0, .ref h), (1, .int (nI g)), (2, .int (nI a)), (3, .int (nI sp)), (4, .int (nI tp))] := hl
  refine lv_aload_n hx hb dX0_value_0 rfl (lv_at hl 0 rfl) ?_
  refine lv_iload_n hx hb dX0_value_1 rfl (lv_at hl 1 rfl) ?_
  refine lv_iload_n hx hb dX0_value_2 rfl (lv_at hl 2 rfl) ?_
  refine lv_iload_n hx hb dX0_value_3 rfl (lv_at hl 3 rfl) ?_
  refine lv_iload hx hb dX0_value_4 (lv_at hl 4 rfl) ?_
  refine q_callV (va_runV (As := [.int (nI g), .int (nI a), .int (nI sp), .int (nI tp)]) (rest := []) ⟨hx, hb, hml, hown, hts⟩ (kX0_checkSight l D h ad cI cZ ex pa di qu gc dg dp dv dd ds dc td ho ak se pr g a sp tp hg ha hs ht he) (cwV 4 hts gX0_value_X0_checkSight rfl rfl rfl (by decide +kernel) ⟨Nat.le_of_ble_eq_true rfl, Nat.le_of_ble_eq_true rfl⟩) ⟨pP_blind, va_recv hK hP (ci := 0) (q0 := 0) rfl rfl, pP_pre hP hK⟩ rfl rfl hl.1 rfl (lv_room (Nat.le_of_ble_eq_true rfl)) dX0_value_6 ⟨Nat.zero_le _, Nat.zero_le _⟩) ?_
  refine lv_aload_n hx hb dX0_value_9 rfl (lv_at hl 0 rfl) ?_
  refine lv_iload_n hx hb dX0_value_10 rfl (lv_at hl 1 rfl) ?_
  refine lv_iload_n hx hb dX0_value_11 rfl (lv_at hl 2 rfl) ?_
  refine lv_iload_n hx hb dX0_value_12 rfl (lv_at hl 3 rfl) ?_
  refine lv_iload hx hb dX0_value_13 (lv_at hl 4 rfl) ?_
  refine q_callI (r := oI (vlu ex pa ho dv a (sp + 1) (tp + 1) g)) (va_runV (As := [.int (nI g), .int (nI a), .int (nI sp), .int (nI tp)]) (rest := []) ⟨hx, hb, hml, hown, hts⟩ (kX0_findValue l D h ad cI cZ ex pa di qu gc dg dp dv dd ds dc td ho ak se pr g a sp tp hg ha hs ht hpr hho hdc) (cwV 4 hts gX0_value_X0_findValue rfl rfl rfl (by decide +kernel) ⟨Nat.le_of_ble_eq_true rfl, Nat.le_of_ble_eq_true rfl⟩) ⟨pP_blind, va_recv hK hP (ci := 0) (q0 := 0) rfl rfl, pP_pre hP hK⟩ rfl rfl hl.1 rfl (lv_room (Nat.le_of_ble_eq_true rfl)) dX0_value_15 ⟨Nat.zero_le _, Nat.zero_le _⟩) ?_
  refine lv_istore (lv' := [(5, .int (oI (vlu ex pa ho dv a (sp + 1) (tp + 1) g))), (0, .ref h), (1, .int (nI g)), (2, .int (nI a)), (3, .int (nI sp)), (4, .int (nI tp))]) hx hb dX0_value_18 hl (by decide) rfl (fun ls hl => ?_)
  refine lv_iload hx hb dX0_value_20 (lv_at hl 0 rfl) ?_
  refine lv_iconst (v := oI none) hx hb dX0_value_22 (by decide) ?_
  refine q_icmpO_ne (a := vlu ex pa ho dv a (sp + 1) (tp + 1) g) (b := none) (tgt := 36) (fun k h9 => by have := vlu_in hho hpr hdv hg ha (show sp + 1 < 4 by omega) (show tp + 1 < 4 by omega) k h9; omega) (fun k h9 => by cases h9) hx hb dX0_value_23 (by decide) (fun k23 => ?_) (fun k23 => absurd k23 hnv)
  refine lv_iload hx hb dX0_value_36 (lv_at hl 0 rfl) ?_
  exact q_retI hx hb hr hlocks (rfl) dX0_value_38

set_option maxHeartbeats 4000000 in
set_option maxRecDepth 100000 in
theorem kX0_origin (l : Launch) (D : va_G) (h : Nat) (ad : Nat → Nat) (cI cZ : ClassId) (ex : Nat → Bool) (pa : Nat → Option Nat) (di : Nat → Nat) (qu : Nat → Nat) (gc : Nat) (dg : Nat → Nat) (dp : Nat → Nat) (dv : Nat → Option Nat) (dd : Nat → Nat) (ds : Nat → Nat) (dc : Nat) (td : Nat) (ho : Nat → Option Nat) (ak : Nat → Bool) (se : Nat → Option Nat) (pr : Nat → Option Nat) (g a sp tp : Nat) (hg : g < 16) (ha : a < 6) (hs : sp < 3) (ht : tp < 3) (he : ex g = true) (hpr : PR pa) (hho : HO ho dc) (hdc : dc ≤ 200) : Met l yX0_origin wsX0_origin ({ frames := 3, cells := 0, slots := 0, locals := 77 } : Room) (pP D (hW h ad cI cZ ex pa di qu gc dg dp dv dd ds dc td ho ak se pr) (hT cI cZ) [.ref h, .int (nI g), .int (nI a), .int (nI sp), .int (nI tp)]) (pQ (some (.int (oI (org ex pa ho a (sp + 1) (tp + 1) 3 (some g)))))) 0 0 nF := by
  refine Met.ofW (cc := cX0_origin) (maxL := 5) (ret := (some .int)) (by decide) rfl ?_
  intro p e s m args below meth c s₁ B hml hv
  obtain ⟨rfl, hP, hK⟩ := hv
  have hx := B.exec
  have hb := B.bytes
  have hr := B.returns
  have hts := atoms_spec (ws := wsX0_origin) B.pre
  have hown : s.vm.findClass RX0 = some m.cls := findClass_of_methodNamed B.named
  have hlocks := B.notSynchronized
  have hl := lv_entry ([.ref h, .int (nI g), .int (nI a), .int (nI sp), .int (nI tp)]) (n := 5) (Nat.le_of_ble_eq_true rfl)
  rw [lg_entry_eq]
  generalize (lg_sl ([.ref h, .int (nI g), .int (nI a), .int (nI sp), .int (nI tp)]) ++ List.replicate (5 - (lg_sl ([.ref h, .int (nI g), .int (nI a), .int (nI sp), .int (nI tp)])).length) Slot.unset).toArray = ls at hl ⊢
  have hl : lv_has ls 5 [(0, .ref h), (1, .int (nI g)), (2, .int (nI a)), (3, .int (nI sp)), (4, .int (nI tp))] := hl
  refine lv_aload_n hx hb dX0_origin_0 rfl (lv_at hl 0 rfl) ?_
  refine lv_iload_n hx hb dX0_origin_1 rfl (lv_at hl 1 rfl) ?_
  refine lv_iload_n hx hb dX0_origin_2 rfl (lv_at hl 2 rfl) ?_
  refine lv_iload_n hx hb dX0_origin_3 rfl (lv_at hl 3 rfl) ?_
  refine lv_iload hx hb dX0_origin_4 (lv_at hl 4 rfl) ?_
  refine q_callV (va_runV (As := [.int (nI g), .int (nI a), .int (nI sp), .int (nI tp)]) (rest := []) ⟨hx, hb, hml, hown, hts⟩ (kX0_checkSight l D h ad cI cZ ex pa di qu gc dg dp dv dd ds dc td ho ak se pr g a sp tp hg ha hs ht he) (cwV 4 hts gX0_origin_X0_checkSight rfl rfl rfl (by decide +kernel) ⟨Nat.le_of_ble_eq_true rfl, Nat.le_of_ble_eq_true rfl⟩) ⟨pP_blind, va_recv hK hP (ci := 0) (q0 := 0) rfl rfl, pP_pre hP hK⟩ rfl rfl hl.1 rfl (lv_room (Nat.le_of_ble_eq_true rfl)) dX0_origin_6 ⟨Nat.zero_le _, Nat.zero_le _⟩) ?_
  refine lv_aload_n hx hb dX0_origin_9 rfl (lv_at hl 0 rfl) ?_
  refine lv_iload_n hx hb dX0_origin_10 rfl (lv_at hl 1 rfl) ?_
  refine lv_iload_n hx hb dX0_origin_11 rfl (lv_at hl 2 rfl) ?_
  refine lv_iload_n hx hb dX0_origin_12 rfl (lv_at hl 3 rfl) ?_
  refine lv_iload hx hb dX0_origin_13 (lv_at hl 4 rfl) ?_
  refine q_callI (r := oI (org ex pa ho a (sp + 1) (tp + 1) 3 (some g))) (va_runV (As := [.int (nI g), .int (nI a), .int (nI sp), .int (nI tp)]) (rest := []) ⟨hx, hb, hml, hown, hts⟩ (kX0_findOrigin l D h ad cI cZ ex pa di qu gc dg dp dv dd ds dc td ho ak se pr g a sp tp hg ha hs ht hpr hho hdc) (cwV 4 hts gX0_origin_X0_findOrigin rfl rfl rfl (by decide +kernel) ⟨Nat.le_of_ble_eq_true rfl, Nat.le_of_ble_eq_true rfl⟩) ⟨pP_blind, va_recv hK hP (ci := 0) (q0 := 0) rfl rfl, pP_pre hP hK⟩ rfl rfl hl.1 rfl (lv_room (Nat.le_of_ble_eq_true rfl)) dX0_origin_15 ⟨Nat.zero_le _, Nat.zero_le _⟩) ?_
  exact q_retI hx hb hr hlocks (rfl) dX0_origin_18

set_option maxHeartbeats 4000000 in
set_option maxRecDepth 100000 in
theorem kX0_told (l : Launch) (D : va_G) (h : Nat) (ad : Nat → Nat) (cI cZ : ClassId) (ex : Nat → Bool) (pa : Nat → Option Nat) (di : Nat → Nat) (qu : Nat → Nat) (gc : Nat) (dg : Nat → Nat) (dp : Nat → Nat) (dv : Nat → Option Nat) (dd : Nat → Nat) (ds : Nat → Nat) (dc : Nat) (td : Nat) (ho : Nat → Option Nat) (ak : Nat → Bool) (se : Nat → Option Nat) (pr : Nat → Option Nat) (g : Nat) (hg : g < 16) (he : ex g = true) (hho : HO ho dc) (hdc : dc ≤ 200) : Met l yX0_told wsX0_told ({ frames := 2, cells := 0, slots := 0, locals := 42 } : Room) (pP D (hW h ad cI cZ ex pa di qu gc dg dp dv dd ds dc td ho ak se pr) (hT cI cZ) [.ref h, .int (nI g)]) (pQ (some (.int (nI (cnt (fun j => decide (ho (g * 96 + j) ≠ none)) 96))))) 0 0 nF := by
  refine Met.ofW (cc := cX0_told) (maxL := 5) (ret := (some .int)) (by decide) rfl ?_
  intro p e s m args below meth c s₁ B hml hv
  obtain ⟨rfl, hP, hK⟩ := hv
  have hx := B.exec
  have hb := B.bytes
  have hr := B.returns
  have hts := atoms_spec (ws := wsX0_told) B.pre
  have hown : s.vm.findClass RX0 = some m.cls := findClass_of_methodNamed B.named
  have hlocks := B.notSynchronized
  have hl := lv_entry ([.ref h, .int (nI g)]) (n := 5) (Nat.le_of_ble_eq_true rfl)
  rw [lg_entry_eq]
  generalize (lg_sl ([.ref h, .int (nI g)]) ++ List.replicate (5 - (lg_sl ([.ref h, .int (nI g)])).length) Slot.unset).toArray = ls at hl ⊢
  have hl : lv_has ls 5 [(0, .ref h), (1, .int (nI g))] := hl
  refine lv_aload_n hx hb dX0_told_0 rfl (lv_at hl 0 rfl) ?_
  refine lv_iload_n hx hb dX0_told_1 rfl (lv_at hl 1 rfl) ?_
  refine q_callV (va_runV (As := [.int (nI g)]) (rest := []) ⟨hx, hb, hml, hown, hts⟩ (kX0_checkGood l D h ad cI cZ ex pa di qu gc dg dp dv dd ds dc td ho ak se pr g hg he) (cwV 1 hts gX0_told_X0_checkGood rfl rfl rfl (by decide +kernel) ⟨Nat.le_of_ble_eq_true rfl, Nat.le_of_ble_eq_true rfl⟩) ⟨pP_blind, va_recv hK hP (ci := 0) (q0 := 0) rfl rfl, pP_pre hP hK⟩ rfl rfl hl.1 rfl (lv_room (Nat.le_of_ble_eq_true rfl)) dX0_told_2 ⟨Nat.zero_le _, Nat.zero_le _⟩) ?_
  refine lv_iload_n hx hb dX0_told_5 rfl (lv_at hl 1 rfl) ?_
  refine lv_bipush (v := nI 96) hx hb dX0_told_6 (by decide) ?_
  refine q_mulN (a := g) (b := 96) hx hb dX0_told_8 ?_
  refine lv_istore_n (lv' := [(2, .int (nI (g * 96))), (0, .ref h), (1, .int (nI g))]) hx hb dX0_told_9 rfl hl (by decide) rfl (fun ls hl => ?_)
  refine lv_iconst (v := nI 0) hx hb dX0_told_10 (by decide) ?_
  refine lv_istore_n (lv' := [(3, .int (nI 0)), (2, .int (nI (g * 96))), (0, .ref h), (1, .int (nI g))]) hx hb dX0_told_11 rfl hl (by decide) rfl (fun ls hl => ?_)
  refine lv_iconst (v := nI 0) hx hb dX0_told_12 (by decide) ?_
  refine lv_istore (lv' := [(4, .int (nI 0)), (3, .int (nI 0)), (2, .int (nI (g * 96))), (0, .ref h), (1, .int (nI g))]) hx hb dX0_told_13 hl (by decide) rfl (fun ls hl => ?_)
  have loop15 : ∀ (n : Nat) (i : Nat) (k : Nat), (i ≤ 96) → (97 ≤ i + n) → (k = cnt (fun j => decide (ho (g * 96 + j) ≠ none)) i) → ∀ ls : Array Slot, lv_has ls 5 [(0, .ref h), (1, .int (nI g)), (2, .int (nI (g * 96))), (3, .int (nI k)), (4, .int (nI i))] → W p l e ({ frames := 2, cells := 0, slots := 0, locals := 42 } : Room) s m ([.ref h, .int (nI g)] : List Value).toArray below meth c s.heap [] 0 0 (MQ below (pQ (some (.int (nI (cnt (fun j => decide (ho (g * 96 + j) ≠ none)) 96))))) ([.ref h, .int (nI g)] : List Value).toArray s 0 0 nF) (F0 m 15 ls []) := by
    intro n
    induction n with
    | zero => intro i k hle hn hset; omega
    | succ n ih =>
      intro i k hle hn hset ls hl
      refine lv_iload hx hb dX0_told_15 (lv_at hl 4 rfl) ?_
      refine lv_bipush (v := nI 96) hx hb dX0_told_17 (by decide) ?_
      refine q_icmpN_ge (a := i) (b := 96) (tgt := 44) (by omega) (by omega) hx hb dX0_told_19 (by decide) (fun k19 => ?_) (fun k19 => ?_)
      · refine lv_iload_n hx hb dX0_told_44 rfl (lv_at hl 3 rfl) ?_
        exact q_retI hx hb hr hlocks (by rw [hset, show i = 96 by omega]) dX0_told_45
      · refine lv_aload_n hx hb dX0_told_22 rfl (lv_at hl 0 rfl) ?_
        refine va_get (D := D) (ci := 0) (v := .ref (ad 12)) (C := RX0) (T := TX0) (N := 16) hx hb hts (iX0_told) hown hK hP 0 rfl rfl 12 (by decide) (hts (.fieldLink RX0 48 "ShopHub" "holders" "[I") (by decide +kernel)) (fun _ h9 => h9) rfl dX0_told_23 ?_
        refine lv_iload_n hx hb dX0_told_26 rfl (lv_at hl 2 rfl) ?_
        refine lv_iload hx hb dX0_told_27 (lv_at hl 4 rfl) ?_
        refine q_addN (a := g * 96) (b := i) hx hb dX0_told_29 ?_
        refine q_ald oI ho hx hb hK hP 10 1 rfl rfl (k := (g * 96) + i) (by omega) (Nat.le_of_ble_eq_true rfl) dX0_told_30 ?_
        refine lv_iconst (v := oI none) hx hb dX0_told_31 (by decide) ?_
        refine q_icmpO_eq (a := ho ((g * 96) + i)) (b := none) (tgt := 38) (fun k h9 => by have := hho _ (by omega) k h9; omega) (fun k h9 => by cases h9) hx hb dX0_told_32 (by decide) (fun k32 => ?_) (fun k32 => ?_)
        · refine lv_iinc (v := nI (i + 1)) (lv' := [(4, .int (nI (i + 1))), (0, .ref h), (1, .int (nI g)), (2, .int (nI (g * 96))), (3, .int (nI k))]) hx hb dX0_told_38 hl (k := 4) rfl (i1_n i) (by decide) rfl (fun ls hl => ?_)
          refine lv_goto (tgt := 15) hx hb dX0_told_41 (by decide) ?_
          exact ih (i + 1) k (by omega) (by omega) (by rw [cnt_f (f := (fun j => decide (ho (g * 96 + j) ≠ none))) (decide_eq_false (fun e9 => e9 k32))]; exact hset) _ (lv_sub hl [1, 2, 3, 4, 0] rfl)
        · refine lv_iinc (v := nI (k + 1)) (lv' := [(3, .int (nI (k + 1))), (0, .ref h), (1, .int (nI g)), (2, .int (nI (g * 96))), (4, .int (nI i))]) hx hb dX0_told_35 hl (k := 3) rfl (i1_n k) (by decide) rfl (fun ls hl => ?_)
          refine lv_iinc (v := nI (i + 1)) (lv' := [(4, .int (nI (i + 1))), (3, .int (nI (k + 1))), (0, .ref h), (1, .int (nI g)), (2, .int (nI (g * 96)))]) hx hb dX0_told_38 hl (k := 4) rfl (i1_n i) (by decide) rfl (fun ls hl => ?_)
          refine lv_goto (tgt := 15) hx hb dX0_told_41 (by decide) ?_
          exact ih (i + 1) (k + 1) (by omega) (by omega) (by rw [cnt_t (f := (fun j => decide (ho (g * 96 + j) ≠ none))) (decide_eq_true k32), ← hset]) _ (lv_sub hl [2, 3, 4, 1, 0] rfl)
  exact loop15 97 0 0 (by omega) (Nat.le_refl 97) rfl _ (lv_sub hl [3, 4, 2, 1, 0] rfl)

set_option maxHeartbeats 4000000 in
set_option maxRecDepth 100000 in
theorem kX0_toggleAsked (l : Launch) (D : va_G) (h : Nat) (ad : Nat → Nat) (cI cZ : ClassId) (ex : Nat → Bool) (pa : Nat → Option Nat) (di : Nat → Nat) (qu : Nat → Nat) (gc : Nat) (dg : Nat → Nat) (dp : Nat → Nat) (dv : Nat → Option Nat) (dd : Nat → Nat) (ds : Nat → Nat) (dc : Nat) (td : Nat) (ho : Nat → Option Nat) (ak : Nat → Bool) (se : Nat → Option Nat) (pr : Nat → Option Nat) (sz : Nat) (sp a : Nat) (hs : sp < 3) (ha : a < 6) : Met l yX0_toggleAsked wsX0_toggleAsked ({ frames := 1, cells := 0, slots := 0, locals := 20 } : Room) (wP D (hW h ad cI cZ ex pa di qu gc dg dp dv dd ds dc td ho ak se pr) (hT cI cZ) [.ref h, .int (nI sp), .int (nI a)] sz) (wQ D (hW h ad cI cZ ex pa di qu gc dg dp dv dd ds dc td ho ak se pr) (hW h ad cI cZ ex pa di qu gc dg dp dv dd ds dc td ho (va_up ak (sp * 6 + a) (!ak (sp * 6 + a))) se pr) (some (.int (bI (!ak (sp * 6 + a)))))) 0 0 (va_A (hW h ad cI cZ ex pa di qu gc dg dp dv dd ds dc td ho ak se pr) sz) := by
  refine Met.ofW (cc := cX0_toggleAsked) (maxL := 4) (ret := (some .boolean)) (by decide) rfl ?_
  intro p e s m args below meth c s₁ B hml hv
  obtain ⟨rfl, hsz, hP, hK, hD0⟩ := hv
  have hx := B.exec
  have hb := B.bytes
  have hr := B.returns
  have hts := atoms_spec (ws := wsX0_toggleAsked) B.pre
  have hown : s.vm.findClass RX0 = some m.cls := findClass_of_methodNamed B.named
  have hlocks := B.notSynchronized
  subst hsz
  have hD := hD0.self (sz := s.heap.size)
  generalize hAe : va_A (hW h ad cI cZ ex pa di qu gc dg dp dv dd ds dc td ho ak se pr) s.heap.size = A at hD ⊢
  have hA : ∀ q : Nat, s.heap.size ≤ q → A q := fun q h => by rw [← hAe]; exact Or.inr h
  have hS : va_S A s.heap s.heap [] := va_S.rf
  have hl := lv_entry ([.ref h, .int (nI sp), .int (nI a)]) (n := 4) (Nat.le_of_ble_eq_true rfl)
  rw [lg_entry_eq]
  generalize (lg_sl ([.ref h, .int (nI sp), .int (nI a)]) ++ List.replicate (4 - (lg_sl ([.ref h, .int (nI sp), .int (nI a)])).length) Slot.unset).toArray = ls at hl ⊢
  have hl : lv_has ls 4 [(0, .ref h), (1, .int (nI sp)), (2, .int (nI a))] := hl
  refine lv_iload_n hx hb dX0_toggleAsked_0 rfl (lv_at hl 1 rfl) ?_
  refine q_callV (va_runS (As := [.int (nI sp)]) (rest := []) ⟨hx, hb, hml, hown, hts⟩ (kX0_checkShop l sp hs) (cwS 1 hts gX0_toggleAsked_X0_checkShop rfl rfl rfl (by decide +kernel) ⟨Nat.le_of_ble_eq_true rfl, Nat.le_of_ble_eq_true rfl⟩) ⟨sP_blind, sP_pre⟩ rfl rfl hl.1 rfl (lv_room (Nat.le_of_ble_eq_true rfl)) dX0_toggleAsked_1 ⟨Nat.zero_le _, Nat.zero_le _⟩) ?_
  refine lv_iload_n hx hb dX0_toggleAsked_4 rfl (lv_at hl 2 rfl) ?_
  refine q_callV (va_runS (As := [.int (nI a)]) (rest := []) ⟨hx, hb, hml, hown, hts⟩ (kX0_checkAttribute l a ha) (cwS 1 hts gX0_toggleAsked_X0_checkAttribute rfl rfl rfl (by decide +kernel) ⟨Nat.le_of_ble_eq_true rfl, Nat.le_of_ble_eq_true rfl⟩) ⟨sP_blind, sP_pre⟩ rfl rfl hl.1 rfl (lv_room (Nat.le_of_ble_eq_true rfl)) dX0_toggleAsked_5 ⟨Nat.zero_le _, Nat.zero_le _⟩) ?_
  refine lv_iload_n hx hb dX0_toggleAsked_8 rfl (lv_at hl 1 rfl) ?_
  refine lv_bipush (v := nI 6) hx hb dX0_toggleAsked_9 (by decide) ?_
  refine q_mulN (a := sp) (b := 6) hx hb dX0_toggleAsked_11 ?_
  refine lv_iload_n hx hb dX0_toggleAsked_12 rfl (lv_at hl 2 rfl) ?_
  refine q_addN (a := sp * 6) (b := a) hx hb dX0_toggleAsked_13 ?_
  refine lv_istore_n (lv' := [(3, .int (nI ((sp * 6) + a))), (0, .ref h), (1, .int (nI sp)), (2, .int (nI a))]) hx hb dX0_toggleAsked_14 rfl hl (by decide) rfl (fun ls hl => ?_)
  refine lv_aload_n hx hb dX0_toggleAsked_15 rfl (lv_at hl 1 rfl) ?_
  refine va_get (D := D) (ci := 0) (v := .ref (ad 13)) (C := RX0) (T := TX0) (N := 16) hx hb hts (iX0_toggleAsked) hown hK hP 0 rfl rfl 13 (by decide) (hts (.fieldLink RX0 51 "ShopHub" "asked" "[Z") (by decide +kernel)) (fun _ h9 => h9) rfl dX0_toggleAsked_16 ?_
  refine lv_iload_n hx hb dX0_toggleAsked_19 rfl (lv_at hl 0 rfl) ?_
  refine lv_aload_n hx hb dX0_toggleAsked_20 rfl (lv_at hl 1 rfl) ?_
  refine va_get (D := D) (ci := 0) (v := .ref (ad 13)) (C := RX0) (T := TX0) (N := 16) hx hb hts (iX0_toggleAsked) hown hK hP 0 rfl rfl 13 (by decide) (hts (.fieldLink RX0 51 "ShopHub" "asked" "[Z") (by decide +kernel)) (fun _ h9 => h9) rfl dX0_toggleAsked_21 ?_
  refine lv_iload_n hx hb dX0_toggleAsked_24 rfl (lv_at hl 0 rfl) ?_
  refine q_zld ak hx hb hK hP 11 0 rfl rfl (k := (sp * 6) + a) (by omega) (Nat.le_of_ble_eq_true rfl) dX0_toggleAsked_25 ?_
  refine q_ifB_ne (b := ak ((sp * 6) + a)) (tgt := 33) hx hb dX0_toggleAsked_26 (by decide) (fun k26 => ?_) (fun k26 => ?_)
  · refine lv_iconst (v := nI 0) hx hb dX0_toggleAsked_33 (by decide) ?_
    refine q_top (y := bI false) ((by decide : nI 0 = bI false)) ?_
    refine q_zst ak false hx hb hK hP hD hS 11 0 rfl rfl (k := (sp * 6) + a) (by omega) (Nat.le_of_ble_eq_true rfl) dX0_toggleAsked_34 (fun H locs hP hD hS => ?_)
    have hP : va_P D vwCl (hW h ad cI cZ ex pa di qu gc dg dp dv dd ds dc td ho (va_up ak ((sp * 6) + a) false) se pr) H := hP
    have hD : va_D A (hW h ad cI cZ ex pa di qu gc dg dp dv dd ds dc td ho (va_up ak ((sp * 6) + a) false) se pr) := hD
    refine lv_aload_n hx hb dX0_toggleAsked_35 rfl (lv_at hl 1 rfl) ?_
    refine va_get (D := D) (ci := 0) (v := .ref (ad 13)) (C := RX0) (T := TX0) (N := 16) hx hb hts (iX0_toggleAsked) hown hK hP 0 rfl rfl 13 (by decide) (hts (.fieldLink RX0 51 "ShopHub" "asked" "[Z") (by decide +kernel)) (fun _ h9 => h9) rfl dX0_toggleAsked_36 ?_
    refine lv_iload_n hx hb dX0_toggleAsked_39 rfl (lv_at hl 0 rfl) ?_
    refine q_zld (va_up ak ((sp * 6) + a) false) hx hb hK hP 11 0 rfl rfl (k := (sp * 6) + a) (by omega) (Nat.le_of_ble_eq_true rfl) dX0_toggleAsked_40 ?_
    have hP : va_P D vwCl (hW h ad cI cZ ex pa di qu gc dg dp dv dd ds dc td ho (va_up ak (sp * 6 + a) (!ak (sp * 6 + a))) se pr) H := by rw [show va_up ak (sp * 6 + a) (!ak (sp * 6 + a)) = va_up ak ((sp * 6) + a) false from by rw [k26]; rfl]; exact hP
    exact q_wretZ hx hb hr hlocks hAe hP hS (by rw [up_at, k26]; rfl) dX0_toggleAsked_41
  · refine lv_iconst (v := nI 1) hx hb dX0_toggleAsked_29 (by decide) ?_
    refine lv_goto (tgt := 34) hx hb dX0_toggleAsked_30 (by decide) ?_
    refine q_top (y := bI true) ((by decide : nI 1 = bI true)) ?_
    refine q_zst ak true hx hb hK hP hD hS 11 0 rfl rfl (k := (sp * 6) + a) (by omega) (Nat.le_of_ble_eq_true rfl) dX0_toggleAsked_34 (fun H locs hP hD hS => ?_)
    have hP : va_P D vwCl (hW h ad cI cZ ex pa di qu gc dg dp dv dd ds dc td ho (va_up ak ((sp * 6) + a) true) se pr) H := hP
    have hD : va_D A (hW h ad cI cZ ex pa di qu gc dg dp dv dd ds dc td ho (va_up ak ((sp * 6) + a) true) se pr) := hD
    refine lv_aload_n hx hb dX0_toggleAsked_35 rfl (lv_at hl 1 rfl) ?_
    refine va_get (D := D) (ci := 0) (v := .ref (ad 13)) (C := RX0) (T := TX0) (N := 16) hx hb hts (iX0_toggleAsked) hown hK hP 0 rfl rfl 13 (by decide) (hts (.fieldLink RX0 51 "ShopHub" "asked" "[Z") (by decide +kernel)) (fun _ h9 => h9) rfl dX0_toggleAsked_36 ?_
    refine lv_iload_n hx hb dX0_toggleAsked_39 rfl (lv_at hl 0 rfl) ?_
    refine q_zld (va_up ak ((sp * 6) + a) true) hx hb hK hP 11 0 rfl rfl (k := (sp * 6) + a) (by omega) (Nat.le_of_ble_eq_true rfl) dX0_toggleAsked_40 ?_
    have hP : va_P D vwCl (hW h ad cI cZ ex pa di qu gc dg dp dv dd ds dc td ho (va_up ak (sp * 6 + a) (!ak (sp * 6 + a))) se pr) H := by rw [show va_up ak (sp * 6 + a) (!ak (sp * 6 + a)) = va_up ak ((sp * 6) + a) true from by rw [k26]; rfl]; exact hP
    exact q_wretZ hx hb hr hlocks hAe hP hS (by rw [up_at, k26]; rfl) dX0_toggleAsked_41

set_option maxHeartbeats 4000000 in
set_option maxRecDepth 100000 in
theorem kX0_missing (l : Launch) (D : va_G) (h : Nat) (ad : Nat → Nat) (cI cZ : ClassId) (ex : Nat → Bool) (pa : Nat → Option Nat) (di : Nat → Nat) (qu : Nat → Nat) (gc : Nat) (dg : Nat → Nat) (dp : Nat → Nat) (dv : Nat → Option Nat) (dd : Nat → Nat) (ds : Nat → Nat) (dc : Nat) (td : Nat) (ho : Nat → Option Nat) (ak : Nat → Bool) (se : Nat → Option Nat) (pr : Nat → Option Nat) (g sp tp : Nat) (hg : g < 16) (hs : sp < 3) (ht : tp < 3) (he : ex g = true) (hpr : PR pa) (hho : HO ho dc) (hdc : dc ≤ 200) (hdv : DV dv dc) : Met l yX0_missing wsX0_missing ({ frames := 5, cells := 0, slots := 0, locals := 127 } : Room) (pP D (hW h ad cI cZ ex pa di qu gc dg dp dv dd ds dc td ho ak se pr) (hT cI cZ) [.ref h, .int (nI g), .int (nI sp), .int (nI tp)]) (pQ (some (.int (nI (bset (lck ex pa ho dv ak g sp tp) 6))))) 0 0 nF := by
  refine Met.ofW (cc := cX0_missing) (maxL := 4) (ret := (some .int)) (by decide) rfl ?_
  intro p e s m args below meth c s₁ B hml hv
  obtain ⟨rfl, hP, hK⟩ := hv
  have hx := B.exec
  have hb := B.bytes
  have hr := B.returns
  have hts := atoms_spec (ws := wsX0_missing) B.pre
  have hown : s.vm.findClass RX0 = some m.cls := findClass_of_methodNamed B.named
  have hlocks := B.notSynchronized
  have hl := lv_entry ([.ref h, .int (nI g), .int (nI sp), .int (nI tp)]) (n := 4) (Nat.le_of_ble_eq_true rfl)
  rw [lg_entry_eq]
  generalize (lg_sl ([.ref h, .int (nI g), .int (nI sp), .int (nI tp)]) ++ List.replicate (4 - (lg_sl ([.ref h, .int (nI g), .int (nI sp), .int (nI tp)])).length) Slot.unset).toArray = ls at hl ⊢
  have hl : lv_has ls 4 [(0, .ref h), (1, .int (nI g)), (2, .int (nI sp)), (3, .int (nI tp))] := hl
  refine lv_aload_n hx hb dX0_missing_0 rfl (lv_at hl 0 rfl) ?_
  refine lv_iload_n hx hb dX0_missing_1 rfl (lv_at hl 1 rfl) ?_
  refine q_callV (va_runV (As := [.int (nI g)]) (rest := []) ⟨hx, hb, hml, hown, hts⟩ (kX0_checkGood l D h ad cI cZ ex pa di qu gc dg dp dv dd ds dc td ho ak se pr g hg he) (cwV 1 hts gX0_missing_X0_checkGood rfl rfl rfl (by decide +kernel) ⟨Nat.le_of_ble_eq_true rfl, Nat.le_of_ble_eq_true rfl⟩) ⟨pP_blind, va_recv hK hP (ci := 0) (q0 := 0) rfl rfl, pP_pre hP hK⟩ rfl rfl hl.1 rfl (lv_room (Nat.le_of_ble_eq_true rfl)) dX0_missing_2 ⟨Nat.zero_le _, Nat.zero_le _⟩) ?_
  refine lv_iload_n hx hb dX0_missing_5 rfl (lv_at hl 2 rfl) ?_
  refine q_callV (va_runS (As := [.int (nI sp)]) (rest := []) ⟨hx, hb, hml, hown, hts⟩ (kX0_checkShop l sp hs) (cwS 1 hts gX0_missing_X0_checkShop rfl rfl rfl (by decide +kernel) ⟨Nat.le_of_ble_eq_true rfl, Nat.le_of_ble_eq_true rfl⟩) ⟨sP_blind, sP_pre⟩ rfl rfl hl.1 rfl (lv_room (Nat.le_of_ble_eq_true rfl)) dX0_missing_6 ⟨Nat.zero_le _, Nat.zero_le _⟩) ?_
  refine lv_iload_n hx hb dX0_missing_9 rfl (lv_at hl 3 rfl) ?_
  refine q_callV (va_runS (As := [.int (nI tp)]) (rest := []) ⟨hx, hb, hml, hown, hts⟩ (kX0_checkTongue l tp ht) (cwS 1 hts gX0_missing_X0_checkTongue rfl rfl rfl (by decide +kernel) ⟨Nat.le_of_ble_eq_true rfl, Nat.le_of_ble_eq_true rfl⟩) ⟨sP_blind, sP_pre⟩ rfl rfl hl.1 rfl (lv_room (Nat.le_of_ble_eq_true rfl)) dX0_missing_10 ⟨Nat.zero_le _, Nat.zero_le _⟩) ?_
  refine lv_aload_n hx hb dX0_missing_13 rfl (lv_at hl 0 rfl) ?_
  refine lv_iload_n hx hb dX0_missing_14 rfl (lv_at hl 1 rfl) ?_
  refine lv_iload_n hx hb dX0_missing_15 rfl (lv_at hl 2 rfl) ?_
  refine lv_iload_n hx hb dX0_missing_16 rfl (lv_at hl 3 rfl) ?_
  refine q_callI (r := nI (bset (lck ex pa ho dv ak g sp tp) 6)) (va_runV (As := [.int (nI g), .int (nI sp), .int (nI tp)]) (rest := []) ⟨hx, hb, hml, hown, hts⟩ (kX0_findMissing l D h ad cI cZ ex pa di qu gc dg dp dv dd ds dc td ho ak se pr g sp tp hg hs ht hpr hho hdc hdv) (cwV 3 hts gX0_missing_X0_findMissing rfl rfl rfl (by decide +kernel) ⟨Nat.le_of_ble_eq_true rfl, Nat.le_of_ble_eq_true rfl⟩) ⟨pP_blind, va_recv hK hP (ci := 0) (q0 := 0) rfl rfl, pP_pre hP hK⟩ rfl rfl hl.1 rfl (lv_room (Nat.le_of_ble_eq_true rfl)) dX0_missing_17 ⟨Nat.zero_le _, Nat.zero_le _⟩) ?_
  exact q_retI hx hb hr hlocks (rfl) dX0_missing_20

set_option maxHeartbeats 4000000 in
set_option maxRecDepth 100000 in
theorem kX0_complete (l : Launch) (D : va_G) (h : Nat) (ad : Nat → Nat) (cI cZ : ClassId) (ex : Nat → Bool) (pa : Nat → Option Nat) (di : Nat → Nat) (qu : Nat → Nat) (gc : Nat) (dg : Nat → Nat) (dp : Nat → Nat) (dv : Nat → Option Nat) (dd : Nat → Nat) (ds : Nat → Nat) (dc : Nat) (td : Nat) (ho : Nat → Option Nat) (ak : Nat → Bool) (se : Nat → Option Nat) (pr : Nat → Option Nat) (sp : Nat) (hs : sp < 3) (hpr : PR pa) (hho : HO ho dc) (hdc : dc ≤ 200) (hdv : DV dv dc) : Met l yX0_complete wsX0_complete ({ frames := 6, cells := 0, slots := 0, locals := 150 } : Room) (pP D (hW h ad cI cZ ex pa di qu gc dg dp dv dd ds dc td ho ak se pr) (hT cI cZ) [.ref h, .int (nI sp)]) (pQ (some (.int (nI (cnt (cpl ex pa ho dv ak sp) 16))))) 0 0 nF := by
  refine Met.ofW (cc := cX0_complete) (maxL := 4) (ret := (some .int)) (by decide) rfl ?_
  intro p e s m args below meth c s₁ B hml hv
  obtain ⟨rfl, hP, hK⟩ := hv
  have hx := B.exec
  have hb := B.bytes
  have hr := B.returns
  have hts := atoms_spec (ws := wsX0_complete) B.pre
  have hown : s.vm.findClass RX0 = some m.cls := findClass_of_methodNamed B.named
  have hlocks := B.notSynchronized
  have hl := lv_entry ([.ref h, .int (nI sp)]) (n := 4) (Nat.le_of_ble_eq_true rfl)
  rw [lg_entry_eq]
  generalize (lg_sl ([.ref h, .int (nI sp)]) ++ List.replicate (4 - (lg_sl ([.ref h, .int (nI sp)])).length) Slot.unset).toArray = ls at hl ⊢
  have hl : lv_has ls 4 [(0, .ref h), (1, .int (nI sp))] := hl
  refine lv_iload_n hx hb dX0_complete_0 rfl (lv_at hl 1 rfl) ?_
  refine q_callV (va_runS (As := [.int (nI sp)]) (rest := []) ⟨hx, hb, hml, hown, hts⟩ (kX0_checkShop l sp hs) (cwS 1 hts gX0_complete_X0_checkShop rfl rfl rfl (by decide +kernel) ⟨Nat.le_of_ble_eq_true rfl, Nat.le_of_ble_eq_true rfl⟩) ⟨sP_blind, sP_pre⟩ rfl rfl hl.1 rfl (lv_room (Nat.le_of_ble_eq_true rfl)) dX0_complete_1 ⟨Nat.zero_le _, Nat.zero_le _⟩) ?_
  refine lv_iconst (v := nI 0) hx hb dX0_complete_4 (by decide) ?_
  refine lv_istore_n (lv' := [(2, .int (nI 0)), (0, .ref h), (1, .int (nI sp))]) hx hb dX0_complete_5 rfl hl (by decide) rfl (fun ls hl => ?_)
  refine lv_iconst (v := nI 0) hx hb dX0_complete_6 (by decide) ?_
  refine lv_istore_n (lv' := [(3, .int (nI 0)), (2, .int (nI 0)), (0, .ref h), (1, .int (nI sp))]) hx hb dX0_complete_7 rfl hl (by decide) rfl (fun ls hl => ?_)
  have loop8 : ∀ (n : Nat) (i : Nat) (k : Nat), (i ≤ 16) → (17 ≤ i + n) → (k = cnt (cpl ex pa ho dv ak sp) i) → ∀ ls : Array Slot, lv_has ls 4 [(0, .ref h), (1, .int (nI sp)), (2, .int (nI k)), (3, .int (nI i))] → W p l e ({ frames := 6, cells := 0, slots := 0, locals := 150 } : Room) s m ([.ref h, .int (nI sp)] : List Value).toArray below meth c s.heap [] 0 0 (MQ below (pQ (some (.int (nI (cnt (cpl ex pa ho dv ak sp) 16))))) ([.ref h, .int (nI sp)] : List Value).toArray s 0 0 nF) (F0 m 8 ls []) := by
    intro n
    induction n with
    | zero => intro i k hle hn hset; omega
    | succ n ih =>
      intro i k hle hn hset ls hl
      refine lv_iload_n hx hb dX0_complete_8 rfl (lv_at hl 3 rfl) ?_
      refine lv_bipush (v := nI 16) hx hb dX0_complete_9 (by decide) ?_
      refine q_icmpN_ge (a := i) (b := 16) (tgt := 41) (by omega) (by omega) hx hb dX0_complete_11 (by decide) (fun k11 => ?_) (fun k11 => ?_)
      · refine lv_iload_n hx hb dX0_complete_41 rfl (lv_at hl 2 rfl) ?_
        exact q_retI hx hb hr hlocks (by rw [hset, show i = 16 by omega]) dX0_complete_42
      · refine lv_aload_n hx hb dX0_complete_14 rfl (lv_at hl 0 rfl) ?_
        refine va_get (D := D) (ci := 0) (v := .ref (ad 0)) (C := RX0) (T := TX0) (N := 16) hx hb hts (iX0_complete) hown hK hP 0 rfl rfl 0 (by decide) (hts (.fieldLink RX0 9 "ShopHub" "exists" "[Z") (by decide +kernel)) (fun _ h9 => h9) rfl dX0_complete_15 ?_
        refine lv_iload_n hx hb dX0_complete_18 rfl (lv_at hl 3 rfl) ?_
        refine q_zld ex hx hb hK hP 1 0 rfl rfl (k := i) (by omega) (Nat.le_of_ble_eq_true rfl) dX0_complete_19 ?_
        refine q_ifB_eq (b := ex i) (tgt := 35) hx hb dX0_complete_20 (by decide) (fun k20 => ?_) (fun k20 => ?_)
        · refine lv_iinc (v := nI (i + 1)) (lv' := [(3, .int (nI (i + 1))), (0, .ref h), (1, .int (nI sp)), (2, .int (nI k))]) hx hb dX0_complete_35 hl (k := 3) rfl (i1_n i) (by decide) rfl (fun ls hl => ?_)
          refine lv_goto (tgt := 8) hx hb dX0_complete_38 (by decide) ?_
          exact ih (i + 1) k (by omega) (by omega) (by rw [cnt_f (f := (cpl ex pa ho dv ak sp)) (show cpl ex pa ho dv ak sp i = false by unfold cpl; rw [k20]; rfl)]; exact hset) _ (lv_sub hl [1, 2, 3, 0] rfl)
        · refine lv_aload_n hx hb dX0_complete_23 rfl (lv_at hl 0 rfl) ?_
          refine lv_iload_n hx hb dX0_complete_24 rfl (lv_at hl 3 rfl) ?_
          refine lv_iload_n hx hb dX0_complete_25 rfl (lv_at hl 1 rfl) ?_
          refine q_callI (r := bI (!exU (fun t => decide (bset (lck ex pa ho dv ak i sp t) 6 ≠ 0)) 3)) (va_runV (As := [.int (nI i), .int (nI sp)]) (rest := []) ⟨hx, hb, hml, hown, hts⟩ (kX0_isComplete l D h ad cI cZ ex pa di qu gc dg dp dv dd ds dc td ho ak se pr i sp (by omega) hs hpr hho hdc hdv) (cwV 2 hts gX0_complete_X0_isComplete rfl rfl rfl (by decide +kernel) ⟨Nat.le_of_ble_eq_true rfl, Nat.le_of_ble_eq_true rfl⟩) ⟨pP_blind, va_recv hK hP (ci := 0) (q0 := 0) rfl rfl, pP_pre hP hK⟩ rfl rfl hl.1 rfl (lv_room (Nat.le_of_ble_eq_true rfl)) dX0_complete_26 ⟨Nat.zero_le _, Nat.zero_le _⟩) ?_
          refine q_ifB_eq (b := !exU (fun t => decide (bset (lck ex pa ho dv ak i sp t) 6 ≠ 0)) 3) (tgt := 35) hx hb dX0_complete_29 (by decide) (fun k29 => ?_) (fun k29 => ?_)
          · refine lv_iinc (v := nI (i + 1)) (lv' := [(3, .int (nI (i + 1))), (0, .ref h), (1, .int (nI sp)), (2, .int (nI k))]) hx hb dX0_complete_35 hl (k := 3) rfl (i1_n i) (by decide) rfl (fun ls hl => ?_)
            refine lv_goto (tgt := 8) hx hb dX0_complete_38 (by decide) ?_
            exact ih (i + 1) k (by omega) (by omega) (by rw [cnt_f (f := (cpl ex pa ho dv ak sp)) (show cpl ex pa ho dv ak sp i = false by unfold cpl; rw [k29, Bool.and_false])]; exact hset) _ (lv_sub hl [1, 2, 3, 0] rfl)
          · refine lv_iinc (v := nI (k + 1)) (lv' := [(2, .int (nI (k + 1))), (0, .ref h), (1, .int (nI sp)), (3, .int (nI i))]) hx hb dX0_complete_32 hl (k := 2) rfl (i1_n k) (by decide) rfl (fun ls hl => ?_)
            refine lv_iinc (v := nI (i + 1)) (lv' := [(3, .int (nI (i + 1))), (2, .int (nI (k + 1))), (0, .ref h), (1, .int (nI sp))]) hx hb dX0_complete_35 hl (k := 3) rfl (i1_n i) (by decide) rfl (fun ls hl => ?_)
            refine lv_goto (tgt := 8) hx hb dX0_complete_38 (by decide) ?_
            exact ih (i + 1) (k + 1) (by omega) (by omega) (by rw [cnt_t (f := (cpl ex pa ho dv ak sp)) (show cpl ex pa ho dv ak sp i = true by unfold cpl; rw [k20, k29]; rfl), ← hset]) _ (lv_sub hl [2, 3, 1, 0] rfl)
  exact loop8 17 0 0 (by omega) (Nat.le_refl 17) rfl _ (lv_sub hl [2, 3, 1, 0] rfl)

set_option maxHeartbeats 4000000 in
set_option maxRecDepth 100000 in
theorem kX0_price (l : Launch) (D : va_G) (h : Nat) (ad : Nat → Nat) (cI cZ : ClassId) (ex : Nat → Bool) (pa : Nat → Option Nat) (di : Nat → Nat) (qu : Nat → Nat) (gc : Nat) (dg : Nat → Nat) (dp : Nat → Nat) (dv : Nat → Option Nat) (dd : Nat → Nat) (ds : Nat → Nat) (dc : Nat) (td : Nat) (ho : Nat → Option Nat) (ak : Nat → Bool) (se : Nat → Option Nat) (pr : Nat → Option Nat) (sz : Nat) (g sp : Nat) (hg : g < 16) (hs : sp < 3) (he : ex g = true) (hpr : PR pa) (hho : HO ho dc) (hdc : dc ≤ 200) (hdv : DV dv dc) (hqu : ∀ k, k < 256 → qu k ≤ 20) (hdi : ∀ k, k < 16 → di k ≤ 100) (hpb : ∀ k, k < 16 → ∀ v, pr k = some v → v ≤ 1000000000) (hnv : prs (vlu ex pa ho dv 0 (sp + 1) (0 + 1)) qu di pr (g + 1) g ≠ none) : Met l yX0_price wsX0_price ({ frames := 5, cells := 0, slots := 0, locals := 126 } : Room) (wP D (hW h ad cI cZ ex pa di qu gc dg dp dv dd ds dc td ho ak se pr) (hT cI cZ) [.ref h, .int (nI g), .int (nI sp)] sz) (wQ D (hW h ad cI cZ ex pa di qu gc dg dp dv dd ds dc td ho ak se pr) (hW h ad cI cZ ex pa di qu gc dg dp dv dd ds dc td ho ak se (prs (vlu ex pa ho dv 0 (sp + 1) (0 + 1)) qu di pr (g + 1))) (some (.int (oI (prs (vlu ex pa ho dv 0 (sp + 1) (0 + 1)) qu di pr (g + 1) g))))) 0 0 (va_A (hW h ad cI cZ ex pa di qu gc dg dp dv dd ds dc td ho ak se pr) sz) := by
  refine Met.ofW (cc := cX0_price) (maxL := 4) (ret := (some .int)) (by decide) rfl ?_
  intro p e s m args below meth c s₁ B hml hv
  obtain ⟨rfl, hsz, hP, hK, hD0⟩ := hv
  have hx := B.exec
  have hb := B.bytes
  have hr := B.returns
  have hts := atoms_spec (ws := wsX0_price) B.pre
  have hown : s.vm.findClass RX0 = some m.cls := findClass_of_methodNamed B.named
  have hlocks := B.notSynchronized
  subst hsz
  have hD := hD0.self (sz := s.heap.size)
  generalize hAe : va_A (hW h ad cI cZ ex pa di qu gc dg dp dv dd ds dc td ho ak se pr) s.heap.size = A at hD ⊢
  have hA : ∀ q : Nat, s.heap.size ≤ q → A q := fun q h => by rw [← hAe]; exact Or.inr h
  have hS : va_S A s.heap s.heap [] := va_S.rf
  have hl := lv_entry ([.ref h, .int (nI g), .int (nI sp)]) (n := 4) (Nat.le_of_ble_eq_true rfl)
  rw [lg_entry_eq]
  generalize (lg_sl ([.ref h, .int (nI g), .int (nI sp)]) ++ List.replicate (4 - (lg_sl ([.ref h, .int (nI g), .int (nI sp)])).length) Slot.unset).toArray = ls at hl ⊢
  have hl : lv_has ls 4 [(0, .ref h), (1, .int (nI g)), (2, .int (nI sp))] := hl
  refine lv_aload_n hx hb dX0_price_0 rfl (lv_at hl 0 rfl) ?_
  refine lv_iload_n hx hb dX0_price_1 rfl (lv_at hl 1 rfl) ?_
  refine q_callV (va_runV (As := [.int (nI g)]) (rest := []) ⟨hx, hb, hml, hown, hts⟩ (kX0_checkGood l D h ad cI cZ ex pa di qu gc dg dp dv dd ds dc td ho ak se pr g hg he) (cwV 1 hts gX0_price_X0_checkGood rfl rfl rfl (by decide +kernel) ⟨Nat.le_of_ble_eq_true rfl, Nat.le_of_ble_eq_true rfl⟩) ⟨pP_blind, va_recv hK hP (ci := 0) (q0 := 0) rfl rfl, pP_pre hP hK⟩ rfl rfl hl.1 rfl (lv_room (Nat.le_of_ble_eq_true rfl)) dX0_price_2 ⟨Nat.zero_le _, Nat.zero_le _⟩) ?_
  refine lv_iload_n hx hb dX0_price_5 rfl (lv_at hl 2 rfl) ?_
  refine q_callV (va_runS (As := [.int (nI sp)]) (rest := []) ⟨hx, hb, hml, hown, hts⟩ (kX0_checkShop l sp hs) (cwS 1 hts gX0_price_X0_checkShop rfl rfl rfl (by decide +kernel) ⟨Nat.le_of_ble_eq_true rfl, Nat.le_of_ble_eq_true rfl⟩) ⟨sP_blind, sP_pre⟩ rfl rfl hl.1 rfl (lv_room (Nat.le_of_ble_eq_true rfl)) dX0_price_6 ⟨Nat.zero_le _, Nat.zero_le _⟩) ?_
  refine lv_aload_n hx hb dX0_price_9 rfl (lv_at hl 0 rfl) ?_
  refine lv_iload_n hx hb dX0_price_10 rfl (lv_at hl 1 rfl) ?_
  refine lv_iload_n hx hb dX0_price_11 rfl (lv_at hl 2 rfl) ?_
  refine q_wcallI (r := oI (prs (vlu ex pa ho dv 0 (sp + 1) (0 + 1)) qu di pr (g + 1) g)) (w' := (hW h ad cI cZ ex pa di qu gc dg dp dv dd ds dc td ho ak se (prs (vlu ex pa ho dv 0 (sp + 1) (0 + 1)) qu di pr (g + 1)))) (va_runV (As := [.int (nI g), .int (nI sp)]) (rest := []) ⟨hx, hb, hml, hown, hts⟩ (kX0_findPrice l D h ad cI cZ ex pa di qu gc dg dp dv dd ds dc td ho ak se pr _ g sp hg hs hpr hho hdc hdv hqu hdi hpb) (cwV 2 hts gX0_price_X0_findPrice rfl rfl rfl (by decide +kernel) ⟨Nat.le_of_ble_eq_true rfl, Nat.le_of_ble_eq_true rfl⟩) ⟨wP_blind, va_recv hK hP (ci := 0) (q0 := 0) rfl rfl, wP_pre hP hK hD⟩ rfl rfl hl.1 rfl (lv_room (Nat.le_of_ble_eq_true rfl)) dX0_price_12 ⟨Nat.zero_le _, Nat.zero_le _⟩) hD hS hA rfl (fun H locs hP hD hS => ?_)
  refine lv_istore_n (lv' := [(3, .int (oI (prs (vlu ex pa ho dv 0 (sp + 1) (0 + 1)) qu di pr (g + 1) g))), (0, .ref h), (1, .int (nI g)), (2, .int (nI sp))]) hx hb dX0_price_15 rfl hl (by decide) rfl (fun ls hl => ?_)
  refine lv_iload_n hx hb dX0_price_16 rfl (lv_at hl 0 rfl) ?_
  refine lv_iconst (v := oI none) hx hb dX0_price_17 (by decide) ?_
  refine q_icmpO_ne (a := prs (vlu ex pa ho dv 0 (sp + 1) (0 + 1)) qu di pr (g + 1) g) (b := none) (tgt := 31) (fun k h9 => by have := prs_in (fun k hk => vlu_in hho hpr hdv hk (by omega) (show sp + 1 < 4 by omega) (by omega)) hpb (g + 1) (by omega) g hg k h9; omega) (fun k h9 => by cases h9) hx hb dX0_price_18 (by decide) (fun k18 => ?_) (fun k18 => absurd k18 hnv)
  refine lv_iload_n hx hb dX0_price_31 rfl (lv_at hl 0 rfl) ?_
  exact q_wretI hx hb hr hlocks hAe hP hS (rfl) dX0_price_32

set_option maxHeartbeats 4000000 in
set_option maxRecDepth 100000 in
theorem kX0_changed (l : Launch) (D : va_G) (h : Nat) (ad : Nat → Nat) (cI cZ : ClassId) (ex : Nat → Bool) (pa : Nat → Option Nat) (di : Nat → Nat) (qu : Nat → Nat) (gc : Nat) (dg : Nat → Nat) (dp : Nat → Nat) (dv : Nat → Option Nat) (dd : Nat → Nat) (ds : Nat → Nat) (dc : Nat) (td : Nat) (ho : Nat → Option Nat) (ak : Nat → Bool) (se : Nat → Option Nat) (pr : Nat → Option Nat) (sp : Nat) (hs : sp < 3) (hpr : PR pa) (hho : HO ho dc) (hdc : dc ≤ 200) (hdv : DV dv dc) (hse : ∀ k, k < 864 → ∀ v, se k = some v → v ≤ 100000) : Met l yX0_changed wsX0_changed ({ frames := 6, cells := 0, slots := 0, locals := 149 } : Room) (pP D (hW h ad cI cZ ex pa di qu gc dg dp dv dd ds dc td ho ak se pr) (hT cI cZ) [.ref h, .int (nI sp)]) (pQ (some (.int (nI (bset (lkd ex pa ho dv se sp) 16))))) 0 0 nF := by
  refine Met.ofW (cc := cX0_changed) (maxL := 2) (ret := (some .int)) (by decide) rfl ?_
  intro p e s m args below meth c s₁ B hml hv
  obtain ⟨rfl, hP, hK⟩ := hv
  have hx := B.exec
  have hb := B.bytes
  have hr := B.returns
  have hts := atoms_spec (ws := wsX0_changed) B.pre
  have hown : s.vm.findClass RX0 = some m.cls := findClass_of_methodNamed B.named
  have hlocks := B.notSynchronized
  have hl := lv_entry ([.ref h, .int (nI sp)]) (n := 2) (Nat.le_of_ble_eq_true rfl)
  rw [lg_entry_eq]
  generalize (lg_sl ([.ref h, .int (nI sp)]) ++ List.replicate (2 - (lg_sl ([.ref h, .int (nI sp)])).length) Slot.unset).toArray = ls at hl ⊢
  have hl : lv_has ls 2 [(0, .ref h), (1, .int (nI sp))] := hl
  refine lv_iload_n hx hb dX0_changed_0 rfl (lv_at hl 1 rfl) ?_
  refine q_callV (va_runS (As := [.int (nI sp)]) (rest := []) ⟨hx, hb, hml, hown, hts⟩ (kX0_checkShop l sp hs) (cwS 1 hts gX0_changed_X0_checkShop rfl rfl rfl (by decide +kernel) ⟨Nat.le_of_ble_eq_true rfl, Nat.le_of_ble_eq_true rfl⟩) ⟨sP_blind, sP_pre⟩ rfl rfl hl.1 rfl (lv_room (Nat.le_of_ble_eq_true rfl)) dX0_changed_1 ⟨Nat.zero_le _, Nat.zero_le _⟩) ?_
  refine lv_aload_n hx hb dX0_changed_4 rfl (lv_at hl 0 rfl) ?_
  refine lv_iload_n hx hb dX0_changed_5 rfl (lv_at hl 1 rfl) ?_
  refine q_callI (r := nI (bset (lkd ex pa ho dv se sp) 16)) (va_runV (As := [.int (nI sp)]) (rest := []) ⟨hx, hb, hml, hown, hts⟩ (kX0_findChanged l D h ad cI cZ ex pa di qu gc dg dp dv dd ds dc td ho ak se pr sp hs hpr hho hdc hdv hse) (cwV 1 hts gX0_changed_X0_findChanged rfl rfl rfl (by decide +kernel) ⟨Nat.le_of_ble_eq_true rfl, Nat.le_of_ble_eq_true rfl⟩) ⟨pP_blind, va_recv hK hP (ci := 0) (q0 := 0) rfl rfl, pP_pre hP hK⟩ rfl rfl hl.1 rfl (lv_room (Nat.le_of_ble_eq_true rfl)) dX0_changed_6 ⟨Nat.zero_le _, Nat.zero_le _⟩) ?_
  exact q_retI hx hb hr hlocks (rfl) dX0_changed_9
