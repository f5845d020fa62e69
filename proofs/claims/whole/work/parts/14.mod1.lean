set_option maxHeartbeats 4000000 in
set_option maxRecDepth 100000 in
theorem kX1_isIn (l : Launch) (v a b : Int32)  : Met l yX1_isIn wsX1_isIn ({ frames := 0, cells := 0, slots := 0, locals := 0 } : Room) (sP [.int v, .int a, .int b]) (pQ (some (.int (bI (isin v a b))))) 0 0 nF := by
  refine Met.ofW (cc := cX1_isIn) (maxL := 3) (ret := (some .boolean)) (by decide) rfl ?_
  intro p e s m args below meth c s₁ B hml hv
  obtain rfl := hv
  have hx := B.exec
  have hb := B.bytes
  have hr := B.returns
  have hts := atoms_spec (ws := wsX1_isIn) B.pre
  have hown : s.vm.findClass RX1 = some m.cls := findClass_of_methodNamed B.named
  have hlocks := B.notSynchronized
  have hl := lv_entry ([.int v, .int a, .int b]) (n := 3) (Nat.le_of_ble_eq_true rfl)
  rw [lg_entry_eq]
  generalize (lg_sl ([.int v, .int a, .int b]) ++ List.replicate (3 - (lg_sl ([.int v, .int a, .int b])).length) Slot.unset).toArray = ls at hl ⊢
  have hl : lv_has ls 3 [(0, .int v), (1, .int a), (2, .int b)] := hl
  refine lv_iload_n hx hb dX1_isIn_0 rfl (lv_at hl 0 rfl) ?_
  refine lv_iload_n hx hb dX1_isIn_1 rfl (lv_at hl 1 rfl) ?_
  refine lv_icmp_lt (tgt := 14) hx hb dX1_isIn_2 (by decide) (fun k2 => ?_) (fun k2 => ?_)
  · refine lv_iconst (v := nI 0) hx hb dX1_isIn_14 (by decide) ?_
    exact q_retZ hx hb hr hlocks (retF (isin_lo k2)) dX1_isIn_15
  · refine lv_iload_n hx hb dX1_isIn_5 rfl (lv_at hl 0 rfl) ?_
    refine lv_iload_n hx hb dX1_isIn_6 rfl (lv_at hl 2 rfl) ?_
    refine lv_icmp_gt (tgt := 14) hx hb dX1_isIn_7 (by decide) (fun k7 => ?_) (fun k7 => ?_)
    · refine lv_iconst (v := nI 0) hx hb dX1_isIn_14 (by decide) ?_
      exact q_retZ hx hb hr hlocks (retF (isin_hi k7)) dX1_isIn_15
    · refine lv_iconst (v := nI 1) hx hb dX1_isIn_10 (by decide) ?_
      refine lv_goto (tgt := 15) hx hb dX1_isIn_11 (by decide) ?_
      exact q_retZ hx hb hr hlocks (retT (isin_in k2 k7)) dX1_isIn_15

set_option maxHeartbeats 4000000 in
set_option maxRecDepth 100000 in
theorem kX1_isShop (l : Launch) (x : Int32)  : Met l yX1_isShop wsX1_isShop ({ frames := 1, cells := 0, slots := 0, locals := 22 } : Room) (sP [.int x]) (pQ (some (.int (bI (isin x (nI 0) (nI 2)))))) 0 0 nF := by
  refine Met.ofW (cc := cX1_isShop) (maxL := 1) (ret := (some .boolean)) (by decide) rfl ?_
  intro p e s m args below meth c s₁ B hml hv
  obtain rfl := hv
  have hx := B.exec
  have hb := B.bytes
  have hr := B.returns
  have hts := atoms_spec (ws := wsX1_isShop) B.pre
  have hown : s.vm.findClass RX1 = some m.cls := findClass_of_methodNamed B.named
  have hlocks := B.notSynchronized
  have hl := lv_entry ([.int x]) (n := 1) (Nat.le_of_ble_eq_true rfl)
  rw [lg_entry_eq]
  generalize (lg_sl ([.int x]) ++ List.replicate (1 - (lg_sl ([.int x])).length) Slot.unset).toArray = ls at hl ⊢
  have hl : lv_has ls 1 [(0, .int x)] := hl
  refine lv_iload_n hx hb dX1_isShop_0 rfl (lv_at hl 0 rfl) ?_
  refine lv_iconst (v := nI 0) hx hb dX1_isShop_1 (by decide) ?_
  refine lv_iconst (v := nI 2) hx hb dX1_isShop_2 (by decide) ?_
  refine q_callI (r := bI (isin x (nI 0) (nI 2))) (va_runS (As := [.int x, .int (nI 0), .int (nI 2)]) (rest := []) ⟨hx, hb, hml, hown, hts⟩ (kX1_isIn l x (nI 0) (nI 2)) (cwS 3 hts gX1_isShop_X1_isIn rfl rfl rfl (by decide +kernel) ⟨Nat.le_of_ble_eq_true rfl, Nat.le_of_ble_eq_true rfl⟩) ⟨sP_blind, sP_pre⟩ rfl rfl hl.1 rfl (lv_room (Nat.le_of_ble_eq_true rfl)) dX1_isShop_3 ⟨Nat.zero_le _, Nat.zero_le _⟩) ?_
  exact q_retZ hx hb hr hlocks (rfl) dX1_isShop_6

set_option maxHeartbeats 4000000 in
set_option maxRecDepth 100000 in
theorem kX1_isGoodN (l : Launch) (D : va_G) (h : Nat) (ad : Nat → Nat) (cI cJ cZ : ClassId) (td : Nat) (gc : Nat) (ex : Nat → Bool) (pa : Nat → Option Nat) (di : Nat → Nat) (qu : Nat → Nat) (dc : Nat) (dg : Nat → Nat) (da : Nat → Nat) (dh : Nat → Option Nat) (dt : Nat → Option Nat) (dv : Nat → Option Nat) (dd : Nat → Nat) (ds : Nat → Nat) (ak : Nat → Bool) (se : Nat → Option Nat) (pr : Nat → Option Nat) (th : Nat) (j : Nat) (hj : j < 16) (hgc : gc ≤ 16) (hxg : ∀ j, j < 16 → ex j = true → j < gc) : Met l yX1_isGood wsX1_isGood ({ frames := 1, cells := 0, slots := 0, locals := 22 } : Room) (pP D (mW h ad cI cJ cZ td gc ex pa di qu dc dg da dh dt dv dd ds ak se pr th) (mT cI cJ cZ) [.ref h, .int (nI j)]) (pQ (some (.int (bI (ex j))))) 0 0 nF := by
  refine Met.ofW (cc := cX1_isGood) (maxL := 2) (ret := (some .boolean)) (by decide) rfl ?_
  intro p e s m args below meth c s₁ B hml hv
  obtain ⟨rfl, hP, hK⟩ := hv
  have hx := B.exec
  have hb := B.bytes
  have hr := B.returns
  have hts := atoms_spec (ws := wsX1_isGood) B.pre
  have hown : s.vm.findClass RX1 = some m.cls := findClass_of_methodNamed B.named
  have hlocks := B.notSynchronized
  have hl := lv_entry ([.ref h, .int (nI j)]) (n := 2) (Nat.le_of_ble_eq_true rfl)
  rw [lg_entry_eq]
  generalize (lg_sl ([.ref h, .int (nI j)]) ++ List.replicate (2 - (lg_sl ([.ref h, .int (nI j)])).length) Slot.unset).toArray = ls at hl ⊢
  have hl : lv_has ls 2 [(0, .ref h), (1, .int (nI j))] := hl
  refine lv_iload_n hx hb dX1_isGood_0 rfl (lv_at hl 1 rfl) ?_
  refine lv_iconst (v := nI 0) hx hb dX1_isGood_1 (by decide) ?_
  refine lv_aload_n hx hb dX1_isGood_2 rfl (lv_at hl 0 rfl) ?_
  refine va_get (D := D) (ci := 1) (v := .int (nI gc)) (C := RX1) (T := TX1) (N := 18) hx hb hts (iX1_isGood) hown hK hP 0 rfl rfl 1 (by decide) (hts (.fieldLink RX1 58 "ShopHubModel" "goods" "I") (by decide +kernel)) (fun _ h9 => h9) rfl dX1_isGood_3 ?_
  refine lv_iconst (v := nI 1) hx hb dX1_isGood_6 (by decide) ?_
  refine q_top (y := zI ((1 : Nat) : Int)) (nz 1) ?_
  refine q_top2 (y := zI ((gc : Nat) : Int)) (nz gc) ?_
  refine q_subZ (a := ((gc : Nat) : Int)) (b := ((1 : Nat) : Int)) hx hb dX1_isGood_7 ?_
  refine q_callI (r := bI (isin (nI j) (nI 0) (zI (((gc : Nat) : Int) - ((1 : Nat) : Int))))) (va_runS (As := [.int (nI j), .int (nI 0), .int (zI (((gc : Nat) : Int) - ((1 : Nat) : Int)))]) (rest := []) ⟨hx, hb, hml, hown, hts⟩ (kX1_isIn l (nI j) (nI 0) (zI (((gc : Nat) : Int) - ((1 : Nat) : Int)))) (cwS 3 hts gX1_isGood_X1_isIn rfl rfl rfl (by decide +kernel) ⟨Nat.le_of_ble_eq_true rfl, Nat.le_of_ble_eq_true rfl⟩) ⟨sP_blind, sP_pre⟩ rfl rfl hl.1 rfl (lv_room (Nat.le_of_ble_eq_true rfl)) dX1_isGood_8 ⟨Nat.zero_le _, Nat.zero_le _⟩) ?_
  refine q_top (y := bI (decide (j < gc))) (by rw [isin_gd (by omega) (by omega)]) ?_
  refine q_ifB_eq (b := decide (j < gc)) (tgt := 27) hx hb dX1_isGood_11 (by decide) (fun k11 => ?_) (fun k11 => ?_)
  · refine lv_iconst (v := nI 0) hx hb dX1_isGood_27 (by decide) ?_
    exact q_retZ hx hb hr hlocks (retF (by cases h9 : ex j with | false => rfl | true => exact absurd (hxg j hj h9) (of_decide_eq_false k11))) dX1_isGood_28
  · refine lv_aload_n hx hb dX1_isGood_14 rfl (lv_at hl 0 rfl) ?_
    refine va_get (D := D) (ci := 1) (v := .ref (ad 2)) (C := RX1) (T := TX1) (N := 18) hx hb hts (iX1_isGood) hown hK hP 0 rfl rfl 2 (by decide) (hts (.fieldLink RX1 7 "ShopHubModel" "isThere" "[Z") (by decide +kernel)) (fun _ h9 => h9) rfl dX1_isGood_15 ?_
    refine lv_iload_n hx hb dX1_isGood_18 rfl (lv_at hl 1 rfl) ?_
    refine q_zld ex hx hb hK hP 1 0 rfl rfl (k := j) (by omega) (Nat.le_of_ble_eq_true rfl) dX1_isGood_19 ?_
    refine q_ifB_eq (b := ex j) (tgt := 27) hx hb dX1_isGood_20 (by decide) (fun k20 => ?_) (fun k20 => ?_)
    · refine lv_iconst (v := nI 0) hx hb dX1_isGood_27 (by decide) ?_
      exact q_retZ hx hb hr hlocks (retF k20) dX1_isGood_28
    · refine lv_iconst (v := nI 1) hx hb dX1_isGood_23 (by decide) ?_
      refine lv_goto (tgt := 28) hx hb dX1_isGood_24 (by decide) ?_
      exact q_retZ hx hb hr hlocks (retT k20) dX1_isGood_28

set_option maxHeartbeats 4000000 in
set_option maxRecDepth 100000 in
theorem kX1_isGoodR (l : Launch) (D : va_G) (h : Nat) (ad : Nat → Nat) (cI cJ cZ : ClassId) (td : Nat) (gc : Nat) (ex : Nat → Bool) (pa : Nat → Option Nat) (di : Nat → Nat) (qu : Nat → Nat) (dc : Nat) (dg : Nat → Nat) (da : Nat → Nat) (dh : Nat → Option Nat) (dt : Nat → Option Nat) (dv : Nat → Option Nat) (dd : Nat → Nat) (ds : Nat → Nat) (ak : Nat → Bool) (se : Nat → Option Nat) (pr : Nat → Option Nat) (th : Nat) (g : Int32) (hgc : gc ≤ 16) (hg : g < 0 ∨ nI 16 ≤ g) : Met l yX1_isGood wsX1_isGood ({ frames := 1, cells := 0, slots := 0, locals := 22 } : Room) (pP D (mW h ad cI cJ cZ td gc ex pa di qu dc dg da dh dt dv dd ds ak se pr th) (mT cI cJ cZ) [.ref h, .int g]) (pQ (some (.int (bI false)))) 0 0 nF := by
  refine Met.ofW (cc := cX1_isGood) (maxL := 2) (ret := (some .boolean)) (by decide) rfl ?_
  intro p e s m args below meth c s₁ B hml hv
  obtain ⟨rfl, hP, hK⟩ := hv
  have hx := B.exec
  have hb := B.bytes
  have hr := B.returns
  have hts := atoms_spec (ws := wsX1_isGood) B.pre
  have hown : s.vm.findClass RX1 = some m.cls := findClass_of_methodNamed B.named
  have hlocks := B.notSynchronized
  have hl := lv_entry ([.ref h, .int g]) (n := 2) (Nat.le_of_ble_eq_true rfl)
  rw [lg_entry_eq]
  generalize (lg_sl ([.ref h, .int g]) ++ List.replicate (2 - (lg_sl ([.ref h, .int g])).length) Slot.unset).toArray = ls at hl ⊢
  have hl : lv_has ls 2 [(0, .ref h), (1, .int g)] := hl
  refine lv_iload_n hx hb dX1_isGood_0 rfl (lv_at hl 1 rfl) ?_
  refine lv_iconst (v := nI 0) hx hb dX1_isGood_1 (by decide) ?_
  refine lv_aload_n hx hb dX1_isGood_2 rfl (lv_at hl 0 rfl) ?_
  refine va_get (D := D) (ci := 1) (v := .int (nI gc)) (C := RX1) (T := TX1) (N := 18) hx hb hts (iX1_isGood) hown hK hP 0 rfl rfl 1 (by decide) (hts (.fieldLink RX1 58 "ShopHubModel" "goods" "I") (by decide +kernel)) (fun _ h9 => h9) rfl dX1_isGood_3 ?_
  refine lv_iconst (v := nI 1) hx hb dX1_isGood_6 (by decide) ?_
  refine q_top (y := zI ((1 : Nat) : Int)) (nz 1) ?_
  refine q_top2 (y := zI ((gc : Nat) : Int)) (nz gc) ?_
  refine q_subZ (a := ((gc : Nat) : Int)) (b := ((1 : Nat) : Int)) hx hb dX1_isGood_7 ?_
  refine q_callI (r := bI (isin g (nI 0) (zI (((gc : Nat) : Int) - ((1 : Nat) : Int))))) (va_runS (As := [.int g, .int (nI 0), .int (zI (((gc : Nat) : Int) - ((1 : Nat) : Int)))]) (rest := []) ⟨hx, hb, hml, hown, hts⟩ (kX1_isIn l g (nI 0) (zI (((gc : Nat) : Int) - ((1 : Nat) : Int)))) (cwS 3 hts gX1_isGood_X1_isIn rfl rfl rfl (by decide +kernel) ⟨Nat.le_of_ble_eq_true rfl, Nat.le_of_ble_eq_true rfl⟩) ⟨sP_blind, sP_pre⟩ rfl rfl hl.1 rfl (lv_room (Nat.le_of_ble_eq_true rfl)) dX1_isGood_8 ⟨Nat.zero_le _, Nat.zero_le _⟩) ?_
  refine q_top (y := bI false) (by rw [isin_bd (m := 16) (by omega) (by omega) hg]) ?_
  refine q_ifB_eq (b := false) (tgt := 27) hx hb dX1_isGood_11 (by decide) (fun k11 => ?_) (fun k11 => absurd k11 (by decide))
  refine lv_iconst (v := nI 0) hx hb dX1_isGood_27 (by decide) ?_
  exact q_retZ hx hb hr hlocks (by decide) dX1_isGood_28

set_option maxHeartbeats 4000000 in
set_option maxRecDepth 100000 in
theorem kX1_isDraftN (l : Launch) (D : va_G) (h : Nat) (ad : Nat → Nat) (cI cJ cZ : ClassId) (td : Nat) (gc : Nat) (ex : Nat → Bool) (pa : Nat → Option Nat) (di : Nat → Nat) (qu : Nat → Nat) (dc : Nat) (dg : Nat → Nat) (da : Nat → Nat) (dh : Nat → Option Nat) (dt : Nat → Option Nat) (dv : Nat → Option Nat) (dd : Nat → Nat) (ds : Nat → Nat) (ak : Nat → Bool) (se : Nat → Option Nat) (pr : Nat → Option Nat) (th : Nat) (d : Nat) (hd : d < dc) (hdc : dc ≤ 200) (hdg : dg d < 16) : Met l yX1_isDraft wsX1_isDraft ({ frames := 1, cells := 0, slots := 0, locals := 22 } : Room) (pP D (mW h ad cI cJ cZ td gc ex pa di qu dc dg da dh dt dv dd ds ak se pr th) (mT cI cJ cZ) [.ref h, .int (nI d)]) (pQ (some (.int (bI (ex (dg d)))))) 0 0 nF := by
  refine Met.ofW (cc := cX1_isDraft) (maxL := 2) (ret := (some .boolean)) (by decide) rfl ?_
  intro p e s m args below meth c s₁ B hml hv
  obtain ⟨rfl, hP, hK⟩ := hv
  have hx := B.exec
  have hb := B.bytes
  have hr := B.returns
  have hts := atoms_spec (ws := wsX1_isDraft) B.pre
  have hown : s.vm.findClass RX1 = some m.cls := findClass_of_methodNamed B.named
  have hlocks := B.notSynchronized
  have hl := lv_entry ([.ref h, .int (nI d)]) (n := 2) (Nat.le_of_ble_eq_true rfl)
  rw [lg_entry_eq]
  generalize (lg_sl ([.ref h, .int (nI d)]) ++ List.replicate (2 - (lg_sl ([.ref h, .int (nI d)])).length) Slot.unset).toArray = ls at hl ⊢
  have hl : lv_has ls 2 [(0, .ref h), (1, .int (nI d))] := hl
  refine lv_iload_n hx hb dX1_isDraft_0 rfl (lv_at hl 1 rfl) ?_
  refine lv_iconst (v := nI 0) hx hb dX1_isDraft_1 (by decide) ?_
  refine lv_aload_n hx hb dX1_isDraft_2 rfl (lv_at hl 0 rfl) ?_
  refine va_get (D := D) (ci := 1) (v := .int (nI dc)) (C := RX1) (T := TX1) (N := 18) hx hb hts (iX1_isDraft) hown hK hP 0 rfl rfl 6 (by decide) (hts (.fieldLink RX1 81 "ShopHubModel" "drafts" "I") (by decide +kernel)) (fun _ h9 => h9) rfl dX1_isDraft_3 ?_
  refine lv_iconst (v := nI 1) hx hb dX1_isDraft_6 (by decide) ?_
  refine q_top (y := zI ((1 : Nat) : Int)) (nz 1) ?_
  refine q_top2 (y := zI ((dc : Nat) : Int)) (nz dc) ?_
  refine q_subZ (a := ((dc : Nat) : Int)) (b := ((1 : Nat) : Int)) hx hb dX1_isDraft_7 ?_
  refine q_callI (r := bI (isin (nI d) (nI 0) (zI (((dc : Nat) : Int) - ((1 : Nat) : Int))))) (va_runS (As := [.int (nI d), .int (nI 0), .int (zI (((dc : Nat) : Int) - ((1 : Nat) : Int)))]) (rest := []) ⟨hx, hb, hml, hown, hts⟩ (kX1_isIn l (nI d) (nI 0) (zI (((dc : Nat) : Int) - ((1 : Nat) : Int)))) (cwS 3 hts gX1_isDraft_X1_isIn rfl rfl rfl (by decide +kernel) ⟨Nat.le_of_ble_eq_true rfl, Nat.le_of_ble_eq_true rfl⟩) ⟨sP_blind, sP_pre⟩ rfl rfl hl.1 rfl (lv_room (Nat.le_of_ble_eq_true rfl)) dX1_isDraft_8 ⟨Nat.zero_le _, Nat.zero_le _⟩) ?_
  refine q_top (y := bI (decide (d < dc))) (by rw [isin_gd (by omega) (by omega)]) ?_
  refine q_ifB_eq (b := decide (d < dc)) (tgt := 32) hx hb dX1_isDraft_11 (by decide) (fun k11 => absurd k11 (by rw [decide_eq_true hd]; decide)) (fun k11 => ?_)
  refine lv_aload_n hx hb dX1_isDraft_14 rfl (lv_at hl 0 rfl) ?_
  refine va_get (D := D) (ci := 1) (v := .ref (ad 2)) (C := RX1) (T := TX1) (N := 18) hx hb hts (iX1_isDraft) hown hK hP 0 rfl rfl 2 (by decide) (hts (.fieldLink RX1 7 "ShopHubModel" "isThere" "[Z") (by decide +kernel)) (fun _ h9 => h9) rfl dX1_isDraft_15 ?_
  refine lv_aload_n hx hb dX1_isDraft_18 rfl (lv_at hl 0 rfl) ?_
  refine va_get (D := D) (ci := 1) (v := .ref (ad 7)) (C := RX1) (T := TX1) (N := 18) hx hb hts (iX1_isDraft) hown hK hP 0 rfl rfl 7 (by decide) (hts (.fieldLink RX1 23 "ShopHubModel" "good" "[I") (by decide +kernel)) (fun _ h9 => h9) rfl dX1_isDraft_19 ?_
  refine lv_iload_n hx hb dX1_isDraft_22 rfl (lv_at hl 1 rfl) ?_
  refine q_ald nI dg hx hb hK hP 5 1 rfl rfl (k := d) (by omega) (Nat.le_of_ble_eq_true rfl) dX1_isDraft_23 ?_
  refine q_zld ex hx hb hK hP 1 0 rfl rfl (k := dg d) (hdg) (Nat.le_of_ble_eq_true rfl) dX1_isDraft_24 ?_
  refine q_ifB_eq (b := ex (dg d)) (tgt := 32) hx hb dX1_isDraft_25 (by decide) (fun k25 => ?_) (fun k25 => ?_)
  · refine lv_iconst (v := nI 0) hx hb dX1_isDraft_32 (by decide) ?_
    exact q_retZ hx hb hr hlocks (retF k25) dX1_isDraft_33
  · refine lv_iconst (v := nI 1) hx hb dX1_isDraft_28 (by decide) ?_
    refine lv_goto (tgt := 33) hx hb dX1_isDraft_29 (by decide) ?_
    exact q_retZ hx hb hr hlocks (retT k25) dX1_isDraft_33

set_option maxHeartbeats 4000000 in
set_option maxRecDepth 100000 in
theorem kX1_isDraftR (l : Launch) (D : va_G) (h : Nat) (ad : Nat → Nat) (cI cJ cZ : ClassId) (td : Nat) (gc : Nat) (ex : Nat → Bool) (pa : Nat → Option Nat) (di : Nat → Nat) (qu : Nat → Nat) (dc : Nat) (dg : Nat → Nat) (da : Nat → Nat) (dh : Nat → Option Nat) (dt : Nat → Option Nat) (dv : Nat → Option Nat) (dd : Nat → Nat) (ds : Nat → Nat) (ak : Nat → Bool) (se : Nat → Option Nat) (pr : Nat → Option Nat) (th : Nat) (g : Int32) (hdc : dc ≤ 200) (hg : g < 0 ∨ nI dc ≤ g) : Met l yX1_isDraft wsX1_isDraft ({ frames := 1, cells := 0, slots := 0, locals := 22 } : Room) (pP D (mW h ad cI cJ cZ td gc ex pa di qu dc dg da dh dt dv dd ds ak se pr th) (mT cI cJ cZ) [.ref h, .int g]) (pQ (some (.int (bI false)))) 0 0 nF := by
  refine Met.ofW (cc := cX1_isDraft) (maxL := 2) (ret := (some .boolean)) (by decide) rfl ?_
  intro p e s m args below meth c s₁ B hml hv
  obtain ⟨rfl, hP, hK⟩ := hv
  have hx := B.exec
  have hb := B.bytes
  have hr := B.returns
  have hts := atoms_spec (ws := wsX1_isDraft) B.pre
  have hown : s.vm.findClass RX1 = some m.cls := findClass_of_methodNamed B.named
  have hlocks := B.notSynchronized
  have hl := lv_entry ([.ref h, .int g]) (n := 2) (Nat.le_of_ble_eq_true rfl)
  rw [lg_entry_eq]
  generalize (lg_sl ([.ref h, .int g]) ++ List.replicate (2 - (lg_sl ([.ref h, .int g])).length) Slot.unset).toArray = ls at hl ⊢
  have hl : lv_has ls 2 [(0, .ref h), (1, .int g)] := hl
  refine lv_iload_n hx hb dX1_isDraft_0 rfl (lv_at hl 1 rfl) ?_
  refine lv_iconst (v := nI 0) hx hb dX1_isDraft_1 (by decide) ?_
  refine lv_aload_n hx hb dX1_isDraft_2 rfl (lv_at hl 0 rfl) ?_
  refine va_get (D := D) (ci := 1) (v := .int (nI dc)) (C := RX1) (T := TX1) (N := 18) hx hb hts (iX1_isDraft) hown hK hP 0 rfl rfl 6 (by decide) (hts (.fieldLink RX1 81 "ShopHubModel" "drafts" "I") (by decide +kernel)) (fun _ h9 => h9) rfl dX1_isDraft_3 ?_
  refine lv_iconst (v := nI 1) hx hb dX1_isDraft_6 (by decide) ?_
  refine q_top (y := zI ((1 : Nat) : Int)) (nz 1) ?_
  refine q_top2 (y := zI ((dc : Nat) : Int)) (nz dc) ?_
  refine q_subZ (a := ((dc : Nat) : Int)) (b := ((1 : Nat) : Int)) hx hb dX1_isDraft_7 ?_
  refine q_callI (r := bI (isin g (nI 0) (zI (((dc : Nat) : Int) - ((1 : Nat) : Int))))) (va_runS (As := [.int g, .int (nI 0), .int (zI (((dc : Nat) : Int) - ((1 : Nat) : Int)))]) (rest := []) ⟨hx, hb, hml, hown, hts⟩ (kX1_isIn l g (nI 0) (zI (((dc : Nat) : Int) - ((1 : Nat) : Int)))) (cwS 3 hts gX1_isDraft_X1_isIn rfl rfl rfl (by decide +kernel) ⟨Nat.le_of_ble_eq_true rfl, Nat.le_of_ble_eq_true rfl⟩) ⟨sP_blind, sP_pre⟩ rfl rfl hl.1 rfl (lv_room (Nat.le_of_ble_eq_true rfl)) dX1_isDraft_8 ⟨Nat.zero_le _, Nat.zero_le _⟩) ?_
  refine q_top (y := bI false) (by rw [isin_bd hdc (Nat.le_refl dc) hg]) ?_
  refine q_ifB_eq (b := false) (tgt := 32) hx hb dX1_isDraft_11 (by decide) (fun k11 => ?_) (fun k11 => absurd k11 (by decide))
  refine lv_iconst (v := nI 0) hx hb dX1_isDraft_32 (by decide) ?_
  exact q_retZ hx hb hr hlocks (by decide) dX1_isDraft_33

set_option maxHeartbeats 4000000 in
set_option maxRecDepth 100000 in
theorem kX1_level (l : Launch) (D : va_G) (h : Nat) (ad : Nat → Nat) (cI cJ cZ : ClassId) (td : Nat) (gc : Nat) (ex : Nat → Bool) (pa : Nat → Option Nat) (di : Nat → Nat) (qu : Nat → Nat) (dc : Nat) (dg : Nat → Nat) (da : Nat → Nat) (dh : Nat → Option Nat) (dt : Nat → Option Nat) (dv : Nat → Option Nat) (dd : Nat → Nat) (ds : Nat → Nat) (ak : Nat → Bool) (se : Nat → Option Nat) (pr : Nat → Option Nat) (th : Nat) (g : Nat) (lev : Nat → Nat) (hti : TI ex pa lev) (hg : g < 16) (he : ex g = true) : Met l yX1_level wsX1_level ({ frames := 0, cells := 0, slots := 0, locals := 0 } : Room) (pP D (mW h ad cI cJ cZ td gc ex pa di qu dc dg da dh dt dv dd ds ak se pr th) (mT cI cJ cZ) [.ref h, .int (nI g)]) (pQ (some (.int (nI (lev g))))) 0 0 nF := by
  refine Met.ofW (cc := cX1_level) (maxL := 4) (ret := (some .int)) (by decide) rfl ?_
  intro p e s m args below meth c s₁ B hml hv
  obtain ⟨rfl, hP, hK⟩ := hv
  have hx := B.exec
  have hb := B.bytes
  have hr := B.returns
  have hts := atoms_spec (ws := wsX1_level) B.pre
  have hown : s.vm.findClass RX1 = some m.cls := findClass_of_methodNamed B.named
  have hlocks := B.notSynchronized
  have hl := lv_entry ([.ref h, .int (nI g)]) (n := 4) (Nat.le_of_ble_eq_true rfl)
  rw [lg_entry_eq]
  generalize (lg_sl ([.ref h, .int (nI g)]) ++ List.replicate (4 - (lg_sl ([.ref h, .int (nI g)])).length) Slot.unset).toArray = ls at hl ⊢
  have hl : lv_has ls 4 [(0, .ref h), (1, .int (nI g))] := hl
  have hL := TI_le hti hg he
  have hL2 := lvZ_pa hti hg he
  refine lv_iconst (v := nI 0) hx hb dX1_level_0 (by decide) ?_
  refine lv_istore_n (lv' := [(2, .int (nI 0)), (0, .ref h), (1, .int (nI g))]) hx hb dX1_level_1 rfl hl (by decide) rfl (fun ls hl => ?_)
  refine lv_aload_n hx hb dX1_level_2 rfl (lv_at hl 1 rfl) ?_
  refine va_get (D := D) (ci := 1) (v := .ref (ad 3)) (C := RX1) (T := TX1) (N := 18) hx hb hts (iX1_level) hown hK hP 0 rfl rfl 3 (by decide) (hts (.fieldLink RX1 13 "ShopHubModel" "parent" "[I") (by decide +kernel)) (fun _ h9 => h9) rfl dX1_level_3 ?_
  refine lv_iload_n hx hb dX1_level_6 rfl (lv_at hl 2 rfl) ?_
  refine q_ald oI pa hx hb hK hP 2 1 rfl rfl (k := g) (by omega) (Nat.le_of_ble_eq_true rfl) dX1_level_7 ?_
  refine lv_istore_n (lv' := [(3, .int (oI (pa g))), (2, .int (nI 0)), (0, .ref h), (1, .int (nI g))]) hx hb dX1_level_8 rfl hl (by decide) rfl (fun ls hl => ?_)
  have loop9 : ∀ (n : Nat) (o2 : Option Nat) (k : Nat), (lvZ lev o2 + 2 ≤ (n : Int)) → ((k : Int) + (lvZ lev o2 + 1) = ((lev g : Nat) : Int)) → (okO ex o2) → ∀ ls : Array Slot, lv_has ls 4 [(0, .ref h), (2, .int (nI k)), (3, .int (oI o2))] → W p l e ({ frames := 0, cells := 0, slots := 0, locals := 0 } : Room) s m ([.ref h, .int (nI g)] : List Value).toArray below meth c s.heap [] 0 0 (MQ below (pQ (some (.int (nI (lev g))))) ([.ref h, .int (nI g)] : List Value).toArray s 0 0 nF) (F0 m 9 ls []) := by
    intro n
    induction n with
    | zero => intro o2 k hn hk hok2; exact absurd hn (by have := lvZ_ge lev o2; omega)
    | succ n ih =>
      intro o2 k hn hk hok2 ls hl
      have hA1 := lvZ_ge lev o2
      refine lv_iload_n hx hb dX1_level_9 rfl (lv_at hl 2 rfl) ?_
      refine lv_iconst (v := oI none) hx hb dX1_level_10 (by decide) ?_
      refine q_icmpO_eq (a := o2) (b := none) (tgt := 27) (fun k h9 => by have := (hok2 k h9).1; omega) (fun k h9 => by cases h9) hx hb dX1_level_11 (by decide) (fun k11 => ?_) (fun k11 => ?_)
      · refine lv_iload_n hx hb dX1_level_27 rfl (lv_at hl 1 rfl) ?_
        exact q_retI hx hb hr hlocks (by have hA5 : lvZ lev none = -1 := rfl; rw [k11] at hk; rw [show k = lev g by omega]) dX1_level_28
      · obtain ⟨q, rfl⟩ := Option.ne_none_iff_exists'.mp k11
        have hA3 : lvZ lev (some q) = (lev q : Int) := rfl
        have hA4 := lvZ_pa hti (hok2 q rfl).1 (hok2 q rfl).2
        refine lv_iinc (v := nI (k + 1)) (lv' := [(2, .int (nI (k + 1))), (0, .ref h), (3, .int (nI q))]) hx hb dX1_level_14 hl (k := 1) rfl (i1_n k) (by decide) rfl (fun ls hl => ?_)
        refine lv_aload_n hx hb dX1_level_17 rfl (lv_at hl 1 rfl) ?_
        refine va_get (D := D) (ci := 1) (v := .ref (ad 3)) (C := RX1) (T := TX1) (N := 18) hx hb hts (iX1_level) hown hK hP 0 rfl rfl 3 (by decide) (hts (.fieldLink RX1 13 "ShopHubModel" "parent" "[I") (by decide +kernel)) (fun _ h9 => h9) rfl dX1_level_18 ?_
        refine lv_iload_n hx hb dX1_level_21 rfl (lv_at hl 2 rfl) ?_
        refine q_ald oI pa hx hb hK hP 2 1 rfl rfl (k := q) ((hok2 q rfl).1) (Nat.le_of_ble_eq_true rfl) dX1_level_22 ?_
        refine lv_istore_n (lv' := [(3, .int (oI (pa q))), (2, .int (nI (k + 1))), (0, .ref h)]) hx hb dX1_level_23 rfl hl (by decide) rfl (fun ls hl => ?_)
        refine lv_goto (tgt := 9) hx hb dX1_level_24 (by decide) ?_
        exact ih (pa q) (k + 1) (by omega) (by omega) (TI_ok hti (hok2 q rfl).1 (hok2 q rfl).2) _ (lv_sub hl [2, 1, 0] rfl)
  exact loop9 (lev g + 2) (pa g) 0 (by omega) (by omega) (TI_ok hti hg he) _ (lv_sub hl [2, 1, 0] rfl)

set_option maxHeartbeats 4000000 in
set_option maxRecDepth 100000 in
theorem kX1_isBelow (l : Launch) (D : va_G) (h : Nat) (ad : Nat → Nat) (cI cJ cZ : ClassId) (td : Nat) (gc : Nat) (ex : Nat → Bool) (pa : Nat → Option Nat) (di : Nat → Nat) (qu : Nat → Nat) (dc : Nat) (dg : Nat → Nat) (da : Nat → Nat) (dh : Nat → Option Nat) (dt : Nat → Option Nat) (dv : Nat → Option Nat) (dd : Nat → Nat) (ds : Nat → Nat) (ak : Nat → Bool) (se : Nat → Option Nat) (pr : Nat → Option Nat) (th : Nat) (g t : Nat) (lev : Nat → Nat) (hti : TI ex pa lev) (hg : g < 16) (he : ex g = true) (ht : t < 16) : Met l yX1_isBelow wsX1_isBelow ({ frames := 0, cells := 0, slots := 0, locals := 0 } : Room) (pP D (mW h ad cI cJ cZ td gc ex pa di qu dc dg da dh dt dv dd ds ak se pr th) (mT cI cJ cZ) [.ref h, .int (nI g), .int (nI t)]) (pQ (some (.int (bI (wth ex pa t 3 (some g)))))) 0 0 nF := by
  refine Met.ofW (cc := cX1_isBelow) (maxL := 4) (ret := (some .boolean)) (by decide) rfl ?_
  intro p e s m args below meth c s₁ B hml hv
  obtain ⟨rfl, hP, hK⟩ := hv
  have hx := B.exec
  have hb := B.bytes
  have hr := B.returns
  have hts := atoms_spec (ws := wsX1_isBelow) B.pre
  have hown : s.vm.findClass RX1 = some m.cls := findClass_of_methodNamed B.named
  have hlocks := B.notSynchronized
  have hl := lv_entry ([.ref h, .int (nI g), .int (nI t)]) (n := 4) (Nat.le_of_ble_eq_true rfl)
  rw [lg_entry_eq]
  generalize (lg_sl ([.ref h, .int (nI g), .int (nI t)]) ++ List.replicate (4 - (lg_sl ([.ref h, .int (nI g), .int (nI t)])).length) Slot.unset).toArray = ls at hl ⊢
  have hl : lv_has ls 4 [(0, .ref h), (1, .int (nI g)), (2, .int (nI t))] := hl
  have hL := TI_le hti hg he
  refine lv_iload_n hx hb dX1_isBelow_0 rfl (lv_at hl 1 rfl) ?_
  refine lv_istore_n (lv' := [(3, .int (nI g)), (0, .ref h), (1, .int (nI g)), (2, .int (nI t))]) hx hb dX1_isBelow_1 rfl hl (by decide) rfl (fun ls hl => ?_)
  have loop2 : ∀ (n : Nat) (o2 : Option Nat) (f : Nat), (f + 1 ≤ n) → (lvZ lev o2 + 1 ≤ (f : Int)) → (wth ex pa t f o2 = wth ex pa t 3 (some g)) → (okO ex o2) → ∀ ls : Array Slot, lv_has ls 4 [(0, .ref h), (2, .int (nI t)), (3, .int (oI o2))] → W p l e ({ frames := 0, cells := 0, slots := 0, locals := 0 } : Room) s m ([.ref h, .int (nI g), .int (nI t)] : List Value).toArray below meth c s.heap [] 0 0 (MQ below (pQ (some (.int (bI (wth ex pa t 3 (some g)))))) ([.ref h, .int (nI g), .int (nI t)] : List Value).toArray s 0 0 nF) (F0 m 2 ls []) := by
    intro n
    induction n with
    | zero => intro o2 f hn hf hw hok2; omega
    | succ n ih =>
      intro o2 f hn hf hw hok2 ls hl
      refine lv_iload_n hx hb dX1_isBelow_2 rfl (lv_at hl 2 rfl) ?_
      cases o2 with
      | none =>
        refine lv_iconst (v := oI none) hx hb dX1_isBelow_3 (by decide) ?_
        refine q_icmpO_eq (a := none) (b := none) (tgt := 22) (fun k h9 => by cases h9) (fun k h9 => by cases h9) hx hb dX1_isBelow_4 (by decide) (fun k4 => ?_) (fun k4 => absurd rfl k4)
        refine lv_iload_n hx hb dX1_isBelow_22 rfl (lv_at hl 2 rfl) ?_
        refine lv_iload_n hx hb dX1_isBelow_23 rfl (lv_at hl 1 rfl) ?_
        refine q_top (y := oI (some t)) ((rfl : nI t = oI (some t))) ?_
        refine q_icmpO_ne (a := none) (b := some t) (tgt := 31) (fun k h9 => by cases h9) (fun k h9 => by cases h9; omega) hx hb dX1_isBelow_24 (by decide) (fun k24 => ?_) (fun k24 => (by cases k24))
        refine lv_iconst (v := nI 0) hx hb dX1_isBelow_31 (by decide) ?_
        exact q_retZ hx hb hr hlocks (retF (by rw [← hw, wth_none])) dX1_isBelow_32
      | some q =>
        obtain ⟨hq, hq2⟩ := hok2 q rfl
        have hA3 : lvZ lev (some q) = (lev q : Int) := rfl
        have hA4 := lvZ_pa hti hq hq2
        refine lv_iconst (v := oI none) hx hb dX1_isBelow_3 (by decide) ?_
        refine q_top2 (y := oI (some q)) ((rfl : nI q = oI (some q))) ?_
        refine q_icmpO_eq (a := some q) (b := none) (tgt := 22) (fun k h9 => by cases h9; omega) (fun k h9 => by cases h9) hx hb dX1_isBelow_4 (by decide) (fun k4 => (by cases k4)) (fun k4 => ?_)
        refine lv_iload_n hx hb dX1_isBelow_7 rfl (lv_at hl 2 rfl) ?_
        refine lv_iload_n hx hb dX1_isBelow_8 rfl (lv_at hl 1 rfl) ?_
        refine q_icmpN_eq (a := q) (b := t) (tgt := 22) (by omega) (by omega) hx hb dX1_isBelow_9 (by decide) (fun k9 => ?_) (fun k9 => ?_)
        · refine lv_iload_n hx hb dX1_isBelow_22 rfl (lv_at hl 2 rfl) ?_
          refine lv_iload_n hx hb dX1_isBelow_23 rfl (lv_at hl 1 rfl) ?_
          refine q_icmpN_ne (a := q) (b := t) (tgt := 31) (by omega) (by omega) hx hb dX1_isBelow_24 (by decide) (fun k24 => absurd k9 k24) (fun k24 => ?_)
          refine lv_iconst (v := nI 1) hx hb dX1_isBelow_27 (by decide) ?_
          refine lv_goto (tgt := 32) hx hb dX1_isBelow_28 (by decide) ?_
          exact q_retZ hx hb hr hlocks (retT (by rw [← hw, wth_some (show f = (f - 1) + 1 by omega), hq2, k9]; simp)) dX1_isBelow_32
        · refine lv_aload_n hx hb dX1_isBelow_12 rfl (lv_at hl 0 rfl) ?_
          refine va_get (D := D) (ci := 1) (v := .ref (ad 3)) (C := RX1) (T := TX1) (N := 18) hx hb hts (iX1_isBelow) hown hK hP 0 rfl rfl 3 (by decide) (hts (.fieldLink RX1 13 "ShopHubModel" "parent" "[I") (by decide +kernel)) (fun _ h9 => h9) rfl dX1_isBelow_13 ?_
          refine lv_iload_n hx hb dX1_isBelow_16 rfl (lv_at hl 2 rfl) ?_
          refine q_ald oI pa hx hb hK hP 2 1 rfl rfl (k := q) (by omega) (Nat.le_of_ble_eq_true rfl) dX1_isBelow_17 ?_
          refine lv_istore_n (lv' := [(3, .int (oI (pa q))), (0, .ref h), (2, .int (nI t))]) hx hb dX1_isBelow_18 rfl hl (by decide) rfl (fun ls hl => ?_)
          refine lv_goto (tgt := 2) hx hb dX1_isBelow_19 (by decide) ?_
          exact ih (pa q) (f - 1) (by omega) (by omega) (by rw [← hw, wth_some (show f = (f - 1) + 1 by omega), hq2]; simp [k9]) (TI_ok hti hq hq2) _ (lv_sub hl [1, 2, 0] rfl)
  exact loop2 4 (some g) 3 (Nat.le_refl 4) (by show ((lev g : Nat) : Int) + 1 ≤ 3; omega) rfl (fun k h9 => by cases h9; exact ⟨hg, he⟩) _ (lv_sub hl [1, 3, 0] rfl)

set_option maxHeartbeats 4000000 in
set_option maxRecDepth 100000 in
theorem kX1_holds (l : Launch) (D : va_G) (h : Nat) (ad : Nat → Nat) (cI cJ cZ : ClassId) (td : Nat) (gc : Nat) (ex : Nat → Bool) (pa : Nat → Option Nat) (di : Nat → Nat) (qu : Nat → Nat) (dc : Nat) (dg : Nat → Nat) (da : Nat → Nat) (dh : Nat → Option Nat) (dt : Nat → Option Nat) (dv : Nat → Option Nat) (dd : Nat → Nat) (ds : Nat → Nat) (ak : Nat → Bool) (se : Nat → Option Nat) (pr : Nat → Option Nat) (th : Nat) (g a : Nat) (x y : Option Nat) (hg : g < 16) (ha : a < 6) (hxr : ∀ k, x = some k → k < 3) (hyr : ∀ k, y = some k → k < 3) (hrd : RD dc dg da dh dt dd ds td) : Met l yX1_holds wsX1_holds ({ frames := 0, cells := 0, slots := 0, locals := 0 } : Room) (pP D (mW h ad cI cJ cZ td gc ex pa di qu dc dg da dh dt dv dd ds ak se pr th) (mT cI cJ cZ) [.ref h, .int (nI g), .int (nI a), .int (oI x), .int (oI y)]) (pQ (some (.int (oI (bst (rdf dg da dh dt ds dd td g a x y) dd dc))))) 0 0 nF := by
  refine Met.ofW (cc := cX1_holds) (maxL := 8) (ret := (some .int)) (by decide) rfl ?_
  intro p e s m args below meth c s₁ B hml hv
  obtain ⟨rfl, hP, hK⟩ := hv
  have hx := B.exec
  have hb := B.bytes
  have hr := B.returns
  have hts := atoms_spec (ws := wsX1_holds) B.pre
  have hown : s.vm.findClass RX1 = some m.cls := findClass_of_methodNamed B.named
  have hlocks := B.notSynchronized
  have hl := lv_entry ([.ref h, .int (nI g), .int (nI a), .int (oI x), .int (oI y)]) (n := 8) (Nat.le_of_ble_eq_true rfl)
  rw [lg_entry_eq]
  generalize (lg_sl ([.ref h, .int (nI g), .int (nI a), .int (oI x), .int (oI y)]) ++ List.replicate (8 - (lg_sl ([.ref h, .int (nI g), .int (nI a), .int (oI x), .int (oI y)])).length) Slot.unset).toArray = ls at hl ⊢
  have hl : lv_has ls 8 [(0, .ref h), (1, .int (nI g)), (2, .int (nI a)), (3, .int (oI x)), (4, .int (oI y))] := hl
  obtain ⟨hdc, htd, hdg, hda, hdh, hdt, hdd, hds⟩ := hrd
  refine lv_iconst (v := oI none) hx hb dX1_holds_0 (by decide) ?_
  refine lv_istore (lv' := [(5, .int (oI none)), (0, .ref h), (1, .int (nI g)), (2, .int (nI a)), (3, .int (oI x)), (4, .int (oI y))]) hx hb dX1_holds_1 hl (by decide) rfl (fun ls hl => ?_)
  refine lv_iconst (v := nI 0) hx hb dX1_holds_3 (by decide) ?_
  refine lv_istore (lv' := [(6, .int (nI 0)), (5, .int (oI none)), (0, .ref h), (1, .int (nI g)), (2, .int (nI a)), (3, .int (oI x)), (4, .int (oI y))]) hx hb dX1_holds_4 hl (by decide) rfl (fun ls hl => ?_)
  have loop6 : ∀ (n : Nat) (i : Nat) (b : Option Nat), (i ≤ dc) → (dc + 1 ≤ i + n) → (b = bst (rdf dg da dh dt ds dd td g a x y) dd i) → ∀ ls : Array Slot, lv_has ls 8 [(0, .ref h), (1, .int (nI g)), (2, .int (nI a)), (3, .int (oI x)), (4, .int (oI y)), (5, .int (oI b)), (6, .int (nI i))] → W p l e ({ frames := 0, cells := 0, slots := 0, locals := 0 } : Room) s m ([.ref h, .int (nI g), .int (nI a), .int (oI x), .int (oI y)] : List Value).toArray below meth c s.heap [] 0 0 (MQ below (pQ (some (.int (oI (bst (rdf dg da dh dt ds dd td g a x y) dd dc))))) ([.ref h, .int (nI g), .int (nI a), .int (oI x), .int (oI y)] : List Value).toArray s 0 0 nF) (F0 m 6 ls []) := by
    intro n
    induction n with
    | zero => intro i b hle hn hb1; omega
    | succ n ih =>
      intro i b hle hn hb1 ls hl
      have hB1 := hdg i
      have hB2 := hda i
      have hB3 := hds i
      have hB4 := hdd i
      refine lv_iload hx hb dX1_holds_6 (lv_at hl 6 rfl) ?_
      refine lv_aload_n hx hb dX1_holds_8 rfl (lv_at hl 0 rfl) ?_
      refine va_get (D := D) (ci := 1) (v := .int (nI dc)) (C := RX1) (T := TX1) (N := 18) hx hb hts (iX1_holds) hown hK hP 0 rfl rfl 6 (by decide) (hts (.fieldLink RX1 81 "ShopHubModel" "drafts" "I") (by decide +kernel)) (fun _ h9 => h9) rfl dX1_holds_9 ?_
      refine q_icmpN_ge (a := i) (b := dc) (tgt := 135) (by omega) (by omega) hx hb dX1_holds_12 (by decide) (fun k12 => ?_) (fun k12 => ?_)
      · refine lv_iload hx hb dX1_holds_135 (lv_at hl 5 rfl) ?_
        exact q_retI hx hb hr hlocks (by rw [hb1, show i = dc by omega]) dX1_holds_137
      · refine lv_aload_n hx hb dX1_holds_15 rfl (lv_at hl 0 rfl) ?_
        refine va_get (D := D) (ci := 1) (v := .ref (ad 7)) (C := RX1) (T := TX1) (N := 18) hx hb hts (iX1_holds) hown hK hP 0 rfl rfl 7 (by decide) (hts (.fieldLink RX1 23 "ShopHubModel" "good" "[I") (by decide +kernel)) (fun _ h9 => h9) rfl dX1_holds_16 ?_
        refine lv_iload hx hb dX1_holds_19 (lv_at hl 6 rfl) ?_
        refine q_ald nI dg hx hb hK hP 5 1 rfl rfl (k := i) (by omega) (Nat.le_of_ble_eq_true rfl) dX1_holds_21 ?_
        refine lv_iload_n hx hb dX1_holds_22 rfl (lv_at hl 1 rfl) ?_
        refine q_icmpN_ne (a := dg i) (b := g) (tgt := 89) (by omega) (by omega) hx hb dX1_holds_23 (by decide) (fun k23 => ?_) (fun k23 => ?_)
        · refine lv_iconst (v := nI 0) hx hb dX1_holds_89 (by decide) ?_
          refine q_top (y := bI false) ((by decide : nI 0 = bI false)) ?_
          refine lv_istore (lv' := [(7, .int (bI false)), (0, .ref h), (1, .int (nI g)), (2, .int (nI a)), (3, .int (oI x)), (4, .int (oI y)), (5, .int (oI b)), (6, .int (nI i))]) hx hb dX1_holds_90 hl (by decide) rfl (fun ls hl => ?_)
          refine lv_iload hx hb dX1_holds_92 (lv_at hl 0 rfl) ?_
          refine q_ifB_eq (b := false) (tgt := 125) hx hb dX1_holds_94 (by decide) (fun k94 => ?_) (fun k94 => absurd k94 (by decide))
          refine lv_iload hx hb dX1_holds_125 (lv_at hl 6 rfl) ?_
          refine lv_istore (lv' := [(5, .int (oI b)), (7, .int (bI false)), (0, .ref h), (1, .int (nI g)), (2, .int (nI a)), (3, .int (oI x)), (4, .int (oI y)), (6, .int (nI i))]) hx hb dX1_holds_127 hl (by decide) rfl (fun ls hl => ?_)
          refine lv_iinc (v := nI (i + 1)) (lv' := [(6, .int (nI (i + 1))), (5, .int (oI b)), (7, .int (bI false)), (0, .ref h), (1, .int (nI g)), (2, .int (nI a)), (3, .int (oI x)), (4, .int (oI y))]) hx hb dX1_holds_129 hl (k := 7) rfl (i1_n i) (by decide) rfl (fun ls hl => ?_)
          refine lv_goto (tgt := 6) hx hb dX1_holds_132 (by decide) ?_
          exact ih (i + 1) b (by omega) (by omega) (by rw [bst_skip (show rdf dg da dh dt ds dd td g a x y i = false by unfold rdf; simp [k23])]; exact hb1) _ (lv_sub hl [3, 4, 5, 6, 7, 1, 0] rfl)
        · refine lv_aload_n hx hb dX1_holds_26 rfl (lv_at hl 0 rfl) ?_
          refine va_get (D := D) (ci := 1) (v := .ref (ad 8)) (C := RX1) (T := TX1) (N := 18) hx hb hts (iX1_holds) hown hK hP 0 rfl rfl 8 (by decide) (hts (.fieldLink RX1 26 "ShopHubModel" "attribute" "[I") (by decide +kernel)) (fun _ h9 => h9) rfl dX1_holds_27 ?_
          refine lv_iload hx hb dX1_holds_30 (lv_at hl 6 rfl) ?_
          refine q_ald nI da hx hb hK hP 6 1 rfl rfl (k := i) (by omega) (Nat.le_of_ble_eq_true rfl) dX1_holds_32 ?_
          refine lv_iload_n hx hb dX1_holds_33 rfl (lv_at hl 2 rfl) ?_
          refine q_icmpN_ne (a := da i) (b := a) (tgt := 89) (by omega) (by omega) hx hb dX1_holds_34 (by decide) (fun k34 => ?_) (fun k34 => ?_)
          · refine lv_iconst (v := nI 0) hx hb dX1_holds_89 (by decide) ?_
            refine q_top (y := bI false) ((by decide : nI 0 = bI false)) ?_
            refine lv_istore (lv' := [(7, .int (bI false)), (0, .ref h), (1, .int (nI g)), (2, .int (nI a)), (3, .int (oI x)), (4, .int (oI y)), (5, .int (oI b)), (6, .int (nI i))]) hx hb dX1_holds_90 hl (by decide) rfl (fun ls hl => ?_)
            refine lv_iload hx hb dX1_holds_92 (lv_at hl 0 rfl) ?_
            refine q_ifB_eq (b := false) (tgt := 125) hx hb dX1_holds_94 (by decide) (fun k94 => ?_) (fun k94 => absurd k94 (by decide))
            refine lv_iload hx hb dX1_holds_125 (lv_at hl 6 rfl) ?_
            refine lv_istore (lv' := [(5, .int (oI b)), (7, .int (bI false)), (0, .ref h), (1, .int (nI g)), (2, .int (nI a)), (3, .int (oI x)), (4, .int (oI y)), (6, .int (nI i))]) hx hb dX1_holds_127 hl (by decide) rfl (fun ls hl => ?_)
            refine lv_iinc (v := nI (i + 1)) (lv' := [(6, .int (nI (i + 1))), (5, .int (oI b)), (7, .int (bI false)), (0, .ref h), (1, .int (nI g)), (2, .int (nI a)), (3, .int (oI x)), (4, .int (oI y))]) hx hb dX1_holds_129 hl (k := 7) rfl (i1_n i) (by decide) rfl (fun ls hl => ?_)
            refine lv_goto (tgt := 6) hx hb dX1_holds_132 (by decide) ?_
            exact ih (i + 1) b (by omega) (by omega) (by rw [bst_skip (show rdf dg da dh dt ds dd td g a x y i = false by unfold rdf; simp [k34])]; exact hb1) _ (lv_sub hl [3, 4, 5, 6, 7, 1, 0] rfl)
          · refine lv_aload_n hx hb dX1_holds_37 rfl (lv_at hl 0 rfl) ?_
            refine va_get (D := D) (ci := 1) (v := .ref (ad 9)) (C := RX1) (T := TX1) (N := 18) hx hb hts (iX1_holds) hown hK hP 0 rfl rfl 9 (by decide) (hts (.fieldLink RX1 29 "ShopHubModel" "shop" "[I") (by decide +kernel)) (fun _ h9 => h9) rfl dX1_holds_38 ?_
            refine lv_iload hx hb dX1_holds_41 (lv_at hl 6 rfl) ?_
            refine q_ald oI dh hx hb hK hP 7 1 rfl rfl (k := i) (by omega) (Nat.le_of_ble_eq_true rfl) dX1_holds_43 ?_
            refine lv_iload_n hx hb dX1_holds_44 rfl (lv_at hl 3 rfl) ?_
            refine q_icmpO_ne (a := dh i) (b := x) (tgt := 89) (fun k h9 => by have := hdh i (by omega) k h9; omega) (fun k h9 => by have := hxr k h9; omega) hx hb dX1_holds_45 (by decide) (fun k45 => ?_) (fun k45 => ?_)
            · refine lv_iconst (v := nI 0) hx hb dX1_holds_89 (by decide) ?_
              refine q_top (y := bI false) ((by decide : nI 0 = bI false)) ?_
              refine lv_istore (lv' := [(7, .int (bI false)), (0, .ref h), (1, .int (nI g)), (2, .int (nI a)), (3, .int (oI x)), (4, .int (oI y)), (5, .int (oI b)), (6, .int (nI i))]) hx hb dX1_holds_90 hl (by decide) rfl (fun ls hl => ?_)
              refine lv_iload hx hb dX1_holds_92 (lv_at hl 0 rfl) ?_
              refine q_ifB_eq (b := false) (tgt := 125) hx hb dX1_holds_94 (by decide) (fun k94 => ?_) (fun k94 => absurd k94 (by decide))
              refine lv_iload hx hb dX1_holds_125 (lv_at hl 6 rfl) ?_
              refine lv_istore (lv' := [(5, .int (oI b)), (7, .int (bI false)), (0, .ref h), (1, .int (nI g)), (2, .int (nI a)), (3, .int (oI x)), (4, .int (oI y)), (6, .int (nI i))]) hx hb dX1_holds_127 hl (by decide) rfl (fun ls hl => ?_)
              refine lv_iinc (v := nI (i + 1)) (lv' := [(6, .int (nI (i + 1))), (5, .int (oI b)), (7, .int (bI false)), (0, .ref h), (1, .int (nI g)), (2, .int (nI a)), (3, .int (oI x)), (4, .int (oI y))]) hx hb dX1_holds_129 hl (k := 7) rfl (i1_n i) (by decide) rfl (fun ls hl => ?_)
              refine lv_goto (tgt := 6) hx hb dX1_holds_132 (by decide) ?_
              exact ih (i + 1) b (by omega) (by omega) (by rw [bst_skip (show rdf dg da dh dt ds dd td g a x y i = false by unfold rdf; simp [k45])]; exact hb1) _ (lv_sub hl [3, 4, 5, 6, 7, 1, 0] rfl)
            · refine lv_aload_n hx hb dX1_holds_48 rfl (lv_at hl 0 rfl) ?_
              refine va_get (D := D) (ci := 1) (v := .ref (ad 10)) (C := RX1) (T := TX1) (N := 18) hx hb hts (iX1_holds) hown hK hP 0 rfl rfl 10 (by decide) (hts (.fieldLink RX1 32 "ShopHubModel" "tongue" "[I") (by decide +kernel)) (fun _ h9 => h9) rfl dX1_holds_49 ?_
              refine lv_iload hx hb dX1_holds_52 (lv_at hl 6 rfl) ?_
              refine q_ald oI dt hx hb hK hP 8 1 rfl rfl (k := i) (by omega) (Nat.le_of_ble_eq_true rfl) dX1_holds_54 ?_
              refine lv_iload hx hb dX1_holds_55 (lv_at hl 4 rfl) ?_
              refine q_icmpO_ne (a := dt i) (b := y) (tgt := 89) (fun k h9 => by have := hdt i (by omega) k h9; omega) (fun k h9 => by have := hyr k h9; omega) hx hb dX1_holds_57 (by decide) (fun k57 => ?_) (fun k57 => ?_)
              · refine lv_iconst (v := nI 0) hx hb dX1_holds_89 (by decide) ?_
                refine q_top (y := bI false) ((by decide : nI 0 = bI false)) ?_
                refine lv_istore (lv' := [(7, .int (bI false)), (0, .ref h), (1, .int (nI g)), (2, .int (nI a)), (3, .int (oI x)), (4, .int (oI y)), (5, .int (oI b)), (6, .int (nI i))]) hx hb dX1_holds_90 hl (by decide) rfl (fun ls hl => ?_)
                refine lv_iload hx hb dX1_holds_92 (lv_at hl 0 rfl) ?_
                refine q_ifB_eq (b := false) (tgt := 125) hx hb dX1_holds_94 (by decide) (fun k94 => ?_) (fun k94 => absurd k94 (by decide))
                refine lv_iload hx hb dX1_holds_125 (lv_at hl 6 rfl) ?_
                refine lv_istore (lv' := [(5, .int (oI b)), (7, .int (bI false)), (0, .ref h), (1, .int (nI g)), (2, .int (nI a)), (3, .int (oI x)), (4, .int (oI y)), (6, .int (nI i))]) hx hb dX1_holds_127 hl (by decide) rfl (fun ls hl => ?_)
                refine lv_iinc (v := nI (i + 1)) (lv' := [(6, .int (nI (i + 1))), (5, .int (oI b)), (7, .int (bI false)), (0, .ref h), (1, .int (nI g)), (2, .int (nI a)), (3, .int (oI x)), (4, .int (oI y))]) hx hb dX1_holds_129 hl (k := 7) rfl (i1_n i) (by decide) rfl (fun ls hl => ?_)
                refine lv_goto (tgt := 6) hx hb dX1_holds_132 (by decide) ?_
                exact ih (i + 1) b (by omega) (by omega) (by rw [bst_skip (show rdf dg da dh dt ds dd td g a x y i = false by unfold rdf; simp [k57])]; exact hb1) _ (lv_sub hl [3, 4, 5, 6, 7, 1, 0] rfl)
              · refine lv_aload_n hx hb dX1_holds_60 rfl (lv_at hl 0 rfl) ?_
                refine va_get (D := D) (ci := 1) (v := .ref (ad 13)) (C := RX1) (T := TX1) (N := 18) hx hb hts (iX1_holds) hown hK hP 0 rfl rfl 13 (by decide) (hts (.fieldLink RX1 41 "ShopHubModel" "state" "[I") (by decide +kernel)) (fun _ h9 => h9) rfl dX1_holds_61 ?_
                refine lv_iload hx hb dX1_holds_64 (lv_at hl 6 rfl) ?_
                refine q_ald nI ds hx hb hK hP 11 1 rfl rfl (k := i) (by omega) (Nat.le_of_ble_eq_true rfl) dX1_holds_66 ?_
                refine lv_iconst (v := nI 1) hx hb dX1_holds_67 (by decide) ?_
                refine q_icmpN_ne (a := ds i) (b := 1) (tgt := 89) (by omega) (by omega) hx hb dX1_holds_68 (by decide) (fun k68 => ?_) (fun k68 => ?_)
                · refine lv_iconst (v := nI 0) hx hb dX1_holds_89 (by decide) ?_
                  refine q_top (y := bI false) ((by decide : nI 0 = bI false)) ?_
                  refine lv_istore (lv' := [(7, .int (bI false)), (0, .ref h), (1, .int (nI g)), (2, .int (nI a)), (3, .int (oI x)), (4, .int (oI y)), (5, .int (oI b)), (6, .int (nI i))]) hx hb dX1_holds_90 hl (by decide) rfl (fun ls hl => ?_)
                  refine lv_iload hx hb dX1_holds_92 (lv_at hl 0 rfl) ?_
                  refine q_ifB_eq (b := false) (tgt := 125) hx hb dX1_holds_94 (by decide) (fun k94 => ?_) (fun k94 => absurd k94 (by decide))
                  refine lv_iload hx hb dX1_holds_125 (lv_at hl 6 rfl) ?_
                  refine lv_istore (lv' := [(5, .int (oI b)), (7, .int (bI false)), (0, .ref h), (1, .int (nI g)), (2, .int (nI a)), (3, .int (oI x)), (4, .int (oI y)), (6, .int (nI i))]) hx hb dX1_holds_127 hl (by decide) rfl (fun ls hl => ?_)
                  refine lv_iinc (v := nI (i + 1)) (lv' := [(6, .int (nI (i + 1))), (5, .int (oI b)), (7, .int (bI false)), (0, .ref h), (1, .int (nI g)), (2, .int (nI a)), (3, .int (oI x)), (4, .int (oI y))]) hx hb dX1_holds_129 hl (k := 7) rfl (i1_n i) (by decide) rfl (fun ls hl => ?_)
                  refine lv_goto (tgt := 6) hx hb dX1_holds_132 (by decide) ?_
                  exact ih (i + 1) b (by omega) (by omega) (by rw [bst_skip (show rdf dg da dh dt ds dd td g a x y i = false by unfold rdf; simp [k68])]; exact hb1) _ (lv_sub hl [3, 4, 5, 6, 7, 1, 0] rfl)
                · refine lv_aload_n hx hb dX1_holds_71 rfl (lv_at hl 0 rfl) ?_
                  refine va_get (D := D) (ci := 1) (v := .ref (ad 12)) (C := RX1) (T := TX1) (N := 18) hx hb hts (iX1_holds) hown hK hP 0 rfl rfl 12 (by decide) (hts (.fieldLink RX1 38 "ShopHubModel" "day" "[I") (by decide +kernel)) (fun _ h9 => h9) rfl dX1_holds_72 ?_
                  refine lv_iload hx hb dX1_holds_75 (lv_at hl 6 rfl) ?_
                  refine q_ald nI dd hx hb hK hP 10 1 rfl rfl (k := i) (by omega) (Nat.le_of_ble_eq_true rfl) dX1_holds_77 ?_
                  refine lv_aload_n hx hb dX1_holds_78 rfl (lv_at hl 0 rfl) ?_
                  refine va_get (D := D) (ci := 1) (v := .int (nI td)) (C := RX1) (T := TX1) (N := 18) hx hb hts (iX1_holds) hown hK hP 0 rfl rfl 0 (by decide) (hts (.fieldLink RX1 84 "ShopHubModel" "today" "I") (by decide +kernel)) (fun _ h9 => h9) rfl dX1_holds_79 ?_
                  refine q_icmpN_gt (a := dd i) (b := td) (tgt := 89) (by omega) (by omega) hx hb dX1_holds_82 (by decide) (fun k82 => ?_) (fun k82 => ?_)
                  · refine lv_iconst (v := nI 0) hx hb dX1_holds_89 (by decide) ?_
                    refine q_top (y := bI false) ((by decide : nI 0 = bI false)) ?_
                    refine lv_istore (lv' := [(7, .int (bI false)), (0, .ref h), (1, .int (nI g)), (2, .int (nI a)), (3, .int (oI x)), (4, .int (oI y)), (5, .int (oI b)), (6, .int (nI i))]) hx hb dX1_holds_90 hl (by decide) rfl (fun ls hl => ?_)
                    refine lv_iload hx hb dX1_holds_92 (lv_at hl 0 rfl) ?_
                    refine q_ifB_eq (b := false) (tgt := 125) hx hb dX1_holds_94 (by decide) (fun k94 => ?_) (fun k94 => absurd k94 (by decide))
                    refine lv_iload hx hb dX1_holds_125 (lv_at hl 6 rfl) ?_
                    refine lv_istore (lv' := [(5, .int (oI b)), (7, .int (bI false)), (0, .ref h), (1, .int (nI g)), (2, .int (nI a)), (3, .int (oI x)), (4, .int (oI y)), (6, .int (nI i))]) hx hb dX1_holds_127 hl (by decide) rfl (fun ls hl => ?_)
                    refine lv_iinc (v := nI (i + 1)) (lv' := [(6, .int (nI (i + 1))), (5, .int (oI b)), (7, .int (bI false)), (0, .ref h), (1, .int (nI g)), (2, .int (nI a)), (3, .int (oI x)), (4, .int (oI y))]) hx hb dX1_holds_129 hl (k := 7) rfl (i1_n i) (by decide) rfl (fun ls hl => ?_)
                    refine lv_goto (tgt := 6) hx hb dX1_holds_132 (by decide) ?_
                    exact ih (i + 1) b (by omega) (by omega) (by rw [bst_skip (show rdf dg da dh dt ds dd td g a x y i = false by unfold rdf; simp [Nat.not_le.mpr k82])]; exact hb1) _ (lv_sub hl [3, 4, 5, 6, 7, 1, 0] rfl)
                  · refine lv_iconst (v := nI 1) hx hb dX1_holds_85 (by decide) ?_
                    refine lv_goto (tgt := 90) hx hb dX1_holds_86 (by decide) ?_
                    refine q_top (y := bI true) ((by decide : nI 1 = bI true)) ?_
                    refine lv_istore (lv' := [(7, .int (bI true)), (0, .ref h), (1, .int (nI g)), (2, .int (nI a)), (3, .int (oI x)), (4, .int (oI y)), (5, .int (oI b)), (6, .int (nI i))]) hx hb dX1_holds_90 hl (by decide) rfl (fun ls hl => ?_)
                    refine lv_iload hx hb dX1_holds_92 (lv_at hl 0 rfl) ?_
                    refine q_ifB_eq (b := true) (tgt := 125) hx hb dX1_holds_94 (by decide) (fun k94 => absurd k94 (by decide)) (fun k94 => ?_)
                    cases b with
                    | none =>
                      refine lv_iload hx hb dX1_holds_97 (lv_at hl 6 rfl) ?_
                      refine lv_iconst (v := oI none) hx hb dX1_holds_99 (by decide) ?_
                      refine q_icmpO_eq (a := none) (b := none) (tgt := 120) (fun k h9 => by cases h9) (fun k h9 => by cases h9) hx hb dX1_holds_100 (by decide) (fun k100 => ?_) (fun k100 => absurd rfl k100)
                      refine lv_iload hx hb dX1_holds_120 (lv_at hl 7 rfl) ?_
                      refine lv_goto (tgt := 127) hx hb dX1_holds_122 (by decide) ?_
                      refine q_top (y := oI (some i)) ((rfl : nI i = oI (some i))) ?_
                      refine lv_istore (lv' := [(5, .int (oI (some i))), (7, .int (bI true)), (0, .ref h), (1, .int (nI g)), (2, .int (nI a)), (3, .int (oI x)), (4, .int (oI y)), (6, .int (nI i))]) hx hb dX1_holds_127 hl (by decide) rfl (fun ls hl => ?_)
                      refine lv_iinc (v := nI (i + 1)) (lv' := [(6, .int (nI (i + 1))), (5, .int (oI (some i))), (7, .int (bI true)), (0, .ref h), (1, .int (nI g)), (2, .int (nI a)), (3, .int (oI x)), (4, .int (oI y))]) hx hb dX1_holds_129 hl (k := 7) rfl (i1_n i) (by decide) rfl (fun ls hl => ?_)
                      refine lv_goto (tgt := 6) hx hb dX1_holds_132 (by decide) ?_
                      exact ih (i + 1) (some i) (by omega) (by omega) (by rw [bst_new (show rdf dg da dh dt ds dd td g a x y i = true by unfold rdf; simp [k23, k34, k45, k57, k68, k82]) (fun r h9 => by rw [← hb1] at h9; cases h9)]) _ (lv_sub hl [3, 4, 5, 6, 7, 1, 0] rfl)
                    | some r =>
                      have hr9 := (bst_in i r hb1.symm).1
                      have hB5 := hdd r (by omega)
                      refine lv_iload hx hb dX1_holds_97 (lv_at hl 6 rfl) ?_
                      refine lv_iconst (v := oI none) hx hb dX1_holds_99 (by decide) ?_
                      refine q_top2 (y := oI (some r)) ((rfl : nI r = oI (some r))) ?_
                      refine q_icmpO_eq (a := some r) (b := none) (tgt := 120) (fun k h9 => by cases h9; omega) (fun k h9 => by cases h9) hx hb dX1_holds_100 (by decide) (fun k100 => (by cases k100)) (fun k100 => ?_)
                      refine lv_aload_n hx hb dX1_holds_103 rfl (lv_at hl 1 rfl) ?_
                      refine va_get (D := D) (ci := 1) (v := .ref (ad 12)) (C := RX1) (T := TX1) (N := 18) hx hb hts (iX1_holds) hown hK hP 0 rfl rfl 12 (by decide) (hts (.fieldLink RX1 38 "ShopHubModel" "day" "[I") (by decide +kernel)) (fun _ h9 => h9) rfl dX1_holds_104 ?_
                      refine lv_iload hx hb dX1_holds_107 (lv_at hl 7 rfl) ?_
                      refine q_ald nI dd hx hb hK hP 10 1 rfl rfl (k := i) (by omega) (Nat.le_of_ble_eq_true rfl) dX1_holds_109 ?_
                      refine lv_aload_n hx hb dX1_holds_110 rfl (lv_at hl 1 rfl) ?_
                      refine va_get (D := D) (ci := 1) (v := .ref (ad 12)) (C := RX1) (T := TX1) (N := 18) hx hb hts (iX1_holds) hown hK hP 0 rfl rfl 12 (by decide) (hts (.fieldLink RX1 38 "ShopHubModel" "day" "[I") (by decide +kernel)) (fun _ h9 => h9) rfl dX1_holds_111 ?_
                      refine lv_iload hx hb dX1_holds_114 (lv_at hl 6 rfl) ?_
                      refine q_ald nI dd hx hb hK hP 10 1 rfl rfl (k := r) (by omega) (Nat.le_of_ble_eq_true rfl) dX1_holds_116 ?_
                      refine q_icmpN_lt (a := dd i) (b := dd r) (tgt := 125) (by omega) (by omega) hx hb dX1_holds_117 (by decide) (fun k117 => ?_) (fun k117 => ?_)
                      · refine lv_iload hx hb dX1_holds_125 (lv_at hl 6 rfl) ?_
                        refine q_top (y := oI (some r)) ((rfl : nI r = oI (some r))) ?_
                        refine lv_istore (lv' := [(5, .int (oI (some r))), (7, .int (bI true)), (0, .ref h), (1, .int (nI g)), (2, .int (nI a)), (3, .int (oI x)), (4, .int (oI y)), (6, .int (nI i))]) hx hb dX1_holds_127 hl (by decide) rfl (fun ls hl => ?_)
                        refine lv_iinc (v := nI (i + 1)) (lv' := [(6, .int (nI (i + 1))), (5, .int (oI (some r))), (7, .int (bI true)), (0, .ref h), (1, .int (nI g)), (2, .int (nI a)), (3, .int (oI x)), (4, .int (oI y))]) hx hb dX1_holds_129 hl (k := 7) rfl (i1_n i) (by decide) rfl (fun ls hl => ?_)
                        refine lv_goto (tgt := 6) hx hb dX1_holds_132 (by decide) ?_
                        exact ih (i + 1) (some r) (by omega) (by omega) (by rw [bst_keep hb1.symm k117]; exact hb1) _ (lv_sub hl [3, 4, 5, 6, 7, 1, 0] rfl)
                      · refine lv_iload hx hb dX1_holds_120 (lv_at hl 7 rfl) ?_
                        refine lv_goto (tgt := 127) hx hb dX1_holds_122 (by decide) ?_
                        refine q_top (y := oI (some i)) ((rfl : nI i = oI (some i))) ?_
                        refine lv_istore (lv' := [(5, .int (oI (some i))), (7, .int (bI true)), (0, .ref h), (1, .int (nI g)), (2, .int (nI a)), (3, .int (oI x)), (4, .int (oI y)), (6, .int (nI i))]) hx hb dX1_holds_127 hl (by decide) rfl (fun ls hl => ?_)
                        refine lv_iinc (v := nI (i + 1)) (lv' := [(6, .int (nI (i + 1))), (5, .int (oI (some i))), (7, .int (bI true)), (0, .ref h), (1, .int (nI g)), (2, .int (nI a)), (3, .int (oI x)), (4, .int (oI y))]) hx hb dX1_holds_129 hl (k := 7) rfl (i1_n i) (by decide) rfl (fun ls hl => ?_)
                        refine lv_goto (tgt := 6) hx hb dX1_holds_132 (by decide) ?_
                        exact ih (i + 1) (some i) (by omega) (by omega) (by rw [bst_new (show rdf dg da dh dt ds dd td g a x y i = true by unfold rdf; simp [k23, k34, k45, k57, k68, k82]) (fun r9 h9 => by rw [← hb1] at h9; cases h9; exact k117)]) _ (lv_sub hl [3, 4, 5, 6, 7, 1, 0] rfl)
  exact loop6 (dc + 1) 0 none (by omega) (by omega) rfl _ (lv_sub hl [2, 3, 4, 5, 6, 1, 0] rfl)

set_option maxHeartbeats 4000000 in
set_option maxRecDepth 100000 in
theorem kX1_isHolding (l : Launch) (D : va_G) (h : Nat) (ad : Nat → Nat) (cI cJ cZ : ClassId) (td : Nat) (gc : Nat) (ex : Nat → Bool) (pa : Nat → Option Nat) (di : Nat → Nat) (qu : Nat → Nat) (dc : Nat) (dg : Nat → Nat) (da : Nat → Nat) (dh : Nat → Option Nat) (dt : Nat → Option Nat) (dv : Nat → Option Nat) (dd : Nat → Nat) (ds : Nat → Nat) (ak : Nat → Bool) (se : Nat → Option Nat) (pr : Nat → Option Nat) (th : Nat) (d : Nat) (hd : d < dc) (hrd : RD dc dg da dh dt dd ds td) : Met l yX1_isHolding wsX1_isHolding ({ frames := 1, cells := 0, slots := 0, locals := 27 } : Room) (pP D (mW h ad cI cJ cZ td gc ex pa di qu dc dg da dh dt dv dd ds ak se pr th) (mT cI cJ cZ) [.ref h, .int (nI d)]) (pQ (some (.int (bI (decide (bst (rdf dg da dh dt ds dd td (dg d) (da d) (dh d) (dt d)) dd dc = some d)))))) 0 0 nF := by
  refine Met.ofW (cc := cX1_isHolding) (maxL := 2) (ret := (some .boolean)) (by decide) rfl ?_
  intro p e s m args below meth c s₁ B hml hv
  obtain ⟨rfl, hP, hK⟩ := hv
  have hx := B.exec
  have hb := B.bytes
  have hr := B.returns
  have hts := atoms_spec (ws := wsX1_isHolding) B.pre
  have hown : s.vm.findClass RX1 = some m.cls := findClass_of_methodNamed B.named
  have hlocks := B.notSynchronized
  have hl := lv_entry ([.ref h, .int (nI d)]) (n := 2) (Nat.le_of_ble_eq_true rfl)
  rw [lg_entry_eq]
  generalize (lg_sl ([.ref h, .int (nI d)]) ++ List.replicate (2 - (lg_sl ([.ref h, .int (nI d)])).length) Slot.unset).toArray = ls at hl ⊢
  have hl : lv_has ls 2 [(0, .ref h), (1, .int (nI d))] := hl
  have hrd0 := hrd
  obtain ⟨hdc, htd, hdg, hda, hdh, hdt, hdd, hds⟩ := hrd
  refine lv_aload_n hx hb dX1_isHolding_0 rfl (lv_at hl 0 rfl) ?_
  refine lv_aload_n hx hb dX1_isHolding_1 rfl (lv_at hl 0 rfl) ?_
  refine va_get (D := D) (ci := 1) (v := .ref (ad 7)) (C := RX1) (T := TX1) (N := 18) hx hb hts (iX1_isHolding) hown hK hP 0 rfl rfl 7 (by decide) (hts (.fieldLink RX1 23 "ShopHubModel" "good" "[I") (by decide +kernel)) (fun _ h9 => h9) rfl dX1_isHolding_2 ?_
  refine lv_iload_n hx hb dX1_isHolding_5 rfl (lv_at hl 1 rfl) ?_
  refine q_ald nI dg hx hb hK hP 5 1 rfl rfl (k := d) (by omega) (Nat.le_of_ble_eq_true rfl) dX1_isHolding_6 ?_
  refine lv_aload_n hx hb dX1_isHolding_7 rfl (lv_at hl 0 rfl) ?_
  refine va_get (D := D) (ci := 1) (v := .ref (ad 8)) (C := RX1) (T := TX1) (N := 18) hx hb hts (iX1_isHolding) hown hK hP 0 rfl rfl 8 (by decide) (hts (.fieldLink RX1 26 "ShopHubModel" "attribute" "[I") (by decide +kernel)) (fun _ h9 => h9) rfl dX1_isHolding_8 ?_
  refine lv_iload_n hx hb dX1_isHolding_11 rfl (lv_at hl 1 rfl) ?_
  refine q_ald nI da hx hb hK hP 6 1 rfl rfl (k := d) (by omega) (Nat.le_of_ble_eq_true rfl) dX1_isHolding_12 ?_
  refine lv_aload_n hx hb dX1_isHolding_13 rfl (lv_at hl 0 rfl) ?_
  refine va_get (D := D) (ci := 1) (v := .ref (ad 9)) (C := RX1) (T := TX1) (N := 18) hx hb hts (iX1_isHolding) hown hK hP 0 rfl rfl 9 (by decide) (hts (.fieldLink RX1 29 "ShopHubModel" "shop" "[I") (by decide +kernel)) (fun _ h9 => h9) rfl dX1_isHolding_14 ?_
  refine lv_iload_n hx hb dX1_isHolding_17 rfl (lv_at hl 1 rfl) ?_
  refine q_ald oI dh hx hb hK hP 7 1 rfl rfl (k := d) (by omega) (Nat.le_of_ble_eq_true rfl) dX1_isHolding_18 ?_
  refine lv_aload_n hx hb dX1_isHolding_19 rfl (lv_at hl 0 rfl) ?_
  refine va_get (D := D) (ci := 1) (v := .ref (ad 10)) (C := RX1) (T := TX1) (N := 18) hx hb hts (iX1_isHolding) hown hK hP 0 rfl rfl 10 (by decide) (hts (.fieldLink RX1 32 "ShopHubModel" "tongue" "[I") (by decide +kernel)) (fun _ h9 => h9) rfl dX1_isHolding_20 ?_
  refine lv_iload_n hx hb dX1_isHolding_23 rfl (lv_at hl 1 rfl) ?_
  refine q_ald oI dt hx hb hK hP 8 1 rfl rfl (k := d) (by omega) (Nat.le_of_ble_eq_true rfl) dX1_isHolding_24 ?_
  refine q_callI (r := oI (bst (rdf dg da dh dt ds dd td (dg d) (da d) (dh d) (dt d)) dd dc)) (va_runV (As := [.int (nI (dg d)), .int (nI (da d)), .int (oI (dh d)), .int (oI (dt d))]) (rest := []) ⟨hx, hb, hml, hown, hts⟩ (kX1_holds l D h ad cI cJ cZ td gc ex pa di qu dc dg da dh dt dv dd ds ak se pr th (dg d) (da d) (dh d) (dt d) (hdg d hd) (hda d hd) (hdh d hd) (hdt d hd) hrd0) (cwV 4 hts gX1_isHolding_X1_holds rfl rfl rfl (by decide +kernel) ⟨Nat.le_of_ble_eq_true rfl, Nat.le_of_ble_eq_true rfl⟩) ⟨pP_blind, va_recv hK hP (ci := 1) (q0 := 0) rfl rfl, pP_pre hP hK⟩ rfl rfl hl.1 rfl (lv_room (Nat.le_of_ble_eq_true rfl)) dX1_isHolding_25 ⟨Nat.zero_le _, Nat.zero_le _⟩) ?_
  refine lv_iload_n hx hb dX1_isHolding_28 rfl (lv_at hl 1 rfl) ?_
  refine q_top (y := oI (some d)) ((rfl : nI d = oI (some d))) ?_
  refine q_icmpO_ne (a := bst (rdf dg da dh dt ds dd td (dg d) (da d) (dh d) (dt d)) dd dc) (b := some d) (tgt := 36) (fun k h9 => by have := (bst_in dc k h9).1; omega) (fun k h9 => by cases h9; omega) hx hb dX1_isHolding_29 (by decide) (fun k29 => ?_) (fun k29 => ?_)
  · refine lv_iconst (v := nI 0) hx hb dX1_isHolding_36 (by decide) ?_
    exact q_retZ hx hb hr hlocks (by first | exact retF (decide_eq_false k29) | exact retT (decide_eq_true k29)) dX1_isHolding_37
  · refine lv_iconst (v := nI 1) hx hb dX1_isHolding_32 (by decide) ?_
    refine lv_goto (tgt := 37) hx hb dX1_isHolding_33 (by decide) ?_
    exact q_retZ hx hb hr hlocks (by first | exact retF (decide_eq_false k29) | exact retT (decide_eq_true k29)) dX1_isHolding_37

set_option maxHeartbeats 4000000 in
set_option maxRecDepth 100000 in
theorem kX1_originOf (l : Launch) (D : va_G) (h : Nat) (ad : Nat → Nat) (cI cJ cZ : ClassId) (td : Nat) (gc : Nat) (ex : Nat → Bool) (pa : Nat → Option Nat) (di : Nat → Nat) (qu : Nat → Nat) (dc : Nat) (dg : Nat → Nat) (da : Nat → Nat) (dh : Nat → Option Nat) (dt : Nat → Option Nat) (dv : Nat → Option Nat) (dd : Nat → Nat) (ds : Nat → Nat) (ak : Nat → Bool) (se : Nat → Option Nat) (pr : Nat → Option Nat) (th : Nat) (ho : Nat → Option Nat) (lev : Nat → Nat) (g a sp tp : Nat) (hti : TI ex pa lev) (hg : g < 16) (he : ex g = true) (ha : a < 6) (hs : sp < 3) (ht : tp < 3) (hrd : RD dc dg da dh dt dd ds td) (hrh : RH ex ho dc dg da dh dt dd ds td) : Met l yX1_originOf wsX1_originOf ({ frames := 1, cells := 0, slots := 0, locals := 27 } : Room) (pP D (mW h ad cI cJ cZ td gc ex pa di qu dc dg da dh dt dv dd ds ak se pr th) (mT cI cJ cZ) [.ref h, .int (nI g), .int (nI a), .int (nI sp), .int (nI tp)]) (pQ (some (.int (oI (org ex pa ho a (sp + 1) (tp + 1) 3 (some g)))))) 0 0 nF := by
  refine Met.ofW (cc := cX1_originOf) (maxL := 8) (ret := (some .int)) (by decide) rfl ?_
  intro p e s m args below meth c s₁ B hml hv
  obtain ⟨rfl, hP, hK⟩ := hv
  have hx := B.exec
  have hb := B.bytes
  have hr := B.returns
  have hts := atoms_spec (ws := wsX1_originOf) B.pre
  have hown : s.vm.findClass RX1 = some m.cls := findClass_of_methodNamed B.named
  have hlocks := B.notSynchronized
  have hl := lv_entry ([.ref h, .int (nI g), .int (nI a), .int (nI sp), .int (nI tp)]) (n := 8) (Nat.le_of_ble_eq_true rfl)
  rw [lg_entry_eq]
  generalize (lg_sl ([.ref h, .int (nI g), .int (nI a), .int (nI sp), .int (nI tp)]) ++ List.replicate (8 - (lg_sl ([.ref h, .int (nI g), .int (nI a), .int (nI sp), .int (nI tp)])).length) Slot.unset).toArray = ls at hl ⊢
  have hl : lv_has ls 8 [(0, .ref h), (1, .int (nI g)), (2, .int (nI a)), (3, .int (nI sp)), (4, .int (nI tp))] := hl
  have hL := TI_le hti hg he
  have hrd0 := hrd
  obtain ⟨hdc, htd, hdg, hda, hdh, hdt, hdd, hds⟩ := hrd
  refine lv_iload_n hx hb dX1_originOf_0 rfl (lv_at hl 1 rfl) ?_
  refine lv_istore (lv' := [(5, .int (nI g)), (0, .ref h), (1, .int (nI g)), (2, .int (nI a)), (3, .int (nI sp)), (4, .int (nI tp))]) hx hb dX1_originOf_1 hl (by decide) rfl (fun ls hl => ?_)
  have loop3 : ∀ (n : Nat) (o2 : Option Nat) (f : Nat), (f + 1 ≤ n) → (lvZ lev o2 + 1 ≤ (f : Int)) → (org ex pa ho a (sp + 1) (tp + 1) f o2 = org ex pa ho a (sp + 1) (tp + 1) 3 (some g)) → (okO ex o2) → ∀ ls : Array Slot, lv_has ls 8 [(0, .ref h), (1, .int (nI g)), (2, .int (nI a)), (3, .int (nI sp)), (4, .int (nI tp)), (5, .int (oI o2))] → W p l e ({ frames := 1, cells := 0, slots := 0, locals := 27 } : Room) s m ([.ref h, .int (nI g), .int (nI a), .int (nI sp), .int (nI tp)] : List Value).toArray below meth c s.heap [] 0 0 (MQ below (pQ (some (.int (oI (org ex pa ho a (sp + 1) (tp + 1) 3 (some g)))))) ([.ref h, .int (nI g), .int (nI a), .int (nI sp), .int (nI tp)] : List Value).toArray s 0 0 nF) (F0 m 3 ls []) := by
    intro n
    induction n with
    | zero => intro o2 f hn hf hw hok2; omega
    | succ n ih =>
      intro o2 f hn hf hw hok2 ls hl
      refine lv_iload hx hb dX1_originOf_3 (lv_at hl 5 rfl) ?_
      cases o2 with
      | none =>
        refine lv_iconst (v := oI none) hx hb dX1_originOf_5 (by decide) ?_
        refine q_icmpO_eq (a := none) (b := none) (tgt := 78) (fun k h9 => by cases h9) (fun k h9 => by cases h9) hx hb dX1_originOf_6 (by decide) (fun k6 => ?_) (fun k6 => absurd rfl k6)
        refine lv_iconst (v := oI none) hx hb dX1_originOf_78 (by decide) ?_
        exact q_retI hx hb hr hlocks (by rw [← hw, org_none]) dX1_originOf_79
      | some q =>
        obtain ⟨hq, hq2⟩ := hok2 q rfl
        have hA3 : lvZ lev (some q) = (lev q : Int) := rfl
        have hA4 := lvZ_pa hti hq hq2
        refine lv_iconst (v := oI none) hx hb dX1_originOf_5 (by decide) ?_
        refine q_top2 (y := oI (some q)) ((rfl : nI q = oI (some q))) ?_
        refine q_icmpO_eq (a := some q) (b := none) (tgt := 78) (fun k h9 => by cases h9; omega) (fun k h9 => by cases h9) hx hb dX1_originOf_6 (by decide) (fun k6 => (by cases k6)) (fun k6 => ?_)
        refine lv_iconst (v := nI 0) hx hb dX1_originOf_9 (by decide) ?_
        refine lv_istore (lv' := [(6, .int (nI 0)), (0, .ref h), (1, .int (nI g)), (2, .int (nI a)), (3, .int (nI sp)), (4, .int (nI tp)), (5, .int (nI q))]) hx hb dX1_originOf_10 hl (by decide) rfl (fun ls hl => ?_)
        refine lv_iload hx hb dX1_originOf_12 (lv_at hl 0 rfl) ?_
        refine lv_iconst (v := nI 4) hx hb dX1_originOf_14 (by decide) ?_
        refine q_icmpN_ge (a := 0) (b := 4) (tgt := 66) (by omega) (by omega) hx hb dX1_originOf_15 (by decide) (fun k15 => absurd k15 (by omega)) (fun k15 => ?_)
        refine lv_aload_n hx hb dX1_originOf_18 rfl (lv_at hl 1 rfl) ?_
        refine lv_iload hx hb dX1_originOf_19 (lv_at hl 6 rfl) ?_
        refine lv_iload_n hx hb dX1_originOf_21 rfl (lv_at hl 3 rfl) ?_
        refine lv_iload hx hb dX1_originOf_22 (lv_at hl 0 rfl) ?_
        refine lv_iconst (v := nI 2) hx hb dX1_originOf_24 (by decide) ?_
        refine q_icmpN_ge (a := 0) (b := 2) (tgt := 32) (by omega) (by omega) hx hb dX1_originOf_25 (by decide) (fun k25 => absurd k25 (by omega)) (fun k25 => ?_)
        refine lv_iload_n hx hb dX1_originOf_28 rfl (lv_at hl 4 rfl) ?_
        refine lv_goto (tgt := 33) hx hb dX1_originOf_29 (by decide) ?_
        refine lv_iload hx hb dX1_originOf_33 (lv_at hl 0 rfl) ?_
        refine lv_iconst (v := nI 2) hx hb dX1_originOf_35 (by decide) ?_
        refine q_remN (a := 0) (b := 2) (by omega) (by decide) (by decide) hx hb dX1_originOf_36 ?_
        refine q_ifN_ne (a := 0 % 2) (tgt := 45) (by omega) hx hb dX1_originOf_37 (by decide) (fun k37 => absurd k37 (by omega)) (fun k37 => ?_)
        refine lv_iload hx hb dX1_originOf_40 (lv_at hl 5 rfl) ?_
        refine lv_goto (tgt := 46) hx hb dX1_originOf_42 (by decide) ?_
        refine q_callI (r := oI (bst (rdf dg da dh dt ds dd td q a (some sp) (some tp)) dd dc)) (va_runV (As := [.int (nI q), .int (nI a), .int (nI sp), .int (nI tp)]) (rest := []) ⟨hx, hb, hml, hown, hts⟩ (kX1_holds l D h ad cI cJ cZ td gc ex pa di qu dc dg da dh dt dv dd ds ak se pr th q a (some sp) (some tp) hq ha (fun k h9 => by cases h9; exact hs) (fun k h9 => by cases h9; exact ht) hrd0) (cwV 4 hts gX1_originOf_X1_holds rfl rfl rfl (by decide +kernel) ⟨Nat.le_of_ble_eq_true rfl, Nat.le_of_ble_eq_true rfl⟩) ⟨pP_blind, va_recv hK hP (ci := 1) (q0 := 0) rfl rfl, pP_pre hP hK⟩ rfl rfl hl.1 rfl (lv_room (Nat.le_of_ble_eq_true rfl)) dX1_originOf_46 ⟨Nat.zero_le _, Nat.zero_le _⟩) ?_
        refine q_top (y := oI (ho (plc q a (sp + 1) (tp + 1)))) (by rw [hrh q a (some sp) (some tp) hq hq2 ha (fun k h9 => by cases h9; exact hs) (fun k h9 => by cases h9; exact ht)]; rfl) ?_
        refine lv_istore (lv' := [(7, .int (oI (ho (plc q a (sp + 1) (tp + 1))))), (6, .int (nI 0)), (0, .ref h), (1, .int (nI g)), (2, .int (nI a)), (3, .int (nI sp)), (4, .int (nI tp)), (5, .int (nI q))]) hx hb dX1_originOf_49 hl (by decide) rfl (fun ls hl => ?_)
        refine lv_iload hx hb dX1_originOf_51 (lv_at hl 0 rfl) ?_
        refine lv_iconst (v := oI none) hx hb dX1_originOf_53 (by decide) ?_
        refine q_icmpO_eq (a := ho (plc q a (sp + 1) (tp + 1))) (b := none) (tgt := 60) (fun k h9 => by have h8 := hrh q a (some sp) (some tp) hq hq2 ha (fun k h9 => by cases h9; exact hs) (fun k h9 => by cases h9; exact ht); have := (bst_in dc k (h8.trans h9)).1; omega) (fun k h9 => by cases h9) hx hb dX1_originOf_54 (by decide) (fun n0 => ?_) (fun n0 => ?_)
        · refine lv_iinc (v := nI 1) (lv' := [(6, .int (nI 1)), (7, .int (oI (ho (plc q a (sp + 1) (tp + 1))))), (0, .ref h), (1, .int (nI g)), (2, .int (nI a)), (3, .int (nI sp)), (4, .int (nI tp)), (5, .int (nI q))]) hx hb dX1_originOf_60 hl (k := 1) rfl ((by decide)) (by decide) rfl (fun ls hl => ?_)
          refine lv_goto (tgt := 12) hx hb dX1_originOf_63 (by decide) ?_
          refine lv_iload hx hb dX1_originOf_12 (lv_at hl 0 rfl) ?_
          refine lv_iconst (v := nI 4) hx hb dX1_originOf_14 (by decide) ?_
          refine q_icmpN_ge (a := 1) (b := 4) (tgt := 66) (by omega) (by omega) hx hb dX1_originOf_15 (by decide) (fun k15 => absurd k15 (by omega)) (fun k15 => ?_)
          refine lv_aload_n hx hb dX1_originOf_18 rfl (lv_at hl 2 rfl) ?_
          refine lv_iload hx hb dX1_originOf_19 (lv_at hl 7 rfl) ?_
          refine lv_iload_n hx hb dX1_originOf_21 rfl (lv_at hl 4 rfl) ?_
          refine lv_iload hx hb dX1_originOf_22 (lv_at hl 0 rfl) ?_
          refine lv_iconst (v := nI 2) hx hb dX1_originOf_24 (by decide) ?_
          refine q_icmpN_ge (a := 1) (b := 2) (tgt := 32) (by omega) (by omega) hx hb dX1_originOf_25 (by decide) (fun k25 => absurd k25 (by omega)) (fun k25 => ?_)
          refine lv_iload_n hx hb dX1_originOf_28 rfl (lv_at hl 5 rfl) ?_
          refine lv_goto (tgt := 33) hx hb dX1_originOf_29 (by decide) ?_
          refine lv_iload hx hb dX1_originOf_33 (lv_at hl 0 rfl) ?_
          refine lv_iconst (v := nI 2) hx hb dX1_originOf_35 (by decide) ?_
          refine q_remN (a := 1) (b := 2) (by omega) (by decide) (by decide) hx hb dX1_originOf_36 ?_
          refine q_ifN_ne (a := 1 % 2) (tgt := 45) (by omega) hx hb dX1_originOf_37 (by decide) (fun k37 => ?_) (fun k37 => absurd k37 (by omega))
          refine lv_iconst (v := oI none) hx hb dX1_originOf_45 (by decide) ?_
          refine q_callI (r := oI (bst (rdf dg da dh dt ds dd td q a (some sp) none) dd dc)) (va_runV (As := [.int (nI q), .int (nI a), .int (nI sp), .int (oI none)]) (rest := []) ⟨hx, hb, hml, hown, hts⟩ (kX1_holds l D h ad cI cJ cZ td gc ex pa di qu dc dg da dh dt dv dd ds ak se pr th q a (some sp) none hq ha (fun k h9 => by cases h9; exact hs) (fun k h9 => by cases h9) hrd0) (cwV 4 hts gX1_originOf_X1_holds rfl rfl rfl (by decide +kernel) ⟨Nat.le_of_ble_eq_true rfl, Nat.le_of_ble_eq_true rfl⟩) ⟨pP_blind, va_recv hK hP (ci := 1) (q0 := 0) rfl rfl, pP_pre hP hK⟩ rfl rfl hl.1 rfl (lv_room (Nat.le_of_ble_eq_true rfl)) dX1_originOf_46 ⟨Nat.zero_le _, Nat.zero_le _⟩) ?_
          refine q_top (y := oI (ho (plc q a (sp + 1) 0))) (by rw [hrh q a (some sp) (none) hq hq2 ha (fun k h9 => by cases h9; exact hs) (fun k h9 => by cases h9)]; rfl) ?_
          refine lv_istore (lv' := [(7, .int (oI (ho (plc q a (sp + 1) 0)))), (6, .int (nI 1)), (0, .ref h), (1, .int (nI g)), (2, .int (nI a)), (3, .int (nI sp)), (4, .int (nI tp)), (5, .int (nI q))]) hx hb dX1_originOf_49 hl (by decide) rfl (fun ls hl => ?_)
          refine lv_iload hx hb dX1_originOf_51 (lv_at hl 0 rfl) ?_
          refine lv_iconst (v := oI none) hx hb dX1_originOf_53 (by decide) ?_
          refine q_icmpO_eq (a := ho (plc q a (sp + 1) 0)) (b := none) (tgt := 60) (fun k h9 => by have h8 := hrh q a (some sp) (none) hq hq2 ha (fun k h9 => by cases h9; exact hs) (fun k h9 => by cases h9); have := (bst_in dc k (h8.trans h9)).1; omega) (fun k h9 => by cases h9) hx hb dX1_originOf_54 (by decide) (fun n1 => ?_) (fun n1 => ?_)
          · refine lv_iinc (v := nI 2) (lv' := [(6, .int (nI 2)), (7, .int (oI (ho (plc q a (sp + 1) 0)))), (0, .ref h), (1, .int (nI g)), (2, .int (nI a)), (3, .int (nI sp)), (4, .int (nI tp)), (5, .int (nI q))]) hx hb dX1_originOf_60 hl (k := 1) rfl ((by decide)) (by decide) rfl (fun ls hl => ?_)
            refine lv_goto (tgt := 12) hx hb dX1_originOf_63 (by decide) ?_
            refine lv_iload hx hb dX1_originOf_12 (lv_at hl 0 rfl) ?_
            refine lv_iconst (v := nI 4) hx hb dX1_originOf_14 (by decide) ?_
            refine q_icmpN_ge (a := 2) (b := 4) (tgt := 66) (by omega) (by omega) hx hb dX1_originOf_15 (by decide) (fun k15 => absurd k15 (by omega)) (fun k15 => ?_)
            refine lv_aload_n hx hb dX1_originOf_18 rfl (lv_at hl 2 rfl) ?_
            refine lv_iload hx hb dX1_originOf_19 (lv_at hl 7 rfl) ?_
            refine lv_iload_n hx hb dX1_originOf_21 rfl (lv_at hl 4 rfl) ?_
            refine lv_iload hx hb dX1_originOf_22 (lv_at hl 0 rfl) ?_
            refine lv_iconst (v := nI 2) hx hb dX1_originOf_24 (by decide) ?_
            refine q_icmpN_ge (a := 2) (b := 2) (tgt := 32) (by omega) (by omega) hx hb dX1_originOf_25 (by decide) (fun k25 => ?_) (fun k25 => absurd k25 (by omega))
            refine lv_iconst (v := oI none) hx hb dX1_originOf_32 (by decide) ?_
            refine lv_iload hx hb dX1_originOf_33 (lv_at hl 0 rfl) ?_
            refine lv_iconst (v := nI 2) hx hb dX1_originOf_35 (by decide) ?_
            refine q_remN (a := 2) (b := 2) (by omega) (by decide) (by decide) hx hb dX1_originOf_36 ?_
            refine q_ifN_ne (a := 2 % 2) (tgt := 45) (by omega) hx hb dX1_originOf_37 (by decide) (fun k37 => absurd k37 (by omega)) (fun k37 => ?_)
            refine lv_iload hx hb dX1_originOf_40 (lv_at hl 6 rfl) ?_
            refine lv_goto (tgt := 46) hx hb dX1_originOf_42 (by decide) ?_
            refine q_callI (r := oI (bst (rdf dg da dh dt ds dd td q a none (some tp)) dd dc)) (va_runV (As := [.int (nI q), .int (nI a), .int (oI none), .int (nI tp)]) (rest := []) ⟨hx, hb, hml, hown, hts⟩ (kX1_holds l D h ad cI cJ cZ td gc ex pa di qu dc dg da dh dt dv dd ds ak se pr th q a none (some tp) hq ha (fun k h9 => by cases h9) (fun k h9 => by cases h9; exact ht) hrd0) (cwV 4 hts gX1_originOf_X1_holds rfl rfl rfl (by decide +kernel) ⟨Nat.le_of_ble_eq_true rfl, Nat.le_of_ble_eq_true rfl⟩) ⟨pP_blind, va_recv hK hP (ci := 1) (q0 := 0) rfl rfl, pP_pre hP hK⟩ rfl rfl hl.1 rfl (lv_room (Nat.le_of_ble_eq_true rfl)) dX1_originOf_46 ⟨Nat.zero_le _, Nat.zero_le _⟩) ?_
            refine q_top (y := oI (ho (plc q a 0 (tp + 1)))) (by rw [hrh q a (none) (some tp) hq hq2 ha (fun k h9 => by cases h9) (fun k h9 => by cases h9; exact ht)]; rfl) ?_
            refine lv_istore (lv' := [(7, .int (oI (ho (plc q a 0 (tp + 1))))), (6, .int (nI 2)), (0, .ref h), (1, .int (nI g)), (2, .int (nI a)), (3, .int (nI sp)), (4, .int (nI tp)), (5, .int (nI q))]) hx hb dX1_originOf_49 hl (by decide) rfl (fun ls hl => ?_)
            refine lv_iload hx hb dX1_originOf_51 (lv_at hl 0 rfl) ?_
            refine lv_iconst (v := oI none) hx hb dX1_originOf_53 (by decide) ?_
            refine q_icmpO_eq (a := ho (plc q a 0 (tp + 1))) (b := none) (tgt := 60) (fun k h9 => by have h8 := hrh q a (none) (some tp) hq hq2 ha (fun k h9 => by cases h9) (fun k h9 => by cases h9; exact ht); have := (bst_in dc k (h8.trans h9)).1; omega) (fun k h9 => by cases h9) hx hb dX1_originOf_54 (by decide) (fun n2 => ?_) (fun n2 => ?_)
            · refine lv_iinc (v := nI 3) (lv' := [(6, .int (nI 3)), (7, .int (oI (ho (plc q a 0 (tp + 1))))), (0, .ref h), (1, .int (nI g)), (2, .int (nI a)), (3, .int (nI sp)), (4, .int (nI tp)), (5, .int (nI q))]) hx hb dX1_originOf_60 hl (k := 1) rfl ((by decide)) (by decide) rfl (fun ls hl => ?_)
              refine lv_goto (tgt := 12) hx hb dX1_originOf_63 (by decide) ?_
              refine lv_iload hx hb dX1_originOf_12 (lv_at hl 0 rfl) ?_
              refine lv_iconst (v := nI 4) hx hb dX1_originOf_14 (by decide) ?_
              refine q_icmpN_ge (a := 3) (b := 4) (tgt := 66) (by omega) (by omega) hx hb dX1_originOf_15 (by decide) (fun k15 => absurd k15 (by omega)) (fun k15 => ?_)
              refine lv_aload_n hx hb dX1_originOf_18 rfl (lv_at hl 2 rfl) ?_
              refine lv_iload hx hb dX1_originOf_19 (lv_at hl 7 rfl) ?_
              refine lv_iload_n hx hb dX1_originOf_21 rfl (lv_at hl 4 rfl) ?_
              refine lv_iload hx hb dX1_originOf_22 (lv_at hl 0 rfl) ?_
              refine lv_iconst (v := nI 2) hx hb dX1_originOf_24 (by decide) ?_
              refine q_icmpN_ge (a := 3) (b := 2) (tgt := 32) (by omega) (by omega) hx hb dX1_originOf_25 (by decide) (fun k25 => ?_) (fun k25 => absurd k25 (by omega))
              refine lv_iconst (v := oI none) hx hb dX1_originOf_32 (by decide) ?_
              refine lv_iload hx hb dX1_originOf_33 (lv_at hl 0 rfl) ?_
              refine lv_iconst (v := nI 2) hx hb dX1_originOf_35 (by decide) ?_
              refine q_remN (a := 3) (b := 2) (by omega) (by decide) (by decide) hx hb dX1_originOf_36 ?_
              refine q_ifN_ne (a := 3 % 2) (tgt := 45) (by omega) hx hb dX1_originOf_37 (by decide) (fun k37 => ?_) (fun k37 => absurd k37 (by omega))
              refine lv_iconst (v := oI none) hx hb dX1_originOf_45 (by decide) ?_
              refine q_callI (r := oI (bst (rdf dg da dh dt ds dd td q a none none) dd dc)) (va_runV (As := [.int (nI q), .int (nI a), .int (oI none), .int (oI none)]) (rest := []) ⟨hx, hb, hml, hown, hts⟩ (kX1_holds l D h ad cI cJ cZ td gc ex pa di qu dc dg da dh dt dv dd ds ak se pr th q a none none hq ha (fun k h9 => by cases h9) (fun k h9 => by cases h9) hrd0) (cwV 4 hts gX1_originOf_X1_holds rfl rfl rfl (by decide +kernel) ⟨Nat.le_of_ble_eq_true rfl, Nat.le_of_ble_eq_true rfl⟩) ⟨pP_blind, va_recv hK hP (ci := 1) (q0 := 0) rfl rfl, pP_pre hP hK⟩ rfl rfl hl.1 rfl (lv_room (Nat.le_of_ble_eq_true rfl)) dX1_originOf_46 ⟨Nat.zero_le _, Nat.zero_le _⟩) ?_
              refine q_top (y := oI (ho (plc q a 0 0))) (by rw [hrh q a (none) (none) hq hq2 ha (fun k h9 => by cases h9) (fun k h9 => by cases h9)]; rfl) ?_
              refine lv_istore (lv' := [(7, .int (oI (ho (plc q a 0 0)))), (6, .int (nI 3)), (0, .ref h), (1, .int (nI g)), (2, .int (nI a)), (3, .int (nI sp)), (4, .int (nI tp)), (5, .int (nI q))]) hx hb dX1_originOf_49 hl (by decide) rfl (fun ls hl => ?_)
              refine lv_iload hx hb dX1_originOf_51 (lv_at hl 0 rfl) ?_
              refine lv_iconst (v := oI none) hx hb dX1_originOf_53 (by decide) ?_
              refine q_icmpO_eq (a := ho (plc q a 0 0)) (b := none) (tgt := 60) (fun k h9 => by have h8 := hrh q a (none) (none) hq hq2 ha (fun k h9 => by cases h9) (fun k h9 => by cases h9); have := (bst_in dc k (h8.trans h9)).1; omega) (fun k h9 => by cases h9) hx hb dX1_originOf_54 (by decide) (fun n3 => ?_) (fun n3 => ?_)
              · refine lv_iinc (v := nI 4) (lv' := [(6, .int (nI 4)), (7, .int (oI (ho (plc q a 0 0)))), (0, .ref h), (1, .int (nI g)), (2, .int (nI a)), (3, .int (nI sp)), (4, .int (nI tp)), (5, .int (nI q))]) hx hb dX1_originOf_60 hl (k := 1) rfl ((by decide)) (by decide) rfl (fun ls hl => ?_)
                refine lv_goto (tgt := 12) hx hb dX1_originOf_63 (by decide) ?_
                refine lv_iload hx hb dX1_originOf_12 (lv_at hl 0 rfl) ?_
                refine lv_iconst (v := nI 4) hx hb dX1_originOf_14 (by decide) ?_
                refine q_icmpN_ge (a := 4) (b := 4) (tgt := 66) (by omega) (by omega) hx hb dX1_originOf_15 (by decide) (fun k15 => ?_) (fun k15 => absurd k15 (by omega))
                refine lv_aload_n hx hb dX1_originOf_66 rfl (lv_at hl 2 rfl) ?_
                refine va_get (D := D) (ci := 1) (v := .ref (ad 3)) (C := RX1) (T := TX1) (N := 18) hx hb hts (iX1_originOf) hown hK hP 0 rfl rfl 3 (by decide) (hts (.fieldLink RX1 13 "ShopHubModel" "parent" "[I") (by decide +kernel)) (fun _ h9 => h9) rfl dX1_originOf_67 ?_
                refine lv_iload hx hb dX1_originOf_70 (lv_at hl 7 rfl) ?_
                refine q_ald oI pa hx hb hK hP 2 1 rfl rfl (k := q) (by omega) (Nat.le_of_ble_eq_true rfl) dX1_originOf_72 ?_
                refine lv_istore (lv' := [(5, .int (oI (pa q))), (6, .int (nI 4)), (7, .int (oI (ho (plc q a 0 0)))), (0, .ref h), (1, .int (nI g)), (2, .int (nI a)), (3, .int (nI sp)), (4, .int (nI tp))]) hx hb dX1_originOf_73 hl (by decide) rfl (fun ls hl => ?_)
                refine lv_goto (tgt := 3) hx hb dX1_originOf_75 (by decide) ?_
                exact ih (pa q) (f - 1) (by omega) (by omega) (by rw [← hw, org_some (show f = (f - 1) + 1 by omega), if_pos hq2, orE_r ((own_4 n0 n1 n2).trans n3)]) (TI_ok hti hq hq2) _ (lv_sub hl [3, 4, 5, 6, 7, 0] rfl)
              · refine lv_iload hx hb dX1_originOf_57 (lv_at hl 0 rfl) ?_
                exact q_retI hx hb hr hlocks (by rw [← hw, org_some (show f = (f - 1) + 1 by omega), if_pos hq2, orE_l (by rw [own_4 n0 n1 n2]; exact n3), own_4 n0 n1 n2]) dX1_originOf_59
            · refine lv_iload hx hb dX1_originOf_57 (lv_at hl 0 rfl) ?_
              exact q_retI hx hb hr hlocks (by rw [← hw, org_some (show f = (f - 1) + 1 by omega), if_pos hq2, orE_l (by rw [own_3 n0 n1 n2]; exact n2), own_3 n0 n1 n2]) dX1_originOf_59
          · refine lv_iload hx hb dX1_originOf_57 (lv_at hl 0 rfl) ?_
            exact q_retI hx hb hr hlocks (by rw [← hw, org_some (show f = (f - 1) + 1 by omega), if_pos hq2, orE_l (by rw [own_2 n0 n1]; exact n1), own_2 n0 n1]) dX1_originOf_59
        · refine lv_iload hx hb dX1_originOf_57 (lv_at hl 0 rfl) ?_
          exact q_retI hx hb hr hlocks (by rw [← hw, org_some (show f = (f - 1) + 1 by omega), if_pos hq2, orE_l (by rw [own_1  n0]; exact n0), own_1  n0]) dX1_originOf_59
  exact loop3 4 (some g) 3 (Nat.le_refl 4) (by show ((lev g : Nat) : Int) + 1 ≤ 3; omega) rfl (fun k h9 => by cases h9; exact ⟨hg, he⟩) _ (lv_sub hl [1, 2, 3, 4, 5, 0] rfl)
