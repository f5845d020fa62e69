set_option maxHeartbeats 4000000 in
set_option maxRecDepth 100000 in
theorem kX0_checkGood (l : Launch) (D : va_G) (h : Nat) (ad : Nat → Nat) (cI cZ : ClassId) (ex : Nat → Bool) (pa : Nat → Option Nat) (di : Nat → Nat) (qu : Nat → Nat) (gc : Nat) (dg : Nat → Nat) (dp : Nat → Nat) (dv : Nat → Option Nat) (dd : Nat → Nat) (ds : Nat → Nat) (dc : Nat) (td : Nat) (ho : Nat → Option Nat) (ak : Nat → Bool) (se : Nat → Option Nat) (pr : Nat → Option Nat) (j : Nat) (hj : j < 16) (he : ex j = true) : Met l yX0_checkGood wsX0_checkGood ({ frames := 1, cells := 0, slots := 0, locals := 21 } : Room) (pP D (hW h ad cI cZ ex pa di qu gc dg dp dv dd ds dc td ho ak se pr) (hT cI cZ) [.ref h, .int (nI j)]) (pQ none) 0 0 nF := by
  refine Met.ofW (cc := cX0_checkGood) (maxL := 2) (ret := none) (by decide) rfl ?_
  intro p e s m args below meth c s₁ B hml hv
  obtain ⟨rfl, hP, hK⟩ := hv
  have hx := B.exec
  have hb := B.bytes
  have hr := B.returns
  have hts := atoms_spec (ws := wsX0_checkGood) B.pre
  have hown : s.vm.findClass RX0 = some m.cls := findClass_of_methodNamed B.named
  have hlocks := B.notSynchronized
  have hl := lv_entry ([.ref h, .int (nI j)]) (n := 2) (Nat.le_of_ble_eq_true rfl)
  rw [lg_entry_eq]
  generalize (lg_sl ([.ref h, .int (nI j)]) ++ List.replicate (2 - (lg_sl ([.ref h, .int (nI j)])).length) Slot.unset).toArray = ls at hl ⊢
  have hl : lv_has ls 2 [(0, .ref h), (1, .int (nI j))] := hl
  refine lv_aload_n hx hb dX0_checkGood_0 rfl (lv_at hl 0 rfl) ?_
  refine lv_iload_n hx hb dX0_checkGood_1 rfl (lv_at hl 1 rfl) ?_
  refine q_callI (r := bI (ex j)) (va_runV (As := [.int (nI j)]) (rest := []) ⟨hx, hb, hml, hown, hts⟩ (kX0_isGoodN l D h ad cI cZ ex pa di qu gc dg dp dv dd ds dc td ho ak se pr j hj) (cwV 1 hts gX0_checkGood_X0_isGood rfl rfl rfl (by decide +kernel) ⟨Nat.le_of_ble_eq_true rfl, Nat.le_of_ble_eq_true rfl⟩) ⟨pP_blind, va_recv hK hP (ci := 0) (q0 := 0) rfl rfl, pP_pre hP hK⟩ rfl rfl hl.1 rfl (lv_room (Nat.le_of_ble_eq_true rfl)) dX0_checkGood_2 ⟨Nat.zero_le _, Nat.zero_le _⟩) ?_
  refine q_ifB_ne (b := ex j) (tgt := 18) hx hb dX0_checkGood_5 (by decide) (fun k5 => ?_) (fun k5 => absurd k5 (by rw [he]; decide))
  exact q_retV hx hb hr hlocks dX0_checkGood_18

set_option maxHeartbeats 4000000 in
set_option maxRecDepth 100000 in
theorem kX0_checkAttribute (l : Launch) (a : Nat) (ha : a < 6) : Met l yX0_checkAttribute wsX0_checkAttribute ({ frames := 0, cells := 0, slots := 0, locals := 0 } : Room) (sP [.int (nI a)]) (pQ none) 0 0 nF := by
  refine Met.ofW (cc := cX0_checkAttribute) (maxL := 1) (ret := none) (by decide) rfl ?_
  intro p e s m args below meth c s₁ B hml hv
  obtain rfl := hv
  have hx := B.exec
  have hb := B.bytes
  have hr := B.returns
  have hts := atoms_spec (ws := wsX0_checkAttribute) B.pre
  have hown : s.vm.findClass RX0 = some m.cls := findClass_of_methodNamed B.named
  have hlocks := B.notSynchronized
  have hl := lv_entry ([.int (nI a)]) (n := 1) (Nat.le_of_ble_eq_true rfl)
  rw [lg_entry_eq]
  generalize (lg_sl ([.int (nI a)]) ++ List.replicate (1 - (lg_sl ([.int (nI a)])).length) Slot.unset).toArray = ls at hl ⊢
  have hl : lv_has ls 1 [(0, .int (nI a))] := hl
  refine lv_iload_n hx hb dX0_checkAttribute_0 rfl (lv_at hl 0 rfl) ?_
  refine q_ifN_lt (a := a) 10 (by omega) hx hb dX0_checkAttribute_1 (by decide) ?_
  refine lv_iload_n hx hb dX0_checkAttribute_4 rfl (lv_at hl 0 rfl) ?_
  refine lv_bipush (v := nI 6) hx hb dX0_checkAttribute_5 (by decide) ?_
  refine q_icmpN_lt (a := a) (b := 6) (tgt := 20) (by omega) (by omega) hx hb dX0_checkAttribute_7 (by decide) (fun k7 => ?_) (fun k7 => absurd k7 (by omega))
  exact q_retV hx hb hr hlocks dX0_checkAttribute_20

set_option maxHeartbeats 4000000 in
set_option maxRecDepth 100000 in
theorem kX0_checkShop (l : Launch) (sp : Nat) (hs : sp < 3) : Met l yX0_checkShop wsX0_checkShop ({ frames := 0, cells := 0, slots := 0, locals := 0 } : Room) (sP [.int (nI sp)]) (pQ none) 0 0 nF := by
  refine Met.ofW (cc := cX0_checkShop) (maxL := 1) (ret := none) (by decide) rfl ?_
  intro p e s m args below meth c s₁ B hml hv
  obtain rfl := hv
  have hx := B.exec
  have hb := B.bytes
  have hr := B.returns
  have hts := atoms_spec (ws := wsX0_checkShop) B.pre
  have hown : s.vm.findClass RX0 = some m.cls := findClass_of_methodNamed B.named
  have hlocks := B.notSynchronized
  have hl := lv_entry ([.int (nI sp)]) (n := 1) (Nat.le_of_ble_eq_true rfl)
  rw [lg_entry_eq]
  generalize (lg_sl ([.int (nI sp)]) ++ List.replicate (1 - (lg_sl ([.int (nI sp)])).length) Slot.unset).toArray = ls at hl ⊢
  have hl : lv_has ls 1 [(0, .int (nI sp))] := hl
  refine lv_iload_n hx hb dX0_checkShop_0 rfl (lv_at hl 0 rfl) ?_
  refine q_ifN_lt (a := sp) 9 (by omega) hx hb dX0_checkShop_1 (by decide) ?_
  refine lv_iload_n hx hb dX0_checkShop_4 rfl (lv_at hl 0 rfl) ?_
  refine lv_iconst (v := nI 3) hx hb dX0_checkShop_5 (by decide) ?_
  refine q_icmpN_lt (a := sp) (b := 3) (tgt := 19) (by omega) (by omega) hx hb dX0_checkShop_6 (by decide) (fun k6 => ?_) (fun k6 => absurd k6 (by omega))
  exact q_retV hx hb hr hlocks dX0_checkShop_19

set_option maxHeartbeats 4000000 in
set_option maxRecDepth 100000 in
theorem kX0_checkTongue (l : Launch) (tp : Nat) (ht : tp < 3) : Met l yX0_checkTongue wsX0_checkTongue ({ frames := 0, cells := 0, slots := 0, locals := 0 } : Room) (sP [.int (nI tp)]) (pQ none) 0 0 nF := by
  refine Met.ofW (cc := cX0_checkTongue) (maxL := 1) (ret := none) (by decide) rfl ?_
  intro p e s m args below meth c s₁ B hml hv
  obtain rfl := hv
  have hx := B.exec
  have hb := B.bytes
  have hr := B.returns
  have hts := atoms_spec (ws := wsX0_checkTongue) B.pre
  have hown : s.vm.findClass RX0 = some m.cls := findClass_of_methodNamed B.named
  have hlocks := B.notSynchronized
  have hl := lv_entry ([.int (nI tp)]) (n := 1) (Nat.le_of_ble_eq_true rfl)
  rw [lg_entry_eq]
  generalize (lg_sl ([.int (nI tp)]) ++ List.replicate (1 - (lg_sl ([.int (nI tp)])).length) Slot.unset).toArray = ls at hl ⊢
  have hl : lv_has ls 1 [(0, .int (nI tp))] := hl
  refine lv_iload_n hx hb dX0_checkTongue_0 rfl (lv_at hl 0 rfl) ?_
  refine q_ifN_lt (a := tp) 9 (by omega) hx hb dX0_checkTongue_1 (by decide) ?_
  refine lv_iload_n hx hb dX0_checkTongue_4 rfl (lv_at hl 0 rfl) ?_
  refine lv_iconst (v := nI 3) hx hb dX0_checkTongue_5 (by decide) ?_
  refine q_icmpN_lt (a := tp) (b := 3) (tgt := 19) (by omega) (by omega) hx hb dX0_checkTongue_6 (by decide) (fun k6 => ?_) (fun k6 => absurd k6 (by omega))
  exact q_retV hx hb hr hlocks dX0_checkTongue_19

set_option maxHeartbeats 4000000 in
set_option maxRecDepth 100000 in
theorem kX0_complete (l : Launch) (D : va_G) (h : Nat) (ad : Nat → Nat) (cI cZ : ClassId) (ex : Nat → Bool) (pa : Nat → Option Nat) (di : Nat → Nat) (qu : Nat → Nat) (gc : Nat) (dg : Nat → Nat) (dp : Nat → Nat) (dv : Nat → Option Nat) (dd : Nat → Nat) (ds : Nat → Nat) (dc : Nat) (td : Nat) (ho : Nat → Option Nat) (ak : Nat → Bool) (se : Nat → Option Nat) (pr : Nat → Option Nat) (sp : Nat) (hs : sp < 3) (hpr : PR pa) (hho : HO ho dc) (hdc : dc ≤ 200) (hdv : DV dv dc) : Met l yX0_complete wsX0_complete ({ frames := 6, cells := 0, slots := 0, locals := 150 } : Room) (pP D (hW h ad cI cZ ex pa di qu gc dg dp dv dd ds dc td ho ak se pr) (hT cI cZ) [.ref h, .int (nI sp)]) (pQ (some (.int (nI (cnt (cpl ex pa ho dv ak sp) 16))))) 0 0 nF := by
  refine Met.ofW (cc := cX0_complete) (maxL := 4) (ret := (some .int)) (by decide) rfl ?_
  intro p e s m args below meth c s₁ B hml hv
  obtain ⟨rfl, hP, hK⟩ := hv
  have hx := B.exec
  have hb := B.bytes
  have hr := B.returns
  have hts := atoms_spec (ws := wsX0_complete) B.pre
  have hown : s.vm.findClass RX0 = some m.cls := findClass_of_methodNamed B.named
  have hlocks := B.notSynchronized
  have hl := lv_entry ([.ref h, .int (nI sp)]) (n := 4) (Nat.le_of_ble_eq_true rfl)
  rw [lg_entry_eq]
  generalize (lg_sl ([.ref h, .int (nI sp)]) ++ List.replicate (4 - (lg_sl ([.ref h, .int (nI sp)])).length) Slot.unset).toArray = ls at hl ⊢
  have hl : lv_has ls 4 [(0, .ref h), (1, .int (nI sp))] := hl
  refine lv_iload_n hx hb dX0_complete_0 rfl (lv_at hl 1 rfl) ?_
  refine q_callV (va_runS (As := [.int (nI sp)]) (rest := []) ⟨hx, hb, hml, hown, hts⟩ (kX0_checkShop l sp hs) (cwS 1 hts gX0_complete_X0_checkShop rfl rfl rfl (by decide +kernel) ⟨Nat.le_of_ble_eq_true rfl, Nat.le_of_ble_eq_true rfl⟩) ⟨sP_blind, sP_pre⟩ rfl rfl hl.1 rfl (lv_room (Nat.le_of_ble_eq_true rfl)) dX0_complete_1 ⟨Nat.zero_le _, Nat.zero_le _⟩) ?_
  refine lv_iconst (v := nI 0) hx hb dX0_complete_4 (by decide) ?_
  refine lv_istore_n (lv' := [(2, .int (nI 0)), (0, .ref h), (1, .int (nI sp))]) hx hb dX0_complete_5 rfl hl (by decide) rfl (fun ls hl => ?_)
  refine lv_iconst (v := nI 0) hx hb dX0_complete_6 (by decide) ?_
  refine lv_istore_n (lv' := [(3, .int (nI 0)), (2, .int (nI 0)), (0, .ref h), (1, .int (nI sp))]) hx hb dX0_complete_7 rfl hl (by decide) rfl (fun ls hl => ?_)
  have loop8 : ∀ (n : Nat) (i : Nat) (k : Nat), (i ≤ 16) → (17 ≤ i + n) → (k = cnt (cpl ex pa ho dv ak sp) i) → ∀ ls : Array Slot, lv_has ls 4 [(0, .ref h), (1, .int (nI sp)), (2, .int (nI k)), (3, .int (nI i))] → W p l e ({ frames := 6, cells := 0, slots := 0, locals := 150 } : Room) s m ([.ref h, .int (nI sp)] : List Value).toArray below meth c s.heap [] 0 0 (MQ below (pQ (some (.int (nI (cnt (cpl ex pa ho dv ak sp) 16))))) ([.ref h, .int (nI sp)] : List Value).toArray s 0 0 nF) (F0 m 8 ls []) := by
    intro n
    induction n with
    | zero => intro i k hle hn hset; omega
    | succ n ih =>
      intro i k hle hn hset ls hl
      refine lv_iload_n hx hb dX0_complete_8 rfl (lv_at hl 3 rfl) ?_
      refine lv_bipush (v := nI 16) hx hb dX0_complete_9 (by decide) ?_
      refine q_icmpN_ge (a := i) (b := 16) (tgt := 41) (by omega) (by omega) hx hb dX0_complete_11 (by decide) (fun k11 => ?_) (fun k11 => ?_)
      · refine lv_iload_n hx hb dX0_complete_41 rfl (lv_at hl 2 rfl) ?_
        exact q_retI hx hb hr hlocks (by rw [hset, show i = 16 by omega]) dX0_complete_42
      · refine lv_aload_n hx hb dX0_complete_14 rfl (lv_at hl 0 rfl) ?_
        refine va_get (D := D) (ci := 0) (v := .ref (ad 0)) (C := RX0) (T := TX0) (N := 16) hx hb hts (iX0_complete) hown hK hP 0 rfl rfl 0 (by decide) (hts (.fieldLink RX0 9 "ShopHub" "exists" "[Z") (by decide +kernel)) (fun _ h9 => h9) rfl dX0_complete_15 ?_
        refine lv_iload_n hx hb dX0_complete_18 rfl (lv_at hl 3 rfl) ?_
        refine q_zld ex hx hb hK hP 1 0 rfl rfl (k := i) (by omega) (Nat.le_of_ble_eq_true rfl) dX0_complete_19 ?_
        refine q_ifB_eq (b := ex i) (tgt := 35) hx hb dX0_complete_20 (by decide) (fun k20 => ?_) (fun k20 => ?_)
        · refine lv_iinc (v := nI (i + 1)) (lv' := [(3, .int (nI (i + 1))), (0, .ref h), (1, .int (nI sp)), (2, .int (nI k))]) hx hb dX0_complete_35 hl (k := 3) rfl (i1_n i) (by decide) rfl (fun ls hl => ?_)
          refine lv_goto (tgt := 8) hx hb dX0_complete_38 (by decide) ?_
          exact ih (i + 1) k (by omega) (by omega) (by rw [cnt_f (f := (cpl ex pa ho dv ak sp)) (show cpl ex pa ho dv ak sp i = false by unfold cpl; rw [k20]; rfl)]; exact hset) _ (lv_sub hl [1, 2, 3, 0] rfl)
        · refine lv_aload_n hx hb dX0_complete_23 rfl (lv_at hl 0 rfl) ?_
          refine lv_iload_n hx hb dX0_complete_24 rfl (lv_at hl 3 rfl) ?_
          refine lv_iload_n hx hb dX0_complete_25 rfl (lv_at hl 1 rfl) ?_
          refine q_callI (r := bI (!exU (fun t => decide (bset (lck ex pa ho dv ak i sp t) 6 ≠ 0)) 3)) (va_runV (As := [.int (nI i), .int (nI sp)]) (rest := []) ⟨hx, hb, hml, hown, hts⟩ (kX0_isComplete l D h ad cI cZ ex pa di qu gc dg dp dv dd ds dc td ho ak se pr i sp (by omega) hs hpr hho hdc hdv) (cwV 2 hts gX0_complete_X0_isComplete rfl rfl rfl (by decide +kernel) ⟨Nat.le_of_ble_eq_true rfl, Nat.le_of_ble_eq_true rfl⟩) ⟨pP_blind, va_recv hK hP (ci := 0) (q0 := 0) rfl rfl, pP_pre hP hK⟩ rfl rfl hl.1 rfl (lv_room (Nat.le_of_ble_eq_true rfl)) dX0_complete_26 ⟨Nat.zero_le _, Nat.zero_le _⟩) ?_
          refine q_ifB_eq (b := !exU (fun t => decide (bset (lck ex pa ho dv ak i sp t) 6 ≠ 0)) 3) (tgt := 35) hx hb dX0_complete_29 (by decide) (fun k29 => ?_) (fun k29 => ?_)
          · refine lv_iinc (v := nI (i + 1)) (lv' := [(3, .int (nI (i + 1))), (0, .ref h), (1, .int (nI sp)), (2, .int (nI k))]) hx hb dX0_complete_35 hl (k := 3) rfl (i1_n i) (by decide) rfl (fun ls hl => ?_)
            refine lv_goto (tgt := 8) hx hb dX0_complete_38 (by decide) ?_
            exact ih (i + 1) k (by omega) (by omega) (by rw [cnt_f (f := (cpl ex pa ho dv ak sp)) (show cpl ex pa ho dv ak sp i = false by unfold cpl; rw [k29, Bool.and_false])]; exact hset) _ (lv_sub hl [1, 2, 3, 0] rfl)
          · refine lv_iinc (v := nI (k + 1)) (lv' := [(2, .int (nI (k + 1))), (0, .ref h), (1, .int (nI sp)), (3, .int (nI i))]) hx hb dX0_complete_32 hl (k := 2) rfl (i1_n k) (by decide) rfl (fun ls hl => ?_)
            refine lv_iinc (v := nI (i + 1)) (lv' := [(3, .int (nI (i + 1))), (2, .int (nI (k + 1))), (0, .ref h), (1, .int (nI sp))]) hx hb dX0_complete_35 hl (k := 3) rfl (i1_n i) (by decide) rfl (fun ls hl => ?_)
            refine lv_goto (tgt := 8) hx hb dX0_complete_38 (by decide) ?_
            exact ih (i + 1) (k + 1) (by omega) (by omega) (by rw [cnt_t (f := (cpl ex pa ho dv ak sp)) (show cpl ex pa ho dv ak sp i = true by unfold cpl; rw [k20, k29]; rfl), ← hset]) _ (lv_sub hl [2, 3, 1, 0] rfl)
  exact loop8 17 0 0 (by omega) (Nat.le_refl 17) rfl _ (lv_sub hl [2, 3, 1, 0] rfl)

set_option maxHeartbeats 4000000 in
set_option maxRecDepth 100000 in
theorem kX0_changed (l : Launch) (D : va_G) (h : Nat) (ad : Nat → Nat) (cI cZ : ClassId) (ex : Nat → Bool) (pa : Nat → Option Nat) (di : Nat → Nat) (qu : Nat → Nat) (gc : Nat) (dg : Nat → Nat) (dp : Nat → Nat) (dv : Nat → Option Nat) (dd : Nat → Nat) (ds : Nat → Nat) (dc : Nat) (td : Nat) (ho : Nat → Option Nat) (ak : Nat → Bool) (se : Nat → Option Nat) (pr : Nat → Option Nat) (sp : Nat) (hs : sp < 3) (hpr : PR pa) (hho : HO ho dc) (hdc : dc ≤ 200) (hdv : DV dv dc) (hse : ∀ k, k < 864 → ∀ v, se k = some v → v ≤ 100000) : Met l yX0_changed wsX0_changed ({ frames := 6, cells := 0, slots := 0, locals := 149 } : Room) (pP D (hW h ad cI cZ ex pa di qu gc dg dp dv dd ds dc td ho ak se pr) (hT cI cZ) [.ref h, .int (nI sp)]) (pQ (some (.int (nI (bset (lkd ex pa ho dv se sp) 16))))) 0 0 nF := by
  refine Met.ofW (cc := cX0_changed) (maxL := 2) (ret := (some .int)) (by decide) rfl ?_
  intro p e s m args below meth c s₁ B hml hv
  obtain ⟨rfl, hP, hK⟩ := hv
  have hx := B.exec
  have hb := B.bytes
  have hr := B.returns
  have hts := atoms_spec (ws := wsX0_changed) B.pre
  have hown : s.vm.findClass RX0 = some m.cls := findClass_of_methodNamed B.named
  have hlocks := B.notSynchronized
  have hl := lv_entry ([.ref h, .int (nI sp)]) (n := 2) (Nat.le_of_ble_eq_true rfl)
  rw [lg_entry_eq]
  generalize (lg_sl ([.ref h, .int (nI sp)]) ++ List.replicate (2 - (lg_sl ([.ref h, .int (nI sp)])).length) Slot.unset).toArray = ls at hl ⊢
  have hl : lv_has ls 2 [(0, .ref h), (1, .int (nI sp))] := hl
  refine lv_iload_n hx hb dX0_changed_0 rfl (lv_at hl 1 rfl) ?_
  refine q_callV (va_runS (As := [.int (nI sp)]) (rest := []) ⟨hx, hb, hml, hown, hts⟩ (kX0_checkShop l sp hs) (cwS 1 hts gX0_changed_X0_checkShop rfl rfl rfl (by decide +kernel) ⟨Nat.le_of_ble_eq_true rfl, Nat.le_of_ble_eq_true rfl⟩) ⟨sP_blind, sP_pre⟩ rfl rfl hl.1 rfl (lv_room (Nat.le_of_ble_eq_true rfl)) dX0_changed_1 ⟨Nat.zero_le _, Nat.zero_le _⟩) ?_
  refine lv_aload_n hx hb dX0_changed_4 rfl (lv_at hl 0 rfl) ?_
  refine lv_iload_n hx hb dX0_changed_5 rfl (lv_at hl 1 rfl) ?_
  refine q_callI (r := nI (bset (lkd ex pa ho dv se sp) 16)) (va_runV (As := [.int (nI sp)]) (rest := []) ⟨hx, hb, hml, hown, hts⟩ (kX0_findChanged l D h ad cI cZ ex pa di qu gc dg dp dv dd ds dc td ho ak se pr sp hs hpr hho hdc hdv hse) (cwV 1 hts gX0_changed_X0_findChanged rfl rfl rfl (by decide +kernel) ⟨Nat.le_of_ble_eq_true rfl, Nat.le_of_ble_eq_true rfl⟩) ⟨pP_blind, va_recv hK hP (ci := 0) (q0 := 0) rfl rfl, pP_pre hP hK⟩ rfl rfl hl.1 rfl (lv_room (Nat.le_of_ble_eq_true rfl)) dX0_changed_6 ⟨Nat.zero_le _, Nat.zero_le _⟩) ?_
  exact q_retI hx hb hr hlocks (rfl) dX0_changed_9

