set_option maxHeartbeats 4000000 in
set_option maxRecDepth 100000 in
theorem kX0_putHolder (l : Launch) (D : va_G) (h : Nat) (ad : Nat → Nat) (cI cZ : ClassId) (ex : Nat → Bool) (pa : Nat → Option Nat) (di : Nat → Nat) (qu : Nat → Nat) (gc : Nat) (dg : Nat → Nat) (dp : Nat → Nat) (dv : Nat → Option Nat) (dd : Nat → Nat) (ds : Nat → Nat) (dc : Nat) (td : Nat) (ho : Nat → Option Nat) (ak : Nat → Bool) (se : Nat → Option Nat) (pr : Nat → Option Nat) (sz : Nat) (d : Nat) (hd : d < dc) (hdc : dc ≤ 200) (hdp : dp d < 1536) (hho : HO ho dc) (hdd : ∀ k, k < dc → dd k ≤ 1000) : Met l yX0_putHolder wsX0_putHolder ({ frames := 1, cells := 0, slots := 0, locals := 21 } : Room) (wP D (hW h ad cI cZ ex pa di qu gc dg dp dv dd ds dc td ho ak se pr) (hT cI cZ) [.ref h, .int (nI d)] sz) (wQ D (hW h ad cI cZ ex pa di qu gc dg dp dv dd ds dc td ho ak se pr) (hW h ad cI cZ ex pa di qu gc dg dp dv dd ds dc td (phd ho dp dd d) ak se pr) none) 0 0 (va_A (hW h ad cI cZ ex pa di qu gc dg dp dv dd ds dc td ho ak se pr) sz) := by
  refine Met.ofW (cc := cX0_putHolder) (maxL := 4) (ret := none) (by decide) rfl ?_
  intro p e s m args below meth c s₁ B hml hv
  obtain ⟨rfl, hsz, hP, hK, hD0⟩ := hv
  have hx := B.exec
  have hb := B.bytes
  have hr := B.returns
  have hts := atoms_spec (ws := wsX0_putHolder) B.pre
  have hown : s.vm.findClass RX0 = some m.cls := findClass_of_methodNamed B.named
  have hlocks := B.notSynchronized
  subst hsz
  have hD := hD0.self (sz := s.heap.size)
  generalize hAe : va_A (hW h ad cI cZ ex pa di qu gc dg dp dv dd ds dc td ho ak se pr) s.heap.size = A at hD ⊢
  have hA : ∀ q : Nat, s.heap.size ≤ q → A q := fun q h => by rw [← hAe]; exact Or.inr h
  have hS : va_S A s.heap s.heap [] := va_S.rf
  have hl := lv_entry ([.ref h, .int (nI d)]) (n := 4) (Nat.le_of_ble_eq_true rfl)
  rw [lg_entry_eq]
  generalize (lg_sl ([.ref h, .int (nI d)]) ++ List.replicate (4 - (lg_sl ([.ref h, .int (nI d)])).length) Slot.unset).toArray = ls at hl ⊢
  have hl : lv_has ls 4 [(0, .ref h), (1, .int (nI d))] := hl
  refine lv_aload_n hx hb dX0_putHolder_0 rfl (lv_at hl 0 rfl) ?_
  refine va_get (D := D) (ci := 0) (v := .ref (ad 6)) (C := RX0) (T := TX0) (N := 16) hx hb hts (iX0_putHolder) hown hK hP 0 rfl rfl 6 (by decide) (hts (.fieldLink RX0 30 "ShopHub" "draftPlaces" "[I") (by decide +kernel)) (fun _ h9 => h9) rfl dX0_putHolder_1 ?_
  refine lv_iload_n hx hb dX0_putHolder_4 rfl (lv_at hl 1 rfl) ?_
  refine q_ald nI dp hx hb hK hP 6 1 rfl rfl (k := d) (by omega) (Nat.le_of_ble_eq_true rfl) dX0_putHolder_5 ?_
  refine lv_istore_n (lv' := [(2, .int (nI (dp d))), (0, .ref h), (1, .int (nI d))]) hx hb dX0_putHolder_6 rfl hl (by decide) rfl (fun ls hl => ?_)
  refine lv_aload_n hx hb dX0_putHolder_7 rfl (lv_at hl 1 rfl) ?_
  refine va_get (D := D) (ci := 0) (v := .ref (ad 12)) (C := RX0) (T := TX0) (N := 16) hx hb hts (iX0_putHolder) hown hK hP 0 rfl rfl 12 (by decide) (hts (.fieldLink RX0 48 "ShopHub" "holders" "[I") (by decide +kernel)) (fun _ h9 => h9) rfl dX0_putHolder_8 ?_
  refine lv_iload_n hx hb dX0_putHolder_11 rfl (lv_at hl 0 rfl) ?_
  refine q_ald oI ho hx hb hK hP 10 1 rfl rfl (k := dp d) (hdp) (Nat.le_of_ble_eq_true rfl) dX0_putHolder_12 ?_
  obtain ⟨o5, eo5⟩ : ∃ z, z = ho (dp d) := ⟨_, rfl⟩
  refine q_top (y := oI o5) (by rw [eo5]) ?_
  refine lv_istore_n (lv' := [(3, .int (oI o5)), (2, .int (nI (dp d))), (0, .ref h), (1, .int (nI d))]) hx hb dX0_putHolder_13 rfl hl (by decide) rfl (fun ls hl => ?_)
  cases o5 with
  | none =>
    refine lv_aload_n hx hb dX0_putHolder_14 rfl (lv_at hl 2 rfl) ?_
    refine lv_iload_n hx hb dX0_putHolder_15 rfl (lv_at hl 0 rfl) ?_
    refine q_callI (r := bI false) (va_runV (As := [.int (oI none)]) (rest := []) ⟨hx, hb, hml, hown, hts⟩ (kX0_isEnteredR l D h ad cI cZ ex pa di qu gc dg dp dv dd ds dc td ho ak se pr (oI none) (by decide)) (cwV 1 hts gX0_putHolder_X0_isEntered rfl rfl rfl (by decide +kernel) ⟨Nat.le_of_ble_eq_true rfl, Nat.le_of_ble_eq_true rfl⟩) ⟨pP_blind, va_recv hK hP (ci := 0) (q0 := 0) rfl rfl, pP_pre hP hK⟩ rfl rfl hl.1 rfl (lv_room (Nat.le_of_ble_eq_true rfl)) dX0_putHolder_16 ⟨Nat.zero_le _, Nat.zero_le _⟩) ?_
    refine q_ifB_eq (b := false) (tgt := 37) hx hb dX0_putHolder_19 (by decide) (fun k19 => ?_) (fun k19 => absurd k19 (by decide))
    refine lv_aload_n hx hb dX0_putHolder_37 rfl (lv_at hl 2 rfl) ?_
    refine va_get (D := D) (ci := 0) (v := .ref (ad 12)) (C := RX0) (T := TX0) (N := 16) hx hb hts (iX0_putHolder) hown hK hP 0 rfl rfl 12 (by decide) (hts (.fieldLink RX0 48 "ShopHub" "holders" "[I") (by decide +kernel)) (fun _ h9 => h9) rfl dX0_putHolder_38 ?_
    refine lv_iload_n hx hb dX0_putHolder_41 rfl (lv_at hl 1 rfl) ?_
    refine lv_iload_n hx hb dX0_putHolder_42 rfl (lv_at hl 3 rfl) ?_
    refine q_top (y := oI (some d)) ((rfl : nI d = oI (some d))) ?_
    refine q_ast oI ho (some d) hx hb hK hP hD hS 10 1 rfl rfl (k := dp d) (hdp) (Nat.le_of_ble_eq_true rfl) dX0_putHolder_43 (fun H locs hP hD hS => ?_)
    have hP : va_P D vwCl (hW h ad cI cZ ex pa di qu gc dg dp dv dd ds dc td (va_up ho (dp d) (some d)) ak se pr) H := hP
    have hD : va_D A (hW h ad cI cZ ex pa di qu gc dg dp dv dd ds dc td (va_up ho (dp d) (some d)) ak se pr) := hD
    have hP : va_P D vwCl (hW h ad cI cZ ex pa di qu gc dg dp dv dd ds dc td (phd ho dp dd d) ak se pr) H := by rw [show phd ho dp dd d = va_up ho (dp d) (some d) from phd_none eo5]; exact hP
    exact q_wretV hx hb hr hlocks hAe hP hS dX0_putHolder_44
  | some q =>
    have hq : q < dc := hho _ hdp q eo5.symm
    have hA1 := hdd q hq
    have hA2 := hdd d hd
    refine lv_aload_n hx hb dX0_putHolder_14 rfl (lv_at hl 2 rfl) ?_
    refine lv_iload_n hx hb dX0_putHolder_15 rfl (lv_at hl 0 rfl) ?_
    refine q_callI (r := bI (decide (q < dc))) (va_runV (As := [.int (nI q)]) (rest := []) ⟨hx, hb, hml, hown, hts⟩ (kX0_isEnteredN l D h ad cI cZ ex pa di qu gc dg dp dv dd ds dc td ho ak se pr q (by omega) hdc) (cwV 1 hts gX0_putHolder_X0_isEntered rfl rfl rfl (by decide +kernel) ⟨Nat.le_of_ble_eq_true rfl, Nat.le_of_ble_eq_true rfl⟩) ⟨pP_blind, va_recv hK hP (ci := 0) (q0 := 0) rfl rfl, pP_pre hP hK⟩ rfl rfl hl.1 rfl (lv_room (Nat.le_of_ble_eq_true rfl)) dX0_putHolder_16 ⟨Nat.zero_le _, Nat.zero_le _⟩) ?_
    refine q_ifB_eq (b := decide (q < dc)) (tgt := 37) hx hb dX0_putHolder_19 (by decide) (fun k19 => absurd k19 (by rw [decide_eq_true hq]; decide)) (fun k19 => ?_)
    refine lv_aload_n hx hb dX0_putHolder_22 rfl (lv_at hl 2 rfl) ?_
    refine va_get (D := D) (ci := 0) (v := .ref (ad 8)) (C := RX0) (T := TX0) (N := 16) hx hb hts (iX0_putHolder) hown hK hP 0 rfl rfl 8 (by decide) (hts (.fieldLink RX0 36 "ShopHub" "draftDays" "[I") (by decide +kernel)) (fun _ h9 => h9) rfl dX0_putHolder_23 ?_
    refine lv_iload_n hx hb dX0_putHolder_26 rfl (lv_at hl 3 rfl) ?_
    refine q_ald nI dd hx hb hK hP 8 1 rfl rfl (k := d) (by omega) (Nat.le_of_ble_eq_true rfl) dX0_putHolder_27 ?_
    refine lv_aload_n hx hb dX0_putHolder_28 rfl (lv_at hl 2 rfl) ?_
    refine va_get (D := D) (ci := 0) (v := .ref (ad 8)) (C := RX0) (T := TX0) (N := 16) hx hb hts (iX0_putHolder) hown hK hP 0 rfl rfl 8 (by decide) (hts (.fieldLink RX0 36 "ShopHub" "draftDays" "[I") (by decide +kernel)) (fun _ h9 => h9) rfl dX0_putHolder_29 ?_
    refine lv_iload_n hx hb dX0_putHolder_32 rfl (lv_at hl 0 rfl) ?_
    refine q_ald nI dd hx hb hK hP 8 1 rfl rfl (k := q) (by omega) (Nat.le_of_ble_eq_true rfl) dX0_putHolder_33 ?_
    refine q_icmpN_lt (a := dd d) (b := dd q) (tgt := 44) (by omega) (by omega) hx hb dX0_putHolder_34 (by decide) (fun k34 => ?_) (fun k34 => ?_)
    · have hP : va_P D vwCl (hW h ad cI cZ ex pa di qu gc dg dp dv dd ds dc td (phd ho dp dd d) ak se pr) s.heap := by rw [show phd ho dp dd d = ho from phd_lt eo5 k34]; exact hP
      exact q_wretV hx hb hr hlocks hAe hP hS dX0_putHolder_44
    · refine lv_aload_n hx hb dX0_putHolder_37 rfl (lv_at hl 2 rfl) ?_
      refine va_get (D := D) (ci := 0) (v := .ref (ad 12)) (C := RX0) (T := TX0) (N := 16) hx hb hts (iX0_putHolder) hown hK hP 0 rfl rfl 12 (by decide) (hts (.fieldLink RX0 48 "ShopHub" "holders" "[I") (by decide +kernel)) (fun _ h9 => h9) rfl dX0_putHolder_38 ?_
      refine lv_iload_n hx hb dX0_putHolder_41 rfl (lv_at hl 1 rfl) ?_
      refine lv_iload_n hx hb dX0_putHolder_42 rfl (lv_at hl 3 rfl) ?_
      refine q_top (y := oI (some d)) ((rfl : nI d = oI (some d))) ?_
      refine q_ast oI ho (some d) hx hb hK hP hD hS 10 1 rfl rfl (k := dp d) (hdp) (Nat.le_of_ble_eq_true rfl) dX0_putHolder_43 (fun H locs hP hD hS => ?_)
      have hP : va_P D vwCl (hW h ad cI cZ ex pa di qu gc dg dp dv dd ds dc td (va_up ho (dp d) (some d)) ak se pr) H := hP
      have hD : va_D A (hW h ad cI cZ ex pa di qu gc dg dp dv dd ds dc td (va_up ho (dp d) (some d)) ak se pr) := hD
      have hP : va_P D vwCl (hW h ad cI cZ ex pa di qu gc dg dp dv dd ds dc td (phd ho dp dd d) ak se pr) H := by rw [show phd ho dp dd d = va_up ho (dp d) (some d) from phd_ge eo5 k34]; exact hP
      exact q_wretV hx hb hr hlocks hAe hP hS dX0_putHolder_44

set_option maxHeartbeats 4000000 in
set_option maxRecDepth 100000 in
theorem kX0_settleHolders (l : Launch) (D : va_G) (h : Nat) (ad : Nat → Nat) (cI cZ : ClassId) (ex : Nat → Bool) (pa : Nat → Option Nat) (di : Nat → Nat) (qu : Nat → Nat) (gc : Nat) (dg : Nat → Nat) (dp : Nat → Nat) (dv : Nat → Option Nat) (dd : Nat → Nat) (ds : Nat → Nat) (dc : Nat) (td : Nat) (ho : Nat → Option Nat) (ak : Nat → Bool) (se : Nat → Option Nat) (pr : Nat → Option Nat) (sz : Nat)  (hdc : dc ≤ 200) (htd : td < 2147483648) (hdp : ∀ k, k < dc → dp k < 1536) (hdd : ∀ k, k < dc → dd k ≤ 1000) (hds : ∀ k, k < dc → ds k ≤ 4) : Met l yX0_settleHolders wsX0_settleHolders ({ frames := 2, cells := 0, slots := 0, locals := 44 } : Room) (wP D (hW h ad cI cZ ex pa di qu gc dg dp dv dd ds dc td ho ak se pr) (hT cI cZ) [.ref h] sz) (wQ D (hW h ad cI cZ ex pa di qu gc dg dp dv dd ds dc td ho ak se pr) (hW h ad cI cZ ex pa di qu gc dg dp dv dd ds dc td (stl ho ds dd dp td dc) ak se pr) none) 0 0 (va_A (hW h ad cI cZ ex pa di qu gc dg dp dv dd ds dc td ho ak se pr) sz) := by
  refine Met.ofW (cc := cX0_settleHolders) (maxL := 2) (ret := none) (by decide) rfl ?_
  intro p e s m args below meth c s₁ B hml hv
  obtain ⟨rfl, hsz, hP, hK, hD0⟩ := hv
  have hx := B.exec
  have hb := B.bytes
  have hr := B.returns
  have hts := atoms_spec (ws := wsX0_settleHolders) B.pre
  have hown : s.vm.findClass RX0 = some m.cls := findClass_of_methodNamed B.named
  have hlocks := B.notSynchronized
  subst hsz
  have hD := hD0.self (sz := s.heap.size)
  generalize hAe : va_A (hW h ad cI cZ ex pa di qu gc dg dp dv dd ds dc td ho ak se pr) s.heap.size = A at hD ⊢
  have hA : ∀ q : Nat, s.heap.size ≤ q → A q := fun q h => by rw [← hAe]; exact Or.inr h
  have hS : va_S A s.heap s.heap [] := va_S.rf
  have hl := lv_entry ([.ref h]) (n := 2) (Nat.le_of_ble_eq_true rfl)
  rw [lg_entry_eq]
  generalize (lg_sl ([.ref h]) ++ List.replicate (2 - (lg_sl ([.ref h])).length) Slot.unset).toArray = ls at hl ⊢
  have hl : lv_has ls 2 [(0, .ref h)] := hl
  refine lv_iconst (v := nI 0) hx hb dX0_settleHolders_0 (by decide) ?_
  refine lv_istore_n (lv' := [(1, .int (nI 0)), (0, .ref h)]) hx hb dX0_settleHolders_1 rfl hl (by decide) rfl (fun ls hl => ?_)
  have loop2 : ∀ (n : Nat) (i : Nat), (i ≤ 1536) → (1537 ≤ i + n) → ∀ (H : Heap) (locs : List Loc), va_P D vwCl (hW h ad cI cZ ex pa di qu gc dg dp dv dd ds dc td (cle ho i) ak se pr) H → va_D A (hW h ad cI cZ ex pa di qu gc dg dp dv dd ds dc td (cle ho i) ak se pr) → va_S A s.heap H locs → ∀ ls : Array Slot, lv_has ls 2 [(0, .ref h), (1, .int (nI i))] → W p l e ({ frames := 2, cells := 0, slots := 0, locals := 44 } : Room) s m ([.ref h] : List Value).toArray below meth c H locs 0 0 (MQ below (wQ D (hW h ad cI cZ ex pa di qu gc dg dp dv dd ds dc td ho ak se pr) (hW h ad cI cZ ex pa di qu gc dg dp dv dd ds dc td (stl ho ds dd dp td dc) ak se pr) none) ([.ref h] : List Value).toArray s 0 0 A) (F0 m 2 ls []) := by
    intro n
    induction n with
    | zero => intro i hle hn; omega
    | succ n ih =>
      intro i hle hn H locs hP hD hS ls hl
      refine lv_iload_n hx hb dX0_settleHolders_2 rfl (lv_at hl 1 rfl) ?_
      refine lv_aload_n hx hb dX0_settleHolders_3 rfl (lv_at hl 0 rfl) ?_
      refine va_get (D := D) (ci := 0) (v := .ref (ad 12)) (C := RX0) (T := TX0) (N := 16) hx hb hts (iX0_settleHolders) hown hK hP 0 rfl rfl 12 (by decide) (hts (.fieldLink RX0 48 "ShopHub" "holders" "[I") (by decide +kernel)) (fun _ h9 => h9) rfl dX0_settleHolders_4 ?_
      refine va_alen hx hb hK hP 10 1 rfl rfl (v := nI 1536) rfl dX0_settleHolders_7 ?_
      refine q_icmpN_ge (a := i) (b := 1536) (tgt := 24) (by omega) (by omega) hx hb dX0_settleHolders_8 (by decide) (fun k8 => ?_) (fun k8 => ?_)
      · refine lv_iconst (v := nI 0) hx hb dX0_settleHolders_24 (by decide) ?_
        refine lv_istore_n (lv' := [(1, .int (nI 0)), (0, .ref h)]) hx hb dX0_settleHolders_25 rfl hl (by decide) rfl (fun ls hl => ?_)
        have loop26 : ∀ (n2 : Nat) (j : Nat), (j ≤ dc) → (dc + 1 ≤ j + n2) → ∀ (H : Heap) (locs : List Loc), va_P D vwCl (hW h ad cI cZ ex pa di qu gc dg dp dv dd ds dc td (stl ho ds dd dp td j) ak se pr) H → va_D A (hW h ad cI cZ ex pa di qu gc dg dp dv dd ds dc td (stl ho ds dd dp td j) ak se pr) → va_S A s.heap H locs → ∀ ls : Array Slot, lv_has ls 2 [(0, .ref h), (1, .int (nI j))] → W p l e ({ frames := 2, cells := 0, slots := 0, locals := 44 } : Room) s m ([.ref h] : List Value).toArray below meth c H locs 0 0 (MQ below (wQ D (hW h ad cI cZ ex pa di qu gc dg dp dv dd ds dc td ho ak se pr) (hW h ad cI cZ ex pa di qu gc dg dp dv dd ds dc td (stl ho ds dd dp td dc) ak se pr) none) ([.ref h] : List Value).toArray s 0 0 A) (F0 m 26 ls []) := by
          intro n2
          induction n2 with
          | zero => intro j hle2 hn2; omega
          | succ n2 ih2 =>
            intro j hle2 hn2 H locs hP hD hS ls hl
            have hB1 : j < dc → ds j ≤ 4 := hds j
            have hB2 : j < dc → dd j ≤ 1000 := hdd j
            refine lv_iload_n hx hb dX0_settleHolders_26 rfl (lv_at hl 1 rfl) ?_
            refine lv_aload_n hx hb dX0_settleHolders_27 rfl (lv_at hl 0 rfl) ?_
            refine va_get (D := D) (ci := 0) (v := .int (nI dc)) (C := RX0) (T := TX0) (N := 16) hx hb hts (iX0_settleHolders) hown hK hP 0 rfl rfl 10 (by decide) (hts (.fieldLink RX0 42 "ShopHub" "draftCount" "I") (by decide +kernel)) (fun _ h9 => h9) rfl dX0_settleHolders_28 ?_
            refine q_icmpN_ge (a := j) (b := dc) (tgt := 68) (by omega) (by omega) hx hb dX0_settleHolders_31 (by decide) (fun k31 => ?_) (fun k31 => ?_)
            · have hP : va_P D vwCl (hW h ad cI cZ ex pa di qu gc dg dp dv dd ds dc td (stl ho ds dd dp td dc) ak se pr) H := by rw [show stl ho ds dd dp td dc = stl ho ds dd dp td j from by rw [show j = dc by omega]]; exact hP
              exact q_wretV hx hb hr hlocks hAe hP hS dX0_settleHolders_68
            · refine lv_aload_n hx hb dX0_settleHolders_34 rfl (lv_at hl 0 rfl) ?_
              refine va_get (D := D) (ci := 0) (v := .ref (ad 9)) (C := RX0) (T := TX0) (N := 16) hx hb hts (iX0_settleHolders) hown hK hP 0 rfl rfl 9 (by decide) (hts (.fieldLink RX0 39 "ShopHub" "draftStates" "[I") (by decide +kernel)) (fun _ h9 => h9) rfl dX0_settleHolders_35 ?_
              refine lv_iload_n hx hb dX0_settleHolders_38 rfl (lv_at hl 1 rfl) ?_
              refine q_ald nI ds hx hb hK hP 9 1 rfl rfl (k := j) (by omega) (Nat.le_of_ble_eq_true rfl) dX0_settleHolders_39 ?_
              refine lv_iconst (v := nI 2) hx hb dX0_settleHolders_40 (by decide) ?_
              refine q_icmpN_ne (a := ds j) (b := 2) (tgt := 62) (by have := hds j (by omega); omega) (by omega) hx hb dX0_settleHolders_41 (by decide) (fun k41 => ?_) (fun k41 => ?_)
              · refine lv_iinc (v := nI (j + 1)) (lv' := [(1, .int (nI (j + 1))), (0, .ref h)]) hx hb dX0_settleHolders_62 hl (k := 1) rfl (i1_n j) (by decide) rfl (fun ls hl => ?_)
                refine lv_goto (tgt := 26) hx hb dX0_settleHolders_65 (by decide) ?_
                have hP : va_P D vwCl (hW h ad cI cZ ex pa di qu gc dg dp dv dd ds dc td (stl ho ds dd dp td (j + 1)) ak se pr) H := by rw [show stl ho ds dd dp td (j + 1) = stl ho ds dd dp td j from stl_skip (Or.inl k41)]; exact hP
                have hD : va_D A (hW h ad cI cZ ex pa di qu gc dg dp dv dd ds dc td (stl ho ds dd dp td (j + 1)) ak se pr) := by rw [show stl ho ds dd dp td (j + 1) = stl ho ds dd dp td j from stl_skip (Or.inl k41)]; exact hD
                exact ih2 (j + 1) (by omega) (by omega) _ _ hP hD hS _ (lv_sub hl [1, 0] rfl)
              · refine lv_aload_n hx hb dX0_settleHolders_44 rfl (lv_at hl 0 rfl) ?_
                refine va_get (D := D) (ci := 0) (v := .ref (ad 8)) (C := RX0) (T := TX0) (N := 16) hx hb hts (iX0_settleHolders) hown hK hP 0 rfl rfl 8 (by decide) (hts (.fieldLink RX0 36 "ShopHub" "draftDays" "[I") (by decide +kernel)) (fun _ h9 => h9) rfl dX0_settleHolders_45 ?_
                refine lv_iload_n hx hb dX0_settleHolders_48 rfl (lv_at hl 1 rfl) ?_
                refine q_ald nI dd hx hb hK hP 8 1 rfl rfl (k := j) (by omega) (Nat.le_of_ble_eq_true rfl) dX0_settleHolders_49 ?_
                refine lv_aload_n hx hb dX0_settleHolders_50 rfl (lv_at hl 0 rfl) ?_
                refine va_get (D := D) (ci := 0) (v := .int (nI td)) (C := RX0) (T := TX0) (N := 16) hx hb hts (iX0_settleHolders) hown hK hP 0 rfl rfl 11 (by decide) (hts (.fieldLink RX0 45 "ShopHub" "today" "I") (by decide +kernel)) (fun _ h9 => h9) rfl dX0_settleHolders_51 ?_
                refine q_icmpN_gt (a := dd j) (b := td) (tgt := 62) (by have := hdd j (by omega); omega) (by omega) hx hb dX0_settleHolders_54 (by decide) (fun k54 => ?_) (fun k54 => ?_)
                · refine lv_iinc (v := nI (j + 1)) (lv' := [(1, .int (nI (j + 1))), (0, .ref h)]) hx hb dX0_settleHolders_62 hl (k := 1) rfl (i1_n j) (by decide) rfl (fun ls hl => ?_)
                  refine lv_goto (tgt := 26) hx hb dX0_settleHolders_65 (by decide) ?_
                  have hP : va_P D vwCl (hW h ad cI cZ ex pa di qu gc dg dp dv dd ds dc td (stl ho ds dd dp td (j + 1)) ak se pr) H := by rw [show stl ho ds dd dp td (j + 1) = stl ho ds dd dp td j from stl_skip (Or.inr k54)]; exact hP
                  have hD : va_D A (hW h ad cI cZ ex pa di qu gc dg dp dv dd ds dc td (stl ho ds dd dp td (j + 1)) ak se pr) := by rw [show stl ho ds dd dp td (j + 1) = stl ho ds dd dp td j from stl_skip (Or.inr k54)]; exact hD
                  exact ih2 (j + 1) (by omega) (by omega) _ _ hP hD hS _ (lv_sub hl [1, 0] rfl)
                · refine lv_aload_n hx hb dX0_settleHolders_57 rfl (lv_at hl 0 rfl) ?_
                  refine lv_iload_n hx hb dX0_settleHolders_58 rfl (lv_at hl 1 rfl) ?_
                  refine q_wcallV (w' := (hW h ad cI cZ ex pa di qu gc dg dp dv dd ds dc td (phd (stl ho ds dd dp td j) dp dd j) ak se pr)) (va_runV (As := [.int (nI j)]) (rest := []) ⟨hx, hb, hml, hown, hts⟩ (kX0_putHolder l D h ad cI cZ ex pa di qu gc dg dp dv dd ds dc td (stl ho ds dd dp td j) ak se pr _ j (by omega) hdc (hdp j (by omega)) (stl_HO hle2) hdd) (cwV 1 hts gX0_settleHolders_X0_putHolder rfl rfl rfl (by decide +kernel) ⟨Nat.le_of_ble_eq_true rfl, Nat.le_of_ble_eq_true rfl⟩) ⟨wP_blind, va_recv hK hP (ci := 0) (q0 := 0) rfl rfl, wP_pre hP hK hD⟩ rfl rfl hl.1 rfl (lv_room (Nat.le_of_ble_eq_true rfl)) dX0_settleHolders_59 ⟨Nat.zero_le _, Nat.zero_le _⟩) hD hS hA rfl (fun H locs hP hD hS => ?_)
                  refine lv_iinc (v := nI (j + 1)) (lv' := [(1, .int (nI (j + 1))), (0, .ref h)]) hx hb dX0_settleHolders_62 hl (k := 1) rfl (i1_n j) (by decide) rfl (fun ls hl => ?_)
                  refine lv_goto (tgt := 26) hx hb dX0_settleHolders_65 (by decide) ?_
                  have hP : va_P D vwCl (hW h ad cI cZ ex pa di qu gc dg dp dv dd ds dc td (stl ho ds dd dp td (j + 1)) ak se pr) H := by rw [show stl ho ds dd dp td (j + 1) = phd (stl ho ds dd dp td j) dp dd j from stl_put k41 k54 (hdp j (by omega))]; exact hP
                  have hD : va_D A (hW h ad cI cZ ex pa di qu gc dg dp dv dd ds dc td (stl ho ds dd dp td (j + 1)) ak se pr) := by rw [show stl ho ds dd dp td (j + 1) = phd (stl ho ds dd dp td j) dp dd j from stl_put k41 k54 (hdp j (by omega))]; exact hD
                  exact ih2 (j + 1) (by omega) (by omega) _ _ hP hD hS _ (lv_sub hl [1, 0] rfl)
        have hP : va_P D vwCl (hW h ad cI cZ ex pa di qu gc dg dp dv dd ds dc td (stl ho ds dd dp td 0) ak se pr) H := by rw [show stl ho ds dd dp td 0 = cle ho i from by rw [show i = 1536 by omega]; rfl]; exact hP
        have hD : va_D A (hW h ad cI cZ ex pa di qu gc dg dp dv dd ds dc td (stl ho ds dd dp td 0) ak se pr) := by rw [show stl ho ds dd dp td 0 = cle ho i from by rw [show i = 1536 by omega]; rfl]; exact hD
        exact loop26 (dc + 1) 0 (by omega) (by omega) _ _ hP hD hS _ (lv_sub hl [1, 0] rfl)
      · refine lv_aload_n hx hb dX0_settleHolders_11 rfl (lv_at hl 0 rfl) ?_
        refine va_get (D := D) (ci := 0) (v := .ref (ad 12)) (C := RX0) (T := TX0) (N := 16) hx hb hts (iX0_settleHolders) hown hK hP 0 rfl rfl 12 (by decide) (hts (.fieldLink RX0 48 "ShopHub" "holders" "[I") (by decide +kernel)) (fun _ h9 => h9) rfl dX0_settleHolders_12 ?_
        refine lv_iload_n hx hb dX0_settleHolders_15 rfl (lv_at hl 1 rfl) ?_
        refine lv_iconst (v := oI none) hx hb dX0_settleHolders_16 (by decide) ?_
        refine q_ast oI (cle ho i) none hx hb hK hP hD hS 10 1 rfl rfl (k := i) (by omega) (Nat.le_of_ble_eq_true rfl) dX0_settleHolders_17 (fun H locs hP hD hS => ?_)
        have hP : va_P D vwCl (hW h ad cI cZ ex pa di qu gc dg dp dv dd ds dc td (va_up (cle ho i) i none) ak se pr) H := hP
        have hD : va_D A (hW h ad cI cZ ex pa di qu gc dg dp dv dd ds dc td (va_up (cle ho i) i none) ak se pr) := hD
        refine lv_iinc (v := nI (i + 1)) (lv' := [(1, .int (nI (i + 1))), (0, .ref h)]) hx hb dX0_settleHolders_18 hl (k := 1) rfl (i1_n i) (by decide) rfl (fun ls hl => ?_)
        refine lv_goto (tgt := 2) hx hb dX0_settleHolders_21 (by decide) ?_
        have hP : va_P D vwCl (hW h ad cI cZ ex pa di qu gc dg dp dv dd ds dc td (cle ho (i + 1)) ak se pr) H := by rw [show cle ho (i + 1) = va_up (cle ho i) i none from cle_s ho i]; exact hP
        have hD : va_D A (hW h ad cI cZ ex pa di qu gc dg dp dv dd ds dc td (cle ho (i + 1)) ak se pr) := by rw [show cle ho (i + 1) = va_up (cle ho i) i none from cle_s ho i]; exact hD
        exact ih (i + 1) (by omega) (by omega) _ _ hP hD hS _ (lv_sub hl [1, 0] rfl)
  have hP : va_P D vwCl (hW h ad cI cZ ex pa di qu gc dg dp dv dd ds dc td (cle ho 0) ak se pr) s.heap := by rw [show cle ho 0 = ho from cle_0 ho]; exact hP
  have hD : va_D A (hW h ad cI cZ ex pa di qu gc dg dp dv dd ds dc td (cle ho 0) ak se pr) := by rw [show cle ho 0 = ho from cle_0 ho]; exact hD
  exact loop2 1537 0 (by omega) (Nat.le_refl 1537) _ _ hP hD hS _ (lv_sub hl [1, 0] rfl)

set_option maxHeartbeats 4000000 in
set_option maxRecDepth 100000 in
theorem kX0_deleteDraftsOf (l : Launch) (D : va_G) (h : Nat) (ad : Nat → Nat) (cI cZ : ClassId) (ex : Nat → Bool) (pa : Nat → Option Nat) (di : Nat → Nat) (qu : Nat → Nat) (gc : Nat) (dg : Nat → Nat) (dp : Nat → Nat) (dv : Nat → Option Nat) (dd : Nat → Nat) (ds : Nat → Nat) (dc : Nat) (td : Nat) (ho : Nat → Option Nat) (ak : Nat → Bool) (se : Nat → Option Nat) (pr : Nat → Option Nat) (sz : Nat) (g : Nat) (hdc : dc ≤ 200) (hg : g < 16) (hdg : ∀ k, k < dc → dg k < 16) : Met l yX0_deleteDraftsOf wsX0_deleteDraftsOf ({ frames := 0, cells := 0, slots := 0, locals := 0 } : Room) (wP D (hW h ad cI cZ ex pa di qu gc dg dp dv dd ds dc td ho ak se pr) (hT cI cZ) [.ref h, .int (nI g)] sz) (wQ D (hW h ad cI cZ ex pa di qu gc dg dp dv dd ds dc td ho ak se pr) (hW h ad cI cZ ex pa di qu gc dg dp dv dd (kil ds dg g dc) dc td ho ak se pr) none) 0 0 (va_A (hW h ad cI cZ ex pa di qu gc dg dp dv dd ds dc td ho ak se pr) sz) := by
  refine Met.ofW (cc := cX0_deleteDraftsOf) (maxL := 3) (ret := none) (by decide) rfl ?_
  intro p e s m args below meth c s₁ B hml hv
  obtain ⟨rfl, hsz, hP, hK, hD0⟩ := hv
  have hx := B.exec
  have hb := B.bytes
  have hr := B.returns
  have hts := atoms_spec (ws := wsX0_deleteDraftsOf) B.pre
  have hown : s.vm.findClass RX0 = some m.cls := findClass_of_methodNamed B.named
  have hlocks := B.notSynchronized
  subst hsz
  have hD := hD0.self (sz := s.heap.size)
  generalize hAe : va_A (hW h ad cI cZ ex pa di qu gc dg dp dv dd ds dc td ho ak se pr) s.heap.size = A at hD ⊢
  have hA : ∀ q : Nat, s.heap.size ≤ q → A q := fun q h => by rw [← hAe]; exact Or.inr h
  have hS : va_S A s.heap s.heap [] := va_S.rf
  have hl := lv_entry ([.ref h, .int (nI g)]) (n := 3) (Nat.le_of_ble_eq_true rfl)
  rw [lg_entry_eq]
  generalize (lg_sl ([.ref h, .int (nI g)]) ++ List.replicate (3 - (lg_sl ([.ref h, .int (nI g)])).length) Slot.unset).toArray = ls at hl ⊢
  have hl : lv_has ls 3 [(0, .ref h), (1, .int (nI g))] := hl
  refine lv_iconst (v := nI 0) hx hb dX0_deleteDraftsOf_0 (by decide) ?_
  refine lv_istore_n (lv' := [(2, .int (nI 0)), (0, .ref h), (1, .int (nI g))]) hx hb dX0_deleteDraftsOf_1 rfl hl (by decide) rfl (fun ls hl => ?_)
  have loop2 : ∀ (n : Nat) (i : Nat), (i ≤ dc) → (dc + 1 ≤ i + n) → ∀ (H : Heap) (locs : List Loc), va_P D vwCl (hW h ad cI cZ ex pa di qu gc dg dp dv dd (kil ds dg g i) dc td ho ak se pr) H → va_D A (hW h ad cI cZ ex pa di qu gc dg dp dv dd (kil ds dg g i) dc td ho ak se pr) → va_S A s.heap H locs → ∀ ls : Array Slot, lv_has ls 3 [(0, .ref h), (1, .int (nI g)), (2, .int (nI i))] → W p l e ({ frames := 0, cells := 0, slots := 0, locals := 0 } : Room) s m ([.ref h, .int (nI g)] : List Value).toArray below meth c H locs 0 0 (MQ below (wQ D (hW h ad cI cZ ex pa di qu gc dg dp dv dd ds dc td ho ak se pr) (hW h ad cI cZ ex pa di qu gc dg dp dv dd (kil ds dg g dc) dc td ho ak se pr) none) ([.ref h, .int (nI g)] : List Value).toArray s 0 0 A) (F0 m 2 ls []) := by
    intro n
    induction n with
    | zero => intro i hle hn; omega
    | succ n ih =>
      intro i hle hn H locs hP hD hS ls hl
      refine lv_iload_n hx hb dX0_deleteDraftsOf_2 rfl (lv_at hl 2 rfl) ?_
      refine lv_aload_n hx hb dX0_deleteDraftsOf_3 rfl (lv_at hl 0 rfl) ?_
      refine va_get (D := D) (ci := 0) (v := .int (nI dc)) (C := RX0) (T := TX0) (N := 16) hx hb hts (iX0_deleteDraftsOf) hown hK hP 0 rfl rfl 10 (by decide) (hts (.fieldLink RX0 42 "ShopHub" "draftCount" "I") (by decide +kernel)) (fun _ h9 => h9) rfl dX0_deleteDraftsOf_4 ?_
      refine q_icmpN_ge (a := i) (b := dc) (tgt := 33) (by omega) (by omega) hx hb dX0_deleteDraftsOf_7 (by decide) (fun k7 => ?_) (fun k7 => ?_)
      · have hP : va_P D vwCl (hW h ad cI cZ ex pa di qu gc dg dp dv dd (kil ds dg g dc) dc td ho ak se pr) H := by rw [show kil ds dg g dc = kil ds dg g i from by rw [show i = dc by omega]]; exact hP
        exact q_wretV hx hb hr hlocks hAe hP hS dX0_deleteDraftsOf_33
      · refine lv_aload_n hx hb dX0_deleteDraftsOf_10 rfl (lv_at hl 0 rfl) ?_
        refine va_get (D := D) (ci := 0) (v := .ref (ad 5)) (C := RX0) (T := TX0) (N := 16) hx hb hts (iX0_deleteDraftsOf) hown hK hP 0 rfl rfl 5 (by decide) (hts (.fieldLink RX0 27 "ShopHub" "draftGoods" "[I") (by decide +kernel)) (fun _ h9 => h9) rfl dX0_deleteDraftsOf_11 ?_
        refine lv_iload_n hx hb dX0_deleteDraftsOf_14 rfl (lv_at hl 2 rfl) ?_
        refine q_ald nI dg hx hb hK hP 5 1 rfl rfl (k := i) (by omega) (Nat.le_of_ble_eq_true rfl) dX0_deleteDraftsOf_15 ?_
        refine lv_iload_n hx hb dX0_deleteDraftsOf_16 rfl (lv_at hl 1 rfl) ?_
        refine q_icmpN_ne (a := dg i) (b := g) (tgt := 27) (by have := hdg i (by omega); omega) (by omega) hx hb dX0_deleteDraftsOf_17 (by decide) (fun k17 => ?_) (fun k17 => ?_)
        · refine lv_iinc (v := nI (i + 1)) (lv' := [(2, .int (nI (i + 1))), (0, .ref h), (1, .int (nI g))]) hx hb dX0_deleteDraftsOf_27 hl (k := 2) rfl (i1_n i) (by decide) rfl (fun ls hl => ?_)
          refine lv_goto (tgt := 2) hx hb dX0_deleteDraftsOf_30 (by decide) ?_
          have hP : va_P D vwCl (hW h ad cI cZ ex pa di qu gc dg dp dv dd (kil ds dg g (i + 1)) dc td ho ak se pr) H := by rw [show kil ds dg g (i + 1) = kil ds dg g i from kil_f k17]; exact hP
          have hD : va_D A (hW h ad cI cZ ex pa di qu gc dg dp dv dd (kil ds dg g (i + 1)) dc td ho ak se pr) := by rw [show kil ds dg g (i + 1) = kil ds dg g i from kil_f k17]; exact hD
          exact ih (i + 1) (by omega) (by omega) _ _ hP hD hS _ (lv_sub hl [1, 2, 0] rfl)
        · refine lv_aload_n hx hb dX0_deleteDraftsOf_20 rfl (lv_at hl 0 rfl) ?_
          refine va_get (D := D) (ci := 0) (v := .ref (ad 9)) (C := RX0) (T := TX0) (N := 16) hx hb hts (iX0_deleteDraftsOf) hown hK hP 0 rfl rfl 9 (by decide) (hts (.fieldLink RX0 39 "ShopHub" "draftStates" "[I") (by decide +kernel)) (fun _ h9 => h9) rfl dX0_deleteDraftsOf_21 ?_
          refine lv_iload_n hx hb dX0_deleteDraftsOf_24 rfl (lv_at hl 2 rfl) ?_
          refine lv_iconst (v := nI 4) hx hb dX0_deleteDraftsOf_25 (by decide) ?_
          refine q_ast nI (kil ds dg g i) 4 hx hb hK hP hD hS 9 1 rfl rfl (k := i) (by omega) (Nat.le_of_ble_eq_true rfl) dX0_deleteDraftsOf_26 (fun H locs hP hD hS => ?_)
          have hP : va_P D vwCl (hW h ad cI cZ ex pa di qu gc dg dp dv dd (va_up (kil ds dg g i) i 4) dc td ho ak se pr) H := hP
          have hD : va_D A (hW h ad cI cZ ex pa di qu gc dg dp dv dd (va_up (kil ds dg g i) i 4) dc td ho ak se pr) := hD
          refine lv_iinc (v := nI (i + 1)) (lv' := [(2, .int (nI (i + 1))), (0, .ref h), (1, .int (nI g))]) hx hb dX0_deleteDraftsOf_27 hl (k := 2) rfl (i1_n i) (by decide) rfl (fun ls hl => ?_)
          refine lv_goto (tgt := 2) hx hb dX0_deleteDraftsOf_30 (by decide) ?_
          have hP : va_P D vwCl (hW h ad cI cZ ex pa di qu gc dg dp dv dd (kil ds dg g (i + 1)) dc td ho ak se pr) H := by rw [show kil ds dg g (i + 1) = va_up (kil ds dg g i) i 4 from kil_t k17]; exact hP
          have hD : va_D A (hW h ad cI cZ ex pa di qu gc dg dp dv dd (kil ds dg g (i + 1)) dc td ho ak se pr) := by rw [show kil ds dg g (i + 1) = va_up (kil ds dg g i) i 4 from kil_t k17]; exact hD
          exact ih (i + 1) (by omega) (by omega) _ _ hP hD hS _ (lv_sub hl [1, 2, 0] rfl)
  have hP : va_P D vwCl (hW h ad cI cZ ex pa di qu gc dg dp dv dd (kil ds dg g 0) dc td ho ak se pr) s.heap := by rw [show kil ds dg g 0 = ds from kil_0 ds dg g]; exact hP
  have hD : va_D A (hW h ad cI cZ ex pa di qu gc dg dp dv dd (kil ds dg g 0) dc td ho ak se pr) := by rw [show kil ds dg g 0 = ds from kil_0 ds dg g]; exact hD
  exact loop2 (dc + 1) 0 (by omega) (by omega) _ _ hP hD hS _ (lv_sub hl [1, 2, 0] rfl)

set_option maxHeartbeats 4000000 in
set_option maxRecDepth 100000 in
theorem kX0_rememberSights (l : Launch) (D : va_G) (h : Nat) (ad : Nat → Nat) (cI cZ : ClassId) (ex : Nat → Bool) (pa : Nat → Option Nat) (di : Nat → Nat) (qu : Nat → Nat) (gc : Nat) (dg : Nat → Nat) (dp : Nat → Nat) (dv : Nat → Option Nat) (dd : Nat → Nat) (ds : Nat → Nat) (dc : Nat) (td : Nat) (ho : Nat → Option Nat) (ak : Nat → Bool) (se : Nat → Option Nat) (pr : Nat → Option Nat) (sz : Nat) (g sp : Nat) (hg : g < 16) (hs : sp < 3) (hpr : PR pa) (hho : HO ho dc) (hdc : dc ≤ 200) : Met l yX0_rememberSights wsX0_rememberSights ({ frames := 4, cells := 0, slots := 0, locals := 102 } : Room) (wP D (hW h ad cI cZ ex pa di qu gc dg dp dv dd ds dc td ho ak se pr) (hT cI cZ) [.ref h, .int (nI g), .int (nI sp)] sz) (wQ D (hW h ad cI cZ ex pa di qu gc dg dp dv dd ds dc td ho ak se pr) (hW h ad cI cZ ex pa di qu gc dg dp dv dd ds dc td ho ak (rmb se (sgt ex pa ho dv sp g) (sp * 288 + g * 18) 18) pr) none) 0 0 (va_A (hW h ad cI cZ ex pa di qu gc dg dp dv dd ds dc td ho ak se pr) sz) := by
  refine Met.ofW (cc := cX0_rememberSights) (maxL := 5) (ret := none) (by decide) rfl ?_
  intro p e s m args below meth c s₁ B hml hv
  obtain ⟨rfl, hsz, hP, hK, hD0⟩ := hv
  have hx := B.exec
  have hb := B.bytes
  have hr := B.returns
  have hts := atoms_spec (ws := wsX0_rememberSights) B.pre
  have hown : s.vm.findClass RX0 = some m.cls := findClass_of_methodNamed B.named
  have hlocks := B.notSynchronized
  subst hsz
  have hD := hD0.self (sz := s.heap.size)
  generalize hAe : va_A (hW h ad cI cZ ex pa di qu gc dg dp dv dd ds dc td ho ak se pr) s.heap.size = A at hD ⊢
  have hA : ∀ q : Nat, s.heap.size ≤ q → A q := fun q h => by rw [← hAe]; exact Or.inr h
  have hS : va_S A s.heap s.heap [] := va_S.rf
  have hl := lv_entry ([.ref h, .int (nI g), .int (nI sp)]) (n := 5) (Nat.le_of_ble_eq_true rfl)
  rw [lg_entry_eq]
  generalize (lg_sl ([.ref h, .int (nI g), .int (nI sp)]) ++ List.replicate (5 - (lg_sl ([.ref h, .int (nI g), .int (nI sp)])).length) Slot.unset).toArray = ls at hl ⊢
  have hl : lv_has ls 5 [(0, .ref h), (1, .int (nI g)), (2, .int (nI sp))] := hl
  refine lv_iload_n hx hb dX0_rememberSights_0 rfl (lv_at hl 2 rfl) ?_
  refine lv_sipush (v := nI 288) hx hb dX0_rememberSights_1 (by decide) ?_
  refine q_mulN (a := sp) (b := 288) hx hb dX0_rememberSights_4 ?_
  refine lv_iload_n hx hb dX0_rememberSights_5 rfl (lv_at hl 1 rfl) ?_
  refine lv_bipush (v := nI 18) hx hb dX0_rememberSights_6 (by decide) ?_
  refine q_mulN (a := g) (b := 18) hx hb dX0_rememberSights_8 ?_
  refine q_addN (a := sp * 288) (b := g * 18) hx hb dX0_rememberSights_9 ?_
  refine lv_istore_n (lv' := [(3, .int (nI ((sp * 288) + (g * 18)))), (0, .ref h), (1, .int (nI g)), (2, .int (nI sp))]) hx hb dX0_rememberSights_10 rfl hl (by decide) rfl (fun ls hl => ?_)
  refine lv_iconst (v := nI 0) hx hb dX0_rememberSights_11 (by decide) ?_
  refine lv_istore (lv' := [(4, .int (nI 0)), (3, .int (nI ((sp * 288) + (g * 18)))), (0, .ref h), (1, .int (nI g)), (2, .int (nI sp))]) hx hb dX0_rememberSights_12 hl (by decide) rfl (fun ls hl => ?_)
  have loop14 : ∀ (n : Nat) (i : Nat), (i ≤ 18) → (19 ≤ i + n) → ∀ (H : Heap) (locs : List Loc), va_P D vwCl (hW h ad cI cZ ex pa di qu gc dg dp dv dd ds dc td ho ak (rmb se (sgt ex pa ho dv sp g) (sp * 288 + g * 18) i) pr) H → va_D A (hW h ad cI cZ ex pa di qu gc dg dp dv dd ds dc td ho ak (rmb se (sgt ex pa ho dv sp g) (sp * 288 + g * 18) i) pr) → va_S A s.heap H locs → ∀ ls : Array Slot, lv_has ls 5 [(0, .ref h), (1, .int (nI g)), (2, .int (nI sp)), (3, .int (nI ((sp * 288) + (g * 18)))), (4, .int (nI i))] → W p l e ({ frames := 4, cells := 0, slots := 0, locals := 102 } : Room) s m ([.ref h, .int (nI g), .int (nI sp)] : List Value).toArray below meth c H locs 0 0 (MQ below (wQ D (hW h ad cI cZ ex pa di qu gc dg dp dv dd ds dc td ho ak se pr) (hW h ad cI cZ ex pa di qu gc dg dp dv dd ds dc td ho ak (rmb se (sgt ex pa ho dv sp g) (sp * 288 + g * 18) 18) pr) none) ([.ref h, .int (nI g), .int (nI sp)] : List Value).toArray s 0 0 A) (F0 m 14 ls []) := by
    intro n
    induction n with
    | zero => intro i hle hn; omega
    | succ n ih =>
      intro i hle hn H locs hP hD hS ls hl
      refine lv_iload hx hb dX0_rememberSights_14 (lv_at hl 4 rfl) ?_
      refine lv_bipush (v := nI 18) hx hb dX0_rememberSights_16 (by decide) ?_
      refine q_icmpN_ge (a := i) (b := 18) (tgt := 50) (by omega) (by omega) hx hb dX0_rememberSights_18 (by decide) (fun k18 => ?_) (fun k18 => ?_)
      · have hP : va_P D vwCl (hW h ad cI cZ ex pa di qu gc dg dp dv dd ds dc td ho ak (rmb se (sgt ex pa ho dv sp g) (sp * 288 + g * 18) 18) pr) H := by rw [show rmb se (sgt ex pa ho dv sp g) (sp * 288 + g * 18) 18 = rmb se (sgt ex pa ho dv sp g) (sp * 288 + g * 18) i from by rw [show i = 18 by omega]]; exact hP
        exact q_wretV hx hb hr hlocks hAe hP hS dX0_rememberSights_50
      · refine lv_aload_n hx hb dX0_rememberSights_21 rfl (lv_at hl 0 rfl) ?_
        refine va_get (D := D) (ci := 0) (v := .ref (ad 14)) (C := RX0) (T := TX0) (N := 16) hx hb hts (iX0_rememberSights) hown hK hP 0 rfl rfl 14 (by decide) (hts (.fieldLink RX0 54 "ShopHub" "seen" "[I") (by decide +kernel)) (fun _ h9 => h9) rfl dX0_rememberSights_22 ?_
        refine lv_iload_n hx hb dX0_rememberSights_25 rfl (lv_at hl 3 rfl) ?_
        refine lv_iload hx hb dX0_rememberSights_26 (lv_at hl 4 rfl) ?_
        refine q_addN (a := (sp * 288) + (g * 18)) (b := i) hx hb dX0_rememberSights_28 ?_
        refine lv_aload_n hx hb dX0_rememberSights_29 rfl (lv_at hl 0 rfl) ?_
        refine lv_iload_n hx hb dX0_rememberSights_30 rfl (lv_at hl 1 rfl) ?_
        refine lv_iload hx hb dX0_rememberSights_31 (lv_at hl 4 rfl) ?_
        refine lv_iconst (v := nI 3) hx hb dX0_rememberSights_33 (by decide) ?_
        refine q_divN (a := i) (b := 3) (by omega) (by decide) (by decide) hx hb dX0_rememberSights_34 ?_
        refine lv_iload_n hx hb dX0_rememberSights_35 rfl (lv_at hl 2 rfl) ?_
        refine lv_iload hx hb dX0_rememberSights_36 (lv_at hl 4 rfl) ?_
        refine lv_iconst (v := nI 3) hx hb dX0_rememberSights_38 (by decide) ?_
        refine q_remN (a := i) (b := 3) (by omega) (by decide) (by decide) hx hb dX0_rememberSights_39 ?_
        refine q_callI (r := oI (vlu ex pa ho dv (i / 3) (sp + 1) ((i % 3) + 1) g)) (va_runV (As := [.int (nI g), .int (nI (i / 3)), .int (nI sp), .int (nI (i % 3))]) (rest := [.int (nI (((sp * 288) + (g * 18)) + i)), .ref (ad 14)]) ⟨hx, hb, hml, hown, hts⟩ (kX0_findValue l D h ad cI cZ ex pa di qu gc dg dp dv dd ds dc td ho ak (rmb se (sgt ex pa ho dv sp g) (sp * 288 + g * 18) i) pr g (i / 3) sp (i % 3) hg (by omega) hs (by omega) hpr hho hdc) (cwV 4 hts gX0_rememberSights_X0_findValue rfl rfl rfl (by decide +kernel) ⟨Nat.le_of_ble_eq_true rfl, Nat.le_of_ble_eq_true rfl⟩) ⟨pP_blind, va_recv hK hP (ci := 0) (q0 := 0) rfl rfl, pP_pre hP hK⟩ rfl rfl hl.1 rfl (lv_room (Nat.le_of_ble_eq_true rfl)) dX0_rememberSights_40 ⟨Nat.zero_le _, Nat.zero_le _⟩) ?_
        refine q_ast oI (rmb se (sgt ex pa ho dv sp g) (sp * 288 + g * 18) i) (vlu ex pa ho dv (i / 3) (sp + 1) ((i % 3) + 1) g) hx hb hK hP hD hS 12 1 rfl rfl (k := ((sp * 288) + (g * 18)) + i) (by omega) (Nat.le_of_ble_eq_true rfl) dX0_rememberSights_43 (fun H locs hP hD hS => ?_)
        have hP : va_P D vwCl (hW h ad cI cZ ex pa di qu gc dg dp dv dd ds dc td ho ak (va_up (rmb se (sgt ex pa ho dv sp g) (sp * 288 + g * 18) i) (((sp * 288) + (g * 18)) + i) (vlu ex pa ho dv (i / 3) (sp + 1) ((i % 3) + 1) g)) pr) H := hP
        have hD : va_D A (hW h ad cI cZ ex pa di qu gc dg dp dv dd ds dc td ho ak (va_up (rmb se (sgt ex pa ho dv sp g) (sp * 288 + g * 18) i) (((sp * 288) + (g * 18)) + i) (vlu ex pa ho dv (i / 3) (sp + 1) ((i % 3) + 1) g)) pr) := hD
        refine lv_iinc (v := nI (i + 1)) (lv' := [(4, .int (nI (i + 1))), (0, .ref h), (1, .int (nI g)), (2, .int (nI sp)), (3, .int (nI ((sp * 288) + (g * 18))))]) hx hb dX0_rememberSights_44 hl (k := 4) rfl (i1_n i) (by decide) rfl (fun ls hl => ?_)
        refine lv_goto (tgt := 14) hx hb dX0_rememberSights_47 (by decide) ?_
        have hP : va_P D vwCl (hW h ad cI cZ ex pa di qu gc dg dp dv dd ds dc td ho ak (rmb se (sgt ex pa ho dv sp g) (sp * 288 + g * 18) (i + 1)) pr) H := by rw [show rmb se (sgt ex pa ho dv sp g) (sp * 288 + g * 18) (i + 1) = va_up (rmb se (sgt ex pa ho dv sp g) (sp * 288 + g * 18) i) (((sp * 288) + (g * 18)) + i) (vlu ex pa ho dv (i / 3) (sp + 1) ((i % 3) + 1) g) from rmb_s _ _ _ _]; exact hP
        have hD : va_D A (hW h ad cI cZ ex pa di qu gc dg dp dv dd ds dc td ho ak (rmb se (sgt ex pa ho dv sp g) (sp * 288 + g * 18) (i + 1)) pr) := by rw [show rmb se (sgt ex pa ho dv sp g) (sp * 288 + g * 18) (i + 1) = va_up (rmb se (sgt ex pa ho dv sp g) (sp * 288 + g * 18) i) (((sp * 288) + (g * 18)) + i) (vlu ex pa ho dv (i / 3) (sp + 1) ((i % 3) + 1) g) from rmb_s _ _ _ _]; exact hD
        exact ih (i + 1) (by omega) (by omega) _ _ hP hD hS _ (lv_sub hl [1, 2, 3, 4, 0] rfl)
  have hP : va_P D vwCl (hW h ad cI cZ ex pa di qu gc dg dp dv dd ds dc td ho ak (rmb se (sgt ex pa ho dv sp g) (sp * 288 + g * 18) 0) pr) s.heap := by rw [show rmb se (sgt ex pa ho dv sp g) (sp * 288 + g * 18) 0 = se from rmb_0 _ _ _]; exact hP
  have hD : va_D A (hW h ad cI cZ ex pa di qu gc dg dp dv dd ds dc td ho ak (rmb se (sgt ex pa ho dv sp g) (sp * 288 + g * 18) 0) pr) := by rw [show rmb se (sgt ex pa ho dv sp g) (sp * 288 + g * 18) 0 = se from rmb_0 _ _ _]; exact hD
  exact loop14 19 0 (by omega) (Nat.le_refl 19) _ _ hP hD hS _ (lv_sub hl [2, 3, 4, 1, 0] rfl)
