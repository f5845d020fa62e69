set_option maxHeartbeats 4000000 in
set_option maxRecDepth 100000 in
theorem kX0_isGoodN (l : Launch) (D : va_G) (h : Nat) (ad : Nat → Nat) (cI cZ : ClassId) (ex : Nat → Bool) (pa : Nat → Option Nat) (di : Nat → Nat) (qu : Nat → Nat) (gc : Nat) (dg : Nat → Nat) (dp : Nat → Nat) (dv : Nat → Option Nat) (dd : Nat → Nat) (ds : Nat → Nat) (dc : Nat) (td : Nat) (ho : Nat → Option Nat) (ak : Nat → Bool) (se : Nat → Option Nat) (pr : Nat → Option Nat) (j : Nat) (hj : j < 16) : Met l yX0_isGood wsX0_isGood ({ frames := 0, cells := 0, slots := 0, locals := 0 } : Room) (pP D (hW h ad cI cZ ex pa di qu gc dg dp dv dd ds dc td ho ak se pr) (hT cI cZ) [.ref h, .int (nI j)]) (pQ (some (.int (bI (ex j))))) 0 0 nF := by
  refine Met.ofW (cc := cX0_isGood) (maxL := 2) (ret := (some .boolean)) (by decide) rfl ?_
  intro p e s m args below meth c s₁ B hml hv
  obtain ⟨rfl, hP, hK⟩ := hv
  have hx := B.exec
  have hb := B.bytes
  have hr := B.returns
  have hts := atoms_spec (ws := wsX0_isGood) B.pre
  have hown : s.vm.findClass RX0 = some m.cls := findClass_of_methodNamed B.named
  have hlocks := B.notSynchronized
  have hl := lv_entry ([.ref h, .int (nI j)]) (n := 2) (Nat.le_of_ble_eq_true rfl)
  rw [lg_entry_eq]
  generalize (lg_sl ([.ref h, .int (nI j)]) ++ List.replicate (2 - (lg_sl ([.ref h, .int (nI j)])).length) Slot.unset).toArray = ls at hl ⊢
  have hl : lv_has ls 2 [(0, .ref h), (1, .int (nI j))] := hl
  refine lv_iload_n hx hb dX0_isGood_0 rfl (lv_at hl 1 rfl) ?_
  refine q_ifN_lt (a := j) 23 (by omega) hx hb dX0_isGood_1 (by decide) ?_
  refine lv_iload_n hx hb dX0_isGood_4 rfl (lv_at hl 1 rfl) ?_
  refine lv_bipush (v := nI 16) hx hb dX0_isGood_5 (by decide) ?_
  refine q_icmpN_ge (a := j) (b := 16) (tgt := 23) (by omega) (by omega) hx hb dX0_isGood_7 (by decide) (fun k7 => absurd k7 (by omega)) (fun k7 => ?_)
  refine lv_aload_n hx hb dX0_isGood_10 rfl (lv_at hl 0 rfl) ?_
  refine va_get (D := D) (ci := 0) (v := .ref (ad 0)) (C := RX0) (T := TX0) (N := 16) hx hb hts (iX0_isGood) hown hK hP 0 rfl rfl 0 (by decide) (hts (.fieldLink RX0 9 "ShopHub" "exists" "[Z") (by decide +kernel)) (fun _ h9 => h9) rfl dX0_isGood_11 ?_
  refine lv_iload_n hx hb dX0_isGood_14 rfl (lv_at hl 1 rfl) ?_
  refine q_zld ex hx hb hK hP 1 0 rfl rfl (k := j) (by omega) (Nat.le_of_ble_eq_true rfl) dX0_isGood_15 ?_
  refine q_ifB_eq (b := ex j) (tgt := 23) hx hb dX0_isGood_16 (by decide) (fun k16 => ?_) (fun k16 => ?_)
  · refine lv_iconst (v := nI 0) hx hb dX0_isGood_23 (by decide) ?_
    exact q_retZ hx hb hr hlocks (by first | exact retF k16 | exact retT k16) dX0_isGood_24
  · refine lv_iconst (v := nI 1) hx hb dX0_isGood_19 (by decide) ?_
    refine lv_goto (tgt := 24) hx hb dX0_isGood_20 (by decide) ?_
    exact q_retZ hx hb hr hlocks (by first | exact retF k16 | exact retT k16) dX0_isGood_24

set_option maxHeartbeats 4000000 in
set_option maxRecDepth 100000 in
theorem kX0_isGoodR (l : Launch) (D : va_G) (h : Nat) (ad : Nat → Nat) (cI cZ : ClassId) (ex : Nat → Bool) (pa : Nat → Option Nat) (di : Nat → Nat) (qu : Nat → Nat) (gc : Nat) (dg : Nat → Nat) (dp : Nat → Nat) (dv : Nat → Option Nat) (dd : Nat → Nat) (ds : Nat → Nat) (dc : Nat) (td : Nat) (ho : Nat → Option Nat) (ak : Nat → Bool) (se : Nat → Option Nat) (pr : Nat → Option Nat) (g : Int32) (hg : g < 0 ∨ nI 16 ≤ g) : Met l yX0_isGood wsX0_isGood ({ frames := 0, cells := 0, slots := 0, locals := 0 } : Room) (pP D (hW h ad cI cZ ex pa di qu gc dg dp dv dd ds dc td ho ak se pr) (hT cI cZ) [.ref h, .int g]) (pQ (some (.int (bI false)))) 0 0 nF := by
  refine Met.ofW (cc := cX0_isGood) (maxL := 2) (ret := (some .boolean)) (by decide) rfl ?_
  intro p e s m args below meth c s₁ B hml hv
  obtain ⟨rfl, hP, hK⟩ := hv
  have hx := B.exec
  have hb := B.bytes
  have hr := B.returns
  have hts := atoms_spec (ws := wsX0_isGood) B.pre
  have hown : s.vm.findClass RX0 = some m.cls := findClass_of_methodNamed B.named
  have hlocks := B.notSynchronized
  have hl := lv_entry ([.ref h, .int g]) (n := 2) (Nat.le_of_ble_eq_true rfl)
  rw [lg_entry_eq]
  generalize (lg_sl ([.ref h, .int g]) ++ List.replicate (2 - (lg_sl ([.ref h, .int g])).length) Slot.unset).toArray = ls at hl ⊢
  have hl : lv_has ls 2 [(0, .ref h), (1, .int g)] := hl
  refine lv_iload_n hx hb dX0_isGood_0 rfl (lv_at hl 1 rfl) ?_
  refine lv_if_lt (tgt := 23) hx hb dX0_isGood_1 (by decide) (fun k1 => ?_) (fun k1 => ?_)
  · refine lv_iconst (v := nI 0) hx hb dX0_isGood_23 (by decide) ?_
    exact q_retZ hx hb hr hlocks (by decide) dX0_isGood_24
  · refine lv_iload_n hx hb dX0_isGood_4 rfl (lv_at hl 1 rfl) ?_
    refine lv_bipush (v := nI 16) hx hb dX0_isGood_5 (by decide) ?_
    refine lv_icmp_ge (tgt := 23) hx hb dX0_isGood_7 (by decide) (fun k7 => ?_) (fun k7 => absurd (hg.resolve_left k1) k7)
    refine lv_iconst (v := nI 0) hx hb dX0_isGood_23 (by decide) ?_
    exact q_retZ hx hb hr hlocks (by decide) dX0_isGood_24

set_option maxHeartbeats 4000000 in
set_option maxRecDepth 100000 in
theorem kX0_isEnteredN (l : Launch) (D : va_G) (h : Nat) (ad : Nat → Nat) (cI cZ : ClassId) (ex : Nat → Bool) (pa : Nat → Option Nat) (di : Nat → Nat) (qu : Nat → Nat) (gc : Nat) (dg : Nat → Nat) (dp : Nat → Nat) (dv : Nat → Option Nat) (dd : Nat → Nat) (ds : Nat → Nat) (dc : Nat) (td : Nat) (ho : Nat → Option Nat) (ak : Nat → Bool) (se : Nat → Option Nat) (pr : Nat → Option Nat) (j : Nat) (hj : j < 2147483648) (hdc : dc ≤ 200) : Met l yX0_isEntered wsX0_isEntered ({ frames := 0, cells := 0, slots := 0, locals := 0 } : Room) (pP D (hW h ad cI cZ ex pa di qu gc dg dp dv dd ds dc td ho ak se pr) (hT cI cZ) [.ref h, .int (nI j)]) (pQ (some (.int (bI (decide (j < dc)))))) 0 0 nF := by
  refine Met.ofW (cc := cX0_isEntered) (maxL := 2) (ret := (some .boolean)) (by decide) rfl ?_
  intro p e s m args below meth c s₁ B hml hv
  obtain ⟨rfl, hP, hK⟩ := hv
  have hx := B.exec
  have hb := B.bytes
  have hr := B.returns
  have hts := atoms_spec (ws := wsX0_isEntered) B.pre
  have hown : s.vm.findClass RX0 = some m.cls := findClass_of_methodNamed B.named
  have hlocks := B.notSynchronized
  have hl := lv_entry ([.ref h, .int (nI j)]) (n := 2) (Nat.le_of_ble_eq_true rfl)
  rw [lg_entry_eq]
  generalize (lg_sl ([.ref h, .int (nI j)]) ++ List.replicate (2 - (lg_sl ([.ref h, .int (nI j)])).length) Slot.unset).toArray = ls at hl ⊢
  have hl : lv_has ls 2 [(0, .ref h), (1, .int (nI j))] := hl
  refine lv_iload_n hx hb dX0_isEntered_0 rfl (lv_at hl 1 rfl) ?_
  refine q_ifN_lt (a := j) 16 (by omega) hx hb dX0_isEntered_1 (by decide) ?_
  refine lv_iload_n hx hb dX0_isEntered_4 rfl (lv_at hl 1 rfl) ?_
  refine lv_aload_n hx hb dX0_isEntered_5 rfl (lv_at hl 0 rfl) ?_
  refine va_get (D := D) (ci := 0) (v := .int (nI dc)) (C := RX0) (T := TX0) (N := 16) hx hb hts (iX0_isEntered) hown hK hP 0 rfl rfl 10 (by decide) (hts (.fieldLink RX0 42 "ShopHub" "draftCount" "I") (by decide +kernel)) (fun _ h9 => h9) rfl dX0_isEntered_6 ?_
  refine q_icmpN_ge (a := j) (b := dc) (tgt := 16) (by omega) (by omega) hx hb dX0_isEntered_9 (by decide) (fun k9 => ?_) (fun k9 => ?_)
  · refine lv_iconst (v := nI 0) hx hb dX0_isEntered_16 (by decide) ?_
    exact q_retZ hx hb hr hlocks (retF (decide_eq_false (by omega))) dX0_isEntered_17
  · refine lv_iconst (v := nI 1) hx hb dX0_isEntered_12 (by decide) ?_
    refine lv_goto (tgt := 17) hx hb dX0_isEntered_13 (by decide) ?_
    exact q_retZ hx hb hr hlocks (retT (decide_eq_true (by omega))) dX0_isEntered_17

set_option maxHeartbeats 4000000 in
set_option maxRecDepth 100000 in
theorem kX0_isEnteredR (l : Launch) (D : va_G) (h : Nat) (ad : Nat → Nat) (cI cZ : ClassId) (ex : Nat → Bool) (pa : Nat → Option Nat) (di : Nat → Nat) (qu : Nat → Nat) (gc : Nat) (dg : Nat → Nat) (dp : Nat → Nat) (dv : Nat → Option Nat) (dd : Nat → Nat) (ds : Nat → Nat) (dc : Nat) (td : Nat) (ho : Nat → Option Nat) (ak : Nat → Bool) (se : Nat → Option Nat) (pr : Nat → Option Nat) (g : Int32) (hg : g < 0) : Met l yX0_isEntered wsX0_isEntered ({ frames := 0, cells := 0, slots := 0, locals := 0 } : Room) (pP D (hW h ad cI cZ ex pa di qu gc dg dp dv dd ds dc td ho ak se pr) (hT cI cZ) [.ref h, .int g]) (pQ (some (.int (bI false)))) 0 0 nF := by
  refine Met.ofW (cc := cX0_isEntered) (maxL := 2) (ret := (some .boolean)) (by decide) rfl ?_
  intro p e s m args below meth c s₁ B hml hv
  obtain ⟨rfl, hP, hK⟩ := hv
  have hx := B.exec
  have hb := B.bytes
  have hr := B.returns
  have hts := atoms_spec (ws := wsX0_isEntered) B.pre
  have hown : s.vm.findClass RX0 = some m.cls := findClass_of_methodNamed B.named
  have hlocks := B.notSynchronized
  have hl := lv_entry ([.ref h, .int g]) (n := 2) (Nat.le_of_ble_eq_true rfl)
  rw [lg_entry_eq]
  generalize (lg_sl ([.ref h, .int g]) ++ List.replicate (2 - (lg_sl ([.ref h, .int g])).length) Slot.unset).toArray = ls at hl ⊢
  have hl : lv_has ls 2 [(0, .ref h), (1, .int g)] := hl
  refine lv_iload_n hx hb dX0_isEntered_0 rfl (lv_at hl 1 rfl) ?_
  refine lv_if_lt (tgt := 16) hx hb dX0_isEntered_1 (by decide) (fun k1 => ?_) (fun k1 => absurd hg k1)
  refine lv_iconst (v := nI 0) hx hb dX0_isEntered_16 (by decide) ?_
  exact q_retZ hx hb hr hlocks (by decide) dX0_isEntered_17

set_option maxHeartbeats 4000000 in
set_option maxRecDepth 100000 in
theorem kX0_levelOf (l : Launch) (D : va_G) (h : Nat) (ad : Nat → Nat) (cI cZ : ClassId) (ex : Nat → Bool) (pa : Nat → Option Nat) (di : Nat → Nat) (qu : Nat → Nat) (gc : Nat) (dg : Nat → Nat) (dp : Nat → Nat) (dv : Nat → Option Nat) (dd : Nat → Nat) (ds : Nat → Nat) (dc : Nat) (td : Nat) (ho : Nat → Option Nat) (ak : Nat → Bool) (se : Nat → Option Nat) (pr : Nat → Option Nat) (o : Option Nat) (lev : Nat → Nat) (hti : TI ex pa lev) (hok : okO ex o) : Met l yX0_levelOf wsX0_levelOf ({ frames := 1, cells := 0, slots := 0, locals := 21 } : Room) (pP D (hW h ad cI cZ ex pa di qu gc dg dp dv dd ds dc td ho ak se pr) (hT cI cZ) [.ref h, .int (oI o)]) (pQ (some (.int (zI (lvZ lev o))))) 0 0 nF := by
  refine Met.ofW (cc := cX0_levelOf) (maxL := 5) (ret := (some .int)) (by decide) rfl ?_
  intro p e s m args below meth c s₁ B hml hv
  obtain ⟨rfl, hP, hK⟩ := hv
  have hx := B.exec
  have hb := B.bytes
  have hr := B.returns
  have hts := atoms_spec (ws := wsX0_levelOf) B.pre
  have hown : s.vm.findClass RX0 = some m.cls := findClass_of_methodNamed B.named
  have hlocks := B.notSynchronized
  have hl := lv_entry ([.ref h, .int (oI o)]) (n := 5) (Nat.le_of_ble_eq_true rfl)
  rw [lg_entry_eq]
  generalize (lg_sl ([.ref h, .int (oI o)]) ++ List.replicate (5 - (lg_sl ([.ref h, .int (oI o)])).length) Slot.unset).toArray = ls at hl ⊢
  have hl : lv_has ls 5 [(0, .ref h), (1, .int (oI o))] := hl
  refine lv_iconst (v := oI none) hx hb dX0_levelOf_0 (by decide) ?_
  refine q_top (y := zI (-1)) (zm1) ?_
  refine lv_istore_n (lv' := [(2, .int (zI (-1))), (0, .ref h), (1, .int (oI o))]) hx hb dX0_levelOf_1 rfl hl (by decide) rfl (fun ls hl => ?_)
  refine lv_iload_n hx hb dX0_levelOf_2 rfl (lv_at hl 2 rfl) ?_
  refine lv_istore_n (lv' := [(3, .int (oI o)), (2, .int (zI (-1))), (0, .ref h), (1, .int (oI o))]) hx hb dX0_levelOf_3 rfl hl (by decide) rfl (fun ls hl => ?_)
  refine lv_iconst (v := nI 0) hx hb dX0_levelOf_4 (by decide) ?_
  refine lv_istore (lv' := [(4, .int (nI 0)), (3, .int (oI o)), (2, .int (zI (-1))), (0, .ref h), (1, .int (oI o))]) hx hb dX0_levelOf_5 hl (by decide) rfl (fun ls hl => ?_)
  have loop7 : ∀ (n : Nat) (i : Nat) (o2 : Option Nat) (lv : Int), (i ≤ 3) → (4 ≤ i + n) → ((i : Int) = lv + 1) → (lv + 1 + lvZ lev o2 = lvZ lev o) → (okO ex o2) → ∀ ls : Array Slot, lv_has ls 5 [(0, .ref h), (2, .int (zI lv)), (3, .int (oI o2)), (4, .int (nI i))] → W p l e ({ frames := 1, cells := 0, slots := 0, locals := 21 } : Room) s m ([.ref h, .int (oI o)] : List Value).toArray below meth c s.heap [] 0 0 (MQ below (pQ (some (.int (zI (lvZ lev o))))) ([.ref h, .int (oI o)] : List Value).toArray s 0 0 nF) (F0 m 7 ls []) := by
    intro n
    induction n with
    | zero => intro i o2 lv hle hn hi hlv hok2; omega
    | succ n ih =>
      intro i o2 lv hle hn hi hlv hok2 ls hl
      have hA1 := lvZ_ge lev o2
      have hA2 := lvZ_le hti hok
      refine lv_iload hx hb dX0_levelOf_7 (lv_at hl 3 rfl) ?_
      refine lv_iconst (v := nI 3) hx hb dX0_levelOf_9 (by decide) ?_
      refine q_icmpN_ge (a := i) (b := 3) (tgt := 37) (by omega) (by omega) hx hb dX0_levelOf_10 (by decide) (fun k10 => ?_) (fun k10 => ?_)
      · refine lv_iload_n hx hb dX0_levelOf_37 rfl (lv_at hl 1 rfl) ?_
        exact q_retI hx hb hr hlocks (by rw [show lv = lvZ lev o from by omega]) dX0_levelOf_38
      · cases o2 with
        | none =>
          have hA3 : lvZ lev none = -1 := rfl
          refine lv_aload_n hx hb dX0_levelOf_13 rfl (lv_at hl 0 rfl) ?_
          refine lv_iload_n hx hb dX0_levelOf_14 rfl (lv_at hl 2 rfl) ?_
          refine q_callI (r := bI false) (va_runV (As := [.int (oI none)]) (rest := []) ⟨hx, hb, hml, hown, hts⟩ (kX0_isGoodR l D h ad cI cZ ex pa di qu gc dg dp dv dd ds dc td ho ak se pr (oI none) (Or.inl (by decide))) (cwV 1 hts gX0_levelOf_X0_isGood rfl rfl rfl (by decide +kernel) ⟨Nat.le_of_ble_eq_true rfl, Nat.le_of_ble_eq_true rfl⟩) ⟨pP_blind, va_recv hK hP (ci := 0) (q0 := 0) rfl rfl, pP_pre hP hK⟩ rfl rfl hl.1 rfl (lv_room (Nat.le_of_ble_eq_true rfl)) dX0_levelOf_15 ⟨Nat.zero_le _, Nat.zero_le _⟩) ?_
          refine q_ifB_eq (b := false) (tgt := 37) hx hb dX0_levelOf_18 (by decide) (fun k18 => ?_) (fun k18 => absurd k18 (by decide))
          refine lv_iload_n hx hb dX0_levelOf_37 rfl (lv_at hl 1 rfl) ?_
          exact q_retI hx hb hr hlocks (by rw [show lv = lvZ lev o from by omega]) dX0_levelOf_38
        | some q =>
          have hA3 : lvZ lev (some q) = (lev q : Int) := rfl
          have hA4 := lvZ_pa hti (hok2 q rfl).1 (hok2 q rfl).2
          refine lv_aload_n hx hb dX0_levelOf_13 rfl (lv_at hl 0 rfl) ?_
          refine lv_iload_n hx hb dX0_levelOf_14 rfl (lv_at hl 2 rfl) ?_
          refine q_callI (r := bI (ex q)) (va_runV (As := [.int (nI q)]) (rest := []) ⟨hx, hb, hml, hown, hts⟩ (kX0_isGoodN l D h ad cI cZ ex pa di qu gc dg dp dv dd ds dc td ho ak se pr q ((hok2 q rfl).1)) (cwV 1 hts gX0_levelOf_X0_isGood rfl rfl rfl (by decide +kernel) ⟨Nat.le_of_ble_eq_true rfl, Nat.le_of_ble_eq_true rfl⟩) ⟨pP_blind, va_recv hK hP (ci := 0) (q0 := 0) rfl rfl, pP_pre hP hK⟩ rfl rfl hl.1 rfl (lv_room (Nat.le_of_ble_eq_true rfl)) dX0_levelOf_15 ⟨Nat.zero_le _, Nat.zero_le _⟩) ?_
          refine q_ifB_eq (b := ex q) (tgt := 37) hx hb dX0_levelOf_18 (by decide) (fun k18 => absurd k18 (by rw [(hok2 q rfl).2]; decide)) (fun k18 => ?_)
          refine lv_iinc (v := zI (lv + 1)) (lv' := [(2, .int (zI (lv + 1))), (0, .ref h), (3, .int (nI q)), (4, .int (nI i))]) hx hb dX0_levelOf_21 hl (k := 1) rfl (i1_z lv) (by decide) rfl (fun ls hl => ?_)
          refine lv_aload_n hx hb dX0_levelOf_24 rfl (lv_at hl 1 rfl) ?_
          refine va_get (D := D) (ci := 0) (v := .ref (ad 1)) (C := RX0) (T := TX0) (N := 16) hx hb hts (iX0_levelOf) hown hK hP 0 rfl rfl 1 (by decide) (hts (.fieldLink RX0 13 "ShopHub" "parents" "[I") (by decide +kernel)) (fun _ h9 => h9) rfl dX0_levelOf_25 ?_
          refine lv_iload_n hx hb dX0_levelOf_28 rfl (lv_at hl 2 rfl) ?_
          refine q_ald oI pa hx hb hK hP 2 1 rfl rfl (k := q) ((hok2 q rfl).1) (Nat.le_of_ble_eq_true rfl) dX0_levelOf_29 ?_
          refine lv_istore_n (lv' := [(3, .int (oI (pa q))), (2, .int (zI (lv + 1))), (0, .ref h), (4, .int (nI i))]) hx hb dX0_levelOf_30 rfl hl (by decide) rfl (fun ls hl => ?_)
          refine lv_iinc (v := nI (i + 1)) (lv' := [(4, .int (nI (i + 1))), (3, .int (oI (pa q))), (2, .int (zI (lv + 1))), (0, .ref h)]) hx hb dX0_levelOf_31 hl (k := 3) rfl (i1_n i) (by decide) rfl (fun ls hl => ?_)
          refine lv_goto (tgt := 7) hx hb dX0_levelOf_34 (by decide) ?_
          exact ih (i + 1) (pa q) (lv + 1) (by omega) (by omega) (by omega) (by omega) (TI_ok hti (hok2 q rfl).1 (hok2 q rfl).2) _ (lv_sub hl [3, 2, 1, 0] rfl)
  exact loop7 4 0 o (-1) (by omega) (Nat.le_refl 4) (by decide) (by omega) hok _ (lv_sub hl [3, 2, 1, 0] rfl)

set_option maxHeartbeats 4000000 in
set_option maxRecDepth 100000 in
theorem kX0_isWithin (l : Launch) (D : va_G) (h : Nat) (ad : Nat → Nat) (cI cZ : ClassId) (ex : Nat → Bool) (pa : Nat → Option Nat) (di : Nat → Nat) (qu : Nat → Nat) (gc : Nat) (dg : Nat → Nat) (dp : Nat → Nat) (dv : Nat → Option Nat) (dd : Nat → Nat) (ds : Nat → Nat) (dc : Nat) (td : Nat) (ho : Nat → Option Nat) (ak : Nat → Bool) (se : Nat → Option Nat) (pr : Nat → Option Nat) (o : Option Nat) (t : Nat) (ht : t < 16) (hpr : PR pa) (hok : ∀ k, o = some k → k < 16) : Met l yX0_isWithin wsX0_isWithin ({ frames := 1, cells := 0, slots := 0, locals := 21 } : Room) (pP D (hW h ad cI cZ ex pa di qu gc dg dp dv dd ds dc td ho ak se pr) (hT cI cZ) [.ref h, .int (oI o), .int (nI t)]) (pQ (some (.int (bI (wth ex pa t 3 o))))) 0 0 nF := by
  refine Met.ofW (cc := cX0_isWithin) (maxL := 5) (ret := (some .boolean)) (by decide) rfl ?_
  intro p e s m args below meth c s₁ B hml hv
  obtain ⟨rfl, hP, hK⟩ := hv
  have hx := B.exec
  have hb := B.bytes
  have hr := B.returns
  have hts := atoms_spec (ws := wsX0_isWithin) B.pre
  have hown : s.vm.findClass RX0 = some m.cls := findClass_of_methodNamed B.named
  have hlocks := B.notSynchronized
  have hl := lv_entry ([.ref h, .int (oI o), .int (nI t)]) (n := 5) (Nat.le_of_ble_eq_true rfl)
  rw [lg_entry_eq]
  generalize (lg_sl ([.ref h, .int (oI o), .int (nI t)]) ++ List.replicate (5 - (lg_sl ([.ref h, .int (oI o), .int (nI t)])).length) Slot.unset).toArray = ls at hl ⊢
  have hl : lv_has ls 5 [(0, .ref h), (1, .int (oI o)), (2, .int (nI t))] := hl
  refine lv_iload_n hx hb dX0_isWithin_0 rfl (lv_at hl 1 rfl) ?_
  refine lv_istore_n (lv' := [(3, .int (oI o)), (0, .ref h), (1, .int (oI o)), (2, .int (nI t))]) hx hb dX0_isWithin_1 rfl hl (by decide) rfl (fun ls hl => ?_)
  refine lv_iconst (v := nI 0) hx hb dX0_isWithin_2 (by decide) ?_
  refine lv_istore (lv' := [(4, .int (nI 0)), (3, .int (oI o)), (0, .ref h), (1, .int (oI o)), (2, .int (nI t))]) hx hb dX0_isWithin_3 hl (by decide) rfl (fun ls hl => ?_)
  have loop5 : ∀ (n : Nat) (i : Nat) (o2 : Option Nat), (i ≤ 3) → (4 ≤ i + n) → (wth ex pa t (3 - i) o2 = wth ex pa t 3 o) → (∀ k, o2 = some k → k < 16) → ∀ ls : Array Slot, lv_has ls 5 [(0, .ref h), (2, .int (nI t)), (3, .int (oI o2)), (4, .int (nI i))] → W p l e ({ frames := 1, cells := 0, slots := 0, locals := 21 } : Room) s m ([.ref h, .int (oI o), .int (nI t)] : List Value).toArray below meth c s.heap [] 0 0 (MQ below (pQ (some (.int (bI (wth ex pa t 3 o))))) ([.ref h, .int (oI o), .int (nI t)] : List Value).toArray s 0 0 nF) (F0 m 5 ls []) := by
    intro n
    induction n with
    | zero => intro i o2 hle hn hw hok2; omega
    | succ n ih =>
      intro i o2 hle hn hw hok2 ls hl
      refine lv_iload hx hb dX0_isWithin_5 (lv_at hl 3 rfl) ?_
      refine lv_iconst (v := nI 3) hx hb dX0_isWithin_7 (by decide) ?_
      refine q_icmpN_ge (a := i) (b := 3) (tgt := 39) (by omega) (by omega) hx hb dX0_isWithin_8 (by decide) (fun k8 => ?_) (fun k8 => ?_)
      · refine lv_iconst (v := nI 0) hx hb dX0_isWithin_39 (by decide) ?_
        exact q_retZ hx hb hr hlocks (retF (by rw [← hw, show 3 - i = 0 by omega]; rfl)) dX0_isWithin_40
      · cases o2 with
        | none =>
          refine lv_aload_n hx hb dX0_isWithin_11 rfl (lv_at hl 0 rfl) ?_
          refine lv_iload_n hx hb dX0_isWithin_12 rfl (lv_at hl 2 rfl) ?_
          refine q_callI (r := bI false) (va_runV (As := [.int (oI none)]) (rest := []) ⟨hx, hb, hml, hown, hts⟩ (kX0_isGoodR l D h ad cI cZ ex pa di qu gc dg dp dv dd ds dc td ho ak se pr (oI none) (Or.inl (by decide))) (cwV 1 hts gX0_isWithin_X0_isGood rfl rfl rfl (by decide +kernel) ⟨Nat.le_of_ble_eq_true rfl, Nat.le_of_ble_eq_true rfl⟩) ⟨pP_blind, va_recv hK hP (ci := 0) (q0 := 0) rfl rfl, pP_pre hP hK⟩ rfl rfl hl.1 rfl (lv_room (Nat.le_of_ble_eq_true rfl)) dX0_isWithin_13 ⟨Nat.zero_le _, Nat.zero_le _⟩) ?_
          refine q_ifB_eq (b := false) (tgt := 39) hx hb dX0_isWithin_16 (by decide) (fun k16 => ?_) (fun k16 => absurd k16 (by decide))
          refine lv_iconst (v := nI 0) hx hb dX0_isWithin_39 (by decide) ?_
          exact q_retZ hx hb hr hlocks (retF (by rw [← hw, wth_none])) dX0_isWithin_40
        | some q =>
          have hq : q < 16 := hok2 q rfl
          refine lv_aload_n hx hb dX0_isWithin_11 rfl (lv_at hl 0 rfl) ?_
          refine lv_iload_n hx hb dX0_isWithin_12 rfl (lv_at hl 2 rfl) ?_
          refine q_callI (r := bI (ex q)) (va_runV (As := [.int (nI q)]) (rest := []) ⟨hx, hb, hml, hown, hts⟩ (kX0_isGoodN l D h ad cI cZ ex pa di qu gc dg dp dv dd ds dc td ho ak se pr q hq) (cwV 1 hts gX0_isWithin_X0_isGood rfl rfl rfl (by decide +kernel) ⟨Nat.le_of_ble_eq_true rfl, Nat.le_of_ble_eq_true rfl⟩) ⟨pP_blind, va_recv hK hP (ci := 0) (q0 := 0) rfl rfl, pP_pre hP hK⟩ rfl rfl hl.1 rfl (lv_room (Nat.le_of_ble_eq_true rfl)) dX0_isWithin_13 ⟨Nat.zero_le _, Nat.zero_le _⟩) ?_
          refine q_ifB_eq (b := ex q) (tgt := 39) hx hb dX0_isWithin_16 (by decide) (fun k16 => ?_) (fun k16 => ?_)
          · refine lv_iconst (v := nI 0) hx hb dX0_isWithin_39 (by decide) ?_
            exact q_retZ hx hb hr hlocks (retF (by rw [← hw, wth_some (show 3 - i = (3 - (i + 1)) + 1 by omega)]; simp [k16])) dX0_isWithin_40
          · refine lv_iload_n hx hb dX0_isWithin_19 rfl (lv_at hl 2 rfl) ?_
            refine lv_iload_n hx hb dX0_isWithin_20 rfl (lv_at hl 1 rfl) ?_
            refine q_icmpN_ne (a := q) (b := t) (tgt := 26) (by omega) (by omega) hx hb dX0_isWithin_21 (by decide) (fun k21 => ?_) (fun k21 => ?_)
            · refine lv_aload_n hx hb dX0_isWithin_26 rfl (lv_at hl 0 rfl) ?_
              refine va_get (D := D) (ci := 0) (v := .ref (ad 1)) (C := RX0) (T := TX0) (N := 16) hx hb hts (iX0_isWithin) hown hK hP 0 rfl rfl 1 (by decide) (hts (.fieldLink RX0 13 "ShopHub" "parents" "[I") (by decide +kernel)) (fun _ h9 => h9) rfl dX0_isWithin_27 ?_
              refine lv_iload_n hx hb dX0_isWithin_30 rfl (lv_at hl 2 rfl) ?_
              refine q_ald oI pa hx hb hK hP 2 1 rfl rfl (k := q) (by omega) (Nat.le_of_ble_eq_true rfl) dX0_isWithin_31 ?_
              refine lv_istore_n (lv' := [(3, .int (oI (pa q))), (0, .ref h), (2, .int (nI t)), (4, .int (nI i))]) hx hb dX0_isWithin_32 rfl hl (by decide) rfl (fun ls hl => ?_)
              refine lv_iinc (v := nI (i + 1)) (lv' := [(4, .int (nI (i + 1))), (3, .int (oI (pa q))), (0, .ref h), (2, .int (nI t))]) hx hb dX0_isWithin_33 hl (k := 3) rfl (i1_n i) (by decide) rfl (fun ls hl => ?_)
              refine lv_goto (tgt := 5) hx hb dX0_isWithin_36 (by decide) ?_
              exact ih (i + 1) (pa q) (by omega) (by omega) (by rw [← hw, wth_some (show 3 - i = (3 - (i + 1)) + 1 by omega)]; simp [k16, k21]) (hpr q (hok2 q rfl)) _ (lv_sub hl [2, 3, 1, 0] rfl)
            · refine lv_iconst (v := nI 1) hx hb dX0_isWithin_24 (by decide) ?_
              exact q_retZ hx hb hr hlocks (retT (by rw [← hw, wth_some (show 3 - i = (3 - (i + 1)) + 1 by omega), k16, k21]; simp)) dX0_isWithin_25
  exact loop5 4 0 o (by omega) (Nat.le_refl 4) rfl hok _ (lv_sub hl [2, 4, 1, 0] rfl)

set_option maxHeartbeats 4000000 in
set_option maxRecDepth 100000 in
theorem kX0_placeOf (l : Launch) (g a sh to : Nat) (hg : g < 16) (ha : a < 6) (hsh : sh < 4) (hto : to < 4) : Met l yX0_placeOf wsX0_placeOf ({ frames := 0, cells := 0, slots := 0, locals := 0 } : Room) (sP [.int (nI g), .int (nI a), .int (zI ((sh : Int) - 1)), .int (zI ((to : Int) - 1))]) (pQ (some (.int (nI (plc g a sh to))))) 0 0 nF := by
  refine Met.ofW (cc := cX0_placeOf) (maxL := 6) (ret := (some .int)) (by decide) rfl ?_
  intro p e s m args below meth c s₁ B hml hv
  obtain rfl := hv
  have hx := B.exec
  have hb := B.bytes
  have hr := B.returns
  have hts := atoms_spec (ws := wsX0_placeOf) B.pre
  have hown : s.vm.findClass RX0 = some m.cls := findClass_of_methodNamed B.named
  have hlocks := B.notSynchronized
  have hl := lv_entry ([.int (nI g), .int (nI a), .int (zI ((sh : Int) - 1)), .int (zI ((to : Int) - 1))]) (n := 6) (Nat.le_of_ble_eq_true rfl)
  rw [lg_entry_eq]
  generalize (lg_sl ([.int (nI g), .int (nI a), .int (zI ((sh : Int) - 1)), .int (zI ((to : Int) - 1))]) ++ List.replicate (6 - (lg_sl ([.int (nI g), .int (nI a), .int (zI ((sh : Int) - 1)), .int (zI ((to : Int) - 1))])).length) Slot.unset).toArray = ls at hl ⊢
  have hl : lv_has ls 6 [(0, .int (nI g)), (1, .int (nI a)), (2, .int (zI ((sh : Int) - 1))), (3, .int (zI ((to : Int) - 1)))] := hl
  refine lv_iload_n hx hb dX0_placeOf_0 rfl (lv_at hl 0 rfl) ?_
  refine lv_bipush (v := nI 6) hx hb dX0_placeOf_1 (by decide) ?_
  refine q_mulN (a := g) (b := 6) hx hb dX0_placeOf_3 ?_
  refine lv_iload_n hx hb dX0_placeOf_4 rfl (lv_at hl 1 rfl) ?_
  refine q_addN (a := g * 6) (b := a) hx hb dX0_placeOf_5 ?_
  refine lv_istore (lv' := [(4, .int (nI ((g * 6) + a))), (0, .int (nI g)), (1, .int (nI a)), (2, .int (zI ((sh : Int) - 1))), (3, .int (zI ((to : Int) - 1)))]) hx hb dX0_placeOf_6 hl (by decide) rfl (fun ls hl => ?_)
  refine lv_iload_n hx hb dX0_placeOf_8 rfl (lv_at hl 3 rfl) ?_
  refine lv_iconst (v := nI 1) hx hb dX0_placeOf_9 (by decide) ?_
  refine q_top (y := zI ((1 : Nat) : Int)) (nz 1) ?_
  refine q_addZ (a := (sh : Int) - 1) (b := ((1 : Nat) : Int)) hx hb dX0_placeOf_10 ?_
  refine q_top (y := nI sh) (by rw [nz]; exact congrArg zI (by omega)) ?_
  refine lv_iconst (v := nI 4) hx hb dX0_placeOf_11 (by decide) ?_
  refine q_mulN (a := sh) (b := 4) hx hb dX0_placeOf_12 ?_
  refine lv_iload_n hx hb dX0_placeOf_13 rfl (lv_at hl 4 rfl) ?_
  refine q_top2 (y := zI ((sh * 4 : Nat) : Int)) (nz (sh * 4)) ?_
  refine q_addZ (a := ((sh * 4 : Nat) : Int)) (b := (to : Int) - 1) hx hb dX0_placeOf_14 ?_
  refine lv_iconst (v := nI 1) hx hb dX0_placeOf_15 (by decide) ?_
  refine q_top (y := zI ((1 : Nat) : Int)) (nz 1) ?_
  refine q_addZ (a := ((sh * 4 : Nat) : Int) + ((to : Int) - 1)) (b := ((1 : Nat) : Int)) hx hb dX0_placeOf_16 ?_
  refine q_top (y := nI (sh * 4 + to)) (by rw [nz]; exact congrArg zI (by omega)) ?_
  refine lv_istore (lv' := [(5, .int (nI (sh * 4 + to))), (4, .int (nI ((g * 6) + a))), (0, .int (nI g)), (1, .int (nI a)), (2, .int (zI ((sh : Int) - 1))), (3, .int (zI ((to : Int) - 1)))]) hx hb dX0_placeOf_17 hl (by decide) rfl (fun ls hl => ?_)
  refine lv_iload hx hb dX0_placeOf_19 (lv_at hl 1 rfl) ?_
  refine lv_bipush (v := nI 16) hx hb dX0_placeOf_21 (by decide) ?_
  refine q_mulN (a := (g * 6) + a) (b := 16) hx hb dX0_placeOf_23 ?_
  refine lv_iload hx hb dX0_placeOf_24 (lv_at hl 0 rfl) ?_
  refine q_addN (a := ((g * 6) + a) * 16) (b := sh * 4 + to) hx hb dX0_placeOf_26 ?_
  exact q_retI hx hb hr hlocks (rfl) dX0_placeOf_27
