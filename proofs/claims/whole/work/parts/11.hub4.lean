set_option maxHeartbeats 4000000 in
set_option maxRecDepth 100000 in
theorem kX0_isParent (l : Launch) (D : va_G) (h : Nat) (ad : Nat → Nat) (cI cZ : ClassId) (ex : Nat → Bool) (pa : Nat → Option Nat) (di : Nat → Nat) (qu : Nat → Nat) (gc : Nat) (dg : Nat → Nat) (dp : Nat → Nat) (dv : Nat → Option Nat) (dd : Nat → Nat) (ds : Nat → Nat) (dc : Nat) (td : Nat) (ho : Nat → Option Nat) (ak : Nat → Bool) (se : Nat → Option Nat) (pr : Nat → Option Nat) (g : Nat) (hg : g < 16) (hpr : PR pa) : Met l yX0_isParent wsX0_isParent ({ frames := 0, cells := 0, slots := 0, locals := 0 } : Room) (pP D (hW h ad cI cZ ex pa di qu gc dg dp dv dd ds dc td ho ak se pr) (hT cI cZ) [.ref h, .int (nI g)]) (pQ (some (.int (bI (exU (fun k => decide (pa k = some g)) 16))))) 0 0 nF := by
  refine Met.ofW (cc := cX0_isParent) (maxL := 3) (ret := (some .boolean)) (by decide) rfl ?_
  intro p e s m args below meth c s₁ B hml hv
  obtain ⟨rfl, hP, hK⟩ := hv
  have hx := B.exec
  have hb := B.bytes
  have hr := B.returns
  have hts := atoms_spec (ws := wsX0_isParent) B.pre
  have hown : s.vm.findClass RX0 = some m.cls := findClass_of_methodNamed B.named
  have hlocks := B.notSynchronized
  have hl := lv_entry ([.ref h, .int (nI g)]) (n := 3) (Nat.le_of_ble_eq_true rfl)
  rw [lg_entry_eq]
  generalize (lg_sl ([.ref h, .int (nI g)]) ++ List.replicate (3 - (lg_sl ([.ref h, .int (nI g)])).length) Slot.unset).toArray = ls at hl ⊢
  have hl : lv_has ls 3 [(0, .ref h), (1, .int (nI g))] := hl
  refine lv_iconst (v := nI 0) hx hb dX0_isParent_0 (by decide) ?_
  refine lv_istore_n (lv' := [(2, .int (nI 0)), (0, .ref h), (1, .int (nI g))]) hx hb dX0_isParent_1 rfl hl (by decide) rfl (fun ls hl => ?_)
  have loop2 : ∀ (n : Nat) (i : Nat), (i ≤ 16) → (17 ≤ i + n) → (∀ t, t < i → decide (pa t = some g) = false) → ∀ ls : Array Slot, lv_has ls 3 [(0, .ref h), (1, .int (nI g)), (2, .int (nI i))] → W p l e ({ frames := 0, cells := 0, slots := 0, locals := 0 } : Room) s m ([.ref h, .int (nI g)] : List Value).toArray below meth c s.heap [] 0 0 (MQ below (pQ (some (.int (bI (exU (fun k => decide (pa k = some g)) 16))))) ([.ref h, .int (nI g)] : List Value).toArray s 0 0 nF) (F0 m 2 ls []) := by
    intro n
    induction n with
    | zero => intro i hle hn hset; omega
    | succ n ih =>
      intro i hle hn hset ls hl
      refine lv_iload_n hx hb dX0_isParent_2 rfl (lv_at hl 2 rfl) ?_
      refine lv_bipush (v := nI 16) hx hb dX0_isParent_3 (by decide) ?_
      refine q_icmpN_ge (a := i) (b := 16) (tgt := 26) (by omega) (by omega) hx hb dX0_isParent_5 (by decide) (fun k5 => ?_) (fun k5 => ?_)
      · refine lv_iconst (v := nI 0) hx hb dX0_isParent_26 (by decide) ?_
        exact q_retZ hx hb hr hlocks (retF (exU_no.mpr (fun t h9 => hset t (by omega)))) dX0_isParent_27
      · refine lv_aload_n hx hb dX0_isParent_8 rfl (lv_at hl 0 rfl) ?_
        refine va_get (D := D) (ci := 0) (v := .ref (ad 1)) (C := RX0) (T := TX0) (N := 16) hx hb hts (iX0_isParent) hown hK hP 0 rfl rfl 1 (by decide) (hts (.fieldLink RX0 13 "ShopHub" "parents" "[I") (by decide +kernel)) (fun _ h9 => h9) rfl dX0_isParent_9 ?_
        refine lv_iload_n hx hb dX0_isParent_12 rfl (lv_at hl 2 rfl) ?_
        refine q_ald oI pa hx hb hK hP 2 1 rfl rfl (k := i) (by omega) (Nat.le_of_ble_eq_true rfl) dX0_isParent_13 ?_
        refine lv_iload_n hx hb dX0_isParent_14 rfl (lv_at hl 1 rfl) ?_
        refine q_top (y := oI (some g)) ((rfl : nI g = oI (some g))) ?_
        refine q_icmpO_ne (a := pa i) (b := some g) (tgt := 20) (fun k h9 => by have := hpr i (by omega) k h9; omega) (fun k h9 => by cases h9; omega) hx hb dX0_isParent_15 (by decide) (fun k15 => ?_) (fun k15 => ?_)
        · refine lv_iinc (v := nI (i + 1)) (lv' := [(2, .int (nI (i + 1))), (0, .ref h), (1, .int (nI g))]) hx hb dX0_isParent_20 hl (k := 2) rfl (i1_n i) (by decide) rfl (fun ls hl => ?_)
          refine lv_goto (tgt := 2) hx hb dX0_isParent_23 (by decide) ?_
          exact ih (i + 1) (by omega) (by omega) (fun t h9 => (Nat.lt_or_ge t i).elim (hset t) (fun h8 => by rw [show t = i by omega]; exact decide_eq_false k15)) _ (lv_sub hl [1, 2, 0] rfl)
        · refine lv_iconst (v := nI 1) hx hb dX0_isParent_18 (by decide) ?_
          exact q_retZ hx hb hr hlocks (retT (exU_yes (show i < 16 by omega) (decide_eq_true k15))) dX0_isParent_19
  exact loop2 17 0 (by omega) (Nat.le_refl 17) (fun t h9 => absurd h9 (Nat.not_lt_zero t)) _ (lv_sub hl [1, 2, 0] rfl)

set_option maxHeartbeats 4000000 in
set_option maxRecDepth 100000 in
theorem kX0_isPart (l : Launch) (D : va_G) (h : Nat) (ad : Nat → Nat) (cI cZ : ClassId) (ex : Nat → Bool) (pa : Nat → Option Nat) (di : Nat → Nat) (qu : Nat → Nat) (gc : Nat) (dg : Nat → Nat) (dp : Nat → Nat) (dv : Nat → Option Nat) (dd : Nat → Nat) (ds : Nat → Nat) (dc : Nat) (td : Nat) (ho : Nat → Option Nat) (ak : Nat → Bool) (se : Nat → Option Nat) (pr : Nat → Option Nat) (g : Nat) (hg : g < 16) (hqu : ∀ k, k < 256 → qu k ≤ 20) : Met l yX0_isPart wsX0_isPart ({ frames := 0, cells := 0, slots := 0, locals := 0 } : Room) (pP D (hW h ad cI cZ ex pa di qu gc dg dp dv dd ds dc td ho ak se pr) (hT cI cZ) [.ref h, .int (nI g)]) (pQ (some (.int (bI (exU (fun k => decide (0 < qu (k * 16 + g))) 16))))) 0 0 nF := by
  refine Met.ofW (cc := cX0_isPart) (maxL := 3) (ret := (some .boolean)) (by decide) rfl ?_
  intro p e s m args below meth c s₁ B hml hv
  obtain ⟨rfl, hP, hK⟩ := hv
  have hx := B.exec
  have hb := B.bytes
  have hr := B.returns
  have hts := atoms_spec (ws := wsX0_isPart) B.pre
  have hown : s.vm.findClass RX0 = some m.cls := findClass_of_methodNamed B.named
  have hlocks := B.notSynchronized
  have hl := lv_entry ([.ref h, .int (nI g)]) (n := 3) (Nat.le_of_ble_eq_true rfl)
  rw [lg_entry_eq]
  generalize (lg_sl ([.ref h, .int (nI g)]) ++ List.replicate (3 - (lg_sl ([.ref h, .int (nI g)])).length) Slot.unset).toArray = ls at hl ⊢
  have hl : lv_has ls 3 [(0, .ref h), (1, .int (nI g))] := hl
  refine lv_iconst (v := nI 0) hx hb dX0_isPart_0 (by decide) ?_
  refine lv_istore_n (lv' := [(2, .int (nI 0)), (0, .ref h), (1, .int (nI g))]) hx hb dX0_isPart_1 rfl hl (by decide) rfl (fun ls hl => ?_)
  have loop2 : ∀ (n : Nat) (i : Nat), (i ≤ 16) → (17 ≤ i + n) → (∀ t, t < i → decide (0 < qu (t * 16 + g)) = false) → ∀ ls : Array Slot, lv_has ls 3 [(0, .ref h), (1, .int (nI g)), (2, .int (nI i))] → W p l e ({ frames := 0, cells := 0, slots := 0, locals := 0 } : Room) s m ([.ref h, .int (nI g)] : List Value).toArray below meth c s.heap [] 0 0 (MQ below (pQ (some (.int (bI (exU (fun k => decide (0 < qu (k * 16 + g))) 16))))) ([.ref h, .int (nI g)] : List Value).toArray s 0 0 nF) (F0 m 2 ls []) := by
    intro n
    induction n with
    | zero => intro i hle hn hset; omega
    | succ n ih =>
      intro i hle hn hset ls hl
      refine lv_iload_n hx hb dX0_isPart_2 rfl (lv_at hl 2 rfl) ?_
      refine lv_bipush (v := nI 16) hx hb dX0_isPart_3 (by decide) ?_
      refine q_icmpN_ge (a := i) (b := 16) (tgt := 30) (by omega) (by omega) hx hb dX0_isPart_5 (by decide) (fun k5 => ?_) (fun k5 => ?_)
      · refine lv_iconst (v := nI 0) hx hb dX0_isPart_30 (by decide) ?_
        exact q_retZ hx hb hr hlocks (retF (exU_no.mpr (fun t h9 => hset t (by omega)))) dX0_isPart_31
      · refine lv_aload_n hx hb dX0_isPart_8 rfl (lv_at hl 0 rfl) ?_
        refine va_get (D := D) (ci := 0) (v := .ref (ad 3)) (C := RX0) (T := TX0) (N := 16) hx hb hts (iX0_isPart) hown hK hP 0 rfl rfl 3 (by decide) (hts (.fieldLink RX0 20 "ShopHub" "quantities" "[I") (by decide +kernel)) (fun _ h9 => h9) rfl dX0_isPart_9 ?_
        refine lv_iload_n hx hb dX0_isPart_12 rfl (lv_at hl 2 rfl) ?_
        refine lv_bipush (v := nI 16) hx hb dX0_isPart_13 (by decide) ?_
        refine q_mulN (a := i) (b := 16) hx hb dX0_isPart_15 ?_
        refine lv_iload_n hx hb dX0_isPart_16 rfl (lv_at hl 1 rfl) ?_
        refine q_addN (a := i * 16) (b := g) hx hb dX0_isPart_17 ?_
        refine q_ald nI qu hx hb hK hP 4 1 rfl rfl (k := (i * 16) + g) (by omega) (Nat.le_of_ble_eq_true rfl) dX0_isPart_18 ?_
        refine q_ifN_le (a := qu ((i * 16) + g)) (tgt := 24) (by have := hqu (i * 16 + g) (by omega); omega) hx hb dX0_isPart_19 (by decide) (fun k19 => ?_) (fun k19 => ?_)
        · refine lv_iinc (v := nI (i + 1)) (lv' := [(2, .int (nI (i + 1))), (0, .ref h), (1, .int (nI g))]) hx hb dX0_isPart_24 hl (k := 2) rfl (i1_n i) (by decide) rfl (fun ls hl => ?_)
          refine lv_goto (tgt := 2) hx hb dX0_isPart_27 (by decide) ?_
          exact ih (i + 1) (by omega) (by omega) (fun t h9 => (Nat.lt_or_ge t i).elim (hset t) (fun h8 => by rw [show t = i by omega]; exact decide_eq_false (by omega))) _ (lv_sub hl [1, 2, 0] rfl)
        · refine lv_iconst (v := nI 1) hx hb dX0_isPart_22 (by decide) ?_
          exact q_retZ hx hb hr hlocks (retT (exU_yes (show i < 16 by omega) (decide_eq_true k19))) dX0_isPart_23
  exact loop2 17 0 (by omega) (Nat.le_refl 17) (fun t h9 => absurd h9 (Nat.not_lt_zero t)) _ (lv_sub hl [1, 2, 0] rfl)

set_option maxHeartbeats 4000000 in
set_option maxRecDepth 100000 in
theorem kX0_levelsWithin (l : Launch) (D : va_G) (h : Nat) (ad : Nat → Nat) (cI cZ : ClassId) (ex : Nat → Bool) (pa : Nat → Option Nat) (di : Nat → Nat) (qu : Nat → Nat) (gc : Nat) (dg : Nat → Nat) (dp : Nat → Nat) (dv : Nat → Option Nat) (dd : Nat → Nat) (ds : Nat → Nat) (dc : Nat) (td : Nat) (ho : Nat → Option Nat) (ak : Nat → Bool) (se : Nat → Option Nat) (pr : Nat → Option Nat) (t : Nat) (lev : Nat → Nat) (ht : t < 16) (het : ex t = true) (hti : TI ex pa lev) (hpr : PR pa) : Met l yX0_levelsWithin wsX0_levelsWithin ({ frames := 2, cells := 0, slots := 0, locals := 45 } : Room) (pP D (hW h ad cI cZ ex pa di qu gc dg dp dv dd ds dc td ho ak se pr) (hT cI cZ) [.ref h, .int (nI t)]) (pQ (some (.int (zI (((mxd (fun g => wth ex pa t 3 (some g)) lev (lev t) 16 : Nat) : Int) - ((lev t : Nat) : Int) + 1))))) 0 0 nF := by
  refine Met.ofW (cc := cX0_levelsWithin) (maxL := 4) (ret := (some .int)) (by decide) rfl ?_
  intro p e s m args below meth c s₁ B hml hv
  obtain ⟨rfl, hP, hK⟩ := hv
  have hx := B.exec
  have hb := B.bytes
  have hr := B.returns
  have hts := atoms_spec (ws := wsX0_levelsWithin) B.pre
  have hown : s.vm.findClass RX0 = some m.cls := findClass_of_methodNamed B.named
  have hlocks := B.notSynchronized
  have hl := lv_entry ([.ref h, .int (nI t)]) (n := 4) (Nat.le_of_ble_eq_true rfl)
  rw [lg_entry_eq]
  generalize (lg_sl ([.ref h, .int (nI t)]) ++ List.replicate (4 - (lg_sl ([.ref h, .int (nI t)])).length) Slot.unset).toArray = ls at hl ⊢
  have hl : lv_has ls 4 [(0, .ref h), (1, .int (nI t))] := hl
  have hL := TI_le hti ht het
  refine lv_aload_n hx hb dX0_levelsWithin_0 rfl (lv_at hl 0 rfl) ?_
  refine lv_iload_n hx hb dX0_levelsWithin_1 rfl (lv_at hl 1 rfl) ?_
  refine q_callI (r := zI ((lev t : Nat) : Int)) (va_runV (As := [.int (nI t)]) (rest := []) ⟨hx, hb, hml, hown, hts⟩ (kX0_levelOf l D h ad cI cZ ex pa di qu gc dg dp dv dd ds dc td ho ak se pr (some t) lev hti (fun k h9 => by cases h9; exact ⟨ht, het⟩)) (cwV 1 hts gX0_levelsWithin_X0_levelOf rfl rfl rfl (by decide +kernel) ⟨Nat.le_of_ble_eq_true rfl, Nat.le_of_ble_eq_true rfl⟩) ⟨pP_blind, va_recv hK hP (ci := 0) (q0 := 0) rfl rfl, pP_pre hP hK⟩ rfl rfl hl.1 rfl (lv_room (Nat.le_of_ble_eq_true rfl)) dX0_levelsWithin_2 ⟨Nat.zero_le _, Nat.zero_le _⟩) ?_
  refine lv_istore_n (lv' := [(2, .int (zI ((lev t : Nat) : Int))), (0, .ref h), (1, .int (nI t))]) hx hb dX0_levelsWithin_5 rfl hl (by decide) rfl (fun ls hl => ?_)
  refine lv_iconst (v := nI 0) hx hb dX0_levelsWithin_6 (by decide) ?_
  refine lv_istore_n (lv' := [(3, .int (nI 0)), (2, .int (zI ((lev t : Nat) : Int))), (0, .ref h), (1, .int (nI t))]) hx hb dX0_levelsWithin_7 rfl hl (by decide) rfl (fun ls hl => ?_)
  have loop8 : ∀ (n : Nat) (i : Nat) (d : Nat), (i ≤ 16) → (17 ≤ i + n) → (d = mxd (fun g => wth ex pa t 3 (some g)) lev (lev t) i) → (d ≤ 2) → ∀ ls : Array Slot, lv_has ls 4 [(0, .ref h), (1, .int (nI t)), (2, .int (zI ((d : Nat) : Int))), (3, .int (nI i))] → W p l e ({ frames := 2, cells := 0, slots := 0, locals := 45 } : Room) s m ([.ref h, .int (nI t)] : List Value).toArray below meth c s.heap [] 0 0 (MQ below (pQ (some (.int (zI (((mxd (fun g => wth ex pa t 3 (some g)) lev (lev t) 16 : Nat) : Int) - ((lev t : Nat) : Int) + 1))))) ([.ref h, .int (nI t)] : List Value).toArray s 0 0 nF) (F0 m 8 ls []) := by
    intro n
    induction n with
    | zero => intro i d hle hn hset hd2; omega
    | succ n ih =>
      intro i d hle hn hset hd2 ls hl
      refine lv_iload_n hx hb dX0_levelsWithin_8 rfl (lv_at hl 3 rfl) ?_
      refine lv_bipush (v := nI 16) hx hb dX0_levelsWithin_9 (by decide) ?_
      refine q_icmpN_ge (a := i) (b := 16) (tgt := 39) (by omega) (by omega) hx hb dX0_levelsWithin_11 (by decide) (fun k11 => ?_) (fun k11 => ?_)
      · refine lv_iload_n hx hb dX0_levelsWithin_39 rfl (lv_at hl 2 rfl) ?_
        refine lv_aload_n hx hb dX0_levelsWithin_40 rfl (lv_at hl 0 rfl) ?_
        refine lv_iload_n hx hb dX0_levelsWithin_41 rfl (lv_at hl 1 rfl) ?_
        refine q_callI (r := zI ((lev t : Nat) : Int)) (va_runV (As := [.int (nI t)]) (rest := [.int (zI ((d : Nat) : Int))]) ⟨hx, hb, hml, hown, hts⟩ (kX0_levelOf l D h ad cI cZ ex pa di qu gc dg dp dv dd ds dc td ho ak se pr (some t) lev hti (fun k h9 => by cases h9; exact ⟨ht, het⟩)) (cwV 1 hts gX0_levelsWithin_X0_levelOf rfl rfl rfl (by decide +kernel) ⟨Nat.le_of_ble_eq_true rfl, Nat.le_of_ble_eq_true rfl⟩) ⟨pP_blind, va_recv hK hP (ci := 0) (q0 := 0) rfl rfl, pP_pre hP hK⟩ rfl rfl hl.1 rfl (lv_room (Nat.le_of_ble_eq_true rfl)) dX0_levelsWithin_42 ⟨Nat.zero_le _, Nat.zero_le _⟩) ?_
        refine q_subZ (a := ((d : Nat) : Int)) (b := ((lev t : Nat) : Int)) hx hb dX0_levelsWithin_45 ?_
        refine lv_iconst (v := nI 1) hx hb dX0_levelsWithin_46 (by decide) ?_
        refine q_top (y := zI ((1 : Nat) : Int)) (nz 1) ?_
        refine q_addZ (a := ((d : Nat) : Int) - ((lev t : Nat) : Int)) (b := ((1 : Nat) : Int)) hx hb dX0_levelsWithin_47 ?_
        exact q_retI hx hb hr hlocks (by rw [hset, show i = 16 by omega]; rfl) dX0_levelsWithin_48
      · refine lv_aload_n hx hb dX0_levelsWithin_14 rfl (lv_at hl 0 rfl) ?_
        refine lv_iload_n hx hb dX0_levelsWithin_15 rfl (lv_at hl 3 rfl) ?_
        refine lv_iload_n hx hb dX0_levelsWithin_16 rfl (lv_at hl 1 rfl) ?_
        refine q_callI (r := bI (wth ex pa t 3 (some i))) (va_runV (As := [.int (nI i), .int (nI t)]) (rest := []) ⟨hx, hb, hml, hown, hts⟩ (kX0_isWithin l D h ad cI cZ ex pa di qu gc dg dp dv dd ds dc td ho ak se pr (some i) t ht hpr (fun k h9 => by cases h9; omega)) (cwV 2 hts gX0_levelsWithin_X0_isWithin rfl rfl rfl (by decide +kernel) ⟨Nat.le_of_ble_eq_true rfl, Nat.le_of_ble_eq_true rfl⟩) ⟨pP_blind, va_recv hK hP (ci := 0) (q0 := 0) rfl rfl, pP_pre hP hK⟩ rfl rfl hl.1 rfl (lv_room (Nat.le_of_ble_eq_true rfl)) dX0_levelsWithin_17 ⟨Nat.zero_le _, Nat.zero_le _⟩) ?_
        refine q_ifB_eq (b := wth ex pa t 3 (some i)) (tgt := 33) hx hb dX0_levelsWithin_20 (by decide) (fun k20 => ?_) (fun k20 => ?_)
        · refine lv_iinc (v := nI (i + 1)) (lv' := [(3, .int (nI (i + 1))), (0, .ref h), (1, .int (nI t)), (2, .int (zI ((d : Nat) : Int)))]) hx hb dX0_levelsWithin_33 hl (k := 3) rfl (i1_n i) (by decide) rfl (fun ls hl => ?_)
          refine lv_goto (tgt := 8) hx hb dX0_levelsWithin_36 (by decide) ?_
          exact ih (i + 1) d (by omega) (by omega) (by rw [mxd_f (f := (fun g => wth ex pa t 3 (some g))) k20]; exact hset) hd2 _ (lv_sub hl [1, 2, 3, 0] rfl)
        · have hex := wth_ex k20
          have hi2 := TI_le hti (show i < 16 by omega) hex
          refine lv_iload_n hx hb dX0_levelsWithin_23 rfl (lv_at hl 2 rfl) ?_
          refine lv_aload_n hx hb dX0_levelsWithin_24 rfl (lv_at hl 0 rfl) ?_
          refine lv_iload_n hx hb dX0_levelsWithin_25 rfl (lv_at hl 3 rfl) ?_
          refine q_callI (r := zI ((lev i : Nat) : Int)) (va_runV (As := [.int (nI i)]) (rest := [.int (zI ((d : Nat) : Int))]) ⟨hx, hb, hml, hown, hts⟩ (kX0_levelOf l D h ad cI cZ ex pa di qu gc dg dp dv dd ds dc td ho ak se pr (some i) lev hti (fun k h9 => by cases h9; exact ⟨by omega, hex⟩)) (cwV 1 hts gX0_levelsWithin_X0_levelOf rfl rfl rfl (by decide +kernel) ⟨Nat.le_of_ble_eq_true rfl, Nat.le_of_ble_eq_true rfl⟩) ⟨pP_blind, va_recv hK hP (ci := 0) (q0 := 0) rfl rfl, pP_pre hP hK⟩ rfl rfl hl.1 rfl (lv_room (Nat.le_of_ble_eq_true rfl)) dX0_levelsWithin_26 ⟨Nat.zero_le _, Nat.zero_le _⟩) ?_
          refine va_mmax hx hb (hml.trans hl.1.symm) hown (hts (.methodLink RX0 129 Lib.Math.max.name) (by decide +kernel)) (hts (.static Lib.Math.max.name) (by decide +kernel)) (hts (.initialized "java/lang/Math") (by decide +kernel)) (hts (.code Lib.Math.max.name Lib.Math.max.code 2 (some .int)) (by decide +kernel)) (Nat.le_of_ble_eq_true rfl) (Nat.le_of_ble_eq_true rfl) (Nat.le_of_ble_eq_true rfl) (Nat.le_of_ble_eq_true rfl) dX0_levelsWithin_29 ?_
          refine q_top (y := zI ((max d (lev i) : Nat) : Int)) (zmax hd2 hi2) ?_
          refine lv_istore_n (lv' := [(2, .int (zI ((max d (lev i) : Nat) : Int))), (0, .ref h), (1, .int (nI t)), (3, .int (nI i))]) hx hb dX0_levelsWithin_32 rfl hl (by decide) rfl (fun ls hl => ?_)
          refine lv_iinc (v := nI (i + 1)) (lv' := [(3, .int (nI (i + 1))), (2, .int (zI ((max d (lev i) : Nat) : Int))), (0, .ref h), (1, .int (nI t))]) hx hb dX0_levelsWithin_33 hl (k := 3) rfl (i1_n i) (by decide) rfl (fun ls hl => ?_)
          refine lv_goto (tgt := 8) hx hb dX0_levelsWithin_36 (by decide) ?_
          exact ih (i + 1) (max d (lev i)) (by omega) (by omega) (by rw [mxd_t (f := (fun g => wth ex pa t 3 (some g))) k20, ← hset]) (Nat.max_le.mpr ⟨hd2, hi2⟩) _ (lv_sub hl [2, 3, 1, 0] rfl)
  exact loop8 17 0 (lev t) (by omega) (Nat.le_refl 17) rfl hL _ (lv_sub hl [2, 3, 1, 0] rfl)

set_option maxHeartbeats 4000000 in
set_option maxRecDepth 100000 in
theorem kX0_sumUpParts (l : Launch) (D : va_G) (h : Nat) (ad : Nat → Nat) (cI cZ : ClassId) (ex : Nat → Bool) (pa : Nat → Option Nat) (di : Nat → Nat) (qu : Nat → Nat) (gc : Nat) (dg : Nat → Nat) (dp : Nat → Nat) (dv : Nat → Option Nat) (dd : Nat → Nat) (ds : Nat → Nat) (dc : Nat) (td : Nat) (ho : Nat → Option Nat) (ak : Nat → Bool) (se : Nat → Option Nat) (pr : Nat → Option Nat) (g : Nat) (hg : g < 16) (hqu : ∀ k, k < 256 → qu k ≤ 20) (hdi : ∀ k, k < 16 → di k ≤ 100) (hpb : ∀ k, k < 16 → ∀ v, pr k = some v → v ≤ 1000000000) : Met l yX0_sumUpParts wsX0_sumUpParts ({ frames := 0, cells := 0, slots := 0, locals := 0 } : Room) (pP D (hW h ad cI cZ ex pa di qu gc dg dp dv dd ds dc td ho ak se pr) (hT cI cZ) [.ref h, .int (nI g)]) (pQ (some (.int (oI (bnd qu pr di g))))) 0 0 nF := by
  refine Met.ofW (cc := cX0_sumUpParts) (maxL := 7) (ret := (some .int)) (by decide) rfl ?_
  intro p e s m args below meth c s₁ B hml hv
  obtain ⟨rfl, hP, hK⟩ := hv
  have hx := B.exec
  have hb := B.bytes
  have hr := B.returns
  have hts := atoms_spec (ws := wsX0_sumUpParts) B.pre
  have hown : s.vm.findClass RX0 = some m.cls := findClass_of_methodNamed B.named
  have hlocks := B.notSynchronized
  have hl := lv_entry ([.ref h, .int (nI g)]) (n := 7) (Nat.le_of_ble_eq_true rfl)
  rw [lg_entry_eq]
  generalize (lg_sl ([.ref h, .int (nI g)]) ++ List.replicate (7 - (lg_sl ([.ref h, .int (nI g)])).length) Slot.unset).toArray = ls at hl ⊢
  have hl : lv_has ls 7 [(0, .ref h), (1, .int (nI g))] := hl
  have hDg := hdi g hg
  refine lv_iconst (v := nI 0) hx hb dX0_sumUpParts_0 (by decide) ?_
  refine q_top (y := bI false) ((by decide : nI 0 = bI false)) ?_
  refine lv_istore_n (lv' := [(2, .int (bI false)), (0, .ref h), (1, .int (nI g))]) hx hb dX0_sumUpParts_1 rfl hl (by decide) rfl (fun ls hl => ?_)
  refine lv_lconst (v := lN 0) hx hb dX0_sumUpParts_2 (by decide) ?_
  refine lv_lstore_n (lv' := [(3, .long (lN 0)), (2, .int (bI false)), (0, .ref h), (1, .int (nI g))]) hx hb dX0_sumUpParts_3 rfl hl (by decide) rfl (fun ls hl => ?_)
  refine lv_iconst (v := nI 0) hx hb dX0_sumUpParts_4 (by decide) ?_
  refine lv_istore (lv' := [(5, .int (nI 0)), (3, .long (lN 0)), (2, .int (bI false)), (0, .ref h), (1, .int (nI g))]) hx hb dX0_sumUpParts_5 hl (by decide) rfl (fun ls hl => ?_)
  have loop7 : ∀ (n : Nat) (i : Nat) (b : Bool) (sm : Nat), (i ≤ g) → (g + 1 ≤ i + n) → (b = exU (pos qu g) i) → (sm = psm qu pr g i) → (∀ t, t < i → nop qu pr g t = false) → ∀ ls : Array Slot, lv_has ls 7 [(0, .ref h), (1, .int (nI g)), (2, .int (bI b)), (3, .long (lN sm)), (5, .int (nI i))] → W p l e ({ frames := 0, cells := 0, slots := 0, locals := 0 } : Room) s m ([.ref h, .int (nI g)] : List Value).toArray below meth c s.heap [] 0 0 (MQ below (pQ (some (.int (oI (bnd qu pr di g))))) ([.ref h, .int (nI g)] : List Value).toArray s 0 0 nF) (F0 m 7 ls []) := by
    intro n
    induction n with
    | zero => intro i b sm hle hn hb1 hs1 hset; omega
    | succ n ih =>
      intro i b sm hle hn hb1 hs1 hset ls hl
      have hSm : sm ≤ i * 20000000000 := by rw [hs1]; exact psm_le hqu hpb hg i (by omega)
      refine lv_iload hx hb dX0_sumUpParts_7 (lv_at hl 4 rfl) ?_
      refine lv_iload_n hx hb dX0_sumUpParts_9 rfl (lv_at hl 1 rfl) ?_
      refine q_icmpN_ge (a := i) (b := g) (tgt := 68) (by omega) (by omega) hx hb dX0_sumUpParts_10 (by decide) (fun k10 => ?_) (fun k10 => ?_)
      · have hig : i = g := by omega
        have hb2 : b = exU (pos qu g) g := by rw [hb1, hig]
        have hs2 : sm = psm qu pr g g := by rw [hs1, hig]
        have hno : ¬ exU (nop qu pr g) g = true := by rw [exU_no.mpr (fun t h9 => hset t (by omega))]; decide
        refine lv_lload_n hx hb dX0_sumUpParts_68 rfl (lv_at hl 3 rfl) ?_
        refine lv_bipush (v := nI 100) hx hb dX0_sumUpParts_69 (by decide) ?_
        refine lv_aload_n hx hb dX0_sumUpParts_71 rfl (lv_at hl 0 rfl) ?_
        refine va_get (D := D) (ci := 0) (v := .ref (ad 2)) (C := RX0) (T := TX0) (N := 16) hx hb hts (iX0_sumUpParts) hown hK hP 0 rfl rfl 2 (by decide) (hts (.fieldLink RX0 17 "ShopHub" "discounts" "[I") (by decide +kernel)) (fun _ h9 => h9) rfl dX0_sumUpParts_72 ?_
        refine lv_iload_n hx hb dX0_sumUpParts_75 rfl (lv_at hl 1 rfl) ?_
        refine q_ald nI di hx hb hK hP 3 1 rfl rfl (k := g) (by omega) (Nat.le_of_ble_eq_true rfl) dX0_sumUpParts_76 ?_
        refine q_subN (a := 100) (b := di g) (by omega) hx hb dX0_sumUpParts_77 ?_
        refine lv_i2l (v := (lN (100 - (di g)))) hx hb dX0_sumUpParts_78 (nI_l (by omega)) ?_
        refine lv_lmul hx hb dX0_sumUpParts_79 ?_
        refine q_topL (y := (lN (sm * (100 - (di g))))) (lN_mul _ _) ?_
        refine lv_ldc2 (v := 100) hx hb hown (hts (.constantLong RX0 211 (100)) (by decide +kernel)) dX0_sumUpParts_80 ?_
        refine q_topL (y := (lN 100)) (by decide) ?_
        refine lv_ldiv hx hb dX0_sumUpParts_83 (by decide) ?_
        refine q_topL (y := (lN ((sm * (100 - di g)) / 100))) (pk_lDiv (by have : sm * (100 - di g) ≤ sm * 100 := Nat.mul_le_mul_left sm (by omega); omega) (by decide) (by decide)) ?_
        refine lv_lstore (lv' := [(5, .long (lN ((sm * (100 - di g)) / 100))), (0, .ref h), (1, .int (nI g)), (2, .int (bI b)), (3, .long (lN sm))]) hx hb dX0_sumUpParts_84 hl (by decide) rfl (fun ls hl => ?_)
        refine lv_iload_n hx hb dX0_sumUpParts_86 rfl (lv_at hl 3 rfl) ?_
        refine q_ifB_eq (b := b) (tgt := 105) hx hb dX0_sumUpParts_87 (by decide) (fun k87 => ?_) (fun k87 => ?_)
        · refine lv_iconst (v := oI none) hx hb dX0_sumUpParts_105 (by decide) ?_
          exact q_retI hx hb hr hlocks (by unfold bnd; rw [if_neg hno, if_neg (fun z => by rw [← hb2, k87] at z; cases z.1)]) dX0_sumUpParts_106
        · refine lv_lload hx hb dX0_sumUpParts_90 (lv_at hl 0 rfl) ?_
          refine lv_ldc2 (v := 1000000000) hx hb hown (hts (.constantLong RX0 213 (1000000000)) (by decide +kernel)) dX0_sumUpParts_92 ?_
          refine q_topL (y := (lN 1000000000)) (by decide) ?_
          refine W.lcmp hx hb dX0_sumUpParts_95 ?_
          refine q_top (y := lg_cmp (lN (sm * (100 - di g) / 100)) (lN 1000000000)) (rfl) ?_
          refine lv_if_gt (tgt := 105) hx hb dX0_sumUpParts_96 (by decide) (fun k96 => ?_) (fun k96 => ?_)
          · have k97 := (pk_lLT (by decide) (by have := @dsc_le sm (di g); omega)).mp ((lg_cmp_gt _ _).mp k96)
            refine lv_iconst (v := oI none) hx hb dX0_sumUpParts_105 (by decide) ?_
            exact q_retI hx hb hr hlocks (by unfold bnd; rw [if_neg hno, if_neg (fun z => by rw [← hs2] at z; omega)]) dX0_sumUpParts_106
          · have k97 := Nat.le_of_not_lt (fun e9 => k96 ((lg_cmp_gt _ _).mpr ((pk_lLT (by decide) (by have := @dsc_le sm (di g); omega)).mpr e9)))
            refine lv_lload hx hb dX0_sumUpParts_99 (lv_at hl 0 rfl) ?_
            refine lv_l2i (v := nI (sm * (100 - di g) / 100)) hx hb dX0_sumUpParts_101 (lN_i _) ?_
            refine lv_goto (tgt := 106) hx hb dX0_sumUpParts_102 (by decide) ?_
            exact q_retI hx hb hr hlocks (by unfold bnd; rw [if_neg hno, if_pos ⟨by rw [← hb2]; exact k87, by rw [← hs2]; exact k97⟩, ← hs2]; rfl) dX0_sumUpParts_106
      · refine lv_aload_n hx hb dX0_sumUpParts_13 rfl (lv_at hl 0 rfl) ?_
        refine va_get (D := D) (ci := 0) (v := .ref (ad 3)) (C := RX0) (T := TX0) (N := 16) hx hb hts (iX0_sumUpParts) hown hK hP 0 rfl rfl 3 (by decide) (hts (.fieldLink RX0 20 "ShopHub" "quantities" "[I") (by decide +kernel)) (fun _ h9 => h9) rfl dX0_sumUpParts_14 ?_
        refine lv_iload_n hx hb dX0_sumUpParts_17 rfl (lv_at hl 1 rfl) ?_
        refine lv_bipush (v := nI 16) hx hb dX0_sumUpParts_18 (by decide) ?_
        refine q_mulN (a := g) (b := 16) hx hb dX0_sumUpParts_20 ?_
        refine lv_iload hx hb dX0_sumUpParts_21 (lv_at hl 4 rfl) ?_
        refine q_addN (a := g * 16) (b := i) hx hb dX0_sumUpParts_23 ?_
        refine q_ald nI qu hx hb hK hP 4 1 rfl rfl (k := (g * 16) + i) (by omega) (Nat.le_of_ble_eq_true rfl) dX0_sumUpParts_24 ?_
        refine lv_istore (lv' := [(6, .int (nI (qu ((g * 16) + i)))), (0, .ref h), (1, .int (nI g)), (2, .int (bI b)), (3, .long (lN sm)), (5, .int (nI i))]) hx hb dX0_sumUpParts_25 hl (by decide) rfl (fun ls hl => ?_)
        refine lv_iload hx hb dX0_sumUpParts_27 (lv_at hl 0 rfl) ?_
        refine q_ifN_le (a := qu ((g * 16) + i)) (tgt := 62) (by have := hqu (g * 16 + i) (by omega); omega) hx hb dX0_sumUpParts_29 (by decide) (fun k29 => ?_) (fun k29 => ?_)
        · refine lv_iinc (v := nI (i + 1)) (lv' := [(5, .int (nI (i + 1))), (6, .int (nI (qu ((g * 16) + i)))), (0, .ref h), (1, .int (nI g)), (2, .int (bI b)), (3, .long (lN sm))]) hx hb dX0_sumUpParts_62 hl (k := 5) rfl (i1_n i) (by decide) rfl (fun ls hl => ?_)
          refine lv_goto (tgt := 7) hx hb dX0_sumUpParts_65 (by decide) ?_
          exact ih (i + 1) b sm (by omega) (by omega) (by rw [exU_s (show pos qu g i = false from decide_eq_false (by omega))]; exact hb1) (by rw [psm_0 k29]; exact hs1) (fun t h9 => (Nat.lt_or_ge t i).elim (hset t) (fun h8 => by rw [show t = i by omega]; unfold nop; rw [decide_eq_false (by omega), Bool.false_and])) _ (lv_sub hl [2, 3, 4, 5, 0] rfl)
        · have hq20 := hqu (g * 16 + i) (by omega)
          refine lv_aload_n hx hb dX0_sumUpParts_32 rfl (lv_at hl 1 rfl) ?_
          refine va_get (D := D) (ci := 0) (v := .ref (ad 15)) (C := RX0) (T := TX0) (N := 16) hx hb hts (iX0_sumUpParts) hown hK hP 0 rfl rfl 15 (by decide) (hts (.fieldLink RX0 57 "ShopHub" "prices" "[I") (by decide +kernel)) (fun _ h9 => h9) rfl dX0_sumUpParts_33 ?_
          refine lv_iload hx hb dX0_sumUpParts_36 (lv_at hl 5 rfl) ?_
          refine q_ald oI pr hx hb hK hP 13 1 rfl rfl (k := i) (by omega) (Nat.le_of_ble_eq_true rfl) dX0_sumUpParts_38 ?_
          refine lv_iconst (v := oI none) hx hb dX0_sumUpParts_39 (by decide) ?_
          refine q_icmpO_ne (a := pr i) (b := none) (tgt := 45) (fun k h9 => by have := hpb i (by omega) k h9; omega) (fun k h9 => by cases h9) hx hb dX0_sumUpParts_40 (by decide) (fun k40 => ?_) (fun k40 => ?_)
          · obtain ⟨v, hv⟩ : ∃ v, pr i = some v := Option.ne_none_iff_exists'.mp k40
            have hv9 := hpb i (by omega) v hv
            refine lv_iconst (v := nI 1) hx hb dX0_sumUpParts_45 (by decide) ?_
            refine q_top (y := bI true) ((by decide : nI 1 = bI true)) ?_
            refine lv_istore_n (lv' := [(2, .int (bI true)), (6, .int (nI (qu ((g * 16) + i)))), (0, .ref h), (1, .int (nI g)), (3, .long (lN sm)), (5, .int (nI i))]) hx hb dX0_sumUpParts_46 rfl hl (by decide) rfl (fun ls hl => ?_)
            refine lv_lload_n hx hb dX0_sumUpParts_47 rfl (lv_at hl 4 rfl) ?_
            refine lv_aload_n hx hb dX0_sumUpParts_48 rfl (lv_at hl 2 rfl) ?_
            refine va_get (D := D) (ci := 0) (v := .ref (ad 15)) (C := RX0) (T := TX0) (N := 16) hx hb hts (iX0_sumUpParts) hown hK hP 0 rfl rfl 15 (by decide) (hts (.fieldLink RX0 57 "ShopHub" "prices" "[I") (by decide +kernel)) (fun _ h9 => h9) rfl dX0_sumUpParts_49 ?_
            refine lv_iload hx hb dX0_sumUpParts_52 (lv_at hl 5 rfl) ?_
            refine q_ald oI pr hx hb hK hP 13 1 rfl rfl (k := i) (by omega) (Nat.le_of_ble_eq_true rfl) dX0_sumUpParts_54 ?_
            refine q_top (y := nI v) (by rw [hv]; rfl) ?_
            refine lv_i2l (v := (lN v)) hx hb dX0_sumUpParts_55 (nI_l (by omega)) ?_
            refine lv_iload hx hb dX0_sumUpParts_56 (lv_at hl 1 rfl) ?_
            refine lv_i2l (v := (lN (qu ((g * 16) + i)))) hx hb dX0_sumUpParts_58 (nI_l (by omega)) ?_
            refine lv_lmul hx hb dX0_sumUpParts_59 ?_
            refine q_topL (y := (lN (v * (qu ((g * 16) + i))))) (lN_mul _ _) ?_
            refine lv_ladd hx hb dX0_sumUpParts_60 ?_
            refine q_topL (y := (lN (sm + (v * (qu ((g * 16) + i)))))) (lN_add _ _) ?_
            refine lv_lstore_n (lv' := [(3, .long (lN (sm + (v * (qu ((g * 16) + i)))))), (2, .int (bI true)), (6, .int (nI (qu ((g * 16) + i)))), (0, .ref h), (1, .int (nI g)), (5, .int (nI i))]) hx hb dX0_sumUpParts_61 rfl hl (by decide) rfl (fun ls hl => ?_)
            refine lv_iinc (v := nI (i + 1)) (lv' := [(5, .int (nI (i + 1))), (3, .long (lN (sm + (v * (qu ((g * 16) + i)))))), (2, .int (bI true)), (6, .int (nI (qu ((g * 16) + i)))), (0, .ref h), (1, .int (nI g))]) hx hb dX0_sumUpParts_62 hl (k := 5) rfl (i1_n i) (by decide) rfl (fun ls hl => ?_)
            refine lv_goto (tgt := 7) hx hb dX0_sumUpParts_65 (by decide) ?_
            exact ih (i + 1) true (sm + v * qu (g * 16 + i)) (by omega) (by omega) ((exU_t (show pos qu g i = true from decide_eq_true k29)).symm) (by rw [psm_s hv, ← hs1]) (fun t h9 => (Nat.lt_or_ge t i).elim (hset t) (fun h8 => by rw [show t = i by omega]; unfold nop; rw [decide_eq_false k40, Bool.and_false])) _ (lv_sub hl [4, 5, 2, 1, 0] rfl)
          · refine lv_iconst (v := oI none) hx hb dX0_sumUpParts_43 (by decide) ?_
            exact q_retI hx hb hr hlocks (by unfold bnd; rw [if_pos (exU_yes (show i < g by omega) (show nop qu pr g i = true by unfold nop; rw [decide_eq_true k29, decide_eq_true k40]; rfl))]) dX0_sumUpParts_44
  exact loop7 (g + 1) 0 false 0 (by omega) (by omega) rfl rfl (fun t h9 => absurd h9 (Nat.not_lt_zero t)) _ (lv_sub hl [3, 4, 2, 1, 0] rfl)

set_option maxHeartbeats 4000000 in
set_option maxRecDepth 100000 in
theorem kX0_findPrice (l : Launch) (D : va_G) (h : Nat) (ad : Nat → Nat) (cI cZ : ClassId) (ex : Nat → Bool) (pa : Nat → Option Nat) (di : Nat → Nat) (qu : Nat → Nat) (gc : Nat) (dg : Nat → Nat) (dp : Nat → Nat) (dv : Nat → Option Nat) (dd : Nat → Nat) (ds : Nat → Nat) (dc : Nat) (td : Nat) (ho : Nat → Option Nat) (ak : Nat → Bool) (se : Nat → Option Nat) (pr : Nat → Option Nat) (sz : Nat) (g sp : Nat) (hg : g < 16) (hs : sp < 3) (hpr : PR pa) (hho : HO ho dc) (hdc : dc ≤ 200) (hdv : DV dv dc) (hqu : ∀ k, k < 256 → qu k ≤ 20) (hdi : ∀ k, k < 16 → di k ≤ 100) (hpb : ∀ k, k < 16 → ∀ v, pr k = some v → v ≤ 1000000000) : Met l yX0_findPrice wsX0_findPrice ({ frames := 4, cells := 0, slots := 0, locals := 102 } : Room) (wP D (hW h ad cI cZ ex pa di qu gc dg dp dv dd ds dc td ho ak se pr) (hT cI cZ) [.ref h, .int (nI g), .int (nI sp)] sz) (wQ D (hW h ad cI cZ ex pa di qu gc dg dp dv dd ds dc td ho ak se pr) (hW h ad cI cZ ex pa di qu gc dg dp dv dd ds dc td ho ak se (prs (vlu ex pa ho dv 0 (sp + 1) (0 + 1)) qu di pr (g + 1))) (some (.int (oI (prs (vlu ex pa ho dv 0 (sp + 1) (0 + 1)) qu di pr (g + 1) g))))) 0 0 (va_A (hW h ad cI cZ ex pa di qu gc dg dp dv dd ds dc td ho ak se pr) sz) := by
  refine Met.ofW (cc := cX0_findPrice) (maxL := 5) (ret := (some .int)) (by decide) rfl ?_
  intro p e s m args below meth c s₁ B hml hv
  obtain ⟨rfl, hsz, hP, hK, hD0⟩ := hv
  have hx := B.exec
  have hb := B.bytes
  have hr := B.returns
  have hts := atoms_spec (ws := wsX0_findPrice) B.pre
  have hown : s.vm.findClass RX0 = some m.cls := findClass_of_methodNamed B.named
  have hlocks := B.notSynchronized
  subst hsz
  have hD := hD0.self (sz := s.heap.size)
  generalize hAe : va_A (hW h ad cI cZ ex pa di qu gc dg dp dv dd ds dc td ho ak se pr) s.heap.size = A at hD ⊢
  have hA : ∀ q : Nat, s.heap.size ≤ q → A q := fun q h => by rw [← hAe]; exact Or.inr h
  have hS : va_S A s.heap s.heap [] := va_S.rf
  have hl := lv_entry ([.ref h, .int (nI g), .int (nI sp)]) (n := 5) (Nat.le_of_ble_eq_true rfl)
  rw [lg_entry_eq]
  generalize (lg_sl ([.ref h, .int (nI g), .int (nI sp)]) ++ List.replicate (5 - (lg_sl ([.ref h, .int (nI g), .int (nI sp)])).length) Slot.unset).toArray = ls at hl ⊢
  have hl : lv_has ls 5 [(0, .ref h), (1, .int (nI g)), (2, .int (nI sp))] := hl
  have hvb : ∀ k, k < 16 → ∀ v, (vlu ex pa ho dv 0 (sp + 1) (0 + 1)) k = some v → v ≤ 100000 := fun k hk => vlu_in hho hpr hdv hk (by omega) (show sp + 1 < 4 by omega) (by omega)
  refine lv_iconst (v := nI 0) hx hb dX0_findPrice_0 (by decide) ?_
  refine lv_istore_n (lv' := [(3, .int (nI 0)), (0, .ref h), (1, .int (nI g)), (2, .int (nI sp))]) hx hb dX0_findPrice_1 rfl hl (by decide) rfl (fun ls hl => ?_)
  have loop2 : ∀ (n : Nat) (i : Nat), (i ≤ g + 1) → (g + 2 ≤ i + n) → ∀ (H : Heap) (locs : List Loc), va_P D vwCl (hW h ad cI cZ ex pa di qu gc dg dp dv dd ds dc td ho ak se (prs (vlu ex pa ho dv 0 (sp + 1) (0 + 1)) qu di pr i)) H → va_D A (hW h ad cI cZ ex pa di qu gc dg dp dv dd ds dc td ho ak se (prs (vlu ex pa ho dv 0 (sp + 1) (0 + 1)) qu di pr i)) → va_S A s.heap H locs → ∀ ls : Array Slot, lv_has ls 5 [(0, .ref h), (1, .int (nI g)), (2, .int (nI sp)), (3, .int (nI i))] → W p l e ({ frames := 4, cells := 0, slots := 0, locals := 102 } : Room) s m ([.ref h, .int (nI g), .int (nI sp)] : List Value).toArray below meth c H locs 0 0 (MQ below (wQ D (hW h ad cI cZ ex pa di qu gc dg dp dv dd ds dc td ho ak se pr) (hW h ad cI cZ ex pa di qu gc dg dp dv dd ds dc td ho ak se (prs (vlu ex pa ho dv 0 (sp + 1) (0 + 1)) qu di pr (g + 1))) (some (.int (oI (prs (vlu ex pa ho dv 0 (sp + 1) (0 + 1)) qu di pr (g + 1) g))))) ([.ref h, .int (nI g), .int (nI sp)] : List Value).toArray s 0 0 A) (F0 m 2 ls []) := by
    intro n
    induction n with
    | zero => intro i hle hn; omega
    | succ n ih =>
      intro i hle hn H locs hP hD hS ls hl
      refine lv_iload_n hx hb dX0_findPrice_2 rfl (lv_at hl 3 rfl) ?_
      refine lv_iload_n hx hb dX0_findPrice_3 rfl (lv_at hl 1 rfl) ?_
      refine q_icmpN_gt (a := i) (b := g) (tgt := 45) (by omega) (by omega) hx hb dX0_findPrice_4 (by decide) (fun k4 => ?_) (fun k4 => ?_)
      · refine lv_aload_n hx hb dX0_findPrice_45 rfl (lv_at hl 0 rfl) ?_
        refine va_get (D := D) (ci := 0) (v := .ref (ad 15)) (C := RX0) (T := TX0) (N := 16) hx hb hts (iX0_findPrice) hown hK hP 0 rfl rfl 15 (by decide) (hts (.fieldLink RX0 57 "ShopHub" "prices" "[I") (by decide +kernel)) (fun _ h9 => h9) rfl dX0_findPrice_46 ?_
        refine lv_iload_n hx hb dX0_findPrice_49 rfl (lv_at hl 1 rfl) ?_
        refine q_ald oI (prs (vlu ex pa ho dv 0 (sp + 1) (0 + 1)) qu di pr i) hx hb hK hP 13 1 rfl rfl (k := g) (hg) (Nat.le_of_ble_eq_true rfl) dX0_findPrice_50 ?_
        have hP : va_P D vwCl (hW h ad cI cZ ex pa di qu gc dg dp dv dd ds dc td ho ak se (prs (vlu ex pa ho dv 0 (sp + 1) (0 + 1)) qu di pr (g + 1))) H := by rw [show prs (vlu ex pa ho dv 0 (sp + 1) (0 + 1)) qu di pr (g + 1) = prs (vlu ex pa ho dv 0 (sp + 1) (0 + 1)) qu di pr i from by rw [show i = g + 1 by omega]]; exact hP
        exact q_wretI hx hb hr hlocks hAe hP hS (by rw [show i = g + 1 by omega]) dX0_findPrice_51
      · refine lv_aload_n hx hb dX0_findPrice_7 rfl (lv_at hl 0 rfl) ?_
        refine lv_iload_n hx hb dX0_findPrice_8 rfl (lv_at hl 3 rfl) ?_
        refine lv_iconst (v := nI 0) hx hb dX0_findPrice_9 (by decide) ?_
        refine lv_iload_n hx hb dX0_findPrice_10 rfl (lv_at hl 2 rfl) ?_
        refine lv_iconst (v := nI 0) hx hb dX0_findPrice_11 (by decide) ?_
        refine q_callI (r := oI ((vlu ex pa ho dv 0 (sp + 1) (0 + 1)) i)) (va_runV (As := [.int (nI i), .int (nI 0), .int (nI sp), .int (nI 0)]) (rest := []) ⟨hx, hb, hml, hown, hts⟩ (kX0_findValue l D h ad cI cZ ex pa di qu gc dg dp dv dd ds dc td ho ak se (prs (vlu ex pa ho dv 0 (sp + 1) (0 + 1)) qu di pr i) i 0 sp 0 (by omega) (by omega) hs (by omega) hpr hho hdc) (cwV 4 hts gX0_findPrice_X0_findValue rfl rfl rfl (by decide +kernel) ⟨Nat.le_of_ble_eq_true rfl, Nat.le_of_ble_eq_true rfl⟩) ⟨pP_blind, va_recv hK hP (ci := 0) (q0 := 0) rfl rfl, pP_pre hP hK⟩ rfl rfl hl.1 rfl (lv_room (Nat.le_of_ble_eq_true rfl)) dX0_findPrice_12 ⟨Nat.zero_le _, Nat.zero_le _⟩) ?_
        refine lv_istore (lv' := [(4, .int (oI ((vlu ex pa ho dv 0 (sp + 1) (0 + 1)) i))), (0, .ref h), (1, .int (nI g)), (2, .int (nI sp)), (3, .int (nI i))]) hx hb dX0_findPrice_15 hl (by decide) rfl (fun ls hl => ?_)
        refine lv_aload_n hx hb dX0_findPrice_17 rfl (lv_at hl 1 rfl) ?_
        refine va_get (D := D) (ci := 0) (v := .ref (ad 15)) (C := RX0) (T := TX0) (N := 16) hx hb hts (iX0_findPrice) hown hK hP 0 rfl rfl 15 (by decide) (hts (.fieldLink RX0 57 "ShopHub" "prices" "[I") (by decide +kernel)) (fun _ h9 => h9) rfl dX0_findPrice_18 ?_
        refine lv_iload_n hx hb dX0_findPrice_21 rfl (lv_at hl 4 rfl) ?_
        refine lv_iload hx hb dX0_findPrice_22 (lv_at hl 0 rfl) ?_
        refine lv_iconst (v := oI none) hx hb dX0_findPrice_24 (by decide) ?_
        refine q_icmpO_ne (a := (vlu ex pa ho dv 0 (sp + 1) (0 + 1)) i) (b := none) (tgt := 36) (fun k h9 => by have := hvb i (by omega) k h9; omega) (fun k h9 => by cases h9) hx hb dX0_findPrice_25 (by decide) (fun k25 => ?_) (fun k25 => ?_)
        · refine lv_iload hx hb dX0_findPrice_36 (lv_at hl 0 rfl) ?_
          refine q_ast oI (prs (vlu ex pa ho dv 0 (sp + 1) (0 + 1)) qu di pr i) ((vlu ex pa ho dv 0 (sp + 1) (0 + 1)) i) hx hb hK hP hD hS 13 1 rfl rfl (k := i) (by omega) (Nat.le_of_ble_eq_true rfl) dX0_findPrice_38 (fun H locs hP hD hS => ?_)
          have hP : va_P D vwCl (hW h ad cI cZ ex pa di qu gc dg dp dv dd ds dc td ho ak se (va_up (prs (vlu ex pa ho dv 0 (sp + 1) (0 + 1)) qu di pr i) i ((vlu ex pa ho dv 0 (sp + 1) (0 + 1)) i))) H := hP
          have hD : va_D A (hW h ad cI cZ ex pa di qu gc dg dp dv dd ds dc td ho ak se (va_up (prs (vlu ex pa ho dv 0 (sp + 1) (0 + 1)) qu di pr i) i ((vlu ex pa ho dv 0 (sp + 1) (0 + 1)) i))) := hD
          refine lv_iinc (v := nI (i + 1)) (lv' := [(3, .int (nI (i + 1))), (4, .int (oI ((vlu ex pa ho dv 0 (sp + 1) (0 + 1)) i))), (0, .ref h), (1, .int (nI g)), (2, .int (nI sp))]) hx hb dX0_findPrice_39 hl (k := 4) rfl (i1_n i) (by decide) rfl (fun ls hl => ?_)
          refine lv_goto (tgt := 2) hx hb dX0_findPrice_42 (by decide) ?_
          have hP : va_P D vwCl (hW h ad cI cZ ex pa di qu gc dg dp dv dd ds dc td ho ak se (prs (vlu ex pa ho dv 0 (sp + 1) (0 + 1)) qu di pr (i + 1))) H := by rw [show prs (vlu ex pa ho dv 0 (sp + 1) (0 + 1)) qu di pr (i + 1) = va_up (prs (vlu ex pa ho dv 0 (sp + 1) (0 + 1)) qu di pr i) i ((vlu ex pa ho dv 0 (sp + 1) (0 + 1)) i) from prs_v k25]; exact hP
          have hD : va_D A (hW h ad cI cZ ex pa di qu gc dg dp dv dd ds dc td ho ak se (prs (vlu ex pa ho dv 0 (sp + 1) (0 + 1)) qu di pr (i + 1))) := by rw [show prs (vlu ex pa ho dv 0 (sp + 1) (0 + 1)) qu di pr (i + 1) = va_up (prs (vlu ex pa ho dv 0 (sp + 1) (0 + 1)) qu di pr i) i ((vlu ex pa ho dv 0 (sp + 1) (0 + 1)) i) from prs_v k25]; exact hD
          exact ih (i + 1) (by omega) (by omega) _ _ hP hD hS _ (lv_sub hl [2, 3, 4, 0] rfl)
        · refine lv_aload_n hx hb dX0_findPrice_28 rfl (lv_at hl 1 rfl) ?_
          refine lv_iload_n hx hb dX0_findPrice_29 rfl (lv_at hl 4 rfl) ?_
          refine q_callI (r := oI (bnd qu (prs (vlu ex pa ho dv 0 (sp + 1) (0 + 1)) qu di pr i) di i)) (va_runV (As := [.int (nI i)]) (rest := [.int (nI i), .ref (ad 15)]) ⟨hx, hb, hml, hown, hts⟩ (kX0_sumUpParts l D h ad cI cZ ex pa di qu gc dg dp dv dd ds dc td ho ak se (prs (vlu ex pa ho dv 0 (sp + 1) (0 + 1)) qu di pr i) i (by omega) hqu hdi (prs_in hvb hpb i (by omega))) (cwV 1 hts gX0_findPrice_X0_sumUpParts rfl rfl rfl (by decide +kernel) ⟨Nat.le_of_ble_eq_true rfl, Nat.le_of_ble_eq_true rfl⟩) ⟨pP_blind, va_recv hK hP (ci := 0) (q0 := 0) rfl rfl, pP_pre hP hK⟩ rfl rfl hl.1 rfl (lv_room (Nat.le_of_ble_eq_true rfl)) dX0_findPrice_30 ⟨Nat.zero_le _, Nat.zero_le _⟩) ?_
          refine lv_goto (tgt := 38) hx hb dX0_findPrice_33 (by decide) ?_
          refine q_ast oI (prs (vlu ex pa ho dv 0 (sp + 1) (0 + 1)) qu di pr i) (bnd qu (prs (vlu ex pa ho dv 0 (sp + 1) (0 + 1)) qu di pr i) di i) hx hb hK hP hD hS 13 1 rfl rfl (k := i) (by omega) (Nat.le_of_ble_eq_true rfl) dX0_findPrice_38 (fun H locs hP hD hS => ?_)
          have hP : va_P D vwCl (hW h ad cI cZ ex pa di qu gc dg dp dv dd ds dc td ho ak se (va_up (prs (vlu ex pa ho dv 0 (sp + 1) (0 + 1)) qu di pr i) i (bnd qu (prs (vlu ex pa ho dv 0 (sp + 1) (0 + 1)) qu di pr i) di i))) H := hP
          have hD : va_D A (hW h ad cI cZ ex pa di qu gc dg dp dv dd ds dc td ho ak se (va_up (prs (vlu ex pa ho dv 0 (sp + 1) (0 + 1)) qu di pr i) i (bnd qu (prs (vlu ex pa ho dv 0 (sp + 1) (0 + 1)) qu di pr i) di i))) := hD
          refine lv_iinc (v := nI (i + 1)) (lv' := [(3, .int (nI (i + 1))), (4, .int (oI ((vlu ex pa ho dv 0 (sp + 1) (0 + 1)) i))), (0, .ref h), (1, .int (nI g)), (2, .int (nI sp))]) hx hb dX0_findPrice_39 hl (k := 4) rfl (i1_n i) (by decide) rfl (fun ls hl => ?_)
          refine lv_goto (tgt := 2) hx hb dX0_findPrice_42 (by decide) ?_
          have hP : va_P D vwCl (hW h ad cI cZ ex pa di qu gc dg dp dv dd ds dc td ho ak se (prs (vlu ex pa ho dv 0 (sp + 1) (0 + 1)) qu di pr (i + 1))) H := by rw [show prs (vlu ex pa ho dv 0 (sp + 1) (0 + 1)) qu di pr (i + 1) = va_up (prs (vlu ex pa ho dv 0 (sp + 1) (0 + 1)) qu di pr i) i (bnd qu (prs (vlu ex pa ho dv 0 (sp + 1) (0 + 1)) qu di pr i) di i) from prs_b k25]; exact hP
          have hD : va_D A (hW h ad cI cZ ex pa di qu gc dg dp dv dd ds dc td ho ak se (prs (vlu ex pa ho dv 0 (sp + 1) (0 + 1)) qu di pr (i + 1))) := by rw [show prs (vlu ex pa ho dv 0 (sp + 1) (0 + 1)) qu di pr (i + 1) = va_up (prs (vlu ex pa ho dv 0 (sp + 1) (0 + 1)) qu di pr i) i (bnd qu (prs (vlu ex pa ho dv 0 (sp + 1) (0 + 1)) qu di pr i) di i) from prs_b k25]; exact hD
          exact ih (i + 1) (by omega) (by omega) _ _ hP hD hS _ (lv_sub hl [2, 3, 4, 0] rfl)
  have hP : va_P D vwCl (hW h ad cI cZ ex pa di qu gc dg dp dv dd ds dc td ho ak se (prs (vlu ex pa ho dv 0 (sp + 1) (0 + 1)) qu di pr 0)) s.heap := by rw [show prs (vlu ex pa ho dv 0 (sp + 1) (0 + 1)) qu di pr 0 = pr from rfl]; exact hP
  have hD : va_D A (hW h ad cI cZ ex pa di qu gc dg dp dv dd ds dc td ho ak se (prs (vlu ex pa ho dv 0 (sp + 1) (0 + 1)) qu di pr 0)) := by rw [show prs (vlu ex pa ho dv 0 (sp + 1) (0 + 1)) qu di pr 0 = pr from rfl]; exact hD
  exact loop2 (g + 2) 0 (by omega) (by omega) _ _ hP hD hS _ (lv_sub hl [1, 2, 3, 0] rfl)
