set_option maxHeartbeats 4000000 in
set_option maxRecDepth 100000 in
theorem kX1_fails (l : Launch) (D : va_G) (h : Nat) (ad : Nat → Nat) (cI cJ cZ : ClassId) (td : Nat) (gc : Nat) (ex : Nat → Bool) (pa : Nat → Option Nat) (di : Nat → Nat) (qu : Nat → Nat) (dc : Nat) (dg : Nat → Nat) (da : Nat → Nat) (dh : Nat → Option Nat) (dt : Nat → Option Nat) (dv : Nat → Option Nat) (dd : Nat → Nat) (ds : Nat → Nat) (ak : Nat → Bool) (se : Nat → Option Nat) (pr : Nat → Option Nat) (th : Nat) (sz : Nat) (w : Nat) (hw : w ≤ 3) : Met l yX1_fails wsX1_fails ({ frames := 0, cells := 0, slots := 0, locals := 0 } : Room) (wP D (mW h ad cI cJ cZ td gc ex pa di qu dc dg da dh dt dv dd ds ak se pr th) (mT cI cJ cZ) [.ref h, .int (nI w)] sz) (wQ D (mW h ad cI cJ cZ td gc ex pa di qu dc dg da dh dt dv dd ds ak se pr th) (mW h ad cI cJ cZ td gc ex pa di qu dc dg da dh dt dv dd ds ak se pr w) (some (.int (bI (decide (0 < w)))))) 0 0 (va_A (mW h ad cI cJ cZ td gc ex pa di qu dc dg da dh dt dv dd ds ak se pr th) sz) := by
  refine Met.ofW (cc := cX1_fails) (maxL := 2) (ret := (some .boolean)) (by decide) rfl ?_
  intro p e s m args below meth c s₁ B hml hv
  obtain ⟨rfl, hsz, hP, hK, hD0⟩ := hv
  have hx := B.exec
  have hb := B.bytes
  have hr := B.returns
  have hts := atoms_spec (ws := wsX1_fails) B.pre
  have hown : s.vm.findClass RX1 = some m.cls := findClass_of_methodNamed B.named
  have hlocks := B.notSynchronized
  subst hsz
  have hD := hD0.self (sz := s.heap.size)
  generalize hAe : va_A (mW h ad cI cJ cZ td gc ex pa di qu dc dg da dh dt dv dd ds ak se pr th) s.heap.size = A at hD ⊢
  have hA : ∀ q : Nat, s.heap.size ≤ q → A q := fun q h => by rw [← hAe]; exact Or.inr h
  have hS : va_S A s.heap s.heap [] := va_S.rf
  have hl := lv_entry ([.ref h, .int (nI w)]) (n := 2) (Nat.le_of_ble_eq_true rfl)
  rw [lg_entry_eq]
  generalize (lg_sl ([.ref h, .int (nI w)]) ++ List.replicate (2 - (lg_sl ([.ref h, .int (nI w)])).length) Slot.unset).toArray = ls at hl ⊢
  have hl : lv_has ls 2 [(0, .ref h), (1, .int (nI w))] := hl
  refine lv_aload_n hx hb dX1_fails_0 rfl (lv_at hl 0 rfl) ?_
  refine lv_iload_n hx hb dX1_fails_1 rfl (lv_at hl 1 rfl) ?_
  refine va_put (D := D) (ci := 1) (v := .int (nI w)) (ty := .int) (C := RX1) (T := TX1) (N := 18) hx hb hts (iX1_fails) tyX1 tyX1_ok nmX1 hown hK hP hD hS 0 rfl rfl 17 (by decide) (hts (.fieldLink RX1 54 "ShopHubModel" "thrown" "I") (by decide +kernel)) (fun _ h9 => h9) rfl (by decide +kernel) rfl rfl (Nat.le_of_ble_eq_true rfl) dX1_fails_2 (fun H locs hP hD hS => ?_)
  have hP : va_P D vwCl (mW h ad cI cJ cZ td gc ex pa di qu dc dg da dh dt dv dd ds ak se pr w) H := hP
  have hD : va_D A (mW h ad cI cJ cZ td gc ex pa di qu dc dg da dh dt dv dd ds ak se pr w) := hD
  refine lv_iload_n hx hb dX1_fails_5 rfl (lv_at hl 1 rfl) ?_
  refine q_ifN_le (a := w) (tgt := 13) (by omega) hx hb dX1_fails_6 (by decide) (fun k6 => ?_) (fun k6 => ?_)
  · refine lv_iconst (v := nI 0) hx hb dX1_fails_13 (by decide) ?_
    exact q_wretZ hx hb hr hlocks hAe hP hS (retF (decide_eq_false (by omega))) dX1_fails_14
  · refine lv_iconst (v := nI 1) hx hb dX1_fails_9 (by decide) ?_
    refine lv_goto (tgt := 14) hx hb dX1_fails_10 (by decide) ?_
    exact q_wretZ hx hb hr hlocks hAe hP hS (retT (decide_eq_true k6)) dX1_fails_14

set_option maxHeartbeats 4000000 in
set_option maxRecDepth 100000 in
theorem kX1_thrown (l : Launch) (D : va_G) (h : Nat) (ad : Nat → Nat) (cI cJ cZ : ClassId) (td : Nat) (gc : Nat) (ex : Nat → Bool) (pa : Nat → Option Nat) (di : Nat → Nat) (qu : Nat → Nat) (dc : Nat) (dg : Nat → Nat) (da : Nat → Nat) (dh : Nat → Option Nat) (dt : Nat → Option Nat) (dv : Nat → Option Nat) (dd : Nat → Nat) (ds : Nat → Nat) (ak : Nat → Bool) (se : Nat → Option Nat) (pr : Nat → Option Nat) (th : Nat)   : Met l yX1_thrown wsX1_thrown ({ frames := 0, cells := 0, slots := 0, locals := 0 } : Room) (pP D (mW h ad cI cJ cZ td gc ex pa di qu dc dg da dh dt dv dd ds ak se pr th) (mT cI cJ cZ) [.ref h]) (pQ (some (.int (nI th)))) 0 0 nF := by
  refine Met.ofW (cc := cX1_thrown) (maxL := 1) (ret := (some .int)) (by decide) rfl ?_
  intro p e s m args below meth c s₁ B hml hv
  obtain ⟨rfl, hP, hK⟩ := hv
  have hx := B.exec
  have hb := B.bytes
  have hr := B.returns
  have hts := atoms_spec (ws := wsX1_thrown) B.pre
  have hown : s.vm.findClass RX1 = some m.cls := findClass_of_methodNamed B.named
  have hlocks := B.notSynchronized
  have hl := lv_entry ([.ref h]) (n := 1) (Nat.le_of_ble_eq_true rfl)
  rw [lg_entry_eq]
  generalize (lg_sl ([.ref h]) ++ List.replicate (1 - (lg_sl ([.ref h])).length) Slot.unset).toArray = ls at hl ⊢
  have hl : lv_has ls 1 [(0, .ref h)] := hl
  refine lv_aload_n hx hb dX1_thrown_0 rfl (lv_at hl 0 rfl) ?_
  refine va_get (D := D) (ci := 1) (v := .int (nI th)) (C := RX1) (T := TX1) (N := 18) hx hb hts (iX1_thrown) hown hK hP 0 rfl rfl 17 (by decide) (hts (.fieldLink RX1 54 "ShopHubModel" "thrown" "I") (by decide +kernel)) (fun _ h9 => h9) rfl dX1_thrown_1 ?_
  exact q_retI hx hb hr hlocks (rfl) dX1_thrown_4

set_option maxHeartbeats 4000000 in
set_option maxRecDepth 100000 in
theorem kX1_valueOf (l : Launch) (D : va_G) (h : Nat) (ad : Nat → Nat) (cI cJ cZ : ClassId) (td : Nat) (gc : Nat) (ex : Nat → Bool) (pa : Nat → Option Nat) (di : Nat → Nat) (qu : Nat → Nat) (dc : Nat) (dg : Nat → Nat) (da : Nat → Nat) (dh : Nat → Option Nat) (dt : Nat → Option Nat) (dv : Nat → Option Nat) (dd : Nat → Nat) (ds : Nat → Nat) (ak : Nat → Bool) (se : Nat → Option Nat) (pr : Nat → Option Nat) (th : Nat) (ho : Nat → Option Nat) (lev : Nat → Nat) (g a sp tp : Nat) (hti : TI ex pa lev) (hg : g < 16) (he : ex g = true) (ha : a < 6) (hs : sp < 3) (ht : tp < 3) (hrd : RD dc dg da dh dt dd ds td) (hrh : RH ex ho dc dg da dh dt dd ds td) (hpr : PR pa) (hho : HO ho dc) : Met l yX1_valueOf wsX1_valueOf ({ frames := 2, cells := 0, slots := 0, locals := 54 } : Room) (pP D (mW h ad cI cJ cZ td gc ex pa di qu dc dg da dh dt dv dd ds ak se pr th) (mT cI cJ cZ) [.ref h, .int (nI g), .int (nI a), .int (nI sp), .int (nI tp)]) (pQ (some (.int (oI (vlu ex pa ho dv a (sp + 1) (tp + 1) g))))) 0 0 nF := by
  refine Met.ofW (cc := cX1_valueOf) (maxL := 6) (ret := (some .int)) (by decide) rfl ?_
  intro p e s m args below meth c s₁ B hml hv
  obtain ⟨rfl, hP, hK⟩ := hv
  have hx := B.exec
  have hb := B.bytes
  have hr := B.returns
  have hts := atoms_spec (ws := wsX1_valueOf) B.pre
  have hown : s.vm.findClass RX1 = some m.cls := findClass_of_methodNamed B.named
  have hlocks := B.notSynchronized
  have hl := lv_entry ([.ref h, .int (nI g), .int (nI a), .int (nI sp), .int (nI tp)]) (n := 6) (Nat.le_of_ble_eq_true rfl)
  rw [lg_entry_eq]
  generalize (lg_sl ([.ref h, .int (nI g), .int (nI a), .int (nI sp), .int (nI tp)]) ++ List.replicate (6 - (lg_sl ([.ref h, .int (nI g), .int (nI a), .int (nI sp), .int (nI tp)])).length) Slot.unset).toArray = ls at hl ⊢
  have hl : lv_has ls 6 [(0, .ref h), (1, .int (nI g)), (2, .int (nI a)), (3, .int (nI sp)), (4, .int (nI tp))] := hl
  refine lv_aload_n hx hb dX1_valueOf_0 rfl (lv_at hl 0 rfl) ?_
  refine lv_iload_n hx hb dX1_valueOf_1 rfl (lv_at hl 1 rfl) ?_
  refine lv_iload_n hx hb dX1_valueOf_2 rfl (lv_at hl 2 rfl) ?_
  refine lv_iload_n hx hb dX1_valueOf_3 rfl (lv_at hl 3 rfl) ?_
  refine lv_iload hx hb dX1_valueOf_4 (lv_at hl 4 rfl) ?_
  refine q_callI (r := oI (org ex pa ho a (sp + 1) (tp + 1) 3 (some g))) (va_runV (As := [.int (nI g), .int (nI a), .int (nI sp), .int (nI tp)]) (rest := []) ⟨hx, hb, hml, hown, hts⟩ (kX1_originOf l D h ad cI cJ cZ td gc ex pa di qu dc dg da dh dt dv dd ds ak se pr th ho lev g a sp tp hti hg he ha hs ht hrd hrh) (cwV 4 hts gX1_valueOf_X1_originOf rfl rfl rfl (by decide +kernel) ⟨Nat.le_of_ble_eq_true rfl, Nat.le_of_ble_eq_true rfl⟩) ⟨pP_blind, va_recv hK hP (ci := 1) (q0 := 0) rfl rfl, pP_pre hP hK⟩ rfl rfl hl.1 rfl (lv_room (Nat.le_of_ble_eq_true rfl)) dX1_valueOf_6 ⟨Nat.zero_le _, Nat.zero_le _⟩) ?_
  obtain ⟨o5, eo5⟩ : ∃ z, z = org ex pa ho a (sp + 1) (tp + 1) 3 (some g) := ⟨_, rfl⟩
  have hdc := hrd.1
  have hk : ∀ k, o5 = some k → k < dc := fun k h9 => org_in hho hpr ha (show sp + 1 < 4 by omega) (show tp + 1 < 4 by omega) 3 (some g) (fun k h9 => by cases h9; exact hg) k (eo5.symm.trans h9)
  refine q_top (y := oI o5) (by rw [eo5]) ?_
  refine lv_istore (lv' := [(5, .int (oI o5)), (0, .ref h), (1, .int (nI g)), (2, .int (nI a)), (3, .int (nI sp)), (4, .int (nI tp))]) hx hb dX1_valueOf_9 hl (by decide) rfl (fun ls hl => ?_)
  cases o5 with
  | none =>
    refine lv_iload hx hb dX1_valueOf_11 (lv_at hl 0 rfl) ?_
    refine lv_iconst (v := oI none) hx hb dX1_valueOf_13 (by decide) ?_
    refine q_icmpO_ne (a := none) (b := none) (tgt := 21) (fun k h9 => by cases h9) (fun k h9 => by cases h9) hx hb dX1_valueOf_14 (by decide) (fun k14 => absurd rfl k14) (fun k14 => ?_)
    refine lv_iconst (v := oI none) hx hb dX1_valueOf_17 (by decide) ?_
    refine lv_goto (tgt := 28) hx hb dX1_valueOf_18 (by decide) ?_
    exact q_retI hx hb hr hlocks (by rw [vlu_none eo5]) dX1_valueOf_28
  | some k =>
    have hk2 := hk k rfl
    refine lv_iload hx hb dX1_valueOf_11 (lv_at hl 0 rfl) ?_
    refine lv_iconst (v := oI none) hx hb dX1_valueOf_13 (by decide) ?_
    refine q_top2 (y := oI (some k)) ((rfl : nI k = oI (some k))) ?_
    refine q_icmpO_ne (a := some k) (b := none) (tgt := 21) (fun k h9 => by cases h9; omega) (fun k h9 => by cases h9) hx hb dX1_valueOf_14 (by decide) (fun k14 => ?_) (fun k14 => (by cases k14))
    refine lv_aload_n hx hb dX1_valueOf_21 rfl (lv_at hl 1 rfl) ?_
    refine va_get (D := D) (ci := 1) (v := .ref (ad 11)) (C := RX1) (T := TX1) (N := 18) hx hb hts (iX1_valueOf) hown hK hP 0 rfl rfl 11 (by decide) (hts (.fieldLink RX1 35 "ShopHubModel" "value" "[I") (by decide +kernel)) (fun _ h9 => h9) rfl dX1_valueOf_22 ?_
    refine lv_iload hx hb dX1_valueOf_25 (lv_at hl 0 rfl) ?_
    refine q_ald oI dv hx hb hK hP 9 1 rfl rfl (k := k) (by omega) (Nat.le_of_ble_eq_true rfl) dX1_valueOf_27 ?_
    exact q_retI hx hb hr hlocks (by rw [vlu_some eo5]) dX1_valueOf_28

set_option maxHeartbeats 4000000 in
set_option maxRecDepth 100000 in
theorem kX1_isPlace (l : Launch) (D : va_G) (h : Nat) (ad : Nat → Nat) (cI cJ cZ : ClassId) (td : Nat) (gc : Nat) (ex : Nat → Bool) (pa : Nat → Option Nat) (di : Nat → Nat) (qu : Nat → Nat) (dc : Nat) (dg : Nat → Nat) (da : Nat → Nat) (dh : Nat → Option Nat) (dt : Nat → Option Nat) (dv : Nat → Option Nat) (dd : Nat → Nat) (ds : Nat → Nat) (ak : Nat → Bool) (se : Nat → Option Nat) (pr : Nat → Option Nat) (th : Nat) (g a sp tp : Nat) (hg : g < 16) (ha : a < 6) (hs : sp < 3) (ht : tp < 3) (he : ex g = true) (hgc : gc ≤ 16) (hxg : ∀ j, j < 16 → ex j = true → j < gc) : Met l yX1_isPlace wsX1_isPlace ({ frames := 2, cells := 0, slots := 0, locals := 43 } : Room) (pP D (mW h ad cI cJ cZ td gc ex pa di qu dc dg da dh dt dv dd ds ak se pr th) (mT cI cJ cZ) [.ref h, .int (nI g), .int (nI a), .int (nI sp), .int (nI tp)]) (pQ (some (.int (bI true)))) 0 0 nF := by
  refine Met.ofW (cc := cX1_isPlace) (maxL := 5) (ret := (some .boolean)) (by decide) rfl ?_
  intro p e s m args below meth c s₁ B hml hv
  obtain ⟨rfl, hP, hK⟩ := hv
  have hx := B.exec
  have hb := B.bytes
  have hr := B.returns
  have hts := atoms_spec (ws := wsX1_isPlace) B.pre
  have hown : s.vm.findClass RX1 = some m.cls := findClass_of_methodNamed B.named
  have hlocks := B.notSynchronized
  have hl := lv_entry ([.ref h, .int (nI g), .int (nI a), .int (nI sp), .int (nI tp)]) (n := 5) (Nat.le_of_ble_eq_true rfl)
  rw [lg_entry_eq]
  generalize (lg_sl ([.ref h, .int (nI g), .int (nI a), .int (nI sp), .int (nI tp)]) ++ List.replicate (5 - (lg_sl ([.ref h, .int (nI g), .int (nI a), .int (nI sp), .int (nI tp)])).length) Slot.unset).toArray = ls at hl ⊢
  have hl : lv_has ls 5 [(0, .ref h), (1, .int (nI g)), (2, .int (nI a)), (3, .int (nI sp)), (4, .int (nI tp))] := hl
  refine lv_aload_n hx hb dX1_isPlace_0 rfl (lv_at hl 0 rfl) ?_
  refine lv_iload_n hx hb dX1_isPlace_1 rfl (lv_at hl 1 rfl) ?_
  refine q_callI (r := bI (ex g)) (va_runV (As := [.int (nI g)]) (rest := []) ⟨hx, hb, hml, hown, hts⟩ (kX1_isGoodN l D h ad cI cJ cZ td gc ex pa di qu dc dg da dh dt dv dd ds ak se pr th g hg hgc hxg) (cwV 1 hts gX1_isPlace_X1_isGood rfl rfl rfl (by decide +kernel) ⟨Nat.le_of_ble_eq_true rfl, Nat.le_of_ble_eq_true rfl⟩) ⟨pP_blind, va_recv hK hP (ci := 1) (q0 := 0) rfl rfl, pP_pre hP hK⟩ rfl rfl hl.1 rfl (lv_room (Nat.le_of_ble_eq_true rfl)) dX1_isPlace_2 ⟨Nat.zero_le _, Nat.zero_le _⟩) ?_
  refine q_ifB_eq (b := ex g) (tgt := 38) hx hb dX1_isPlace_5 (by decide) (fun k5 => absurd k5 (by rw [he]; decide)) (fun k5 => ?_)
  refine lv_iload_n hx hb dX1_isPlace_8 rfl (lv_at hl 2 rfl) ?_
  refine lv_iconst (v := nI 0) hx hb dX1_isPlace_9 (by decide) ?_
  refine lv_iconst (v := nI 5) hx hb dX1_isPlace_10 (by decide) ?_
  refine q_callI (r := bI (isin (nI a) (nI 0) (nI 5))) (va_runS (As := [.int (nI a), .int (nI 0), .int (nI 5)]) (rest := []) ⟨hx, hb, hml, hown, hts⟩ (kX1_isIn l (nI a) (nI 0) (nI 5)) (cwS 3 hts gX1_isPlace_X1_isIn rfl rfl rfl (by decide +kernel) ⟨Nat.le_of_ble_eq_true rfl, Nat.le_of_ble_eq_true rfl⟩) ⟨sP_blind, sP_pre⟩ rfl rfl hl.1 rfl (lv_room (Nat.le_of_ble_eq_true rfl)) dX1_isPlace_11 ⟨Nat.zero_le _, Nat.zero_le _⟩) ?_
  refine q_top (y := bI (decide (a ≤ 5))) (by rw [isin_N (by omega) (by decide)]) ?_
  refine q_ifB_eq (b := decide (a ≤ 5)) (tgt := 38) hx hb dX1_isPlace_14 (by decide) (fun k14 => absurd k14 (by rw [decide_eq_true (show a ≤ 5 by omega)]; decide)) (fun k14 => ?_)
  refine lv_iload_n hx hb dX1_isPlace_17 rfl (lv_at hl 3 rfl) ?_
  refine q_callI (r := bI (isin (nI sp) (nI 0) (nI 2))) (va_runS (As := [.int (nI sp)]) (rest := []) ⟨hx, hb, hml, hown, hts⟩ (kX1_isShop l (nI sp)) (cwS 1 hts gX1_isPlace_X1_isShop rfl rfl rfl (by decide +kernel) ⟨Nat.le_of_ble_eq_true rfl, Nat.le_of_ble_eq_true rfl⟩) ⟨sP_blind, sP_pre⟩ rfl rfl hl.1 rfl (lv_room (Nat.le_of_ble_eq_true rfl)) dX1_isPlace_18 ⟨Nat.zero_le _, Nat.zero_le _⟩) ?_
  refine q_top (y := bI (decide (sp ≤ 2))) (by rw [isin_N (by omega) (by decide)]) ?_
  refine q_ifB_eq (b := decide (sp ≤ 2)) (tgt := 38) hx hb dX1_isPlace_21 (by decide) (fun k21 => absurd k21 (by rw [decide_eq_true (show sp ≤ 2 by omega)]; decide)) (fun k21 => ?_)
  refine lv_iload hx hb dX1_isPlace_24 (lv_at hl 4 rfl) ?_
  refine lv_iconst (v := nI 0) hx hb dX1_isPlace_26 (by decide) ?_
  refine lv_iconst (v := nI 2) hx hb dX1_isPlace_27 (by decide) ?_
  refine q_callI (r := bI (isin (nI tp) (nI 0) (nI 2))) (va_runS (As := [.int (nI tp), .int (nI 0), .int (nI 2)]) (rest := []) ⟨hx, hb, hml, hown, hts⟩ (kX1_isIn l (nI tp) (nI 0) (nI 2)) (cwS 3 hts gX1_isPlace_X1_isIn rfl rfl rfl (by decide +kernel) ⟨Nat.le_of_ble_eq_true rfl, Nat.le_of_ble_eq_true rfl⟩) ⟨sP_blind, sP_pre⟩ rfl rfl hl.1 rfl (lv_room (Nat.le_of_ble_eq_true rfl)) dX1_isPlace_28 ⟨Nat.zero_le _, Nat.zero_le _⟩) ?_
  refine q_top (y := bI (decide (tp ≤ 2))) (by rw [isin_N (by omega) (by decide)]) ?_
  refine q_ifB_eq (b := decide (tp ≤ 2)) (tgt := 38) hx hb dX1_isPlace_31 (by decide) (fun k31 => absurd k31 (by rw [decide_eq_true (show tp ≤ 2 by omega)]; decide)) (fun k31 => ?_)
  refine lv_iconst (v := nI 1) hx hb dX1_isPlace_34 (by decide) ?_
  refine lv_goto (tgt := 39) hx hb dX1_isPlace_35 (by decide) ?_
  exact q_retZ hx hb hr hlocks (by decide) dX1_isPlace_39

set_option maxHeartbeats 4000000 in
set_option maxRecDepth 100000 in
theorem kX1_isPlaceX (l : Launch) (D : va_G) (h : Nat) (ad : Nat → Nat) (cI cJ cZ : ClassId) (td : Nat) (gc : Nat) (ex : Nat → Bool) (pa : Nat → Option Nat) (di : Nat → Nat) (qu : Nat → Nat) (dc : Nat) (dg : Nat → Nat) (da : Nat → Nat) (dh : Nat → Option Nat) (dt : Nat → Option Nat) (dv : Nat → Option Nat) (dd : Nat → Nat) (ds : Nat → Nat) (ak : Nat → Bool) (se : Nat → Option Nat) (pr : Nat → Option Nat) (th : Nat) (g a x y : Int32) (hgc : gc ≤ 16) (hxg : ∀ j, j < 16 → ex j = true → j < gc) (hs : (gBad ex g ∨ ∃ j, j < 16 ∧ g = nI j ∧ ex j = true ∧ (aBad 6 a ∨ ∃ a2, a2 < 6 ∧ a = nI a2 ∧ (aBad 3 x ∨ ∃ x2, x2 < 3 ∧ x = nI x2 ∧ aBad 3 y)))) : Met l yX1_isPlace wsX1_isPlace ({ frames := 2, cells := 0, slots := 0, locals := 43 } : Room) (pP D (mW h ad cI cJ cZ td gc ex pa di qu dc dg da dh dt dv dd ds ak se pr th) (mT cI cJ cZ) [.ref h, .int g, .int a, .int x, .int y]) (pQ (some (.int (bI false)))) 0 0 nF := by
  refine Met.ofW (cc := cX1_isPlace) (maxL := 5) (ret := (some .boolean)) (by decide) rfl ?_
  intro p e s m args below meth c s₁ B hml hv
  obtain ⟨rfl, hP, hK⟩ := hv
  have hx := B.exec
  have hb := B.bytes
  have hr := B.returns
  have hts := atoms_spec (ws := wsX1_isPlace) B.pre
  have hown : s.vm.findClass RX1 = some m.cls := findClass_of_methodNamed B.named
  have hlocks := B.notSynchronized
  have hl := lv_entry ([.ref h, .int g, .int a, .int x, .int y]) (n := 5) (Nat.le_of_ble_eq_true rfl)
  rw [lg_entry_eq]
  generalize (lg_sl ([.ref h, .int g, .int a, .int x, .int y]) ++ List.replicate (5 - (lg_sl ([.ref h, .int g, .int a, .int x, .int y])).length) Slot.unset).toArray = ls at hl ⊢
  have hl : lv_has ls 5 [(0, .ref h), (1, .int g), (2, .int a), (3, .int x), (4, .int y)] := hl
  rcases hs with hs | ⟨j, hj, rfl, he, hs⟩
  · refine lv_aload_n hx hb dX1_isPlace_0 rfl (lv_at hl 0 rfl) ?_
    rcases gBad_c hs with hs | ⟨j, hj, rfl, he⟩
    · refine lv_iload_n hx hb dX1_isPlace_1 rfl (lv_at hl 1 rfl) ?_
      refine q_callI (r := bI false) (va_runV (As := [.int g]) (rest := []) ⟨hx, hb, hml, hown, hts⟩ (kX1_isGoodR l D h ad cI cJ cZ td gc ex pa di qu dc dg da dh dt dv dd ds ak se pr th g hgc hs) (cwV 1 hts gX1_isPlace_X1_isGood rfl rfl rfl (by decide +kernel) ⟨Nat.le_of_ble_eq_true rfl, Nat.le_of_ble_eq_true rfl⟩) ⟨pP_blind, va_recv hK hP (ci := 1) (q0 := 0) rfl rfl, pP_pre hP hK⟩ rfl rfl hl.1 rfl (lv_room (Nat.le_of_ble_eq_true rfl)) dX1_isPlace_2 ⟨Nat.zero_le _, Nat.zero_le _⟩) ?_
      refine q_ifB_eq (b := false) (tgt := 38) hx hb dX1_isPlace_5 (by decide) (fun k5 => ?_) (fun k5 => absurd k5 (by decide))
      refine lv_iconst (v := nI 0) hx hb dX1_isPlace_38 (by decide) ?_
      exact q_retZ hx hb hr hlocks (by decide) dX1_isPlace_39
    · refine lv_iload_n hx hb dX1_isPlace_1 rfl (lv_at hl 1 rfl) ?_
      refine q_callI (r := bI (ex j)) (va_runV (As := [.int (nI j)]) (rest := []) ⟨hx, hb, hml, hown, hts⟩ (kX1_isGoodN l D h ad cI cJ cZ td gc ex pa di qu dc dg da dh dt dv dd ds ak se pr th j hj hgc hxg) (cwV 1 hts gX1_isPlace_X1_isGood rfl rfl rfl (by decide +kernel) ⟨Nat.le_of_ble_eq_true rfl, Nat.le_of_ble_eq_true rfl⟩) ⟨pP_blind, va_recv hK hP (ci := 1) (q0 := 0) rfl rfl, pP_pre hP hK⟩ rfl rfl hl.1 rfl (lv_room (Nat.le_of_ble_eq_true rfl)) dX1_isPlace_2 ⟨Nat.zero_le _, Nat.zero_le _⟩) ?_
      refine q_ifB_eq (b := ex j) (tgt := 38) hx hb dX1_isPlace_5 (by decide) (fun k5 => ?_) (fun k5 => absurd k5 (by rw [he]; decide))
      refine lv_iconst (v := nI 0) hx hb dX1_isPlace_38 (by decide) ?_
      exact q_retZ hx hb hr hlocks (by decide) dX1_isPlace_39
  · refine lv_aload_n hx hb dX1_isPlace_0 rfl (lv_at hl 0 rfl) ?_
    refine lv_iload_n hx hb dX1_isPlace_1 rfl (lv_at hl 1 rfl) ?_
    refine q_callI (r := bI (ex j)) (va_runV (As := [.int (nI j)]) (rest := []) ⟨hx, hb, hml, hown, hts⟩ (kX1_isGoodN l D h ad cI cJ cZ td gc ex pa di qu dc dg da dh dt dv dd ds ak se pr th j hj hgc hxg) (cwV 1 hts gX1_isPlace_X1_isGood rfl rfl rfl (by decide +kernel) ⟨Nat.le_of_ble_eq_true rfl, Nat.le_of_ble_eq_true rfl⟩) ⟨pP_blind, va_recv hK hP (ci := 1) (q0 := 0) rfl rfl, pP_pre hP hK⟩ rfl rfl hl.1 rfl (lv_room (Nat.le_of_ble_eq_true rfl)) dX1_isPlace_2 ⟨Nat.zero_le _, Nat.zero_le _⟩) ?_
    refine q_ifB_eq (b := ex j) (tgt := 38) hx hb dX1_isPlace_5 (by decide) (fun k5 => absurd k5 (by rw [he]; decide)) (fun k5 => ?_)
    rcases hs with hs | ⟨a2, ha, rfl, hs⟩
    · refine lv_iload_n hx hb dX1_isPlace_8 rfl (lv_at hl 2 rfl) ?_
      refine lv_iconst (v := nI 0) hx hb dX1_isPlace_9 (by decide) ?_
      refine lv_iconst (v := nI 5) hx hb dX1_isPlace_10 (by decide) ?_
      refine q_callI (r := bI (isin a (nI 0) (nI 5))) (va_runS (As := [.int a, .int (nI 0), .int (nI 5)]) (rest := []) ⟨hx, hb, hml, hown, hts⟩ (kX1_isIn l a (nI 0) (nI 5)) (cwS 3 hts gX1_isPlace_X1_isIn rfl rfl rfl (by decide +kernel) ⟨Nat.le_of_ble_eq_true rfl, Nat.le_of_ble_eq_true rfl⟩) ⟨sP_blind, sP_pre⟩ rfl rfl hl.1 rfl (lv_room (Nat.le_of_ble_eq_true rfl)) dX1_isPlace_11 ⟨Nat.zero_le _, Nat.zero_le _⟩) ?_
      refine q_top (y := bI false) (by rw [isin_ab (m := 6) (by decide) rfl hs]) ?_
      refine q_ifB_eq (b := false) (tgt := 38) hx hb dX1_isPlace_14 (by decide) (fun k14 => ?_) (fun k14 => absurd k14 (by decide))
      refine lv_iconst (v := nI 0) hx hb dX1_isPlace_38 (by decide) ?_
      exact q_retZ hx hb hr hlocks (by decide) dX1_isPlace_39
    · refine lv_iload_n hx hb dX1_isPlace_8 rfl (lv_at hl 2 rfl) ?_
      refine lv_iconst (v := nI 0) hx hb dX1_isPlace_9 (by decide) ?_
      refine lv_iconst (v := nI 5) hx hb dX1_isPlace_10 (by decide) ?_
      refine q_callI (r := bI (isin (nI a2) (nI 0) (nI 5))) (va_runS (As := [.int (nI a2), .int (nI 0), .int (nI 5)]) (rest := []) ⟨hx, hb, hml, hown, hts⟩ (kX1_isIn l (nI a2) (nI 0) (nI 5)) (cwS 3 hts gX1_isPlace_X1_isIn rfl rfl rfl (by decide +kernel) ⟨Nat.le_of_ble_eq_true rfl, Nat.le_of_ble_eq_true rfl⟩) ⟨sP_blind, sP_pre⟩ rfl rfl hl.1 rfl (lv_room (Nat.le_of_ble_eq_true rfl)) dX1_isPlace_11 ⟨Nat.zero_le _, Nat.zero_le _⟩) ?_
      refine q_top (y := bI (decide (a2 ≤ 5))) (by rw [isin_N (by omega) (by decide)]) ?_
      refine q_ifB_eq (b := decide (a2 ≤ 5)) (tgt := 38) hx hb dX1_isPlace_14 (by decide) (fun k14 => absurd k14 (by rw [decide_eq_true (show a2 ≤ 5 by omega)]; decide)) (fun k14 => ?_)
      rcases hs with hs | ⟨x2, hx2, rfl, hs⟩
      · refine lv_iload_n hx hb dX1_isPlace_17 rfl (lv_at hl 3 rfl) ?_
        refine q_callI (r := bI (isin x (nI 0) (nI 2))) (va_runS (As := [.int x]) (rest := []) ⟨hx, hb, hml, hown, hts⟩ (kX1_isShop l x) (cwS 1 hts gX1_isPlace_X1_isShop rfl rfl rfl (by decide +kernel) ⟨Nat.le_of_ble_eq_true rfl, Nat.le_of_ble_eq_true rfl⟩) ⟨sP_blind, sP_pre⟩ rfl rfl hl.1 rfl (lv_room (Nat.le_of_ble_eq_true rfl)) dX1_isPlace_18 ⟨Nat.zero_le _, Nat.zero_le _⟩) ?_
        refine q_top (y := bI false) (by rw [isin_ab (m := 3) (by decide) rfl hs]) ?_
        refine q_ifB_eq (b := false) (tgt := 38) hx hb dX1_isPlace_21 (by decide) (fun k21 => ?_) (fun k21 => absurd k21 (by decide))
        refine lv_iconst (v := nI 0) hx hb dX1_isPlace_38 (by decide) ?_
        exact q_retZ hx hb hr hlocks (by decide) dX1_isPlace_39
      · refine lv_iload_n hx hb dX1_isPlace_17 rfl (lv_at hl 3 rfl) ?_
        refine q_callI (r := bI (isin (nI x2) (nI 0) (nI 2))) (va_runS (As := [.int (nI x2)]) (rest := []) ⟨hx, hb, hml, hown, hts⟩ (kX1_isShop l (nI x2)) (cwS 1 hts gX1_isPlace_X1_isShop rfl rfl rfl (by decide +kernel) ⟨Nat.le_of_ble_eq_true rfl, Nat.le_of_ble_eq_true rfl⟩) ⟨sP_blind, sP_pre⟩ rfl rfl hl.1 rfl (lv_room (Nat.le_of_ble_eq_true rfl)) dX1_isPlace_18 ⟨Nat.zero_le _, Nat.zero_le _⟩) ?_
        refine q_top (y := bI (decide (x2 ≤ 2))) (by rw [isin_N (by omega) (by decide)]) ?_
        refine q_ifB_eq (b := decide (x2 ≤ 2)) (tgt := 38) hx hb dX1_isPlace_21 (by decide) (fun k21 => absurd k21 (by rw [decide_eq_true (show x2 ≤ 2 by omega)]; decide)) (fun k21 => ?_)
        refine lv_iload hx hb dX1_isPlace_24 (lv_at hl 4 rfl) ?_
        refine lv_iconst (v := nI 0) hx hb dX1_isPlace_26 (by decide) ?_
        refine lv_iconst (v := nI 2) hx hb dX1_isPlace_27 (by decide) ?_
        refine q_callI (r := bI (isin y (nI 0) (nI 2))) (va_runS (As := [.int y, .int (nI 0), .int (nI 2)]) (rest := []) ⟨hx, hb, hml, hown, hts⟩ (kX1_isIn l y (nI 0) (nI 2)) (cwS 3 hts gX1_isPlace_X1_isIn rfl rfl rfl (by decide +kernel) ⟨Nat.le_of_ble_eq_true rfl, Nat.le_of_ble_eq_true rfl⟩) ⟨sP_blind, sP_pre⟩ rfl rfl hl.1 rfl (lv_room (Nat.le_of_ble_eq_true rfl)) dX1_isPlace_28 ⟨Nat.zero_le _, Nat.zero_le _⟩) ?_
        refine q_top (y := bI false) (by rw [isin_ab (m := 3) (by decide) rfl hs]) ?_
        refine q_ifB_eq (b := false) (tgt := 38) hx hb dX1_isPlace_31 (by decide) (fun k31 => ?_) (fun k31 => absurd k31 (by decide))
        refine lv_iconst (v := nI 0) hx hb dX1_isPlace_38 (by decide) ?_
        exact q_retZ hx hb hr hlocks (by decide) dX1_isPlace_39

set_option maxHeartbeats 4000000 in
set_option maxRecDepth 100000 in
theorem kX1_lacks (l : Launch) (D : va_G) (h : Nat) (ad : Nat → Nat) (cI cJ cZ : ClassId) (td : Nat) (gc : Nat) (ex : Nat → Bool) (pa : Nat → Option Nat) (di : Nat → Nat) (qu : Nat → Nat) (dc : Nat) (dg : Nat → Nat) (da : Nat → Nat) (dh : Nat → Option Nat) (dt : Nat → Option Nat) (dv : Nat → Option Nat) (dd : Nat → Nat) (ds : Nat → Nat) (ak : Nat → Bool) (se : Nat → Option Nat) (pr : Nat → Option Nat) (th : Nat) (ho : Nat → Option Nat) (lev : Nat → Nat) (g sp tp : Nat) (hti : TI ex pa lev) (hg : g < 16) (he : ex g = true) (hs : sp < 3) (ht : tp < 3) (hrd : RD dc dg da dh dt dd ds td) (hrh : RH ex ho dc dg da dh dt dd ds td) (hpr : PR pa) (hho : HO ho dc) (hdv : DV dv dc) : Met l yX1_lacks wsX1_lacks ({ frames := 3, cells := 0, slots := 0, locals := 79 } : Room) (pP D (mW h ad cI cJ cZ td gc ex pa di qu dc dg da dh dt dv dd ds ak se pr th) (mT cI cJ cZ) [.ref h, .int (nI g), .int (nI sp), .int (nI tp)]) (pQ (some (.int (nI (bset (lck ex pa ho dv ak g sp tp) 6))))) 0 0 nF := by
  refine Met.ofW (cc := cX1_lacks) (maxL := 6) (ret := (some .int)) (by decide) rfl ?_
  intro p e s m args below meth c s₁ B hml hv
  obtain ⟨rfl, hP, hK⟩ := hv
  have hx := B.exec
  have hb := B.bytes
  have hr := B.returns
  have hts := atoms_spec (ws := wsX1_lacks) B.pre
  have hown : s.vm.findClass RX1 = some m.cls := findClass_of_methodNamed B.named
  have hlocks := B.notSynchronized
  have hl := lv_entry ([.ref h, .int (nI g), .int (nI sp), .int (nI tp)]) (n := 6) (Nat.le_of_ble_eq_true rfl)
  rw [lg_entry_eq]
  generalize (lg_sl ([.ref h, .int (nI g), .int (nI sp), .int (nI tp)]) ++ List.replicate (6 - (lg_sl ([.ref h, .int (nI g), .int (nI sp), .int (nI tp)])).length) Slot.unset).toArray = ls at hl ⊢
  have hl : lv_has ls 6 [(0, .ref h), (1, .int (nI g)), (2, .int (nI sp)), (3, .int (nI tp))] := hl
  refine lv_iconst (v := nI 0) hx hb dX1_lacks_0 (by decide) ?_
  refine lv_istore (lv' := [(4, .int (nI 0)), (0, .ref h), (1, .int (nI g)), (2, .int (nI sp)), (3, .int (nI tp))]) hx hb dX1_lacks_1 hl (by decide) rfl (fun ls hl => ?_)
  refine lv_iconst (v := nI 0) hx hb dX1_lacks_3 (by decide) ?_
  refine lv_istore (lv' := [(5, .int (nI 0)), (4, .int (nI 0)), (0, .ref h), (1, .int (nI g)), (2, .int (nI sp)), (3, .int (nI tp))]) hx hb dX1_lacks_4 hl (by decide) rfl (fun ls hl => ?_)
  have loop6 : ∀ (n : Nat) (i : Nat) (b : Nat), (i ≤ 6) → (7 ≤ i + n) → (b = bset (lck ex pa ho dv ak g sp tp) i) → ∀ ls : Array Slot, lv_has ls 6 [(0, .ref h), (1, .int (nI g)), (2, .int (nI sp)), (3, .int (nI tp)), (4, .int (nI b)), (5, .int (nI i))] → W p l e ({ frames := 3, cells := 0, slots := 0, locals := 79 } : Room) s m ([.ref h, .int (nI g), .int (nI sp), .int (nI tp)] : List Value).toArray below meth c s.heap [] 0 0 (MQ below (pQ (some (.int (nI (bset (lck ex pa ho dv ak g sp tp) 6))))) ([.ref h, .int (nI g), .int (nI sp), .int (nI tp)] : List Value).toArray s 0 0 nF) (F0 m 6 ls []) := by
    intro n
    induction n with
    | zero => intro i b hle hn hset; omega
    | succ n ih =>
      intro i b hle hn hset ls hl
      refine lv_iload hx hb dX1_lacks_6 (lv_at hl 5 rfl) ?_
      refine lv_bipush (v := nI 6) hx hb dX1_lacks_8 (by decide) ?_
      refine q_icmpN_ge (a := i) (b := 6) (tgt := 60) (by omega) (by omega) hx hb dX1_lacks_10 (by decide) (fun k10 => ?_) (fun k10 => ?_)
      · refine lv_iload hx hb dX1_lacks_60 (lv_at hl 4 rfl) ?_
        exact q_retI hx hb hr hlocks (by rw [hset, show i = 6 by omega]) dX1_lacks_62
      · refine lv_iload hx hb dX1_lacks_13 (lv_at hl 4 rfl) ?_
        refine lv_aload_n hx hb dX1_lacks_15 rfl (lv_at hl 0 rfl) ?_
        refine va_get (D := D) (ci := 1) (v := .ref (ad 14)) (C := RX1) (T := TX1) (N := 18) hx hb hts (iX1_lacks) hown hK hP 0 rfl rfl 14 (by decide) (hts (.fieldLink RX1 44 "ShopHubModel" "isAsked" "[Z") (by decide +kernel)) (fun _ h9 => h9) rfl dX1_lacks_16 ?_
        refine lv_bipush (v := nI 6) hx hb dX1_lacks_19 (by decide) ?_
        refine lv_iload_n hx hb dX1_lacks_21 rfl (lv_at hl 2 rfl) ?_
        refine q_mulN (a := 6) (b := sp) hx hb dX1_lacks_22 ?_
        refine lv_iload hx hb dX1_lacks_23 (lv_at hl 5 rfl) ?_
        refine q_addN (a := 6 * sp) (b := i) hx hb dX1_lacks_25 ?_
        refine q_top (y := nI (sp * 6 + i)) (by rw [Nat.mul_comm 6 sp]) ?_
        refine q_zld ak hx hb hK hP 12 0 rfl rfl (k := sp * 6 + i) (by omega) (Nat.le_of_ble_eq_true rfl) dX1_lacks_26 ?_
        refine q_ifB_eq (b := ak (sp * 6 + i)) (tgt := 50) hx hb dX1_lacks_27 (by decide) (fun k27 => ?_) (fun k27 => ?_)
        · refine lv_iconst (v := nI 0) hx hb dX1_lacks_50 (by decide) ?_
          refine lv_ior hx hb dX1_lacks_51 ?_
          refine q_top (y := nI (b ||| 0)) (nI_or b 0) ?_
          refine lv_istore (lv' := [(4, .int (nI (b ||| 0))), (0, .ref h), (1, .int (nI g)), (2, .int (nI sp)), (3, .int (nI tp)), (5, .int (nI i))]) hx hb dX1_lacks_52 hl (by decide) rfl (fun ls hl => ?_)
          refine lv_iinc (v := nI (i + 1)) (lv' := [(5, .int (nI (i + 1))), (4, .int (nI (b ||| 0))), (0, .ref h), (1, .int (nI g)), (2, .int (nI sp)), (3, .int (nI tp))]) hx hb dX1_lacks_54 hl (k := 5) rfl (i1_n i) (by decide) rfl (fun ls hl => ?_)
          refine lv_goto (tgt := 6) hx hb dX1_lacks_57 (by decide) ?_
          exact ih (i + 1) (b ||| 0) (by omega) (by omega) (by rw [bset_f (show lck ex pa ho dv ak g sp tp i = false by simp [lck, k27]), Nat.or_zero]; exact hset) _ (lv_sub hl [2, 3, 4, 5, 1, 0] rfl)
        · refine lv_aload_n hx hb dX1_lacks_30 rfl (lv_at hl 0 rfl) ?_
          refine lv_iload_n hx hb dX1_lacks_31 rfl (lv_at hl 1 rfl) ?_
          refine lv_iload hx hb dX1_lacks_32 (lv_at hl 5 rfl) ?_
          refine lv_iload_n hx hb dX1_lacks_34 rfl (lv_at hl 2 rfl) ?_
          refine lv_iload_n hx hb dX1_lacks_35 rfl (lv_at hl 3 rfl) ?_
          refine q_callI (r := oI (vlu ex pa ho dv i (sp + 1) (tp + 1) g)) (va_runV (As := [.int (nI g), .int (nI i), .int (nI sp), .int (nI tp)]) (rest := [.int (nI b)]) ⟨hx, hb, hml, hown, hts⟩ (kX1_valueOf l D h ad cI cJ cZ td gc ex pa di qu dc dg da dh dt dv dd ds ak se pr th ho lev g i sp tp hti hg he (by omega) hs ht hrd hrh hpr hho) (cwV 4 hts gX1_lacks_X1_valueOf rfl rfl rfl (by decide +kernel) ⟨Nat.le_of_ble_eq_true rfl, Nat.le_of_ble_eq_true rfl⟩) ⟨pP_blind, va_recv hK hP (ci := 1) (q0 := 0) rfl rfl, pP_pre hP hK⟩ rfl rfl hl.1 rfl (lv_room (Nat.le_of_ble_eq_true rfl)) dX1_lacks_36 ⟨Nat.zero_le _, Nat.zero_le _⟩) ?_
          refine lv_iconst (v := oI none) hx hb dX1_lacks_39 (by decide) ?_
          refine q_icmpO_ne (a := vlu ex pa ho dv i (sp + 1) (tp + 1) g) (b := none) (tgt := 50) (fun k h9 => by have := vlu_in hho hpr hdv hg (show i < 6 by omega) (show sp + 1 < 4 by omega) (show tp + 1 < 4 by omega) k h9; omega) (fun k h9 => by cases h9) hx hb dX1_lacks_40 (by decide) (fun k40 => ?_) (fun k40 => ?_)
          · refine lv_iconst (v := nI 0) hx hb dX1_lacks_50 (by decide) ?_
            refine lv_ior hx hb dX1_lacks_51 ?_
            refine q_top (y := nI (b ||| 0)) (nI_or b 0) ?_
            refine lv_istore (lv' := [(4, .int (nI (b ||| 0))), (0, .ref h), (1, .int (nI g)), (2, .int (nI sp)), (3, .int (nI tp)), (5, .int (nI i))]) hx hb dX1_lacks_52 hl (by decide) rfl (fun ls hl => ?_)
            refine lv_iinc (v := nI (i + 1)) (lv' := [(5, .int (nI (i + 1))), (4, .int (nI (b ||| 0))), (0, .ref h), (1, .int (nI g)), (2, .int (nI sp)), (3, .int (nI tp))]) hx hb dX1_lacks_54 hl (k := 5) rfl (i1_n i) (by decide) rfl (fun ls hl => ?_)
            refine lv_goto (tgt := 6) hx hb dX1_lacks_57 (by decide) ?_
            exact ih (i + 1) (b ||| 0) (by omega) (by omega) (by rw [bset_f (show lck ex pa ho dv ak g sp tp i = false by simp [lck, k40]), Nat.or_zero]; exact hset) _ (lv_sub hl [2, 3, 4, 5, 1, 0] rfl)
          · refine lv_iconst (v := nI 1) hx hb dX1_lacks_43 (by decide) ?_
            refine lv_iload hx hb dX1_lacks_44 (lv_at hl 5 rfl) ?_
            refine lv_ishl hx hb dX1_lacks_46 ?_
            refine q_top (y := nI (2 ^ i)) (shl1 i (by omega)) ?_
            refine lv_goto (tgt := 51) hx hb dX1_lacks_47 (by decide) ?_
            refine lv_ior hx hb dX1_lacks_51 ?_
            refine q_top (y := nI (b ||| 2 ^ i)) (nI_or b (2 ^ i)) ?_
            refine lv_istore (lv' := [(4, .int (nI (b ||| 2 ^ i))), (0, .ref h), (1, .int (nI g)), (2, .int (nI sp)), (3, .int (nI tp)), (5, .int (nI i))]) hx hb dX1_lacks_52 hl (by decide) rfl (fun ls hl => ?_)
            refine lv_iinc (v := nI (i + 1)) (lv' := [(5, .int (nI (i + 1))), (4, .int (nI (b ||| 2 ^ i))), (0, .ref h), (1, .int (nI g)), (2, .int (nI sp)), (3, .int (nI tp))]) hx hb dX1_lacks_54 hl (k := 5) rfl (i1_n i) (by decide) rfl (fun ls hl => ?_)
            refine lv_goto (tgt := 6) hx hb dX1_lacks_57 (by decide) ?_
            exact ih (i + 1) (b ||| 2 ^ i) (by omega) (by omega) (by rw [bset_t (show lck ex pa ho dv ak g sp tp i = true by simp [lck, k27, k40]), ← hset]) _ (lv_sub hl [2, 3, 4, 5, 1, 0] rfl)
  exact loop6 7 0 0 (by omega) (Nat.le_refl 7) rfl _ (lv_sub hl [2, 3, 4, 5, 1, 0] rfl)

set_option maxHeartbeats 4000000 in
set_option maxRecDepth 100000 in
theorem kX1_place (l : Launch) (w g a t : Nat)  : Met l yX1_place wsX1_place ({ frames := 0, cells := 0, slots := 0, locals := 0 } : Room) (sP [.int (nI w), .int (nI g), .int (nI a), .int (nI t)]) (pQ (some (.int (nI (3 * (6 * (16 * w + g) + a) + t))))) 0 0 nF := by
  refine Met.ofW (cc := cX1_place) (maxL := 4) (ret := (some .int)) (by decide) rfl ?_
  intro p e s m args below meth c s₁ B hml hv
  obtain rfl := hv
  have hx := B.exec
  have hb := B.bytes
  have hr := B.returns
  have hts := atoms_spec (ws := wsX1_place) B.pre
  have hown : s.vm.findClass RX1 = some m.cls := findClass_of_methodNamed B.named
  have hlocks := B.notSynchronized
  have hl := lv_entry ([.int (nI w), .int (nI g), .int (nI a), .int (nI t)]) (n := 4) (Nat.le_of_ble_eq_true rfl)
  rw [lg_entry_eq]
  generalize (lg_sl ([.int (nI w), .int (nI g), .int (nI a), .int (nI t)]) ++ List.replicate (4 - (lg_sl ([.int (nI w), .int (nI g), .int (nI a), .int (nI t)])).length) Slot.unset).toArray = ls at hl ⊢
  have hl : lv_has ls 4 [(0, .int (nI w)), (1, .int (nI g)), (2, .int (nI a)), (3, .int (nI t))] := hl
  refine lv_iconst (v := nI 3) hx hb dX1_place_0 (by decide) ?_
  refine lv_bipush (v := nI 6) hx hb dX1_place_1 (by decide) ?_
  refine lv_bipush (v := nI 16) hx hb dX1_place_3 (by decide) ?_
  refine lv_iload_n hx hb dX1_place_5 rfl (lv_at hl 0 rfl) ?_
  refine q_mulN (a := 16) (b := w) hx hb dX1_place_6 ?_
  refine lv_iload_n hx hb dX1_place_7 rfl (lv_at hl 1 rfl) ?_
  refine q_addN (a := 16 * w) (b := g) hx hb dX1_place_8 ?_
  refine q_mulN (a := 6) (b := (16 * w) + g) hx hb dX1_place_9 ?_
  refine lv_iload_n hx hb dX1_place_10 rfl (lv_at hl 2 rfl) ?_
  refine q_addN (a := 6 * ((16 * w) + g)) (b := a) hx hb dX1_place_11 ?_
  refine q_mulN (a := 3) (b := (6 * ((16 * w) + g)) + a) hx hb dX1_place_12 ?_
  refine lv_iload_n hx hb dX1_place_13 rfl (lv_at hl 3 rfl) ?_
  refine q_addN (a := 3 * ((6 * ((16 * w) + g)) + a)) (b := t) hx hb dX1_place_14 ?_
  exact q_retI hx hb hr hlocks (rfl) dX1_place_15

set_option maxHeartbeats 4000000 in
set_option maxRecDepth 100000 in
theorem kX1_sees (l : Launch) (D : va_G) (h : Nat) (ad : Nat → Nat) (cI cJ cZ : ClassId) (td : Nat) (gc : Nat) (ex : Nat → Bool) (pa : Nat → Option Nat) (di : Nat → Nat) (qu : Nat → Nat) (dc : Nat) (dg : Nat → Nat) (da : Nat → Nat) (dh : Nat → Option Nat) (dt : Nat → Option Nat) (dv : Nat → Option Nat) (dd : Nat → Nat) (ds : Nat → Nat) (ak : Nat → Bool) (se : Nat → Option Nat) (pr : Nat → Option Nat) (th : Nat) (ho : Nat → Option Nat) (lev : Nat → Nat) (sp g a tp : Nat) (hti : TI ex pa lev) (hg : g < 16) (ha : a < 6) (hs : sp < 3) (ht : tp < 3) (hrd : RD dc dg da dh dt dd ds td) (hrh : RH ex ho dc dg da dh dt dd ds td) (hpr : PR pa) (hho : HO ho dc) : Met l yX1_sees wsX1_sees ({ frames := 3, cells := 0, slots := 0, locals := 79 } : Room) (pP D (mW h ad cI cJ cZ td gc ex pa di qu dc dg da dh dt dv dd ds ak se pr th) (mT cI cJ cZ) [.ref h, .int (nI sp), .int (nI g), .int (nI a), .int (nI tp)]) (pQ (some (.int (oI (vlu ex pa ho dv a (sp + 1) (tp + 1) g))))) 0 0 nF := by
  refine Met.ofW (cc := cX1_sees) (maxL := 5) (ret := (some .int)) (by decide) rfl ?_
  intro p e s m args below meth c s₁ B hml hv
  obtain ⟨rfl, hP, hK⟩ := hv
  have hx := B.exec
  have hb := B.bytes
  have hr := B.returns
  have hts := atoms_spec (ws := wsX1_sees) B.pre
  have hown : s.vm.findClass RX1 = some m.cls := findClass_of_methodNamed B.named
  have hlocks := B.notSynchronized
  have hl := lv_entry ([.ref h, .int (nI sp), .int (nI g), .int (nI a), .int (nI tp)]) (n := 5) (Nat.le_of_ble_eq_true rfl)
  rw [lg_entry_eq]
  generalize (lg_sl ([.ref h, .int (nI sp), .int (nI g), .int (nI a), .int (nI tp)]) ++ List.replicate (5 - (lg_sl ([.ref h, .int (nI sp), .int (nI g), .int (nI a), .int (nI tp)])).length) Slot.unset).toArray = ls at hl ⊢
  have hl : lv_has ls 5 [(0, .ref h), (1, .int (nI sp)), (2, .int (nI g)), (3, .int (nI a)), (4, .int (nI tp))] := hl
  refine lv_aload_n hx hb dX1_sees_0 rfl (lv_at hl 0 rfl) ?_
  refine va_get (D := D) (ci := 1) (v := .ref (ad 2)) (C := RX1) (T := TX1) (N := 18) hx hb hts (iX1_sees) hown hK hP 0 rfl rfl 2 (by decide) (hts (.fieldLink RX1 7 "ShopHubModel" "isThere" "[Z") (by decide +kernel)) (fun _ h9 => h9) rfl dX1_sees_1 ?_
  refine lv_iload_n hx hb dX1_sees_4 rfl (lv_at hl 2 rfl) ?_
  refine q_zld ex hx hb hK hP 1 0 rfl rfl (k := g) (by omega) (Nat.le_of_ble_eq_true rfl) dX1_sees_5 ?_
  refine q_ifB_eq (b := ex g) (tgt := 21) hx hb dX1_sees_6 (by decide) (fun k6 => ?_) (fun k6 => ?_)
  · refine lv_iconst (v := oI none) hx hb dX1_sees_21 (by decide) ?_
    exact q_retI hx hb hr hlocks (by rw [vlu_dead k6]) dX1_sees_22
  · refine lv_aload_n hx hb dX1_sees_9 rfl (lv_at hl 0 rfl) ?_
    refine lv_iload_n hx hb dX1_sees_10 rfl (lv_at hl 2 rfl) ?_
    refine lv_iload_n hx hb dX1_sees_11 rfl (lv_at hl 3 rfl) ?_
    refine lv_iload_n hx hb dX1_sees_12 rfl (lv_at hl 1 rfl) ?_
    refine lv_iload hx hb dX1_sees_13 (lv_at hl 4 rfl) ?_
    refine q_callI (r := oI (vlu ex pa ho dv a (sp + 1) (tp + 1) g)) (va_runV (As := [.int (nI g), .int (nI a), .int (nI sp), .int (nI tp)]) (rest := []) ⟨hx, hb, hml, hown, hts⟩ (kX1_valueOf l D h ad cI cJ cZ td gc ex pa di qu dc dg da dh dt dv dd ds ak se pr th ho lev g a sp tp hti hg k6 ha hs ht hrd hrh hpr hho) (cwV 4 hts gX1_sees_X1_valueOf rfl rfl rfl (by decide +kernel) ⟨Nat.le_of_ble_eq_true rfl, Nat.le_of_ble_eq_true rfl⟩) ⟨pP_blind, va_recv hK hP (ci := 1) (q0 := 0) rfl rfl, pP_pre hP hK⟩ rfl rfl hl.1 rfl (lv_room (Nat.le_of_ble_eq_true rfl)) dX1_sees_15 ⟨Nat.zero_le _, Nat.zero_le _⟩) ?_
    refine lv_goto (tgt := 22) hx hb dX1_sees_18 (by decide) ?_
    exact q_retI hx hb hr hlocks (rfl) dX1_sees_22

set_option maxHeartbeats 4000000 in
set_option maxRecDepth 100000 in
theorem kX1_differs (l : Launch) (D : va_G) (h : Nat) (ad : Nat → Nat) (cI cJ cZ : ClassId) (td : Nat) (gc : Nat) (ex : Nat → Bool) (pa : Nat → Option Nat) (di : Nat → Nat) (qu : Nat → Nat) (dc : Nat) (dg : Nat → Nat) (da : Nat → Nat) (dh : Nat → Option Nat) (dt : Nat → Option Nat) (dv : Nat → Option Nat) (dd : Nat → Nat) (ds : Nat → Nat) (ak : Nat → Bool) (se : Nat → Option Nat) (pr : Nat → Option Nat) (th : Nat) (ho : Nat → Option Nat) (lev : Nat → Nat) (sp : Nat) (hti : TI ex pa lev) (hs : sp < 3) (hgc : gc ≤ 16) (hrd : RD dc dg da dh dt dd ds td) (hrh : RH ex ho dc dg da dh dt dd ds td) (hpr : PR pa) (hho : HO ho dc) (hdv : DV dv dc) (hse : ∀ k, k < 864 → ∀ v, se k = some v → v ≤ 100000) : Met l yX1_differs wsX1_differs ({ frames := 4, cells := 0, slots := 0, locals := 103 } : Room) (pP D (mW h ad cI cJ cZ td gc ex pa di qu dc dg da dh dt dv dd ds ak se pr th) (mT cI cJ cZ) [.ref h, .int (nI sp)]) (pQ (some (.int (nI (bset (lkd ex pa ho dv se sp) gc))))) 0 0 nF := by
  refine Met.ofW (cc := cX1_differs) (maxL := 6) (ret := (some .int)) (by decide) rfl ?_
  intro p e s m args below meth c s₁ B hml hv
  obtain ⟨rfl, hP, hK⟩ := hv
  have hx := B.exec
  have hb := B.bytes
  have hr := B.returns
  have hts := atoms_spec (ws := wsX1_differs) B.pre
  have hown : s.vm.findClass RX1 = some m.cls := findClass_of_methodNamed B.named
  have hlocks := B.notSynchronized
  have hl := lv_entry ([.ref h, .int (nI sp)]) (n := 6) (Nat.le_of_ble_eq_true rfl)
  rw [lg_entry_eq]
  generalize (lg_sl ([.ref h, .int (nI sp)]) ++ List.replicate (6 - (lg_sl ([.ref h, .int (nI sp)])).length) Slot.unset).toArray = ls at hl ⊢
  have hl : lv_has ls 6 [(0, .ref h), (1, .int (nI sp))] := hl
  refine lv_iconst (v := nI 0) hx hb dX1_differs_0 (by decide) ?_
  refine lv_istore_n (lv' := [(2, .int (nI 0)), (0, .ref h), (1, .int (nI sp))]) hx hb dX1_differs_1 rfl hl (by decide) rfl (fun ls hl => ?_)
  refine lv_iconst (v := nI 0) hx hb dX1_differs_2 (by decide) ?_
  refine lv_istore_n (lv' := [(3, .int (nI 0)), (2, .int (nI 0)), (0, .ref h), (1, .int (nI sp))]) hx hb dX1_differs_3 rfl hl (by decide) rfl (fun ls hl => ?_)
  have loop4 : ∀ (n : Nat) (i : Nat) (b : Nat), (i ≤ gc) → (gc + 1 ≤ i + n) → (b = bset (lkd ex pa ho dv se sp) i) → ∀ ls : Array Slot, lv_has ls 6 [(0, .ref h), (1, .int (nI sp)), (2, .int (nI b)), (3, .int (nI i))] → W p l e ({ frames := 4, cells := 0, slots := 0, locals := 103 } : Room) s m ([.ref h, .int (nI sp)] : List Value).toArray below meth c s.heap [] 0 0 (MQ below (pQ (some (.int (nI (bset (lkd ex pa ho dv se sp) gc))))) ([.ref h, .int (nI sp)] : List Value).toArray s 0 0 nF) (F0 m 4 ls []) := by
    intro n
    induction n with
    | zero => intro i b hle hn hset; omega
    | succ n ih =>
      intro i b hle hn hset ls hl
      refine lv_iload_n hx hb dX1_differs_4 rfl (lv_at hl 3 rfl) ?_
      refine lv_aload_n hx hb dX1_differs_5 rfl (lv_at hl 0 rfl) ?_
      refine va_get (D := D) (ci := 1) (v := .int (nI gc)) (C := RX1) (T := TX1) (N := 18) hx hb hts (iX1_differs) hown hK hP 0 rfl rfl 1 (by decide) (hts (.fieldLink RX1 58 "ShopHubModel" "goods" "I") (by decide +kernel)) (fun _ h9 => h9) rfl dX1_differs_6 ?_
      refine q_icmpN_ge (a := i) (b := gc) (tgt := 83) (by omega) (by omega) hx hb dX1_differs_9 (by decide) (fun k9 => ?_) (fun k9 => ?_)
      · refine lv_iload_n hx hb dX1_differs_83 rfl (lv_at hl 2 rfl) ?_
        exact q_retI hx hb hr hlocks (by rw [hset, show i = gc by omega]) dX1_differs_84
      · refine lv_iconst (v := nI 0) hx hb dX1_differs_12 (by decide) ?_
        refine lv_istore (lv' := [(4, .int (nI 0)), (0, .ref h), (1, .int (nI sp)), (2, .int (nI b)), (3, .int (nI i))]) hx hb dX1_differs_13 hl (by decide) rfl (fun ls hl => ?_)
        have loop15 : ∀ (n2 : Nat) (j : Nat) (b2 : Nat), (j ≤ 18) → (19 ≤ j + n2) → (b2 = if exU (lkj ex pa ho dv se sp i) j = true then b ||| 2 ^ i else b) → ∀ ls : Array Slot, lv_has ls 6 [(0, .ref h), (1, .int (nI sp)), (2, .int (nI b2)), (3, .int (nI i)), (4, .int (nI j))] → W p l e ({ frames := 4, cells := 0, slots := 0, locals := 103 } : Room) s m ([.ref h, .int (nI sp)] : List Value).toArray below meth c s.heap [] 0 0 (MQ below (pQ (some (.int (nI (bset (lkd ex pa ho dv se sp) gc))))) ([.ref h, .int (nI sp)] : List Value).toArray s 0 0 nF) (F0 m 15 ls []) := by
          intro n2
          induction n2 with
          | zero => intro j b2 hle2 hn2 hb2; omega
          | succ n2 ih2 =>
            intro j b2 hle2 hn2 hb2 ls hl
            have hi16 : i < 16 := by omega
            refine lv_iload hx hb dX1_differs_15 (lv_at hl 4 rfl) ?_
            refine lv_bipush (v := nI 18) hx hb dX1_differs_17 (by decide) ?_
            refine q_icmpN_ge (a := j) (b := 18) (tgt := 77) (by omega) (by omega) hx hb dX1_differs_19 (by decide) (fun k19 => ?_) (fun k19 => ?_)
            · refine lv_iinc (v := nI (i + 1)) (lv' := [(3, .int (nI (i + 1))), (0, .ref h), (1, .int (nI sp)), (2, .int (nI b2)), (4, .int (nI j))]) hx hb dX1_differs_77 hl (k := 3) rfl (i1_n i) (by decide) rfl (fun ls hl => ?_)
              refine lv_goto (tgt := 4) hx hb dX1_differs_80 (by decide) ?_
              exact ih (i + 1) b2 (by omega) (by omega) (by rw [hb2, show j = 18 by omega]; by_cases h9 : exU (lkj ex pa ho dv se sp i) 18 = true; rw [if_pos h9, bset_t (show lkd ex pa ho dv se sp i = true from h9), ← hset]; rw [if_neg h9, bset_f (show lkd ex pa ho dv se sp i = false from Bool.eq_false_iff.mpr h9)]; exact hset) _ (lv_sub hl [1, 2, 3, 0] rfl)
            · refine lv_aload_n hx hb dX1_differs_22 rfl (lv_at hl 0 rfl) ?_
              refine va_get (D := D) (ci := 1) (v := .ref (ad 15)) (C := RX1) (T := TX1) (N := 18) hx hb hts (iX1_differs) hown hK hP 0 rfl rfl 15 (by decide) (hts (.fieldLink RX1 47 "ShopHubModel" "seen" "[I") (by decide +kernel)) (fun _ h9 => h9) rfl dX1_differs_23 ?_
              refine lv_iload_n hx hb dX1_differs_26 rfl (lv_at hl 1 rfl) ?_
              refine lv_iload_n hx hb dX1_differs_27 rfl (lv_at hl 3 rfl) ?_
              refine lv_iload hx hb dX1_differs_28 (lv_at hl 4 rfl) ?_
              refine lv_iconst (v := nI 3) hx hb dX1_differs_30 (by decide) ?_
              refine q_divN (a := j) (b := 3) (by omega) (by decide) (by decide) hx hb dX1_differs_31 ?_
              refine lv_iload hx hb dX1_differs_32 (lv_at hl 4 rfl) ?_
              refine lv_iconst (v := nI 3) hx hb dX1_differs_34 (by decide) ?_
              refine q_remN (a := j) (b := 3) (by omega) (by decide) (by decide) hx hb dX1_differs_35 ?_
              refine q_callI (r := nI (3 * (6 * (16 * sp + i) + j / 3) + j % 3)) (va_runS (As := [.int (nI sp), .int (nI i), .int (nI (j / 3)), .int (nI (j % 3))]) (rest := [.ref (ad 15)]) ⟨hx, hb, hml, hown, hts⟩ (kX1_place l sp i (j / 3) (j % 3)) (cwS 4 hts gX1_differs_X1_place rfl rfl rfl (by decide +kernel) ⟨Nat.le_of_ble_eq_true rfl, Nat.le_of_ble_eq_true rfl⟩) ⟨sP_blind, sP_pre⟩ rfl rfl hl.1 rfl (lv_room (Nat.le_of_ble_eq_true rfl)) dX1_differs_36 ⟨Nat.zero_le _, Nat.zero_le _⟩) ?_
              refine q_top (y := nI (sp * 288 + i * 18 + j)) (by rw [show 3 * (6 * (16 * sp + i) + j / 3) + j % 3 = sp * 288 + i * 18 + j by omega]) ?_
              refine q_ald oI se hx hb hK hP 13 1 rfl rfl (k := sp * 288 + i * 18 + j) (by omega) (Nat.le_of_ble_eq_true rfl) dX1_differs_39 ?_
              refine lv_istore (lv' := [(5, .int (oI (se (sp * 288 + i * 18 + j)))), (0, .ref h), (1, .int (nI sp)), (2, .int (nI b2)), (3, .int (nI i)), (4, .int (nI j))]) hx hb dX1_differs_40 hl (by decide) rfl (fun ls hl => ?_)
              refine lv_iload_n hx hb dX1_differs_42 rfl (lv_at hl 3 rfl) ?_
              refine lv_iload hx hb dX1_differs_43 (lv_at hl 0 rfl) ?_
              refine lv_aload_n hx hb dX1_differs_45 rfl (lv_at hl 1 rfl) ?_
              refine lv_iload_n hx hb dX1_differs_46 rfl (lv_at hl 2 rfl) ?_
              refine lv_iload_n hx hb dX1_differs_47 rfl (lv_at hl 4 rfl) ?_
              refine lv_iload hx hb dX1_differs_48 (lv_at hl 5 rfl) ?_
              refine lv_iconst (v := nI 3) hx hb dX1_differs_50 (by decide) ?_
              refine q_divN (a := j) (b := 3) (by omega) (by decide) (by decide) hx hb dX1_differs_51 ?_
              refine lv_iload hx hb dX1_differs_52 (lv_at hl 5 rfl) ?_
              refine lv_iconst (v := nI 3) hx hb dX1_differs_54 (by decide) ?_
              refine q_remN (a := j) (b := 3) (by omega) (by decide) (by decide) hx hb dX1_differs_55 ?_
              refine q_callI (r := oI (vlu ex pa ho dv (j / 3) (sp + 1) (j % 3 + 1) i)) (va_runV (As := [.int (nI sp), .int (nI i), .int (nI (j / 3)), .int (nI (j % 3))]) (rest := [.int (oI (se (sp * 288 + i * 18 + j))), .int (nI b2)]) ⟨hx, hb, hml, hown, hts⟩ (kX1_sees l D h ad cI cJ cZ td gc ex pa di qu dc dg da dh dt dv dd ds ak se pr th ho lev sp i (j / 3) (j % 3) hti hi16 (by omega) hs (by omega) hrd hrh hpr hho) (cwV 4 hts gX1_differs_X1_sees rfl rfl rfl (by decide +kernel) ⟨Nat.le_of_ble_eq_true rfl, Nat.le_of_ble_eq_true rfl⟩) ⟨pP_blind, va_recv hK hP (ci := 1) (q0 := 0) rfl rfl, pP_pre hP hK⟩ rfl rfl hl.1 rfl (lv_room (Nat.le_of_ble_eq_true rfl)) dX1_differs_56 ⟨Nat.zero_le _, Nat.zero_le _⟩) ?_
              refine q_icmpO_ne (a := se (sp * 288 + i * 18 + j)) (b := vlu ex pa ho dv (j / 3) (sp + 1) (j % 3 + 1) i) (tgt := 66) (fun k h9 => by have := hse _ (by omega) k h9; omega) (fun k h9 => by have := vlu_in hho hpr hdv hi16 (show j / 3 < 6 by omega) (show sp + 1 < 4 by omega) (show j % 3 + 1 < 4 by omega) k h9; have := hrd.1; omega) hx hb dX1_differs_59 (by decide) (fun k59 => ?_) (fun k59 => ?_)
              · refine lv_iconst (v := nI 1) hx hb dX1_differs_66 (by decide) ?_
                refine lv_iload_n hx hb dX1_differs_67 rfl (lv_at hl 4 rfl) ?_
                refine lv_ishl hx hb dX1_differs_68 ?_
                refine q_top (y := nI (2 ^ i)) (shl1 i (by omega)) ?_
                refine lv_ior hx hb dX1_differs_69 ?_
                refine q_top (y := nI (b2 ||| 2 ^ i)) (nI_or b2 (2 ^ i)) ?_
                refine lv_istore_n (lv' := [(2, .int (nI (b2 ||| 2 ^ i))), (5, .int (oI (se (sp * 288 + i * 18 + j)))), (0, .ref h), (1, .int (nI sp)), (3, .int (nI i)), (4, .int (nI j))]) hx hb dX1_differs_70 rfl hl (by decide) rfl (fun ls hl => ?_)
                refine lv_iinc (v := nI (j + 1)) (lv' := [(4, .int (nI (j + 1))), (2, .int (nI (b2 ||| 2 ^ i))), (5, .int (oI (se (sp * 288 + i * 18 + j)))), (0, .ref h), (1, .int (nI sp)), (3, .int (nI i))]) hx hb dX1_differs_71 hl (k := 5) rfl (i1_n j) (by decide) rfl (fun ls hl => ?_)
                refine lv_goto (tgt := 15) hx hb dX1_differs_74 (by decide) ?_
                exact ih2 (j + 1) (b2 ||| 2 ^ i) (by omega) (by omega) (by rw [exU_t (show lkj ex pa ho dv se sp i j = true from decide_eq_true k59), if_pos rfl, hb2]; by_cases h9 : exU (lkj ex pa ho dv se sp i) j = true; rw [if_pos h9, or_twice]; rw [if_neg h9]) _ (lv_sub hl [3, 4, 1, 5, 0] rfl)
              · refine lv_iconst (v := nI 0) hx hb dX1_differs_62 (by decide) ?_
                refine lv_goto (tgt := 69) hx hb dX1_differs_63 (by decide) ?_
                refine lv_ior hx hb dX1_differs_69 ?_
                refine q_top (y := nI (b2 ||| 0)) (nI_or b2 0) ?_
                refine lv_istore_n (lv' := [(2, .int (nI (b2 ||| 0))), (5, .int (oI (se (sp * 288 + i * 18 + j)))), (0, .ref h), (1, .int (nI sp)), (3, .int (nI i)), (4, .int (nI j))]) hx hb dX1_differs_70 rfl hl (by decide) rfl (fun ls hl => ?_)
                refine lv_iinc (v := nI (j + 1)) (lv' := [(4, .int (nI (j + 1))), (2, .int (nI (b2 ||| 0))), (5, .int (oI (se (sp * 288 + i * 18 + j)))), (0, .ref h), (1, .int (nI sp)), (3, .int (nI i))]) hx hb dX1_differs_71 hl (k := 5) rfl (i1_n j) (by decide) rfl (fun ls hl => ?_)
                refine lv_goto (tgt := 15) hx hb dX1_differs_74 (by decide) ?_
                exact ih2 (j + 1) (b2 ||| 0) (by omega) (by omega) (by rw [exU_s (show lkj ex pa ho dv se sp i j = false from decide_eq_false (fun e9 => e9 k59)), Nat.or_zero]; exact hb2) _ (lv_sub hl [3, 4, 1, 5, 0] rfl)
        exact loop15 19 0 b (by omega) (Nat.le_refl 19) rfl _ (lv_sub hl [1, 2, 3, 4, 0] rfl)
  exact loop4 (gc + 1) 0 0 (by omega) (by omega) rfl _ (lv_sub hl [2, 3, 1, 0] rfl)
