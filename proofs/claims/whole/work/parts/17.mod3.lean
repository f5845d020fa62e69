set_option maxHeartbeats 4000000 in
set_option maxRecDepth 100000 in
theorem kX1_addGood (l : Launch) (D : va_G) (h : Nat) (ad : Nat → Nat) (cI cJ cZ : ClassId) (td : Nat) (gc : Nat) (ex : Nat → Bool) (pa : Nat → Option Nat) (di : Nat → Nat) (qu : Nat → Nat) (dc : Nat) (dg : Nat → Nat) (da : Nat → Nat) (dh : Nat → Option Nat) (dt : Nat → Option Nat) (dv : Nat → Option Nat) (dd : Nat → Nat) (ds : Nat → Nat) (ak : Nat → Bool) (se : Nat → Option Nat) (pr : Nat → Option Nat) (th : Nat) (sz : Nat) (o : Option Nat) (lev : Nat → Nat) (hti : TI ex pa lev) (ho2 : okO ex o) (hgc : gc ≤ 16) (hxg : ∀ j, j < 16 → ex j = true → j < gc) (hlv : lvZ lev o ≤ 1) (hgc2 : gc < 16) : Met l yX1_addGood wsX1_addGood ({ frames := 2, cells := 0, slots := 0, locals := 43 } : Room) (wP D (mW h ad cI cJ cZ td gc ex pa di qu dc dg da dh dt dv dd ds ak se pr th) (mT cI cJ cZ) [.ref h, .int (oI o)] sz) (wQ D (mW h ad cI cJ cZ td gc ex pa di qu dc dg da dh dt dv dd ds ak se pr th) (mW h ad cI cJ cZ td (gc + 1) (va_up ex gc true) (va_up pa gc o) di qu dc dg da dh dt dv dd ds ak se pr 0) (some (.int (nI gc)))) 0 0 (va_A (mW h ad cI cJ cZ td gc ex pa di qu dc dg da dh dt dv dd ds ak se pr th) sz) := by
  refine Met.ofW (cc := cX1_addGood) (maxL := 3) (ret := (some .int)) (by decide) rfl ?_
  intro p e s m args below meth c s₁ B hml hv
  obtain ⟨rfl, hsz, hP, hK, hD0⟩ := hv
  have hx := B.exec
  have hb := B.bytes
  have hr := B.returns
  have hts := atoms_spec (ws := wsX1_addGood) B.pre
  have hown : s.vm.findClass RX1 = some m.cls := findClass_of_methodNamed B.named
  have hlocks := B.notSynchronized
  subst hsz
  have hD := hD0.self (sz := s.heap.size)
  generalize hAe : va_A (mW h ad cI cJ cZ td gc ex pa di qu dc dg da dh dt dv dd ds ak se pr th) s.heap.size = A at hD ⊢
  have hA : ∀ q : Nat, s.heap.size ≤ q → A q := fun q h => by rw [← hAe]; exact Or.inr h
  have hS : va_S A s.heap s.heap [] := va_S.rf
  have hl := lv_entry ([.ref h, .int (oI o)]) (n := 3) (Nat.le_of_ble_eq_true rfl)
  rw [lg_entry_eq]
  generalize (lg_sl ([.ref h, .int (oI o)]) ++ List.replicate (3 - (lg_sl ([.ref h, .int (oI o)])).length) Slot.unset).toArray = ls at hl ⊢
  have hl : lv_has ls 3 [(0, .ref h), (1, .int (oI o))] := hl
  cases o with
  | none =>
    have hA3 : lvZ lev none = -1 := rfl
    refine lv_iload_n hx hb dX1_addGood_0 rfl (lv_at hl 1 rfl) ?_
    refine lv_iconst (v := oI none) hx hb dX1_addGood_1 (by decide) ?_
    refine q_icmpO_eq (a := none) (b := none) (tgt := 13) (fun k h9 => by cases h9) (fun k h9 => by cases h9) hx hb dX1_addGood_2 (by decide) (fun k2 => ?_) (fun k2 => absurd rfl k2)
    refine lv_iconst (v := nI 1) hx hb dX1_addGood_13 (by decide) ?_
    refine lv_goto (tgt := 18) hx hb dX1_addGood_14 (by decide) ?_
    refine q_top (y := bI true) ((by decide : nI 1 = bI true)) ?_
    refine lv_istore_n (lv' := [(2, .int (bI true)), (0, .ref h), (1, .int (oI none))]) hx hb dX1_addGood_18 rfl hl (by decide) rfl (fun ls hl => ?_)
    refine lv_aload_n hx hb dX1_addGood_19 rfl (lv_at hl 1 rfl) ?_
    refine lv_iload_n hx hb dX1_addGood_20 rfl (lv_at hl 0 rfl) ?_
    refine q_ifB_ne (b := true) (tgt := 28) hx hb dX1_addGood_21 (by decide) (fun k21 => ?_) (fun k21 => absurd k21 (by decide))
    refine lv_iload_n hx hb dX1_addGood_28 rfl (lv_at hl 2 rfl) ?_
    refine lv_iconst (v := oI none) hx hb dX1_addGood_29 (by decide) ?_
    refine q_icmpO_eq (a := none) (b := none) (tgt := 42) (fun k h9 => by cases h9) (fun k h9 => by cases h9) hx hb dX1_addGood_30 (by decide) (fun k30 => ?_) (fun k30 => absurd rfl k30)
    refine lv_aload_n hx hb dX1_addGood_42 rfl (lv_at hl 1 rfl) ?_
    refine va_get (D := D) (ci := 1) (v := .int (nI gc)) (C := RX1) (T := TX1) (N := 18) hx hb hts (iX1_addGood) hown hK hP 0 rfl rfl 1 (by decide) (hts (.fieldLink RX1 58 "ShopHubModel" "goods" "I") (by decide +kernel)) (fun _ h9 => h9) rfl dX1_addGood_43 ?_
    refine lv_bipush (v := nI 16) hx hb dX1_addGood_46 (by decide) ?_
    refine q_icmpN_ne (a := gc) (b := 16) (tgt := 55) (by omega) (by omega) hx hb dX1_addGood_48 (by decide) (fun k48 => ?_) (fun k48 => absurd k48 (by omega))
    refine lv_iconst (v := nI 0) hx hb dX1_addGood_55 (by decide) ?_
    refine q_wcallI (r := bI (decide (0 < 0))) (w' := (mW h ad cI cJ cZ td gc ex pa di qu dc dg da dh dt dv dd ds ak se pr 0)) (va_runV (As := [.int (nI 0)]) (rest := []) ⟨hx, hb, hml, hown, hts⟩ (kX1_fails l D h ad cI cJ cZ td gc ex pa di qu dc dg da dh dt dv dd ds ak se pr th _ 0 (by decide)) (cwV 1 hts gX1_addGood_X1_fails rfl rfl rfl (by decide +kernel) ⟨Nat.le_of_ble_eq_true rfl, Nat.le_of_ble_eq_true rfl⟩) ⟨wP_blind, va_recv hK hP (ci := 1) (q0 := 0) rfl rfl, wP_pre hP hK hD⟩ rfl rfl hl.1 rfl (lv_room (Nat.le_of_ble_eq_true rfl)) dX1_addGood_56 ⟨Nat.zero_le _, Nat.zero_le _⟩) hD hS hA rfl (fun H locs hP hD hS => ?_)
    refine q_ifB_eq (b := decide (0 < 0)) (tgt := 64) hx hb dX1_addGood_59 (by decide) (fun k59 => ?_) (fun k59 => absurd k59 (by decide))
    refine lv_aload_n hx hb dX1_addGood_64 rfl (lv_at hl 1 rfl) ?_
    refine va_get (D := D) (ci := 1) (v := .ref (ad 3)) (C := RX1) (T := TX1) (N := 18) hx hb hts (iX1_addGood) hown hK hP 0 rfl rfl 3 (by decide) (hts (.fieldLink RX1 13 "ShopHubModel" "parent" "[I") (by decide +kernel)) (fun _ h9 => h9) rfl dX1_addGood_65 ?_
    refine lv_aload_n hx hb dX1_addGood_68 rfl (lv_at hl 1 rfl) ?_
    refine va_get (D := D) (ci := 1) (v := .int (nI gc)) (C := RX1) (T := TX1) (N := 18) hx hb hts (iX1_addGood) hown hK hP 0 rfl rfl 1 (by decide) (hts (.fieldLink RX1 58 "ShopHubModel" "goods" "I") (by decide +kernel)) (fun _ h9 => h9) rfl dX1_addGood_69 ?_
    refine lv_iload_n hx hb dX1_addGood_72 rfl (lv_at hl 2 rfl) ?_
    refine q_ast oI pa none hx hb hK hP hD hS 2 1 rfl rfl (k := gc) (by omega) (Nat.le_of_ble_eq_true rfl) dX1_addGood_73 (fun H locs hP hD hS => ?_)
    have hP : va_P D vwCl (mW h ad cI cJ cZ td gc ex (va_up pa gc none) di qu dc dg da dh dt dv dd ds ak se pr 0) H := hP
    have hD : va_D A (mW h ad cI cJ cZ td gc ex (va_up pa gc none) di qu dc dg da dh dt dv dd ds ak se pr 0) := hD
    refine lv_aload_n hx hb dX1_addGood_74 rfl (lv_at hl 1 rfl) ?_
    refine va_get (D := D) (ci := 1) (v := .ref (ad 2)) (C := RX1) (T := TX1) (N := 18) hx hb hts (iX1_addGood) hown hK hP 0 rfl rfl 2 (by decide) (hts (.fieldLink RX1 7 "ShopHubModel" "isThere" "[Z") (by decide +kernel)) (fun _ h9 => h9) rfl dX1_addGood_75 ?_
    refine lv_aload_n hx hb dX1_addGood_78 rfl (lv_at hl 1 rfl) ?_
    refine va_get (D := D) (ci := 1) (v := .int (nI gc)) (C := RX1) (T := TX1) (N := 18) hx hb hts (iX1_addGood) hown hK hP 0 rfl rfl 1 (by decide) (hts (.fieldLink RX1 58 "ShopHubModel" "goods" "I") (by decide +kernel)) (fun _ h9 => h9) rfl dX1_addGood_79 ?_
    refine lv_iconst (v := nI 1) hx hb dX1_addGood_82 (by decide) ?_
    refine q_top (y := bI true) ((by decide : nI 1 = bI true)) ?_
    refine q_zst ex true hx hb hK hP hD hS 1 0 rfl rfl (k := gc) (by omega) (Nat.le_of_ble_eq_true rfl) dX1_addGood_83 (fun H locs hP hD hS => ?_)
    have hP : va_P D vwCl (mW h ad cI cJ cZ td gc (va_up ex gc true) (va_up pa gc none) di qu dc dg da dh dt dv dd ds ak se pr 0) H := hP
    have hD : va_D A (mW h ad cI cJ cZ td gc (va_up ex gc true) (va_up pa gc none) di qu dc dg da dh dt dv dd ds ak se pr 0) := hD
    refine lv_aload_n hx hb dX1_addGood_84 rfl (lv_at hl 1 rfl) ?_
    refine lv_dup hx hb dX1_addGood_85 rfl ?_
    refine va_get (D := D) (ci := 1) (v := .int (nI gc)) (C := RX1) (T := TX1) (N := 18) hx hb hts (iX1_addGood) hown hK hP 0 rfl rfl 1 (by decide) (hts (.fieldLink RX1 58 "ShopHubModel" "goods" "I") (by decide +kernel)) (fun _ h9 => h9) rfl dX1_addGood_86 ?_
    refine lv_iconst (v := nI 1) hx hb dX1_addGood_89 (by decide) ?_
    refine q_addN (a := gc) (b := 1) hx hb dX1_addGood_90 ?_
    refine va_put (D := D) (ci := 1) (v := .int (nI (gc + 1))) (ty := .int) (C := RX1) (T := TX1) (N := 18) hx hb hts (iX1_addGood) tyX1 tyX1_ok nmX1 hown hK hP hD hS 0 rfl rfl 1 (by decide) (hts (.fieldLink RX1 58 "ShopHubModel" "goods" "I") (by decide +kernel)) (fun _ h9 => h9) rfl (by decide +kernel) rfl rfl (Nat.le_of_ble_eq_true rfl) dX1_addGood_91 (fun H locs hP hD hS => ?_)
    have hP : va_P D vwCl (mW h ad cI cJ cZ td (gc + 1) (va_up ex gc true) (va_up pa gc none) di qu dc dg da dh dt dv dd ds ak se pr 0) H := hP
    have hD : va_D A (mW h ad cI cJ cZ td (gc + 1) (va_up ex gc true) (va_up pa gc none) di qu dc dg da dh dt dv dd ds ak se pr 0) := hD
    refine lv_aload_n hx hb dX1_addGood_94 rfl (lv_at hl 1 rfl) ?_
    refine va_get (D := D) (ci := 1) (v := .int (nI (gc + 1))) (C := RX1) (T := TX1) (N := 18) hx hb hts (iX1_addGood) hown hK hP 0 rfl rfl 1 (by decide) (hts (.fieldLink RX1 58 "ShopHubModel" "goods" "I") (by decide +kernel)) (fun _ h9 => h9) rfl dX1_addGood_95 ?_
    refine lv_iconst (v := nI 1) hx hb dX1_addGood_98 (by decide) ?_
    refine q_subN (a := gc + 1) (b := 1) (by omega) hx hb dX1_addGood_99 ?_
    exact q_wretI hx hb hr hlocks hAe hP hS (by rw [Nat.add_sub_cancel]) dX1_addGood_100
  | some q =>
    obtain ⟨hq, hq2⟩ := ho2 q rfl
    have hA3 : lvZ lev (some q) = (lev q : Int) := rfl
    refine lv_iload_n hx hb dX1_addGood_0 rfl (lv_at hl 1 rfl) ?_
    refine lv_iconst (v := oI none) hx hb dX1_addGood_1 (by decide) ?_
    refine q_top2 (y := oI (some q)) ((rfl : nI q = oI (some q))) ?_
    refine q_icmpO_eq (a := some q) (b := none) (tgt := 13) (fun k h9 => by cases h9; omega) (fun k h9 => by cases h9) hx hb dX1_addGood_2 (by decide) (fun k2 => (by cases k2)) (fun k2 => ?_)
    refine lv_aload_n hx hb dX1_addGood_5 rfl (lv_at hl 0 rfl) ?_
    refine lv_iload_n hx hb dX1_addGood_6 rfl (lv_at hl 1 rfl) ?_
    refine q_callI (r := bI (ex q)) (va_runV (As := [.int (nI q)]) (rest := []) ⟨hx, hb, hml, hown, hts⟩ (kX1_isGoodN l D h ad cI cJ cZ td gc ex pa di qu dc dg da dh dt dv dd ds ak se pr th q hq hgc hxg) (cwV 1 hts gX1_addGood_X1_isGood rfl rfl rfl (by decide +kernel) ⟨Nat.le_of_ble_eq_true rfl, Nat.le_of_ble_eq_true rfl⟩) ⟨pP_blind, va_recv hK hP (ci := 1) (q0 := 0) rfl rfl, pP_pre hP hK⟩ rfl rfl hl.1 rfl (lv_room (Nat.le_of_ble_eq_true rfl)) dX1_addGood_7 ⟨Nat.zero_le _, Nat.zero_le _⟩) ?_
    refine q_ifB_eq (b := ex q) (tgt := 17) hx hb dX1_addGood_10 (by decide) (fun k10 => absurd k10 (by rw [hq2]; decide)) (fun k10 => ?_)
    refine lv_iconst (v := nI 1) hx hb dX1_addGood_13 (by decide) ?_
    refine lv_goto (tgt := 18) hx hb dX1_addGood_14 (by decide) ?_
    refine q_top (y := bI true) ((by decide : nI 1 = bI true)) ?_
    refine lv_istore_n (lv' := [(2, .int (bI true)), (0, .ref h), (1, .int (nI q))]) hx hb dX1_addGood_18 rfl hl (by decide) rfl (fun ls hl => ?_)
    refine lv_aload_n hx hb dX1_addGood_19 rfl (lv_at hl 1 rfl) ?_
    refine lv_iload_n hx hb dX1_addGood_20 rfl (lv_at hl 0 rfl) ?_
    refine q_ifB_ne (b := true) (tgt := 28) hx hb dX1_addGood_21 (by decide) (fun k21 => ?_) (fun k21 => absurd k21 (by decide))
    refine lv_iload_n hx hb dX1_addGood_28 rfl (lv_at hl 2 rfl) ?_
    refine lv_iconst (v := oI none) hx hb dX1_addGood_29 (by decide) ?_
    refine q_top2 (y := oI (some q)) ((rfl : nI q = oI (some q))) ?_
    refine q_icmpO_eq (a := some q) (b := none) (tgt := 42) (fun k h9 => by cases h9; omega) (fun k h9 => by cases h9) hx hb dX1_addGood_30 (by decide) (fun k30 => (by cases k30)) (fun k30 => ?_)
    refine lv_aload_n hx hb dX1_addGood_33 rfl (lv_at hl 1 rfl) ?_
    refine lv_iload_n hx hb dX1_addGood_34 rfl (lv_at hl 2 rfl) ?_
    refine q_callI (r := nI (lev q)) (va_runV (As := [.int (nI q)]) (rest := [.ref h]) ⟨hx, hb, hml, hown, hts⟩ (kX1_level l D h ad cI cJ cZ td gc ex pa di qu dc dg da dh dt dv dd ds ak se pr th q lev hti hq hq2) (cwV 1 hts gX1_addGood_X1_level rfl rfl rfl (by decide +kernel) ⟨Nat.le_of_ble_eq_true rfl, Nat.le_of_ble_eq_true rfl⟩) ⟨pP_blind, va_recv hK hP (ci := 1) (q0 := 0) rfl rfl, pP_pre hP hK⟩ rfl rfl hl.1 rfl (lv_room (Nat.le_of_ble_eq_true rfl)) dX1_addGood_35 ⟨Nat.zero_le _, Nat.zero_le _⟩) ?_
    refine lv_iconst (v := nI 2) hx hb dX1_addGood_38 (by decide) ?_
    refine q_icmpN_eq (a := lev q) (b := 2) (tgt := 51) (by omega) (by omega) hx hb dX1_addGood_39 (by decide) (fun k39 => absurd k39 (by omega)) (fun k39 => ?_)
    refine lv_aload_n hx hb dX1_addGood_42 rfl (lv_at hl 1 rfl) ?_
    refine va_get (D := D) (ci := 1) (v := .int (nI gc)) (C := RX1) (T := TX1) (N := 18) hx hb hts (iX1_addGood) hown hK hP 0 rfl rfl 1 (by decide) (hts (.fieldLink RX1 58 "ShopHubModel" "goods" "I") (by decide +kernel)) (fun _ h9 => h9) rfl dX1_addGood_43 ?_
    refine lv_bipush (v := nI 16) hx hb dX1_addGood_46 (by decide) ?_
    refine q_icmpN_ne (a := gc) (b := 16) (tgt := 55) (by omega) (by omega) hx hb dX1_addGood_48 (by decide) (fun k48 => ?_) (fun k48 => absurd k48 (by omega))
    refine lv_iconst (v := nI 0) hx hb dX1_addGood_55 (by decide) ?_
    refine q_wcallI (r := bI (decide (0 < 0))) (w' := (mW h ad cI cJ cZ td gc ex pa di qu dc dg da dh dt dv dd ds ak se pr 0)) (va_runV (As := [.int (nI 0)]) (rest := []) ⟨hx, hb, hml, hown, hts⟩ (kX1_fails l D h ad cI cJ cZ td gc ex pa di qu dc dg da dh dt dv dd ds ak se pr th _ 0 (by decide)) (cwV 1 hts gX1_addGood_X1_fails rfl rfl rfl (by decide +kernel) ⟨Nat.le_of_ble_eq_true rfl, Nat.le_of_ble_eq_true rfl⟩) ⟨wP_blind, va_recv hK hP (ci := 1) (q0 := 0) rfl rfl, wP_pre hP hK hD⟩ rfl rfl hl.1 rfl (lv_room (Nat.le_of_ble_eq_true rfl)) dX1_addGood_56 ⟨Nat.zero_le _, Nat.zero_le _⟩) hD hS hA rfl (fun H locs hP hD hS => ?_)
    refine q_ifB_eq (b := decide (0 < 0)) (tgt := 64) hx hb dX1_addGood_59 (by decide) (fun k59 => ?_) (fun k59 => absurd k59 (by decide))
    refine lv_aload_n hx hb dX1_addGood_64 rfl (lv_at hl 1 rfl) ?_
    refine va_get (D := D) (ci := 1) (v := .ref (ad 3)) (C := RX1) (T := TX1) (N := 18) hx hb hts (iX1_addGood) hown hK hP 0 rfl rfl 3 (by decide) (hts (.fieldLink RX1 13 "ShopHubModel" "parent" "[I") (by decide +kernel)) (fun _ h9 => h9) rfl dX1_addGood_65 ?_
    refine lv_aload_n hx hb dX1_addGood_68 rfl (lv_at hl 1 rfl) ?_
    refine va_get (D := D) (ci := 1) (v := .int (nI gc)) (C := RX1) (T := TX1) (N := 18) hx hb hts (iX1_addGood) hown hK hP 0 rfl rfl 1 (by decide) (hts (.fieldLink RX1 58 "ShopHubModel" "goods" "I") (by decide +kernel)) (fun _ h9 => h9) rfl dX1_addGood_69 ?_
    refine lv_iload_n hx hb dX1_addGood_72 rfl (lv_at hl 2 rfl) ?_
    refine q_top (y := oI (some q)) ((rfl : nI q = oI (some q))) ?_
    refine q_ast oI pa (some q) hx hb hK hP hD hS 2 1 rfl rfl (k := gc) (by omega) (Nat.le_of_ble_eq_true rfl) dX1_addGood_73 (fun H locs hP hD hS => ?_)
    have hP : va_P D vwCl (mW h ad cI cJ cZ td gc ex (va_up pa gc (some q)) di qu dc dg da dh dt dv dd ds ak se pr 0) H := hP
    have hD : va_D A (mW h ad cI cJ cZ td gc ex (va_up pa gc (some q)) di qu dc dg da dh dt dv dd ds ak se pr 0) := hD
    refine lv_aload_n hx hb dX1_addGood_74 rfl (lv_at hl 1 rfl) ?_
    refine va_get (D := D) (ci := 1) (v := .ref (ad 2)) (C := RX1) (T := TX1) (N := 18) hx hb hts (iX1_addGood) hown hK hP 0 rfl rfl 2 (by decide) (hts (.fieldLink RX1 7 "ShopHubModel" "isThere" "[Z") (by decide +kernel)) (fun _ h9 => h9) rfl dX1_addGood_75 ?_
    refine lv_aload_n hx hb dX1_addGood_78 rfl (lv_at hl 1 rfl) ?_
    refine va_get (D := D) (ci := 1) (v := .int (nI gc)) (C := RX1) (T := TX1) (N := 18) hx hb hts (iX1_addGood) hown hK hP 0 rfl rfl 1 (by decide) (hts (.fieldLink RX1 58 "ShopHubModel" "goods" "I") (by decide +kernel)) (fun _ h9 => h9) rfl dX1_addGood_79 ?_
    refine lv_iconst (v := nI 1) hx hb dX1_addGood_82 (by decide) ?_
    refine q_top (y := bI true) ((by decide : nI 1 = bI true)) ?_
    refine q_zst ex true hx hb hK hP hD hS 1 0 rfl rfl (k := gc) (by omega) (Nat.le_of_ble_eq_true rfl) dX1_addGood_83 (fun H locs hP hD hS => ?_)
    have hP : va_P D vwCl (mW h ad cI cJ cZ td gc (va_up ex gc true) (va_up pa gc (some q)) di qu dc dg da dh dt dv dd ds ak se pr 0) H := hP
    have hD : va_D A (mW h ad cI cJ cZ td gc (va_up ex gc true) (va_up pa gc (some q)) di qu dc dg da dh dt dv dd ds ak se pr 0) := hD
    refine lv_aload_n hx hb dX1_addGood_84 rfl (lv_at hl 1 rfl) ?_
    refine lv_dup hx hb dX1_addGood_85 rfl ?_
    refine va_get (D := D) (ci := 1) (v := .int (nI gc)) (C := RX1) (T := TX1) (N := 18) hx hb hts (iX1_addGood) hown hK hP 0 rfl rfl 1 (by decide) (hts (.fieldLink RX1 58 "ShopHubModel" "goods" "I") (by decide +kernel)) (fun _ h9 => h9) rfl dX1_addGood_86 ?_
    refine lv_iconst (v := nI 1) hx hb dX1_addGood_89 (by decide) ?_
    refine q_addN (a := gc) (b := 1) hx hb dX1_addGood_90 ?_
    refine va_put (D := D) (ci := 1) (v := .int (nI (gc + 1))) (ty := .int) (C := RX1) (T := TX1) (N := 18) hx hb hts (iX1_addGood) tyX1 tyX1_ok nmX1 hown hK hP hD hS 0 rfl rfl 1 (by decide) (hts (.fieldLink RX1 58 "ShopHubModel" "goods" "I") (by decide +kernel)) (fun _ h9 => h9) rfl (by decide +kernel) rfl rfl (Nat.le_of_ble_eq_true rfl) dX1_addGood_91 (fun H locs hP hD hS => ?_)
    have hP : va_P D vwCl (mW h ad cI cJ cZ td (gc + 1) (va_up ex gc true) (va_up pa gc (some q)) di qu dc dg da dh dt dv dd ds ak se pr 0) H := hP
    have hD : va_D A (mW h ad cI cJ cZ td (gc + 1) (va_up ex gc true) (va_up pa gc (some q)) di qu dc dg da dh dt dv dd ds ak se pr 0) := hD
    refine lv_aload_n hx hb dX1_addGood_94 rfl (lv_at hl 1 rfl) ?_
    refine va_get (D := D) (ci := 1) (v := .int (nI (gc + 1))) (C := RX1) (T := TX1) (N := 18) hx hb hts (iX1_addGood) hown hK hP 0 rfl rfl 1 (by decide) (hts (.fieldLink RX1 58 "ShopHubModel" "goods" "I") (by decide +kernel)) (fun _ h9 => h9) rfl dX1_addGood_95 ?_
    refine lv_iconst (v := nI 1) hx hb dX1_addGood_98 (by decide) ?_
    refine q_subN (a := gc + 1) (b := 1) (by omega) hx hb dX1_addGood_99 ?_
    exact q_wretI hx hb hr hlocks hAe hP hS (by rw [Nat.add_sub_cancel]) dX1_addGood_100

set_option maxHeartbeats 4000000 in
set_option maxRecDepth 100000 in
theorem kX1_addGood2 (l : Launch) (D : va_G) (h : Nat) (ad : Nat → Nat) (cI cJ cZ : ClassId) (td : Nat) (gc : Nat) (ex : Nat → Bool) (pa : Nat → Option Nat) (di : Nat → Nat) (qu : Nat → Nat) (dc : Nat) (dg : Nat → Nat) (da : Nat → Nat) (dh : Nat → Option Nat) (dt : Nat → Option Nat) (dv : Nat → Option Nat) (dd : Nat → Nat) (ds : Nat → Nat) (ak : Nat → Bool) (se : Nat → Option Nat) (pr : Nat → Option Nat) (th : Nat) (sz : Nat) (o : Option Nat) (lev : Nat → Nat) (hti : TI ex pa lev) (ho2 : okO ex o) (hgc : gc ≤ 16) (hxg : ∀ j, j < 16 → ex j = true → j < gc) (hbad : lvZ lev o = 2 ∨ gc = 16) : Met l yX1_addGood wsX1_addGood ({ frames := 2, cells := 0, slots := 0, locals := 43 } : Room) (wP D (mW h ad cI cJ cZ td gc ex pa di qu dc dg da dh dt dv dd ds ak se pr th) (mT cI cJ cZ) [.ref h, .int (oI o)] sz) (wQ D (mW h ad cI cJ cZ td gc ex pa di qu dc dg da dh dt dv dd ds ak se pr th) (mW h ad cI cJ cZ td gc ex pa di qu dc dg da dh dt dv dd ds ak se pr 2) (some (.int (nI 0)))) 0 0 (va_A (mW h ad cI cJ cZ td gc ex pa di qu dc dg da dh dt dv dd ds ak se pr th) sz) := by
  refine Met.ofW (cc := cX1_addGood) (maxL := 3) (ret := (some .int)) (by decide) rfl ?_
  intro p e s m args below meth c s₁ B hml hv
  obtain ⟨rfl, hsz, hP, hK, hD0⟩ := hv
  have hx := B.exec
  have hb := B.bytes
  have hr := B.returns
  have hts := atoms_spec (ws := wsX1_addGood) B.pre
  have hown : s.vm.findClass RX1 = some m.cls := findClass_of_methodNamed B.named
  have hlocks := B.notSynchronized
  subst hsz
  have hD := hD0.self (sz := s.heap.size)
  generalize hAe : va_A (mW h ad cI cJ cZ td gc ex pa di qu dc dg da dh dt dv dd ds ak se pr th) s.heap.size = A at hD ⊢
  have hA : ∀ q : Nat, s.heap.size ≤ q → A q := fun q h => by rw [← hAe]; exact Or.inr h
  have hS : va_S A s.heap s.heap [] := va_S.rf
  have hl := lv_entry ([.ref h, .int (oI o)]) (n := 3) (Nat.le_of_ble_eq_true rfl)
  rw [lg_entry_eq]
  generalize (lg_sl ([.ref h, .int (oI o)]) ++ List.replicate (3 - (lg_sl ([.ref h, .int (oI o)])).length) Slot.unset).toArray = ls at hl ⊢
  have hl : lv_has ls 3 [(0, .ref h), (1, .int (oI o))] := hl
  have hL2 := lvZ_le hti ho2
  cases o with
  | none =>
    have hA3 : lvZ lev none = -1 := rfl
    refine lv_iload_n hx hb dX1_addGood_0 rfl (lv_at hl 1 rfl) ?_
    refine lv_iconst (v := oI none) hx hb dX1_addGood_1 (by decide) ?_
    refine q_icmpO_eq (a := none) (b := none) (tgt := 13) (fun k h9 => by cases h9) (fun k h9 => by cases h9) hx hb dX1_addGood_2 (by decide) (fun k2 => ?_) (fun k2 => absurd rfl k2)
    refine lv_iconst (v := nI 1) hx hb dX1_addGood_13 (by decide) ?_
    refine lv_goto (tgt := 18) hx hb dX1_addGood_14 (by decide) ?_
    refine q_top (y := bI true) ((by decide : nI 1 = bI true)) ?_
    refine lv_istore_n (lv' := [(2, .int (bI true)), (0, .ref h), (1, .int (oI none))]) hx hb dX1_addGood_18 rfl hl (by decide) rfl (fun ls hl => ?_)
    refine lv_aload_n hx hb dX1_addGood_19 rfl (lv_at hl 1 rfl) ?_
    refine lv_iload_n hx hb dX1_addGood_20 rfl (lv_at hl 0 rfl) ?_
    refine q_ifB_ne (b := true) (tgt := 28) hx hb dX1_addGood_21 (by decide) (fun k21 => ?_) (fun k21 => absurd k21 (by decide))
    refine lv_iload_n hx hb dX1_addGood_28 rfl (lv_at hl 2 rfl) ?_
    refine lv_iconst (v := oI none) hx hb dX1_addGood_29 (by decide) ?_
    refine q_icmpO_eq (a := none) (b := none) (tgt := 42) (fun k h9 => by cases h9) (fun k h9 => by cases h9) hx hb dX1_addGood_30 (by decide) (fun k30 => ?_) (fun k30 => absurd rfl k30)
    refine lv_aload_n hx hb dX1_addGood_42 rfl (lv_at hl 1 rfl) ?_
    refine va_get (D := D) (ci := 1) (v := .int (nI gc)) (C := RX1) (T := TX1) (N := 18) hx hb hts (iX1_addGood) hown hK hP 0 rfl rfl 1 (by decide) (hts (.fieldLink RX1 58 "ShopHubModel" "goods" "I") (by decide +kernel)) (fun _ h9 => h9) rfl dX1_addGood_43 ?_
    refine lv_bipush (v := nI 16) hx hb dX1_addGood_46 (by decide) ?_
    refine q_icmpN_ne (a := gc) (b := 16) (tgt := 55) (by omega) (by omega) hx hb dX1_addGood_48 (by decide) (fun k48 => absurd k48 (by omega)) (fun k48 => ?_)
    refine lv_iconst (v := nI 2) hx hb dX1_addGood_51 (by decide) ?_
    refine lv_goto (tgt := 56) hx hb dX1_addGood_52 (by decide) ?_
    refine q_wcallI (r := bI (decide (0 < 2))) (w' := (mW h ad cI cJ cZ td gc ex pa di qu dc dg da dh dt dv dd ds ak se pr 2)) (va_runV (As := [.int (nI 2)]) (rest := []) ⟨hx, hb, hml, hown, hts⟩ (kX1_fails l D h ad cI cJ cZ td gc ex pa di qu dc dg da dh dt dv dd ds ak se pr th _ 2 (by decide)) (cwV 1 hts gX1_addGood_X1_fails rfl rfl rfl (by decide +kernel) ⟨Nat.le_of_ble_eq_true rfl, Nat.le_of_ble_eq_true rfl⟩) ⟨wP_blind, va_recv hK hP (ci := 1) (q0 := 0) rfl rfl, wP_pre hP hK hD⟩ rfl rfl hl.1 rfl (lv_room (Nat.le_of_ble_eq_true rfl)) dX1_addGood_56 ⟨Nat.zero_le _, Nat.zero_le _⟩) hD hS hA rfl (fun H locs hP hD hS => ?_)
    refine q_ifB_eq (b := decide (0 < 2)) (tgt := 64) hx hb dX1_addGood_59 (by decide) (fun k59 => absurd k59 (by decide)) (fun k59 => ?_)
    refine lv_iconst (v := nI 0) hx hb dX1_addGood_62 (by decide) ?_
    exact q_wretI hx hb hr hlocks hAe hP hS (rfl) dX1_addGood_63
  | some q =>
    obtain ⟨hq, hq2⟩ := ho2 q rfl
    have hA3 : lvZ lev (some q) = (lev q : Int) := rfl
    refine lv_iload_n hx hb dX1_addGood_0 rfl (lv_at hl 1 rfl) ?_
    refine lv_iconst (v := oI none) hx hb dX1_addGood_1 (by decide) ?_
    refine q_top2 (y := oI (some q)) ((rfl : nI q = oI (some q))) ?_
    refine q_icmpO_eq (a := some q) (b := none) (tgt := 13) (fun k h9 => by cases h9; omega) (fun k h9 => by cases h9) hx hb dX1_addGood_2 (by decide) (fun k2 => (by cases k2)) (fun k2 => ?_)
    refine lv_aload_n hx hb dX1_addGood_5 rfl (lv_at hl 0 rfl) ?_
    refine lv_iload_n hx hb dX1_addGood_6 rfl (lv_at hl 1 rfl) ?_
    refine q_callI (r := bI (ex q)) (va_runV (As := [.int (nI q)]) (rest := []) ⟨hx, hb, hml, hown, hts⟩ (kX1_isGoodN l D h ad cI cJ cZ td gc ex pa di qu dc dg da dh dt dv dd ds ak se pr th q hq hgc hxg) (cwV 1 hts gX1_addGood_X1_isGood rfl rfl rfl (by decide +kernel) ⟨Nat.le_of_ble_eq_true rfl, Nat.le_of_ble_eq_true rfl⟩) ⟨pP_blind, va_recv hK hP (ci := 1) (q0 := 0) rfl rfl, pP_pre hP hK⟩ rfl rfl hl.1 rfl (lv_room (Nat.le_of_ble_eq_true rfl)) dX1_addGood_7 ⟨Nat.zero_le _, Nat.zero_le _⟩) ?_
    refine q_ifB_eq (b := ex q) (tgt := 17) hx hb dX1_addGood_10 (by decide) (fun k10 => absurd k10 (by rw [hq2]; decide)) (fun k10 => ?_)
    refine lv_iconst (v := nI 1) hx hb dX1_addGood_13 (by decide) ?_
    refine lv_goto (tgt := 18) hx hb dX1_addGood_14 (by decide) ?_
    refine q_top (y := bI true) ((by decide : nI 1 = bI true)) ?_
    refine lv_istore_n (lv' := [(2, .int (bI true)), (0, .ref h), (1, .int (nI q))]) hx hb dX1_addGood_18 rfl hl (by decide) rfl (fun ls hl => ?_)
    refine lv_aload_n hx hb dX1_addGood_19 rfl (lv_at hl 1 rfl) ?_
    refine lv_iload_n hx hb dX1_addGood_20 rfl (lv_at hl 0 rfl) ?_
    refine q_ifB_ne (b := true) (tgt := 28) hx hb dX1_addGood_21 (by decide) (fun k21 => ?_) (fun k21 => absurd k21 (by decide))
    refine lv_iload_n hx hb dX1_addGood_28 rfl (lv_at hl 2 rfl) ?_
    refine lv_iconst (v := oI none) hx hb dX1_addGood_29 (by decide) ?_
    refine q_top2 (y := oI (some q)) ((rfl : nI q = oI (some q))) ?_
    refine q_icmpO_eq (a := some q) (b := none) (tgt := 42) (fun k h9 => by cases h9; omega) (fun k h9 => by cases h9) hx hb dX1_addGood_30 (by decide) (fun k30 => (by cases k30)) (fun k30 => ?_)
    refine lv_aload_n hx hb dX1_addGood_33 rfl (lv_at hl 1 rfl) ?_
    refine lv_iload_n hx hb dX1_addGood_34 rfl (lv_at hl 2 rfl) ?_
    refine q_callI (r := nI (lev q)) (va_runV (As := [.int (nI q)]) (rest := [.ref h]) ⟨hx, hb, hml, hown, hts⟩ (kX1_level l D h ad cI cJ cZ td gc ex pa di qu dc dg da dh dt dv dd ds ak se pr th q lev hti hq hq2) (cwV 1 hts gX1_addGood_X1_level rfl rfl rfl (by decide +kernel) ⟨Nat.le_of_ble_eq_true rfl, Nat.le_of_ble_eq_true rfl⟩) ⟨pP_blind, va_recv hK hP (ci := 1) (q0 := 0) rfl rfl, pP_pre hP hK⟩ rfl rfl hl.1 rfl (lv_room (Nat.le_of_ble_eq_true rfl)) dX1_addGood_35 ⟨Nat.zero_le _, Nat.zero_le _⟩) ?_
    refine lv_iconst (v := nI 2) hx hb dX1_addGood_38 (by decide) ?_
    refine q_icmpN_eq (a := lev q) (b := 2) (tgt := 51) (by omega) (by omega) hx hb dX1_addGood_39 (by decide) (fun k39 => ?_) (fun k39 => ?_)
    · refine lv_iconst (v := nI 2) hx hb dX1_addGood_51 (by decide) ?_
      refine lv_goto (tgt := 56) hx hb dX1_addGood_52 (by decide) ?_
      refine q_wcallI (r := bI (decide (0 < 2))) (w' := (mW h ad cI cJ cZ td gc ex pa di qu dc dg da dh dt dv dd ds ak se pr 2)) (va_runV (As := [.int (nI 2)]) (rest := []) ⟨hx, hb, hml, hown, hts⟩ (kX1_fails l D h ad cI cJ cZ td gc ex pa di qu dc dg da dh dt dv dd ds ak se pr th _ 2 (by decide)) (cwV 1 hts gX1_addGood_X1_fails rfl rfl rfl (by decide +kernel) ⟨Nat.le_of_ble_eq_true rfl, Nat.le_of_ble_eq_true rfl⟩) ⟨wP_blind, va_recv hK hP (ci := 1) (q0 := 0) rfl rfl, wP_pre hP hK hD⟩ rfl rfl hl.1 rfl (lv_room (Nat.le_of_ble_eq_true rfl)) dX1_addGood_56 ⟨Nat.zero_le _, Nat.zero_le _⟩) hD hS hA rfl (fun H locs hP hD hS => ?_)
      refine q_ifB_eq (b := decide (0 < 2)) (tgt := 64) hx hb dX1_addGood_59 (by decide) (fun k59 => absurd k59 (by decide)) (fun k59 => ?_)
      refine lv_iconst (v := nI 0) hx hb dX1_addGood_62 (by decide) ?_
      exact q_wretI hx hb hr hlocks hAe hP hS (rfl) dX1_addGood_63
    · refine lv_aload_n hx hb dX1_addGood_42 rfl (lv_at hl 1 rfl) ?_
      refine va_get (D := D) (ci := 1) (v := .int (nI gc)) (C := RX1) (T := TX1) (N := 18) hx hb hts (iX1_addGood) hown hK hP 0 rfl rfl 1 (by decide) (hts (.fieldLink RX1 58 "ShopHubModel" "goods" "I") (by decide +kernel)) (fun _ h9 => h9) rfl dX1_addGood_43 ?_
      refine lv_bipush (v := nI 16) hx hb dX1_addGood_46 (by decide) ?_
      refine q_icmpN_ne (a := gc) (b := 16) (tgt := 55) (by omega) (by omega) hx hb dX1_addGood_48 (by decide) (fun k48 => absurd k48 (by omega)) (fun k48 => ?_)
      refine lv_iconst (v := nI 2) hx hb dX1_addGood_51 (by decide) ?_
      refine lv_goto (tgt := 56) hx hb dX1_addGood_52 (by decide) ?_
      refine q_wcallI (r := bI (decide (0 < 2))) (w' := (mW h ad cI cJ cZ td gc ex pa di qu dc dg da dh dt dv dd ds ak se pr 2)) (va_runV (As := [.int (nI 2)]) (rest := []) ⟨hx, hb, hml, hown, hts⟩ (kX1_fails l D h ad cI cJ cZ td gc ex pa di qu dc dg da dh dt dv dd ds ak se pr th _ 2 (by decide)) (cwV 1 hts gX1_addGood_X1_fails rfl rfl rfl (by decide +kernel) ⟨Nat.le_of_ble_eq_true rfl, Nat.le_of_ble_eq_true rfl⟩) ⟨wP_blind, va_recv hK hP (ci := 1) (q0 := 0) rfl rfl, wP_pre hP hK hD⟩ rfl rfl hl.1 rfl (lv_room (Nat.le_of_ble_eq_true rfl)) dX1_addGood_56 ⟨Nat.zero_le _, Nat.zero_le _⟩) hD hS hA rfl (fun H locs hP hD hS => ?_)
      refine q_ifB_eq (b := decide (0 < 2)) (tgt := 64) hx hb dX1_addGood_59 (by decide) (fun k59 => absurd k59 (by decide)) (fun k59 => ?_)
      refine lv_iconst (v := nI 0) hx hb dX1_addGood_62 (by decide) ?_
      exact q_wretI hx hb hr hlocks hAe hP hS (rfl) dX1_addGood_63

set_option maxHeartbeats 4000000 in
set_option maxRecDepth 100000 in
theorem kX1_addGood1 (l : Launch) (D : va_G) (h : Nat) (ad : Nat → Nat) (cI cJ cZ : ClassId) (td : Nat) (gc : Nat) (ex : Nat → Bool) (pa : Nat → Option Nat) (di : Nat → Nat) (qu : Nat → Nat) (dc : Nat) (dg : Nat → Nat) (da : Nat → Nat) (dh : Nat → Option Nat) (dt : Nat → Option Nat) (dv : Nat → Option Nat) (dd : Nat → Nat) (ds : Nat → Nat) (ak : Nat → Bool) (se : Nat → Option Nat) (pr : Nat → Option Nat) (th : Nat) (sz : Nat) (g : Int32) (hgc : gc ≤ 16) (hxg : ∀ j, j < 16 → ex j = true → j < gc) (hg : gBad ex g) (hne : g ≠ -1) : Met l yX1_addGood wsX1_addGood ({ frames := 2, cells := 0, slots := 0, locals := 43 } : Room) (wP D (mW h ad cI cJ cZ td gc ex pa di qu dc dg da dh dt dv dd ds ak se pr th) (mT cI cJ cZ) [.ref h, .int g] sz) (wQ D (mW h ad cI cJ cZ td gc ex pa di qu dc dg da dh dt dv dd ds ak se pr th) (mW h ad cI cJ cZ td gc ex pa di qu dc dg da dh dt dv dd ds ak se pr 1) (some (.int (nI 0)))) 0 0 (va_A (mW h ad cI cJ cZ td gc ex pa di qu dc dg da dh dt dv dd ds ak se pr th) sz) := by
  refine Met.ofW (cc := cX1_addGood) (maxL := 3) (ret := (some .int)) (by decide) rfl ?_
  intro p e s m args below meth c s₁ B hml hv
  obtain ⟨rfl, hsz, hP, hK, hD0⟩ := hv
  have hx := B.exec
  have hb := B.bytes
  have hr := B.returns
  have hts := atoms_spec (ws := wsX1_addGood) B.pre
  have hown : s.vm.findClass RX1 = some m.cls := findClass_of_methodNamed B.named
  have hlocks := B.notSynchronized
  subst hsz
  have hD := hD0.self (sz := s.heap.size)
  generalize hAe : va_A (mW h ad cI cJ cZ td gc ex pa di qu dc dg da dh dt dv dd ds ak se pr th) s.heap.size = A at hD ⊢
  have hA : ∀ q : Nat, s.heap.size ≤ q → A q := fun q h => by rw [← hAe]; exact Or.inr h
  have hS : va_S A s.heap s.heap [] := va_S.rf
  have hl := lv_entry ([.ref h, .int g]) (n := 3) (Nat.le_of_ble_eq_true rfl)
  rw [lg_entry_eq]
  generalize (lg_sl ([.ref h, .int g]) ++ List.replicate (3 - (lg_sl ([.ref h, .int g])).length) Slot.unset).toArray = ls at hl ⊢
  have hl : lv_has ls 3 [(0, .ref h), (1, .int g)] := hl
  refine lv_iload_n hx hb dX1_addGood_0 rfl (lv_at hl 1 rfl) ?_
  refine lv_iconst (v := oI none) hx hb dX1_addGood_1 (by decide) ?_
  refine lv_icmp_eq (tgt := 13) hx hb dX1_addGood_2 (by decide) (fun k2 => absurd k2 hne) (fun k2 => ?_)
  rcases gBad_c hg with hg | ⟨j, hj, rfl, he⟩
  · refine lv_aload_n hx hb dX1_addGood_5 rfl (lv_at hl 0 rfl) ?_
    refine lv_iload_n hx hb dX1_addGood_6 rfl (lv_at hl 1 rfl) ?_
    refine q_callI (r := bI false) (va_runV (As := [.int g]) (rest := []) ⟨hx, hb, hml, hown, hts⟩ (kX1_isGoodR l D h ad cI cJ cZ td gc ex pa di qu dc dg da dh dt dv dd ds ak se pr th g hgc hg) (cwV 1 hts gX1_addGood_X1_isGood rfl rfl rfl (by decide +kernel) ⟨Nat.le_of_ble_eq_true rfl, Nat.le_of_ble_eq_true rfl⟩) ⟨pP_blind, va_recv hK hP (ci := 1) (q0 := 0) rfl rfl, pP_pre hP hK⟩ rfl rfl hl.1 rfl (lv_room (Nat.le_of_ble_eq_true rfl)) dX1_addGood_7 ⟨Nat.zero_le _, Nat.zero_le _⟩) ?_
    refine q_ifB_eq (b := false) (tgt := 17) hx hb dX1_addGood_10 (by decide) (fun k10 => ?_) (fun k10 => absurd k10 (by decide))
    refine lv_iconst (v := nI 0) hx hb dX1_addGood_17 (by decide) ?_
    refine q_top (y := bI false) ((by decide : nI 0 = bI false)) ?_
    refine lv_istore_n (lv' := [(2, .int (bI false)), (0, .ref h), (1, .int g)]) hx hb dX1_addGood_18 rfl hl (by decide) rfl (fun ls hl => ?_)
    refine lv_aload_n hx hb dX1_addGood_19 rfl (lv_at hl 1 rfl) ?_
    refine lv_iload_n hx hb dX1_addGood_20 rfl (lv_at hl 0 rfl) ?_
    refine q_ifB_ne (b := false) (tgt := 28) hx hb dX1_addGood_21 (by decide) (fun k21 => absurd k21 (by decide)) (fun k21 => ?_)
    refine lv_iconst (v := nI 1) hx hb dX1_addGood_24 (by decide) ?_
    refine lv_goto (tgt := 56) hx hb dX1_addGood_25 (by decide) ?_
    refine q_wcallI (r := bI (decide (0 < 1))) (w' := (mW h ad cI cJ cZ td gc ex pa di qu dc dg da dh dt dv dd ds ak se pr 1)) (va_runV (As := [.int (nI 1)]) (rest := []) ⟨hx, hb, hml, hown, hts⟩ (kX1_fails l D h ad cI cJ cZ td gc ex pa di qu dc dg da dh dt dv dd ds ak se pr th _ 1 (by decide)) (cwV 1 hts gX1_addGood_X1_fails rfl rfl rfl (by decide +kernel) ⟨Nat.le_of_ble_eq_true rfl, Nat.le_of_ble_eq_true rfl⟩) ⟨wP_blind, va_recv hK hP (ci := 1) (q0 := 0) rfl rfl, wP_pre hP hK hD⟩ rfl rfl hl.1 rfl (lv_room (Nat.le_of_ble_eq_true rfl)) dX1_addGood_56 ⟨Nat.zero_le _, Nat.zero_le _⟩) hD hS hA rfl (fun H locs hP hD hS => ?_)
    refine q_ifB_eq (b := decide (0 < 1)) (tgt := 64) hx hb dX1_addGood_59 (by decide) (fun k59 => absurd k59 (by decide)) (fun k59 => ?_)
    refine lv_iconst (v := nI 0) hx hb dX1_addGood_62 (by decide) ?_
    exact q_wretI hx hb hr hlocks hAe hP hS (rfl) dX1_addGood_63
  · refine lv_aload_n hx hb dX1_addGood_5 rfl (lv_at hl 0 rfl) ?_
    refine lv_iload_n hx hb dX1_addGood_6 rfl (lv_at hl 1 rfl) ?_
    refine q_callI (r := bI (ex j)) (va_runV (As := [.int (nI j)]) (rest := []) ⟨hx, hb, hml, hown, hts⟩ (kX1_isGoodN l D h ad cI cJ cZ td gc ex pa di qu dc dg da dh dt dv dd ds ak se pr th j hj hgc hxg) (cwV 1 hts gX1_addGood_X1_isGood rfl rfl rfl (by decide +kernel) ⟨Nat.le_of_ble_eq_true rfl, Nat.le_of_ble_eq_true rfl⟩) ⟨pP_blind, va_recv hK hP (ci := 1) (q0 := 0) rfl rfl, pP_pre hP hK⟩ rfl rfl hl.1 rfl (lv_room (Nat.le_of_ble_eq_true rfl)) dX1_addGood_7 ⟨Nat.zero_le _, Nat.zero_le _⟩) ?_
    refine q_ifB_eq (b := ex j) (tgt := 17) hx hb dX1_addGood_10 (by decide) (fun k10 => ?_) (fun k10 => absurd k10 (by rw [he]; decide))
    refine lv_iconst (v := nI 0) hx hb dX1_addGood_17 (by decide) ?_
    refine q_top (y := bI false) ((by decide : nI 0 = bI false)) ?_
    refine lv_istore_n (lv' := [(2, .int (bI false)), (0, .ref h), (1, .int (nI j))]) hx hb dX1_addGood_18 rfl hl (by decide) rfl (fun ls hl => ?_)
    refine lv_aload_n hx hb dX1_addGood_19 rfl (lv_at hl 1 rfl) ?_
    refine lv_iload_n hx hb dX1_addGood_20 rfl (lv_at hl 0 rfl) ?_
    refine q_ifB_ne (b := false) (tgt := 28) hx hb dX1_addGood_21 (by decide) (fun k21 => absurd k21 (by decide)) (fun k21 => ?_)
    refine lv_iconst (v := nI 1) hx hb dX1_addGood_24 (by decide) ?_
    refine lv_goto (tgt := 56) hx hb dX1_addGood_25 (by decide) ?_
    refine q_wcallI (r := bI (decide (0 < 1))) (w' := (mW h ad cI cJ cZ td gc ex pa di qu dc dg da dh dt dv dd ds ak se pr 1)) (va_runV (As := [.int (nI 1)]) (rest := []) ⟨hx, hb, hml, hown, hts⟩ (kX1_fails l D h ad cI cJ cZ td gc ex pa di qu dc dg da dh dt dv dd ds ak se pr th _ 1 (by decide)) (cwV 1 hts gX1_addGood_X1_fails rfl rfl rfl (by decide +kernel) ⟨Nat.le_of_ble_eq_true rfl, Nat.le_of_ble_eq_true rfl⟩) ⟨wP_blind, va_recv hK hP (ci := 1) (q0 := 0) rfl rfl, wP_pre hP hK hD⟩ rfl rfl hl.1 rfl (lv_room (Nat.le_of_ble_eq_true rfl)) dX1_addGood_56 ⟨Nat.zero_le _, Nat.zero_le _⟩) hD hS hA rfl (fun H locs hP hD hS => ?_)
    refine q_ifB_eq (b := decide (0 < 1)) (tgt := 64) hx hb dX1_addGood_59 (by decide) (fun k59 => absurd k59 (by decide)) (fun k59 => ?_)
    refine lv_iconst (v := nI 0) hx hb dX1_addGood_62 (by decide) ?_
    exact q_wretI hx hb hr hlocks hAe hP hS (rfl) dX1_addGood_63

set_option maxHeartbeats 4000000 in
set_option maxRecDepth 100000 in
theorem kX1_move (l : Launch) (D : va_G) (h : Nat) (ad : Nat → Nat) (cI cJ cZ : ClassId) (td : Nat) (gc : Nat) (ex : Nat → Bool) (pa : Nat → Option Nat) (di : Nat → Nat) (qu : Nat → Nat) (dc : Nat) (dg : Nat → Nat) (da : Nat → Nat) (dh : Nat → Option Nat) (dt : Nat → Option Nat) (dv : Nat → Option Nat) (dd : Nat → Nat) (ds : Nat → Nat) (ak : Nat → Bool) (se : Nat → Option Nat) (pr : Nat → Option Nat) (th : Nat) (sz : Nat) (g : Nat) (o : Option Nat) (lev : Nat → Nat) (hti : TI ex pa lev) (hg : g < 16) (he : ex g = true) (ho2 : okO ex o) (hgc : gc ≤ 16) (hxg : ∀ j, j < 16 → ex j = true → j < gc) (hpr : PR pa) (hw : wth ex pa g 3 o = false) (hbd : ∀ k, k < gc → bdf ex pa lev g (match o with | none => 0 | some q => lev q + 1) k = false) : Met l yX1_move wsX1_move ({ frames := 2, cells := 0, slots := 0, locals := 43 } : Room) (wP D (mW h ad cI cJ cZ td gc ex pa di qu dc dg da dh dt dv dd ds ak se pr th) (mT cI cJ cZ) [.ref h, .int (nI g), .int (oI o)] sz) (wQ D (mW h ad cI cJ cZ td gc ex pa di qu dc dg da dh dt dv dd ds ak se pr th) (mW h ad cI cJ cZ td gc ex (va_up pa g o) di qu dc dg da dh dt dv dd ds ak se pr 0) (some (.int (oI (pa g))))) 0 0 (va_A (mW h ad cI cJ cZ td gc ex pa di qu dc dg da dh dt dv dd ds ak se pr th) sz) := by
  refine Met.ofW (cc := cX1_move) (maxL := 7) (ret := (some .int)) (by decide) rfl ?_
  intro p e s m args below meth c s₁ B hml hv
  obtain ⟨rfl, hsz, hP, hK, hD0⟩ := hv
  have hx := B.exec
  have hb := B.bytes
  have hr := B.returns
  have hts := atoms_spec (ws := wsX1_move) B.pre
  have hown : s.vm.findClass RX1 = some m.cls := findClass_of_methodNamed B.named
  have hlocks := B.notSynchronized
  subst hsz
  have hD := hD0.self (sz := s.heap.size)
  generalize hAe : va_A (mW h ad cI cJ cZ td gc ex pa di qu dc dg da dh dt dv dd ds ak se pr th) s.heap.size = A at hD ⊢
  have hA : ∀ q : Nat, s.heap.size ≤ q → A q := fun q h => by rw [← hAe]; exact Or.inr h
  have hS : va_S A s.heap s.heap [] := va_S.rf
  have hl := lv_entry ([.ref h, .int (nI g), .int (oI o)]) (n := 7) (Nat.le_of_ble_eq_true rfl)
  rw [lg_entry_eq]
  generalize (lg_sl ([.ref h, .int (nI g), .int (oI o)]) ++ List.replicate (7 - (lg_sl ([.ref h, .int (nI g), .int (oI o)])).length) Slot.unset).toArray = ls at hl ⊢
  have hl : lv_has ls 7 [(0, .ref h), (1, .int (nI g)), (2, .int (oI o))] := hl
  have hL1 := lvZ_ge lev o
  have hL2 := lvZ_le hti ho2
  have hM2 := TI_le hti hg he
  refine lv_aload_n hx hb dX1_move_0 rfl (lv_at hl 0 rfl) ?_
  refine lv_iload_n hx hb dX1_move_1 rfl (lv_at hl 1 rfl) ?_
  refine q_callI (r := bI (ex g)) (va_runV (As := [.int (nI g)]) (rest := []) ⟨hx, hb, hml, hown, hts⟩ (kX1_isGoodN l D h ad cI cJ cZ td gc ex pa di qu dc dg da dh dt dv dd ds ak se pr th g hg hgc hxg) (cwV 1 hts gX1_move_X1_isGood rfl rfl rfl (by decide +kernel) ⟨Nat.le_of_ble_eq_true rfl, Nat.le_of_ble_eq_true rfl⟩) ⟨pP_blind, va_recv hK hP (ci := 1) (q0 := 0) rfl rfl, pP_pre hP hK⟩ rfl rfl hl.1 rfl (lv_room (Nat.le_of_ble_eq_true rfl)) dX1_move_2 ⟨Nat.zero_le _, Nat.zero_le _⟩) ?_
  refine q_ifB_eq (b := ex g) (tgt := 25) hx hb dX1_move_5 (by decide) (fun k5 => absurd k5 (by rw [he]; decide)) (fun k5 => ?_)
  cases o with
  | none =>
    have hbf : ∀ i, i ≤ gc → exU (bdf ex pa lev g 0) i = false := fun i hi => exU_no.mpr (fun k hk => hbd k (by omega))
    refine lv_iload_n hx hb dX1_move_8 rfl (lv_at hl 2 rfl) ?_
    refine lv_iconst (v := oI none) hx hb dX1_move_9 (by decide) ?_
    refine q_icmpO_eq (a := none) (b := none) (tgt := 21) (fun k h9 => by cases h9) (fun k h9 => by cases h9) hx hb dX1_move_10 (by decide) (fun k10 => ?_) (fun k10 => absurd rfl k10)
    refine lv_iconst (v := nI 1) hx hb dX1_move_21 (by decide) ?_
    refine lv_goto (tgt := 26) hx hb dX1_move_22 (by decide) ?_
    refine q_top (y := bI true) ((by decide : nI 1 = bI true)) ?_
    refine lv_istore_n (lv' := [(3, .int (bI true)), (0, .ref h), (1, .int (nI g)), (2, .int (oI none))]) hx hb dX1_move_26 rfl hl (by decide) rfl (fun ls hl => ?_)
    refine lv_iload_n hx hb dX1_move_27 rfl (lv_at hl 0 rfl) ?_
    refine q_ifB_eq (b := true) (tgt := 49) hx hb dX1_move_28 (by decide) (fun k28 => absurd k28 (by decide)) (fun k28 => ?_)
    refine lv_iload_n hx hb dX1_move_31 rfl (lv_at hl 3 rfl) ?_
    refine lv_iconst (v := oI none) hx hb dX1_move_32 (by decide) ?_
    refine q_icmpO_eq (a := none) (b := none) (tgt := 45) (fun k h9 => by cases h9) (fun k h9 => by cases h9) hx hb dX1_move_33 (by decide) (fun k33 => ?_) (fun k33 => absurd rfl k33)
    refine lv_iconst (v := nI 1) hx hb dX1_move_45 (by decide) ?_
    refine lv_goto (tgt := 50) hx hb dX1_move_46 (by decide) ?_
    refine q_top (y := bI true) ((by decide : nI 1 = bI true)) ?_
    refine lv_istore (lv' := [(4, .int (bI true)), (3, .int (bI true)), (0, .ref h), (1, .int (nI g)), (2, .int (oI none))]) hx hb dX1_move_50 hl (by decide) rfl (fun ls hl => ?_)
    refine lv_iload hx hb dX1_move_52 (lv_at hl 0 rfl) ?_
    refine q_ifB_eq (b := true) (tgt := 72) hx hb dX1_move_54 (by decide) (fun k54 => absurd k54 (by decide)) (fun k54 => ?_)
    refine lv_iload_n hx hb dX1_move_57 rfl (lv_at hl 4 rfl) ?_
    refine lv_iconst (v := oI none) hx hb dX1_move_58 (by decide) ?_
    refine q_icmpO_eq (a := none) (b := none) (tgt := 72) (fun k h9 => by cases h9) (fun k h9 => by cases h9) hx hb dX1_move_59 (by decide) (fun k59 => ?_) (fun k59 => absurd rfl k59)
    refine lv_iconst (v := nI 0) hx hb dX1_move_72 (by decide) ?_
    refine lv_istore (lv' := [(5, .int (nI 0)), (4, .int (bI true)), (3, .int (bI true)), (0, .ref h), (1, .int (nI g)), (2, .int (oI none))]) hx hb dX1_move_73 hl (by decide) rfl (fun ls hl => ?_)
    refine lv_iconst (v := nI 0) hx hb dX1_move_75 (by decide) ?_
    refine lv_istore (lv' := [(6, .int (nI 0)), (5, .int (nI 0)), (4, .int (bI true)), (3, .int (bI true)), (0, .ref h), (1, .int (nI g)), (2, .int (oI none))]) hx hb dX1_move_76 hl (by decide) rfl (fun ls hl => ?_)
    have loop78 : ∀ (n : Nat) (i : Nat) (b : Bool), (i ≤ gc) → (gc + 1 ≤ i + n) → (b = !exU (bdf ex pa lev g 0) i) → ∀ (H : Heap) (locs : List Loc), va_P D vwCl (mW h ad cI cJ cZ td gc ex pa di qu dc dg da dh dt dv dd ds ak se pr th) H → va_D A (mW h ad cI cJ cZ td gc ex pa di qu dc dg da dh dt dv dd ds ak se pr th) → va_S A s.heap H locs → ∀ ls : Array Slot, lv_has ls 7 [(0, .ref h), (1, .int (nI g)), (2, .int (oI none)), (3, .int (bI true)), (4, .int (bI b)), (5, .int (nI 0)), (6, .int (nI i))] → W p l e ({ frames := 2, cells := 0, slots := 0, locals := 43 } : Room) s m ([.ref h, .int (nI g), .int (oI none)] : List Value).toArray below meth c H locs 0 0 (MQ below (wQ D (mW h ad cI cJ cZ td gc ex pa di qu dc dg da dh dt dv dd ds ak se pr th) (mW h ad cI cJ cZ td gc ex (va_up pa g none) di qu dc dg da dh dt dv dd ds ak se pr 0) (some (.int (oI (pa g))))) ([.ref h, .int (nI g), .int (oI none)] : List Value).toArray s 0 0 A) (F0 m 78 ls []) := by
      intro n
      induction n with
      | zero => intro i b hle hn hc; omega
      | succ n ih =>
        intro i b hle hn hc H locs hP hD hS ls hl
        have hA7 : i < gc → i < 16 := fun h9 => by omega
        refine lv_iload hx hb dX1_move_78 (lv_at hl 6 rfl) ?_
        refine lv_aload_n hx hb dX1_move_80 rfl (lv_at hl 0 rfl) ?_
        refine va_get (D := D) (ci := 1) (v := .int (nI gc)) (C := RX1) (T := TX1) (N := 18) hx hb hts (iX1_move) hown hK hP 0 rfl rfl 1 (by decide) (hts (.fieldLink RX1 58 "ShopHubModel" "goods" "I") (by decide +kernel)) (fun _ h9 => h9) rfl dX1_move_81 ?_
        refine q_icmpN_ge (a := i) (b := gc) (tgt := 144) (by omega) (by omega) hx hb dX1_move_84 (by decide) (fun k84 => ?_) (fun k84 => ?_)
        · refine lv_aload_n hx hb dX1_move_144 rfl (lv_at hl 0 rfl) ?_
          refine lv_iload_n hx hb dX1_move_145 rfl (lv_at hl 3 rfl) ?_
          refine q_ifB_ne (b := true) (tgt := 153) hx hb dX1_move_146 (by decide) (fun k146 => ?_) (fun k146 => absurd k146 (by decide))
          refine lv_iload hx hb dX1_move_153 (lv_at hl 4 rfl) ?_
          refine q_ifB_eq (b := b) (tgt := 162) hx hb dX1_move_155 (by decide) (fun k155 => absurd k155 (by rw [hc, hbf i (by omega)]; decide)) (fun k155 => ?_)
          refine lv_iconst (v := nI 0) hx hb dX1_move_158 (by decide) ?_
          refine lv_goto (tgt := 163) hx hb dX1_move_159 (by decide) ?_
          refine q_wcallI (r := bI (decide (0 < 0))) (w' := (mW h ad cI cJ cZ td gc ex pa di qu dc dg da dh dt dv dd ds ak se pr 0)) (va_runV (As := [.int (nI 0)]) (rest := []) ⟨hx, hb, hml, hown, hts⟩ (kX1_fails l D h ad cI cJ cZ td gc ex pa di qu dc dg da dh dt dv dd ds ak se pr th _ 0 (by decide)) (cwV 1 hts gX1_move_X1_fails rfl rfl rfl (by decide +kernel) ⟨Nat.le_of_ble_eq_true rfl, Nat.le_of_ble_eq_true rfl⟩) ⟨wP_blind, va_recv hK hP (ci := 1) (q0 := 0) rfl rfl, wP_pre hP hK hD⟩ rfl rfl hl.1 rfl (lv_room (Nat.le_of_ble_eq_true rfl)) dX1_move_163 ⟨Nat.zero_le _, Nat.zero_le _⟩) hD hS hA rfl (fun H locs hP hD hS => ?_)
          refine q_ifB_eq (b := decide (0 < 0)) (tgt := 171) hx hb dX1_move_166 (by decide) (fun k166 => ?_) (fun k166 => absurd k166 (by decide))
          refine lv_aload_n hx hb dX1_move_171 rfl (lv_at hl 0 rfl) ?_
          refine va_get (D := D) (ci := 1) (v := .ref (ad 3)) (C := RX1) (T := TX1) (N := 18) hx hb hts (iX1_move) hown hK hP 0 rfl rfl 3 (by decide) (hts (.fieldLink RX1 13 "ShopHubModel" "parent" "[I") (by decide +kernel)) (fun _ h9 => h9) rfl dX1_move_172 ?_
          refine lv_iload_n hx hb dX1_move_175 rfl (lv_at hl 1 rfl) ?_
          refine q_ald oI pa hx hb hK hP 2 1 rfl rfl (k := g) (by omega) (Nat.le_of_ble_eq_true rfl) dX1_move_176 ?_
          refine lv_istore (lv' := [(6, .int (oI (pa g))), (0, .ref h), (1, .int (nI g)), (2, .int (oI none)), (3, .int (bI true)), (4, .int (bI b)), (5, .int (nI 0))]) hx hb dX1_move_177 hl (by decide) rfl (fun ls hl => ?_)
          refine lv_aload_n hx hb dX1_move_179 rfl (lv_at hl 1 rfl) ?_
          refine va_get (D := D) (ci := 1) (v := .ref (ad 3)) (C := RX1) (T := TX1) (N := 18) hx hb hts (iX1_move) hown hK hP 0 rfl rfl 3 (by decide) (hts (.fieldLink RX1 13 "ShopHubModel" "parent" "[I") (by decide +kernel)) (fun _ h9 => h9) rfl dX1_move_180 ?_
          refine lv_iload_n hx hb dX1_move_183 rfl (lv_at hl 2 rfl) ?_
          refine lv_iload_n hx hb dX1_move_184 rfl (lv_at hl 3 rfl) ?_
          refine q_ast oI pa none hx hb hK hP hD hS 2 1 rfl rfl (k := g) (by omega) (Nat.le_of_ble_eq_true rfl) dX1_move_185 (fun H locs hP hD hS => ?_)
          have hP : va_P D vwCl (mW h ad cI cJ cZ td gc ex (va_up pa g none) di qu dc dg da dh dt dv dd ds ak se pr 0) H := hP
          have hD : va_D A (mW h ad cI cJ cZ td gc ex (va_up pa g none) di qu dc dg da dh dt dv dd ds ak se pr 0) := hD
          refine lv_iload hx hb dX1_move_186 (lv_at hl 0 rfl) ?_
          exact q_wretI hx hb hr hlocks hAe hP hS (rfl) dX1_move_188
        · refine lv_iload hx hb dX1_move_87 (lv_at hl 4 rfl) ?_
          refine q_ifB_eq (b := b) (tgt := 144) hx hb dX1_move_89 (by decide) (fun k89 => absurd k89 (by rw [hc, hbf i (by omega)]; decide)) (fun k89 => ?_)
          refine lv_aload_n hx hb dX1_move_92 rfl (lv_at hl 0 rfl) ?_
          refine va_get (D := D) (ci := 1) (v := .ref (ad 2)) (C := RX1) (T := TX1) (N := 18) hx hb hts (iX1_move) hown hK hP 0 rfl rfl 2 (by decide) (hts (.fieldLink RX1 7 "ShopHubModel" "isThere" "[Z") (by decide +kernel)) (fun _ h9 => h9) rfl dX1_move_93 ?_
          refine lv_iload hx hb dX1_move_96 (lv_at hl 6 rfl) ?_
          refine q_zld ex hx hb hK hP 1 0 rfl rfl (k := i) (by omega) (Nat.le_of_ble_eq_true rfl) dX1_move_98 ?_
          refine q_ifB_eq (b := ex i) (tgt := 131) hx hb dX1_move_99 (by decide) (fun k99 => ?_) (fun k99 => ?_)
          · refine lv_iconst (v := nI 1) hx hb dX1_move_131 (by decide) ?_
            refine lv_goto (tgt := 136) hx hb dX1_move_132 (by decide) ?_
            refine q_top (y := bI true) ((by decide : nI 1 = bI true)) ?_
            refine lv_istore (lv' := [(4, .int (bI true)), (0, .ref h), (1, .int (nI g)), (2, .int (oI none)), (3, .int (bI true)), (5, .int (nI 0)), (6, .int (nI i))]) hx hb dX1_move_136 hl (by decide) rfl (fun ls hl => ?_)
            refine lv_iinc (v := nI (i + 1)) (lv' := [(6, .int (nI (i + 1))), (4, .int (bI true)), (0, .ref h), (1, .int (nI g)), (2, .int (oI none)), (3, .int (bI true)), (5, .int (nI 0))]) hx hb dX1_move_138 hl (k := 6) rfl (i1_n i) (by decide) rfl (fun ls hl => ?_)
            refine lv_goto (tgt := 78) hx hb dX1_move_141 (by decide) ?_
            exact ih (i + 1) true (by omega) (by omega) (by rw [not_s (f := bdf ex pa lev g 0) (show bdf ex pa lev g 0 i = false by unfold bdf; rw [k99, Bool.false_and]), ← hc, k89]) _ _ hP hD hS _ (lv_sub hl [2, 3, 4, 5, 1, 6, 0] rfl)
          · have hLi := TI_le hti (hA7 (by omega)) k99
            refine lv_aload_n hx hb dX1_move_102 rfl (lv_at hl 0 rfl) ?_
            refine lv_iload hx hb dX1_move_103 (lv_at hl 6 rfl) ?_
            refine lv_iload_n hx hb dX1_move_105 rfl (lv_at hl 1 rfl) ?_
            refine q_callI (r := bI (wth ex pa g 3 (some i))) (va_runV (As := [.int (nI i), .int (nI g)]) (rest := []) ⟨hx, hb, hml, hown, hts⟩ (kX1_isBelow l D h ad cI cJ cZ td gc ex pa di qu dc dg da dh dt dv dd ds ak se pr th i g lev hti (by omega) k99 hg) (cwV 2 hts gX1_move_X1_isBelow rfl rfl rfl (by decide +kernel) ⟨Nat.le_of_ble_eq_true rfl, Nat.le_of_ble_eq_true rfl⟩) ⟨pP_blind, va_recv hK hP (ci := 1) (q0 := 0) rfl rfl, pP_pre hP hK⟩ rfl rfl hl.1 rfl (lv_room (Nat.le_of_ble_eq_true rfl)) dX1_move_106 ⟨Nat.zero_le _, Nat.zero_le _⟩) ?_
            refine q_ifB_eq (b := wth ex pa g 3 (some i)) (tgt := 131) hx hb dX1_move_109 (by decide) (fun k109 => ?_) (fun k109 => ?_)
            · refine lv_iconst (v := nI 1) hx hb dX1_move_131 (by decide) ?_
              refine lv_goto (tgt := 136) hx hb dX1_move_132 (by decide) ?_
              refine q_top (y := bI true) ((by decide : nI 1 = bI true)) ?_
              refine lv_istore (lv' := [(4, .int (bI true)), (0, .ref h), (1, .int (nI g)), (2, .int (oI none)), (3, .int (bI true)), (5, .int (nI 0)), (6, .int (nI i))]) hx hb dX1_move_136 hl (by decide) rfl (fun ls hl => ?_)
              refine lv_iinc (v := nI (i + 1)) (lv' := [(6, .int (nI (i + 1))), (4, .int (bI true)), (0, .ref h), (1, .int (nI g)), (2, .int (oI none)), (3, .int (bI true)), (5, .int (nI 0))]) hx hb dX1_move_138 hl (k := 6) rfl (i1_n i) (by decide) rfl (fun ls hl => ?_)
              refine lv_goto (tgt := 78) hx hb dX1_move_141 (by decide) ?_
              exact ih (i + 1) true (by omega) (by omega) (by rw [not_s (f := bdf ex pa lev g 0) (show bdf ex pa lev g 0 i = false by unfold bdf; rw [k109, Bool.false_and, Bool.and_false]), ← hc, k89]) _ _ hP hD hS _ (lv_sub hl [2, 3, 4, 5, 1, 6, 0] rfl)
            · refine lv_aload_n hx hb dX1_move_112 rfl (lv_at hl 0 rfl) ?_
              refine lv_iload hx hb dX1_move_113 (lv_at hl 6 rfl) ?_
              refine q_callI (r := nI (lev i)) (va_runV (As := [.int (nI i)]) (rest := []) ⟨hx, hb, hml, hown, hts⟩ (kX1_level l D h ad cI cJ cZ td gc ex pa di qu dc dg da dh dt dv dd ds ak se pr th i lev hti (by omega) k99) (cwV 1 hts gX1_move_X1_level rfl rfl rfl (by decide +kernel) ⟨Nat.le_of_ble_eq_true rfl, Nat.le_of_ble_eq_true rfl⟩) ⟨pP_blind, va_recv hK hP (ci := 1) (q0 := 0) rfl rfl, pP_pre hP hK⟩ rfl rfl hl.1 rfl (lv_room (Nat.le_of_ble_eq_true rfl)) dX1_move_115 ⟨Nat.zero_le _, Nat.zero_le _⟩) ?_
              refine lv_aload_n hx hb dX1_move_118 rfl (lv_at hl 0 rfl) ?_
              refine lv_iload_n hx hb dX1_move_119 rfl (lv_at hl 1 rfl) ?_
              refine q_callI (r := nI (lev g)) (va_runV (As := [.int (nI g)]) (rest := [.int (nI (lev i))]) ⟨hx, hb, hml, hown, hts⟩ (kX1_level l D h ad cI cJ cZ td gc ex pa di qu dc dg da dh dt dv dd ds ak se pr th g lev hti hg he) (cwV 1 hts gX1_move_X1_level rfl rfl rfl (by decide +kernel) ⟨Nat.le_of_ble_eq_true rfl, Nat.le_of_ble_eq_true rfl⟩) ⟨pP_blind, va_recv hK hP (ci := 1) (q0 := 0) rfl rfl, pP_pre hP hK⟩ rfl rfl hl.1 rfl (lv_room (Nat.le_of_ble_eq_true rfl)) dX1_move_120 ⟨Nat.zero_le _, Nat.zero_le _⟩) ?_
              refine q_top (y := zI ((lev g : Nat) : Int)) (nz (lev g)) ?_
              refine q_top2 (y := zI ((lev i : Nat) : Int)) (nz (lev i)) ?_
              refine q_subZ (a := ((lev i : Nat) : Int)) (b := ((lev g : Nat) : Int)) hx hb dX1_move_123 ?_
              refine lv_iload hx hb dX1_move_124 (lv_at hl 5 rfl) ?_
              refine q_top (y := zI ((0 : Nat) : Int)) (nz 0) ?_
              refine q_addZ (a := ((lev i : Nat) : Int) - ((lev g : Nat) : Int)) (b := ((0 : Nat) : Int)) hx hb dX1_move_126 ?_
              refine lv_iconst (v := nI 3) hx hb dX1_move_127 (by decide) ?_
              refine q_top (y := zI ((3 : Nat) : Int)) (nz 3) ?_
              refine q_icmpZ_ge (a := (((lev i : Nat) : Int) - ((lev g : Nat) : Int)) + ((0 : Nat) : Int)) (b := ((3 : Nat) : Int)) (tgt := 135) (by omega) (by omega) hx hb dX1_move_128 (by decide) (fun k128 => ?_) (fun k128 => ?_)
              · refine lv_iconst (v := nI 0) hx hb dX1_move_135 (by decide) ?_
                refine q_top (y := bI false) ((by decide : nI 0 = bI false)) ?_
                refine lv_istore (lv' := [(4, .int (bI false)), (0, .ref h), (1, .int (nI g)), (2, .int (oI none)), (3, .int (bI true)), (5, .int (nI 0)), (6, .int (nI i))]) hx hb dX1_move_136 hl (by decide) rfl (fun ls hl => ?_)
                refine lv_iinc (v := nI (i + 1)) (lv' := [(6, .int (nI (i + 1))), (4, .int (bI false)), (0, .ref h), (1, .int (nI g)), (2, .int (oI none)), (3, .int (bI true)), (5, .int (nI 0))]) hx hb dX1_move_138 hl (k := 6) rfl (i1_n i) (by decide) rfl (fun ls hl => ?_)
                refine lv_goto (tgt := 78) hx hb dX1_move_141 (by decide) ?_
                exact ih (i + 1) false (by omega) (by omega) ((not_t (f := bdf ex pa lev g 0) (show bdf ex pa lev g 0 i = true by unfold bdf; rw [k99, k109, decide_eq_true (by omega)]; rfl)).symm) _ _ hP hD hS _ (lv_sub hl [2, 3, 4, 5, 1, 6, 0] rfl)
              · refine lv_iconst (v := nI 1) hx hb dX1_move_131 (by decide) ?_
                refine lv_goto (tgt := 136) hx hb dX1_move_132 (by decide) ?_
                refine q_top (y := bI true) ((by decide : nI 1 = bI true)) ?_
                refine lv_istore (lv' := [(4, .int (bI true)), (0, .ref h), (1, .int (nI g)), (2, .int (oI none)), (3, .int (bI true)), (5, .int (nI 0)), (6, .int (nI i))]) hx hb dX1_move_136 hl (by decide) rfl (fun ls hl => ?_)
                refine lv_iinc (v := nI (i + 1)) (lv' := [(6, .int (nI (i + 1))), (4, .int (bI true)), (0, .ref h), (1, .int (nI g)), (2, .int (oI none)), (3, .int (bI true)), (5, .int (nI 0))]) hx hb dX1_move_138 hl (k := 6) rfl (i1_n i) (by decide) rfl (fun ls hl => ?_)
                refine lv_goto (tgt := 78) hx hb dX1_move_141 (by decide) ?_
                exact ih (i + 1) true (by omega) (by omega) (by rw [not_s (f := bdf ex pa lev g 0) (show bdf ex pa lev g 0 i = false by unfold bdf; rw [decide_eq_false (by omega), Bool.and_false, Bool.and_false]), ← hc, k89]) _ _ hP hD hS _ (lv_sub hl [2, 3, 4, 5, 1, 6, 0] rfl)
    exact loop78 (gc + 1) 0 true (by omega) (by omega) rfl _ _ hP hD hS _ (lv_sub hl [4, 5, 6, 3, 2, 1, 0] rfl)
  | some q =>
    obtain ⟨hq, hq2⟩ := ho2 q rfl
    have hQ2 := TI_le hti hq hq2
    have hbf : ∀ i, i ≤ gc → exU (bdf ex pa lev g (lev q + 1)) i = false := fun i hi => exU_no.mpr (fun k hk => hbd k (by omega))
    refine lv_iload_n hx hb dX1_move_8 rfl (lv_at hl 2 rfl) ?_
    refine lv_iconst (v := oI none) hx hb dX1_move_9 (by decide) ?_
    refine q_top2 (y := oI (some q)) ((rfl : nI q = oI (some q))) ?_
    refine q_icmpO_eq (a := some q) (b := none) (tgt := 21) (fun k h9 => by cases h9; omega) (fun k h9 => by cases h9) hx hb dX1_move_10 (by decide) (fun k10 => (by cases k10)) (fun k10 => ?_)
    refine lv_aload_n hx hb dX1_move_13 rfl (lv_at hl 0 rfl) ?_
    refine lv_iload_n hx hb dX1_move_14 rfl (lv_at hl 2 rfl) ?_
    refine q_callI (r := bI (ex q)) (va_runV (As := [.int (nI q)]) (rest := []) ⟨hx, hb, hml, hown, hts⟩ (kX1_isGoodN l D h ad cI cJ cZ td gc ex pa di qu dc dg da dh dt dv dd ds ak se pr th q hq hgc hxg) (cwV 1 hts gX1_move_X1_isGood rfl rfl rfl (by decide +kernel) ⟨Nat.le_of_ble_eq_true rfl, Nat.le_of_ble_eq_true rfl⟩) ⟨pP_blind, va_recv hK hP (ci := 1) (q0 := 0) rfl rfl, pP_pre hP hK⟩ rfl rfl hl.1 rfl (lv_room (Nat.le_of_ble_eq_true rfl)) dX1_move_15 ⟨Nat.zero_le _, Nat.zero_le _⟩) ?_
    refine q_ifB_eq (b := ex q) (tgt := 25) hx hb dX1_move_18 (by decide) (fun k18 => absurd k18 (by rw [hq2]; decide)) (fun k18 => ?_)
    refine lv_iconst (v := nI 1) hx hb dX1_move_21 (by decide) ?_
    refine lv_goto (tgt := 26) hx hb dX1_move_22 (by decide) ?_
    refine q_top (y := bI true) ((by decide : nI 1 = bI true)) ?_
    refine lv_istore_n (lv' := [(3, .int (bI true)), (0, .ref h), (1, .int (nI g)), (2, .int (nI q))]) hx hb dX1_move_26 rfl hl (by decide) rfl (fun ls hl => ?_)
    refine lv_iload_n hx hb dX1_move_27 rfl (lv_at hl 0 rfl) ?_
    refine q_ifB_eq (b := true) (tgt := 49) hx hb dX1_move_28 (by decide) (fun k28 => absurd k28 (by decide)) (fun k28 => ?_)
    refine lv_iload_n hx hb dX1_move_31 rfl (lv_at hl 3 rfl) ?_
    refine lv_iconst (v := oI none) hx hb dX1_move_32 (by decide) ?_
    refine q_top2 (y := oI (some q)) ((rfl : nI q = oI (some q))) ?_
    refine q_icmpO_eq (a := some q) (b := none) (tgt := 45) (fun k h9 => by cases h9; omega) (fun k h9 => by cases h9) hx hb dX1_move_33 (by decide) (fun k33 => (by cases k33)) (fun k33 => ?_)
    refine lv_aload_n hx hb dX1_move_36 rfl (lv_at hl 1 rfl) ?_
    refine lv_iload_n hx hb dX1_move_37 rfl (lv_at hl 3 rfl) ?_
    refine lv_iload_n hx hb dX1_move_38 rfl (lv_at hl 2 rfl) ?_
    refine q_callI (r := bI (wth ex pa g 3 (some q))) (va_runV (As := [.int (nI q), .int (nI g)]) (rest := []) ⟨hx, hb, hml, hown, hts⟩ (kX1_isBelow l D h ad cI cJ cZ td gc ex pa di qu dc dg da dh dt dv dd ds ak se pr th q g lev hti hq hq2 hg) (cwV 2 hts gX1_move_X1_isBelow rfl rfl rfl (by decide +kernel) ⟨Nat.le_of_ble_eq_true rfl, Nat.le_of_ble_eq_true rfl⟩) ⟨pP_blind, va_recv hK hP (ci := 1) (q0 := 0) rfl rfl, pP_pre hP hK⟩ rfl rfl hl.1 rfl (lv_room (Nat.le_of_ble_eq_true rfl)) dX1_move_39 ⟨Nat.zero_le _, Nat.zero_le _⟩) ?_
    refine q_ifB_ne (b := wth ex pa g 3 (some q)) (tgt := 49) hx hb dX1_move_42 (by decide) (fun k42 => absurd k42 (by rw [hw]; decide)) (fun k42 => ?_)
    refine lv_iconst (v := nI 1) hx hb dX1_move_45 (by decide) ?_
    refine lv_goto (tgt := 50) hx hb dX1_move_46 (by decide) ?_
    refine q_top (y := bI true) ((by decide : nI 1 = bI true)) ?_
    refine lv_istore (lv' := [(4, .int (bI true)), (3, .int (bI true)), (0, .ref h), (1, .int (nI g)), (2, .int (nI q))]) hx hb dX1_move_50 hl (by decide) rfl (fun ls hl => ?_)
    refine lv_iload hx hb dX1_move_52 (lv_at hl 0 rfl) ?_
    refine q_ifB_eq (b := true) (tgt := 72) hx hb dX1_move_54 (by decide) (fun k54 => absurd k54 (by decide)) (fun k54 => ?_)
    refine lv_iload_n hx hb dX1_move_57 rfl (lv_at hl 4 rfl) ?_
    refine lv_iconst (v := oI none) hx hb dX1_move_58 (by decide) ?_
    refine q_top2 (y := oI (some q)) ((rfl : nI q = oI (some q))) ?_
    refine q_icmpO_eq (a := some q) (b := none) (tgt := 72) (fun k h9 => by cases h9; omega) (fun k h9 => by cases h9) hx hb dX1_move_59 (by decide) (fun k59 => (by cases k59)) (fun k59 => ?_)
    refine lv_aload_n hx hb dX1_move_62 rfl (lv_at hl 2 rfl) ?_
    refine lv_iload_n hx hb dX1_move_63 rfl (lv_at hl 4 rfl) ?_
    refine q_callI (r := nI (lev q)) (va_runV (As := [.int (nI q)]) (rest := []) ⟨hx, hb, hml, hown, hts⟩ (kX1_level l D h ad cI cJ cZ td gc ex pa di qu dc dg da dh dt dv dd ds ak se pr th q lev hti hq hq2) (cwV 1 hts gX1_move_X1_level rfl rfl rfl (by decide +kernel) ⟨Nat.le_of_ble_eq_true rfl, Nat.le_of_ble_eq_true rfl⟩) ⟨pP_blind, va_recv hK hP (ci := 1) (q0 := 0) rfl rfl, pP_pre hP hK⟩ rfl rfl hl.1 rfl (lv_room (Nat.le_of_ble_eq_true rfl)) dX1_move_64 ⟨Nat.zero_le _, Nat.zero_le _⟩) ?_
    refine lv_iconst (v := nI 1) hx hb dX1_move_67 (by decide) ?_
    refine q_addN (a := lev q) (b := 1) hx hb dX1_move_68 ?_
    refine lv_goto (tgt := 73) hx hb dX1_move_69 (by decide) ?_
    refine lv_istore (lv' := [(5, .int (nI ((lev q) + 1))), (4, .int (bI true)), (3, .int (bI true)), (0, .ref h), (1, .int (nI g)), (2, .int (nI q))]) hx hb dX1_move_73 hl (by decide) rfl (fun ls hl => ?_)
    refine lv_iconst (v := nI 0) hx hb dX1_move_75 (by decide) ?_
    refine lv_istore (lv' := [(6, .int (nI 0)), (5, .int (nI ((lev q) + 1))), (4, .int (bI true)), (3, .int (bI true)), (0, .ref h), (1, .int (nI g)), (2, .int (nI q))]) hx hb dX1_move_76 hl (by decide) rfl (fun ls hl => ?_)
    have loop78 : ∀ (n : Nat) (i : Nat) (b : Bool), (i ≤ gc) → (gc + 1 ≤ i + n) → (b = !exU (bdf ex pa lev g (lev q + 1)) i) → ∀ (H : Heap) (locs : List Loc), va_P D vwCl (mW h ad cI cJ cZ td gc ex pa di qu dc dg da dh dt dv dd ds ak se pr th) H → va_D A (mW h ad cI cJ cZ td gc ex pa di qu dc dg da dh dt dv dd ds ak se pr th) → va_S A s.heap H locs → ∀ ls : Array Slot, lv_has ls 7 [(0, .ref h), (1, .int (nI g)), (2, .int (nI q)), (3, .int (bI true)), (4, .int (bI b)), (5, .int (nI ((lev q) + 1))), (6, .int (nI i))] → W p l e ({ frames := 2, cells := 0, slots := 0, locals := 43 } : Room) s m ([.ref h, .int (nI g), .int (oI (some q))] : List Value).toArray below meth c H locs 0 0 (MQ below (wQ D (mW h ad cI cJ cZ td gc ex pa di qu dc dg da dh dt dv dd ds ak se pr th) (mW h ad cI cJ cZ td gc ex (va_up pa g (some q)) di qu dc dg da dh dt dv dd ds ak se pr 0) (some (.int (oI (pa g))))) ([.ref h, .int (nI g), .int (oI (some q))] : List Value).toArray s 0 0 A) (F0 m 78 ls []) := by
      intro n
      induction n with
      | zero => intro i b hle hn hc; omega
      | succ n ih =>
        intro i b hle hn hc H locs hP hD hS ls hl
        have hA7 : i < gc → i < 16 := fun h9 => by omega
        refine lv_iload hx hb dX1_move_78 (lv_at hl 6 rfl) ?_
        refine lv_aload_n hx hb dX1_move_80 rfl (lv_at hl 0 rfl) ?_
        refine va_get (D := D) (ci := 1) (v := .int (nI gc)) (C := RX1) (T := TX1) (N := 18) hx hb hts (iX1_move) hown hK hP 0 rfl rfl 1 (by decide) (hts (.fieldLink RX1 58 "ShopHubModel" "goods" "I") (by decide +kernel)) (fun _ h9 => h9) rfl dX1_move_81 ?_
        refine q_icmpN_ge (a := i) (b := gc) (tgt := 144) (by omega) (by omega) hx hb dX1_move_84 (by decide) (fun k84 => ?_) (fun k84 => ?_)
        · refine lv_aload_n hx hb dX1_move_144 rfl (lv_at hl 0 rfl) ?_
          refine lv_iload_n hx hb dX1_move_145 rfl (lv_at hl 3 rfl) ?_
          refine q_ifB_ne (b := true) (tgt := 153) hx hb dX1_move_146 (by decide) (fun k146 => ?_) (fun k146 => absurd k146 (by decide))
          refine lv_iload hx hb dX1_move_153 (lv_at hl 4 rfl) ?_
          refine q_ifB_eq (b := b) (tgt := 162) hx hb dX1_move_155 (by decide) (fun k155 => absurd k155 (by rw [hc, hbf i (by omega)]; decide)) (fun k155 => ?_)
          refine lv_iconst (v := nI 0) hx hb dX1_move_158 (by decide) ?_
          refine lv_goto (tgt := 163) hx hb dX1_move_159 (by decide) ?_
          refine q_wcallI (r := bI (decide (0 < 0))) (w' := (mW h ad cI cJ cZ td gc ex pa di qu dc dg da dh dt dv dd ds ak se pr 0)) (va_runV (As := [.int (nI 0)]) (rest := []) ⟨hx, hb, hml, hown, hts⟩ (kX1_fails l D h ad cI cJ cZ td gc ex pa di qu dc dg da dh dt dv dd ds ak se pr th _ 0 (by decide)) (cwV 1 hts gX1_move_X1_fails rfl rfl rfl (by decide +kernel) ⟨Nat.le_of_ble_eq_true rfl, Nat.le_of_ble_eq_true rfl⟩) ⟨wP_blind, va_recv hK hP (ci := 1) (q0 := 0) rfl rfl, wP_pre hP hK hD⟩ rfl rfl hl.1 rfl (lv_room (Nat.le_of_ble_eq_true rfl)) dX1_move_163 ⟨Nat.zero_le _, Nat.zero_le _⟩) hD hS hA rfl (fun H locs hP hD hS => ?_)
          refine q_ifB_eq (b := decide (0 < 0)) (tgt := 171) hx hb dX1_move_166 (by decide) (fun k166 => ?_) (fun k166 => absurd k166 (by decide))
          refine lv_aload_n hx hb dX1_move_171 rfl (lv_at hl 0 rfl) ?_
          refine va_get (D := D) (ci := 1) (v := .ref (ad 3)) (C := RX1) (T := TX1) (N := 18) hx hb hts (iX1_move) hown hK hP 0 rfl rfl 3 (by decide) (hts (.fieldLink RX1 13 "ShopHubModel" "parent" "[I") (by decide +kernel)) (fun _ h9 => h9) rfl dX1_move_172 ?_
          refine lv_iload_n hx hb dX1_move_175 rfl (lv_at hl 1 rfl) ?_
          refine q_ald oI pa hx hb hK hP 2 1 rfl rfl (k := g) (by omega) (Nat.le_of_ble_eq_true rfl) dX1_move_176 ?_
          refine lv_istore (lv' := [(6, .int (oI (pa g))), (0, .ref h), (1, .int (nI g)), (2, .int (nI q)), (3, .int (bI true)), (4, .int (bI b)), (5, .int (nI ((lev q) + 1)))]) hx hb dX1_move_177 hl (by decide) rfl (fun ls hl => ?_)
          refine lv_aload_n hx hb dX1_move_179 rfl (lv_at hl 1 rfl) ?_
          refine va_get (D := D) (ci := 1) (v := .ref (ad 3)) (C := RX1) (T := TX1) (N := 18) hx hb hts (iX1_move) hown hK hP 0 rfl rfl 3 (by decide) (hts (.fieldLink RX1 13 "ShopHubModel" "parent" "[I") (by decide +kernel)) (fun _ h9 => h9) rfl dX1_move_180 ?_
          refine lv_iload_n hx hb dX1_move_183 rfl (lv_at hl 2 rfl) ?_
          refine lv_iload_n hx hb dX1_move_184 rfl (lv_at hl 3 rfl) ?_
          refine q_top (y := oI (some q)) ((rfl : nI q = oI (some q))) ?_
          refine q_ast oI pa (some q) hx hb hK hP hD hS 2 1 rfl rfl (k := g) (by omega) (Nat.le_of_ble_eq_true rfl) dX1_move_185 (fun H locs hP hD hS => ?_)
          have hP : va_P D vwCl (mW h ad cI cJ cZ td gc ex (va_up pa g (some q)) di qu dc dg da dh dt dv dd ds ak se pr 0) H := hP
          have hD : va_D A (mW h ad cI cJ cZ td gc ex (va_up pa g (some q)) di qu dc dg da dh dt dv dd ds ak se pr 0) := hD
          refine lv_iload hx hb dX1_move_186 (lv_at hl 0 rfl) ?_
          exact q_wretI hx hb hr hlocks hAe hP hS (rfl) dX1_move_188
        · refine lv_iload hx hb dX1_move_87 (lv_at hl 4 rfl) ?_
          refine q_ifB_eq (b := b) (tgt := 144) hx hb dX1_move_89 (by decide) (fun k89 => absurd k89 (by rw [hc, hbf i (by omega)]; decide)) (fun k89 => ?_)
          refine lv_aload_n hx hb dX1_move_92 rfl (lv_at hl 0 rfl) ?_
          refine va_get (D := D) (ci := 1) (v := .ref (ad 2)) (C := RX1) (T := TX1) (N := 18) hx hb hts (iX1_move) hown hK hP 0 rfl rfl 2 (by decide) (hts (.fieldLink RX1 7 "ShopHubModel" "isThere" "[Z") (by decide +kernel)) (fun _ h9 => h9) rfl dX1_move_93 ?_
          refine lv_iload hx hb dX1_move_96 (lv_at hl 6 rfl) ?_
          refine q_zld ex hx hb hK hP 1 0 rfl rfl (k := i) (by omega) (Nat.le_of_ble_eq_true rfl) dX1_move_98 ?_
          refine q_ifB_eq (b := ex i) (tgt := 131) hx hb dX1_move_99 (by decide) (fun k99 => ?_) (fun k99 => ?_)
          · refine lv_iconst (v := nI 1) hx hb dX1_move_131 (by decide) ?_
            refine lv_goto (tgt := 136) hx hb dX1_move_132 (by decide) ?_
            refine q_top (y := bI true) ((by decide : nI 1 = bI true)) ?_
            refine lv_istore (lv' := [(4, .int (bI true)), (0, .ref h), (1, .int (nI g)), (2, .int (nI q)), (3, .int (bI true)), (5, .int (nI ((lev q) + 1))), (6, .int (nI i))]) hx hb dX1_move_136 hl (by decide) rfl (fun ls hl => ?_)
            refine lv_iinc (v := nI (i + 1)) (lv' := [(6, .int (nI (i + 1))), (4, .int (bI true)), (0, .ref h), (1, .int (nI g)), (2, .int (nI q)), (3, .int (bI true)), (5, .int (nI ((lev q) + 1)))]) hx hb dX1_move_138 hl (k := 6) rfl (i1_n i) (by decide) rfl (fun ls hl => ?_)
            refine lv_goto (tgt := 78) hx hb dX1_move_141 (by decide) ?_
            exact ih (i + 1) true (by omega) (by omega) (by rw [not_s (f := bdf ex pa lev g (lev q + 1)) (show bdf ex pa lev g (lev q + 1) i = false by unfold bdf; rw [k99, Bool.false_and]), ← hc, k89]) _ _ hP hD hS _ (lv_sub hl [2, 3, 4, 5, 1, 6, 0] rfl)
          · have hLi := TI_le hti (hA7 (by omega)) k99
            refine lv_aload_n hx hb dX1_move_102 rfl (lv_at hl 0 rfl) ?_
            refine lv_iload hx hb dX1_move_103 (lv_at hl 6 rfl) ?_
            refine lv_iload_n hx hb dX1_move_105 rfl (lv_at hl 1 rfl) ?_
            refine q_callI (r := bI (wth ex pa g 3 (some i))) (va_runV (As := [.int (nI i), .int (nI g)]) (rest := []) ⟨hx, hb, hml, hown, hts⟩ (kX1_isBelow l D h ad cI cJ cZ td gc ex pa di qu dc dg da dh dt dv dd ds ak se pr th i g lev hti (by omega) k99 hg) (cwV 2 hts gX1_move_X1_isBelow rfl rfl rfl (by decide +kernel) ⟨Nat.le_of_ble_eq_true rfl, Nat.le_of_ble_eq_true rfl⟩) ⟨pP_blind, va_recv hK hP (ci := 1) (q0 := 0) rfl rfl, pP_pre hP hK⟩ rfl rfl hl.1 rfl (lv_room (Nat.le_of_ble_eq_true rfl)) dX1_move_106 ⟨Nat.zero_le _, Nat.zero_le _⟩) ?_
            refine q_ifB_eq (b := wth ex pa g 3 (some i)) (tgt := 131) hx hb dX1_move_109 (by decide) (fun k109 => ?_) (fun k109 => ?_)
            · refine lv_iconst (v := nI 1) hx hb dX1_move_131 (by decide) ?_
              refine lv_goto (tgt := 136) hx hb dX1_move_132 (by decide) ?_
              refine q_top (y := bI true) ((by decide : nI 1 = bI true)) ?_
              refine lv_istore (lv' := [(4, .int (bI true)), (0, .ref h), (1, .int (nI g)), (2, .int (nI q)), (3, .int (bI true)), (5, .int (nI ((lev q) + 1))), (6, .int (nI i))]) hx hb dX1_move_136 hl (by decide) rfl (fun ls hl => ?_)
              refine lv_iinc (v := nI (i + 1)) (lv' := [(6, .int (nI (i + 1))), (4, .int (bI true)), (0, .ref h), (1, .int (nI g)), (2, .int (nI q)), (3, .int (bI true)), (5, .int (nI ((lev q) + 1)))]) hx hb dX1_move_138 hl (k := 6) rfl (i1_n i) (by decide) rfl (fun ls hl => ?_)
              refine lv_goto (tgt := 78) hx hb dX1_move_141 (by decide) ?_
              exact ih (i + 1) true (by omega) (by omega) (by rw [not_s (f := bdf ex pa lev g (lev q + 1)) (show bdf ex pa lev g (lev q + 1) i = false by unfold bdf; rw [k109, Bool.false_and, Bool.and_false]), ← hc, k89]) _ _ hP hD hS _ (lv_sub hl [2, 3, 4, 5, 1, 6, 0] rfl)
            · refine lv_aload_n hx hb dX1_move_112 rfl (lv_at hl 0 rfl) ?_
              refine lv_iload hx hb dX1_move_113 (lv_at hl 6 rfl) ?_
              refine q_callI (r := nI (lev i)) (va_runV (As := [.int (nI i)]) (rest := []) ⟨hx, hb, hml, hown, hts⟩ (kX1_level l D h ad cI cJ cZ td gc ex pa di qu dc dg da dh dt dv dd ds ak se pr th i lev hti (by omega) k99) (cwV 1 hts gX1_move_X1_level rfl rfl rfl (by decide +kernel) ⟨Nat.le_of_ble_eq_true rfl, Nat.le_of_ble_eq_true rfl⟩) ⟨pP_blind, va_recv hK hP (ci := 1) (q0 := 0) rfl rfl, pP_pre hP hK⟩ rfl rfl hl.1 rfl (lv_room (Nat.le_of_ble_eq_true rfl)) dX1_move_115 ⟨Nat.zero_le _, Nat.zero_le _⟩) ?_
              refine lv_aload_n hx hb dX1_move_118 rfl (lv_at hl 0 rfl) ?_
              refine lv_iload_n hx hb dX1_move_119 rfl (lv_at hl 1 rfl) ?_
              refine q_callI (r := nI (lev g)) (va_runV (As := [.int (nI g)]) (rest := [.int (nI (lev i))]) ⟨hx, hb, hml, hown, hts⟩ (kX1_level l D h ad cI cJ cZ td gc ex pa di qu dc dg da dh dt dv dd ds ak se pr th g lev hti hg he) (cwV 1 hts gX1_move_X1_level rfl rfl rfl (by decide +kernel) ⟨Nat.le_of_ble_eq_true rfl, Nat.le_of_ble_eq_true rfl⟩) ⟨pP_blind, va_recv hK hP (ci := 1) (q0 := 0) rfl rfl, pP_pre hP hK⟩ rfl rfl hl.1 rfl (lv_room (Nat.le_of_ble_eq_true rfl)) dX1_move_120 ⟨Nat.zero_le _, Nat.zero_le _⟩) ?_
              refine q_top (y := zI ((lev g : Nat) : Int)) (nz (lev g)) ?_
              refine q_top2 (y := zI ((lev i : Nat) : Int)) (nz (lev i)) ?_
              refine q_subZ (a := ((lev i : Nat) : Int)) (b := ((lev g : Nat) : Int)) hx hb dX1_move_123 ?_
              refine lv_iload hx hb dX1_move_124 (lv_at hl 5 rfl) ?_
              refine q_top (y := zI (((lev q) + 1 : Nat) : Int)) (nz ((lev q) + 1)) ?_
              refine q_addZ (a := ((lev i : Nat) : Int) - ((lev g : Nat) : Int)) (b := (((lev q) + 1 : Nat) : Int)) hx hb dX1_move_126 ?_
              refine lv_iconst (v := nI 3) hx hb dX1_move_127 (by decide) ?_
              refine q_top (y := zI ((3 : Nat) : Int)) (nz 3) ?_
              refine q_icmpZ_ge (a := (((lev i : Nat) : Int) - ((lev g : Nat) : Int)) + (((lev q) + 1 : Nat) : Int)) (b := ((3 : Nat) : Int)) (tgt := 135) (by omega) (by omega) hx hb dX1_move_128 (by decide) (fun k128 => ?_) (fun k128 => ?_)
              · refine lv_iconst (v := nI 0) hx hb dX1_move_135 (by decide) ?_
                refine q_top (y := bI false) ((by decide : nI 0 = bI false)) ?_
                refine lv_istore (lv' := [(4, .int (bI false)), (0, .ref h), (1, .int (nI g)), (2, .int (nI q)), (3, .int (bI true)), (5, .int (nI ((lev q) + 1))), (6, .int (nI i))]) hx hb dX1_move_136 hl (by decide) rfl (fun ls hl => ?_)
                refine lv_iinc (v := nI (i + 1)) (lv' := [(6, .int (nI (i + 1))), (4, .int (bI false)), (0, .ref h), (1, .int (nI g)), (2, .int (nI q)), (3, .int (bI true)), (5, .int (nI ((lev q) + 1)))]) hx hb dX1_move_138 hl (k := 6) rfl (i1_n i) (by decide) rfl (fun ls hl => ?_)
                refine lv_goto (tgt := 78) hx hb dX1_move_141 (by decide) ?_
                exact ih (i + 1) false (by omega) (by omega) ((not_t (f := bdf ex pa lev g (lev q + 1)) (show bdf ex pa lev g (lev q + 1) i = true by unfold bdf; rw [k99, k109, decide_eq_true (by omega)]; rfl)).symm) _ _ hP hD hS _ (lv_sub hl [2, 3, 4, 5, 1, 6, 0] rfl)
              · refine lv_iconst (v := nI 1) hx hb dX1_move_131 (by decide) ?_
                refine lv_goto (tgt := 136) hx hb dX1_move_132 (by decide) ?_
                refine q_top (y := bI true) ((by decide : nI 1 = bI true)) ?_
                refine lv_istore (lv' := [(4, .int (bI true)), (0, .ref h), (1, .int (nI g)), (2, .int (nI q)), (3, .int (bI true)), (5, .int (nI ((lev q) + 1))), (6, .int (nI i))]) hx hb dX1_move_136 hl (by decide) rfl (fun ls hl => ?_)
                refine lv_iinc (v := nI (i + 1)) (lv' := [(6, .int (nI (i + 1))), (4, .int (bI true)), (0, .ref h), (1, .int (nI g)), (2, .int (nI q)), (3, .int (bI true)), (5, .int (nI ((lev q) + 1)))]) hx hb dX1_move_138 hl (k := 6) rfl (i1_n i) (by decide) rfl (fun ls hl => ?_)
                refine lv_goto (tgt := 78) hx hb dX1_move_141 (by decide) ?_
                exact ih (i + 1) true (by omega) (by omega) (by rw [not_s (f := bdf ex pa lev g (lev q + 1)) (show bdf ex pa lev g (lev q + 1) i = false by unfold bdf; rw [decide_eq_false (by omega), Bool.and_false, Bool.and_false]), ← hc, k89]) _ _ hP hD hS _ (lv_sub hl [2, 3, 4, 5, 1, 6, 0] rfl)
    exact loop78 (gc + 1) 0 true (by omega) (by omega) rfl _ _ hP hD hS _ (lv_sub hl [4, 5, 6, 3, 2, 1, 0] rfl)

set_option maxHeartbeats 4000000 in
set_option maxRecDepth 100000 in
theorem kX1_move2a (l : Launch) (D : va_G) (h : Nat) (ad : Nat → Nat) (cI cJ cZ : ClassId) (td : Nat) (gc : Nat) (ex : Nat → Bool) (pa : Nat → Option Nat) (di : Nat → Nat) (qu : Nat → Nat) (dc : Nat) (dg : Nat → Nat) (da : Nat → Nat) (dh : Nat → Option Nat) (dt : Nat → Option Nat) (dv : Nat → Option Nat) (dd : Nat → Nat) (ds : Nat → Nat) (ak : Nat → Bool) (se : Nat → Option Nat) (pr : Nat → Option Nat) (th : Nat) (sz : Nat) (g : Nat) (o : Option Nat) (lev : Nat → Nat) (hti : TI ex pa lev) (hg : g < 16) (he : ex g = true) (ho2 : okO ex o) (hgc : gc ≤ 16) (hxg : ∀ j, j < 16 → ex j = true → j < gc) (hw : wth ex pa g 3 o = true) : Met l yX1_move wsX1_move ({ frames := 2, cells := 0, slots := 0, locals := 43 } : Room) (wP D (mW h ad cI cJ cZ td gc ex pa di qu dc dg da dh dt dv dd ds ak se pr th) (mT cI cJ cZ) [.ref h, .int (nI g), .int (oI o)] sz) (wQ D (mW h ad cI cJ cZ td gc ex pa di qu dc dg da dh dt dv dd ds ak se pr th) (mW h ad cI cJ cZ td gc ex pa di qu dc dg da dh dt dv dd ds ak se pr 2) (some (.int (nI 0)))) 0 0 (va_A (mW h ad cI cJ cZ td gc ex pa di qu dc dg da dh dt dv dd ds ak se pr th) sz) := by
  refine Met.ofW (cc := cX1_move) (maxL := 7) (ret := (some .int)) (by decide) rfl ?_
  intro p e s m args below meth c s₁ B hml hv
  obtain ⟨rfl, hsz, hP, hK, hD0⟩ := hv
  have hx := B.exec
  have hb := B.bytes
  have hr := B.returns
  have hts := atoms_spec (ws := wsX1_move) B.pre
  have hown : s.vm.findClass RX1 = some m.cls := findClass_of_methodNamed B.named
  have hlocks := B.notSynchronized
  subst hsz
  have hD := hD0.self (sz := s.heap.size)
  generalize hAe : va_A (mW h ad cI cJ cZ td gc ex pa di qu dc dg da dh dt dv dd ds ak se pr th) s.heap.size = A at hD ⊢
  have hA : ∀ q : Nat, s.heap.size ≤ q → A q := fun q h => by rw [← hAe]; exact Or.inr h
  have hS : va_S A s.heap s.heap [] := va_S.rf
  have hl := lv_entry ([.ref h, .int (nI g), .int (oI o)]) (n := 7) (Nat.le_of_ble_eq_true rfl)
  rw [lg_entry_eq]
  generalize (lg_sl ([.ref h, .int (nI g), .int (oI o)]) ++ List.replicate (7 - (lg_sl ([.ref h, .int (nI g), .int (oI o)])).length) Slot.unset).toArray = ls at hl ⊢
  have hl : lv_has ls 7 [(0, .ref h), (1, .int (nI g)), (2, .int (oI o))] := hl
  have hL1 := lvZ_ge lev o
  have hL2 := lvZ_le hti ho2
  have hM2 := TI_le hti hg he
  refine lv_aload_n hx hb dX1_move_0 rfl (lv_at hl 0 rfl) ?_
  refine lv_iload_n hx hb dX1_move_1 rfl (lv_at hl 1 rfl) ?_
  refine q_callI (r := bI (ex g)) (va_runV (As := [.int (nI g)]) (rest := []) ⟨hx, hb, hml, hown, hts⟩ (kX1_isGoodN l D h ad cI cJ cZ td gc ex pa di qu dc dg da dh dt dv dd ds ak se pr th g hg hgc hxg) (cwV 1 hts gX1_move_X1_isGood rfl rfl rfl (by decide +kernel) ⟨Nat.le_of_ble_eq_true rfl, Nat.le_of_ble_eq_true rfl⟩) ⟨pP_blind, va_recv hK hP (ci := 1) (q0 := 0) rfl rfl, pP_pre hP hK⟩ rfl rfl hl.1 rfl (lv_room (Nat.le_of_ble_eq_true rfl)) dX1_move_2 ⟨Nat.zero_le _, Nat.zero_le _⟩) ?_
  refine q_ifB_eq (b := ex g) (tgt := 25) hx hb dX1_move_5 (by decide) (fun k5 => absurd k5 (by rw [he]; decide)) (fun k5 => ?_)
  cases o with
  | none =>
    exact absurd hw (by rw [wth_none]; decide)
  | some q =>
    obtain ⟨hq, hq2⟩ := ho2 q rfl
    refine lv_iload_n hx hb dX1_move_8 rfl (lv_at hl 2 rfl) ?_
    refine lv_iconst (v := oI none) hx hb dX1_move_9 (by decide) ?_
    refine q_top2 (y := oI (some q)) ((rfl : nI q = oI (some q))) ?_
    refine q_icmpO_eq (a := some q) (b := none) (tgt := 21) (fun k h9 => by cases h9; omega) (fun k h9 => by cases h9) hx hb dX1_move_10 (by decide) (fun k10 => (by cases k10)) (fun k10 => ?_)
    refine lv_aload_n hx hb dX1_move_13 rfl (lv_at hl 0 rfl) ?_
    refine lv_iload_n hx hb dX1_move_14 rfl (lv_at hl 2 rfl) ?_
    refine q_callI (r := bI (ex q)) (va_runV (As := [.int (nI q)]) (rest := []) ⟨hx, hb, hml, hown, hts⟩ (kX1_isGoodN l D h ad cI cJ cZ td gc ex pa di qu dc dg da dh dt dv dd ds ak se pr th q hq hgc hxg) (cwV 1 hts gX1_move_X1_isGood rfl rfl rfl (by decide +kernel) ⟨Nat.le_of_ble_eq_true rfl, Nat.le_of_ble_eq_true rfl⟩) ⟨pP_blind, va_recv hK hP (ci := 1) (q0 := 0) rfl rfl, pP_pre hP hK⟩ rfl rfl hl.1 rfl (lv_room (Nat.le_of_ble_eq_true rfl)) dX1_move_15 ⟨Nat.zero_le _, Nat.zero_le _⟩) ?_
    refine q_ifB_eq (b := ex q) (tgt := 25) hx hb dX1_move_18 (by decide) (fun k18 => absurd k18 (by rw [hq2]; decide)) (fun k18 => ?_)
    refine lv_iconst (v := nI 1) hx hb dX1_move_21 (by decide) ?_
    refine lv_goto (tgt := 26) hx hb dX1_move_22 (by decide) ?_
    refine q_top (y := bI true) ((by decide : nI 1 = bI true)) ?_
    refine lv_istore_n (lv' := [(3, .int (bI true)), (0, .ref h), (1, .int (nI g)), (2, .int (nI q))]) hx hb dX1_move_26 rfl hl (by decide) rfl (fun ls hl => ?_)
    refine lv_iload_n hx hb dX1_move_27 rfl (lv_at hl 0 rfl) ?_
    refine q_ifB_eq (b := true) (tgt := 49) hx hb dX1_move_28 (by decide) (fun k28 => absurd k28 (by decide)) (fun k28 => ?_)
    refine lv_iload_n hx hb dX1_move_31 rfl (lv_at hl 3 rfl) ?_
    refine lv_iconst (v := oI none) hx hb dX1_move_32 (by decide) ?_
    refine q_top2 (y := oI (some q)) ((rfl : nI q = oI (some q))) ?_
    refine q_icmpO_eq (a := some q) (b := none) (tgt := 45) (fun k h9 => by cases h9; omega) (fun k h9 => by cases h9) hx hb dX1_move_33 (by decide) (fun k33 => (by cases k33)) (fun k33 => ?_)
    refine lv_aload_n hx hb dX1_move_36 rfl (lv_at hl 1 rfl) ?_
    refine lv_iload_n hx hb dX1_move_37 rfl (lv_at hl 3 rfl) ?_
    refine lv_iload_n hx hb dX1_move_38 rfl (lv_at hl 2 rfl) ?_
    refine q_callI (r := bI (wth ex pa g 3 (some q))) (va_runV (As := [.int (nI q), .int (nI g)]) (rest := []) ⟨hx, hb, hml, hown, hts⟩ (kX1_isBelow l D h ad cI cJ cZ td gc ex pa di qu dc dg da dh dt dv dd ds ak se pr th q g lev hti hq hq2 hg) (cwV 2 hts gX1_move_X1_isBelow rfl rfl rfl (by decide +kernel) ⟨Nat.le_of_ble_eq_true rfl, Nat.le_of_ble_eq_true rfl⟩) ⟨pP_blind, va_recv hK hP (ci := 1) (q0 := 0) rfl rfl, pP_pre hP hK⟩ rfl rfl hl.1 rfl (lv_room (Nat.le_of_ble_eq_true rfl)) dX1_move_39 ⟨Nat.zero_le _, Nat.zero_le _⟩) ?_
    refine q_ifB_ne (b := wth ex pa g 3 (some q)) (tgt := 49) hx hb dX1_move_42 (by decide) (fun k42 => ?_) (fun k42 => absurd k42 (by rw [hw]; decide))
    refine lv_iconst (v := nI 0) hx hb dX1_move_49 (by decide) ?_
    refine q_top (y := bI false) ((by decide : nI 0 = bI false)) ?_
    refine lv_istore (lv' := [(4, .int (bI false)), (3, .int (bI true)), (0, .ref h), (1, .int (nI g)), (2, .int (nI q))]) hx hb dX1_move_50 hl (by decide) rfl (fun ls hl => ?_)
    refine lv_iload hx hb dX1_move_52 (lv_at hl 0 rfl) ?_
    refine q_ifB_eq (b := false) (tgt := 72) hx hb dX1_move_54 (by decide) (fun k54 => ?_) (fun k54 => absurd k54 (by decide))
    refine lv_iconst (v := nI 0) hx hb dX1_move_72 (by decide) ?_
    refine lv_istore (lv' := [(5, .int (nI 0)), (4, .int (bI false)), (3, .int (bI true)), (0, .ref h), (1, .int (nI g)), (2, .int (nI q))]) hx hb dX1_move_73 hl (by decide) rfl (fun ls hl => ?_)
    refine lv_iconst (v := nI 0) hx hb dX1_move_75 (by decide) ?_
    refine lv_istore (lv' := [(6, .int (nI 0)), (5, .int (nI 0)), (4, .int (bI false)), (3, .int (bI true)), (0, .ref h), (1, .int (nI g)), (2, .int (nI q))]) hx hb dX1_move_76 hl (by decide) rfl (fun ls hl => ?_)
    refine lv_iload hx hb dX1_move_78 (lv_at hl 0 rfl) ?_
    refine lv_aload_n hx hb dX1_move_80 rfl (lv_at hl 4 rfl) ?_
    refine va_get (D := D) (ci := 1) (v := .int (nI gc)) (C := RX1) (T := TX1) (N := 18) hx hb hts (iX1_move) hown hK hP 0 rfl rfl 1 (by decide) (hts (.fieldLink RX1 58 "ShopHubModel" "goods" "I") (by decide +kernel)) (fun _ h9 => h9) rfl dX1_move_81 ?_
    refine q_icmpN_ge (a := 0) (b := gc) (tgt := 144) (by omega) (by omega) hx hb dX1_move_84 (by decide) (fun k84 => ?_) (fun k84 => ?_)
    · refine lv_aload_n hx hb dX1_move_144 rfl (lv_at hl 4 rfl) ?_
      refine lv_iload_n hx hb dX1_move_145 rfl (lv_at hl 3 rfl) ?_
      refine q_ifB_ne (b := true) (tgt := 153) hx hb dX1_move_146 (by decide) (fun k146 => ?_) (fun k146 => absurd k146 (by decide))
      refine lv_iload hx hb dX1_move_153 (lv_at hl 2 rfl) ?_
      refine q_ifB_eq (b := false) (tgt := 162) hx hb dX1_move_155 (by decide) (fun k155 => ?_) (fun k155 => absurd k155 (by decide))
      refine lv_iconst (v := nI 2) hx hb dX1_move_162 (by decide) ?_
      refine q_wcallI (r := bI (decide (0 < 2))) (w' := (mW h ad cI cJ cZ td gc ex pa di qu dc dg da dh dt dv dd ds ak se pr 2)) (va_runV (As := [.int (nI 2)]) (rest := []) ⟨hx, hb, hml, hown, hts⟩ (kX1_fails l D h ad cI cJ cZ td gc ex pa di qu dc dg da dh dt dv dd ds ak se pr th _ 2 (by decide)) (cwV 1 hts gX1_move_X1_fails rfl rfl rfl (by decide +kernel) ⟨Nat.le_of_ble_eq_true rfl, Nat.le_of_ble_eq_true rfl⟩) ⟨wP_blind, va_recv hK hP (ci := 1) (q0 := 0) rfl rfl, wP_pre hP hK hD⟩ rfl rfl hl.1 rfl (lv_room (Nat.le_of_ble_eq_true rfl)) dX1_move_163 ⟨Nat.zero_le _, Nat.zero_le _⟩) hD hS hA rfl (fun H locs hP hD hS => ?_)
      refine q_ifB_eq (b := decide (0 < 2)) (tgt := 171) hx hb dX1_move_166 (by decide) (fun k166 => absurd k166 (by decide)) (fun k166 => ?_)
      refine lv_iconst (v := nI 0) hx hb dX1_move_169 (by decide) ?_
      exact q_wretI hx hb hr hlocks hAe hP hS (rfl) dX1_move_170
    · refine lv_iload hx hb dX1_move_87 (lv_at hl 2 rfl) ?_
      refine q_ifB_eq (b := false) (tgt := 144) hx hb dX1_move_89 (by decide) (fun k89 => ?_) (fun k89 => absurd k89 (by decide))
      refine lv_aload_n hx hb dX1_move_144 rfl (lv_at hl 4 rfl) ?_
      refine lv_iload_n hx hb dX1_move_145 rfl (lv_at hl 3 rfl) ?_
      refine q_ifB_ne (b := true) (tgt := 153) hx hb dX1_move_146 (by decide) (fun k146 => ?_) (fun k146 => absurd k146 (by decide))
      refine lv_iload hx hb dX1_move_153 (lv_at hl 2 rfl) ?_
      refine q_ifB_eq (b := false) (tgt := 162) hx hb dX1_move_155 (by decide) (fun k155 => ?_) (fun k155 => absurd k155 (by decide))
      refine lv_iconst (v := nI 2) hx hb dX1_move_162 (by decide) ?_
      refine q_wcallI (r := bI (decide (0 < 2))) (w' := (mW h ad cI cJ cZ td gc ex pa di qu dc dg da dh dt dv dd ds ak se pr 2)) (va_runV (As := [.int (nI 2)]) (rest := []) ⟨hx, hb, hml, hown, hts⟩ (kX1_fails l D h ad cI cJ cZ td gc ex pa di qu dc dg da dh dt dv dd ds ak se pr th _ 2 (by decide)) (cwV 1 hts gX1_move_X1_fails rfl rfl rfl (by decide +kernel) ⟨Nat.le_of_ble_eq_true rfl, Nat.le_of_ble_eq_true rfl⟩) ⟨wP_blind, va_recv hK hP (ci := 1) (q0 := 0) rfl rfl, wP_pre hP hK hD⟩ rfl rfl hl.1 rfl (lv_room (Nat.le_of_ble_eq_true rfl)) dX1_move_163 ⟨Nat.zero_le _, Nat.zero_le _⟩) hD hS hA rfl (fun H locs hP hD hS => ?_)
      refine q_ifB_eq (b := decide (0 < 2)) (tgt := 171) hx hb dX1_move_166 (by decide) (fun k166 => absurd k166 (by decide)) (fun k166 => ?_)
      refine lv_iconst (v := nI 0) hx hb dX1_move_169 (by decide) ?_
      exact q_wretI hx hb hr hlocks hAe hP hS (rfl) dX1_move_170

set_option maxHeartbeats 4000000 in
set_option maxRecDepth 100000 in
theorem kX1_move2b (l : Launch) (D : va_G) (h : Nat) (ad : Nat → Nat) (cI cJ cZ : ClassId) (td : Nat) (gc : Nat) (ex : Nat → Bool) (pa : Nat → Option Nat) (di : Nat → Nat) (qu : Nat → Nat) (dc : Nat) (dg : Nat → Nat) (da : Nat → Nat) (dh : Nat → Option Nat) (dt : Nat → Option Nat) (dv : Nat → Option Nat) (dd : Nat → Nat) (ds : Nat → Nat) (ak : Nat → Bool) (se : Nat → Option Nat) (pr : Nat → Option Nat) (th : Nat) (sz : Nat) (g : Nat) (o : Option Nat) (lev : Nat → Nat) (hti : TI ex pa lev) (hg : g < 16) (he : ex g = true) (ho2 : okO ex o) (hgc : gc ≤ 16) (hxg : ∀ j, j < 16 → ex j = true → j < gc) (hw : wth ex pa g 3 o = false) (hbd : exU (bdf ex pa lev g (match o with | none => 0 | some q => lev q + 1)) gc = true) : Met l yX1_move wsX1_move ({ frames := 2, cells := 0, slots := 0, locals := 43 } : Room) (wP D (mW h ad cI cJ cZ td gc ex pa di qu dc dg da dh dt dv dd ds ak se pr th) (mT cI cJ cZ) [.ref h, .int (nI g), .int (oI o)] sz) (wQ D (mW h ad cI cJ cZ td gc ex pa di qu dc dg da dh dt dv dd ds ak se pr th) (mW h ad cI cJ cZ td gc ex pa di qu dc dg da dh dt dv dd ds ak se pr 2) (some (.int (nI 0)))) 0 0 (va_A (mW h ad cI cJ cZ td gc ex pa di qu dc dg da dh dt dv dd ds ak se pr th) sz) := by
  refine Met.ofW (cc := cX1_move) (maxL := 7) (ret := (some .int)) (by decide) rfl ?_
  intro p e s m args below meth c s₁ B hml hv
  obtain ⟨rfl, hsz, hP, hK, hD0⟩ := hv
  have hx := B.exec
  have hb := B.bytes
  have hr := B.returns
  have hts := atoms_spec (ws := wsX1_move) B.pre
  have hown : s.vm.findClass RX1 = some m.cls := findClass_of_methodNamed B.named
  have hlocks := B.notSynchronized
  subst hsz
  have hD := hD0.self (sz := s.heap.size)
  generalize hAe : va_A (mW h ad cI cJ cZ td gc ex pa di qu dc dg da dh dt dv dd ds ak se pr th) s.heap.size = A at hD ⊢
  have hA : ∀ q : Nat, s.heap.size ≤ q → A q := fun q h => by rw [← hAe]; exact Or.inr h
  have hS : va_S A s.heap s.heap [] := va_S.rf
  have hl := lv_entry ([.ref h, .int (nI g), .int (oI o)]) (n := 7) (Nat.le_of_ble_eq_true rfl)
  rw [lg_entry_eq]
  generalize (lg_sl ([.ref h, .int (nI g), .int (oI o)]) ++ List.replicate (7 - (lg_sl ([.ref h, .int (nI g), .int (oI o)])).length) Slot.unset).toArray = ls at hl ⊢
  have hl : lv_has ls 7 [(0, .ref h), (1, .int (nI g)), (2, .int (oI o))] := hl
  have hL1 := lvZ_ge lev o
  have hL2 := lvZ_le hti ho2
  have hM2 := TI_le hti hg he
  refine lv_aload_n hx hb dX1_move_0 rfl (lv_at hl 0 rfl) ?_
  refine lv_iload_n hx hb dX1_move_1 rfl (lv_at hl 1 rfl) ?_
  refine q_callI (r := bI (ex g)) (va_runV (As := [.int (nI g)]) (rest := []) ⟨hx, hb, hml, hown, hts⟩ (kX1_isGoodN l D h ad cI cJ cZ td gc ex pa di qu dc dg da dh dt dv dd ds ak se pr th g hg hgc hxg) (cwV 1 hts gX1_move_X1_isGood rfl rfl rfl (by decide +kernel) ⟨Nat.le_of_ble_eq_true rfl, Nat.le_of_ble_eq_true rfl⟩) ⟨pP_blind, va_recv hK hP (ci := 1) (q0 := 0) rfl rfl, pP_pre hP hK⟩ rfl rfl hl.1 rfl (lv_room (Nat.le_of_ble_eq_true rfl)) dX1_move_2 ⟨Nat.zero_le _, Nat.zero_le _⟩) ?_
  refine q_ifB_eq (b := ex g) (tgt := 25) hx hb dX1_move_5 (by decide) (fun k5 => absurd k5 (by rw [he]; decide)) (fun k5 => ?_)
  cases o with
  | none =>
    have hbf : exU (bdf ex pa lev g 0) gc = true := hbd
    refine lv_iload_n hx hb dX1_move_8 rfl (lv_at hl 2 rfl) ?_
    refine lv_iconst (v := oI none) hx hb dX1_move_9 (by decide) ?_
    refine q_icmpO_eq (a := none) (b := none) (tgt := 21) (fun k h9 => by cases h9) (fun k h9 => by cases h9) hx hb dX1_move_10 (by decide) (fun k10 => ?_) (fun k10 => absurd rfl k10)
    refine lv_iconst (v := nI 1) hx hb dX1_move_21 (by decide) ?_
    refine lv_goto (tgt := 26) hx hb dX1_move_22 (by decide) ?_
    refine q_top (y := bI true) ((by decide : nI 1 = bI true)) ?_
    refine lv_istore_n (lv' := [(3, .int (bI true)), (0, .ref h), (1, .int (nI g)), (2, .int (oI none))]) hx hb dX1_move_26 rfl hl (by decide) rfl (fun ls hl => ?_)
    refine lv_iload_n hx hb dX1_move_27 rfl (lv_at hl 0 rfl) ?_
    refine q_ifB_eq (b := true) (tgt := 49) hx hb dX1_move_28 (by decide) (fun k28 => absurd k28 (by decide)) (fun k28 => ?_)
    refine lv_iload_n hx hb dX1_move_31 rfl (lv_at hl 3 rfl) ?_
    refine lv_iconst (v := oI none) hx hb dX1_move_32 (by decide) ?_
    refine q_icmpO_eq (a := none) (b := none) (tgt := 45) (fun k h9 => by cases h9) (fun k h9 => by cases h9) hx hb dX1_move_33 (by decide) (fun k33 => ?_) (fun k33 => absurd rfl k33)
    refine lv_iconst (v := nI 1) hx hb dX1_move_45 (by decide) ?_
    refine lv_goto (tgt := 50) hx hb dX1_move_46 (by decide) ?_
    refine q_top (y := bI true) ((by decide : nI 1 = bI true)) ?_
    refine lv_istore (lv' := [(4, .int (bI true)), (3, .int (bI true)), (0, .ref h), (1, .int (nI g)), (2, .int (oI none))]) hx hb dX1_move_50 hl (by decide) rfl (fun ls hl => ?_)
    refine lv_iload hx hb dX1_move_52 (lv_at hl 0 rfl) ?_
    refine q_ifB_eq (b := true) (tgt := 72) hx hb dX1_move_54 (by decide) (fun k54 => absurd k54 (by decide)) (fun k54 => ?_)
    refine lv_iload_n hx hb dX1_move_57 rfl (lv_at hl 4 rfl) ?_
    refine lv_iconst (v := oI none) hx hb dX1_move_58 (by decide) ?_
    refine q_icmpO_eq (a := none) (b := none) (tgt := 72) (fun k h9 => by cases h9) (fun k h9 => by cases h9) hx hb dX1_move_59 (by decide) (fun k59 => ?_) (fun k59 => absurd rfl k59)
    refine lv_iconst (v := nI 0) hx hb dX1_move_72 (by decide) ?_
    refine lv_istore (lv' := [(5, .int (nI 0)), (4, .int (bI true)), (3, .int (bI true)), (0, .ref h), (1, .int (nI g)), (2, .int (oI none))]) hx hb dX1_move_73 hl (by decide) rfl (fun ls hl => ?_)
    refine lv_iconst (v := nI 0) hx hb dX1_move_75 (by decide) ?_
    refine lv_istore (lv' := [(6, .int (nI 0)), (5, .int (nI 0)), (4, .int (bI true)), (3, .int (bI true)), (0, .ref h), (1, .int (nI g)), (2, .int (oI none))]) hx hb dX1_move_76 hl (by decide) rfl (fun ls hl => ?_)
    have loop78 : ∀ (n : Nat) (i : Nat) (b : Bool), (i ≤ gc) → (gc + 1 ≤ i + n) → (b = !exU (bdf ex pa lev g 0) i) → ∀ (H : Heap) (locs : List Loc), va_P D vwCl (mW h ad cI cJ cZ td gc ex pa di qu dc dg da dh dt dv dd ds ak se pr th) H → va_D A (mW h ad cI cJ cZ td gc ex pa di qu dc dg da dh dt dv dd ds ak se pr th) → va_S A s.heap H locs → ∀ ls : Array Slot, lv_has ls 7 [(0, .ref h), (1, .int (nI g)), (2, .int (oI none)), (3, .int (bI true)), (4, .int (bI b)), (5, .int (nI 0)), (6, .int (nI i))] → W p l e ({ frames := 2, cells := 0, slots := 0, locals := 43 } : Room) s m ([.ref h, .int (nI g), .int (oI none)] : List Value).toArray below meth c H locs 0 0 (MQ below (wQ D (mW h ad cI cJ cZ td gc ex pa di qu dc dg da dh dt dv dd ds ak se pr th) (mW h ad cI cJ cZ td gc ex pa di qu dc dg da dh dt dv dd ds ak se pr 2) (some (.int (nI 0)))) ([.ref h, .int (nI g), .int (oI none)] : List Value).toArray s 0 0 A) (F0 m 78 ls []) := by
      intro n
      induction n with
      | zero => intro i b hle hn hc; omega
      | succ n ih =>
        intro i b hle hn hc H locs hP hD hS ls hl
        have hA7 : i < gc → i < 16 := fun h9 => by omega
        refine lv_iload hx hb dX1_move_78 (lv_at hl 6 rfl) ?_
        refine lv_aload_n hx hb dX1_move_80 rfl (lv_at hl 0 rfl) ?_
        refine va_get (D := D) (ci := 1) (v := .int (nI gc)) (C := RX1) (T := TX1) (N := 18) hx hb hts (iX1_move) hown hK hP 0 rfl rfl 1 (by decide) (hts (.fieldLink RX1 58 "ShopHubModel" "goods" "I") (by decide +kernel)) (fun _ h9 => h9) rfl dX1_move_81 ?_
        refine q_icmpN_ge (a := i) (b := gc) (tgt := 144) (by omega) (by omega) hx hb dX1_move_84 (by decide) (fun k84 => ?_) (fun k84 => ?_)
        · refine lv_aload_n hx hb dX1_move_144 rfl (lv_at hl 0 rfl) ?_
          refine lv_iload_n hx hb dX1_move_145 rfl (lv_at hl 3 rfl) ?_
          refine q_ifB_ne (b := true) (tgt := 153) hx hb dX1_move_146 (by decide) (fun k146 => ?_) (fun k146 => absurd k146 (by decide))
          refine lv_iload hx hb dX1_move_153 (lv_at hl 4 rfl) ?_
          refine q_ifB_eq (b := b) (tgt := 162) hx hb dX1_move_155 (by decide) (fun k155 => ?_) (fun k155 => absurd k155 (by rw [hc, show i = gc by omega, hbf]; decide))
          refine lv_iconst (v := nI 2) hx hb dX1_move_162 (by decide) ?_
          refine q_wcallI (r := bI (decide (0 < 2))) (w' := (mW h ad cI cJ cZ td gc ex pa di qu dc dg da dh dt dv dd ds ak se pr 2)) (va_runV (As := [.int (nI 2)]) (rest := []) ⟨hx, hb, hml, hown, hts⟩ (kX1_fails l D h ad cI cJ cZ td gc ex pa di qu dc dg da dh dt dv dd ds ak se pr th _ 2 (by decide)) (cwV 1 hts gX1_move_X1_fails rfl rfl rfl (by decide +kernel) ⟨Nat.le_of_ble_eq_true rfl, Nat.le_of_ble_eq_true rfl⟩) ⟨wP_blind, va_recv hK hP (ci := 1) (q0 := 0) rfl rfl, wP_pre hP hK hD⟩ rfl rfl hl.1 rfl (lv_room (Nat.le_of_ble_eq_true rfl)) dX1_move_163 ⟨Nat.zero_le _, Nat.zero_le _⟩) hD hS hA rfl (fun H locs hP hD hS => ?_)
          refine q_ifB_eq (b := decide (0 < 2)) (tgt := 171) hx hb dX1_move_166 (by decide) (fun k166 => absurd k166 (by decide)) (fun k166 => ?_)
          refine lv_iconst (v := nI 0) hx hb dX1_move_169 (by decide) ?_
          exact q_wretI hx hb hr hlocks hAe hP hS (rfl) dX1_move_170
        · refine lv_iload hx hb dX1_move_87 (lv_at hl 4 rfl) ?_
          refine q_ifB_eq (b := b) (tgt := 144) hx hb dX1_move_89 (by decide) (fun k89 => ?_) (fun k89 => ?_)
          · refine lv_aload_n hx hb dX1_move_144 rfl (lv_at hl 0 rfl) ?_
            refine lv_iload_n hx hb dX1_move_145 rfl (lv_at hl 3 rfl) ?_
            refine q_ifB_ne (b := true) (tgt := 153) hx hb dX1_move_146 (by decide) (fun k146 => ?_) (fun k146 => absurd k146 (by decide))
            refine lv_iload hx hb dX1_move_153 (lv_at hl 4 rfl) ?_
            refine q_ifB_eq (b := b) (tgt := 162) hx hb dX1_move_155 (by decide) (fun k155 => ?_) (fun k155 => absurd k155 (by rw [k89]; decide))
            refine lv_iconst (v := nI 2) hx hb dX1_move_162 (by decide) ?_
            refine q_wcallI (r := bI (decide (0 < 2))) (w' := (mW h ad cI cJ cZ td gc ex pa di qu dc dg da dh dt dv dd ds ak se pr 2)) (va_runV (As := [.int (nI 2)]) (rest := []) ⟨hx, hb, hml, hown, hts⟩ (kX1_fails l D h ad cI cJ cZ td gc ex pa di qu dc dg da dh dt dv dd ds ak se pr th _ 2 (by decide)) (cwV 1 hts gX1_move_X1_fails rfl rfl rfl (by decide +kernel) ⟨Nat.le_of_ble_eq_true rfl, Nat.le_of_ble_eq_true rfl⟩) ⟨wP_blind, va_recv hK hP (ci := 1) (q0 := 0) rfl rfl, wP_pre hP hK hD⟩ rfl rfl hl.1 rfl (lv_room (Nat.le_of_ble_eq_true rfl)) dX1_move_163 ⟨Nat.zero_le _, Nat.zero_le _⟩) hD hS hA rfl (fun H locs hP hD hS => ?_)
            refine q_ifB_eq (b := decide (0 < 2)) (tgt := 171) hx hb dX1_move_166 (by decide) (fun k166 => absurd k166 (by decide)) (fun k166 => ?_)
            refine lv_iconst (v := nI 0) hx hb dX1_move_169 (by decide) ?_
            exact q_wretI hx hb hr hlocks hAe hP hS (rfl) dX1_move_170
          · refine lv_aload_n hx hb dX1_move_92 rfl (lv_at hl 0 rfl) ?_
            refine va_get (D := D) (ci := 1) (v := .ref (ad 2)) (C := RX1) (T := TX1) (N := 18) hx hb hts (iX1_move) hown hK hP 0 rfl rfl 2 (by decide) (hts (.fieldLink RX1 7 "ShopHubModel" "isThere" "[Z") (by decide +kernel)) (fun _ h9 => h9) rfl dX1_move_93 ?_
            refine lv_iload hx hb dX1_move_96 (lv_at hl 6 rfl) ?_
            refine q_zld ex hx hb hK hP 1 0 rfl rfl (k := i) (by omega) (Nat.le_of_ble_eq_true rfl) dX1_move_98 ?_
            refine q_ifB_eq (b := ex i) (tgt := 131) hx hb dX1_move_99 (by decide) (fun k99 => ?_) (fun k99 => ?_)
            · refine lv_iconst (v := nI 1) hx hb dX1_move_131 (by decide) ?_
              refine lv_goto (tgt := 136) hx hb dX1_move_132 (by decide) ?_
              refine q_top (y := bI true) ((by decide : nI 1 = bI true)) ?_
              refine lv_istore (lv' := [(4, .int (bI true)), (0, .ref h), (1, .int (nI g)), (2, .int (oI none)), (3, .int (bI true)), (5, .int (nI 0)), (6, .int (nI i))]) hx hb dX1_move_136 hl (by decide) rfl (fun ls hl => ?_)
              refine lv_iinc (v := nI (i + 1)) (lv' := [(6, .int (nI (i + 1))), (4, .int (bI true)), (0, .ref h), (1, .int (nI g)), (2, .int (oI none)), (3, .int (bI true)), (5, .int (nI 0))]) hx hb dX1_move_138 hl (k := 6) rfl (i1_n i) (by decide) rfl (fun ls hl => ?_)
              refine lv_goto (tgt := 78) hx hb dX1_move_141 (by decide) ?_
              exact ih (i + 1) true (by omega) (by omega) (by rw [not_s (f := bdf ex pa lev g 0) (show bdf ex pa lev g 0 i = false by unfold bdf; rw [k99, Bool.false_and]), ← hc, k89]) _ _ hP hD hS _ (lv_sub hl [2, 3, 4, 5, 1, 6, 0] rfl)
            · have hLi := TI_le hti (hA7 (by omega)) k99
              refine lv_aload_n hx hb dX1_move_102 rfl (lv_at hl 0 rfl) ?_
              refine lv_iload hx hb dX1_move_103 (lv_at hl 6 rfl) ?_
              refine lv_iload_n hx hb dX1_move_105 rfl (lv_at hl 1 rfl) ?_
              refine q_callI (r := bI (wth ex pa g 3 (some i))) (va_runV (As := [.int (nI i), .int (nI g)]) (rest := []) ⟨hx, hb, hml, hown, hts⟩ (kX1_isBelow l D h ad cI cJ cZ td gc ex pa di qu dc dg da dh dt dv dd ds ak se pr th i g lev hti (by omega) k99 hg) (cwV 2 hts gX1_move_X1_isBelow rfl rfl rfl (by decide +kernel) ⟨Nat.le_of_ble_eq_true rfl, Nat.le_of_ble_eq_true rfl⟩) ⟨pP_blind, va_recv hK hP (ci := 1) (q0 := 0) rfl rfl, pP_pre hP hK⟩ rfl rfl hl.1 rfl (lv_room (Nat.le_of_ble_eq_true rfl)) dX1_move_106 ⟨Nat.zero_le _, Nat.zero_le _⟩) ?_
              refine q_ifB_eq (b := wth ex pa g 3 (some i)) (tgt := 131) hx hb dX1_move_109 (by decide) (fun k109 => ?_) (fun k109 => ?_)
              · refine lv_iconst (v := nI 1) hx hb dX1_move_131 (by decide) ?_
                refine lv_goto (tgt := 136) hx hb dX1_move_132 (by decide) ?_
                refine q_top (y := bI true) ((by decide : nI 1 = bI true)) ?_
                refine lv_istore (lv' := [(4, .int (bI true)), (0, .ref h), (1, .int (nI g)), (2, .int (oI none)), (3, .int (bI true)), (5, .int (nI 0)), (6, .int (nI i))]) hx hb dX1_move_136 hl (by decide) rfl (fun ls hl => ?_)
                refine lv_iinc (v := nI (i + 1)) (lv' := [(6, .int (nI (i + 1))), (4, .int (bI true)), (0, .ref h), (1, .int (nI g)), (2, .int (oI none)), (3, .int (bI true)), (5, .int (nI 0))]) hx hb dX1_move_138 hl (k := 6) rfl (i1_n i) (by decide) rfl (fun ls hl => ?_)
                refine lv_goto (tgt := 78) hx hb dX1_move_141 (by decide) ?_
                exact ih (i + 1) true (by omega) (by omega) (by rw [not_s (f := bdf ex pa lev g 0) (show bdf ex pa lev g 0 i = false by unfold bdf; rw [k109, Bool.false_and, Bool.and_false]), ← hc, k89]) _ _ hP hD hS _ (lv_sub hl [2, 3, 4, 5, 1, 6, 0] rfl)
              · refine lv_aload_n hx hb dX1_move_112 rfl (lv_at hl 0 rfl) ?_
                refine lv_iload hx hb dX1_move_113 (lv_at hl 6 rfl) ?_
                refine q_callI (r := nI (lev i)) (va_runV (As := [.int (nI i)]) (rest := []) ⟨hx, hb, hml, hown, hts⟩ (kX1_level l D h ad cI cJ cZ td gc ex pa di qu dc dg da dh dt dv dd ds ak se pr th i lev hti (by omega) k99) (cwV 1 hts gX1_move_X1_level rfl rfl rfl (by decide +kernel) ⟨Nat.le_of_ble_eq_true rfl, Nat.le_of_ble_eq_true rfl⟩) ⟨pP_blind, va_recv hK hP (ci := 1) (q0 := 0) rfl rfl, pP_pre hP hK⟩ rfl rfl hl.1 rfl (lv_room (Nat.le_of_ble_eq_true rfl)) dX1_move_115 ⟨Nat.zero_le _, Nat.zero_le _⟩) ?_
                refine lv_aload_n hx hb dX1_move_118 rfl (lv_at hl 0 rfl) ?_
                refine lv_iload_n hx hb dX1_move_119 rfl (lv_at hl 1 rfl) ?_
                refine q_callI (r := nI (lev g)) (va_runV (As := [.int (nI g)]) (rest := [.int (nI (lev i))]) ⟨hx, hb, hml, hown, hts⟩ (kX1_level l D h ad cI cJ cZ td gc ex pa di qu dc dg da dh dt dv dd ds ak se pr th g lev hti hg he) (cwV 1 hts gX1_move_X1_level rfl rfl rfl (by decide +kernel) ⟨Nat.le_of_ble_eq_true rfl, Nat.le_of_ble_eq_true rfl⟩) ⟨pP_blind, va_recv hK hP (ci := 1) (q0 := 0) rfl rfl, pP_pre hP hK⟩ rfl rfl hl.1 rfl (lv_room (Nat.le_of_ble_eq_true rfl)) dX1_move_120 ⟨Nat.zero_le _, Nat.zero_le _⟩) ?_
                refine q_top (y := zI ((lev g : Nat) : Int)) (nz (lev g)) ?_
                refine q_top2 (y := zI ((lev i : Nat) : Int)) (nz (lev i)) ?_
                refine q_subZ (a := ((lev i : Nat) : Int)) (b := ((lev g : Nat) : Int)) hx hb dX1_move_123 ?_
                refine lv_iload hx hb dX1_move_124 (lv_at hl 5 rfl) ?_
                refine q_top (y := zI ((0 : Nat) : Int)) (nz 0) ?_
                refine q_addZ (a := ((lev i : Nat) : Int) - ((lev g : Nat) : Int)) (b := ((0 : Nat) : Int)) hx hb dX1_move_126 ?_
                refine lv_iconst (v := nI 3) hx hb dX1_move_127 (by decide) ?_
                refine q_top (y := zI ((3 : Nat) : Int)) (nz 3) ?_
                refine q_icmpZ_ge (a := (((lev i : Nat) : Int) - ((lev g : Nat) : Int)) + ((0 : Nat) : Int)) (b := ((3 : Nat) : Int)) (tgt := 135) (by omega) (by omega) hx hb dX1_move_128 (by decide) (fun k128 => ?_) (fun k128 => ?_)
                · refine lv_iconst (v := nI 0) hx hb dX1_move_135 (by decide) ?_
                  refine q_top (y := bI false) ((by decide : nI 0 = bI false)) ?_
                  refine lv_istore (lv' := [(4, .int (bI false)), (0, .ref h), (1, .int (nI g)), (2, .int (oI none)), (3, .int (bI true)), (5, .int (nI 0)), (6, .int (nI i))]) hx hb dX1_move_136 hl (by decide) rfl (fun ls hl => ?_)
                  refine lv_iinc (v := nI (i + 1)) (lv' := [(6, .int (nI (i + 1))), (4, .int (bI false)), (0, .ref h), (1, .int (nI g)), (2, .int (oI none)), (3, .int (bI true)), (5, .int (nI 0))]) hx hb dX1_move_138 hl (k := 6) rfl (i1_n i) (by decide) rfl (fun ls hl => ?_)
                  refine lv_goto (tgt := 78) hx hb dX1_move_141 (by decide) ?_
                  exact ih (i + 1) false (by omega) (by omega) ((not_t (f := bdf ex pa lev g 0) (show bdf ex pa lev g 0 i = true by unfold bdf; rw [k99, k109, decide_eq_true (by omega)]; rfl)).symm) _ _ hP hD hS _ (lv_sub hl [2, 3, 4, 5, 1, 6, 0] rfl)
                · refine lv_iconst (v := nI 1) hx hb dX1_move_131 (by decide) ?_
                  refine lv_goto (tgt := 136) hx hb dX1_move_132 (by decide) ?_
                  refine q_top (y := bI true) ((by decide : nI 1 = bI true)) ?_
                  refine lv_istore (lv' := [(4, .int (bI true)), (0, .ref h), (1, .int (nI g)), (2, .int (oI none)), (3, .int (bI true)), (5, .int (nI 0)), (6, .int (nI i))]) hx hb dX1_move_136 hl (by decide) rfl (fun ls hl => ?_)
                  refine lv_iinc (v := nI (i + 1)) (lv' := [(6, .int (nI (i + 1))), (4, .int (bI true)), (0, .ref h), (1, .int (nI g)), (2, .int (oI none)), (3, .int (bI true)), (5, .int (nI 0))]) hx hb dX1_move_138 hl (k := 6) rfl (i1_n i) (by decide) rfl (fun ls hl => ?_)
                  refine lv_goto (tgt := 78) hx hb dX1_move_141 (by decide) ?_
                  exact ih (i + 1) true (by omega) (by omega) (by rw [not_s (f := bdf ex pa lev g 0) (show bdf ex pa lev g 0 i = false by unfold bdf; rw [decide_eq_false (by omega), Bool.and_false, Bool.and_false]), ← hc, k89]) _ _ hP hD hS _ (lv_sub hl [2, 3, 4, 5, 1, 6, 0] rfl)
    exact loop78 (gc + 1) 0 true (by omega) (by omega) rfl _ _ hP hD hS _ (lv_sub hl [4, 5, 6, 3, 2, 1, 0] rfl)
  | some q =>
    obtain ⟨hq, hq2⟩ := ho2 q rfl
    have hQ2 := TI_le hti hq hq2
    have hbf : exU (bdf ex pa lev g (lev q + 1)) gc = true := hbd
    refine lv_iload_n hx hb dX1_move_8 rfl (lv_at hl 2 rfl) ?_
    refine lv_iconst (v := oI none) hx hb dX1_move_9 (by decide) ?_
    refine q_top2 (y := oI (some q)) ((rfl : nI q = oI (some q))) ?_
    refine q_icmpO_eq (a := some q) (b := none) (tgt := 21) (fun k h9 => by cases h9; omega) (fun k h9 => by cases h9) hx hb dX1_move_10 (by decide) (fun k10 => (by cases k10)) (fun k10 => ?_)
    refine lv_aload_n hx hb dX1_move_13 rfl (lv_at hl 0 rfl) ?_
    refine lv_iload_n hx hb dX1_move_14 rfl (lv_at hl 2 rfl) ?_
    refine q_callI (r := bI (ex q)) (va_runV (As := [.int (nI q)]) (rest := []) ⟨hx, hb, hml, hown, hts⟩ (kX1_isGoodN l D h ad cI cJ cZ td gc ex pa di qu dc dg da dh dt dv dd ds ak se pr th q hq hgc hxg) (cwV 1 hts gX1_move_X1_isGood rfl rfl rfl (by decide +kernel) ⟨Nat.le_of_ble_eq_true rfl, Nat.le_of_ble_eq_true rfl⟩) ⟨pP_blind, va_recv hK hP (ci := 1) (q0 := 0) rfl rfl, pP_pre hP hK⟩ rfl rfl hl.1 rfl (lv_room (Nat.le_of_ble_eq_true rfl)) dX1_move_15 ⟨Nat.zero_le _, Nat.zero_le _⟩) ?_
    refine q_ifB_eq (b := ex q) (tgt := 25) hx hb dX1_move_18 (by decide) (fun k18 => absurd k18 (by rw [hq2]; decide)) (fun k18 => ?_)
    refine lv_iconst (v := nI 1) hx hb dX1_move_21 (by decide) ?_
    refine lv_goto (tgt := 26) hx hb dX1_move_22 (by decide) ?_
    refine q_top (y := bI true) ((by decide : nI 1 = bI true)) ?_
    refine lv_istore_n (lv' := [(3, .int (bI true)), (0, .ref h), (1, .int (nI g)), (2, .int (nI q))]) hx hb dX1_move_26 rfl hl (by decide) rfl (fun ls hl => ?_)
    refine lv_iload_n hx hb dX1_move_27 rfl (lv_at hl 0 rfl) ?_
    refine q_ifB_eq (b := true) (tgt := 49) hx hb dX1_move_28 (by decide) (fun k28 => absurd k28 (by decide)) (fun k28 => ?_)
    refine lv_iload_n hx hb dX1_move_31 rfl (lv_at hl 3 rfl) ?_
    refine lv_iconst (v := oI none) hx hb dX1_move_32 (by decide) ?_
    refine q_top2 (y := oI (some q)) ((rfl : nI q = oI (some q))) ?_
    refine q_icmpO_eq (a := some q) (b := none) (tgt := 45) (fun k h9 => by cases h9; omega) (fun k h9 => by cases h9) hx hb dX1_move_33 (by decide) (fun k33 => (by cases k33)) (fun k33 => ?_)
    refine lv_aload_n hx hb dX1_move_36 rfl (lv_at hl 1 rfl) ?_
    refine lv_iload_n hx hb dX1_move_37 rfl (lv_at hl 3 rfl) ?_
    refine lv_iload_n hx hb dX1_move_38 rfl (lv_at hl 2 rfl) ?_
    refine q_callI (r := bI (wth ex pa g 3 (some q))) (va_runV (As := [.int (nI q), .int (nI g)]) (rest := []) ⟨hx, hb, hml, hown, hts⟩ (kX1_isBelow l D h ad cI cJ cZ td gc ex pa di qu dc dg da dh dt dv dd ds ak se pr th q g lev hti hq hq2 hg) (cwV 2 hts gX1_move_X1_isBelow rfl rfl rfl (by decide +kernel) ⟨Nat.le_of_ble_eq_true rfl, Nat.le_of_ble_eq_true rfl⟩) ⟨pP_blind, va_recv hK hP (ci := 1) (q0 := 0) rfl rfl, pP_pre hP hK⟩ rfl rfl hl.1 rfl (lv_room (Nat.le_of_ble_eq_true rfl)) dX1_move_39 ⟨Nat.zero_le _, Nat.zero_le _⟩) ?_
    refine q_ifB_ne (b := wth ex pa g 3 (some q)) (tgt := 49) hx hb dX1_move_42 (by decide) (fun k42 => absurd k42 (by rw [hw]; decide)) (fun k42 => ?_)
    refine lv_iconst (v := nI 1) hx hb dX1_move_45 (by decide) ?_
    refine lv_goto (tgt := 50) hx hb dX1_move_46 (by decide) ?_
    refine q_top (y := bI true) ((by decide : nI 1 = bI true)) ?_
    refine lv_istore (lv' := [(4, .int (bI true)), (3, .int (bI true)), (0, .ref h), (1, .int (nI g)), (2, .int (nI q))]) hx hb dX1_move_50 hl (by decide) rfl (fun ls hl => ?_)
    refine lv_iload hx hb dX1_move_52 (lv_at hl 0 rfl) ?_
    refine q_ifB_eq (b := true) (tgt := 72) hx hb dX1_move_54 (by decide) (fun k54 => absurd k54 (by decide)) (fun k54 => ?_)
    refine lv_iload_n hx hb dX1_move_57 rfl (lv_at hl 4 rfl) ?_
    refine lv_iconst (v := oI none) hx hb dX1_move_58 (by decide) ?_
    refine q_top2 (y := oI (some q)) ((rfl : nI q = oI (some q))) ?_
    refine q_icmpO_eq (a := some q) (b := none) (tgt := 72) (fun k h9 => by cases h9; omega) (fun k h9 => by cases h9) hx hb dX1_move_59 (by decide) (fun k59 => (by cases k59)) (fun k59 => ?_)
    refine lv_aload_n hx hb dX1_move_62 rfl (lv_at hl 2 rfl) ?_
    refine lv_iload_n hx hb dX1_move_63 rfl (lv_at hl 4 rfl) ?_
    refine q_callI (r := nI (lev q)) (va_runV (As := [.int (nI q)]) (rest := []) ⟨hx, hb, hml, hown, hts⟩ (kX1_level l D h ad cI cJ cZ td gc ex pa di qu dc dg da dh dt dv dd ds ak se pr th q lev hti hq hq2) (cwV 1 hts gX1_move_X1_level rfl rfl rfl (by decide +kernel) ⟨Nat.le_of_ble_eq_true rfl, Nat.le_of_ble_eq_true rfl⟩) ⟨pP_blind, va_recv hK hP (ci := 1) (q0 := 0) rfl rfl, pP_pre hP hK⟩ rfl rfl hl.1 rfl (lv_room (Nat.le_of_ble_eq_true rfl)) dX1_move_64 ⟨Nat.zero_le _, Nat.zero_le _⟩) ?_
    refine lv_iconst (v := nI 1) hx hb dX1_move_67 (by decide) ?_
    refine q_addN (a := lev q) (b := 1) hx hb dX1_move_68 ?_
    refine lv_goto (tgt := 73) hx hb dX1_move_69 (by decide) ?_
    refine lv_istore (lv' := [(5, .int (nI ((lev q) + 1))), (4, .int (bI true)), (3, .int (bI true)), (0, .ref h), (1, .int (nI g)), (2, .int (nI q))]) hx hb dX1_move_73 hl (by decide) rfl (fun ls hl => ?_)
    refine lv_iconst (v := nI 0) hx hb dX1_move_75 (by decide) ?_
    refine lv_istore (lv' := [(6, .int (nI 0)), (5, .int (nI ((lev q) + 1))), (4, .int (bI true)), (3, .int (bI true)), (0, .ref h), (1, .int (nI g)), (2, .int (nI q))]) hx hb dX1_move_76 hl (by decide) rfl (fun ls hl => ?_)
    have loop78 : ∀ (n : Nat) (i : Nat) (b : Bool), (i ≤ gc) → (gc + 1 ≤ i + n) → (b = !exU (bdf ex pa lev g (lev q + 1)) i) → ∀ (H : Heap) (locs : List Loc), va_P D vwCl (mW h ad cI cJ cZ td gc ex pa di qu dc dg da dh dt dv dd ds ak se pr th) H → va_D A (mW h ad cI cJ cZ td gc ex pa di qu dc dg da dh dt dv dd ds ak se pr th) → va_S A s.heap H locs → ∀ ls : Array Slot, lv_has ls 7 [(0, .ref h), (1, .int (nI g)), (2, .int (nI q)), (3, .int (bI true)), (4, .int (bI b)), (5, .int (nI ((lev q) + 1))), (6, .int (nI i))] → W p l e ({ frames := 2, cells := 0, slots := 0, locals := 43 } : Room) s m ([.ref h, .int (nI g), .int (oI (some q))] : List Value).toArray below meth c H locs 0 0 (MQ below (wQ D (mW h ad cI cJ cZ td gc ex pa di qu dc dg da dh dt dv dd ds ak se pr th) (mW h ad cI cJ cZ td gc ex pa di qu dc dg da dh dt dv dd ds ak se pr 2) (some (.int (nI 0)))) ([.ref h, .int (nI g), .int (oI (some q))] : List Value).toArray s 0 0 A) (F0 m 78 ls []) := by
      intro n
      induction n with
      | zero => intro i b hle hn hc; omega
      | succ n ih =>
        intro i b hle hn hc H locs hP hD hS ls hl
        have hA7 : i < gc → i < 16 := fun h9 => by omega
        refine lv_iload hx hb dX1_move_78 (lv_at hl 6 rfl) ?_
        refine lv_aload_n hx hb dX1_move_80 rfl (lv_at hl 0 rfl) ?_
        refine va_get (D := D) (ci := 1) (v := .int (nI gc)) (C := RX1) (T := TX1) (N := 18) hx hb hts (iX1_move) hown hK hP 0 rfl rfl 1 (by decide) (hts (.fieldLink RX1 58 "ShopHubModel" "goods" "I") (by decide +kernel)) (fun _ h9 => h9) rfl dX1_move_81 ?_
        refine q_icmpN_ge (a := i) (b := gc) (tgt := 144) (by omega) (by omega) hx hb dX1_move_84 (by decide) (fun k84 => ?_) (fun k84 => ?_)
        · refine lv_aload_n hx hb dX1_move_144 rfl (lv_at hl 0 rfl) ?_
          refine lv_iload_n hx hb dX1_move_145 rfl (lv_at hl 3 rfl) ?_
          refine q_ifB_ne (b := true) (tgt := 153) hx hb dX1_move_146 (by decide) (fun k146 => ?_) (fun k146 => absurd k146 (by decide))
          refine lv_iload hx hb dX1_move_153 (lv_at hl 4 rfl) ?_
          refine q_ifB_eq (b := b) (tgt := 162) hx hb dX1_move_155 (by decide) (fun k155 => ?_) (fun k155 => absurd k155 (by rw [hc, show i = gc by omega, hbf]; decide))
          refine lv_iconst (v := nI 2) hx hb dX1_move_162 (by decide) ?_
          refine q_wcallI (r := bI (decide (0 < 2))) (w' := (mW h ad cI cJ cZ td gc ex pa di qu dc dg da dh dt dv dd ds ak se pr 2)) (va_runV (As := [.int (nI 2)]) (rest := []) ⟨hx, hb, hml, hown, hts⟩ (kX1_fails l D h ad cI cJ cZ td gc ex pa di qu dc dg da dh dt dv dd ds ak se pr th _ 2 (by decide)) (cwV 1 hts gX1_move_X1_fails rfl rfl rfl (by decide +kernel) ⟨Nat.le_of_ble_eq_true rfl, Nat.le_of_ble_eq_true rfl⟩) ⟨wP_blind, va_recv hK hP (ci := 1) (q0 := 0) rfl rfl, wP_pre hP hK hD⟩ rfl rfl hl.1 rfl (lv_room (Nat.le_of_ble_eq_true rfl)) dX1_move_163 ⟨Nat.zero_le _, Nat.zero_le _⟩) hD hS hA rfl (fun H locs hP hD hS => ?_)
          refine q_ifB_eq (b := decide (0 < 2)) (tgt := 171) hx hb dX1_move_166 (by decide) (fun k166 => absurd k166 (by decide)) (fun k166 => ?_)
          refine lv_iconst (v := nI 0) hx hb dX1_move_169 (by decide) ?_
          exact q_wretI hx hb hr hlocks hAe hP hS (rfl) dX1_move_170
        · refine lv_iload hx hb dX1_move_87 (lv_at hl 4 rfl) ?_
          refine q_ifB_eq (b := b) (tgt := 144) hx hb dX1_move_89 (by decide) (fun k89 => ?_) (fun k89 => ?_)
          · refine lv_aload_n hx hb dX1_move_144 rfl (lv_at hl 0 rfl) ?_
            refine lv_iload_n hx hb dX1_move_145 rfl (lv_at hl 3 rfl) ?_
            refine q_ifB_ne (b := true) (tgt := 153) hx hb dX1_move_146 (by decide) (fun k146 => ?_) (fun k146 => absurd k146 (by decide))
            refine lv_iload hx hb dX1_move_153 (lv_at hl 4 rfl) ?_
            refine q_ifB_eq (b := b) (tgt := 162) hx hb dX1_move_155 (by decide) (fun k155 => ?_) (fun k155 => absurd k155 (by rw [k89]; decide))
            refine lv_iconst (v := nI 2) hx hb dX1_move_162 (by decide) ?_
            refine q_wcallI (r := bI (decide (0 < 2))) (w' := (mW h ad cI cJ cZ td gc ex pa di qu dc dg da dh dt dv dd ds ak se pr 2)) (va_runV (As := [.int (nI 2)]) (rest := []) ⟨hx, hb, hml, hown, hts⟩ (kX1_fails l D h ad cI cJ cZ td gc ex pa di qu dc dg da dh dt dv dd ds ak se pr th _ 2 (by decide)) (cwV 1 hts gX1_move_X1_fails rfl rfl rfl (by decide +kernel) ⟨Nat.le_of_ble_eq_true rfl, Nat.le_of_ble_eq_true rfl⟩) ⟨wP_blind, va_recv hK hP (ci := 1) (q0 := 0) rfl rfl, wP_pre hP hK hD⟩ rfl rfl hl.1 rfl (lv_room (Nat.le_of_ble_eq_true rfl)) dX1_move_163 ⟨Nat.zero_le _, Nat.zero_le _⟩) hD hS hA rfl (fun H locs hP hD hS => ?_)
            refine q_ifB_eq (b := decide (0 < 2)) (tgt := 171) hx hb dX1_move_166 (by decide) (fun k166 => absurd k166 (by decide)) (fun k166 => ?_)
            refine lv_iconst (v := nI 0) hx hb dX1_move_169 (by decide) ?_
            exact q_wretI hx hb hr hlocks hAe hP hS (rfl) dX1_move_170
          · refine lv_aload_n hx hb dX1_move_92 rfl (lv_at hl 0 rfl) ?_
            refine va_get (D := D) (ci := 1) (v := .ref (ad 2)) (C := RX1) (T := TX1) (N := 18) hx hb hts (iX1_move) hown hK hP 0 rfl rfl 2 (by decide) (hts (.fieldLink RX1 7 "ShopHubModel" "isThere" "[Z") (by decide +kernel)) (fun _ h9 => h9) rfl dX1_move_93 ?_
            refine lv_iload hx hb dX1_move_96 (lv_at hl 6 rfl) ?_
            refine q_zld ex hx hb hK hP 1 0 rfl rfl (k := i) (by omega) (Nat.le_of_ble_eq_true rfl) dX1_move_98 ?_
            refine q_ifB_eq (b := ex i) (tgt := 131) hx hb dX1_move_99 (by decide) (fun k99 => ?_) (fun k99 => ?_)
            · refine lv_iconst (v := nI 1) hx hb dX1_move_131 (by decide) ?_
              refine lv_goto (tgt := 136) hx hb dX1_move_132 (by decide) ?_
              refine q_top (y := bI true) ((by decide : nI 1 = bI true)) ?_
              refine lv_istore (lv' := [(4, .int (bI true)), (0, .ref h), (1, .int (nI g)), (2, .int (nI q)), (3, .int (bI true)), (5, .int (nI ((lev q) + 1))), (6, .int (nI i))]) hx hb dX1_move_136 hl (by decide) rfl (fun ls hl => ?_)
              refine lv_iinc (v := nI (i + 1)) (lv' := [(6, .int (nI (i + 1))), (4, .int (bI true)), (0, .ref h), (1, .int (nI g)), (2, .int (nI q)), (3, .int (bI true)), (5, .int (nI ((lev q) + 1)))]) hx hb dX1_move_138 hl (k := 6) rfl (i1_n i) (by decide) rfl (fun ls hl => ?_)
              refine lv_goto (tgt := 78) hx hb dX1_move_141 (by decide) ?_
              exact ih (i + 1) true (by omega) (by omega) (by rw [not_s (f := bdf ex pa lev g (lev q + 1)) (show bdf ex pa lev g (lev q + 1) i = false by unfold bdf; rw [k99, Bool.false_and]), ← hc, k89]) _ _ hP hD hS _ (lv_sub hl [2, 3, 4, 5, 1, 6, 0] rfl)
            · have hLi := TI_le hti (hA7 (by omega)) k99
              refine lv_aload_n hx hb dX1_move_102 rfl (lv_at hl 0 rfl) ?_
              refine lv_iload hx hb dX1_move_103 (lv_at hl 6 rfl) ?_
              refine lv_iload_n hx hb dX1_move_105 rfl (lv_at hl 1 rfl) ?_
              refine q_callI (r := bI (wth ex pa g 3 (some i))) (va_runV (As := [.int (nI i), .int (nI g)]) (rest := []) ⟨hx, hb, hml, hown, hts⟩ (kX1_isBelow l D h ad cI cJ cZ td gc ex pa di qu dc dg da dh dt dv dd ds ak se pr th i g lev hti (by omega) k99 hg) (cwV 2 hts gX1_move_X1_isBelow rfl rfl rfl (by decide +kernel) ⟨Nat.le_of_ble_eq_true rfl, Nat.le_of_ble_eq_true rfl⟩) ⟨pP_blind, va_recv hK hP (ci := 1) (q0 := 0) rfl rfl, pP_pre hP hK⟩ rfl rfl hl.1 rfl (lv_room (Nat.le_of_ble_eq_true rfl)) dX1_move_106 ⟨Nat.zero_le _, Nat.zero_le _⟩) ?_
              refine q_ifB_eq (b := wth ex pa g 3 (some i)) (tgt := 131) hx hb dX1_move_109 (by decide) (fun k109 => ?_) (fun k109 => ?_)
              · refine lv_iconst (v := nI 1) hx hb dX1_move_131 (by decide) ?_
                refine lv_goto (tgt := 136) hx hb dX1_move_132 (by decide) ?_
                refine q_top (y := bI true) ((by decide : nI 1 = bI true)) ?_
                refine lv_istore (lv' := [(4, .int (bI true)), (0, .ref h), (1, .int (nI g)), (2, .int (nI q)), (3, .int (bI true)), (5, .int (nI ((lev q) + 1))), (6, .int (nI i))]) hx hb dX1_move_136 hl (by decide) rfl (fun ls hl => ?_)
                refine lv_iinc (v := nI (i + 1)) (lv' := [(6, .int (nI (i + 1))), (4, .int (bI true)), (0, .ref h), (1, .int (nI g)), (2, .int (nI q)), (3, .int (bI true)), (5, .int (nI ((lev q) + 1)))]) hx hb dX1_move_138 hl (k := 6) rfl (i1_n i) (by decide) rfl (fun ls hl => ?_)
                refine lv_goto (tgt := 78) hx hb dX1_move_141 (by decide) ?_
                exact ih (i + 1) true (by omega) (by omega) (by rw [not_s (f := bdf ex pa lev g (lev q + 1)) (show bdf ex pa lev g (lev q + 1) i = false by unfold bdf; rw [k109, Bool.false_and, Bool.and_false]), ← hc, k89]) _ _ hP hD hS _ (lv_sub hl [2, 3, 4, 5, 1, 6, 0] rfl)
              · refine lv_aload_n hx hb dX1_move_112 rfl (lv_at hl 0 rfl) ?_
                refine lv_iload hx hb dX1_move_113 (lv_at hl 6 rfl) ?_
                refine q_callI (r := nI (lev i)) (va_runV (As := [.int (nI i)]) (rest := []) ⟨hx, hb, hml, hown, hts⟩ (kX1_level l D h ad cI cJ cZ td gc ex pa di qu dc dg da dh dt dv dd ds ak se pr th i lev hti (by omega) k99) (cwV 1 hts gX1_move_X1_level rfl rfl rfl (by decide +kernel) ⟨Nat.le_of_ble_eq_true rfl, Nat.le_of_ble_eq_true rfl⟩) ⟨pP_blind, va_recv hK hP (ci := 1) (q0 := 0) rfl rfl, pP_pre hP hK⟩ rfl rfl hl.1 rfl (lv_room (Nat.le_of_ble_eq_true rfl)) dX1_move_115 ⟨Nat.zero_le _, Nat.zero_le _⟩) ?_
                refine lv_aload_n hx hb dX1_move_118 rfl (lv_at hl 0 rfl) ?_
                refine lv_iload_n hx hb dX1_move_119 rfl (lv_at hl 1 rfl) ?_
                refine q_callI (r := nI (lev g)) (va_runV (As := [.int (nI g)]) (rest := [.int (nI (lev i))]) ⟨hx, hb, hml, hown, hts⟩ (kX1_level l D h ad cI cJ cZ td gc ex pa di qu dc dg da dh dt dv dd ds ak se pr th g lev hti hg he) (cwV 1 hts gX1_move_X1_level rfl rfl rfl (by decide +kernel) ⟨Nat.le_of_ble_eq_true rfl, Nat.le_of_ble_eq_true rfl⟩) ⟨pP_blind, va_recv hK hP (ci := 1) (q0 := 0) rfl rfl, pP_pre hP hK⟩ rfl rfl hl.1 rfl (lv_room (Nat.le_of_ble_eq_true rfl)) dX1_move_120 ⟨Nat.zero_le _, Nat.zero_le _⟩) ?_
                refine q_top (y := zI ((lev g : Nat) : Int)) (nz (lev g)) ?_
                refine q_top2 (y := zI ((lev i : Nat) : Int)) (nz (lev i)) ?_
                refine q_subZ (a := ((lev i : Nat) : Int)) (b := ((lev g : Nat) : Int)) hx hb dX1_move_123 ?_
                refine lv_iload hx hb dX1_move_124 (lv_at hl 5 rfl) ?_
                refine q_top (y := zI (((lev q) + 1 : Nat) : Int)) (nz ((lev q) + 1)) ?_
                refine q_addZ (a := ((lev i : Nat) : Int) - ((lev g : Nat) : Int)) (b := (((lev q) + 1 : Nat) : Int)) hx hb dX1_move_126 ?_
                refine lv_iconst (v := nI 3) hx hb dX1_move_127 (by decide) ?_
                refine q_top (y := zI ((3 : Nat) : Int)) (nz 3) ?_
                refine q_icmpZ_ge (a := (((lev i : Nat) : Int) - ((lev g : Nat) : Int)) + (((lev q) + 1 : Nat) : Int)) (b := ((3 : Nat) : Int)) (tgt := 135) (by omega) (by omega) hx hb dX1_move_128 (by decide) (fun k128 => ?_) (fun k128 => ?_)
                · refine lv_iconst (v := nI 0) hx hb dX1_move_135 (by decide) ?_
                  refine q_top (y := bI false) ((by decide : nI 0 = bI false)) ?_
                  refine lv_istore (lv' := [(4, .int (bI false)), (0, .ref h), (1, .int (nI g)), (2, .int (nI q)), (3, .int (bI true)), (5, .int (nI ((lev q) + 1))), (6, .int (nI i))]) hx hb dX1_move_136 hl (by decide) rfl (fun ls hl => ?_)
                  refine lv_iinc (v := nI (i + 1)) (lv' := [(6, .int (nI (i + 1))), (4, .int (bI false)), (0, .ref h), (1, .int (nI g)), (2, .int (nI q)), (3, .int (bI true)), (5, .int (nI ((lev q) + 1)))]) hx hb dX1_move_138 hl (k := 6) rfl (i1_n i) (by decide) rfl (fun ls hl => ?_)
                  refine lv_goto (tgt := 78) hx hb dX1_move_141 (by decide) ?_
                  exact ih (i + 1) false (by omega) (by omega) ((not_t (f := bdf ex pa lev g (lev q + 1)) (show bdf ex pa lev g (lev q + 1) i = true by unfold bdf; rw [k99, k109, decide_eq_true (by omega)]; rfl)).symm) _ _ hP hD hS _ (lv_sub hl [2, 3, 4, 5, 1, 6, 0] rfl)
                · refine lv_iconst (v := nI 1) hx hb dX1_move_131 (by decide) ?_
                  refine lv_goto (tgt := 136) hx hb dX1_move_132 (by decide) ?_
                  refine q_top (y := bI true) ((by decide : nI 1 = bI true)) ?_
                  refine lv_istore (lv' := [(4, .int (bI true)), (0, .ref h), (1, .int (nI g)), (2, .int (nI q)), (3, .int (bI true)), (5, .int (nI ((lev q) + 1))), (6, .int (nI i))]) hx hb dX1_move_136 hl (by decide) rfl (fun ls hl => ?_)
                  refine lv_iinc (v := nI (i + 1)) (lv' := [(6, .int (nI (i + 1))), (4, .int (bI true)), (0, .ref h), (1, .int (nI g)), (2, .int (nI q)), (3, .int (bI true)), (5, .int (nI ((lev q) + 1)))]) hx hb dX1_move_138 hl (k := 6) rfl (i1_n i) (by decide) rfl (fun ls hl => ?_)
                  refine lv_goto (tgt := 78) hx hb dX1_move_141 (by decide) ?_
                  exact ih (i + 1) true (by omega) (by omega) (by rw [not_s (f := bdf ex pa lev g (lev q + 1)) (show bdf ex pa lev g (lev q + 1) i = false by unfold bdf; rw [decide_eq_false (by omega), Bool.and_false, Bool.and_false]), ← hc, k89]) _ _ hP hD hS _ (lv_sub hl [2, 3, 4, 5, 1, 6, 0] rfl)
    exact loop78 (gc + 1) 0 true (by omega) (by omega) rfl _ _ hP hD hS _ (lv_sub hl [4, 5, 6, 3, 2, 1, 0] rfl)

set_option maxHeartbeats 4000000 in
set_option maxRecDepth 100000 in
theorem kX1_move1 (l : Launch) (D : va_G) (h : Nat) (ad : Nat → Nat) (cI cJ cZ : ClassId) (td : Nat) (gc : Nat) (ex : Nat → Bool) (pa : Nat → Option Nat) (di : Nat → Nat) (qu : Nat → Nat) (dc : Nat) (dg : Nat → Nat) (da : Nat → Nat) (dh : Nat → Option Nat) (dt : Nat → Option Nat) (dv : Nat → Option Nat) (dd : Nat → Nat) (ds : Nat → Nat) (ak : Nat → Bool) (se : Nat → Option Nat) (pr : Nat → Option Nat) (th : Nat) (sz : Nat) (g o : Int32) (hgc : gc ≤ 16) (hxg : ∀ j, j < 16 → ex j = true → j < gc) (hg : gBad ex g ∨ ∃ j, j < 16 ∧ g = nI j ∧ ex j = true ∧ gBad ex o ∧ o ≠ -1) : Met l yX1_move wsX1_move ({ frames := 2, cells := 0, slots := 0, locals := 43 } : Room) (wP D (mW h ad cI cJ cZ td gc ex pa di qu dc dg da dh dt dv dd ds ak se pr th) (mT cI cJ cZ) [.ref h, .int g, .int o] sz) (wQ D (mW h ad cI cJ cZ td gc ex pa di qu dc dg da dh dt dv dd ds ak se pr th) (mW h ad cI cJ cZ td gc ex pa di qu dc dg da dh dt dv dd ds ak se pr 1) (some (.int (nI 0)))) 0 0 (va_A (mW h ad cI cJ cZ td gc ex pa di qu dc dg da dh dt dv dd ds ak se pr th) sz) := by
  refine Met.ofW (cc := cX1_move) (maxL := 7) (ret := (some .int)) (by decide) rfl ?_
  intro p e s m args below meth c s₁ B hml hv
  obtain ⟨rfl, hsz, hP, hK, hD0⟩ := hv
  have hx := B.exec
  have hb := B.bytes
  have hr := B.returns
  have hts := atoms_spec (ws := wsX1_move) B.pre
  have hown : s.vm.findClass RX1 = some m.cls := findClass_of_methodNamed B.named
  have hlocks := B.notSynchronized
  subst hsz
  have hD := hD0.self (sz := s.heap.size)
  generalize hAe : va_A (mW h ad cI cJ cZ td gc ex pa di qu dc dg da dh dt dv dd ds ak se pr th) s.heap.size = A at hD ⊢
  have hA : ∀ q : Nat, s.heap.size ≤ q → A q := fun q h => by rw [← hAe]; exact Or.inr h
  have hS : va_S A s.heap s.heap [] := va_S.rf
  have hl := lv_entry ([.ref h, .int g, .int o]) (n := 7) (Nat.le_of_ble_eq_true rfl)
  rw [lg_entry_eq]
  generalize (lg_sl ([.ref h, .int g, .int o]) ++ List.replicate (7 - (lg_sl ([.ref h, .int g, .int o])).length) Slot.unset).toArray = ls at hl ⊢
  have hl : lv_has ls 7 [(0, .ref h), (1, .int g), (2, .int o)] := hl
  rcases hg with hg | ⟨j, hj, rfl, he, hg, hne⟩
  · refine lv_aload_n hx hb dX1_move_0 rfl (lv_at hl 0 rfl) ?_
    rcases gBad_c hg with hg | ⟨j, hj, rfl, he⟩
    · refine lv_iload_n hx hb dX1_move_1 rfl (lv_at hl 1 rfl) ?_
      refine q_callI (r := bI false) (va_runV (As := [.int g]) (rest := []) ⟨hx, hb, hml, hown, hts⟩ (kX1_isGoodR l D h ad cI cJ cZ td gc ex pa di qu dc dg da dh dt dv dd ds ak se pr th g hgc hg) (cwV 1 hts gX1_move_X1_isGood rfl rfl rfl (by decide +kernel) ⟨Nat.le_of_ble_eq_true rfl, Nat.le_of_ble_eq_true rfl⟩) ⟨pP_blind, va_recv hK hP (ci := 1) (q0 := 0) rfl rfl, pP_pre hP hK⟩ rfl rfl hl.1 rfl (lv_room (Nat.le_of_ble_eq_true rfl)) dX1_move_2 ⟨Nat.zero_le _, Nat.zero_le _⟩) ?_
      refine q_ifB_eq (b := false) (tgt := 25) hx hb dX1_move_5 (by decide) (fun k5 => ?_) (fun k5 => absurd k5 (by decide))
      refine lv_iconst (v := nI 0) hx hb dX1_move_25 (by decide) ?_
      refine q_top (y := bI false) ((by decide : nI 0 = bI false)) ?_
      refine lv_istore_n (lv' := [(3, .int (bI false)), (0, .ref h), (1, .int g), (2, .int o)]) hx hb dX1_move_26 rfl hl (by decide) rfl (fun ls hl => ?_)
      refine lv_iload_n hx hb dX1_move_27 rfl (lv_at hl 0 rfl) ?_
      refine q_ifB_eq (b := false) (tgt := 49) hx hb dX1_move_28 (by decide) (fun k28 => ?_) (fun k28 => absurd k28 (by decide))
      refine lv_iconst (v := nI 0) hx hb dX1_move_49 (by decide) ?_
      refine q_top (y := bI false) ((by decide : nI 0 = bI false)) ?_
      refine lv_istore (lv' := [(4, .int (bI false)), (3, .int (bI false)), (0, .ref h), (1, .int g), (2, .int o)]) hx hb dX1_move_50 hl (by decide) rfl (fun ls hl => ?_)
      refine lv_iload hx hb dX1_move_52 (lv_at hl 0 rfl) ?_
      refine q_ifB_eq (b := false) (tgt := 72) hx hb dX1_move_54 (by decide) (fun k54 => ?_) (fun k54 => absurd k54 (by decide))
      refine lv_iconst (v := nI 0) hx hb dX1_move_72 (by decide) ?_
      refine lv_istore (lv' := [(5, .int (nI 0)), (4, .int (bI false)), (3, .int (bI false)), (0, .ref h), (1, .int g), (2, .int o)]) hx hb dX1_move_73 hl (by decide) rfl (fun ls hl => ?_)
      refine lv_iconst (v := nI 0) hx hb dX1_move_75 (by decide) ?_
      refine lv_istore (lv' := [(6, .int (nI 0)), (5, .int (nI 0)), (4, .int (bI false)), (3, .int (bI false)), (0, .ref h), (1, .int g), (2, .int o)]) hx hb dX1_move_76 hl (by decide) rfl (fun ls hl => ?_)
      refine lv_iload hx hb dX1_move_78 (lv_at hl 0 rfl) ?_
      refine lv_aload_n hx hb dX1_move_80 rfl (lv_at hl 4 rfl) ?_
      refine va_get (D := D) (ci := 1) (v := .int (nI gc)) (C := RX1) (T := TX1) (N := 18) hx hb hts (iX1_move) hown hK hP 0 rfl rfl 1 (by decide) (hts (.fieldLink RX1 58 "ShopHubModel" "goods" "I") (by decide +kernel)) (fun _ h9 => h9) rfl dX1_move_81 ?_
      refine q_icmpN_ge (a := 0) (b := gc) (tgt := 144) (by omega) (by omega) hx hb dX1_move_84 (by decide) (fun k84 => ?_) (fun k84 => ?_)
      · refine lv_aload_n hx hb dX1_move_144 rfl (lv_at hl 4 rfl) ?_
        refine lv_iload_n hx hb dX1_move_145 rfl (lv_at hl 3 rfl) ?_
        refine q_ifB_ne (b := false) (tgt := 153) hx hb dX1_move_146 (by decide) (fun k146 => absurd k146 (by decide)) (fun k146 => ?_)
        refine lv_iconst (v := nI 1) hx hb dX1_move_149 (by decide) ?_
        refine lv_goto (tgt := 163) hx hb dX1_move_150 (by decide) ?_
        refine q_wcallI (r := bI (decide (0 < 1))) (w' := (mW h ad cI cJ cZ td gc ex pa di qu dc dg da dh dt dv dd ds ak se pr 1)) (va_runV (As := [.int (nI 1)]) (rest := []) ⟨hx, hb, hml, hown, hts⟩ (kX1_fails l D h ad cI cJ cZ td gc ex pa di qu dc dg da dh dt dv dd ds ak se pr th _ 1 (by decide)) (cwV 1 hts gX1_move_X1_fails rfl rfl rfl (by decide +kernel) ⟨Nat.le_of_ble_eq_true rfl, Nat.le_of_ble_eq_true rfl⟩) ⟨wP_blind, va_recv hK hP (ci := 1) (q0 := 0) rfl rfl, wP_pre hP hK hD⟩ rfl rfl hl.1 rfl (lv_room (Nat.le_of_ble_eq_true rfl)) dX1_move_163 ⟨Nat.zero_le _, Nat.zero_le _⟩) hD hS hA rfl (fun H locs hP hD hS => ?_)
        refine q_ifB_eq (b := decide (0 < 1)) (tgt := 171) hx hb dX1_move_166 (by decide) (fun k166 => absurd k166 (by decide)) (fun k166 => ?_)
        refine lv_iconst (v := nI 0) hx hb dX1_move_169 (by decide) ?_
        exact q_wretI hx hb hr hlocks hAe hP hS (rfl) dX1_move_170
      · refine lv_iload hx hb dX1_move_87 (lv_at hl 2 rfl) ?_
        refine q_ifB_eq (b := false) (tgt := 144) hx hb dX1_move_89 (by decide) (fun k89 => ?_) (fun k89 => absurd k89 (by decide))
        refine lv_aload_n hx hb dX1_move_144 rfl (lv_at hl 4 rfl) ?_
        refine lv_iload_n hx hb dX1_move_145 rfl (lv_at hl 3 rfl) ?_
        refine q_ifB_ne (b := false) (tgt := 153) hx hb dX1_move_146 (by decide) (fun k146 => absurd k146 (by decide)) (fun k146 => ?_)
        refine lv_iconst (v := nI 1) hx hb dX1_move_149 (by decide) ?_
        refine lv_goto (tgt := 163) hx hb dX1_move_150 (by decide) ?_
        refine q_wcallI (r := bI (decide (0 < 1))) (w' := (mW h ad cI cJ cZ td gc ex pa di qu dc dg da dh dt dv dd ds ak se pr 1)) (va_runV (As := [.int (nI 1)]) (rest := []) ⟨hx, hb, hml, hown, hts⟩ (kX1_fails l D h ad cI cJ cZ td gc ex pa di qu dc dg da dh dt dv dd ds ak se pr th _ 1 (by decide)) (cwV 1 hts gX1_move_X1_fails rfl rfl rfl (by decide +kernel) ⟨Nat.le_of_ble_eq_true rfl, Nat.le_of_ble_eq_true rfl⟩) ⟨wP_blind, va_recv hK hP (ci := 1) (q0 := 0) rfl rfl, wP_pre hP hK hD⟩ rfl rfl hl.1 rfl (lv_room (Nat.le_of_ble_eq_true rfl)) dX1_move_163 ⟨Nat.zero_le _, Nat.zero_le _⟩) hD hS hA rfl (fun H locs hP hD hS => ?_)
        refine q_ifB_eq (b := decide (0 < 1)) (tgt := 171) hx hb dX1_move_166 (by decide) (fun k166 => absurd k166 (by decide)) (fun k166 => ?_)
        refine lv_iconst (v := nI 0) hx hb dX1_move_169 (by decide) ?_
        exact q_wretI hx hb hr hlocks hAe hP hS (rfl) dX1_move_170
    · refine lv_iload_n hx hb dX1_move_1 rfl (lv_at hl 1 rfl) ?_
      refine q_callI (r := bI (ex j)) (va_runV (As := [.int (nI j)]) (rest := []) ⟨hx, hb, hml, hown, hts⟩ (kX1_isGoodN l D h ad cI cJ cZ td gc ex pa di qu dc dg da dh dt dv dd ds ak se pr th j hj hgc hxg) (cwV 1 hts gX1_move_X1_isGood rfl rfl rfl (by decide +kernel) ⟨Nat.le_of_ble_eq_true rfl, Nat.le_of_ble_eq_true rfl⟩) ⟨pP_blind, va_recv hK hP (ci := 1) (q0 := 0) rfl rfl, pP_pre hP hK⟩ rfl rfl hl.1 rfl (lv_room (Nat.le_of_ble_eq_true rfl)) dX1_move_2 ⟨Nat.zero_le _, Nat.zero_le _⟩) ?_
      refine q_ifB_eq (b := ex j) (tgt := 25) hx hb dX1_move_5 (by decide) (fun k5 => ?_) (fun k5 => absurd k5 (by rw [he]; decide))
      refine lv_iconst (v := nI 0) hx hb dX1_move_25 (by decide) ?_
      refine q_top (y := bI false) ((by decide : nI 0 = bI false)) ?_
      refine lv_istore_n (lv' := [(3, .int (bI false)), (0, .ref h), (1, .int (nI j)), (2, .int o)]) hx hb dX1_move_26 rfl hl (by decide) rfl (fun ls hl => ?_)
      refine lv_iload_n hx hb dX1_move_27 rfl (lv_at hl 0 rfl) ?_
      refine q_ifB_eq (b := false) (tgt := 49) hx hb dX1_move_28 (by decide) (fun k28 => ?_) (fun k28 => absurd k28 (by decide))
      refine lv_iconst (v := nI 0) hx hb dX1_move_49 (by decide) ?_
      refine q_top (y := bI false) ((by decide : nI 0 = bI false)) ?_
      refine lv_istore (lv' := [(4, .int (bI false)), (3, .int (bI false)), (0, .ref h), (1, .int (nI j)), (2, .int o)]) hx hb dX1_move_50 hl (by decide) rfl (fun ls hl => ?_)
      refine lv_iload hx hb dX1_move_52 (lv_at hl 0 rfl) ?_
      refine q_ifB_eq (b := false) (tgt := 72) hx hb dX1_move_54 (by decide) (fun k54 => ?_) (fun k54 => absurd k54 (by decide))
      refine lv_iconst (v := nI 0) hx hb dX1_move_72 (by decide) ?_
      refine lv_istore (lv' := [(5, .int (nI 0)), (4, .int (bI false)), (3, .int (bI false)), (0, .ref h), (1, .int (nI j)), (2, .int o)]) hx hb dX1_move_73 hl (by decide) rfl (fun ls hl => ?_)
      refine lv_iconst (v := nI 0) hx hb dX1_move_75 (by decide) ?_
      refine lv_istore (lv' := [(6, .int (nI 0)), (5, .int (nI 0)), (4, .int (bI false)), (3, .int (bI false)), (0, .ref h), (1, .int (nI j)), (2, .int o)]) hx hb dX1_move_76 hl (by decide) rfl (fun ls hl => ?_)
      refine lv_iload hx hb dX1_move_78 (lv_at hl 0 rfl) ?_
      refine lv_aload_n hx hb dX1_move_80 rfl (lv_at hl 4 rfl) ?_
      refine va_get (D := D) (ci := 1) (v := .int (nI gc)) (C := RX1) (T := TX1) (N := 18) hx hb hts (iX1_move) hown hK hP 0 rfl rfl 1 (by decide) (hts (.fieldLink RX1 58 "ShopHubModel" "goods" "I") (by decide +kernel)) (fun _ h9 => h9) rfl dX1_move_81 ?_
      refine q_icmpN_ge (a := 0) (b := gc) (tgt := 144) (by omega) (by omega) hx hb dX1_move_84 (by decide) (fun k84 => ?_) (fun k84 => ?_)
      · refine lv_aload_n hx hb dX1_move_144 rfl (lv_at hl 4 rfl) ?_
        refine lv_iload_n hx hb dX1_move_145 rfl (lv_at hl 3 rfl) ?_
        refine q_ifB_ne (b := false) (tgt := 153) hx hb dX1_move_146 (by decide) (fun k146 => absurd k146 (by decide)) (fun k146 => ?_)
        refine lv_iconst (v := nI 1) hx hb dX1_move_149 (by decide) ?_
        refine lv_goto (tgt := 163) hx hb dX1_move_150 (by decide) ?_
        refine q_wcallI (r := bI (decide (0 < 1))) (w' := (mW h ad cI cJ cZ td gc ex pa di qu dc dg da dh dt dv dd ds ak se pr 1)) (va_runV (As := [.int (nI 1)]) (rest := []) ⟨hx, hb, hml, hown, hts⟩ (kX1_fails l D h ad cI cJ cZ td gc ex pa di qu dc dg da dh dt dv dd ds ak se pr th _ 1 (by decide)) (cwV 1 hts gX1_move_X1_fails rfl rfl rfl (by decide +kernel) ⟨Nat.le_of_ble_eq_true rfl, Nat.le_of_ble_eq_true rfl⟩) ⟨wP_blind, va_recv hK hP (ci := 1) (q0 := 0) rfl rfl, wP_pre hP hK hD⟩ rfl rfl hl.1 rfl (lv_room (Nat.le_of_ble_eq_true rfl)) dX1_move_163 ⟨Nat.zero_le _, Nat.zero_le _⟩) hD hS hA rfl (fun H locs hP hD hS => ?_)
        refine q_ifB_eq (b := decide (0 < 1)) (tgt := 171) hx hb dX1_move_166 (by decide) (fun k166 => absurd k166 (by decide)) (fun k166 => ?_)
        refine lv_iconst (v := nI 0) hx hb dX1_move_169 (by decide) ?_
        exact q_wretI hx hb hr hlocks hAe hP hS (rfl) dX1_move_170
      · refine lv_iload hx hb dX1_move_87 (lv_at hl 2 rfl) ?_
        refine q_ifB_eq (b := false) (tgt := 144) hx hb dX1_move_89 (by decide) (fun k89 => ?_) (fun k89 => absurd k89 (by decide))
        refine lv_aload_n hx hb dX1_move_144 rfl (lv_at hl 4 rfl) ?_
        refine lv_iload_n hx hb dX1_move_145 rfl (lv_at hl 3 rfl) ?_
        refine q_ifB_ne (b := false) (tgt := 153) hx hb dX1_move_146 (by decide) (fun k146 => absurd k146 (by decide)) (fun k146 => ?_)
        refine lv_iconst (v := nI 1) hx hb dX1_move_149 (by decide) ?_
        refine lv_goto (tgt := 163) hx hb dX1_move_150 (by decide) ?_
        refine q_wcallI (r := bI (decide (0 < 1))) (w' := (mW h ad cI cJ cZ td gc ex pa di qu dc dg da dh dt dv dd ds ak se pr 1)) (va_runV (As := [.int (nI 1)]) (rest := []) ⟨hx, hb, hml, hown, hts⟩ (kX1_fails l D h ad cI cJ cZ td gc ex pa di qu dc dg da dh dt dv dd ds ak se pr th _ 1 (by decide)) (cwV 1 hts gX1_move_X1_fails rfl rfl rfl (by decide +kernel) ⟨Nat.le_of_ble_eq_true rfl, Nat.le_of_ble_eq_true rfl⟩) ⟨wP_blind, va_recv hK hP (ci := 1) (q0 := 0) rfl rfl, wP_pre hP hK hD⟩ rfl rfl hl.1 rfl (lv_room (Nat.le_of_ble_eq_true rfl)) dX1_move_163 ⟨Nat.zero_le _, Nat.zero_le _⟩) hD hS hA rfl (fun H locs hP hD hS => ?_)
        refine q_ifB_eq (b := decide (0 < 1)) (tgt := 171) hx hb dX1_move_166 (by decide) (fun k166 => absurd k166 (by decide)) (fun k166 => ?_)
        refine lv_iconst (v := nI 0) hx hb dX1_move_169 (by decide) ?_
        exact q_wretI hx hb hr hlocks hAe hP hS (rfl) dX1_move_170
  · refine lv_aload_n hx hb dX1_move_0 rfl (lv_at hl 0 rfl) ?_
    refine lv_iload_n hx hb dX1_move_1 rfl (lv_at hl 1 rfl) ?_
    refine q_callI (r := bI (ex j)) (va_runV (As := [.int (nI j)]) (rest := []) ⟨hx, hb, hml, hown, hts⟩ (kX1_isGoodN l D h ad cI cJ cZ td gc ex pa di qu dc dg da dh dt dv dd ds ak se pr th j hj hgc hxg) (cwV 1 hts gX1_move_X1_isGood rfl rfl rfl (by decide +kernel) ⟨Nat.le_of_ble_eq_true rfl, Nat.le_of_ble_eq_true rfl⟩) ⟨pP_blind, va_recv hK hP (ci := 1) (q0 := 0) rfl rfl, pP_pre hP hK⟩ rfl rfl hl.1 rfl (lv_room (Nat.le_of_ble_eq_true rfl)) dX1_move_2 ⟨Nat.zero_le _, Nat.zero_le _⟩) ?_
    refine q_ifB_eq (b := ex j) (tgt := 25) hx hb dX1_move_5 (by decide) (fun k5 => absurd k5 (by rw [he]; decide)) (fun k5 => ?_)
    refine lv_iload_n hx hb dX1_move_8 rfl (lv_at hl 2 rfl) ?_
    refine lv_iconst (v := oI none) hx hb dX1_move_9 (by decide) ?_
    refine lv_icmp_eq (tgt := 21) hx hb dX1_move_10 (by decide) (fun k10 => absurd k10 hne) (fun k10 => ?_)
    rcases gBad_c hg with hg | ⟨j2, hj2, rfl, he2⟩
    · refine lv_aload_n hx hb dX1_move_13 rfl (lv_at hl 0 rfl) ?_
      refine lv_iload_n hx hb dX1_move_14 rfl (lv_at hl 2 rfl) ?_
      refine q_callI (r := bI false) (va_runV (As := [.int o]) (rest := []) ⟨hx, hb, hml, hown, hts⟩ (kX1_isGoodR l D h ad cI cJ cZ td gc ex pa di qu dc dg da dh dt dv dd ds ak se pr th o hgc hg) (cwV 1 hts gX1_move_X1_isGood rfl rfl rfl (by decide +kernel) ⟨Nat.le_of_ble_eq_true rfl, Nat.le_of_ble_eq_true rfl⟩) ⟨pP_blind, va_recv hK hP (ci := 1) (q0 := 0) rfl rfl, pP_pre hP hK⟩ rfl rfl hl.1 rfl (lv_room (Nat.le_of_ble_eq_true rfl)) dX1_move_15 ⟨Nat.zero_le _, Nat.zero_le _⟩) ?_
      refine q_ifB_eq (b := false) (tgt := 25) hx hb dX1_move_18 (by decide) (fun k18 => ?_) (fun k18 => absurd k18 (by decide))
      refine lv_iconst (v := nI 0) hx hb dX1_move_25 (by decide) ?_
      refine q_top (y := bI false) ((by decide : nI 0 = bI false)) ?_
      refine lv_istore_n (lv' := [(3, .int (bI false)), (0, .ref h), (1, .int (nI j)), (2, .int o)]) hx hb dX1_move_26 rfl hl (by decide) rfl (fun ls hl => ?_)
      refine lv_iload_n hx hb dX1_move_27 rfl (lv_at hl 0 rfl) ?_
      refine q_ifB_eq (b := false) (tgt := 49) hx hb dX1_move_28 (by decide) (fun k28 => ?_) (fun k28 => absurd k28 (by decide))
      refine lv_iconst (v := nI 0) hx hb dX1_move_49 (by decide) ?_
      refine q_top (y := bI false) ((by decide : nI 0 = bI false)) ?_
      refine lv_istore (lv' := [(4, .int (bI false)), (3, .int (bI false)), (0, .ref h), (1, .int (nI j)), (2, .int o)]) hx hb dX1_move_50 hl (by decide) rfl (fun ls hl => ?_)
      refine lv_iload hx hb dX1_move_52 (lv_at hl 0 rfl) ?_
      refine q_ifB_eq (b := false) (tgt := 72) hx hb dX1_move_54 (by decide) (fun k54 => ?_) (fun k54 => absurd k54 (by decide))
      refine lv_iconst (v := nI 0) hx hb dX1_move_72 (by decide) ?_
      refine lv_istore (lv' := [(5, .int (nI 0)), (4, .int (bI false)), (3, .int (bI false)), (0, .ref h), (1, .int (nI j)), (2, .int o)]) hx hb dX1_move_73 hl (by decide) rfl (fun ls hl => ?_)
      refine lv_iconst (v := nI 0) hx hb dX1_move_75 (by decide) ?_
      refine lv_istore (lv' := [(6, .int (nI 0)), (5, .int (nI 0)), (4, .int (bI false)), (3, .int (bI false)), (0, .ref h), (1, .int (nI j)), (2, .int o)]) hx hb dX1_move_76 hl (by decide) rfl (fun ls hl => ?_)
      refine lv_iload hx hb dX1_move_78 (lv_at hl 0 rfl) ?_
      refine lv_aload_n hx hb dX1_move_80 rfl (lv_at hl 4 rfl) ?_
      refine va_get (D := D) (ci := 1) (v := .int (nI gc)) (C := RX1) (T := TX1) (N := 18) hx hb hts (iX1_move) hown hK hP 0 rfl rfl 1 (by decide) (hts (.fieldLink RX1 58 "ShopHubModel" "goods" "I") (by decide +kernel)) (fun _ h9 => h9) rfl dX1_move_81 ?_
      refine q_icmpN_ge (a := 0) (b := gc) (tgt := 144) (by omega) (by omega) hx hb dX1_move_84 (by decide) (fun k84 => ?_) (fun k84 => ?_)
      · refine lv_aload_n hx hb dX1_move_144 rfl (lv_at hl 4 rfl) ?_
        refine lv_iload_n hx hb dX1_move_145 rfl (lv_at hl 3 rfl) ?_
        refine q_ifB_ne (b := false) (tgt := 153) hx hb dX1_move_146 (by decide) (fun k146 => absurd k146 (by decide)) (fun k146 => ?_)
        refine lv_iconst (v := nI 1) hx hb dX1_move_149 (by decide) ?_
        refine lv_goto (tgt := 163) hx hb dX1_move_150 (by decide) ?_
        refine q_wcallI (r := bI (decide (0 < 1))) (w' := (mW h ad cI cJ cZ td gc ex pa di qu dc dg da dh dt dv dd ds ak se pr 1)) (va_runV (As := [.int (nI 1)]) (rest := []) ⟨hx, hb, hml, hown, hts⟩ (kX1_fails l D h ad cI cJ cZ td gc ex pa di qu dc dg da dh dt dv dd ds ak se pr th _ 1 (by decide)) (cwV 1 hts gX1_move_X1_fails rfl rfl rfl (by decide +kernel) ⟨Nat.le_of_ble_eq_true rfl, Nat.le_of_ble_eq_true rfl⟩) ⟨wP_blind, va_recv hK hP (ci := 1) (q0 := 0) rfl rfl, wP_pre hP hK hD⟩ rfl rfl hl.1 rfl (lv_room (Nat.le_of_ble_eq_true rfl)) dX1_move_163 ⟨Nat.zero_le _, Nat.zero_le _⟩) hD hS hA rfl (fun H locs hP hD hS => ?_)
        refine q_ifB_eq (b := decide (0 < 1)) (tgt := 171) hx hb dX1_move_166 (by decide) (fun k166 => absurd k166 (by decide)) (fun k166 => ?_)
        refine lv_iconst (v := nI 0) hx hb dX1_move_169 (by decide) ?_
        exact q_wretI hx hb hr hlocks hAe hP hS (rfl) dX1_move_170
      · refine lv_iload hx hb dX1_move_87 (lv_at hl 2 rfl) ?_
        refine q_ifB_eq (b := false) (tgt := 144) hx hb dX1_move_89 (by decide) (fun k89 => ?_) (fun k89 => absurd k89 (by decide))
        refine lv_aload_n hx hb dX1_move_144 rfl (lv_at hl 4 rfl) ?_
        refine lv_iload_n hx hb dX1_move_145 rfl (lv_at hl 3 rfl) ?_
        refine q_ifB_ne (b := false) (tgt := 153) hx hb dX1_move_146 (by decide) (fun k146 => absurd k146 (by decide)) (fun k146 => ?_)
        refine lv_iconst (v := nI 1) hx hb dX1_move_149 (by decide) ?_
        refine lv_goto (tgt := 163) hx hb dX1_move_150 (by decide) ?_
        refine q_wcallI (r := bI (decide (0 < 1))) (w' := (mW h ad cI cJ cZ td gc ex pa di qu dc dg da dh dt dv dd ds ak se pr 1)) (va_runV (As := [.int (nI 1)]) (rest := []) ⟨hx, hb, hml, hown, hts⟩ (kX1_fails l D h ad cI cJ cZ td gc ex pa di qu dc dg da dh dt dv dd ds ak se pr th _ 1 (by decide)) (cwV 1 hts gX1_move_X1_fails rfl rfl rfl (by decide +kernel) ⟨Nat.le_of_ble_eq_true rfl, Nat.le_of_ble_eq_true rfl⟩) ⟨wP_blind, va_recv hK hP (ci := 1) (q0 := 0) rfl rfl, wP_pre hP hK hD⟩ rfl rfl hl.1 rfl (lv_room (Nat.le_of_ble_eq_true rfl)) dX1_move_163 ⟨Nat.zero_le _, Nat.zero_le _⟩) hD hS hA rfl (fun H locs hP hD hS => ?_)
        refine q_ifB_eq (b := decide (0 < 1)) (tgt := 171) hx hb dX1_move_166 (by decide) (fun k166 => absurd k166 (by decide)) (fun k166 => ?_)
        refine lv_iconst (v := nI 0) hx hb dX1_move_169 (by decide) ?_
        exact q_wretI hx hb hr hlocks hAe hP hS (rfl) dX1_move_170
    · refine lv_aload_n hx hb dX1_move_13 rfl (lv_at hl 0 rfl) ?_
      refine lv_iload_n hx hb dX1_move_14 rfl (lv_at hl 2 rfl) ?_
      refine q_callI (r := bI (ex j2)) (va_runV (As := [.int (nI j2)]) (rest := []) ⟨hx, hb, hml, hown, hts⟩ (kX1_isGoodN l D h ad cI cJ cZ td gc ex pa di qu dc dg da dh dt dv dd ds ak se pr th j2 hj2 hgc hxg) (cwV 1 hts gX1_move_X1_isGood rfl rfl rfl (by decide +kernel) ⟨Nat.le_of_ble_eq_true rfl, Nat.le_of_ble_eq_true rfl⟩) ⟨pP_blind, va_recv hK hP (ci := 1) (q0 := 0) rfl rfl, pP_pre hP hK⟩ rfl rfl hl.1 rfl (lv_room (Nat.le_of_ble_eq_true rfl)) dX1_move_15 ⟨Nat.zero_le _, Nat.zero_le _⟩) ?_
      refine q_ifB_eq (b := ex j2) (tgt := 25) hx hb dX1_move_18 (by decide) (fun k18 => ?_) (fun k18 => absurd k18 (by rw [he2]; decide))
      refine lv_iconst (v := nI 0) hx hb dX1_move_25 (by decide) ?_
      refine q_top (y := bI false) ((by decide : nI 0 = bI false)) ?_
      refine lv_istore_n (lv' := [(3, .int (bI false)), (0, .ref h), (1, .int (nI j)), (2, .int (nI j2))]) hx hb dX1_move_26 rfl hl (by decide) rfl (fun ls hl => ?_)
      refine lv_iload_n hx hb dX1_move_27 rfl (lv_at hl 0 rfl) ?_
      refine q_ifB_eq (b := false) (tgt := 49) hx hb dX1_move_28 (by decide) (fun k28 => ?_) (fun k28 => absurd k28 (by decide))
      refine lv_iconst (v := nI 0) hx hb dX1_move_49 (by decide) ?_
      refine q_top (y := bI false) ((by decide : nI 0 = bI false)) ?_
      refine lv_istore (lv' := [(4, .int (bI false)), (3, .int (bI false)), (0, .ref h), (1, .int (nI j)), (2, .int (nI j2))]) hx hb dX1_move_50 hl (by decide) rfl (fun ls hl => ?_)
      refine lv_iload hx hb dX1_move_52 (lv_at hl 0 rfl) ?_
      refine q_ifB_eq (b := false) (tgt := 72) hx hb dX1_move_54 (by decide) (fun k54 => ?_) (fun k54 => absurd k54 (by decide))
      refine lv_iconst (v := nI 0) hx hb dX1_move_72 (by decide) ?_
      refine lv_istore (lv' := [(5, .int (nI 0)), (4, .int (bI false)), (3, .int (bI false)), (0, .ref h), (1, .int (nI j)), (2, .int (nI j2))]) hx hb dX1_move_73 hl (by decide) rfl (fun ls hl => ?_)
      refine lv_iconst (v := nI 0) hx hb dX1_move_75 (by decide) ?_
      refine lv_istore (lv' := [(6, .int (nI 0)), (5, .int (nI 0)), (4, .int (bI false)), (3, .int (bI false)), (0, .ref h), (1, .int (nI j)), (2, .int (nI j2))]) hx hb dX1_move_76 hl (by decide) rfl (fun ls hl => ?_)
      refine lv_iload hx hb dX1_move_78 (lv_at hl 0 rfl) ?_
      refine lv_aload_n hx hb dX1_move_80 rfl (lv_at hl 4 rfl) ?_
      refine va_get (D := D) (ci := 1) (v := .int (nI gc)) (C := RX1) (T := TX1) (N := 18) hx hb hts (iX1_move) hown hK hP 0 rfl rfl 1 (by decide) (hts (.fieldLink RX1 58 "ShopHubModel" "goods" "I") (by decide +kernel)) (fun _ h9 => h9) rfl dX1_move_81 ?_
      refine q_icmpN_ge (a := 0) (b := gc) (tgt := 144) (by omega) (by omega) hx hb dX1_move_84 (by decide) (fun k84 => ?_) (fun k84 => ?_)
      · refine lv_aload_n hx hb dX1_move_144 rfl (lv_at hl 4 rfl) ?_
        refine lv_iload_n hx hb dX1_move_145 rfl (lv_at hl 3 rfl) ?_
        refine q_ifB_ne (b := false) (tgt := 153) hx hb dX1_move_146 (by decide) (fun k146 => absurd k146 (by decide)) (fun k146 => ?_)
        refine lv_iconst (v := nI 1) hx hb dX1_move_149 (by decide) ?_
        refine lv_goto (tgt := 163) hx hb dX1_move_150 (by decide) ?_
        refine q_wcallI (r := bI (decide (0 < 1))) (w' := (mW h ad cI cJ cZ td gc ex pa di qu dc dg da dh dt dv dd ds ak se pr 1)) (va_runV (As := [.int (nI 1)]) (rest := []) ⟨hx, hb, hml, hown, hts⟩ (kX1_fails l D h ad cI cJ cZ td gc ex pa di qu dc dg da dh dt dv dd ds ak se pr th _ 1 (by decide)) (cwV 1 hts gX1_move_X1_fails rfl rfl rfl (by decide +kernel) ⟨Nat.le_of_ble_eq_true rfl, Nat.le_of_ble_eq_true rfl⟩) ⟨wP_blind, va_recv hK hP (ci := 1) (q0 := 0) rfl rfl, wP_pre hP hK hD⟩ rfl rfl hl.1 rfl (lv_room (Nat.le_of_ble_eq_true rfl)) dX1_move_163 ⟨Nat.zero_le _, Nat.zero_le _⟩) hD hS hA rfl (fun H locs hP hD hS => ?_)
        refine q_ifB_eq (b := decide (0 < 1)) (tgt := 171) hx hb dX1_move_166 (by decide) (fun k166 => absurd k166 (by decide)) (fun k166 => ?_)
        refine lv_iconst (v := nI 0) hx hb dX1_move_169 (by decide) ?_
        exact q_wretI hx hb hr hlocks hAe hP hS (rfl) dX1_move_170
      · refine lv_iload hx hb dX1_move_87 (lv_at hl 2 rfl) ?_
        refine q_ifB_eq (b := false) (tgt := 144) hx hb dX1_move_89 (by decide) (fun k89 => ?_) (fun k89 => absurd k89 (by decide))
        refine lv_aload_n hx hb dX1_move_144 rfl (lv_at hl 4 rfl) ?_
        refine lv_iload_n hx hb dX1_move_145 rfl (lv_at hl 3 rfl) ?_
        refine q_ifB_ne (b := false) (tgt := 153) hx hb dX1_move_146 (by decide) (fun k146 => absurd k146 (by decide)) (fun k146 => ?_)
        refine lv_iconst (v := nI 1) hx hb dX1_move_149 (by decide) ?_
        refine lv_goto (tgt := 163) hx hb dX1_move_150 (by decide) ?_
        refine q_wcallI (r := bI (decide (0 < 1))) (w' := (mW h ad cI cJ cZ td gc ex pa di qu dc dg da dh dt dv dd ds ak se pr 1)) (va_runV (As := [.int (nI 1)]) (rest := []) ⟨hx, hb, hml, hown, hts⟩ (kX1_fails l D h ad cI cJ cZ td gc ex pa di qu dc dg da dh dt dv dd ds ak se pr th _ 1 (by decide)) (cwV 1 hts gX1_move_X1_fails rfl rfl rfl (by decide +kernel) ⟨Nat.le_of_ble_eq_true rfl, Nat.le_of_ble_eq_true rfl⟩) ⟨wP_blind, va_recv hK hP (ci := 1) (q0 := 0) rfl rfl, wP_pre hP hK hD⟩ rfl rfl hl.1 rfl (lv_room (Nat.le_of_ble_eq_true rfl)) dX1_move_163 ⟨Nat.zero_le _, Nat.zero_le _⟩) hD hS hA rfl (fun H locs hP hD hS => ?_)
        refine q_ifB_eq (b := decide (0 < 1)) (tgt := 171) hx hb dX1_move_166 (by decide) (fun k166 => absurd k166 (by decide)) (fun k166 => ?_)
        refine lv_iconst (v := nI 0) hx hb dX1_move_169 (by decide) ?_
        exact q_wretI hx hb hr hlocks hAe hP hS (rfl) dX1_move_170

set_option maxHeartbeats 4000000 in
set_option maxRecDepth 100000 in
theorem kX1_delete (l : Launch) (D : va_G) (h : Nat) (ad : Nat → Nat) (cI cJ cZ : ClassId) (td : Nat) (gc : Nat) (ex : Nat → Bool) (pa : Nat → Option Nat) (di : Nat → Nat) (qu : Nat → Nat) (dc : Nat) (dg : Nat → Nat) (da : Nat → Nat) (dh : Nat → Option Nat) (dt : Nat → Option Nat) (dv : Nat → Option Nat) (dd : Nat → Nat) (ds : Nat → Nat) (ak : Nat → Bool) (se : Nat → Option Nat) (pr : Nat → Option Nat) (th : Nat) (sz : Nat) (g : Nat) (hg : g < 16) (he : ex g = true) (hpr : PR pa) (hqu : ∀ k, k < 256 → qu k ≤ 20) (hgc : gc ≤ 16) (hxg : ∀ j, j < 16 → ex j = true → j < gc) (hbd : ∀ k, k < gc → bdd ex pa qu g k = false) : Met l yX1_delete wsX1_delete ({ frames := 2, cells := 0, slots := 0, locals := 43 } : Room) (wP D (mW h ad cI cJ cZ td gc ex pa di qu dc dg da dh dt dv dd ds ak se pr th) (mT cI cJ cZ) [.ref h, .int (nI g)] sz) (wQ D (mW h ad cI cJ cZ td gc ex pa di qu dc dg da dh dt dv dd ds ak se pr th) (mW h ad cI cJ cZ td gc (va_up ex g false) pa di qu dc dg da dh dt dv dd ds ak se pr 0) none) 0 0 (va_A (mW h ad cI cJ cZ td gc ex pa di qu dc dg da dh dt dv dd ds ak se pr th) sz) := by
  refine Met.ofW (cc := cX1_delete) (maxL := 5) (ret := none) (by decide) rfl ?_
  intro p e s m args below meth c s₁ B hml hv
  obtain ⟨rfl, hsz, hP, hK, hD0⟩ := hv
  have hx := B.exec
  have hb := B.bytes
  have hr := B.returns
  have hts := atoms_spec (ws := wsX1_delete) B.pre
  have hown : s.vm.findClass RX1 = some m.cls := findClass_of_methodNamed B.named
  have hlocks := B.notSynchronized
  subst hsz
  have hD := hD0.self (sz := s.heap.size)
  generalize hAe : va_A (mW h ad cI cJ cZ td gc ex pa di qu dc dg da dh dt dv dd ds ak se pr th) s.heap.size = A at hD ⊢
  have hA : ∀ q : Nat, s.heap.size ≤ q → A q := fun q h => by rw [← hAe]; exact Or.inr h
  have hS : va_S A s.heap s.heap [] := va_S.rf
  have hl := lv_entry ([.ref h, .int (nI g)]) (n := 5) (Nat.le_of_ble_eq_true rfl)
  rw [lg_entry_eq]
  generalize (lg_sl ([.ref h, .int (nI g)]) ++ List.replicate (5 - (lg_sl ([.ref h, .int (nI g)])).length) Slot.unset).toArray = ls at hl ⊢
  have hl : lv_has ls 5 [(0, .ref h), (1, .int (nI g))] := hl
  refine lv_aload_n hx hb dX1_delete_0 rfl (lv_at hl 0 rfl) ?_
  refine lv_iload_n hx hb dX1_delete_1 rfl (lv_at hl 1 rfl) ?_
  refine q_callI (r := bI (ex g)) (va_runV (As := [.int (nI g)]) (rest := []) ⟨hx, hb, hml, hown, hts⟩ (kX1_isGoodN l D h ad cI cJ cZ td gc ex pa di qu dc dg da dh dt dv dd ds ak se pr th g hg hgc hxg) (cwV 1 hts gX1_delete_X1_isGood rfl rfl rfl (by decide +kernel) ⟨Nat.le_of_ble_eq_true rfl, Nat.le_of_ble_eq_true rfl⟩) ⟨pP_blind, va_recv hK hP (ci := 1) (q0 := 0) rfl rfl, pP_pre hP hK⟩ rfl rfl hl.1 rfl (lv_room (Nat.le_of_ble_eq_true rfl)) dX1_delete_2 ⟨Nat.zero_le _, Nat.zero_le _⟩) ?_
  refine q_top (y := bI true) (by rw [he]) ?_
  refine lv_istore_n (lv' := [(2, .int (bI true)), (0, .ref h), (1, .int (nI g))]) hx hb dX1_delete_5 rfl hl (by decide) rfl (fun ls hl => ?_)
  refine lv_iload_n hx hb dX1_delete_6 rfl (lv_at hl 0 rfl) ?_
  refine lv_istore_n (lv' := [(3, .int (bI true)), (2, .int (bI true)), (0, .ref h), (1, .int (nI g))]) hx hb dX1_delete_7 rfl hl (by decide) rfl (fun ls hl => ?_)
  refine lv_iconst (v := nI 0) hx hb dX1_delete_8 (by decide) ?_
  refine lv_istore (lv' := [(4, .int (nI 0)), (3, .int (bI true)), (2, .int (bI true)), (0, .ref h), (1, .int (nI g))]) hx hb dX1_delete_9 hl (by decide) rfl (fun ls hl => ?_)
  have loop11 : ∀ (n : Nat) (i : Nat) (b : Bool), (i ≤ gc) → (gc + 1 ≤ i + n) → (b = !exU (bdd ex pa qu g) i) → ∀ (H : Heap) (locs : List Loc), va_P D vwCl (mW h ad cI cJ cZ td gc ex pa di qu dc dg da dh dt dv dd ds ak se pr th) H → va_D A (mW h ad cI cJ cZ td gc ex pa di qu dc dg da dh dt dv dd ds ak se pr th) → va_S A s.heap H locs → ∀ ls : Array Slot, lv_has ls 5 [(0, .ref h), (1, .int (nI g)), (2, .int (bI true)), (3, .int (bI b)), (4, .int (nI i))] → W p l e ({ frames := 2, cells := 0, slots := 0, locals := 43 } : Room) s m ([.ref h, .int (nI g)] : List Value).toArray below meth c H locs 0 0 (MQ below (wQ D (mW h ad cI cJ cZ td gc ex pa di qu dc dg da dh dt dv dd ds ak se pr th) (mW h ad cI cJ cZ td gc (va_up ex g false) pa di qu dc dg da dh dt dv dd ds ak se pr 0) none) ([.ref h, .int (nI g)] : List Value).toArray s 0 0 A) (F0 m 11 ls []) := by
    intro n
    induction n with
    | zero => intro i b hle hn hc; omega
    | succ n ih =>
      intro i b hle hn hc H locs hP hD hS ls hl
      refine lv_iload hx hb dX1_delete_11 (lv_at hl 4 rfl) ?_
      refine lv_aload_n hx hb dX1_delete_13 rfl (lv_at hl 0 rfl) ?_
      refine va_get (D := D) (ci := 1) (v := .int (nI gc)) (C := RX1) (T := TX1) (N := 18) hx hb hts (iX1_delete) hown hK hP 0 rfl rfl 1 (by decide) (hts (.fieldLink RX1 58 "ShopHubModel" "goods" "I") (by decide +kernel)) (fun _ h9 => h9) rfl dX1_delete_14 ?_
      refine q_icmpN_ge (a := i) (b := gc) (tgt := 72) (by omega) (by omega) hx hb dX1_delete_17 (by decide) (fun k17 => ?_) (fun k17 => ?_)
      · refine lv_aload_n hx hb dX1_delete_72 rfl (lv_at hl 0 rfl) ?_
        refine lv_iload_n hx hb dX1_delete_73 rfl (lv_at hl 2 rfl) ?_
        refine q_ifB_ne (b := true) (tgt := 81) hx hb dX1_delete_74 (by decide) (fun k74 => ?_) (fun k74 => absurd k74 (by decide))
        refine lv_iload_n hx hb dX1_delete_81 rfl (lv_at hl 3 rfl) ?_
        refine q_ifB_eq (b := b) (tgt := 89) hx hb dX1_delete_82 (by decide) (fun k82 => absurd k82 (by rw [hc, exU_no.mpr (fun k hk => hbd k (by omega))]; decide)) (fun k82 => ?_)
        refine lv_iconst (v := nI 0) hx hb dX1_delete_85 (by decide) ?_
        refine lv_goto (tgt := 90) hx hb dX1_delete_86 (by decide) ?_
        refine q_wcallI (r := bI (decide (0 < 0))) (w' := (mW h ad cI cJ cZ td gc ex pa di qu dc dg da dh dt dv dd ds ak se pr 0)) (va_runV (As := [.int (nI 0)]) (rest := []) ⟨hx, hb, hml, hown, hts⟩ (kX1_fails l D h ad cI cJ cZ td gc ex pa di qu dc dg da dh dt dv dd ds ak se pr th _ 0 (by decide)) (cwV 1 hts gX1_delete_X1_fails rfl rfl rfl (by decide +kernel) ⟨Nat.le_of_ble_eq_true rfl, Nat.le_of_ble_eq_true rfl⟩) ⟨wP_blind, va_recv hK hP (ci := 1) (q0 := 0) rfl rfl, wP_pre hP hK hD⟩ rfl rfl hl.1 rfl (lv_room (Nat.le_of_ble_eq_true rfl)) dX1_delete_90 ⟨Nat.zero_le _, Nat.zero_le _⟩) hD hS hA rfl (fun H locs hP hD hS => ?_)
        refine q_ifB_ne (b := decide (0 < 0)) (tgt := 103) hx hb dX1_delete_93 (by decide) (fun k93 => absurd k93 (by decide)) (fun k93 => ?_)
        refine lv_aload_n hx hb dX1_delete_96 rfl (lv_at hl 0 rfl) ?_
        refine va_get (D := D) (ci := 1) (v := .ref (ad 2)) (C := RX1) (T := TX1) (N := 18) hx hb hts (iX1_delete) hown hK hP 0 rfl rfl 2 (by decide) (hts (.fieldLink RX1 7 "ShopHubModel" "isThere" "[Z") (by decide +kernel)) (fun _ h9 => h9) rfl dX1_delete_97 ?_
        refine lv_iload_n hx hb dX1_delete_100 rfl (lv_at hl 1 rfl) ?_
        refine lv_iconst (v := nI 0) hx hb dX1_delete_101 (by decide) ?_
        refine q_top (y := bI false) ((by decide : nI 0 = bI false)) ?_
        refine q_zst ex false hx hb hK hP hD hS 1 0 rfl rfl (k := g) (by omega) (Nat.le_of_ble_eq_true rfl) dX1_delete_102 (fun H locs hP hD hS => ?_)
        have hP : va_P D vwCl (mW h ad cI cJ cZ td gc (va_up ex g false) pa di qu dc dg da dh dt dv dd ds ak se pr 0) H := hP
        have hD : va_D A (mW h ad cI cJ cZ td gc (va_up ex g false) pa di qu dc dg da dh dt dv dd ds ak se pr 0) := hD
        exact q_wretV hx hb hr hlocks hAe hP hS dX1_delete_103
      · refine lv_iload_n hx hb dX1_delete_20 rfl (lv_at hl 3 rfl) ?_
        refine q_ifB_eq (b := b) (tgt := 72) hx hb dX1_delete_21 (by decide) (fun k21 => absurd k21 (by rw [hc, exU_no.mpr (fun k hk => hbd k (by omega))]; decide)) (fun k21 => ?_)
        refine lv_aload_n hx hb dX1_delete_24 rfl (lv_at hl 0 rfl) ?_
        refine va_get (D := D) (ci := 1) (v := .ref (ad 2)) (C := RX1) (T := TX1) (N := 18) hx hb hts (iX1_delete) hown hK hP 0 rfl rfl 2 (by decide) (hts (.fieldLink RX1 7 "ShopHubModel" "isThere" "[Z") (by decide +kernel)) (fun _ h9 => h9) rfl dX1_delete_25 ?_
        refine lv_iload hx hb dX1_delete_28 (lv_at hl 4 rfl) ?_
        refine q_zld ex hx hb hK hP 1 0 rfl rfl (k := i) (by omega) (Nat.le_of_ble_eq_true rfl) dX1_delete_30 ?_
        refine q_ifB_eq (b := ex i) (tgt := 60) hx hb dX1_delete_31 (by decide) (fun k31 => ?_) (fun k31 => ?_)
        · refine lv_iconst (v := nI 1) hx hb dX1_delete_60 (by decide) ?_
          refine lv_goto (tgt := 65) hx hb dX1_delete_61 (by decide) ?_
          refine q_top (y := bI true) ((by decide : nI 1 = bI true)) ?_
          refine lv_istore_n (lv' := [(3, .int (bI true)), (0, .ref h), (1, .int (nI g)), (2, .int (bI true)), (4, .int (nI i))]) hx hb dX1_delete_65 rfl hl (by decide) rfl (fun ls hl => ?_)
          refine lv_iinc (v := nI (i + 1)) (lv' := [(4, .int (nI (i + 1))), (3, .int (bI true)), (0, .ref h), (1, .int (nI g)), (2, .int (bI true))]) hx hb dX1_delete_66 hl (k := 4) rfl (i1_n i) (by decide) rfl (fun ls hl => ?_)
          refine lv_goto (tgt := 11) hx hb dX1_delete_69 (by decide) ?_
          exact ih (i + 1) true (by omega) (by omega) (by rw [not_s (f := bdd ex pa qu g) (show bdd ex pa qu g i = false by unfold bdd; rw [k31, Bool.false_and]), ← hc, k21]) _ _ hP hD hS _ (lv_sub hl [2, 3, 4, 1, 0] rfl)
        · refine lv_aload_n hx hb dX1_delete_34 rfl (lv_at hl 0 rfl) ?_
          refine va_get (D := D) (ci := 1) (v := .ref (ad 3)) (C := RX1) (T := TX1) (N := 18) hx hb hts (iX1_delete) hown hK hP 0 rfl rfl 3 (by decide) (hts (.fieldLink RX1 13 "ShopHubModel" "parent" "[I") (by decide +kernel)) (fun _ h9 => h9) rfl dX1_delete_35 ?_
          refine lv_iload hx hb dX1_delete_38 (lv_at hl 4 rfl) ?_
          refine q_ald oI pa hx hb hK hP 2 1 rfl rfl (k := i) (by omega) (Nat.le_of_ble_eq_true rfl) dX1_delete_40 ?_
          refine lv_iload_n hx hb dX1_delete_41 rfl (lv_at hl 1 rfl) ?_
          refine q_top (y := oI (some g)) ((rfl : nI g = oI (some g))) ?_
          refine q_icmpO_eq (a := pa i) (b := some g) (tgt := 64) (fun k h9 => by have := hpr i (by omega) k h9; omega) (fun k h9 => by cases h9; omega) hx hb dX1_delete_42 (by decide) (fun k42 => ?_) (fun k42 => ?_)
          · refine lv_iconst (v := nI 0) hx hb dX1_delete_64 (by decide) ?_
            refine q_top (y := bI false) ((by decide : nI 0 = bI false)) ?_
            refine lv_istore_n (lv' := [(3, .int (bI false)), (0, .ref h), (1, .int (nI g)), (2, .int (bI true)), (4, .int (nI i))]) hx hb dX1_delete_65 rfl hl (by decide) rfl (fun ls hl => ?_)
            refine lv_iinc (v := nI (i + 1)) (lv' := [(4, .int (nI (i + 1))), (3, .int (bI false)), (0, .ref h), (1, .int (nI g)), (2, .int (bI true))]) hx hb dX1_delete_66 hl (k := 4) rfl (i1_n i) (by decide) rfl (fun ls hl => ?_)
            refine lv_goto (tgt := 11) hx hb dX1_delete_69 (by decide) ?_
            exact ih (i + 1) false (by omega) (by omega) ((not_t (f := bdd ex pa qu g) (show bdd ex pa qu g i = true by unfold bdd; rw [k31, decide_eq_true k42]; rfl)).symm) _ _ hP hD hS _ (lv_sub hl [2, 3, 4, 1, 0] rfl)
          · refine lv_aload_n hx hb dX1_delete_45 rfl (lv_at hl 0 rfl) ?_
            refine va_get (D := D) (ci := 1) (v := .ref (ad 5)) (C := RX1) (T := TX1) (N := 18) hx hb hts (iX1_delete) hown hK hP 0 rfl rfl 5 (by decide) (hts (.fieldLink RX1 20 "ShopHubModel" "quantity" "[I") (by decide +kernel)) (fun _ h9 => h9) rfl dX1_delete_46 ?_
            refine lv_bipush (v := nI 16) hx hb dX1_delete_49 (by decide) ?_
            refine lv_iload hx hb dX1_delete_51 (lv_at hl 4 rfl) ?_
            refine q_mulN (a := 16) (b := i) hx hb dX1_delete_53 ?_
            refine lv_iload_n hx hb dX1_delete_54 rfl (lv_at hl 1 rfl) ?_
            refine q_addN (a := 16 * i) (b := g) hx hb dX1_delete_55 ?_
            refine q_top (y := nI (i * 16 + g)) (by rw [Nat.mul_comm 16 i]) ?_
            refine q_ald nI qu hx hb hK hP 4 1 rfl rfl (k := i * 16 + g) (by omega) (Nat.le_of_ble_eq_true rfl) dX1_delete_56 ?_
            refine q_ifN_ne (a := qu (i * 16 + g)) (tgt := 64) (by have := hqu (i * 16 + g) (by omega); omega) hx hb dX1_delete_57 (by decide) (fun k57 => ?_) (fun k57 => ?_)
            · refine lv_iconst (v := nI 0) hx hb dX1_delete_64 (by decide) ?_
              refine q_top (y := bI false) ((by decide : nI 0 = bI false)) ?_
              refine lv_istore_n (lv' := [(3, .int (bI false)), (0, .ref h), (1, .int (nI g)), (2, .int (bI true)), (4, .int (nI i))]) hx hb dX1_delete_65 rfl hl (by decide) rfl (fun ls hl => ?_)
              refine lv_iinc (v := nI (i + 1)) (lv' := [(4, .int (nI (i + 1))), (3, .int (bI false)), (0, .ref h), (1, .int (nI g)), (2, .int (bI true))]) hx hb dX1_delete_66 hl (k := 4) rfl (i1_n i) (by decide) rfl (fun ls hl => ?_)
              refine lv_goto (tgt := 11) hx hb dX1_delete_69 (by decide) ?_
              exact ih (i + 1) false (by omega) (by omega) ((not_t (f := bdd ex pa qu g) (show bdd ex pa qu g i = true by unfold bdd; rw [k31, decide_eq_true (show 0 < qu (i * 16 + g) by omega), Bool.or_true]; rfl)).symm) _ _ hP hD hS _ (lv_sub hl [2, 3, 4, 1, 0] rfl)
            · refine lv_iconst (v := nI 1) hx hb dX1_delete_60 (by decide) ?_
              refine lv_goto (tgt := 65) hx hb dX1_delete_61 (by decide) ?_
              refine q_top (y := bI true) ((by decide : nI 1 = bI true)) ?_
              refine lv_istore_n (lv' := [(3, .int (bI true)), (0, .ref h), (1, .int (nI g)), (2, .int (bI true)), (4, .int (nI i))]) hx hb dX1_delete_65 rfl hl (by decide) rfl (fun ls hl => ?_)
              refine lv_iinc (v := nI (i + 1)) (lv' := [(4, .int (nI (i + 1))), (3, .int (bI true)), (0, .ref h), (1, .int (nI g)), (2, .int (bI true))]) hx hb dX1_delete_66 hl (k := 4) rfl (i1_n i) (by decide) rfl (fun ls hl => ?_)
              refine lv_goto (tgt := 11) hx hb dX1_delete_69 (by decide) ?_
              exact ih (i + 1) true (by omega) (by omega) (by rw [not_s (f := bdd ex pa qu g) (show bdd ex pa qu g i = false by unfold bdd; rw [decide_eq_false k42, decide_eq_false (show ¬ 0 < qu (i * 16 + g) by omega), Bool.or_false, Bool.and_false]), ← hc, k21]) _ _ hP hD hS _ (lv_sub hl [2, 3, 4, 1, 0] rfl)
  exact loop11 (gc + 1) 0 true (by omega) (by omega) rfl _ _ hP hD hS _ (lv_sub hl [3, 4, 2, 1, 0] rfl)

set_option maxHeartbeats 4000000 in
set_option maxRecDepth 100000 in
theorem kX1_delete2 (l : Launch) (D : va_G) (h : Nat) (ad : Nat → Nat) (cI cJ cZ : ClassId) (td : Nat) (gc : Nat) (ex : Nat → Bool) (pa : Nat → Option Nat) (di : Nat → Nat) (qu : Nat → Nat) (dc : Nat) (dg : Nat → Nat) (da : Nat → Nat) (dh : Nat → Option Nat) (dt : Nat → Option Nat) (dv : Nat → Option Nat) (dd : Nat → Nat) (ds : Nat → Nat) (ak : Nat → Bool) (se : Nat → Option Nat) (pr : Nat → Option Nat) (th : Nat) (sz : Nat) (g : Nat) (hg : g < 16) (he : ex g = true) (hpr : PR pa) (hqu : ∀ k, k < 256 → qu k ≤ 20) (hgc : gc ≤ 16) (hxg : ∀ j, j < 16 → ex j = true → j < gc) (hbd : exU (bdd ex pa qu g) gc = true) : Met l yX1_delete wsX1_delete ({ frames := 2, cells := 0, slots := 0, locals := 43 } : Room) (wP D (mW h ad cI cJ cZ td gc ex pa di qu dc dg da dh dt dv dd ds ak se pr th) (mT cI cJ cZ) [.ref h, .int (nI g)] sz) (wQ D (mW h ad cI cJ cZ td gc ex pa di qu dc dg da dh dt dv dd ds ak se pr th) (mW h ad cI cJ cZ td gc ex pa di qu dc dg da dh dt dv dd ds ak se pr 2) none) 0 0 (va_A (mW h ad cI cJ cZ td gc ex pa di qu dc dg da dh dt dv dd ds ak se pr th) sz) := by
  refine Met.ofW (cc := cX1_delete) (maxL := 5) (ret := none) (by decide) rfl ?_
  intro p e s m args below meth c s₁ B hml hv
  obtain ⟨rfl, hsz, hP, hK, hD0⟩ := hv
  have hx := B.exec
  have hb := B.bytes
  have hr := B.returns
  have hts := atoms_spec (ws := wsX1_delete) B.pre
  have hown : s.vm.findClass RX1 = some m.cls := findClass_of_methodNamed B.named
  have hlocks := B.notSynchronized
  subst hsz
  have hD := hD0.self (sz := s.heap.size)
  generalize hAe : va_A (mW h ad cI cJ cZ td gc ex pa di qu dc dg da dh dt dv dd ds ak se pr th) s.heap.size = A at hD ⊢
  have hA : ∀ q : Nat, s.heap.size ≤ q → A q := fun q h => by rw [← hAe]; exact Or.inr h
  have hS : va_S A s.heap s.heap [] := va_S.rf
  have hl := lv_entry ([.ref h, .int (nI g)]) (n := 5) (Nat.le_of_ble_eq_true rfl)
  rw [lg_entry_eq]
  generalize (lg_sl ([.ref h, .int (nI g)]) ++ List.replicate (5 - (lg_sl ([.ref h, .int (nI g)])).length) Slot.unset).toArray = ls at hl ⊢
  have hl : lv_has ls 5 [(0, .ref h), (1, .int (nI g))] := hl
  refine lv_aload_n hx hb dX1_delete_0 rfl (lv_at hl 0 rfl) ?_
  refine lv_iload_n hx hb dX1_delete_1 rfl (lv_at hl 1 rfl) ?_
  refine q_callI (r := bI (ex g)) (va_runV (As := [.int (nI g)]) (rest := []) ⟨hx, hb, hml, hown, hts⟩ (kX1_isGoodN l D h ad cI cJ cZ td gc ex pa di qu dc dg da dh dt dv dd ds ak se pr th g hg hgc hxg) (cwV 1 hts gX1_delete_X1_isGood rfl rfl rfl (by decide +kernel) ⟨Nat.le_of_ble_eq_true rfl, Nat.le_of_ble_eq_true rfl⟩) ⟨pP_blind, va_recv hK hP (ci := 1) (q0 := 0) rfl rfl, pP_pre hP hK⟩ rfl rfl hl.1 rfl (lv_room (Nat.le_of_ble_eq_true rfl)) dX1_delete_2 ⟨Nat.zero_le _, Nat.zero_le _⟩) ?_
  refine q_top (y := bI true) (by rw [he]) ?_
  refine lv_istore_n (lv' := [(2, .int (bI true)), (0, .ref h), (1, .int (nI g))]) hx hb dX1_delete_5 rfl hl (by decide) rfl (fun ls hl => ?_)
  refine lv_iload_n hx hb dX1_delete_6 rfl (lv_at hl 0 rfl) ?_
  refine lv_istore_n (lv' := [(3, .int (bI true)), (2, .int (bI true)), (0, .ref h), (1, .int (nI g))]) hx hb dX1_delete_7 rfl hl (by decide) rfl (fun ls hl => ?_)
  refine lv_iconst (v := nI 0) hx hb dX1_delete_8 (by decide) ?_
  refine lv_istore (lv' := [(4, .int (nI 0)), (3, .int (bI true)), (2, .int (bI true)), (0, .ref h), (1, .int (nI g))]) hx hb dX1_delete_9 hl (by decide) rfl (fun ls hl => ?_)
  have loop11 : ∀ (n : Nat) (i : Nat) (b : Bool), (i ≤ gc) → (gc + 1 ≤ i + n) → (b = !exU (bdd ex pa qu g) i) → ∀ (H : Heap) (locs : List Loc), va_P D vwCl (mW h ad cI cJ cZ td gc ex pa di qu dc dg da dh dt dv dd ds ak se pr th) H → va_D A (mW h ad cI cJ cZ td gc ex pa di qu dc dg da dh dt dv dd ds ak se pr th) → va_S A s.heap H locs → ∀ ls : Array Slot, lv_has ls 5 [(0, .ref h), (1, .int (nI g)), (2, .int (bI true)), (3, .int (bI b)), (4, .int (nI i))] → W p l e ({ frames := 2, cells := 0, slots := 0, locals := 43 } : Room) s m ([.ref h, .int (nI g)] : List Value).toArray below meth c H locs 0 0 (MQ below (wQ D (mW h ad cI cJ cZ td gc ex pa di qu dc dg da dh dt dv dd ds ak se pr th) (mW h ad cI cJ cZ td gc ex pa di qu dc dg da dh dt dv dd ds ak se pr 2) none) ([.ref h, .int (nI g)] : List Value).toArray s 0 0 A) (F0 m 11 ls []) := by
    intro n
    induction n with
    | zero => intro i b hle hn hc; omega
    | succ n ih =>
      intro i b hle hn hc H locs hP hD hS ls hl
      refine lv_iload hx hb dX1_delete_11 (lv_at hl 4 rfl) ?_
      refine lv_aload_n hx hb dX1_delete_13 rfl (lv_at hl 0 rfl) ?_
      refine va_get (D := D) (ci := 1) (v := .int (nI gc)) (C := RX1) (T := TX1) (N := 18) hx hb hts (iX1_delete) hown hK hP 0 rfl rfl 1 (by decide) (hts (.fieldLink RX1 58 "ShopHubModel" "goods" "I") (by decide +kernel)) (fun _ h9 => h9) rfl dX1_delete_14 ?_
      refine q_icmpN_ge (a := i) (b := gc) (tgt := 72) (by omega) (by omega) hx hb dX1_delete_17 (by decide) (fun k17 => ?_) (fun k17 => ?_)
      · refine lv_aload_n hx hb dX1_delete_72 rfl (lv_at hl 0 rfl) ?_
        refine lv_iload_n hx hb dX1_delete_73 rfl (lv_at hl 2 rfl) ?_
        refine q_ifB_ne (b := true) (tgt := 81) hx hb dX1_delete_74 (by decide) (fun k74 => ?_) (fun k74 => absurd k74 (by decide))
        refine lv_iload_n hx hb dX1_delete_81 rfl (lv_at hl 3 rfl) ?_
        refine q_ifB_eq (b := b) (tgt := 89) hx hb dX1_delete_82 (by decide) (fun k82 => ?_) (fun k82 => absurd k82 (by rw [hc, show i = gc by omega, hbd]; decide))
        refine lv_iconst (v := nI 2) hx hb dX1_delete_89 (by decide) ?_
        refine q_wcallI (r := bI (decide (0 < 2))) (w' := (mW h ad cI cJ cZ td gc ex pa di qu dc dg da dh dt dv dd ds ak se pr 2)) (va_runV (As := [.int (nI 2)]) (rest := []) ⟨hx, hb, hml, hown, hts⟩ (kX1_fails l D h ad cI cJ cZ td gc ex pa di qu dc dg da dh dt dv dd ds ak se pr th _ 2 (by decide)) (cwV 1 hts gX1_delete_X1_fails rfl rfl rfl (by decide +kernel) ⟨Nat.le_of_ble_eq_true rfl, Nat.le_of_ble_eq_true rfl⟩) ⟨wP_blind, va_recv hK hP (ci := 1) (q0 := 0) rfl rfl, wP_pre hP hK hD⟩ rfl rfl hl.1 rfl (lv_room (Nat.le_of_ble_eq_true rfl)) dX1_delete_90 ⟨Nat.zero_le _, Nat.zero_le _⟩) hD hS hA rfl (fun H locs hP hD hS => ?_)
        refine q_ifB_ne (b := decide (0 < 2)) (tgt := 103) hx hb dX1_delete_93 (by decide) (fun k93 => ?_) (fun k93 => absurd k93 (by decide))
        exact q_wretV hx hb hr hlocks hAe hP hS dX1_delete_103
      · refine lv_iload_n hx hb dX1_delete_20 rfl (lv_at hl 3 rfl) ?_
        refine q_ifB_eq (b := b) (tgt := 72) hx hb dX1_delete_21 (by decide) (fun k21 => ?_) (fun k21 => ?_)
        · refine lv_aload_n hx hb dX1_delete_72 rfl (lv_at hl 0 rfl) ?_
          refine lv_iload_n hx hb dX1_delete_73 rfl (lv_at hl 2 rfl) ?_
          refine q_ifB_ne (b := true) (tgt := 81) hx hb dX1_delete_74 (by decide) (fun k74 => ?_) (fun k74 => absurd k74 (by decide))
          refine lv_iload_n hx hb dX1_delete_81 rfl (lv_at hl 3 rfl) ?_
          refine q_ifB_eq (b := b) (tgt := 89) hx hb dX1_delete_82 (by decide) (fun k82 => ?_) (fun k82 => absurd k82 (by rw [k21]; decide))
          refine lv_iconst (v := nI 2) hx hb dX1_delete_89 (by decide) ?_
          refine q_wcallI (r := bI (decide (0 < 2))) (w' := (mW h ad cI cJ cZ td gc ex pa di qu dc dg da dh dt dv dd ds ak se pr 2)) (va_runV (As := [.int (nI 2)]) (rest := []) ⟨hx, hb, hml, hown, hts⟩ (kX1_fails l D h ad cI cJ cZ td gc ex pa di qu dc dg da dh dt dv dd ds ak se pr th _ 2 (by decide)) (cwV 1 hts gX1_delete_X1_fails rfl rfl rfl (by decide +kernel) ⟨Nat.le_of_ble_eq_true rfl, Nat.le_of_ble_eq_true rfl⟩) ⟨wP_blind, va_recv hK hP (ci := 1) (q0 := 0) rfl rfl, wP_pre hP hK hD⟩ rfl rfl hl.1 rfl (lv_room (Nat.le_of_ble_eq_true rfl)) dX1_delete_90 ⟨Nat.zero_le _, Nat.zero_le _⟩) hD hS hA rfl (fun H locs hP hD hS => ?_)
          refine q_ifB_ne (b := decide (0 < 2)) (tgt := 103) hx hb dX1_delete_93 (by decide) (fun k93 => ?_) (fun k93 => absurd k93 (by decide))
          exact q_wretV hx hb hr hlocks hAe hP hS dX1_delete_103
        · refine lv_aload_n hx hb dX1_delete_24 rfl (lv_at hl 0 rfl) ?_
          refine va_get (D := D) (ci := 1) (v := .ref (ad 2)) (C := RX1) (T := TX1) (N := 18) hx hb hts (iX1_delete) hown hK hP 0 rfl rfl 2 (by decide) (hts (.fieldLink RX1 7 "ShopHubModel" "isThere" "[Z") (by decide +kernel)) (fun _ h9 => h9) rfl dX1_delete_25 ?_
          refine lv_iload hx hb dX1_delete_28 (lv_at hl 4 rfl) ?_
          refine q_zld ex hx hb hK hP 1 0 rfl rfl (k := i) (by omega) (Nat.le_of_ble_eq_true rfl) dX1_delete_30 ?_
          refine q_ifB_eq (b := ex i) (tgt := 60) hx hb dX1_delete_31 (by decide) (fun k31 => ?_) (fun k31 => ?_)
          · refine lv_iconst (v := nI 1) hx hb dX1_delete_60 (by decide) ?_
            refine lv_goto (tgt := 65) hx hb dX1_delete_61 (by decide) ?_
            refine q_top (y := bI true) ((by decide : nI 1 = bI true)) ?_
            refine lv_istore_n (lv' := [(3, .int (bI true)), (0, .ref h), (1, .int (nI g)), (2, .int (bI true)), (4, .int (nI i))]) hx hb dX1_delete_65 rfl hl (by decide) rfl (fun ls hl => ?_)
            refine lv_iinc (v := nI (i + 1)) (lv' := [(4, .int (nI (i + 1))), (3, .int (bI true)), (0, .ref h), (1, .int (nI g)), (2, .int (bI true))]) hx hb dX1_delete_66 hl (k := 4) rfl (i1_n i) (by decide) rfl (fun ls hl => ?_)
            refine lv_goto (tgt := 11) hx hb dX1_delete_69 (by decide) ?_
            exact ih (i + 1) true (by omega) (by omega) (by rw [not_s (f := bdd ex pa qu g) (show bdd ex pa qu g i = false by unfold bdd; rw [k31, Bool.false_and]), ← hc, k21]) _ _ hP hD hS _ (lv_sub hl [2, 3, 4, 1, 0] rfl)
          · refine lv_aload_n hx hb dX1_delete_34 rfl (lv_at hl 0 rfl) ?_
            refine va_get (D := D) (ci := 1) (v := .ref (ad 3)) (C := RX1) (T := TX1) (N := 18) hx hb hts (iX1_delete) hown hK hP 0 rfl rfl 3 (by decide) (hts (.fieldLink RX1 13 "ShopHubModel" "parent" "[I") (by decide +kernel)) (fun _ h9 => h9) rfl dX1_delete_35 ?_
            refine lv_iload hx hb dX1_delete_38 (lv_at hl 4 rfl) ?_
            refine q_ald oI pa hx hb hK hP 2 1 rfl rfl (k := i) (by omega) (Nat.le_of_ble_eq_true rfl) dX1_delete_40 ?_
            refine lv_iload_n hx hb dX1_delete_41 rfl (lv_at hl 1 rfl) ?_
            refine q_top (y := oI (some g)) ((rfl : nI g = oI (some g))) ?_
            refine q_icmpO_eq (a := pa i) (b := some g) (tgt := 64) (fun k h9 => by have := hpr i (by omega) k h9; omega) (fun k h9 => by cases h9; omega) hx hb dX1_delete_42 (by decide) (fun k42 => ?_) (fun k42 => ?_)
            · refine lv_iconst (v := nI 0) hx hb dX1_delete_64 (by decide) ?_
              refine q_top (y := bI false) ((by decide : nI 0 = bI false)) ?_
              refine lv_istore_n (lv' := [(3, .int (bI false)), (0, .ref h), (1, .int (nI g)), (2, .int (bI true)), (4, .int (nI i))]) hx hb dX1_delete_65 rfl hl (by decide) rfl (fun ls hl => ?_)
              refine lv_iinc (v := nI (i + 1)) (lv' := [(4, .int (nI (i + 1))), (3, .int (bI false)), (0, .ref h), (1, .int (nI g)), (2, .int (bI true))]) hx hb dX1_delete_66 hl (k := 4) rfl (i1_n i) (by decide) rfl (fun ls hl => ?_)
              refine lv_goto (tgt := 11) hx hb dX1_delete_69 (by decide) ?_
              exact ih (i + 1) false (by omega) (by omega) ((not_t (f := bdd ex pa qu g) (show bdd ex pa qu g i = true by unfold bdd; rw [k31, decide_eq_true k42]; rfl)).symm) _ _ hP hD hS _ (lv_sub hl [2, 3, 4, 1, 0] rfl)
            · refine lv_aload_n hx hb dX1_delete_45 rfl (lv_at hl 0 rfl) ?_
              refine va_get (D := D) (ci := 1) (v := .ref (ad 5)) (C := RX1) (T := TX1) (N := 18) hx hb hts (iX1_delete) hown hK hP 0 rfl rfl 5 (by decide) (hts (.fieldLink RX1 20 "ShopHubModel" "quantity" "[I") (by decide +kernel)) (fun _ h9 => h9) rfl dX1_delete_46 ?_
              refine lv_bipush (v := nI 16) hx hb dX1_delete_49 (by decide) ?_
              refine lv_iload hx hb dX1_delete_51 (lv_at hl 4 rfl) ?_
              refine q_mulN (a := 16) (b := i) hx hb dX1_delete_53 ?_
              refine lv_iload_n hx hb dX1_delete_54 rfl (lv_at hl 1 rfl) ?_
              refine q_addN (a := 16 * i) (b := g) hx hb dX1_delete_55 ?_
              refine q_top (y := nI (i * 16 + g)) (by rw [Nat.mul_comm 16 i]) ?_
              refine q_ald nI qu hx hb hK hP 4 1 rfl rfl (k := i * 16 + g) (by omega) (Nat.le_of_ble_eq_true rfl) dX1_delete_56 ?_
              refine q_ifN_ne (a := qu (i * 16 + g)) (tgt := 64) (by have := hqu (i * 16 + g) (by omega); omega) hx hb dX1_delete_57 (by decide) (fun k57 => ?_) (fun k57 => ?_)
              · refine lv_iconst (v := nI 0) hx hb dX1_delete_64 (by decide) ?_
                refine q_top (y := bI false) ((by decide : nI 0 = bI false)) ?_
                refine lv_istore_n (lv' := [(3, .int (bI false)), (0, .ref h), (1, .int (nI g)), (2, .int (bI true)), (4, .int (nI i))]) hx hb dX1_delete_65 rfl hl (by decide) rfl (fun ls hl => ?_)
                refine lv_iinc (v := nI (i + 1)) (lv' := [(4, .int (nI (i + 1))), (3, .int (bI false)), (0, .ref h), (1, .int (nI g)), (2, .int (bI true))]) hx hb dX1_delete_66 hl (k := 4) rfl (i1_n i) (by decide) rfl (fun ls hl => ?_)
                refine lv_goto (tgt := 11) hx hb dX1_delete_69 (by decide) ?_
                exact ih (i + 1) false (by omega) (by omega) ((not_t (f := bdd ex pa qu g) (show bdd ex pa qu g i = true by unfold bdd; rw [k31, decide_eq_true (show 0 < qu (i * 16 + g) by omega), Bool.or_true]; rfl)).symm) _ _ hP hD hS _ (lv_sub hl [2, 3, 4, 1, 0] rfl)
              · refine lv_iconst (v := nI 1) hx hb dX1_delete_60 (by decide) ?_
                refine lv_goto (tgt := 65) hx hb dX1_delete_61 (by decide) ?_
                refine q_top (y := bI true) ((by decide : nI 1 = bI true)) ?_
                refine lv_istore_n (lv' := [(3, .int (bI true)), (0, .ref h), (1, .int (nI g)), (2, .int (bI true)), (4, .int (nI i))]) hx hb dX1_delete_65 rfl hl (by decide) rfl (fun ls hl => ?_)
                refine lv_iinc (v := nI (i + 1)) (lv' := [(4, .int (nI (i + 1))), (3, .int (bI true)), (0, .ref h), (1, .int (nI g)), (2, .int (bI true))]) hx hb dX1_delete_66 hl (k := 4) rfl (i1_n i) (by decide) rfl (fun ls hl => ?_)
                refine lv_goto (tgt := 11) hx hb dX1_delete_69 (by decide) ?_
                exact ih (i + 1) true (by omega) (by omega) (by rw [not_s (f := bdd ex pa qu g) (show bdd ex pa qu g i = false by unfold bdd; rw [decide_eq_false k42, decide_eq_false (show ¬ 0 < qu (i * 16 + g) by omega), Bool.or_false, Bool.and_false]), ← hc, k21]) _ _ hP hD hS _ (lv_sub hl [2, 3, 4, 1, 0] rfl)
  exact loop11 (gc + 1) 0 true (by omega) (by omega) rfl _ _ hP hD hS _ (lv_sub hl [3, 4, 2, 1, 0] rfl)

set_option maxHeartbeats 4000000 in
set_option maxRecDepth 100000 in
theorem kX1_delete1 (l : Launch) (D : va_G) (h : Nat) (ad : Nat → Nat) (cI cJ cZ : ClassId) (td : Nat) (gc : Nat) (ex : Nat → Bool) (pa : Nat → Option Nat) (di : Nat → Nat) (qu : Nat → Nat) (dc : Nat) (dg : Nat → Nat) (da : Nat → Nat) (dh : Nat → Option Nat) (dt : Nat → Option Nat) (dv : Nat → Option Nat) (dd : Nat → Nat) (ds : Nat → Nat) (ak : Nat → Bool) (se : Nat → Option Nat) (pr : Nat → Option Nat) (th : Nat) (sz : Nat) (g : Int32) (hgc : gc ≤ 16) (hxg : ∀ j, j < 16 → ex j = true → j < gc) (hg : gBad ex g) : Met l yX1_delete wsX1_delete ({ frames := 2, cells := 0, slots := 0, locals := 43 } : Room) (wP D (mW h ad cI cJ cZ td gc ex pa di qu dc dg da dh dt dv dd ds ak se pr th) (mT cI cJ cZ) [.ref h, .int g] sz) (wQ D (mW h ad cI cJ cZ td gc ex pa di qu dc dg da dh dt dv dd ds ak se pr th) (mW h ad cI cJ cZ td gc ex pa di qu dc dg da dh dt dv dd ds ak se pr 1) none) 0 0 (va_A (mW h ad cI cJ cZ td gc ex pa di qu dc dg da dh dt dv dd ds ak se pr th) sz) := by
  refine Met.ofW (cc := cX1_delete) (maxL := 5) (ret := none) (by decide) rfl ?_
  intro p e s m args below meth c s₁ B hml hv
  obtain ⟨rfl, hsz, hP, hK, hD0⟩ := hv
  have hx := B.exec
  have hb := B.bytes
  have hr := B.returns
  have hts := atoms_spec (ws := wsX1_delete) B.pre
  have hown : s.vm.findClass RX1 = some m.cls := findClass_of_methodNamed B.named
  have hlocks := B.notSynchronized
  subst hsz
  have hD := hD0.self (sz := s.heap.size)
  generalize hAe : va_A (mW h ad cI cJ cZ td gc ex pa di qu dc dg da dh dt dv dd ds ak se pr th) s.heap.size = A at hD ⊢
  have hA : ∀ q : Nat, s.heap.size ≤ q → A q := fun q h => by rw [← hAe]; exact Or.inr h
  have hS : va_S A s.heap s.heap [] := va_S.rf
  have hl := lv_entry ([.ref h, .int g]) (n := 5) (Nat.le_of_ble_eq_true rfl)
  rw [lg_entry_eq]
  generalize (lg_sl ([.ref h, .int g]) ++ List.replicate (5 - (lg_sl ([.ref h, .int g])).length) Slot.unset).toArray = ls at hl ⊢
  have hl : lv_has ls 5 [(0, .ref h), (1, .int g)] := hl
  rcases gBad_c hg with hg | ⟨j, hj, rfl, he⟩
  · refine lv_aload_n hx hb dX1_delete_0 rfl (lv_at hl 0 rfl) ?_
    refine lv_iload_n hx hb dX1_delete_1 rfl (lv_at hl 1 rfl) ?_
    refine q_callI (r := bI false) (va_runV (As := [.int g]) (rest := []) ⟨hx, hb, hml, hown, hts⟩ (kX1_isGoodR l D h ad cI cJ cZ td gc ex pa di qu dc dg da dh dt dv dd ds ak se pr th g hgc hg) (cwV 1 hts gX1_delete_X1_isGood rfl rfl rfl (by decide +kernel) ⟨Nat.le_of_ble_eq_true rfl, Nat.le_of_ble_eq_true rfl⟩) ⟨pP_blind, va_recv hK hP (ci := 1) (q0 := 0) rfl rfl, pP_pre hP hK⟩ rfl rfl hl.1 rfl (lv_room (Nat.le_of_ble_eq_true rfl)) dX1_delete_2 ⟨Nat.zero_le _, Nat.zero_le _⟩) ?_
    refine lv_istore_n (lv' := [(2, .int (bI false)), (0, .ref h), (1, .int g)]) hx hb dX1_delete_5 rfl hl (by decide) rfl (fun ls hl => ?_)
    refine lv_iload_n hx hb dX1_delete_6 rfl (lv_at hl 0 rfl) ?_
    refine lv_istore_n (lv' := [(3, .int (bI false)), (2, .int (bI false)), (0, .ref h), (1, .int g)]) hx hb dX1_delete_7 rfl hl (by decide) rfl (fun ls hl => ?_)
    refine lv_iconst (v := nI 0) hx hb dX1_delete_8 (by decide) ?_
    refine lv_istore (lv' := [(4, .int (nI 0)), (3, .int (bI false)), (2, .int (bI false)), (0, .ref h), (1, .int g)]) hx hb dX1_delete_9 hl (by decide) rfl (fun ls hl => ?_)
    refine lv_iload hx hb dX1_delete_11 (lv_at hl 0 rfl) ?_
    refine lv_aload_n hx hb dX1_delete_13 rfl (lv_at hl 3 rfl) ?_
    refine va_get (D := D) (ci := 1) (v := .int (nI gc)) (C := RX1) (T := TX1) (N := 18) hx hb hts (iX1_delete) hown hK hP 0 rfl rfl 1 (by decide) (hts (.fieldLink RX1 58 "ShopHubModel" "goods" "I") (by decide +kernel)) (fun _ h9 => h9) rfl dX1_delete_14 ?_
    refine q_icmpN_ge (a := 0) (b := gc) (tgt := 72) (by omega) (by omega) hx hb dX1_delete_17 (by decide) (fun k17 => ?_) (fun k17 => ?_)
    · refine lv_aload_n hx hb dX1_delete_72 rfl (lv_at hl 3 rfl) ?_
      refine lv_iload_n hx hb dX1_delete_73 rfl (lv_at hl 2 rfl) ?_
      refine q_ifB_ne (b := false) (tgt := 81) hx hb dX1_delete_74 (by decide) (fun k74 => absurd k74 (by decide)) (fun k74 => ?_)
      refine lv_iconst (v := nI 1) hx hb dX1_delete_77 (by decide) ?_
      refine lv_goto (tgt := 90) hx hb dX1_delete_78 (by decide) ?_
      refine q_wcallI (r := bI (decide (0 < 1))) (w' := (mW h ad cI cJ cZ td gc ex pa di qu dc dg da dh dt dv dd ds ak se pr 1)) (va_runV (As := [.int (nI 1)]) (rest := []) ⟨hx, hb, hml, hown, hts⟩ (kX1_fails l D h ad cI cJ cZ td gc ex pa di qu dc dg da dh dt dv dd ds ak se pr th _ 1 (by decide)) (cwV 1 hts gX1_delete_X1_fails rfl rfl rfl (by decide +kernel) ⟨Nat.le_of_ble_eq_true rfl, Nat.le_of_ble_eq_true rfl⟩) ⟨wP_blind, va_recv hK hP (ci := 1) (q0 := 0) rfl rfl, wP_pre hP hK hD⟩ rfl rfl hl.1 rfl (lv_room (Nat.le_of_ble_eq_true rfl)) dX1_delete_90 ⟨Nat.zero_le _, Nat.zero_le _⟩) hD hS hA rfl (fun H locs hP hD hS => ?_)
      refine q_ifB_ne (b := decide (0 < 1)) (tgt := 103) hx hb dX1_delete_93 (by decide) (fun k93 => ?_) (fun k93 => absurd k93 (by decide))
      exact q_wretV hx hb hr hlocks hAe hP hS dX1_delete_103
    · refine lv_iload_n hx hb dX1_delete_20 rfl (lv_at hl 1 rfl) ?_
      refine q_ifB_eq (b := false) (tgt := 72) hx hb dX1_delete_21 (by decide) (fun k21 => ?_) (fun k21 => absurd k21 (by decide))
      refine lv_aload_n hx hb dX1_delete_72 rfl (lv_at hl 3 rfl) ?_
      refine lv_iload_n hx hb dX1_delete_73 rfl (lv_at hl 2 rfl) ?_
      refine q_ifB_ne (b := false) (tgt := 81) hx hb dX1_delete_74 (by decide) (fun k74 => absurd k74 (by decide)) (fun k74 => ?_)
      refine lv_iconst (v := nI 1) hx hb dX1_delete_77 (by decide) ?_
      refine lv_goto (tgt := 90) hx hb dX1_delete_78 (by decide) ?_
      refine q_wcallI (r := bI (decide (0 < 1))) (w' := (mW h ad cI cJ cZ td gc ex pa di qu dc dg da dh dt dv dd ds ak se pr 1)) (va_runV (As := [.int (nI 1)]) (rest := []) ⟨hx, hb, hml, hown, hts⟩ (kX1_fails l D h ad cI cJ cZ td gc ex pa di qu dc dg da dh dt dv dd ds ak se pr th _ 1 (by decide)) (cwV 1 hts gX1_delete_X1_fails rfl rfl rfl (by decide +kernel) ⟨Nat.le_of_ble_eq_true rfl, Nat.le_of_ble_eq_true rfl⟩) ⟨wP_blind, va_recv hK hP (ci := 1) (q0 := 0) rfl rfl, wP_pre hP hK hD⟩ rfl rfl hl.1 rfl (lv_room (Nat.le_of_ble_eq_true rfl)) dX1_delete_90 ⟨Nat.zero_le _, Nat.zero_le _⟩) hD hS hA rfl (fun H locs hP hD hS => ?_)
      refine q_ifB_ne (b := decide (0 < 1)) (tgt := 103) hx hb dX1_delete_93 (by decide) (fun k93 => ?_) (fun k93 => absurd k93 (by decide))
      exact q_wretV hx hb hr hlocks hAe hP hS dX1_delete_103
  · refine lv_aload_n hx hb dX1_delete_0 rfl (lv_at hl 0 rfl) ?_
    refine lv_iload_n hx hb dX1_delete_1 rfl (lv_at hl 1 rfl) ?_
    refine q_callI (r := bI (ex j)) (va_runV (As := [.int (nI j)]) (rest := []) ⟨hx, hb, hml, hown, hts⟩ (kX1_isGoodN l D h ad cI cJ cZ td gc ex pa di qu dc dg da dh dt dv dd ds ak se pr th j hj hgc hxg) (cwV 1 hts gX1_delete_X1_isGood rfl rfl rfl (by decide +kernel) ⟨Nat.le_of_ble_eq_true rfl, Nat.le_of_ble_eq_true rfl⟩) ⟨pP_blind, va_recv hK hP (ci := 1) (q0 := 0) rfl rfl, pP_pre hP hK⟩ rfl rfl hl.1 rfl (lv_room (Nat.le_of_ble_eq_true rfl)) dX1_delete_2 ⟨Nat.zero_le _, Nat.zero_le _⟩) ?_
    refine q_top (y := bI false) (by rw [he]) ?_
    refine lv_istore_n (lv' := [(2, .int (bI false)), (0, .ref h), (1, .int (nI j))]) hx hb dX1_delete_5 rfl hl (by decide) rfl (fun ls hl => ?_)
    refine lv_iload_n hx hb dX1_delete_6 rfl (lv_at hl 0 rfl) ?_
    refine lv_istore_n (lv' := [(3, .int (bI false)), (2, .int (bI false)), (0, .ref h), (1, .int (nI j))]) hx hb dX1_delete_7 rfl hl (by decide) rfl (fun ls hl => ?_)
    refine lv_iconst (v := nI 0) hx hb dX1_delete_8 (by decide) ?_
    refine lv_istore (lv' := [(4, .int (nI 0)), (3, .int (bI false)), (2, .int (bI false)), (0, .ref h), (1, .int (nI j))]) hx hb dX1_delete_9 hl (by decide) rfl (fun ls hl => ?_)
    refine lv_iload hx hb dX1_delete_11 (lv_at hl 0 rfl) ?_
    refine lv_aload_n hx hb dX1_delete_13 rfl (lv_at hl 3 rfl) ?_
    refine va_get (D := D) (ci := 1) (v := .int (nI gc)) (C := RX1) (T := TX1) (N := 18) hx hb hts (iX1_delete) hown hK hP 0 rfl rfl 1 (by decide) (hts (.fieldLink RX1 58 "ShopHubModel" "goods" "I") (by decide +kernel)) (fun _ h9 => h9) rfl dX1_delete_14 ?_
    refine q_icmpN_ge (a := 0) (b := gc) (tgt := 72) (by omega) (by omega) hx hb dX1_delete_17 (by decide) (fun k17 => ?_) (fun k17 => ?_)
    · refine lv_aload_n hx hb dX1_delete_72 rfl (lv_at hl 3 rfl) ?_
      refine lv_iload_n hx hb dX1_delete_73 rfl (lv_at hl 2 rfl) ?_
      refine q_ifB_ne (b := false) (tgt := 81) hx hb dX1_delete_74 (by decide) (fun k74 => absurd k74 (by decide)) (fun k74 => ?_)
      refine lv_iconst (v := nI 1) hx hb dX1_delete_77 (by decide) ?_
      refine lv_goto (tgt := 90) hx hb dX1_delete_78 (by decide) ?_
      refine q_wcallI (r := bI (decide (0 < 1))) (w' := (mW h ad cI cJ cZ td gc ex pa di qu dc dg da dh dt dv dd ds ak se pr 1)) (va_runV (As := [.int (nI 1)]) (rest := []) ⟨hx, hb, hml, hown, hts⟩ (kX1_fails l D h ad cI cJ cZ td gc ex pa di qu dc dg da dh dt dv dd ds ak se pr th _ 1 (by decide)) (cwV 1 hts gX1_delete_X1_fails rfl rfl rfl (by decide +kernel) ⟨Nat.le_of_ble_eq_true rfl, Nat.le_of_ble_eq_true rfl⟩) ⟨wP_blind, va_recv hK hP (ci := 1) (q0 := 0) rfl rfl, wP_pre hP hK hD⟩ rfl rfl hl.1 rfl (lv_room (Nat.le_of_ble_eq_true rfl)) dX1_delete_90 ⟨Nat.zero_le _, Nat.zero_le _⟩) hD hS hA rfl (fun H locs hP hD hS => ?_)
      refine q_ifB_ne (b := decide (0 < 1)) (tgt := 103) hx hb dX1_delete_93 (by decide) (fun k93 => ?_) (fun k93 => absurd k93 (by decide))
      exact q_wretV hx hb hr hlocks hAe hP hS dX1_delete_103
    · refine lv_iload_n hx hb dX1_delete_20 rfl (lv_at hl 1 rfl) ?_
      refine q_ifB_eq (b := false) (tgt := 72) hx hb dX1_delete_21 (by decide) (fun k21 => ?_) (fun k21 => absurd k21 (by decide))
      refine lv_aload_n hx hb dX1_delete_72 rfl (lv_at hl 3 rfl) ?_
      refine lv_iload_n hx hb dX1_delete_73 rfl (lv_at hl 2 rfl) ?_
      refine q_ifB_ne (b := false) (tgt := 81) hx hb dX1_delete_74 (by decide) (fun k74 => absurd k74 (by decide)) (fun k74 => ?_)
      refine lv_iconst (v := nI 1) hx hb dX1_delete_77 (by decide) ?_
      refine lv_goto (tgt := 90) hx hb dX1_delete_78 (by decide) ?_
      refine q_wcallI (r := bI (decide (0 < 1))) (w' := (mW h ad cI cJ cZ td gc ex pa di qu dc dg da dh dt dv dd ds ak se pr 1)) (va_runV (As := [.int (nI 1)]) (rest := []) ⟨hx, hb, hml, hown, hts⟩ (kX1_fails l D h ad cI cJ cZ td gc ex pa di qu dc dg da dh dt dv dd ds ak se pr th _ 1 (by decide)) (cwV 1 hts gX1_delete_X1_fails rfl rfl rfl (by decide +kernel) ⟨Nat.le_of_ble_eq_true rfl, Nat.le_of_ble_eq_true rfl⟩) ⟨wP_blind, va_recv hK hP (ci := 1) (q0 := 0) rfl rfl, wP_pre hP hK hD⟩ rfl rfl hl.1 rfl (lv_room (Nat.le_of_ble_eq_true rfl)) dX1_delete_90 ⟨Nat.zero_le _, Nat.zero_le _⟩) hD hS hA rfl (fun H locs hP hD hS => ?_)
      refine q_ifB_ne (b := decide (0 < 1)) (tgt := 103) hx hb dX1_delete_93 (by decide) (fun k93 => ?_) (fun k93 => absurd k93 (by decide))
      exact q_wretV hx hb hr hlocks hAe hP hS dX1_delete_103

set_option maxHeartbeats 4000000 in
set_option maxRecDepth 100000 in
theorem kX1_addPart (l : Launch) (D : va_G) (h : Nat) (ad : Nat → Nat) (cI cJ cZ : ClassId) (td : Nat) (gc : Nat) (ex : Nat → Bool) (pa : Nat → Option Nat) (di : Nat → Nat) (qu : Nat → Nat) (dc : Nat) (dg : Nat → Nat) (da : Nat → Nat) (dh : Nat → Option Nat) (dt : Nat → Option Nat) (dv : Nat → Option Nat) (dd : Nat → Nat) (ds : Nat → Nat) (ak : Nat → Bool) (se : Nat → Option Nat) (pr : Nat → Option Nat) (th : Nat) (sz : Nat) (g q w : Nat) (hg : g < 16) (he : ex g = true) (hq : q < 16) (he2 : ex q = true) (hgc : gc ≤ 16) (hxg : ∀ j, j < 16 → ex j = true → j < gc) (hlt : q < g) (hw1 : 1 ≤ w) (hw2 : w ≤ 20) (hsm : qu (g * 16 + q) + w ≤ 20) : Met l yX1_addPart wsX1_addPart ({ frames := 2, cells := 0, slots := 0, locals := 43 } : Room) (wP D (mW h ad cI cJ cZ td gc ex pa di qu dc dg da dh dt dv dd ds ak se pr th) (mT cI cJ cZ) [.ref h, .int (nI g), .int (nI q), .int (nI w)] sz) (wQ D (mW h ad cI cJ cZ td gc ex pa di qu dc dg da dh dt dv dd ds ak se pr th) (mW h ad cI cJ cZ td gc ex pa di (va_up qu (g * 16 + q) (qu (g * 16 + q) + w)) dc dg da dh dt dv dd ds ak se pr 0) (some (.int (nI (qu (g * 16 + q) + w))))) 0 0 (va_A (mW h ad cI cJ cZ td gc ex pa di qu dc dg da dh dt dv dd ds ak se pr th) sz) := by
  refine Met.ofW (cc := cX1_addPart) (maxL := 6) (ret := (some .int)) (by decide) rfl ?_
  intro p e s m args below meth c s₁ B hml hv
  obtain ⟨rfl, hsz, hP, hK, hD0⟩ := hv
  have hx := B.exec
  have hb := B.bytes
  have hr := B.returns
  have hts := atoms_spec (ws := wsX1_addPart) B.pre
  have hown : s.vm.findClass RX1 = some m.cls := findClass_of_methodNamed B.named
  have hlocks := B.notSynchronized
  subst hsz
  have hD := hD0.self (sz := s.heap.size)
  generalize hAe : va_A (mW h ad cI cJ cZ td gc ex pa di qu dc dg da dh dt dv dd ds ak se pr th) s.heap.size = A at hD ⊢
  have hA : ∀ q : Nat, s.heap.size ≤ q → A q := fun q h => by rw [← hAe]; exact Or.inr h
  have hS : va_S A s.heap s.heap [] := va_S.rf
  have hl := lv_entry ([.ref h, .int (nI g), .int (nI q), .int (nI w)]) (n := 6) (Nat.le_of_ble_eq_true rfl)
  rw [lg_entry_eq]
  generalize (lg_sl ([.ref h, .int (nI g), .int (nI q), .int (nI w)]) ++ List.replicate (6 - (lg_sl ([.ref h, .int (nI g), .int (nI q), .int (nI w)])).length) Slot.unset).toArray = ls at hl ⊢
  have hl : lv_has ls 6 [(0, .ref h), (1, .int (nI g)), (2, .int (nI q)), (3, .int (nI w))] := hl
  refine lv_aload_n hx hb dX1_addPart_0 rfl (lv_at hl 0 rfl) ?_
  refine lv_iload_n hx hb dX1_addPart_1 rfl (lv_at hl 1 rfl) ?_
  refine q_callI (r := bI (ex g)) (va_runV (As := [.int (nI g)]) (rest := []) ⟨hx, hb, hml, hown, hts⟩ (kX1_isGoodN l D h ad cI cJ cZ td gc ex pa di qu dc dg da dh dt dv dd ds ak se pr th g hg hgc hxg) (cwV 1 hts gX1_addPart_X1_isGood rfl rfl rfl (by decide +kernel) ⟨Nat.le_of_ble_eq_true rfl, Nat.le_of_ble_eq_true rfl⟩) ⟨pP_blind, va_recv hK hP (ci := 1) (q0 := 0) rfl rfl, pP_pre hP hK⟩ rfl rfl hl.1 rfl (lv_room (Nat.le_of_ble_eq_true rfl)) dX1_addPart_2 ⟨Nat.zero_le _, Nat.zero_le _⟩) ?_
  refine q_ifB_eq (b := ex g) (tgt := 20) hx hb dX1_addPart_5 (by decide) (fun k5 => absurd k5 (by rw [he]; decide)) (fun k5 => ?_)
  refine lv_aload_n hx hb dX1_addPart_8 rfl (lv_at hl 0 rfl) ?_
  refine lv_iload_n hx hb dX1_addPart_9 rfl (lv_at hl 2 rfl) ?_
  refine q_callI (r := bI (ex q)) (va_runV (As := [.int (nI q)]) (rest := []) ⟨hx, hb, hml, hown, hts⟩ (kX1_isGoodN l D h ad cI cJ cZ td gc ex pa di qu dc dg da dh dt dv dd ds ak se pr th q hq hgc hxg) (cwV 1 hts gX1_addPart_X1_isGood rfl rfl rfl (by decide +kernel) ⟨Nat.le_of_ble_eq_true rfl, Nat.le_of_ble_eq_true rfl⟩) ⟨pP_blind, va_recv hK hP (ci := 1) (q0 := 0) rfl rfl, pP_pre hP hK⟩ rfl rfl hl.1 rfl (lv_room (Nat.le_of_ble_eq_true rfl)) dX1_addPart_10 ⟨Nat.zero_le _, Nat.zero_le _⟩) ?_
  refine q_ifB_eq (b := ex q) (tgt := 20) hx hb dX1_addPart_13 (by decide) (fun k13 => absurd k13 (by rw [he2]; decide)) (fun k13 => ?_)
  refine lv_iconst (v := nI 1) hx hb dX1_addPart_16 (by decide) ?_
  refine lv_goto (tgt := 21) hx hb dX1_addPart_17 (by decide) ?_
  refine q_top (y := bI true) ((by decide : nI 1 = bI true)) ?_
  refine lv_istore (lv' := [(4, .int (bI true)), (0, .ref h), (1, .int (nI g)), (2, .int (nI q)), (3, .int (nI w))]) hx hb dX1_addPart_21 hl (by decide) rfl (fun ls hl => ?_)
  refine lv_iload_n hx hb dX1_addPart_23 rfl (lv_at hl 3 rfl) ?_
  refine lv_iload_n hx hb dX1_addPart_24 rfl (lv_at hl 2 rfl) ?_
  refine q_icmpN_ge (a := q) (b := g) (tgt := 42) (by omega) (by omega) hx hb dX1_addPart_25 (by decide) (fun k25 => absurd k25 (by omega)) (fun k25 => ?_)
  refine lv_iload_n hx hb dX1_addPart_28 rfl (lv_at hl 4 rfl) ?_
  refine lv_iconst (v := nI 1) hx hb dX1_addPart_29 (by decide) ?_
  refine lv_bipush (v := nI 20) hx hb dX1_addPart_30 (by decide) ?_
  refine q_callI (r := bI (isin (nI w) (nI 1) (nI 20))) (va_runS (As := [.int (nI w), .int (nI 1), .int (nI 20)]) (rest := []) ⟨hx, hb, hml, hown, hts⟩ (kX1_isIn l (nI w) (nI 1) (nI 20)) (cwS 3 hts gX1_addPart_X1_isIn rfl rfl rfl (by decide +kernel) ⟨Nat.le_of_ble_eq_true rfl, Nat.le_of_ble_eq_true rfl⟩) ⟨sP_blind, sP_pre⟩ rfl rfl hl.1 rfl (lv_room (Nat.le_of_ble_eq_true rfl)) dX1_addPart_32 ⟨Nat.zero_le _, Nat.zero_le _⟩) ?_
  refine q_top (y := bI true) (by rw [isin_w (by omega) (by decide) (by decide), decide_eq_true hw1, decide_eq_true hw2]; rfl) ?_
  refine q_ifB_eq (b := true) (tgt := 42) hx hb dX1_addPart_35 (by decide) (fun k35 => absurd k35 (by decide)) (fun k35 => ?_)
  refine lv_iconst (v := nI 1) hx hb dX1_addPart_38 (by decide) ?_
  refine lv_goto (tgt := 43) hx hb dX1_addPart_39 (by decide) ?_
  refine q_top (y := bI true) ((by decide : nI 1 = bI true)) ?_
  refine lv_istore (lv' := [(5, .int (bI true)), (4, .int (bI true)), (0, .ref h), (1, .int (nI g)), (2, .int (nI q)), (3, .int (nI w))]) hx hb dX1_addPart_43 hl (by decide) rfl (fun ls hl => ?_)
  refine lv_aload_n hx hb dX1_addPart_45 rfl (lv_at hl 2 rfl) ?_
  refine lv_iload hx hb dX1_addPart_46 (lv_at hl 1 rfl) ?_
  refine q_ifB_ne (b := true) (tgt := 55) hx hb dX1_addPart_48 (by decide) (fun k48 => ?_) (fun k48 => absurd k48 (by decide))
  refine lv_iload hx hb dX1_addPart_55 (lv_at hl 0 rfl) ?_
  refine q_ifB_ne (b := true) (tgt := 64) hx hb dX1_addPart_57 (by decide) (fun k57 => ?_) (fun k57 => absurd k57 (by decide))
  refine lv_aload_n hx hb dX1_addPart_64 rfl (lv_at hl 2 rfl) ?_
  refine va_get (D := D) (ci := 1) (v := .ref (ad 5)) (C := RX1) (T := TX1) (N := 18) hx hb hts (iX1_addPart) hown hK hP 0 rfl rfl 5 (by decide) (hts (.fieldLink RX1 20 "ShopHubModel" "quantity" "[I") (by decide +kernel)) (fun _ h9 => h9) rfl dX1_addPart_65 ?_
  refine lv_bipush (v := nI 16) hx hb dX1_addPart_68 (by decide) ?_
  refine lv_iload_n hx hb dX1_addPart_70 rfl (lv_at hl 3 rfl) ?_
  refine q_mulN (a := 16) (b := g) hx hb dX1_addPart_71 ?_
  refine lv_iload_n hx hb dX1_addPart_72 rfl (lv_at hl 4 rfl) ?_
  refine q_addN (a := 16 * g) (b := q) hx hb dX1_addPart_73 ?_
  refine q_top (y := nI (g * 16 + q)) (by rw [Nat.mul_comm 16 g]) ?_
  refine q_ald nI qu hx hb hK hP 4 1 rfl rfl (k := g * 16 + q) (by omega) (Nat.le_of_ble_eq_true rfl) dX1_addPart_74 ?_
  refine lv_iload_n hx hb dX1_addPart_75 rfl (lv_at hl 5 rfl) ?_
  refine q_addN (a := qu (g * 16 + q)) (b := w) hx hb dX1_addPart_76 ?_
  refine lv_bipush (v := nI 20) hx hb dX1_addPart_77 (by decide) ?_
  refine q_icmpN_le (a := (qu (g * 16 + q)) + w) (b := 20) (tgt := 86) (by omega) (by omega) hx hb dX1_addPart_79 (by decide) (fun k79 => ?_) (fun k79 => absurd k79 (by omega))
  refine lv_iconst (v := nI 0) hx hb dX1_addPart_86 (by decide) ?_
  refine q_wcallI (r := bI (decide (0 < 0))) (w' := (mW h ad cI cJ cZ td gc ex pa di qu dc dg da dh dt dv dd ds ak se pr 0)) (va_runV (As := [.int (nI 0)]) (rest := []) ⟨hx, hb, hml, hown, hts⟩ (kX1_fails l D h ad cI cJ cZ td gc ex pa di qu dc dg da dh dt dv dd ds ak se pr th _ 0 (by decide)) (cwV 1 hts gX1_addPart_X1_fails rfl rfl rfl (by decide +kernel) ⟨Nat.le_of_ble_eq_true rfl, Nat.le_of_ble_eq_true rfl⟩) ⟨wP_blind, va_recv hK hP (ci := 1) (q0 := 0) rfl rfl, wP_pre hP hK hD⟩ rfl rfl hl.1 rfl (lv_room (Nat.le_of_ble_eq_true rfl)) dX1_addPart_87 ⟨Nat.zero_le _, Nat.zero_le _⟩) hD hS hA rfl (fun H locs hP hD hS => ?_)
  refine q_ifB_eq (b := decide (0 < 0)) (tgt := 95) hx hb dX1_addPart_90 (by decide) (fun k90 => ?_) (fun k90 => absurd k90 (by decide))
  refine lv_aload_n hx hb dX1_addPart_95 rfl (lv_at hl 2 rfl) ?_
  refine va_get (D := D) (ci := 1) (v := .ref (ad 5)) (C := RX1) (T := TX1) (N := 18) hx hb hts (iX1_addPart) hown hK hP 0 rfl rfl 5 (by decide) (hts (.fieldLink RX1 20 "ShopHubModel" "quantity" "[I") (by decide +kernel)) (fun _ h9 => h9) rfl dX1_addPart_96 ?_
  refine lv_bipush (v := nI 16) hx hb dX1_addPart_99 (by decide) ?_
  refine lv_iload_n hx hb dX1_addPart_101 rfl (lv_at hl 3 rfl) ?_
  refine q_mulN (a := 16) (b := g) hx hb dX1_addPart_102 ?_
  refine lv_iload_n hx hb dX1_addPart_103 rfl (lv_at hl 4 rfl) ?_
  refine q_addN (a := 16 * g) (b := q) hx hb dX1_addPart_104 ?_
  refine q_top (y := nI (g * 16 + q)) (by rw [Nat.mul_comm 16 g]) ?_
  refine lv_dup2_11 hx hb dX1_addPart_105 rfl rfl ?_
  refine q_ald nI qu hx hb hK hP 4 1 rfl rfl (k := g * 16 + q) (by omega) (Nat.le_of_ble_eq_true rfl) dX1_addPart_106 ?_
  refine lv_iload_n hx hb dX1_addPart_107 rfl (lv_at hl 5 rfl) ?_
  refine q_addN (a := qu (g * 16 + q)) (b := w) hx hb dX1_addPart_108 ?_
  refine q_ast nI qu ((qu (g * 16 + q)) + w) hx hb hK hP hD hS 4 1 rfl rfl (k := g * 16 + q) (by omega) (Nat.le_of_ble_eq_true rfl) dX1_addPart_109 (fun H locs hP hD hS => ?_)
  have hP : va_P D vwCl (mW h ad cI cJ cZ td gc ex pa di (va_up qu (g * 16 + q) ((qu (g * 16 + q)) + w)) dc dg da dh dt dv dd ds ak se pr 0) H := hP
  have hD : va_D A (mW h ad cI cJ cZ td gc ex pa di (va_up qu (g * 16 + q) ((qu (g * 16 + q)) + w)) dc dg da dh dt dv dd ds ak se pr 0) := hD
  refine lv_aload_n hx hb dX1_addPart_110 rfl (lv_at hl 2 rfl) ?_
  refine va_get (D := D) (ci := 1) (v := .ref (ad 5)) (C := RX1) (T := TX1) (N := 18) hx hb hts (iX1_addPart) hown hK hP 0 rfl rfl 5 (by decide) (hts (.fieldLink RX1 20 "ShopHubModel" "quantity" "[I") (by decide +kernel)) (fun _ h9 => h9) rfl dX1_addPart_111 ?_
  refine lv_bipush (v := nI 16) hx hb dX1_addPart_114 (by decide) ?_
  refine lv_iload_n hx hb dX1_addPart_116 rfl (lv_at hl 3 rfl) ?_
  refine q_mulN (a := 16) (b := g) hx hb dX1_addPart_117 ?_
  refine lv_iload_n hx hb dX1_addPart_118 rfl (lv_at hl 4 rfl) ?_
  refine q_addN (a := 16 * g) (b := q) hx hb dX1_addPart_119 ?_
  refine q_top (y := nI (g * 16 + q)) (by rw [Nat.mul_comm 16 g]) ?_
  refine q_ald nI (va_up qu (g * 16 + q) ((qu (g * 16 + q)) + w)) hx hb hK hP 4 1 rfl rfl (k := g * 16 + q) (by omega) (Nat.le_of_ble_eq_true rfl) dX1_addPart_120 ?_
  exact q_wretI hx hb hr hlocks hAe hP hS (by rw [up_at]) dX1_addPart_121

set_option maxHeartbeats 4000000 in
set_option maxRecDepth 100000 in
theorem kX1_addPart3 (l : Launch) (D : va_G) (h : Nat) (ad : Nat → Nat) (cI cJ cZ : ClassId) (td : Nat) (gc : Nat) (ex : Nat → Bool) (pa : Nat → Option Nat) (di : Nat → Nat) (qu : Nat → Nat) (dc : Nat) (dg : Nat → Nat) (da : Nat → Nat) (dh : Nat → Option Nat) (dt : Nat → Option Nat) (dv : Nat → Option Nat) (dd : Nat → Nat) (ds : Nat → Nat) (ak : Nat → Bool) (se : Nat → Option Nat) (pr : Nat → Option Nat) (th : Nat) (sz : Nat) (g q w : Nat) (hg : g < 16) (he : ex g = true) (hq : q < 16) (he2 : ex q = true) (hgc : gc ≤ 16) (hxg : ∀ j, j < 16 → ex j = true → j < gc) (hlt : q < g) (hw1 : 1 ≤ w) (hw2 : w ≤ 20) (hqu : ∀ k, k < 256 → qu k ≤ 20) (hsm : 20 < qu (g * 16 + q) + w) : Met l yX1_addPart wsX1_addPart ({ frames := 2, cells := 0, slots := 0, locals := 43 } : Room) (wP D (mW h ad cI cJ cZ td gc ex pa di qu dc dg da dh dt dv dd ds ak se pr th) (mT cI cJ cZ) [.ref h, .int (nI g), .int (nI q), .int (nI w)] sz) (wQ D (mW h ad cI cJ cZ td gc ex pa di qu dc dg da dh dt dv dd ds ak se pr th) (mW h ad cI cJ cZ td gc ex pa di qu dc dg da dh dt dv dd ds ak se pr 3) (some (.int (nI 0)))) 0 0 (va_A (mW h ad cI cJ cZ td gc ex pa di qu dc dg da dh dt dv dd ds ak se pr th) sz) := by
  refine Met.ofW (cc := cX1_addPart) (maxL := 6) (ret := (some .int)) (by decide) rfl ?_
  intro p e s m args below meth c s₁ B hml hv
  obtain ⟨rfl, hsz, hP, hK, hD0⟩ := hv
  have hx := B.exec
  have hb := B.bytes
  have hr := B.returns
  have hts := atoms_spec (ws := wsX1_addPart) B.pre
  have hown : s.vm.findClass RX1 = some m.cls := findClass_of_methodNamed B.named
  have hlocks := B.notSynchronized
  subst hsz
  have hD := hD0.self (sz := s.heap.size)
  generalize hAe : va_A (mW h ad cI cJ cZ td gc ex pa di qu dc dg da dh dt dv dd ds ak se pr th) s.heap.size = A at hD ⊢
  have hA : ∀ q : Nat, s.heap.size ≤ q → A q := fun q h => by rw [← hAe]; exact Or.inr h
  have hS : va_S A s.heap s.heap [] := va_S.rf
  have hl := lv_entry ([.ref h, .int (nI g), .int (nI q), .int (nI w)]) (n := 6) (Nat.le_of_ble_eq_true rfl)
  rw [lg_entry_eq]
  generalize (lg_sl ([.ref h, .int (nI g), .int (nI q), .int (nI w)]) ++ List.replicate (6 - (lg_sl ([.ref h, .int (nI g), .int (nI q), .int (nI w)])).length) Slot.unset).toArray = ls at hl ⊢
  have hl : lv_has ls 6 [(0, .ref h), (1, .int (nI g)), (2, .int (nI q)), (3, .int (nI w))] := hl
  refine lv_aload_n hx hb dX1_addPart_0 rfl (lv_at hl 0 rfl) ?_
  refine lv_iload_n hx hb dX1_addPart_1 rfl (lv_at hl 1 rfl) ?_
  refine q_callI (r := bI (ex g)) (va_runV (As := [.int (nI g)]) (rest := []) ⟨hx, hb, hml, hown, hts⟩ (kX1_isGoodN l D h ad cI cJ cZ td gc ex pa di qu dc dg da dh dt dv dd ds ak se pr th g hg hgc hxg) (cwV 1 hts gX1_addPart_X1_isGood rfl rfl rfl (by decide +kernel) ⟨Nat.le_of_ble_eq_true rfl, Nat.le_of_ble_eq_true rfl⟩) ⟨pP_blind, va_recv hK hP (ci := 1) (q0 := 0) rfl rfl, pP_pre hP hK⟩ rfl rfl hl.1 rfl (lv_room (Nat.le_of_ble_eq_true rfl)) dX1_addPart_2 ⟨Nat.zero_le _, Nat.zero_le _⟩) ?_
  refine q_ifB_eq (b := ex g) (tgt := 20) hx hb dX1_addPart_5 (by decide) (fun k5 => absurd k5 (by rw [he]; decide)) (fun k5 => ?_)
  refine lv_aload_n hx hb dX1_addPart_8 rfl (lv_at hl 0 rfl) ?_
  refine lv_iload_n hx hb dX1_addPart_9 rfl (lv_at hl 2 rfl) ?_
  refine q_callI (r := bI (ex q)) (va_runV (As := [.int (nI q)]) (rest := []) ⟨hx, hb, hml, hown, hts⟩ (kX1_isGoodN l D h ad cI cJ cZ td gc ex pa di qu dc dg da dh dt dv dd ds ak se pr th q hq hgc hxg) (cwV 1 hts gX1_addPart_X1_isGood rfl rfl rfl (by decide +kernel) ⟨Nat.le_of_ble_eq_true rfl, Nat.le_of_ble_eq_true rfl⟩) ⟨pP_blind, va_recv hK hP (ci := 1) (q0 := 0) rfl rfl, pP_pre hP hK⟩ rfl rfl hl.1 rfl (lv_room (Nat.le_of_ble_eq_true rfl)) dX1_addPart_10 ⟨Nat.zero_le _, Nat.zero_le _⟩) ?_
  refine q_ifB_eq (b := ex q) (tgt := 20) hx hb dX1_addPart_13 (by decide) (fun k13 => absurd k13 (by rw [he2]; decide)) (fun k13 => ?_)
  refine lv_iconst (v := nI 1) hx hb dX1_addPart_16 (by decide) ?_
  refine lv_goto (tgt := 21) hx hb dX1_addPart_17 (by decide) ?_
  refine q_top (y := bI true) ((by decide : nI 1 = bI true)) ?_
  refine lv_istore (lv' := [(4, .int (bI true)), (0, .ref h), (1, .int (nI g)), (2, .int (nI q)), (3, .int (nI w))]) hx hb dX1_addPart_21 hl (by decide) rfl (fun ls hl => ?_)
  refine lv_iload_n hx hb dX1_addPart_23 rfl (lv_at hl 3 rfl) ?_
  refine lv_iload_n hx hb dX1_addPart_24 rfl (lv_at hl 2 rfl) ?_
  refine q_icmpN_ge (a := q) (b := g) (tgt := 42) (by omega) (by omega) hx hb dX1_addPart_25 (by decide) (fun k25 => absurd k25 (by omega)) (fun k25 => ?_)
  refine lv_iload_n hx hb dX1_addPart_28 rfl (lv_at hl 4 rfl) ?_
  refine lv_iconst (v := nI 1) hx hb dX1_addPart_29 (by decide) ?_
  refine lv_bipush (v := nI 20) hx hb dX1_addPart_30 (by decide) ?_
  refine q_callI (r := bI (isin (nI w) (nI 1) (nI 20))) (va_runS (As := [.int (nI w), .int (nI 1), .int (nI 20)]) (rest := []) ⟨hx, hb, hml, hown, hts⟩ (kX1_isIn l (nI w) (nI 1) (nI 20)) (cwS 3 hts gX1_addPart_X1_isIn rfl rfl rfl (by decide +kernel) ⟨Nat.le_of_ble_eq_true rfl, Nat.le_of_ble_eq_true rfl⟩) ⟨sP_blind, sP_pre⟩ rfl rfl hl.1 rfl (lv_room (Nat.le_of_ble_eq_true rfl)) dX1_addPart_32 ⟨Nat.zero_le _, Nat.zero_le _⟩) ?_
  refine q_top (y := bI true) (by rw [isin_w (by omega) (by decide) (by decide), decide_eq_true hw1, decide_eq_true hw2]; rfl) ?_
  refine q_ifB_eq (b := true) (tgt := 42) hx hb dX1_addPart_35 (by decide) (fun k35 => absurd k35 (by decide)) (fun k35 => ?_)
  refine lv_iconst (v := nI 1) hx hb dX1_addPart_38 (by decide) ?_
  refine lv_goto (tgt := 43) hx hb dX1_addPart_39 (by decide) ?_
  refine q_top (y := bI true) ((by decide : nI 1 = bI true)) ?_
  refine lv_istore (lv' := [(5, .int (bI true)), (4, .int (bI true)), (0, .ref h), (1, .int (nI g)), (2, .int (nI q)), (3, .int (nI w))]) hx hb dX1_addPart_43 hl (by decide) rfl (fun ls hl => ?_)
  refine lv_aload_n hx hb dX1_addPart_45 rfl (lv_at hl 2 rfl) ?_
  refine lv_iload hx hb dX1_addPart_46 (lv_at hl 1 rfl) ?_
  refine q_ifB_ne (b := true) (tgt := 55) hx hb dX1_addPart_48 (by decide) (fun k48 => ?_) (fun k48 => absurd k48 (by decide))
  refine lv_iload hx hb dX1_addPart_55 (lv_at hl 0 rfl) ?_
  refine q_ifB_ne (b := true) (tgt := 64) hx hb dX1_addPart_57 (by decide) (fun k57 => ?_) (fun k57 => absurd k57 (by decide))
  refine lv_aload_n hx hb dX1_addPart_64 rfl (lv_at hl 2 rfl) ?_
  refine va_get (D := D) (ci := 1) (v := .ref (ad 5)) (C := RX1) (T := TX1) (N := 18) hx hb hts (iX1_addPart) hown hK hP 0 rfl rfl 5 (by decide) (hts (.fieldLink RX1 20 "ShopHubModel" "quantity" "[I") (by decide +kernel)) (fun _ h9 => h9) rfl dX1_addPart_65 ?_
  refine lv_bipush (v := nI 16) hx hb dX1_addPart_68 (by decide) ?_
  refine lv_iload_n hx hb dX1_addPart_70 rfl (lv_at hl 3 rfl) ?_
  refine q_mulN (a := 16) (b := g) hx hb dX1_addPart_71 ?_
  refine lv_iload_n hx hb dX1_addPart_72 rfl (lv_at hl 4 rfl) ?_
  refine q_addN (a := 16 * g) (b := q) hx hb dX1_addPart_73 ?_
  refine q_top (y := nI (g * 16 + q)) (by rw [Nat.mul_comm 16 g]) ?_
  refine q_ald nI qu hx hb hK hP 4 1 rfl rfl (k := g * 16 + q) (by omega) (Nat.le_of_ble_eq_true rfl) dX1_addPart_74 ?_
  refine lv_iload_n hx hb dX1_addPart_75 rfl (lv_at hl 5 rfl) ?_
  refine q_addN (a := qu (g * 16 + q)) (b := w) hx hb dX1_addPart_76 ?_
  refine lv_bipush (v := nI 20) hx hb dX1_addPart_77 (by decide) ?_
  refine q_icmpN_le (a := (qu (g * 16 + q)) + w) (b := 20) (tgt := 86) (by have := hqu (g * 16 + q) (by omega); omega) (by omega) hx hb dX1_addPart_79 (by decide) (fun k79 => absurd k79 (by omega)) (fun k79 => ?_)
  refine lv_iconst (v := nI 3) hx hb dX1_addPart_82 (by decide) ?_
  refine lv_goto (tgt := 87) hx hb dX1_addPart_83 (by decide) ?_
  refine q_wcallI (r := bI (decide (0 < 3))) (w' := (mW h ad cI cJ cZ td gc ex pa di qu dc dg da dh dt dv dd ds ak se pr 3)) (va_runV (As := [.int (nI 3)]) (rest := []) ⟨hx, hb, hml, hown, hts⟩ (kX1_fails l D h ad cI cJ cZ td gc ex pa di qu dc dg da dh dt dv dd ds ak se pr th _ 3 (by decide)) (cwV 1 hts gX1_addPart_X1_fails rfl rfl rfl (by decide +kernel) ⟨Nat.le_of_ble_eq_true rfl, Nat.le_of_ble_eq_true rfl⟩) ⟨wP_blind, va_recv hK hP (ci := 1) (q0 := 0) rfl rfl, wP_pre hP hK hD⟩ rfl rfl hl.1 rfl (lv_room (Nat.le_of_ble_eq_true rfl)) dX1_addPart_87 ⟨Nat.zero_le _, Nat.zero_le _⟩) hD hS hA rfl (fun H locs hP hD hS => ?_)
  refine q_ifB_eq (b := decide (0 < 3)) (tgt := 95) hx hb dX1_addPart_90 (by decide) (fun k90 => absurd k90 (by decide)) (fun k90 => ?_)
  refine lv_iconst (v := nI 0) hx hb dX1_addPart_93 (by decide) ?_
  exact q_wretI hx hb hr hlocks hAe hP hS (rfl) dX1_addPart_94

set_option maxHeartbeats 4000000 in
set_option maxRecDepth 100000 in
theorem kX1_addPart2 (l : Launch) (D : va_G) (h : Nat) (ad : Nat → Nat) (cI cJ cZ : ClassId) (td : Nat) (gc : Nat) (ex : Nat → Bool) (pa : Nat → Option Nat) (di : Nat → Nat) (qu : Nat → Nat) (dc : Nat) (dg : Nat → Nat) (da : Nat → Nat) (dh : Nat → Option Nat) (dt : Nat → Option Nat) (dv : Nat → Option Nat) (dd : Nat → Nat) (ds : Nat → Nat) (ak : Nat → Bool) (se : Nat → Option Nat) (pr : Nat → Option Nat) (th : Nat) (sz : Nat) (g q : Nat) (w : Int32) (hg : g < 16) (he : ex g = true) (hq : q < 16) (he2 : ex q = true) (hgc : gc ≤ 16) (hxg : ∀ j, j < 16 → ex j = true → j < gc) (hbad : g ≤ q ∨ w < nI 1 ∨ nI 20 < w) : Met l yX1_addPart wsX1_addPart ({ frames := 2, cells := 0, slots := 0, locals := 43 } : Room) (wP D (mW h ad cI cJ cZ td gc ex pa di qu dc dg da dh dt dv dd ds ak se pr th) (mT cI cJ cZ) [.ref h, .int (nI g), .int (nI q), .int w] sz) (wQ D (mW h ad cI cJ cZ td gc ex pa di qu dc dg da dh dt dv dd ds ak se pr th) (mW h ad cI cJ cZ td gc ex pa di qu dc dg da dh dt dv dd ds ak se pr 2) (some (.int (nI 0)))) 0 0 (va_A (mW h ad cI cJ cZ td gc ex pa di qu dc dg da dh dt dv dd ds ak se pr th) sz) := by
  refine Met.ofW (cc := cX1_addPart) (maxL := 6) (ret := (some .int)) (by decide) rfl ?_
  intro p e s m args below meth c s₁ B hml hv
  obtain ⟨rfl, hsz, hP, hK, hD0⟩ := hv
  have hx := B.exec
  have hb := B.bytes
  have hr := B.returns
  have hts := atoms_spec (ws := wsX1_addPart) B.pre
  have hown : s.vm.findClass RX1 = some m.cls := findClass_of_methodNamed B.named
  have hlocks := B.notSynchronized
  subst hsz
  have hD := hD0.self (sz := s.heap.size)
  generalize hAe : va_A (mW h ad cI cJ cZ td gc ex pa di qu dc dg da dh dt dv dd ds ak se pr th) s.heap.size = A at hD ⊢
  have hA : ∀ q : Nat, s.heap.size ≤ q → A q := fun q h => by rw [← hAe]; exact Or.inr h
  have hS : va_S A s.heap s.heap [] := va_S.rf
  have hl := lv_entry ([.ref h, .int (nI g), .int (nI q), .int w]) (n := 6) (Nat.le_of_ble_eq_true rfl)
  rw [lg_entry_eq]
  generalize (lg_sl ([.ref h, .int (nI g), .int (nI q), .int w]) ++ List.replicate (6 - (lg_sl ([.ref h, .int (nI g), .int (nI q), .int w])).length) Slot.unset).toArray = ls at hl ⊢
  have hl : lv_has ls 6 [(0, .ref h), (1, .int (nI g)), (2, .int (nI q)), (3, .int w)] := hl
  refine lv_aload_n hx hb dX1_addPart_0 rfl (lv_at hl 0 rfl) ?_
  refine lv_iload_n hx hb dX1_addPart_1 rfl (lv_at hl 1 rfl) ?_
  refine q_callI (r := bI (ex g)) (va_runV (As := [.int (nI g)]) (rest := []) ⟨hx, hb, hml, hown, hts⟩ (kX1_isGoodN l D h ad cI cJ cZ td gc ex pa di qu dc dg da dh dt dv dd ds ak se pr th g hg hgc hxg) (cwV 1 hts gX1_addPart_X1_isGood rfl rfl rfl (by decide +kernel) ⟨Nat.le_of_ble_eq_true rfl, Nat.le_of_ble_eq_true rfl⟩) ⟨pP_blind, va_recv hK hP (ci := 1) (q0 := 0) rfl rfl, pP_pre hP hK⟩ rfl rfl hl.1 rfl (lv_room (Nat.le_of_ble_eq_true rfl)) dX1_addPart_2 ⟨Nat.zero_le _, Nat.zero_le _⟩) ?_
  refine q_ifB_eq (b := ex g) (tgt := 20) hx hb dX1_addPart_5 (by decide) (fun k5 => absurd k5 (by rw [he]; decide)) (fun k5 => ?_)
  refine lv_aload_n hx hb dX1_addPart_8 rfl (lv_at hl 0 rfl) ?_
  refine lv_iload_n hx hb dX1_addPart_9 rfl (lv_at hl 2 rfl) ?_
  refine q_callI (r := bI (ex q)) (va_runV (As := [.int (nI q)]) (rest := []) ⟨hx, hb, hml, hown, hts⟩ (kX1_isGoodN l D h ad cI cJ cZ td gc ex pa di qu dc dg da dh dt dv dd ds ak se pr th q hq hgc hxg) (cwV 1 hts gX1_addPart_X1_isGood rfl rfl rfl (by decide +kernel) ⟨Nat.le_of_ble_eq_true rfl, Nat.le_of_ble_eq_true rfl⟩) ⟨pP_blind, va_recv hK hP (ci := 1) (q0 := 0) rfl rfl, pP_pre hP hK⟩ rfl rfl hl.1 rfl (lv_room (Nat.le_of_ble_eq_true rfl)) dX1_addPart_10 ⟨Nat.zero_le _, Nat.zero_le _⟩) ?_
  refine q_ifB_eq (b := ex q) (tgt := 20) hx hb dX1_addPart_13 (by decide) (fun k13 => absurd k13 (by rw [he2]; decide)) (fun k13 => ?_)
  refine lv_iconst (v := nI 1) hx hb dX1_addPart_16 (by decide) ?_
  refine lv_goto (tgt := 21) hx hb dX1_addPart_17 (by decide) ?_
  refine q_top (y := bI true) ((by decide : nI 1 = bI true)) ?_
  refine lv_istore (lv' := [(4, .int (bI true)), (0, .ref h), (1, .int (nI g)), (2, .int (nI q)), (3, .int w)]) hx hb dX1_addPart_21 hl (by decide) rfl (fun ls hl => ?_)
  refine lv_iload_n hx hb dX1_addPart_23 rfl (lv_at hl 3 rfl) ?_
  refine lv_iload_n hx hb dX1_addPart_24 rfl (lv_at hl 2 rfl) ?_
  refine q_icmpN_ge (a := q) (b := g) (tgt := 42) (by omega) (by omega) hx hb dX1_addPart_25 (by decide) (fun k25 => ?_) (fun k25 => ?_)
  · refine lv_iconst (v := nI 0) hx hb dX1_addPart_42 (by decide) ?_
    refine q_top (y := bI false) ((by decide : nI 0 = bI false)) ?_
    refine lv_istore (lv' := [(5, .int (bI false)), (4, .int (bI true)), (0, .ref h), (1, .int (nI g)), (2, .int (nI q)), (3, .int w)]) hx hb dX1_addPart_43 hl (by decide) rfl (fun ls hl => ?_)
    refine lv_aload_n hx hb dX1_addPart_45 rfl (lv_at hl 2 rfl) ?_
    refine lv_iload hx hb dX1_addPart_46 (lv_at hl 1 rfl) ?_
    refine q_ifB_ne (b := true) (tgt := 55) hx hb dX1_addPart_48 (by decide) (fun k48 => ?_) (fun k48 => absurd k48 (by decide))
    refine lv_iload hx hb dX1_addPart_55 (lv_at hl 0 rfl) ?_
    refine q_ifB_ne (b := false) (tgt := 64) hx hb dX1_addPart_57 (by decide) (fun k57 => absurd k57 (by decide)) (fun k57 => ?_)
    refine lv_iconst (v := nI 2) hx hb dX1_addPart_60 (by decide) ?_
    refine lv_goto (tgt := 87) hx hb dX1_addPart_61 (by decide) ?_
    refine q_wcallI (r := bI (decide (0 < 2))) (w' := (mW h ad cI cJ cZ td gc ex pa di qu dc dg da dh dt dv dd ds ak se pr 2)) (va_runV (As := [.int (nI 2)]) (rest := []) ⟨hx, hb, hml, hown, hts⟩ (kX1_fails l D h ad cI cJ cZ td gc ex pa di qu dc dg da dh dt dv dd ds ak se pr th _ 2 (by decide)) (cwV 1 hts gX1_addPart_X1_fails rfl rfl rfl (by decide +kernel) ⟨Nat.le_of_ble_eq_true rfl, Nat.le_of_ble_eq_true rfl⟩) ⟨wP_blind, va_recv hK hP (ci := 1) (q0 := 0) rfl rfl, wP_pre hP hK hD⟩ rfl rfl hl.1 rfl (lv_room (Nat.le_of_ble_eq_true rfl)) dX1_addPart_87 ⟨Nat.zero_le _, Nat.zero_le _⟩) hD hS hA rfl (fun H locs hP hD hS => ?_)
    refine q_ifB_eq (b := decide (0 < 2)) (tgt := 95) hx hb dX1_addPart_90 (by decide) (fun k90 => absurd k90 (by decide)) (fun k90 => ?_)
    refine lv_iconst (v := nI 0) hx hb dX1_addPart_93 (by decide) ?_
    exact q_wretI hx hb hr hlocks hAe hP hS (rfl) dX1_addPart_94
  · have hb2 := hbad.resolve_left (by omega)
    refine lv_iload_n hx hb dX1_addPart_28 rfl (lv_at hl 4 rfl) ?_
    refine lv_iconst (v := nI 1) hx hb dX1_addPart_29 (by decide) ?_
    refine lv_bipush (v := nI 20) hx hb dX1_addPart_30 (by decide) ?_
    refine q_callI (r := bI (isin w (nI 1) (nI 20))) (va_runS (As := [.int w, .int (nI 1), .int (nI 20)]) (rest := []) ⟨hx, hb, hml, hown, hts⟩ (kX1_isIn l w (nI 1) (nI 20)) (cwS 3 hts gX1_addPart_X1_isIn rfl rfl rfl (by decide +kernel) ⟨Nat.le_of_ble_eq_true rfl, Nat.le_of_ble_eq_true rfl⟩) ⟨sP_blind, sP_pre⟩ rfl rfl hl.1 rfl (lv_room (Nat.le_of_ble_eq_true rfl)) dX1_addPart_32 ⟨Nat.zero_le _, Nat.zero_le _⟩) ?_
    refine q_top (y := bI false) (by rw [isin_wb hb2]) ?_
    refine q_ifB_eq (b := false) (tgt := 42) hx hb dX1_addPart_35 (by decide) (fun k35 => ?_) (fun k35 => absurd k35 (by decide))
    refine lv_iconst (v := nI 0) hx hb dX1_addPart_42 (by decide) ?_
    refine q_top (y := bI false) ((by decide : nI 0 = bI false)) ?_
    refine lv_istore (lv' := [(5, .int (bI false)), (4, .int (bI true)), (0, .ref h), (1, .int (nI g)), (2, .int (nI q)), (3, .int w)]) hx hb dX1_addPart_43 hl (by decide) rfl (fun ls hl => ?_)
    refine lv_aload_n hx hb dX1_addPart_45 rfl (lv_at hl 2 rfl) ?_
    refine lv_iload hx hb dX1_addPart_46 (lv_at hl 1 rfl) ?_
    refine q_ifB_ne (b := true) (tgt := 55) hx hb dX1_addPart_48 (by decide) (fun k48 => ?_) (fun k48 => absurd k48 (by decide))
    refine lv_iload hx hb dX1_addPart_55 (lv_at hl 0 rfl) ?_
    refine q_ifB_ne (b := false) (tgt := 64) hx hb dX1_addPart_57 (by decide) (fun k57 => absurd k57 (by decide)) (fun k57 => ?_)
    refine lv_iconst (v := nI 2) hx hb dX1_addPart_60 (by decide) ?_
    refine lv_goto (tgt := 87) hx hb dX1_addPart_61 (by decide) ?_
    refine q_wcallI (r := bI (decide (0 < 2))) (w' := (mW h ad cI cJ cZ td gc ex pa di qu dc dg da dh dt dv dd ds ak se pr 2)) (va_runV (As := [.int (nI 2)]) (rest := []) ⟨hx, hb, hml, hown, hts⟩ (kX1_fails l D h ad cI cJ cZ td gc ex pa di qu dc dg da dh dt dv dd ds ak se pr th _ 2 (by decide)) (cwV 1 hts gX1_addPart_X1_fails rfl rfl rfl (by decide +kernel) ⟨Nat.le_of_ble_eq_true rfl, Nat.le_of_ble_eq_true rfl⟩) ⟨wP_blind, va_recv hK hP (ci := 1) (q0 := 0) rfl rfl, wP_pre hP hK hD⟩ rfl rfl hl.1 rfl (lv_room (Nat.le_of_ble_eq_true rfl)) dX1_addPart_87 ⟨Nat.zero_le _, Nat.zero_le _⟩) hD hS hA rfl (fun H locs hP hD hS => ?_)
    refine q_ifB_eq (b := decide (0 < 2)) (tgt := 95) hx hb dX1_addPart_90 (by decide) (fun k90 => absurd k90 (by decide)) (fun k90 => ?_)
    refine lv_iconst (v := nI 0) hx hb dX1_addPart_93 (by decide) ?_
    exact q_wretI hx hb hr hlocks hAe hP hS (rfl) dX1_addPart_94

set_option maxHeartbeats 4000000 in
set_option maxRecDepth 100000 in
theorem kX1_addPart1 (l : Launch) (D : va_G) (h : Nat) (ad : Nat → Nat) (cI cJ cZ : ClassId) (td : Nat) (gc : Nat) (ex : Nat → Bool) (pa : Nat → Option Nat) (di : Nat → Nat) (qu : Nat → Nat) (dc : Nat) (dg : Nat → Nat) (da : Nat → Nat) (dh : Nat → Option Nat) (dt : Nat → Option Nat) (dv : Nat → Option Nat) (dd : Nat → Nat) (ds : Nat → Nat) (ak : Nat → Bool) (se : Nat → Option Nat) (pr : Nat → Option Nat) (th : Nat) (sz : Nat) (g q w : Int32) (hgc : gc ≤ 16) (hxg : ∀ j, j < 16 → ex j = true → j < gc) (hg : gBad ex g ∨ ∃ j, j < 16 ∧ g = nI j ∧ ex j = true ∧ gBad ex q) : Met l yX1_addPart wsX1_addPart ({ frames := 2, cells := 0, slots := 0, locals := 43 } : Room) (wP D (mW h ad cI cJ cZ td gc ex pa di qu dc dg da dh dt dv dd ds ak se pr th) (mT cI cJ cZ) [.ref h, .int g, .int q, .int w] sz) (wQ D (mW h ad cI cJ cZ td gc ex pa di qu dc dg da dh dt dv dd ds ak se pr th) (mW h ad cI cJ cZ td gc ex pa di qu dc dg da dh dt dv dd ds ak se pr 1) (some (.int (nI 0)))) 0 0 (va_A (mW h ad cI cJ cZ td gc ex pa di qu dc dg da dh dt dv dd ds ak se pr th) sz) := by
  refine Met.ofW (cc := cX1_addPart) (maxL := 6) (ret := (some .int)) (by decide) rfl ?_
  intro p e s m args below meth c s₁ B hml hv
  obtain ⟨rfl, hsz, hP, hK, hD0⟩ := hv
  have hx := B.exec
  have hb := B.bytes
  have hr := B.returns
  have hts := atoms_spec (ws := wsX1_addPart) B.pre
  have hown : s.vm.findClass RX1 = some m.cls := findClass_of_methodNamed B.named
  have hlocks := B.notSynchronized
  subst hsz
  have hD := hD0.self (sz := s.heap.size)
  generalize hAe : va_A (mW h ad cI cJ cZ td gc ex pa di qu dc dg da dh dt dv dd ds ak se pr th) s.heap.size = A at hD ⊢
  have hA : ∀ q : Nat, s.heap.size ≤ q → A q := fun q h => by rw [← hAe]; exact Or.inr h
  have hS : va_S A s.heap s.heap [] := va_S.rf
  have hl := lv_entry ([.ref h, .int g, .int q, .int w]) (n := 6) (Nat.le_of_ble_eq_true rfl)
  rw [lg_entry_eq]
  generalize (lg_sl ([.ref h, .int g, .int q, .int w]) ++ List.replicate (6 - (lg_sl ([.ref h, .int g, .int q, .int w])).length) Slot.unset).toArray = ls at hl ⊢
  have hl : lv_has ls 6 [(0, .ref h), (1, .int g), (2, .int q), (3, .int w)] := hl
  rcases hg with hg | ⟨j, hj, rfl, he, hg⟩
  · refine lv_aload_n hx hb dX1_addPart_0 rfl (lv_at hl 0 rfl) ?_
    rcases gBad_c hg with hg | ⟨j, hj, rfl, he⟩
    · refine lv_iload_n hx hb dX1_addPart_1 rfl (lv_at hl 1 rfl) ?_
      refine q_callI (r := bI false) (va_runV (As := [.int g]) (rest := []) ⟨hx, hb, hml, hown, hts⟩ (kX1_isGoodR l D h ad cI cJ cZ td gc ex pa di qu dc dg da dh dt dv dd ds ak se pr th g hgc hg) (cwV 1 hts gX1_addPart_X1_isGood rfl rfl rfl (by decide +kernel) ⟨Nat.le_of_ble_eq_true rfl, Nat.le_of_ble_eq_true rfl⟩) ⟨pP_blind, va_recv hK hP (ci := 1) (q0 := 0) rfl rfl, pP_pre hP hK⟩ rfl rfl hl.1 rfl (lv_room (Nat.le_of_ble_eq_true rfl)) dX1_addPart_2 ⟨Nat.zero_le _, Nat.zero_le _⟩) ?_
      refine q_ifB_eq (b := false) (tgt := 20) hx hb dX1_addPart_5 (by decide) (fun k5 => ?_) (fun k5 => absurd k5 (by decide))
      refine lv_iconst (v := nI 0) hx hb dX1_addPart_20 (by decide) ?_
      refine q_top (y := bI false) ((by decide : nI 0 = bI false)) ?_
      refine lv_istore (lv' := [(4, .int (bI false)), (0, .ref h), (1, .int g), (2, .int q), (3, .int w)]) hx hb dX1_addPart_21 hl (by decide) rfl (fun ls hl => ?_)
      refine lv_iload_n hx hb dX1_addPart_23 rfl (lv_at hl 3 rfl) ?_
      refine lv_iload_n hx hb dX1_addPart_24 rfl (lv_at hl 2 rfl) ?_
      refine lv_icmp_ge (tgt := 42) hx hb dX1_addPart_25 (by decide) (fun k25 => ?_) (fun k25 => ?_)
      · refine lv_iconst (v := nI 0) hx hb dX1_addPart_42 (by decide) ?_
        refine q_top (y := bI false) ((by decide : nI 0 = bI false)) ?_
        refine lv_istore (lv' := [(5, .int (bI false)), (4, .int (bI false)), (0, .ref h), (1, .int g), (2, .int q), (3, .int w)]) hx hb dX1_addPart_43 hl (by decide) rfl (fun ls hl => ?_)
        refine lv_aload_n hx hb dX1_addPart_45 rfl (lv_at hl 2 rfl) ?_
        refine lv_iload hx hb dX1_addPart_46 (lv_at hl 1 rfl) ?_
        refine q_ifB_ne (b := false) (tgt := 55) hx hb dX1_addPart_48 (by decide) (fun k48 => absurd k48 (by decide)) (fun k48 => ?_)
        refine lv_iconst (v := nI 1) hx hb dX1_addPart_51 (by decide) ?_
        refine lv_goto (tgt := 87) hx hb dX1_addPart_52 (by decide) ?_
        refine q_wcallI (r := bI (decide (0 < 1))) (w' := (mW h ad cI cJ cZ td gc ex pa di qu dc dg da dh dt dv dd ds ak se pr 1)) (va_runV (As := [.int (nI 1)]) (rest := []) ⟨hx, hb, hml, hown, hts⟩ (kX1_fails l D h ad cI cJ cZ td gc ex pa di qu dc dg da dh dt dv dd ds ak se pr th _ 1 (by decide)) (cwV 1 hts gX1_addPart_X1_fails rfl rfl rfl (by decide +kernel) ⟨Nat.le_of_ble_eq_true rfl, Nat.le_of_ble_eq_true rfl⟩) ⟨wP_blind, va_recv hK hP (ci := 1) (q0 := 0) rfl rfl, wP_pre hP hK hD⟩ rfl rfl hl.1 rfl (lv_room (Nat.le_of_ble_eq_true rfl)) dX1_addPart_87 ⟨Nat.zero_le _, Nat.zero_le _⟩) hD hS hA rfl (fun H locs hP hD hS => ?_)
        refine q_ifB_eq (b := decide (0 < 1)) (tgt := 95) hx hb dX1_addPart_90 (by decide) (fun k90 => absurd k90 (by decide)) (fun k90 => ?_)
        refine lv_iconst (v := nI 0) hx hb dX1_addPart_93 (by decide) ?_
        exact q_wretI hx hb hr hlocks hAe hP hS (rfl) dX1_addPart_94
      · refine lv_iload_n hx hb dX1_addPart_28 rfl (lv_at hl 4 rfl) ?_
        refine lv_iconst (v := nI 1) hx hb dX1_addPart_29 (by decide) ?_
        refine lv_bipush (v := nI 20) hx hb dX1_addPart_30 (by decide) ?_
        refine q_callI (r := bI (isin w (nI 1) (nI 20))) (va_runS (As := [.int w, .int (nI 1), .int (nI 20)]) (rest := []) ⟨hx, hb, hml, hown, hts⟩ (kX1_isIn l w (nI 1) (nI 20)) (cwS 3 hts gX1_addPart_X1_isIn rfl rfl rfl (by decide +kernel) ⟨Nat.le_of_ble_eq_true rfl, Nat.le_of_ble_eq_true rfl⟩) ⟨sP_blind, sP_pre⟩ rfl rfl hl.1 rfl (lv_room (Nat.le_of_ble_eq_true rfl)) dX1_addPart_32 ⟨Nat.zero_le _, Nat.zero_le _⟩) ?_
        refine q_ifB_eq (b := isin w (nI 1) (nI 20)) (tgt := 42) hx hb dX1_addPart_35 (by decide) (fun k35 => ?_) (fun k35 => ?_)
        · refine lv_iconst (v := nI 0) hx hb dX1_addPart_42 (by decide) ?_
          refine q_top (y := bI false) ((by decide : nI 0 = bI false)) ?_
          refine lv_istore (lv' := [(5, .int (bI false)), (4, .int (bI false)), (0, .ref h), (1, .int g), (2, .int q), (3, .int w)]) hx hb dX1_addPart_43 hl (by decide) rfl (fun ls hl => ?_)
          refine lv_aload_n hx hb dX1_addPart_45 rfl (lv_at hl 2 rfl) ?_
          refine lv_iload hx hb dX1_addPart_46 (lv_at hl 1 rfl) ?_
          refine q_ifB_ne (b := false) (tgt := 55) hx hb dX1_addPart_48 (by decide) (fun k48 => absurd k48 (by decide)) (fun k48 => ?_)
          refine lv_iconst (v := nI 1) hx hb dX1_addPart_51 (by decide) ?_
          refine lv_goto (tgt := 87) hx hb dX1_addPart_52 (by decide) ?_
          refine q_wcallI (r := bI (decide (0 < 1))) (w' := (mW h ad cI cJ cZ td gc ex pa di qu dc dg da dh dt dv dd ds ak se pr 1)) (va_runV (As := [.int (nI 1)]) (rest := []) ⟨hx, hb, hml, hown, hts⟩ (kX1_fails l D h ad cI cJ cZ td gc ex pa di qu dc dg da dh dt dv dd ds ak se pr th _ 1 (by decide)) (cwV 1 hts gX1_addPart_X1_fails rfl rfl rfl (by decide +kernel) ⟨Nat.le_of_ble_eq_true rfl, Nat.le_of_ble_eq_true rfl⟩) ⟨wP_blind, va_recv hK hP (ci := 1) (q0 := 0) rfl rfl, wP_pre hP hK hD⟩ rfl rfl hl.1 rfl (lv_room (Nat.le_of_ble_eq_true rfl)) dX1_addPart_87 ⟨Nat.zero_le _, Nat.zero_le _⟩) hD hS hA rfl (fun H locs hP hD hS => ?_)
          refine q_ifB_eq (b := decide (0 < 1)) (tgt := 95) hx hb dX1_addPart_90 (by decide) (fun k90 => absurd k90 (by decide)) (fun k90 => ?_)
          refine lv_iconst (v := nI 0) hx hb dX1_addPart_93 (by decide) ?_
          exact q_wretI hx hb hr hlocks hAe hP hS (rfl) dX1_addPart_94
        · refine lv_iconst (v := nI 1) hx hb dX1_addPart_38 (by decide) ?_
          refine lv_goto (tgt := 43) hx hb dX1_addPart_39 (by decide) ?_
          refine q_top (y := bI true) ((by decide : nI 1 = bI true)) ?_
          refine lv_istore (lv' := [(5, .int (bI true)), (4, .int (bI false)), (0, .ref h), (1, .int g), (2, .int q), (3, .int w)]) hx hb dX1_addPart_43 hl (by decide) rfl (fun ls hl => ?_)
          refine lv_aload_n hx hb dX1_addPart_45 rfl (lv_at hl 2 rfl) ?_
          refine lv_iload hx hb dX1_addPart_46 (lv_at hl 1 rfl) ?_
          refine q_ifB_ne (b := false) (tgt := 55) hx hb dX1_addPart_48 (by decide) (fun k48 => absurd k48 (by decide)) (fun k48 => ?_)
          refine lv_iconst (v := nI 1) hx hb dX1_addPart_51 (by decide) ?_
          refine lv_goto (tgt := 87) hx hb dX1_addPart_52 (by decide) ?_
          refine q_wcallI (r := bI (decide (0 < 1))) (w' := (mW h ad cI cJ cZ td gc ex pa di qu dc dg da dh dt dv dd ds ak se pr 1)) (va_runV (As := [.int (nI 1)]) (rest := []) ⟨hx, hb, hml, hown, hts⟩ (kX1_fails l D h ad cI cJ cZ td gc ex pa di qu dc dg da dh dt dv dd ds ak se pr th _ 1 (by decide)) (cwV 1 hts gX1_addPart_X1_fails rfl rfl rfl (by decide +kernel) ⟨Nat.le_of_ble_eq_true rfl, Nat.le_of_ble_eq_true rfl⟩) ⟨wP_blind, va_recv hK hP (ci := 1) (q0 := 0) rfl rfl, wP_pre hP hK hD⟩ rfl rfl hl.1 rfl (lv_room (Nat.le_of_ble_eq_true rfl)) dX1_addPart_87 ⟨Nat.zero_le _, Nat.zero_le _⟩) hD hS hA rfl (fun H locs hP hD hS => ?_)
          refine q_ifB_eq (b := decide (0 < 1)) (tgt := 95) hx hb dX1_addPart_90 (by decide) (fun k90 => absurd k90 (by decide)) (fun k90 => ?_)
          refine lv_iconst (v := nI 0) hx hb dX1_addPart_93 (by decide) ?_
          exact q_wretI hx hb hr hlocks hAe hP hS (rfl) dX1_addPart_94
    · refine lv_iload_n hx hb dX1_addPart_1 rfl (lv_at hl 1 rfl) ?_
      refine q_callI (r := bI (ex j)) (va_runV (As := [.int (nI j)]) (rest := []) ⟨hx, hb, hml, hown, hts⟩ (kX1_isGoodN l D h ad cI cJ cZ td gc ex pa di qu dc dg da dh dt dv dd ds ak se pr th j hj hgc hxg) (cwV 1 hts gX1_addPart_X1_isGood rfl rfl rfl (by decide +kernel) ⟨Nat.le_of_ble_eq_true rfl, Nat.le_of_ble_eq_true rfl⟩) ⟨pP_blind, va_recv hK hP (ci := 1) (q0 := 0) rfl rfl, pP_pre hP hK⟩ rfl rfl hl.1 rfl (lv_room (Nat.le_of_ble_eq_true rfl)) dX1_addPart_2 ⟨Nat.zero_le _, Nat.zero_le _⟩) ?_
      refine q_ifB_eq (b := ex j) (tgt := 20) hx hb dX1_addPart_5 (by decide) (fun k5 => ?_) (fun k5 => absurd k5 (by rw [he]; decide))
      refine lv_iconst (v := nI 0) hx hb dX1_addPart_20 (by decide) ?_
      refine q_top (y := bI false) ((by decide : nI 0 = bI false)) ?_
      refine lv_istore (lv' := [(4, .int (bI false)), (0, .ref h), (1, .int (nI j)), (2, .int q), (3, .int w)]) hx hb dX1_addPart_21 hl (by decide) rfl (fun ls hl => ?_)
      refine lv_iload_n hx hb dX1_addPart_23 rfl (lv_at hl 3 rfl) ?_
      refine lv_iload_n hx hb dX1_addPart_24 rfl (lv_at hl 2 rfl) ?_
      refine lv_icmp_ge (tgt := 42) hx hb dX1_addPart_25 (by decide) (fun k25 => ?_) (fun k25 => ?_)
      · refine lv_iconst (v := nI 0) hx hb dX1_addPart_42 (by decide) ?_
        refine q_top (y := bI false) ((by decide : nI 0 = bI false)) ?_
        refine lv_istore (lv' := [(5, .int (bI false)), (4, .int (bI false)), (0, .ref h), (1, .int (nI j)), (2, .int q), (3, .int w)]) hx hb dX1_addPart_43 hl (by decide) rfl (fun ls hl => ?_)
        refine lv_aload_n hx hb dX1_addPart_45 rfl (lv_at hl 2 rfl) ?_
        refine lv_iload hx hb dX1_addPart_46 (lv_at hl 1 rfl) ?_
        refine q_ifB_ne (b := false) (tgt := 55) hx hb dX1_addPart_48 (by decide) (fun k48 => absurd k48 (by decide)) (fun k48 => ?_)
        refine lv_iconst (v := nI 1) hx hb dX1_addPart_51 (by decide) ?_
        refine lv_goto (tgt := 87) hx hb dX1_addPart_52 (by decide) ?_
        refine q_wcallI (r := bI (decide (0 < 1))) (w' := (mW h ad cI cJ cZ td gc ex pa di qu dc dg da dh dt dv dd ds ak se pr 1)) (va_runV (As := [.int (nI 1)]) (rest := []) ⟨hx, hb, hml, hown, hts⟩ (kX1_fails l D h ad cI cJ cZ td gc ex pa di qu dc dg da dh dt dv dd ds ak se pr th _ 1 (by decide)) (cwV 1 hts gX1_addPart_X1_fails rfl rfl rfl (by decide +kernel) ⟨Nat.le_of_ble_eq_true rfl, Nat.le_of_ble_eq_true rfl⟩) ⟨wP_blind, va_recv hK hP (ci := 1) (q0 := 0) rfl rfl, wP_pre hP hK hD⟩ rfl rfl hl.1 rfl (lv_room (Nat.le_of_ble_eq_true rfl)) dX1_addPart_87 ⟨Nat.zero_le _, Nat.zero_le _⟩) hD hS hA rfl (fun H locs hP hD hS => ?_)
        refine q_ifB_eq (b := decide (0 < 1)) (tgt := 95) hx hb dX1_addPart_90 (by decide) (fun k90 => absurd k90 (by decide)) (fun k90 => ?_)
        refine lv_iconst (v := nI 0) hx hb dX1_addPart_93 (by decide) ?_
        exact q_wretI hx hb hr hlocks hAe hP hS (rfl) dX1_addPart_94
      · refine lv_iload_n hx hb dX1_addPart_28 rfl (lv_at hl 4 rfl) ?_
        refine lv_iconst (v := nI 1) hx hb dX1_addPart_29 (by decide) ?_
        refine lv_bipush (v := nI 20) hx hb dX1_addPart_30 (by decide) ?_
        refine q_callI (r := bI (isin w (nI 1) (nI 20))) (va_runS (As := [.int w, .int (nI 1), .int (nI 20)]) (rest := []) ⟨hx, hb, hml, hown, hts⟩ (kX1_isIn l w (nI 1) (nI 20)) (cwS 3 hts gX1_addPart_X1_isIn rfl rfl rfl (by decide +kernel) ⟨Nat.le_of_ble_eq_true rfl, Nat.le_of_ble_eq_true rfl⟩) ⟨sP_blind, sP_pre⟩ rfl rfl hl.1 rfl (lv_room (Nat.le_of_ble_eq_true rfl)) dX1_addPart_32 ⟨Nat.zero_le _, Nat.zero_le _⟩) ?_
        refine q_ifB_eq (b := isin w (nI 1) (nI 20)) (tgt := 42) hx hb dX1_addPart_35 (by decide) (fun k35 => ?_) (fun k35 => ?_)
        · refine lv_iconst (v := nI 0) hx hb dX1_addPart_42 (by decide) ?_
          refine q_top (y := bI false) ((by decide : nI 0 = bI false)) ?_
          refine lv_istore (lv' := [(5, .int (bI false)), (4, .int (bI false)), (0, .ref h), (1, .int (nI j)), (2, .int q), (3, .int w)]) hx hb dX1_addPart_43 hl (by decide) rfl (fun ls hl => ?_)
          refine lv_aload_n hx hb dX1_addPart_45 rfl (lv_at hl 2 rfl) ?_
          refine lv_iload hx hb dX1_addPart_46 (lv_at hl 1 rfl) ?_
          refine q_ifB_ne (b := false) (tgt := 55) hx hb dX1_addPart_48 (by decide) (fun k48 => absurd k48 (by decide)) (fun k48 => ?_)
          refine lv_iconst (v := nI 1) hx hb dX1_addPart_51 (by decide) ?_
          refine lv_goto (tgt := 87) hx hb dX1_addPart_52 (by decide) ?_
          refine q_wcallI (r := bI (decide (0 < 1))) (w' := (mW h ad cI cJ cZ td gc ex pa di qu dc dg da dh dt dv dd ds ak se pr 1)) (va_runV (As := [.int (nI 1)]) (rest := []) ⟨hx, hb, hml, hown, hts⟩ (kX1_fails l D h ad cI cJ cZ td gc ex pa di qu dc dg da dh dt dv dd ds ak se pr th _ 1 (by decide)) (cwV 1 hts gX1_addPart_X1_fails rfl rfl rfl (by decide +kernel) ⟨Nat.le_of_ble_eq_true rfl, Nat.le_of_ble_eq_true rfl⟩) ⟨wP_blind, va_recv hK hP (ci := 1) (q0 := 0) rfl rfl, wP_pre hP hK hD⟩ rfl rfl hl.1 rfl (lv_room (Nat.le_of_ble_eq_true rfl)) dX1_addPart_87 ⟨Nat.zero_le _, Nat.zero_le _⟩) hD hS hA rfl (fun H locs hP hD hS => ?_)
          refine q_ifB_eq (b := decide (0 < 1)) (tgt := 95) hx hb dX1_addPart_90 (by decide) (fun k90 => absurd k90 (by decide)) (fun k90 => ?_)
          refine lv_iconst (v := nI 0) hx hb dX1_addPart_93 (by decide) ?_
          exact q_wretI hx hb hr hlocks hAe hP hS (rfl) dX1_addPart_94
        · refine lv_iconst (v := nI 1) hx hb dX1_addPart_38 (by decide) ?_
          refine lv_goto (tgt := 43) hx hb dX1_addPart_39 (by decide) ?_
          refine q_top (y := bI true) ((by decide : nI 1 = bI true)) ?_
          refine lv_istore (lv' := [(5, .int (bI true)), (4, .int (bI false)), (0, .ref h), (1, .int (nI j)), (2, .int q), (3, .int w)]) hx hb dX1_addPart_43 hl (by decide) rfl (fun ls hl => ?_)
          refine lv_aload_n hx hb dX1_addPart_45 rfl (lv_at hl 2 rfl) ?_
          refine lv_iload hx hb dX1_addPart_46 (lv_at hl 1 rfl) ?_
          refine q_ifB_ne (b := false) (tgt := 55) hx hb dX1_addPart_48 (by decide) (fun k48 => absurd k48 (by decide)) (fun k48 => ?_)
          refine lv_iconst (v := nI 1) hx hb dX1_addPart_51 (by decide) ?_
          refine lv_goto (tgt := 87) hx hb dX1_addPart_52 (by decide) ?_
          refine q_wcallI (r := bI (decide (0 < 1))) (w' := (mW h ad cI cJ cZ td gc ex pa di qu dc dg da dh dt dv dd ds ak se pr 1)) (va_runV (As := [.int (nI 1)]) (rest := []) ⟨hx, hb, hml, hown, hts⟩ (kX1_fails l D h ad cI cJ cZ td gc ex pa di qu dc dg da dh dt dv dd ds ak se pr th _ 1 (by decide)) (cwV 1 hts gX1_addPart_X1_fails rfl rfl rfl (by decide +kernel) ⟨Nat.le_of_ble_eq_true rfl, Nat.le_of_ble_eq_true rfl⟩) ⟨wP_blind, va_recv hK hP (ci := 1) (q0 := 0) rfl rfl, wP_pre hP hK hD⟩ rfl rfl hl.1 rfl (lv_room (Nat.le_of_ble_eq_true rfl)) dX1_addPart_87 ⟨Nat.zero_le _, Nat.zero_le _⟩) hD hS hA rfl (fun H locs hP hD hS => ?_)
          refine q_ifB_eq (b := decide (0 < 1)) (tgt := 95) hx hb dX1_addPart_90 (by decide) (fun k90 => absurd k90 (by decide)) (fun k90 => ?_)
          refine lv_iconst (v := nI 0) hx hb dX1_addPart_93 (by decide) ?_
          exact q_wretI hx hb hr hlocks hAe hP hS (rfl) dX1_addPart_94
  · refine lv_aload_n hx hb dX1_addPart_0 rfl (lv_at hl 0 rfl) ?_
    refine lv_iload_n hx hb dX1_addPart_1 rfl (lv_at hl 1 rfl) ?_
    refine q_callI (r := bI (ex j)) (va_runV (As := [.int (nI j)]) (rest := []) ⟨hx, hb, hml, hown, hts⟩ (kX1_isGoodN l D h ad cI cJ cZ td gc ex pa di qu dc dg da dh dt dv dd ds ak se pr th j hj hgc hxg) (cwV 1 hts gX1_addPart_X1_isGood rfl rfl rfl (by decide +kernel) ⟨Nat.le_of_ble_eq_true rfl, Nat.le_of_ble_eq_true rfl⟩) ⟨pP_blind, va_recv hK hP (ci := 1) (q0 := 0) rfl rfl, pP_pre hP hK⟩ rfl rfl hl.1 rfl (lv_room (Nat.le_of_ble_eq_true rfl)) dX1_addPart_2 ⟨Nat.zero_le _, Nat.zero_le _⟩) ?_
    refine q_ifB_eq (b := ex j) (tgt := 20) hx hb dX1_addPart_5 (by decide) (fun k5 => absurd k5 (by rw [he]; decide)) (fun k5 => ?_)
    rcases gBad_c hg with hg | ⟨j2, hj2, rfl, he2⟩
    · refine lv_aload_n hx hb dX1_addPart_8 rfl (lv_at hl 0 rfl) ?_
      refine lv_iload_n hx hb dX1_addPart_9 rfl (lv_at hl 2 rfl) ?_
      refine q_callI (r := bI false) (va_runV (As := [.int q]) (rest := []) ⟨hx, hb, hml, hown, hts⟩ (kX1_isGoodR l D h ad cI cJ cZ td gc ex pa di qu dc dg da dh dt dv dd ds ak se pr th q hgc hg) (cwV 1 hts gX1_addPart_X1_isGood rfl rfl rfl (by decide +kernel) ⟨Nat.le_of_ble_eq_true rfl, Nat.le_of_ble_eq_true rfl⟩) ⟨pP_blind, va_recv hK hP (ci := 1) (q0 := 0) rfl rfl, pP_pre hP hK⟩ rfl rfl hl.1 rfl (lv_room (Nat.le_of_ble_eq_true rfl)) dX1_addPart_10 ⟨Nat.zero_le _, Nat.zero_le _⟩) ?_
      refine q_ifB_eq (b := false) (tgt := 20) hx hb dX1_addPart_13 (by decide) (fun k13 => ?_) (fun k13 => absurd k13 (by decide))
      refine lv_iconst (v := nI 0) hx hb dX1_addPart_20 (by decide) ?_
      refine q_top (y := bI false) ((by decide : nI 0 = bI false)) ?_
      refine lv_istore (lv' := [(4, .int (bI false)), (0, .ref h), (1, .int (nI j)), (2, .int q), (3, .int w)]) hx hb dX1_addPart_21 hl (by decide) rfl (fun ls hl => ?_)
      refine lv_iload_n hx hb dX1_addPart_23 rfl (lv_at hl 3 rfl) ?_
      refine lv_iload_n hx hb dX1_addPart_24 rfl (lv_at hl 2 rfl) ?_
      refine lv_icmp_ge (tgt := 42) hx hb dX1_addPart_25 (by decide) (fun k25 => ?_) (fun k25 => ?_)
      · refine lv_iconst (v := nI 0) hx hb dX1_addPart_42 (by decide) ?_
        refine q_top (y := bI false) ((by decide : nI 0 = bI false)) ?_
        refine lv_istore (lv' := [(5, .int (bI false)), (4, .int (bI false)), (0, .ref h), (1, .int (nI j)), (2, .int q), (3, .int w)]) hx hb dX1_addPart_43 hl (by decide) rfl (fun ls hl => ?_)
        refine lv_aload_n hx hb dX1_addPart_45 rfl (lv_at hl 2 rfl) ?_
        refine lv_iload hx hb dX1_addPart_46 (lv_at hl 1 rfl) ?_
        refine q_ifB_ne (b := false) (tgt := 55) hx hb dX1_addPart_48 (by decide) (fun k48 => absurd k48 (by decide)) (fun k48 => ?_)
        refine lv_iconst (v := nI 1) hx hb dX1_addPart_51 (by decide) ?_
        refine lv_goto (tgt := 87) hx hb dX1_addPart_52 (by decide) ?_
        refine q_wcallI (r := bI (decide (0 < 1))) (w' := (mW h ad cI cJ cZ td gc ex pa di qu dc dg da dh dt dv dd ds ak se pr 1)) (va_runV (As := [.int (nI 1)]) (rest := []) ⟨hx, hb, hml, hown, hts⟩ (kX1_fails l D h ad cI cJ cZ td gc ex pa di qu dc dg da dh dt dv dd ds ak se pr th _ 1 (by decide)) (cwV 1 hts gX1_addPart_X1_fails rfl rfl rfl (by decide +kernel) ⟨Nat.le_of_ble_eq_true rfl, Nat.le_of_ble_eq_true rfl⟩) ⟨wP_blind, va_recv hK hP (ci := 1) (q0 := 0) rfl rfl, wP_pre hP hK hD⟩ rfl rfl hl.1 rfl (lv_room (Nat.le_of_ble_eq_true rfl)) dX1_addPart_87 ⟨Nat.zero_le _, Nat.zero_le _⟩) hD hS hA rfl (fun H locs hP hD hS => ?_)
        refine q_ifB_eq (b := decide (0 < 1)) (tgt := 95) hx hb dX1_addPart_90 (by decide) (fun k90 => absurd k90 (by decide)) (fun k90 => ?_)
        refine lv_iconst (v := nI 0) hx hb dX1_addPart_93 (by decide) ?_
        exact q_wretI hx hb hr hlocks hAe hP hS (rfl) dX1_addPart_94
      · refine lv_iload_n hx hb dX1_addPart_28 rfl (lv_at hl 4 rfl) ?_
        refine lv_iconst (v := nI 1) hx hb dX1_addPart_29 (by decide) ?_
        refine lv_bipush (v := nI 20) hx hb dX1_addPart_30 (by decide) ?_
        refine q_callI (r := bI (isin w (nI 1) (nI 20))) (va_runS (As := [.int w, .int (nI 1), .int (nI 20)]) (rest := []) ⟨hx, hb, hml, hown, hts⟩ (kX1_isIn l w (nI 1) (nI 20)) (cwS 3 hts gX1_addPart_X1_isIn rfl rfl rfl (by decide +kernel) ⟨Nat.le_of_ble_eq_true rfl, Nat.le_of_ble_eq_true rfl⟩) ⟨sP_blind, sP_pre⟩ rfl rfl hl.1 rfl (lv_room (Nat.le_of_ble_eq_true rfl)) dX1_addPart_32 ⟨Nat.zero_le _, Nat.zero_le _⟩) ?_
        refine q_ifB_eq (b := isin w (nI 1) (nI 20)) (tgt := 42) hx hb dX1_addPart_35 (by decide) (fun k35 => ?_) (fun k35 => ?_)
        · refine lv_iconst (v := nI 0) hx hb dX1_addPart_42 (by decide) ?_
          refine q_top (y := bI false) ((by decide : nI 0 = bI false)) ?_
          refine lv_istore (lv' := [(5, .int (bI false)), (4, .int (bI false)), (0, .ref h), (1, .int (nI j)), (2, .int q), (3, .int w)]) hx hb dX1_addPart_43 hl (by decide) rfl (fun ls hl => ?_)
          refine lv_aload_n hx hb dX1_addPart_45 rfl (lv_at hl 2 rfl) ?_
          refine lv_iload hx hb dX1_addPart_46 (lv_at hl 1 rfl) ?_
          refine q_ifB_ne (b := false) (tgt := 55) hx hb dX1_addPart_48 (by decide) (fun k48 => absurd k48 (by decide)) (fun k48 => ?_)
          refine lv_iconst (v := nI 1) hx hb dX1_addPart_51 (by decide) ?_
          refine lv_goto (tgt := 87) hx hb dX1_addPart_52 (by decide) ?_
          refine q_wcallI (r := bI (decide (0 < 1))) (w' := (mW h ad cI cJ cZ td gc ex pa di qu dc dg da dh dt dv dd ds ak se pr 1)) (va_runV (As := [.int (nI 1)]) (rest := []) ⟨hx, hb, hml, hown, hts⟩ (kX1_fails l D h ad cI cJ cZ td gc ex pa di qu dc dg da dh dt dv dd ds ak se pr th _ 1 (by decide)) (cwV 1 hts gX1_addPart_X1_fails rfl rfl rfl (by decide +kernel) ⟨Nat.le_of_ble_eq_true rfl, Nat.le_of_ble_eq_true rfl⟩) ⟨wP_blind, va_recv hK hP (ci := 1) (q0 := 0) rfl rfl, wP_pre hP hK hD⟩ rfl rfl hl.1 rfl (lv_room (Nat.le_of_ble_eq_true rfl)) dX1_addPart_87 ⟨Nat.zero_le _, Nat.zero_le _⟩) hD hS hA rfl (fun H locs hP hD hS => ?_)
          refine q_ifB_eq (b := decide (0 < 1)) (tgt := 95) hx hb dX1_addPart_90 (by decide) (fun k90 => absurd k90 (by decide)) (fun k90 => ?_)
          refine lv_iconst (v := nI 0) hx hb dX1_addPart_93 (by decide) ?_
          exact q_wretI hx hb hr hlocks hAe hP hS (rfl) dX1_addPart_94
        · refine lv_iconst (v := nI 1) hx hb dX1_addPart_38 (by decide) ?_
          refine lv_goto (tgt := 43) hx hb dX1_addPart_39 (by decide) ?_
          refine q_top (y := bI true) ((by decide : nI 1 = bI true)) ?_
          refine lv_istore (lv' := [(5, .int (bI true)), (4, .int (bI false)), (0, .ref h), (1, .int (nI j)), (2, .int q), (3, .int w)]) hx hb dX1_addPart_43 hl (by decide) rfl (fun ls hl => ?_)
          refine lv_aload_n hx hb dX1_addPart_45 rfl (lv_at hl 2 rfl) ?_
          refine lv_iload hx hb dX1_addPart_46 (lv_at hl 1 rfl) ?_
          refine q_ifB_ne (b := false) (tgt := 55) hx hb dX1_addPart_48 (by decide) (fun k48 => absurd k48 (by decide)) (fun k48 => ?_)
          refine lv_iconst (v := nI 1) hx hb dX1_addPart_51 (by decide) ?_
          refine lv_goto (tgt := 87) hx hb dX1_addPart_52 (by decide) ?_
          refine q_wcallI (r := bI (decide (0 < 1))) (w' := (mW h ad cI cJ cZ td gc ex pa di qu dc dg da dh dt dv dd ds ak se pr 1)) (va_runV (As := [.int (nI 1)]) (rest := []) ⟨hx, hb, hml, hown, hts⟩ (kX1_fails l D h ad cI cJ cZ td gc ex pa di qu dc dg da dh dt dv dd ds ak se pr th _ 1 (by decide)) (cwV 1 hts gX1_addPart_X1_fails rfl rfl rfl (by decide +kernel) ⟨Nat.le_of_ble_eq_true rfl, Nat.le_of_ble_eq_true rfl⟩) ⟨wP_blind, va_recv hK hP (ci := 1) (q0 := 0) rfl rfl, wP_pre hP hK hD⟩ rfl rfl hl.1 rfl (lv_room (Nat.le_of_ble_eq_true rfl)) dX1_addPart_87 ⟨Nat.zero_le _, Nat.zero_le _⟩) hD hS hA rfl (fun H locs hP hD hS => ?_)
          refine q_ifB_eq (b := decide (0 < 1)) (tgt := 95) hx hb dX1_addPart_90 (by decide) (fun k90 => absurd k90 (by decide)) (fun k90 => ?_)
          refine lv_iconst (v := nI 0) hx hb dX1_addPart_93 (by decide) ?_
          exact q_wretI hx hb hr hlocks hAe hP hS (rfl) dX1_addPart_94
    · refine lv_aload_n hx hb dX1_addPart_8 rfl (lv_at hl 0 rfl) ?_
      refine lv_iload_n hx hb dX1_addPart_9 rfl (lv_at hl 2 rfl) ?_
      refine q_callI (r := bI (ex j2)) (va_runV (As := [.int (nI j2)]) (rest := []) ⟨hx, hb, hml, hown, hts⟩ (kX1_isGoodN l D h ad cI cJ cZ td gc ex pa di qu dc dg da dh dt dv dd ds ak se pr th j2 hj2 hgc hxg) (cwV 1 hts gX1_addPart_X1_isGood rfl rfl rfl (by decide +kernel) ⟨Nat.le_of_ble_eq_true rfl, Nat.le_of_ble_eq_true rfl⟩) ⟨pP_blind, va_recv hK hP (ci := 1) (q0 := 0) rfl rfl, pP_pre hP hK⟩ rfl rfl hl.1 rfl (lv_room (Nat.le_of_ble_eq_true rfl)) dX1_addPart_10 ⟨Nat.zero_le _, Nat.zero_le _⟩) ?_
      refine q_ifB_eq (b := ex j2) (tgt := 20) hx hb dX1_addPart_13 (by decide) (fun k13 => ?_) (fun k13 => absurd k13 (by rw [he2]; decide))
      refine lv_iconst (v := nI 0) hx hb dX1_addPart_20 (by decide) ?_
      refine q_top (y := bI false) ((by decide : nI 0 = bI false)) ?_
      refine lv_istore (lv' := [(4, .int (bI false)), (0, .ref h), (1, .int (nI j)), (2, .int (nI j2)), (3, .int w)]) hx hb dX1_addPart_21 hl (by decide) rfl (fun ls hl => ?_)
      refine lv_iload_n hx hb dX1_addPart_23 rfl (lv_at hl 3 rfl) ?_
      refine lv_iload_n hx hb dX1_addPart_24 rfl (lv_at hl 2 rfl) ?_
      refine lv_icmp_ge (tgt := 42) hx hb dX1_addPart_25 (by decide) (fun k25 => ?_) (fun k25 => ?_)
      · refine lv_iconst (v := nI 0) hx hb dX1_addPart_42 (by decide) ?_
        refine q_top (y := bI false) ((by decide : nI 0 = bI false)) ?_
        refine lv_istore (lv' := [(5, .int (bI false)), (4, .int (bI false)), (0, .ref h), (1, .int (nI j)), (2, .int (nI j2)), (3, .int w)]) hx hb dX1_addPart_43 hl (by decide) rfl (fun ls hl => ?_)
        refine lv_aload_n hx hb dX1_addPart_45 rfl (lv_at hl 2 rfl) ?_
        refine lv_iload hx hb dX1_addPart_46 (lv_at hl 1 rfl) ?_
        refine q_ifB_ne (b := false) (tgt := 55) hx hb dX1_addPart_48 (by decide) (fun k48 => absurd k48 (by decide)) (fun k48 => ?_)
        refine lv_iconst (v := nI 1) hx hb dX1_addPart_51 (by decide) ?_
        refine lv_goto (tgt := 87) hx hb dX1_addPart_52 (by decide) ?_
        refine q_wcallI (r := bI (decide (0 < 1))) (w' := (mW h ad cI cJ cZ td gc ex pa di qu dc dg da dh dt dv dd ds ak se pr 1)) (va_runV (As := [.int (nI 1)]) (rest := []) ⟨hx, hb, hml, hown, hts⟩ (kX1_fails l D h ad cI cJ cZ td gc ex pa di qu dc dg da dh dt dv dd ds ak se pr th _ 1 (by decide)) (cwV 1 hts gX1_addPart_X1_fails rfl rfl rfl (by decide +kernel) ⟨Nat.le_of_ble_eq_true rfl, Nat.le_of_ble_eq_true rfl⟩) ⟨wP_blind, va_recv hK hP (ci := 1) (q0 := 0) rfl rfl, wP_pre hP hK hD⟩ rfl rfl hl.1 rfl (lv_room (Nat.le_of_ble_eq_true rfl)) dX1_addPart_87 ⟨Nat.zero_le _, Nat.zero_le _⟩) hD hS hA rfl (fun H locs hP hD hS => ?_)
        refine q_ifB_eq (b := decide (0 < 1)) (tgt := 95) hx hb dX1_addPart_90 (by decide) (fun k90 => absurd k90 (by decide)) (fun k90 => ?_)
        refine lv_iconst (v := nI 0) hx hb dX1_addPart_93 (by decide) ?_
        exact q_wretI hx hb hr hlocks hAe hP hS (rfl) dX1_addPart_94
      · refine lv_iload_n hx hb dX1_addPart_28 rfl (lv_at hl 4 rfl) ?_
        refine lv_iconst (v := nI 1) hx hb dX1_addPart_29 (by decide) ?_
        refine lv_bipush (v := nI 20) hx hb dX1_addPart_30 (by decide) ?_
        refine q_callI (r := bI (isin w (nI 1) (nI 20))) (va_runS (As := [.int w, .int (nI 1), .int (nI 20)]) (rest := []) ⟨hx, hb, hml, hown, hts⟩ (kX1_isIn l w (nI 1) (nI 20)) (cwS 3 hts gX1_addPart_X1_isIn rfl rfl rfl (by decide +kernel) ⟨Nat.le_of_ble_eq_true rfl, Nat.le_of_ble_eq_true rfl⟩) ⟨sP_blind, sP_pre⟩ rfl rfl hl.1 rfl (lv_room (Nat.le_of_ble_eq_true rfl)) dX1_addPart_32 ⟨Nat.zero_le _, Nat.zero_le _⟩) ?_
        refine q_ifB_eq (b := isin w (nI 1) (nI 20)) (tgt := 42) hx hb dX1_addPart_35 (by decide) (fun k35 => ?_) (fun k35 => ?_)
        · refine lv_iconst (v := nI 0) hx hb dX1_addPart_42 (by decide) ?_
          refine q_top (y := bI false) ((by decide : nI 0 = bI false)) ?_
          refine lv_istore (lv' := [(5, .int (bI false)), (4, .int (bI false)), (0, .ref h), (1, .int (nI j)), (2, .int (nI j2)), (3, .int w)]) hx hb dX1_addPart_43 hl (by decide) rfl (fun ls hl => ?_)
          refine lv_aload_n hx hb dX1_addPart_45 rfl (lv_at hl 2 rfl) ?_
          refine lv_iload hx hb dX1_addPart_46 (lv_at hl 1 rfl) ?_
          refine q_ifB_ne (b := false) (tgt := 55) hx hb dX1_addPart_48 (by decide) (fun k48 => absurd k48 (by decide)) (fun k48 => ?_)
          refine lv_iconst (v := nI 1) hx hb dX1_addPart_51 (by decide) ?_
          refine lv_goto (tgt := 87) hx hb dX1_addPart_52 (by decide) ?_
          refine q_wcallI (r := bI (decide (0 < 1))) (w' := (mW h ad cI cJ cZ td gc ex pa di qu dc dg da dh dt dv dd ds ak se pr 1)) (va_runV (As := [.int (nI 1)]) (rest := []) ⟨hx, hb, hml, hown, hts⟩ (kX1_fails l D h ad cI cJ cZ td gc ex pa di qu dc dg da dh dt dv dd ds ak se pr th _ 1 (by decide)) (cwV 1 hts gX1_addPart_X1_fails rfl rfl rfl (by decide +kernel) ⟨Nat.le_of_ble_eq_true rfl, Nat.le_of_ble_eq_true rfl⟩) ⟨wP_blind, va_recv hK hP (ci := 1) (q0 := 0) rfl rfl, wP_pre hP hK hD⟩ rfl rfl hl.1 rfl (lv_room (Nat.le_of_ble_eq_true rfl)) dX1_addPart_87 ⟨Nat.zero_le _, Nat.zero_le _⟩) hD hS hA rfl (fun H locs hP hD hS => ?_)
          refine q_ifB_eq (b := decide (0 < 1)) (tgt := 95) hx hb dX1_addPart_90 (by decide) (fun k90 => absurd k90 (by decide)) (fun k90 => ?_)
          refine lv_iconst (v := nI 0) hx hb dX1_addPart_93 (by decide) ?_
          exact q_wretI hx hb hr hlocks hAe hP hS (rfl) dX1_addPart_94
        · refine lv_iconst (v := nI 1) hx hb dX1_addPart_38 (by decide) ?_
          refine lv_goto (tgt := 43) hx hb dX1_addPart_39 (by decide) ?_
          refine q_top (y := bI true) ((by decide : nI 1 = bI true)) ?_
          refine lv_istore (lv' := [(5, .int (bI true)), (4, .int (bI false)), (0, .ref h), (1, .int (nI j)), (2, .int (nI j2)), (3, .int w)]) hx hb dX1_addPart_43 hl (by decide) rfl (fun ls hl => ?_)
          refine lv_aload_n hx hb dX1_addPart_45 rfl (lv_at hl 2 rfl) ?_
          refine lv_iload hx hb dX1_addPart_46 (lv_at hl 1 rfl) ?_
          refine q_ifB_ne (b := false) (tgt := 55) hx hb dX1_addPart_48 (by decide) (fun k48 => absurd k48 (by decide)) (fun k48 => ?_)
          refine lv_iconst (v := nI 1) hx hb dX1_addPart_51 (by decide) ?_
          refine lv_goto (tgt := 87) hx hb dX1_addPart_52 (by decide) ?_
          refine q_wcallI (r := bI (decide (0 < 1))) (w' := (mW h ad cI cJ cZ td gc ex pa di qu dc dg da dh dt dv dd ds ak se pr 1)) (va_runV (As := [.int (nI 1)]) (rest := []) ⟨hx, hb, hml, hown, hts⟩ (kX1_fails l D h ad cI cJ cZ td gc ex pa di qu dc dg da dh dt dv dd ds ak se pr th _ 1 (by decide)) (cwV 1 hts gX1_addPart_X1_fails rfl rfl rfl (by decide +kernel) ⟨Nat.le_of_ble_eq_true rfl, Nat.le_of_ble_eq_true rfl⟩) ⟨wP_blind, va_recv hK hP (ci := 1) (q0 := 0) rfl rfl, wP_pre hP hK hD⟩ rfl rfl hl.1 rfl (lv_room (Nat.le_of_ble_eq_true rfl)) dX1_addPart_87 ⟨Nat.zero_le _, Nat.zero_le _⟩) hD hS hA rfl (fun H locs hP hD hS => ?_)
          refine q_ifB_eq (b := decide (0 < 1)) (tgt := 95) hx hb dX1_addPart_90 (by decide) (fun k90 => absurd k90 (by decide)) (fun k90 => ?_)
          refine lv_iconst (v := nI 0) hx hb dX1_addPart_93 (by decide) ?_
          exact q_wretI hx hb hr hlocks hAe hP hS (rfl) dX1_addPart_94

set_option maxHeartbeats 4000000 in
set_option maxRecDepth 100000 in
theorem kX1_setDiscount (l : Launch) (D : va_G) (h : Nat) (ad : Nat → Nat) (cI cJ cZ : ClassId) (td : Nat) (gc : Nat) (ex : Nat → Bool) (pa : Nat → Option Nat) (di : Nat → Nat) (qu : Nat → Nat) (dc : Nat) (dg : Nat → Nat) (da : Nat → Nat) (dh : Nat → Option Nat) (dt : Nat → Option Nat) (dv : Nat → Option Nat) (dd : Nat → Nat) (ds : Nat → Nat) (ak : Nat → Bool) (se : Nat → Option Nat) (pr : Nat → Option Nat) (th : Nat) (sz : Nat) (g w : Nat) (hg : g < 16) (he : ex g = true) (hgc : gc ≤ 16) (hxg : ∀ j, j < 16 → ex j = true → j < gc) (hw2 : w ≤ 100) : Met l yX1_setDiscount wsX1_setDiscount ({ frames := 2, cells := 0, slots := 0, locals := 43 } : Room) (wP D (mW h ad cI cJ cZ td gc ex pa di qu dc dg da dh dt dv dd ds ak se pr th) (mT cI cJ cZ) [.ref h, .int (nI g), .int (nI w)] sz) (wQ D (mW h ad cI cJ cZ td gc ex pa di qu dc dg da dh dt dv dd ds ak se pr th) (mW h ad cI cJ cZ td gc ex pa (va_up di g w) qu dc dg da dh dt dv dd ds ak se pr 0) (some (.int (nI (di g))))) 0 0 (va_A (mW h ad cI cJ cZ td gc ex pa di qu dc dg da dh dt dv dd ds ak se pr th) sz) := by
  refine Met.ofW (cc := cX1_setDiscount) (maxL := 4) (ret := (some .int)) (by decide) rfl ?_
  intro p e s m args below meth c s₁ B hml hv
  obtain ⟨rfl, hsz, hP, hK, hD0⟩ := hv
  have hx := B.exec
  have hb := B.bytes
  have hr := B.returns
  have hts := atoms_spec (ws := wsX1_setDiscount) B.pre
  have hown : s.vm.findClass RX1 = some m.cls := findClass_of_methodNamed B.named
  have hlocks := B.notSynchronized
  subst hsz
  have hD := hD0.self (sz := s.heap.size)
  generalize hAe : va_A (mW h ad cI cJ cZ td gc ex pa di qu dc dg da dh dt dv dd ds ak se pr th) s.heap.size = A at hD ⊢
  have hA : ∀ q : Nat, s.heap.size ≤ q → A q := fun q h => by rw [← hAe]; exact Or.inr h
  have hS : va_S A s.heap s.heap [] := va_S.rf
  have hl := lv_entry ([.ref h, .int (nI g), .int (nI w)]) (n := 4) (Nat.le_of_ble_eq_true rfl)
  rw [lg_entry_eq]
  generalize (lg_sl ([.ref h, .int (nI g), .int (nI w)]) ++ List.replicate (4 - (lg_sl ([.ref h, .int (nI g), .int (nI w)])).length) Slot.unset).toArray = ls at hl ⊢
  have hl : lv_has ls 4 [(0, .ref h), (1, .int (nI g)), (2, .int (nI w))] := hl
  refine lv_aload_n hx hb dX1_setDiscount_0 rfl (lv_at hl 0 rfl) ?_
  refine lv_aload_n hx hb dX1_setDiscount_1 rfl (lv_at hl 0 rfl) ?_
  refine lv_iload_n hx hb dX1_setDiscount_2 rfl (lv_at hl 1 rfl) ?_
  refine q_callI (r := bI (ex g)) (va_runV (As := [.int (nI g)]) (rest := [.ref h]) ⟨hx, hb, hml, hown, hts⟩ (kX1_isGoodN l D h ad cI cJ cZ td gc ex pa di qu dc dg da dh dt dv dd ds ak se pr th g hg hgc hxg) (cwV 1 hts gX1_setDiscount_X1_isGood rfl rfl rfl (by decide +kernel) ⟨Nat.le_of_ble_eq_true rfl, Nat.le_of_ble_eq_true rfl⟩) ⟨pP_blind, va_recv hK hP (ci := 1) (q0 := 0) rfl rfl, pP_pre hP hK⟩ rfl rfl hl.1 rfl (lv_room (Nat.le_of_ble_eq_true rfl)) dX1_setDiscount_3 ⟨Nat.zero_le _, Nat.zero_le _⟩) ?_
  refine q_ifB_ne (b := ex g) (tgt := 13) hx hb dX1_setDiscount_6 (by decide) (fun k6 => ?_) (fun k6 => absurd k6 (by rw [he]; decide))
  refine lv_iload_n hx hb dX1_setDiscount_13 rfl (lv_at hl 2 rfl) ?_
  refine lv_iconst (v := nI 0) hx hb dX1_setDiscount_14 (by decide) ?_
  refine lv_bipush (v := nI 100) hx hb dX1_setDiscount_15 (by decide) ?_
  refine q_callI (r := bI (isin (nI w) (nI 0) (nI 100))) (va_runS (As := [.int (nI w), .int (nI 0), .int (nI 100)]) (rest := [.ref h]) ⟨hx, hb, hml, hown, hts⟩ (kX1_isIn l (nI w) (nI 0) (nI 100)) (cwS 3 hts gX1_setDiscount_X1_isIn rfl rfl rfl (by decide +kernel) ⟨Nat.le_of_ble_eq_true rfl, Nat.le_of_ble_eq_true rfl⟩) ⟨sP_blind, sP_pre⟩ rfl rfl hl.1 rfl (lv_room (Nat.le_of_ble_eq_true rfl)) dX1_setDiscount_17 ⟨Nat.zero_le _, Nat.zero_le _⟩) ?_
  refine q_top (y := bI true) (by rw [isin_N (by omega) (by decide), decide_eq_true hw2]) ?_
  refine q_ifB_eq (b := true) (tgt := 27) hx hb dX1_setDiscount_20 (by decide) (fun k20 => absurd k20 (by decide)) (fun k20 => ?_)
  refine lv_iconst (v := nI 0) hx hb dX1_setDiscount_23 (by decide) ?_
  refine lv_goto (tgt := 28) hx hb dX1_setDiscount_24 (by decide) ?_
  refine q_wcallI (r := bI (decide (0 < 0))) (w' := (mW h ad cI cJ cZ td gc ex pa di qu dc dg da dh dt dv dd ds ak se pr 0)) (va_runV (As := [.int (nI 0)]) (rest := []) ⟨hx, hb, hml, hown, hts⟩ (kX1_fails l D h ad cI cJ cZ td gc ex pa di qu dc dg da dh dt dv dd ds ak se pr th _ 0 (by decide)) (cwV 1 hts gX1_setDiscount_X1_fails rfl rfl rfl (by decide +kernel) ⟨Nat.le_of_ble_eq_true rfl, Nat.le_of_ble_eq_true rfl⟩) ⟨wP_blind, va_recv hK hP (ci := 1) (q0 := 0) rfl rfl, wP_pre hP hK hD⟩ rfl rfl hl.1 rfl (lv_room (Nat.le_of_ble_eq_true rfl)) dX1_setDiscount_28 ⟨Nat.zero_le _, Nat.zero_le _⟩) hD hS hA rfl (fun H locs hP hD hS => ?_)
  refine q_ifB_eq (b := decide (0 < 0)) (tgt := 36) hx hb dX1_setDiscount_31 (by decide) (fun k31 => ?_) (fun k31 => absurd k31 (by decide))
  refine lv_aload_n hx hb dX1_setDiscount_36 rfl (lv_at hl 0 rfl) ?_
  refine va_get (D := D) (ci := 1) (v := .ref (ad 4)) (C := RX1) (T := TX1) (N := 18) hx hb hts (iX1_setDiscount) hown hK hP 0 rfl rfl 4 (by decide) (hts (.fieldLink RX1 17 "ShopHubModel" "discount" "[I") (by decide +kernel)) (fun _ h9 => h9) rfl dX1_setDiscount_37 ?_
  refine lv_iload_n hx hb dX1_setDiscount_40 rfl (lv_at hl 1 rfl) ?_
  refine q_ald nI di hx hb hK hP 3 1 rfl rfl (k := g) (by omega) (Nat.le_of_ble_eq_true rfl) dX1_setDiscount_41 ?_
  refine lv_istore_n (lv' := [(3, .int (nI (di g))), (0, .ref h), (1, .int (nI g)), (2, .int (nI w))]) hx hb dX1_setDiscount_42 rfl hl (by decide) rfl (fun ls hl => ?_)
  refine lv_aload_n hx hb dX1_setDiscount_43 rfl (lv_at hl 1 rfl) ?_
  refine va_get (D := D) (ci := 1) (v := .ref (ad 4)) (C := RX1) (T := TX1) (N := 18) hx hb hts (iX1_setDiscount) hown hK hP 0 rfl rfl 4 (by decide) (hts (.fieldLink RX1 17 "ShopHubModel" "discount" "[I") (by decide +kernel)) (fun _ h9 => h9) rfl dX1_setDiscount_44 ?_
  refine lv_iload_n hx hb dX1_setDiscount_47 rfl (lv_at hl 2 rfl) ?_
  refine lv_iload_n hx hb dX1_setDiscount_48 rfl (lv_at hl 3 rfl) ?_
  refine q_ast nI di w hx hb hK hP hD hS 3 1 rfl rfl (k := g) (by omega) (Nat.le_of_ble_eq_true rfl) dX1_setDiscount_49 (fun H locs hP hD hS => ?_)
  have hP : va_P D vwCl (mW h ad cI cJ cZ td gc ex pa (va_up di g w) qu dc dg da dh dt dv dd ds ak se pr 0) H := hP
  have hD : va_D A (mW h ad cI cJ cZ td gc ex pa (va_up di g w) qu dc dg da dh dt dv dd ds ak se pr 0) := hD
  refine lv_iload_n hx hb dX1_setDiscount_50 rfl (lv_at hl 0 rfl) ?_
  exact q_wretI hx hb hr hlocks hAe hP hS (rfl) dX1_setDiscount_51

set_option maxHeartbeats 4000000 in
set_option maxRecDepth 100000 in
theorem kX1_setDiscount2 (l : Launch) (D : va_G) (h : Nat) (ad : Nat → Nat) (cI cJ cZ : ClassId) (td : Nat) (gc : Nat) (ex : Nat → Bool) (pa : Nat → Option Nat) (di : Nat → Nat) (qu : Nat → Nat) (dc : Nat) (dg : Nat → Nat) (da : Nat → Nat) (dh : Nat → Option Nat) (dt : Nat → Option Nat) (dv : Nat → Option Nat) (dd : Nat → Nat) (ds : Nat → Nat) (ak : Nat → Bool) (se : Nat → Option Nat) (pr : Nat → Option Nat) (th : Nat) (sz : Nat) (g : Nat) (w : Int32) (hg : g < 16) (he : ex g = true) (hgc : gc ≤ 16) (hxg : ∀ j, j < 16 → ex j = true → j < gc) (hw : w < 0 ∨ nI 100 < w) : Met l yX1_setDiscount wsX1_setDiscount ({ frames := 2, cells := 0, slots := 0, locals := 43 } : Room) (wP D (mW h ad cI cJ cZ td gc ex pa di qu dc dg da dh dt dv dd ds ak se pr th) (mT cI cJ cZ) [.ref h, .int (nI g), .int w] sz) (wQ D (mW h ad cI cJ cZ td gc ex pa di qu dc dg da dh dt dv dd ds ak se pr th) (mW h ad cI cJ cZ td gc ex pa di qu dc dg da dh dt dv dd ds ak se pr 2) (some (.int (nI 0)))) 0 0 (va_A (mW h ad cI cJ cZ td gc ex pa di qu dc dg da dh dt dv dd ds ak se pr th) sz) := by
  refine Met.ofW (cc := cX1_setDiscount) (maxL := 4) (ret := (some .int)) (by decide) rfl ?_
  intro p e s m args below meth c s₁ B hml hv
  obtain ⟨rfl, hsz, hP, hK, hD0⟩ := hv
  have hx := B.exec
  have hb := B.bytes
  have hr := B.returns
  have hts := atoms_spec (ws := wsX1_setDiscount) B.pre
  have hown : s.vm.findClass RX1 = some m.cls := findClass_of_methodNamed B.named
  have hlocks := B.notSynchronized
  subst hsz
  have hD := hD0.self (sz := s.heap.size)
  generalize hAe : va_A (mW h ad cI cJ cZ td gc ex pa di qu dc dg da dh dt dv dd ds ak se pr th) s.heap.size = A at hD ⊢
  have hA : ∀ q : Nat, s.heap.size ≤ q → A q := fun q h => by rw [← hAe]; exact Or.inr h
  have hS : va_S A s.heap s.heap [] := va_S.rf
  have hl := lv_entry ([.ref h, .int (nI g), .int w]) (n := 4) (Nat.le_of_ble_eq_true rfl)
  rw [lg_entry_eq]
  generalize (lg_sl ([.ref h, .int (nI g), .int w]) ++ List.replicate (4 - (lg_sl ([.ref h, .int (nI g), .int w])).length) Slot.unset).toArray = ls at hl ⊢
  have hl : lv_has ls 4 [(0, .ref h), (1, .int (nI g)), (2, .int w)] := hl
  refine lv_aload_n hx hb dX1_setDiscount_0 rfl (lv_at hl 0 rfl) ?_
  refine lv_aload_n hx hb dX1_setDiscount_1 rfl (lv_at hl 0 rfl) ?_
  refine lv_iload_n hx hb dX1_setDiscount_2 rfl (lv_at hl 1 rfl) ?_
  refine q_callI (r := bI (ex g)) (va_runV (As := [.int (nI g)]) (rest := [.ref h]) ⟨hx, hb, hml, hown, hts⟩ (kX1_isGoodN l D h ad cI cJ cZ td gc ex pa di qu dc dg da dh dt dv dd ds ak se pr th g hg hgc hxg) (cwV 1 hts gX1_setDiscount_X1_isGood rfl rfl rfl (by decide +kernel) ⟨Nat.le_of_ble_eq_true rfl, Nat.le_of_ble_eq_true rfl⟩) ⟨pP_blind, va_recv hK hP (ci := 1) (q0 := 0) rfl rfl, pP_pre hP hK⟩ rfl rfl hl.1 rfl (lv_room (Nat.le_of_ble_eq_true rfl)) dX1_setDiscount_3 ⟨Nat.zero_le _, Nat.zero_le _⟩) ?_
  refine q_ifB_ne (b := ex g) (tgt := 13) hx hb dX1_setDiscount_6 (by decide) (fun k6 => ?_) (fun k6 => absurd k6 (by rw [he]; decide))
  refine lv_iload_n hx hb dX1_setDiscount_13 rfl (lv_at hl 2 rfl) ?_
  refine lv_iconst (v := nI 0) hx hb dX1_setDiscount_14 (by decide) ?_
  refine lv_bipush (v := nI 100) hx hb dX1_setDiscount_15 (by decide) ?_
  refine q_callI (r := bI (isin w (nI 0) (nI 100))) (va_runS (As := [.int w, .int (nI 0), .int (nI 100)]) (rest := [.ref h]) ⟨hx, hb, hml, hown, hts⟩ (kX1_isIn l w (nI 0) (nI 100)) (cwS 3 hts gX1_setDiscount_X1_isIn rfl rfl rfl (by decide +kernel) ⟨Nat.le_of_ble_eq_true rfl, Nat.le_of_ble_eq_true rfl⟩) ⟨sP_blind, sP_pre⟩ rfl rfl hl.1 rfl (lv_room (Nat.le_of_ble_eq_true rfl)) dX1_setDiscount_17 ⟨Nat.zero_le _, Nat.zero_le _⟩) ?_
  refine q_top (y := bI false) (by rw [isin_wb (show w < nI 0 ∨ nI 100 < w from hw)]) ?_
  refine q_ifB_eq (b := false) (tgt := 27) hx hb dX1_setDiscount_20 (by decide) (fun k20 => ?_) (fun k20 => absurd k20 (by decide))
  refine lv_iconst (v := nI 2) hx hb dX1_setDiscount_27 (by decide) ?_
  refine q_wcallI (r := bI (decide (0 < 2))) (w' := (mW h ad cI cJ cZ td gc ex pa di qu dc dg da dh dt dv dd ds ak se pr 2)) (va_runV (As := [.int (nI 2)]) (rest := []) ⟨hx, hb, hml, hown, hts⟩ (kX1_fails l D h ad cI cJ cZ td gc ex pa di qu dc dg da dh dt dv dd ds ak se pr th _ 2 (by decide)) (cwV 1 hts gX1_setDiscount_X1_fails rfl rfl rfl (by decide +kernel) ⟨Nat.le_of_ble_eq_true rfl, Nat.le_of_ble_eq_true rfl⟩) ⟨wP_blind, va_recv hK hP (ci := 1) (q0 := 0) rfl rfl, wP_pre hP hK hD⟩ rfl rfl hl.1 rfl (lv_room (Nat.le_of_ble_eq_true rfl)) dX1_setDiscount_28 ⟨Nat.zero_le _, Nat.zero_le _⟩) hD hS hA rfl (fun H locs hP hD hS => ?_)
  refine q_ifB_eq (b := decide (0 < 2)) (tgt := 36) hx hb dX1_setDiscount_31 (by decide) (fun k31 => absurd k31 (by decide)) (fun k31 => ?_)
  refine lv_iconst (v := nI 0) hx hb dX1_setDiscount_34 (by decide) ?_
  exact q_wretI hx hb hr hlocks hAe hP hS (rfl) dX1_setDiscount_35

set_option maxHeartbeats 4000000 in
set_option maxRecDepth 100000 in
theorem kX1_setDiscount1 (l : Launch) (D : va_G) (h : Nat) (ad : Nat → Nat) (cI cJ cZ : ClassId) (td : Nat) (gc : Nat) (ex : Nat → Bool) (pa : Nat → Option Nat) (di : Nat → Nat) (qu : Nat → Nat) (dc : Nat) (dg : Nat → Nat) (da : Nat → Nat) (dh : Nat → Option Nat) (dt : Nat → Option Nat) (dv : Nat → Option Nat) (dd : Nat → Nat) (ds : Nat → Nat) (ak : Nat → Bool) (se : Nat → Option Nat) (pr : Nat → Option Nat) (th : Nat) (sz : Nat) (g w : Int32) (hgc : gc ≤ 16) (hxg : ∀ j, j < 16 → ex j = true → j < gc) (hg : gBad ex g) : Met l yX1_setDiscount wsX1_setDiscount ({ frames := 2, cells := 0, slots := 0, locals := 43 } : Room) (wP D (mW h ad cI cJ cZ td gc ex pa di qu dc dg da dh dt dv dd ds ak se pr th) (mT cI cJ cZ) [.ref h, .int g, .int w] sz) (wQ D (mW h ad cI cJ cZ td gc ex pa di qu dc dg da dh dt dv dd ds ak se pr th) (mW h ad cI cJ cZ td gc ex pa di qu dc dg da dh dt dv dd ds ak se pr 1) (some (.int (nI 0)))) 0 0 (va_A (mW h ad cI cJ cZ td gc ex pa di qu dc dg da dh dt dv dd ds ak se pr th) sz) := by
  refine Met.ofW (cc := cX1_setDiscount) (maxL := 4) (ret := (some .int)) (by decide) rfl ?_
  intro p e s m args below meth c s₁ B hml hv
  obtain ⟨rfl, hsz, hP, hK, hD0⟩ := hv
  have hx := B.exec
  have hb := B.bytes
  have hr := B.returns
  have hts := atoms_spec (ws := wsX1_setDiscount) B.pre
  have hown : s.vm.findClass RX1 = some m.cls := findClass_of_methodNamed B.named
  have hlocks := B.notSynchronized
  subst hsz
  have hD := hD0.self (sz := s.heap.size)
  generalize hAe : va_A (mW h ad cI cJ cZ td gc ex pa di qu dc dg da dh dt dv dd ds ak se pr th) s.heap.size = A at hD ⊢
  have hA : ∀ q : Nat, s.heap.size ≤ q → A q := fun q h => by rw [← hAe]; exact Or.inr h
  have hS : va_S A s.heap s.heap [] := va_S.rf
  have hl := lv_entry ([.ref h, .int g, .int w]) (n := 4) (Nat.le_of_ble_eq_true rfl)
  rw [lg_entry_eq]
  generalize (lg_sl ([.ref h, .int g, .int w]) ++ List.replicate (4 - (lg_sl ([.ref h, .int g, .int w])).length) Slot.unset).toArray = ls at hl ⊢
  have hl : lv_has ls 4 [(0, .ref h), (1, .int g), (2, .int w)] := hl
  refine lv_aload_n hx hb dX1_setDiscount_0 rfl (lv_at hl 0 rfl) ?_
  rcases gBad_c hg with hg | ⟨j, hj, rfl, he⟩
  · refine lv_aload_n hx hb dX1_setDiscount_1 rfl (lv_at hl 0 rfl) ?_
    refine lv_iload_n hx hb dX1_setDiscount_2 rfl (lv_at hl 1 rfl) ?_
    refine q_callI (r := bI false) (va_runV (As := [.int g]) (rest := [.ref h]) ⟨hx, hb, hml, hown, hts⟩ (kX1_isGoodR l D h ad cI cJ cZ td gc ex pa di qu dc dg da dh dt dv dd ds ak se pr th g hgc hg) (cwV 1 hts gX1_setDiscount_X1_isGood rfl rfl rfl (by decide +kernel) ⟨Nat.le_of_ble_eq_true rfl, Nat.le_of_ble_eq_true rfl⟩) ⟨pP_blind, va_recv hK hP (ci := 1) (q0 := 0) rfl rfl, pP_pre hP hK⟩ rfl rfl hl.1 rfl (lv_room (Nat.le_of_ble_eq_true rfl)) dX1_setDiscount_3 ⟨Nat.zero_le _, Nat.zero_le _⟩) ?_
    refine q_ifB_ne (b := false) (tgt := 13) hx hb dX1_setDiscount_6 (by decide) (fun k6 => absurd k6 (by decide)) (fun k6 => ?_)
    refine lv_iconst (v := nI 1) hx hb dX1_setDiscount_9 (by decide) ?_
    refine lv_goto (tgt := 28) hx hb dX1_setDiscount_10 (by decide) ?_
    refine q_wcallI (r := bI (decide (0 < 1))) (w' := (mW h ad cI cJ cZ td gc ex pa di qu dc dg da dh dt dv dd ds ak se pr 1)) (va_runV (As := [.int (nI 1)]) (rest := []) ⟨hx, hb, hml, hown, hts⟩ (kX1_fails l D h ad cI cJ cZ td gc ex pa di qu dc dg da dh dt dv dd ds ak se pr th _ 1 (by decide)) (cwV 1 hts gX1_setDiscount_X1_fails rfl rfl rfl (by decide +kernel) ⟨Nat.le_of_ble_eq_true rfl, Nat.le_of_ble_eq_true rfl⟩) ⟨wP_blind, va_recv hK hP (ci := 1) (q0 := 0) rfl rfl, wP_pre hP hK hD⟩ rfl rfl hl.1 rfl (lv_room (Nat.le_of_ble_eq_true rfl)) dX1_setDiscount_28 ⟨Nat.zero_le _, Nat.zero_le _⟩) hD hS hA rfl (fun H locs hP hD hS => ?_)
    refine q_ifB_eq (b := decide (0 < 1)) (tgt := 36) hx hb dX1_setDiscount_31 (by decide) (fun k31 => absurd k31 (by decide)) (fun k31 => ?_)
    refine lv_iconst (v := nI 0) hx hb dX1_setDiscount_34 (by decide) ?_
    exact q_wretI hx hb hr hlocks hAe hP hS (rfl) dX1_setDiscount_35
  · refine lv_aload_n hx hb dX1_setDiscount_1 rfl (lv_at hl 0 rfl) ?_
    refine lv_iload_n hx hb dX1_setDiscount_2 rfl (lv_at hl 1 rfl) ?_
    refine q_callI (r := bI (ex j)) (va_runV (As := [.int (nI j)]) (rest := [.ref h]) ⟨hx, hb, hml, hown, hts⟩ (kX1_isGoodN l D h ad cI cJ cZ td gc ex pa di qu dc dg da dh dt dv dd ds ak se pr th j hj hgc hxg) (cwV 1 hts gX1_setDiscount_X1_isGood rfl rfl rfl (by decide +kernel) ⟨Nat.le_of_ble_eq_true rfl, Nat.le_of_ble_eq_true rfl⟩) ⟨pP_blind, va_recv hK hP (ci := 1) (q0 := 0) rfl rfl, pP_pre hP hK⟩ rfl rfl hl.1 rfl (lv_room (Nat.le_of_ble_eq_true rfl)) dX1_setDiscount_3 ⟨Nat.zero_le _, Nat.zero_le _⟩) ?_
    refine q_ifB_ne (b := ex j) (tgt := 13) hx hb dX1_setDiscount_6 (by decide) (fun k6 => absurd k6 (by rw [he]; decide)) (fun k6 => ?_)
    refine lv_iconst (v := nI 1) hx hb dX1_setDiscount_9 (by decide) ?_
    refine lv_goto (tgt := 28) hx hb dX1_setDiscount_10 (by decide) ?_
    refine q_wcallI (r := bI (decide (0 < 1))) (w' := (mW h ad cI cJ cZ td gc ex pa di qu dc dg da dh dt dv dd ds ak se pr 1)) (va_runV (As := [.int (nI 1)]) (rest := []) ⟨hx, hb, hml, hown, hts⟩ (kX1_fails l D h ad cI cJ cZ td gc ex pa di qu dc dg da dh dt dv dd ds ak se pr th _ 1 (by decide)) (cwV 1 hts gX1_setDiscount_X1_fails rfl rfl rfl (by decide +kernel) ⟨Nat.le_of_ble_eq_true rfl, Nat.le_of_ble_eq_true rfl⟩) ⟨wP_blind, va_recv hK hP (ci := 1) (q0 := 0) rfl rfl, wP_pre hP hK hD⟩ rfl rfl hl.1 rfl (lv_room (Nat.le_of_ble_eq_true rfl)) dX1_setDiscount_28 ⟨Nat.zero_le _, Nat.zero_le _⟩) hD hS hA rfl (fun H locs hP hD hS => ?_)
    refine q_ifB_eq (b := decide (0 < 1)) (tgt := 36) hx hb dX1_setDiscount_31 (by decide) (fun k31 => absurd k31 (by decide)) (fun k31 => ?_)
    refine lv_iconst (v := nI 0) hx hb dX1_setDiscount_34 (by decide) ?_
    exact q_wretI hx hb hr hlocks hAe hP hS (rfl) dX1_setDiscount_35

set_option maxHeartbeats 4000000 in
set_option maxRecDepth 100000 in
theorem kX1_told1 (l : Launch) (D : va_G) (h : Nat) (ad : Nat → Nat) (cI cJ cZ : ClassId) (td : Nat) (gc : Nat) (ex : Nat → Bool) (pa : Nat → Option Nat) (di : Nat → Nat) (qu : Nat → Nat) (dc : Nat) (dg : Nat → Nat) (da : Nat → Nat) (dh : Nat → Option Nat) (dt : Nat → Option Nat) (dv : Nat → Option Nat) (dd : Nat → Nat) (ds : Nat → Nat) (ak : Nat → Bool) (se : Nat → Option Nat) (pr : Nat → Option Nat) (th : Nat) (sz : Nat) (g : Int32) (hgc : gc ≤ 16) (hxg : ∀ j, j < 16 → ex j = true → j < gc) (hg : gBad ex g) : Met l yX1_told wsX1_told ({ frames := 2, cells := 0, slots := 0, locals := 43 } : Room) (wP D (mW h ad cI cJ cZ td gc ex pa di qu dc dg da dh dt dv dd ds ak se pr th) (mT cI cJ cZ) [.ref h, .int g] sz) (wQ D (mW h ad cI cJ cZ td gc ex pa di qu dc dg da dh dt dv dd ds ak se pr th) (mW h ad cI cJ cZ td gc ex pa di qu dc dg da dh dt dv dd ds ak se pr 1) (some (.int (nI 0)))) 0 0 (va_A (mW h ad cI cJ cZ td gc ex pa di qu dc dg da dh dt dv dd ds ak se pr th) sz) := by
  refine Met.ofW (cc := cX1_told) (maxL := 4) (ret := (some .int)) (by decide) rfl ?_
  intro p e s m args below meth c s₁ B hml hv
  obtain ⟨rfl, hsz, hP, hK, hD0⟩ := hv
  have hx := B.exec
  have hb := B.bytes
  have hr := B.returns
  have hts := atoms_spec (ws := wsX1_told) B.pre
  have hown : s.vm.findClass RX1 = some m.cls := findClass_of_methodNamed B.named
  have hlocks := B.notSynchronized
  subst hsz
  have hD := hD0.self (sz := s.heap.size)
  generalize hAe : va_A (mW h ad cI cJ cZ td gc ex pa di qu dc dg da dh dt dv dd ds ak se pr th) s.heap.size = A at hD ⊢
  have hA : ∀ q : Nat, s.heap.size ≤ q → A q := fun q h => by rw [← hAe]; exact Or.inr h
  have hS : va_S A s.heap s.heap [] := va_S.rf
  have hl := lv_entry ([.ref h, .int g]) (n := 4) (Nat.le_of_ble_eq_true rfl)
  rw [lg_entry_eq]
  generalize (lg_sl ([.ref h, .int g]) ++ List.replicate (4 - (lg_sl ([.ref h, .int g])).length) Slot.unset).toArray = ls at hl ⊢
  have hl : lv_has ls 4 [(0, .ref h), (1, .int g)] := hl
  refine lv_aload_n hx hb dX1_told_0 rfl (lv_at hl 0 rfl) ?_
  rcases gBad_c hg with hg | ⟨j, hj, rfl, he⟩
  · refine lv_aload_n hx hb dX1_told_1 rfl (lv_at hl 0 rfl) ?_
    refine lv_iload_n hx hb dX1_told_2 rfl (lv_at hl 1 rfl) ?_
    refine q_callI (r := bI false) (va_runV (As := [.int g]) (rest := [.ref h]) ⟨hx, hb, hml, hown, hts⟩ (kX1_isGoodR l D h ad cI cJ cZ td gc ex pa di qu dc dg da dh dt dv dd ds ak se pr th g hgc hg) (cwV 1 hts gX1_told_X1_isGood rfl rfl rfl (by decide +kernel) ⟨Nat.le_of_ble_eq_true rfl, Nat.le_of_ble_eq_true rfl⟩) ⟨pP_blind, va_recv hK hP (ci := 1) (q0 := 0) rfl rfl, pP_pre hP hK⟩ rfl rfl hl.1 rfl (lv_room (Nat.le_of_ble_eq_true rfl)) dX1_told_3 ⟨Nat.zero_le _, Nat.zero_le _⟩) ?_
    refine q_ifB_eq (b := false) (tgt := 13) hx hb dX1_told_6 (by decide) (fun k6 => ?_) (fun k6 => absurd k6 (by decide))
    refine lv_iconst (v := nI 1) hx hb dX1_told_13 (by decide) ?_
    refine q_wcallI (r := bI (decide (0 < 1))) (w' := (mW h ad cI cJ cZ td gc ex pa di qu dc dg da dh dt dv dd ds ak se pr 1)) (va_runV (As := [.int (nI 1)]) (rest := []) ⟨hx, hb, hml, hown, hts⟩ (kX1_fails l D h ad cI cJ cZ td gc ex pa di qu dc dg da dh dt dv dd ds ak se pr th _ 1 (by decide)) (cwV 1 hts gX1_told_X1_fails rfl rfl rfl (by decide +kernel) ⟨Nat.le_of_ble_eq_true rfl, Nat.le_of_ble_eq_true rfl⟩) ⟨wP_blind, va_recv hK hP (ci := 1) (q0 := 0) rfl rfl, wP_pre hP hK hD⟩ rfl rfl hl.1 rfl (lv_room (Nat.le_of_ble_eq_true rfl)) dX1_told_14 ⟨Nat.zero_le _, Nat.zero_le _⟩) hD hS hA rfl (fun H locs hP hD hS => ?_)
    refine q_ifB_eq (b := decide (0 < 1)) (tgt := 22) hx hb dX1_told_17 (by decide) (fun k17 => absurd k17 (by decide)) (fun k17 => ?_)
    refine lv_iconst (v := nI 0) hx hb dX1_told_20 (by decide) ?_
    exact q_wretI hx hb hr hlocks hAe hP hS (rfl) dX1_told_21
  · refine lv_aload_n hx hb dX1_told_1 rfl (lv_at hl 0 rfl) ?_
    refine lv_iload_n hx hb dX1_told_2 rfl (lv_at hl 1 rfl) ?_
    refine q_callI (r := bI (ex j)) (va_runV (As := [.int (nI j)]) (rest := [.ref h]) ⟨hx, hb, hml, hown, hts⟩ (kX1_isGoodN l D h ad cI cJ cZ td gc ex pa di qu dc dg da dh dt dv dd ds ak se pr th j hj hgc hxg) (cwV 1 hts gX1_told_X1_isGood rfl rfl rfl (by decide +kernel) ⟨Nat.le_of_ble_eq_true rfl, Nat.le_of_ble_eq_true rfl⟩) ⟨pP_blind, va_recv hK hP (ci := 1) (q0 := 0) rfl rfl, pP_pre hP hK⟩ rfl rfl hl.1 rfl (lv_room (Nat.le_of_ble_eq_true rfl)) dX1_told_3 ⟨Nat.zero_le _, Nat.zero_le _⟩) ?_
    refine q_ifB_eq (b := ex j) (tgt := 13) hx hb dX1_told_6 (by decide) (fun k6 => ?_) (fun k6 => absurd k6 (by rw [he]; decide))
    refine lv_iconst (v := nI 1) hx hb dX1_told_13 (by decide) ?_
    refine q_wcallI (r := bI (decide (0 < 1))) (w' := (mW h ad cI cJ cZ td gc ex pa di qu dc dg da dh dt dv dd ds ak se pr 1)) (va_runV (As := [.int (nI 1)]) (rest := []) ⟨hx, hb, hml, hown, hts⟩ (kX1_fails l D h ad cI cJ cZ td gc ex pa di qu dc dg da dh dt dv dd ds ak se pr th _ 1 (by decide)) (cwV 1 hts gX1_told_X1_fails rfl rfl rfl (by decide +kernel) ⟨Nat.le_of_ble_eq_true rfl, Nat.le_of_ble_eq_true rfl⟩) ⟨wP_blind, va_recv hK hP (ci := 1) (q0 := 0) rfl rfl, wP_pre hP hK hD⟩ rfl rfl hl.1 rfl (lv_room (Nat.le_of_ble_eq_true rfl)) dX1_told_14 ⟨Nat.zero_le _, Nat.zero_le _⟩) hD hS hA rfl (fun H locs hP hD hS => ?_)
    refine q_ifB_eq (b := decide (0 < 1)) (tgt := 22) hx hb dX1_told_17 (by decide) (fun k17 => absurd k17 (by decide)) (fun k17 => ?_)
    refine lv_iconst (v := nI 0) hx hb dX1_told_20 (by decide) ?_
    exact q_wretI hx hb hr hlocks hAe hP hS (rfl) dX1_told_21
