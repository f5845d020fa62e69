set_option maxHeartbeats 4000000 in
set_option maxRecDepth 100000 in
theorem kX0_findOwnOrigin (l : Launch) (D : va_G) (h : Nat) (ad : Nat → Nat) (cI cZ : ClassId) (ex : Nat → Bool) (pa : Nat → Option Nat) (di : Nat → Nat) (qu : Nat → Nat) (gc : Nat) (dg : Nat → Nat) (dp : Nat → Nat) (dv : Nat → Option Nat) (dd : Nat → Nat) (ds : Nat → Nat) (dc : Nat) (td : Nat) (ho : Nat → Option Nat) (ak : Nat → Bool) (se : Nat → Option Nat) (pr : Nat → Option Nat) (g a sp tp : Nat) (hg : g < 16) (ha : a < 6) (hs : sp < 3) (ht : tp < 3) (hho : HO ho dc) (hdc : dc ≤ 200) : Met l yX0_findOwnOrigin wsX0_findOwnOrigin ({ frames := 1, cells := 0, slots := 0, locals := 25 } : Room) (pP D (hW h ad cI cZ ex pa di qu gc dg dp dv dd ds dc td ho ak se pr) (hT cI cZ) [.ref h, .int (nI g), .int (nI a), .int (nI sp), .int (nI tp)]) (pQ (some (.int (oI (own ho g a (sp + 1) (tp + 1)))))) 0 0 nF := by
  refine Met.ofW (cc := cX0_findOwnOrigin) (maxL := 6) (ret := (some .int)) (by decide) rfl ?_
  intro p e s m args below meth c s₁ B hml hv
  obtain ⟨rfl, hP, hK⟩ := hv
  have hx := B.exec
  have hb := B.bytes
  have hr := B.returns
  have hts := atoms_spec (ws := wsX0_findOwnOrigin) B.pre
  have hown : s.vm.findClass RX0 = some m.cls := findClass_of_methodNamed B.named
  have hlocks := B.notSynchronized
  have hl := lv_entry ([.ref h, .int (nI g), .int (nI a), .int (nI sp), .int (nI tp)]) (n := 6) (Nat.le_of_ble_eq_true rfl)
  rw [lg_entry_eq]
  generalize (lg_sl ([.ref h, .int (nI g), .int (nI a), .int (nI sp), .int (nI tp)]) ++ List.replicate (6 - (lg_sl ([.ref h, .int (nI g), .int (nI a), .int (nI sp), .int (nI tp)])).length) Slot.unset).toArray = ls at hl ⊢
  have hl : lv_has ls 6 [(0, .ref h), (1, .int (nI g)), (2, .int (nI a)), (3, .int (nI sp)), (4, .int (nI tp))] := hl
  refine lv_aload_n hx hb dX0_findOwnOrigin_0 rfl (lv_at hl 0 rfl) ?_
  refine va_get (D := D) (ci := 0) (v := .ref (ad 12)) (C := RX0) (T := TX0) (N := 16) hx hb hts (iX0_findOwnOrigin) hown hK hP 0 rfl rfl 12 (by decide) (hts (.fieldLink RX0 48 "ShopHub" "holders" "[I") (by decide +kernel)) (fun _ h9 => h9) rfl dX0_findOwnOrigin_1 ?_
  refine lv_iload_n hx hb dX0_findOwnOrigin_4 rfl (lv_at hl 1 rfl) ?_
  refine lv_iload_n hx hb dX0_findOwnOrigin_5 rfl (lv_at hl 2 rfl) ?_
  refine lv_iload_n hx hb dX0_findOwnOrigin_6 rfl (lv_at hl 3 rfl) ?_
  refine lv_iload hx hb dX0_findOwnOrigin_7 (lv_at hl 4 rfl) ?_
  refine q_top (y := zI (((tp + 1 : Nat) : Int) - 1)) (by rw [nz]; exact congrArg zI (by omega)) ?_
  refine q_top2 (y := zI (((sp + 1 : Nat) : Int) - 1)) (by rw [nz]; exact congrArg zI (by omega)) ?_
  refine q_callI (r := nI (plc g a (sp + 1) (tp + 1))) (va_runS (As := [.int (nI g), .int (nI a), .int (zI (((sp + 1 : Nat) : Int) - 1)), .int (zI (((tp + 1 : Nat) : Int) - 1))]) (rest := [.ref (ad 12)]) ⟨hx, hb, hml, hown, hts⟩ (kX0_placeOf l g a (sp + 1) (tp + 1) hg ha (by omega) (by omega)) (cwS 4 hts gX0_findOwnOrigin_X0_placeOf rfl rfl rfl (by decide +kernel) ⟨Nat.le_of_ble_eq_true rfl, Nat.le_of_ble_eq_true rfl⟩) ⟨sP_blind, sP_pre⟩ rfl rfl hl.1 rfl (lv_room (Nat.le_of_ble_eq_true rfl)) dX0_findOwnOrigin_9 ⟨Nat.zero_le _, Nat.zero_le _⟩) ?_
  refine q_ald oI ho hx hb hK hP 10 1 rfl rfl (k := plc g a (sp + 1) (tp + 1)) (plc_lt hg ha (by omega) (by omega)) (Nat.le_of_ble_eq_true rfl) dX0_findOwnOrigin_12 ?_
  refine lv_istore (lv' := [(5, .int (oI (ho (plc g a (sp + 1) (tp + 1))))), (0, .ref h), (1, .int (nI g)), (2, .int (nI a)), (3, .int (nI sp)), (4, .int (nI tp))]) hx hb dX0_findOwnOrigin_13 hl (by decide) rfl (fun ls hl => ?_)
  refine lv_iload hx hb dX0_findOwnOrigin_15 (lv_at hl 0 rfl) ?_
  refine lv_iconst (v := oI none) hx hb dX0_findOwnOrigin_17 (by decide) ?_
  refine q_icmpO_ne (a := ho (plc g a (sp + 1) (tp + 1))) (b := none) (tgt := 35) (fun k h9 => by have := hho _ (plc_lt hg ha (by omega) (by omega)) k h9; omega) (fun k h9 => by cases h9) hx hb dX0_findOwnOrigin_18 (by decide) (fun k18 => ?_) (fun k18 => ?_)
  · refine lv_iload hx hb dX0_findOwnOrigin_35 (lv_at hl 0 rfl) ?_
    refine lv_iconst (v := oI none) hx hb dX0_findOwnOrigin_37 (by decide) ?_
    refine q_icmpO_ne (a := ho (plc g a (sp + 1) (tp + 1))) (b := none) (tgt := 56) (fun k h9 => by have := hho _ (plc_lt hg ha (by omega) (by omega)) k h9; omega) (fun k h9 => by cases h9) hx hb dX0_findOwnOrigin_38 (by decide) (fun k38 => ?_) (fun k38 => absurd k38 k18)
    refine lv_iload hx hb dX0_findOwnOrigin_56 (lv_at hl 0 rfl) ?_
    refine lv_iconst (v := oI none) hx hb dX0_findOwnOrigin_58 (by decide) ?_
    refine q_icmpO_ne (a := ho (plc g a (sp + 1) (tp + 1))) (b := none) (tgt := 76) (fun k h9 => by have := hho _ (plc_lt hg ha (by omega) (by omega)) k h9; omega) (fun k h9 => by cases h9) hx hb dX0_findOwnOrigin_59 (by decide) (fun k59 => ?_) (fun k59 => absurd k59 k18)
    refine lv_iload hx hb dX0_findOwnOrigin_76 (lv_at hl 0 rfl) ?_
    exact q_retI hx hb hr hlocks (by unfold own; rw [orE_l k18]) dX0_findOwnOrigin_78
  · refine lv_aload_n hx hb dX0_findOwnOrigin_21 rfl (lv_at hl 1 rfl) ?_
    refine va_get (D := D) (ci := 0) (v := .ref (ad 12)) (C := RX0) (T := TX0) (N := 16) hx hb hts (iX0_findOwnOrigin) hown hK hP 0 rfl rfl 12 (by decide) (hts (.fieldLink RX0 48 "ShopHub" "holders" "[I") (by decide +kernel)) (fun _ h9 => h9) rfl dX0_findOwnOrigin_22 ?_
    refine lv_iload_n hx hb dX0_findOwnOrigin_25 rfl (lv_at hl 2 rfl) ?_
    refine lv_iload_n hx hb dX0_findOwnOrigin_26 rfl (lv_at hl 3 rfl) ?_
    refine lv_iload_n hx hb dX0_findOwnOrigin_27 rfl (lv_at hl 4 rfl) ?_
    refine lv_iconst (v := oI none) hx hb dX0_findOwnOrigin_28 (by decide) ?_
    refine q_top (y := zI (((0 : Nat) : Int) - 1)) (by decide) ?_
    refine q_top2 (y := zI (((sp + 1 : Nat) : Int) - 1)) (by rw [nz]; exact congrArg zI (by omega)) ?_
    refine q_callI (r := nI (plc g a (sp + 1) 0)) (va_runS (As := [.int (nI g), .int (nI a), .int (zI (((sp + 1 : Nat) : Int) - 1)), .int (zI (((0 : Nat) : Int) - 1))]) (rest := [.ref (ad 12)]) ⟨hx, hb, hml, hown, hts⟩ (kX0_placeOf l g a (sp + 1) 0 hg ha (by omega) (by omega)) (cwS 4 hts gX0_findOwnOrigin_X0_placeOf rfl rfl rfl (by decide +kernel) ⟨Nat.le_of_ble_eq_true rfl, Nat.le_of_ble_eq_true rfl⟩) ⟨sP_blind, sP_pre⟩ rfl rfl hl.1 rfl (lv_room (Nat.le_of_ble_eq_true rfl)) dX0_findOwnOrigin_29 ⟨Nat.zero_le _, Nat.zero_le _⟩) ?_
    refine q_ald oI ho hx hb hK hP 10 1 rfl rfl (k := plc g a (sp + 1) 0) (plc_lt hg ha (by omega) (by omega)) (Nat.le_of_ble_eq_true rfl) dX0_findOwnOrigin_32 ?_
    refine lv_istore (lv' := [(5, .int (oI (ho (plc g a (sp + 1) 0)))), (0, .ref h), (1, .int (nI g)), (2, .int (nI a)), (3, .int (nI sp)), (4, .int (nI tp))]) hx hb dX0_findOwnOrigin_33 hl (by decide) rfl (fun ls hl => ?_)
    refine lv_iload hx hb dX0_findOwnOrigin_35 (lv_at hl 0 rfl) ?_
    refine lv_iconst (v := oI none) hx hb dX0_findOwnOrigin_37 (by decide) ?_
    refine q_icmpO_ne (a := ho (plc g a (sp + 1) 0)) (b := none) (tgt := 56) (fun k h9 => by have := hho _ (plc_lt hg ha (by omega) (by omega)) k h9; omega) (fun k h9 => by cases h9) hx hb dX0_findOwnOrigin_38 (by decide) (fun k38 => ?_) (fun k38 => ?_)
    · refine lv_iload hx hb dX0_findOwnOrigin_56 (lv_at hl 0 rfl) ?_
      refine lv_iconst (v := oI none) hx hb dX0_findOwnOrigin_58 (by decide) ?_
      refine q_icmpO_ne (a := ho (plc g a (sp + 1) 0)) (b := none) (tgt := 76) (fun k h9 => by have := hho _ (plc_lt hg ha (by omega) (by omega)) k h9; omega) (fun k h9 => by cases h9) hx hb dX0_findOwnOrigin_59 (by decide) (fun k59 => ?_) (fun k59 => absurd k59 k38)
      refine lv_iload hx hb dX0_findOwnOrigin_76 (lv_at hl 0 rfl) ?_
      exact q_retI hx hb hr hlocks (by unfold own; rw [orE_r k18, orE_l k38]) dX0_findOwnOrigin_78
    · refine lv_aload_n hx hb dX0_findOwnOrigin_41 rfl (lv_at hl 1 rfl) ?_
      refine va_get (D := D) (ci := 0) (v := .ref (ad 12)) (C := RX0) (T := TX0) (N := 16) hx hb hts (iX0_findOwnOrigin) hown hK hP 0 rfl rfl 12 (by decide) (hts (.fieldLink RX0 48 "ShopHub" "holders" "[I") (by decide +kernel)) (fun _ h9 => h9) rfl dX0_findOwnOrigin_42 ?_
      refine lv_iload_n hx hb dX0_findOwnOrigin_45 rfl (lv_at hl 2 rfl) ?_
      refine lv_iload_n hx hb dX0_findOwnOrigin_46 rfl (lv_at hl 3 rfl) ?_
      refine lv_iconst (v := oI none) hx hb dX0_findOwnOrigin_47 (by decide) ?_
      refine lv_iload hx hb dX0_findOwnOrigin_48 (lv_at hl 5 rfl) ?_
      refine q_top (y := zI (((tp + 1 : Nat) : Int) - 1)) (by rw [nz]; exact congrArg zI (by omega)) ?_
      refine q_top2 (y := zI (((0 : Nat) : Int) - 1)) (by decide) ?_
      refine q_callI (r := nI (plc g a 0 (tp + 1))) (va_runS (As := [.int (nI g), .int (nI a), .int (zI (((0 : Nat) : Int) - 1)), .int (zI (((tp + 1 : Nat) : Int) - 1))]) (rest := [.ref (ad 12)]) ⟨hx, hb, hml, hown, hts⟩ (kX0_placeOf l g a 0 (tp + 1) hg ha (by omega) (by omega)) (cwS 4 hts gX0_findOwnOrigin_X0_placeOf rfl rfl rfl (by decide +kernel) ⟨Nat.le_of_ble_eq_true rfl, Nat.le_of_ble_eq_true rfl⟩) ⟨sP_blind, sP_pre⟩ rfl rfl hl.1 rfl (lv_room (Nat.le_of_ble_eq_true rfl)) dX0_findOwnOrigin_50 ⟨Nat.zero_le _, Nat.zero_le _⟩) ?_
      refine q_ald oI ho hx hb hK hP 10 1 rfl rfl (k := plc g a 0 (tp + 1)) (plc_lt hg ha (by omega) (by omega)) (Nat.le_of_ble_eq_true rfl) dX0_findOwnOrigin_53 ?_
      refine lv_istore (lv' := [(5, .int (oI (ho (plc g a 0 (tp + 1))))), (0, .ref h), (1, .int (nI g)), (2, .int (nI a)), (3, .int (nI sp)), (4, .int (nI tp))]) hx hb dX0_findOwnOrigin_54 hl (by decide) rfl (fun ls hl => ?_)
      refine lv_iload hx hb dX0_findOwnOrigin_56 (lv_at hl 0 rfl) ?_
      refine lv_iconst (v := oI none) hx hb dX0_findOwnOrigin_58 (by decide) ?_
      refine q_icmpO_ne (a := ho (plc g a 0 (tp + 1))) (b := none) (tgt := 76) (fun k h9 => by have := hho _ (plc_lt hg ha (by omega) (by omega)) k h9; omega) (fun k h9 => by cases h9) hx hb dX0_findOwnOrigin_59 (by decide) (fun k59 => ?_) (fun k59 => ?_)
      · refine lv_iload hx hb dX0_findOwnOrigin_76 (lv_at hl 0 rfl) ?_
        exact q_retI hx hb hr hlocks (by unfold own; rw [orE_r k18, orE_r k38, orE_l k59]) dX0_findOwnOrigin_78
      · refine lv_aload_n hx hb dX0_findOwnOrigin_62 rfl (lv_at hl 1 rfl) ?_
        refine va_get (D := D) (ci := 0) (v := .ref (ad 12)) (C := RX0) (T := TX0) (N := 16) hx hb hts (iX0_findOwnOrigin) hown hK hP 0 rfl rfl 12 (by decide) (hts (.fieldLink RX0 48 "ShopHub" "holders" "[I") (by decide +kernel)) (fun _ h9 => h9) rfl dX0_findOwnOrigin_63 ?_
        refine lv_iload_n hx hb dX0_findOwnOrigin_66 rfl (lv_at hl 2 rfl) ?_
        refine lv_iload_n hx hb dX0_findOwnOrigin_67 rfl (lv_at hl 3 rfl) ?_
        refine lv_iconst (v := oI none) hx hb dX0_findOwnOrigin_68 (by decide) ?_
        refine lv_iconst (v := oI none) hx hb dX0_findOwnOrigin_69 (by decide) ?_
        refine q_top (y := zI (((0 : Nat) : Int) - 1)) (by decide) ?_
        refine q_top2 (y := zI (((0 : Nat) : Int) - 1)) (by decide) ?_
        refine q_callI (r := nI (plc g a 0 0)) (va_runS (As := [.int (nI g), .int (nI a), .int (zI (((0 : Nat) : Int) - 1)), .int (zI (((0 : Nat) : Int) - 1))]) (rest := [.ref (ad 12)]) ⟨hx, hb, hml, hown, hts⟩ (kX0_placeOf l g a 0 0 hg ha (by omega) (by omega)) (cwS 4 hts gX0_findOwnOrigin_X0_placeOf rfl rfl rfl (by decide +kernel) ⟨Nat.le_of_ble_eq_true rfl, Nat.le_of_ble_eq_true rfl⟩) ⟨sP_blind, sP_pre⟩ rfl rfl hl.1 rfl (lv_room (Nat.le_of_ble_eq_true rfl)) dX0_findOwnOrigin_70 ⟨Nat.zero_le _, Nat.zero_le _⟩) ?_
        refine q_ald oI ho hx hb hK hP 10 1 rfl rfl (k := plc g a 0 0) (plc_lt hg ha (by omega) (by omega)) (Nat.le_of_ble_eq_true rfl) dX0_findOwnOrigin_73 ?_
        refine lv_istore (lv' := [(5, .int (oI (ho (plc g a 0 0)))), (0, .ref h), (1, .int (nI g)), (2, .int (nI a)), (3, .int (nI sp)), (4, .int (nI tp))]) hx hb dX0_findOwnOrigin_74 hl (by decide) rfl (fun ls hl => ?_)
        refine lv_iload hx hb dX0_findOwnOrigin_76 (lv_at hl 0 rfl) ?_
        exact q_retI hx hb hr hlocks (by unfold own; rw [orE_r k18, orE_r k38, orE_r k59]) dX0_findOwnOrigin_78

set_option maxHeartbeats 4000000 in
set_option maxRecDepth 100000 in
theorem kX0_findOrigin (l : Launch) (D : va_G) (h : Nat) (ad : Nat → Nat) (cI cZ : ClassId) (ex : Nat → Bool) (pa : Nat → Option Nat) (di : Nat → Nat) (qu : Nat → Nat) (gc : Nat) (dg : Nat → Nat) (dp : Nat → Nat) (dv : Nat → Option Nat) (dd : Nat → Nat) (ds : Nat → Nat) (dc : Nat) (td : Nat) (ho : Nat → Option Nat) (ak : Nat → Bool) (se : Nat → Option Nat) (pr : Nat → Option Nat) (g a sp tp : Nat) (hg : g < 16) (ha : a < 6) (hs : sp < 3) (ht : tp < 3) (hpr : PR pa) (hho : HO ho dc) (hdc : dc ≤ 200) : Met l yX0_findOrigin wsX0_findOrigin ({ frames := 2, cells := 0, slots := 0, locals := 50 } : Room) (pP D (hW h ad cI cZ ex pa di qu gc dg dp dv dd ds dc td ho ak se pr) (hT cI cZ) [.ref h, .int (nI g), .int (nI a), .int (nI sp), .int (nI tp)]) (pQ (some (.int (oI (org ex pa ho a (sp + 1) (tp + 1) 3 (some g)))))) 0 0 nF := by
  refine Met.ofW (cc := cX0_findOrigin) (maxL := 8) (ret := (some .int)) (by decide) rfl ?_
  intro p e s m args below meth c s₁ B hml hv
  obtain ⟨rfl, hP, hK⟩ := hv
  have hx := B.exec
  have hb := B.bytes
  have hr := B.returns
  have hts := atoms_spec (ws := wsX0_findOrigin) B.pre
  have hown : s.vm.findClass RX0 = some m.cls := findClass_of_methodNamed B.named
  have hlocks := B.notSynchronized
  have hl := lv_entry ([.ref h, .int (nI g), .int (nI a), .int (nI sp), .int (nI tp)]) (n := 8) (Nat.le_of_ble_eq_true rfl)
  rw [lg_entry_eq]
  generalize (lg_sl ([.ref h, .int (nI g), .int (nI a), .int (nI sp), .int (nI tp)]) ++ List.replicate (8 - (lg_sl ([.ref h, .int (nI g), .int (nI a), .int (nI sp), .int (nI tp)])).length) Slot.unset).toArray = ls at hl ⊢
  have hl : lv_has ls 8 [(0, .ref h), (1, .int (nI g)), (2, .int (nI a)), (3, .int (nI sp)), (4, .int (nI tp))] := hl
  refine lv_iload_n hx hb dX0_findOrigin_0 rfl (lv_at hl 1 rfl) ?_
  refine lv_istore (lv' := [(5, .int (nI g)), (0, .ref h), (1, .int (nI g)), (2, .int (nI a)), (3, .int (nI sp)), (4, .int (nI tp))]) hx hb dX0_findOrigin_1 hl (by decide) rfl (fun ls hl => ?_)
  refine lv_iconst (v := nI 0) hx hb dX0_findOrigin_3 (by decide) ?_
  refine lv_istore (lv' := [(6, .int (nI 0)), (5, .int (nI g)), (0, .ref h), (1, .int (nI g)), (2, .int (nI a)), (3, .int (nI sp)), (4, .int (nI tp))]) hx hb dX0_findOrigin_4 hl (by decide) rfl (fun ls hl => ?_)
  have loop6 : ∀ (n : Nat) (i : Nat) (o2 : Option Nat), (i ≤ 3) → (4 ≤ i + n) → (org ex pa ho a (sp + 1) (tp + 1) (3 - i) o2 = org ex pa ho a (sp + 1) (tp + 1) 3 (some g)) → (∀ k, o2 = some k → k < 16) → ∀ ls : Array Slot, lv_has ls 8 [(0, .ref h), (2, .int (nI a)), (3, .int (nI sp)), (4, .int (nI tp)), (5, .int (oI o2)), (6, .int (nI i))] → W p l e ({ frames := 2, cells := 0, slots := 0, locals := 50 } : Room) s m ([.ref h, .int (nI g), .int (nI a), .int (nI sp), .int (nI tp)] : List Value).toArray below meth c s.heap [] 0 0 (MQ below (pQ (some (.int (oI (org ex pa ho a (sp + 1) (tp + 1) 3 (some g)))))) ([.ref h, .int (nI g), .int (nI a), .int (nI sp), .int (nI tp)] : List Value).toArray s 0 0 nF) (F0 m 6 ls []) := by
    intro n
    induction n with
    | zero => intro i o2 hle hn hw hok2; omega
    | succ n ih =>
      intro i o2 hle hn hw hok2 ls hl
      refine lv_iload hx hb dX0_findOrigin_6 (lv_at hl 5 rfl) ?_
      refine lv_iconst (v := nI 3) hx hb dX0_findOrigin_8 (by decide) ?_
      refine q_icmpN_ge (a := i) (b := 3) (tgt := 57) (by omega) (by omega) hx hb dX0_findOrigin_9 (by decide) (fun k9 => ?_) (fun k9 => ?_)
      · refine lv_iconst (v := oI none) hx hb dX0_findOrigin_57 (by decide) ?_
        exact q_retI hx hb hr hlocks (by rw [← hw, show 3 - i = 0 by omega]; rfl) dX0_findOrigin_58
      · cases o2 with
        | none =>
          refine lv_aload_n hx hb dX0_findOrigin_12 rfl (lv_at hl 0 rfl) ?_
          refine lv_iload hx hb dX0_findOrigin_13 (lv_at hl 4 rfl) ?_
          refine q_callI (r := bI false) (va_runV (As := [.int (oI none)]) (rest := []) ⟨hx, hb, hml, hown, hts⟩ (kX0_isGoodR l D h ad cI cZ ex pa di qu gc dg dp dv dd ds dc td ho ak se pr (oI none) (Or.inl (by decide))) (cwV 1 hts gX0_findOrigin_X0_isGood rfl rfl rfl (by decide +kernel) ⟨Nat.le_of_ble_eq_true rfl, Nat.le_of_ble_eq_true rfl⟩) ⟨pP_blind, va_recv hK hP (ci := 0) (q0 := 0) rfl rfl, pP_pre hP hK⟩ rfl rfl hl.1 rfl (lv_room (Nat.le_of_ble_eq_true rfl)) dX0_findOrigin_15 ⟨Nat.zero_le _, Nat.zero_le _⟩) ?_
          refine q_ifB_eq (b := false) (tgt := 57) hx hb dX0_findOrigin_18 (by decide) (fun k18 => ?_) (fun k18 => absurd k18 (by decide))
          refine lv_iconst (v := oI none) hx hb dX0_findOrigin_57 (by decide) ?_
          exact q_retI hx hb hr hlocks (by rw [← hw, org_none]) dX0_findOrigin_58
        | some q =>
          have hq : q < 16 := hok2 q rfl
          refine lv_aload_n hx hb dX0_findOrigin_12 rfl (lv_at hl 0 rfl) ?_
          refine lv_iload hx hb dX0_findOrigin_13 (lv_at hl 4 rfl) ?_
          refine q_callI (r := bI (ex q)) (va_runV (As := [.int (nI q)]) (rest := []) ⟨hx, hb, hml, hown, hts⟩ (kX0_isGoodN l D h ad cI cZ ex pa di qu gc dg dp dv dd ds dc td ho ak se pr q hq) (cwV 1 hts gX0_findOrigin_X0_isGood rfl rfl rfl (by decide +kernel) ⟨Nat.le_of_ble_eq_true rfl, Nat.le_of_ble_eq_true rfl⟩) ⟨pP_blind, va_recv hK hP (ci := 0) (q0 := 0) rfl rfl, pP_pre hP hK⟩ rfl rfl hl.1 rfl (lv_room (Nat.le_of_ble_eq_true rfl)) dX0_findOrigin_15 ⟨Nat.zero_le _, Nat.zero_le _⟩) ?_
          refine q_ifB_eq (b := ex q) (tgt := 57) hx hb dX0_findOrigin_18 (by decide) (fun k18 => ?_) (fun k18 => ?_)
          · refine lv_iconst (v := oI none) hx hb dX0_findOrigin_57 (by decide) ?_
            exact q_retI hx hb hr hlocks (by rw [← hw, org_some (show 3 - i = (3 - (i + 1)) + 1 by omega), if_neg (by rw [k18]; decide)]) dX0_findOrigin_58
          · refine lv_aload_n hx hb dX0_findOrigin_21 rfl (lv_at hl 0 rfl) ?_
            refine lv_iload hx hb dX0_findOrigin_22 (lv_at hl 4 rfl) ?_
            refine lv_iload_n hx hb dX0_findOrigin_24 rfl (lv_at hl 1 rfl) ?_
            refine lv_iload_n hx hb dX0_findOrigin_25 rfl (lv_at hl 2 rfl) ?_
            refine lv_iload hx hb dX0_findOrigin_26 (lv_at hl 3 rfl) ?_
            refine q_callI (r := oI (own ho q a (sp + 1) (tp + 1))) (va_runV (As := [.int (nI q), .int (nI a), .int (nI sp), .int (nI tp)]) (rest := []) ⟨hx, hb, hml, hown, hts⟩ (kX0_findOwnOrigin l D h ad cI cZ ex pa di qu gc dg dp dv dd ds dc td ho ak se pr q a sp tp hq ha hs ht hho hdc) (cwV 4 hts gX0_findOrigin_X0_findOwnOrigin rfl rfl rfl (by decide +kernel) ⟨Nat.le_of_ble_eq_true rfl, Nat.le_of_ble_eq_true rfl⟩) ⟨pP_blind, va_recv hK hP (ci := 0) (q0 := 0) rfl rfl, pP_pre hP hK⟩ rfl rfl hl.1 rfl (lv_room (Nat.le_of_ble_eq_true rfl)) dX0_findOrigin_28 ⟨Nat.zero_le _, Nat.zero_le _⟩) ?_
            refine lv_istore (lv' := [(7, .int (oI (own ho q a (sp + 1) (tp + 1)))), (0, .ref h), (2, .int (nI a)), (3, .int (nI sp)), (4, .int (nI tp)), (5, .int (nI q)), (6, .int (nI i))]) hx hb dX0_findOrigin_31 hl (by decide) rfl (fun ls hl => ?_)
            refine lv_iload hx hb dX0_findOrigin_33 (lv_at hl 0 rfl) ?_
            refine lv_iconst (v := oI none) hx hb dX0_findOrigin_35 (by decide) ?_
            refine q_icmpO_eq (a := own ho q a (sp + 1) (tp + 1)) (b := none) (tgt := 42) (fun k h9 => by have := own_in hho hq ha (show sp + 1 < 4 by omega) (show tp + 1 < 4 by omega) k h9; omega) (fun k h9 => by cases h9) hx hb dX0_findOrigin_36 (by decide) (fun k36 => ?_) (fun k36 => ?_)
            · refine lv_aload_n hx hb dX0_findOrigin_42 rfl (lv_at hl 1 rfl) ?_
              refine va_get (D := D) (ci := 0) (v := .ref (ad 1)) (C := RX0) (T := TX0) (N := 16) hx hb hts (iX0_findOrigin) hown hK hP 0 rfl rfl 1 (by decide) (hts (.fieldLink RX0 13 "ShopHub" "parents" "[I") (by decide +kernel)) (fun _ h9 => h9) rfl dX0_findOrigin_43 ?_
              refine lv_iload hx hb dX0_findOrigin_46 (lv_at hl 5 rfl) ?_
              refine q_ald oI pa hx hb hK hP 2 1 rfl rfl (k := q) (by omega) (Nat.le_of_ble_eq_true rfl) dX0_findOrigin_48 ?_
              refine lv_istore (lv' := [(5, .int (oI (pa q))), (7, .int (oI (own ho q a (sp + 1) (tp + 1)))), (0, .ref h), (2, .int (nI a)), (3, .int (nI sp)), (4, .int (nI tp)), (6, .int (nI i))]) hx hb dX0_findOrigin_49 hl (by decide) rfl (fun ls hl => ?_)
              refine lv_iinc (v := nI (i + 1)) (lv' := [(6, .int (nI (i + 1))), (5, .int (oI (pa q))), (7, .int (oI (own ho q a (sp + 1) (tp + 1)))), (0, .ref h), (2, .int (nI a)), (3, .int (nI sp)), (4, .int (nI tp))]) hx hb dX0_findOrigin_51 hl (k := 6) rfl (i1_n i) (by decide) rfl (fun ls hl => ?_)
              refine lv_goto (tgt := 6) hx hb dX0_findOrigin_54 (by decide) ?_
              exact ih (i + 1) (pa q) (by omega) (by omega) (by rw [← hw, org_some (show 3 - i = (3 - (i + 1)) + 1 by omega), if_pos k18, orE_r k36]) (hpr q hq) _ (lv_sub hl [3, 4, 5, 6, 1, 0] rfl)
            · refine lv_iload hx hb dX0_findOrigin_39 (lv_at hl 0 rfl) ?_
              exact q_retI hx hb hr hlocks (by rw [← hw, org_some (show 3 - i = (3 - (i + 1)) + 1 by omega), if_pos k18, orE_l k36]) dX0_findOrigin_41
  exact loop6 4 0 (some g) (by omega) (Nat.le_refl 4) rfl (fun k h9 => by cases h9; exact hg) _ (lv_sub hl [2, 4, 5, 6, 1, 0] rfl)

set_option maxHeartbeats 4000000 in
set_option maxRecDepth 100000 in
theorem kX0_findValue (l : Launch) (D : va_G) (h : Nat) (ad : Nat → Nat) (cI cZ : ClassId) (ex : Nat → Bool) (pa : Nat → Option Nat) (di : Nat → Nat) (qu : Nat → Nat) (gc : Nat) (dg : Nat → Nat) (dp : Nat → Nat) (dv : Nat → Option Nat) (dd : Nat → Nat) (ds : Nat → Nat) (dc : Nat) (td : Nat) (ho : Nat → Option Nat) (ak : Nat → Bool) (se : Nat → Option Nat) (pr : Nat → Option Nat) (g a sp tp : Nat) (hg : g < 16) (ha : a < 6) (hs : sp < 3) (ht : tp < 3) (hpr : PR pa) (hho : HO ho dc) (hdc : dc ≤ 200) : Met l yX0_findValue wsX0_findValue ({ frames := 3, cells := 0, slots := 0, locals := 77 } : Room) (pP D (hW h ad cI cZ ex pa di qu gc dg dp dv dd ds dc td ho ak se pr) (hT cI cZ) [.ref h, .int (nI g), .int (nI a), .int (nI sp), .int (nI tp)]) (pQ (some (.int (oI (vlu ex pa ho dv a (sp + 1) (tp + 1) g))))) 0 0 nF := by
  refine Met.ofW (cc := cX0_findValue) (maxL := 6) (ret := (some .int)) (by decide) rfl ?_
  intro p e s m args below meth c s₁ B hml hv
  obtain ⟨rfl, hP, hK⟩ := hv
  have hx := B.exec
  have hb := B.bytes
  have hr := B.returns
  have hts := atoms_spec (ws := wsX0_findValue) B.pre
  have hown : s.vm.findClass RX0 = some m.cls := findClass_of_methodNamed B.named
  have hlocks := B.notSynchronized
  have hl := lv_entry ([.ref h, .int (nI g), .int (nI a), .int (nI sp), .int (nI tp)]) (n := 6) (Nat.le_of_ble_eq_true rfl)
  rw [lg_entry_eq]
  generalize (lg_sl ([.ref h, .int (nI g), .int (nI a), .int (nI sp), .int (nI tp)]) ++ List.replicate (6 - (lg_sl ([.ref h, .int (nI g), .int (nI a), .int (nI sp), .int (nI tp)])).length) Slot.unset).toArray = ls at hl ⊢
  have hl : lv_has ls 6 [(0, .ref h), (1, .int (nI g)), (2, .int (nI a)), (3, .int (nI sp)), (4, .int (nI tp))] := hl
  refine lv_aload_n hx hb dX0_findValue_0 rfl (lv_at hl 0 rfl) ?_
  refine lv_iload_n hx hb dX0_findValue_1 rfl (lv_at hl 1 rfl) ?_
  refine lv_iload_n hx hb dX0_findValue_2 rfl (lv_at hl 2 rfl) ?_
  refine lv_iload_n hx hb dX0_findValue_3 rfl (lv_at hl 3 rfl) ?_
  refine lv_iload hx hb dX0_findValue_4 (lv_at hl 4 rfl) ?_
  refine q_callI (r := oI (org ex pa ho a (sp + 1) (tp + 1) 3 (some g))) (va_runV (As := [.int (nI g), .int (nI a), .int (nI sp), .int (nI tp)]) (rest := []) ⟨hx, hb, hml, hown, hts⟩ (kX0_findOrigin l D h ad cI cZ ex pa di qu gc dg dp dv dd ds dc td ho ak se pr g a sp tp hg ha hs ht hpr hho hdc) (cwV 4 hts gX0_findValue_X0_findOrigin rfl rfl rfl (by decide +kernel) ⟨Nat.le_of_ble_eq_true rfl, Nat.le_of_ble_eq_true rfl⟩) ⟨pP_blind, va_recv hK hP (ci := 0) (q0 := 0) rfl rfl, pP_pre hP hK⟩ rfl rfl hl.1 rfl (lv_room (Nat.le_of_ble_eq_true rfl)) dX0_findValue_6 ⟨Nat.zero_le _, Nat.zero_le _⟩) ?_
  obtain ⟨o5, eo5⟩ : ∃ z, z = org ex pa ho a (sp + 1) (tp + 1) 3 (some g) := ⟨_, rfl⟩
  refine q_top (y := oI o5) (by rw [eo5]) ?_
  refine lv_istore (lv' := [(5, .int (oI o5)), (0, .ref h), (1, .int (nI g)), (2, .int (nI a)), (3, .int (nI sp)), (4, .int (nI tp))]) hx hb dX0_findValue_9 hl (by decide) rfl (fun ls hl => ?_)
  cases o5 with
  | none =>
    refine lv_aload_n hx hb dX0_findValue_11 rfl (lv_at hl 1 rfl) ?_
    refine lv_iload hx hb dX0_findValue_12 (lv_at hl 0 rfl) ?_
    refine q_callI (r := bI false) (va_runV (As := [.int (oI none)]) (rest := []) ⟨hx, hb, hml, hown, hts⟩ (kX0_isEnteredR l D h ad cI cZ ex pa di qu gc dg dp dv dd ds dc td ho ak se pr (oI none) (by decide)) (cwV 1 hts gX0_findValue_X0_isEntered rfl rfl rfl (by decide +kernel) ⟨Nat.le_of_ble_eq_true rfl, Nat.le_of_ble_eq_true rfl⟩) ⟨pP_blind, va_recv hK hP (ci := 0) (q0 := 0) rfl rfl, pP_pre hP hK⟩ rfl rfl hl.1 rfl (lv_room (Nat.le_of_ble_eq_true rfl)) dX0_findValue_14 ⟨Nat.zero_le _, Nat.zero_le _⟩) ?_
    refine q_ifB_eq (b := false) (tgt := 30) hx hb dX0_findValue_17 (by decide) (fun k17 => ?_) (fun k17 => absurd k17 (by decide))
    refine lv_iconst (v := oI none) hx hb dX0_findValue_30 (by decide) ?_
    exact q_retI hx hb hr hlocks (by rw [vlu_none eo5]) dX0_findValue_31
  | some k =>
    have hk : k < dc := org_in hho hpr ha (show sp + 1 < 4 by omega) (show tp + 1 < 4 by omega) 3 (some g) (fun k h9 => by cases h9; exact hg) k eo5.symm
    refine lv_aload_n hx hb dX0_findValue_11 rfl (lv_at hl 1 rfl) ?_
    refine lv_iload hx hb dX0_findValue_12 (lv_at hl 0 rfl) ?_
    refine q_callI (r := bI (decide (k < dc))) (va_runV (As := [.int (nI k)]) (rest := []) ⟨hx, hb, hml, hown, hts⟩ (kX0_isEnteredN l D h ad cI cZ ex pa di qu gc dg dp dv dd ds dc td ho ak se pr k (by omega) hdc) (cwV 1 hts gX0_findValue_X0_isEntered rfl rfl rfl (by decide +kernel) ⟨Nat.le_of_ble_eq_true rfl, Nat.le_of_ble_eq_true rfl⟩) ⟨pP_blind, va_recv hK hP (ci := 0) (q0 := 0) rfl rfl, pP_pre hP hK⟩ rfl rfl hl.1 rfl (lv_room (Nat.le_of_ble_eq_true rfl)) dX0_findValue_14 ⟨Nat.zero_le _, Nat.zero_le _⟩) ?_
    refine q_ifB_eq (b := decide (k < dc)) (tgt := 30) hx hb dX0_findValue_17 (by decide) (fun k17 => absurd k17 (by rw [decide_eq_true hk]; decide)) (fun k17 => ?_)
    refine lv_aload_n hx hb dX0_findValue_20 rfl (lv_at hl 1 rfl) ?_
    refine va_get (D := D) (ci := 0) (v := .ref (ad 7)) (C := RX0) (T := TX0) (N := 16) hx hb hts (iX0_findValue) hown hK hP 0 rfl rfl 7 (by decide) (hts (.fieldLink RX0 33 "ShopHub" "draftValues" "[I") (by decide +kernel)) (fun _ h9 => h9) rfl dX0_findValue_21 ?_
    refine lv_iload hx hb dX0_findValue_24 (lv_at hl 0 rfl) ?_
    refine q_ald oI dv hx hb hK hP 7 1 rfl rfl (k := k) (by omega) (Nat.le_of_ble_eq_true rfl) dX0_findValue_26 ?_
    refine lv_goto (tgt := 31) hx hb dX0_findValue_27 (by decide) ?_
    exact q_retI hx hb hr hlocks (by rw [vlu_some eo5]) dX0_findValue_31

set_option maxHeartbeats 4000000 in
set_option maxRecDepth 100000 in
theorem kX0_findMissing (l : Launch) (D : va_G) (h : Nat) (ad : Nat → Nat) (cI cZ : ClassId) (ex : Nat → Bool) (pa : Nat → Option Nat) (di : Nat → Nat) (qu : Nat → Nat) (gc : Nat) (dg : Nat → Nat) (dp : Nat → Nat) (dv : Nat → Option Nat) (dd : Nat → Nat) (ds : Nat → Nat) (dc : Nat) (td : Nat) (ho : Nat → Option Nat) (ak : Nat → Bool) (se : Nat → Option Nat) (pr : Nat → Option Nat) (g sp tp : Nat) (hg : g < 16) (hs : sp < 3) (ht : tp < 3) (hpr : PR pa) (hho : HO ho dc) (hdc : dc ≤ 200) (hdv : DV dv dc) : Met l yX0_findMissing wsX0_findMissing ({ frames := 4, cells := 0, slots := 0, locals := 102 } : Room) (pP D (hW h ad cI cZ ex pa di qu gc dg dp dv dd ds dc td ho ak se pr) (hT cI cZ) [.ref h, .int (nI g), .int (nI sp), .int (nI tp)]) (pQ (some (.int (nI (bset (lck ex pa ho dv ak g sp tp) 6))))) 0 0 nF := by
  refine Met.ofW (cc := cX0_findMissing) (maxL := 6) (ret := (some .int)) (by decide) rfl ?_
  intro p e s m args below meth c s₁ B hml hv
  obtain ⟨rfl, hP, hK⟩ := hv
  have hx := B.exec
  have hb := B.bytes
  have hr := B.returns
  have hts := atoms_spec (ws := wsX0_findMissing) B.pre
  have hown : s.vm.findClass RX0 = some m.cls := findClass_of_methodNamed B.named
  have hlocks := B.notSynchronized
  have hl := lv_entry ([.ref h, .int (nI g), .int (nI sp), .int (nI tp)]) (n := 6) (Nat.le_of_ble_eq_true rfl)
  rw [lg_entry_eq]
  generalize (lg_sl ([.ref h, .int (nI g), .int (nI sp), .int (nI tp)]) ++ List.replicate (6 - (lg_sl ([.ref h, .int (nI g), .int (nI sp), .int (nI tp)])).length) Slot.unset).toArray = ls at hl ⊢
  have hl : lv_has ls 6 [(0, .ref h), (1, .int (nI g)), (2, .int (nI sp)), (3, .int (nI tp))] := hl
  refine lv_iconst (v := nI 0) hx hb dX0_findMissing_0 (by decide) ?_
  refine lv_istore (lv' := [(4, .int (nI 0)), (0, .ref h), (1, .int (nI g)), (2, .int (nI sp)), (3, .int (nI tp))]) hx hb dX0_findMissing_1 hl (by decide) rfl (fun ls hl => ?_)
  refine lv_iconst (v := nI 0) hx hb dX0_findMissing_3 (by decide) ?_
  refine lv_istore (lv' := [(5, .int (nI 0)), (4, .int (nI 0)), (0, .ref h), (1, .int (nI g)), (2, .int (nI sp)), (3, .int (nI tp))]) hx hb dX0_findMissing_4 hl (by decide) rfl (fun ls hl => ?_)
  have loop6 : ∀ (n : Nat) (i : Nat) (b : Nat), (i ≤ 6) → (7 ≤ i + n) → (b = bset (lck ex pa ho dv ak g sp tp) i) → ∀ ls : Array Slot, lv_has ls 6 [(0, .ref h), (1, .int (nI g)), (2, .int (nI sp)), (3, .int (nI tp)), (4, .int (nI b)), (5, .int (nI i))] → W p l e ({ frames := 4, cells := 0, slots := 0, locals := 102 } : Room) s m ([.ref h, .int (nI g), .int (nI sp), .int (nI tp)] : List Value).toArray below meth c s.heap [] 0 0 (MQ below (pQ (some (.int (nI (bset (lck ex pa ho dv ak g sp tp) 6))))) ([.ref h, .int (nI g), .int (nI sp), .int (nI tp)] : List Value).toArray s 0 0 nF) (F0 m 6 ls []) := by
    intro n
    induction n with
    | zero => intro i b hle hn hset; omega
    | succ n ih =>
      intro i b hle hn hset ls hl
      refine lv_iload hx hb dX0_findMissing_6 (lv_at hl 5 rfl) ?_
      refine lv_bipush (v := nI 6) hx hb dX0_findMissing_8 (by decide) ?_
      refine q_icmpN_ge (a := i) (b := 6) (tgt := 56) (by omega) (by omega) hx hb dX0_findMissing_10 (by decide) (fun k10 => ?_) (fun k10 => ?_)
      · refine lv_iload hx hb dX0_findMissing_56 (lv_at hl 4 rfl) ?_
        exact q_retI hx hb hr hlocks (by rw [hset, show i = 6 by omega]) dX0_findMissing_58
      · refine lv_aload_n hx hb dX0_findMissing_13 rfl (lv_at hl 0 rfl) ?_
        refine va_get (D := D) (ci := 0) (v := .ref (ad 13)) (C := RX0) (T := TX0) (N := 16) hx hb hts (iX0_findMissing) hown hK hP 0 rfl rfl 13 (by decide) (hts (.fieldLink RX0 51 "ShopHub" "asked" "[Z") (by decide +kernel)) (fun _ h9 => h9) rfl dX0_findMissing_14 ?_
        refine lv_iload_n hx hb dX0_findMissing_17 rfl (lv_at hl 2 rfl) ?_
        refine lv_bipush (v := nI 6) hx hb dX0_findMissing_18 (by decide) ?_
        refine q_mulN (a := sp) (b := 6) hx hb dX0_findMissing_20 ?_
        refine lv_iload hx hb dX0_findMissing_21 (lv_at hl 5 rfl) ?_
        refine q_addN (a := sp * 6) (b := i) hx hb dX0_findMissing_23 ?_
        refine q_zld ak hx hb hK hP 11 0 rfl rfl (k := (sp * 6) + i) (by omega) (Nat.le_of_ble_eq_true rfl) dX0_findMissing_24 ?_
        refine q_ifB_eq (b := ak ((sp * 6) + i)) (tgt := 50) hx hb dX0_findMissing_25 (by decide) (fun k25 => ?_) (fun k25 => ?_)
        · refine lv_iinc (v := nI (i + 1)) (lv' := [(5, .int (nI (i + 1))), (0, .ref h), (1, .int (nI g)), (2, .int (nI sp)), (3, .int (nI tp)), (4, .int (nI b))]) hx hb dX0_findMissing_50 hl (k := 5) rfl (i1_n i) (by decide) rfl (fun ls hl => ?_)
          refine lv_goto (tgt := 6) hx hb dX0_findMissing_53 (by decide) ?_
          exact ih (i + 1) b (by omega) (by omega) (by rw [bset_f (show lck ex pa ho dv ak g sp tp i = false by simp [lck, k25])]; exact hset) _ (lv_sub hl [1, 2, 3, 4, 5, 0] rfl)
        · refine lv_aload_n hx hb dX0_findMissing_28 rfl (lv_at hl 0 rfl) ?_
          refine lv_iload_n hx hb dX0_findMissing_29 rfl (lv_at hl 1 rfl) ?_
          refine lv_iload hx hb dX0_findMissing_30 (lv_at hl 5 rfl) ?_
          refine lv_iload_n hx hb dX0_findMissing_32 rfl (lv_at hl 2 rfl) ?_
          refine lv_iload_n hx hb dX0_findMissing_33 rfl (lv_at hl 3 rfl) ?_
          refine q_callI (r := oI (vlu ex pa ho dv i (sp + 1) (tp + 1) g)) (va_runV (As := [.int (nI g), .int (nI i), .int (nI sp), .int (nI tp)]) (rest := []) ⟨hx, hb, hml, hown, hts⟩ (kX0_findValue l D h ad cI cZ ex pa di qu gc dg dp dv dd ds dc td ho ak se pr g i sp tp hg (by omega) hs ht hpr hho hdc) (cwV 4 hts gX0_findMissing_X0_findValue rfl rfl rfl (by decide +kernel) ⟨Nat.le_of_ble_eq_true rfl, Nat.le_of_ble_eq_true rfl⟩) ⟨pP_blind, va_recv hK hP (ci := 0) (q0 := 0) rfl rfl, pP_pre hP hK⟩ rfl rfl hl.1 rfl (lv_room (Nat.le_of_ble_eq_true rfl)) dX0_findMissing_34 ⟨Nat.zero_le _, Nat.zero_le _⟩) ?_
          refine lv_iconst (v := oI none) hx hb dX0_findMissing_37 (by decide) ?_
          refine q_icmpO_ne (a := vlu ex pa ho dv i (sp + 1) (tp + 1) g) (b := none) (tgt := 50) (fun k h9 => by have := vlu_in hho hpr hdv hg (by omega) (show sp + 1 < 4 by omega) (by omega) k h9; omega) (fun k h9 => by cases h9) hx hb dX0_findMissing_38 (by decide) (fun k38 => ?_) (fun k38 => ?_)
          · refine lv_iinc (v := nI (i + 1)) (lv' := [(5, .int (nI (i + 1))), (0, .ref h), (1, .int (nI g)), (2, .int (nI sp)), (3, .int (nI tp)), (4, .int (nI b))]) hx hb dX0_findMissing_50 hl (k := 5) rfl (i1_n i) (by decide) rfl (fun ls hl => ?_)
            refine lv_goto (tgt := 6) hx hb dX0_findMissing_53 (by decide) ?_
            exact ih (i + 1) b (by omega) (by omega) (by rw [bset_f (show lck ex pa ho dv ak g sp tp i = false by simp [lck, k38])]; exact hset) _ (lv_sub hl [1, 2, 3, 4, 5, 0] rfl)
          · refine lv_iload hx hb dX0_findMissing_41 (lv_at hl 4 rfl) ?_
            refine lv_iconst (v := nI 1) hx hb dX0_findMissing_43 (by decide) ?_
            refine lv_iload hx hb dX0_findMissing_44 (lv_at hl 5 rfl) ?_
            refine lv_ishl hx hb dX0_findMissing_46 ?_
            refine q_top (y := nI (2 ^ i)) (shl1 i (by omega)) ?_
            refine lv_ior hx hb dX0_findMissing_47 ?_
            refine q_top (y := nI (b ||| 2 ^ i)) (nI_or b (2 ^ i)) ?_
            refine lv_istore (lv' := [(4, .int (nI (b ||| 2 ^ i))), (0, .ref h), (1, .int (nI g)), (2, .int (nI sp)), (3, .int (nI tp)), (5, .int (nI i))]) hx hb dX0_findMissing_48 hl (by decide) rfl (fun ls hl => ?_)
            refine lv_iinc (v := nI (i + 1)) (lv' := [(5, .int (nI (i + 1))), (4, .int (nI (b ||| 2 ^ i))), (0, .ref h), (1, .int (nI g)), (2, .int (nI sp)), (3, .int (nI tp))]) hx hb dX0_findMissing_50 hl (k := 5) rfl (i1_n i) (by decide) rfl (fun ls hl => ?_)
            refine lv_goto (tgt := 6) hx hb dX0_findMissing_53 (by decide) ?_
            exact ih (i + 1) (b ||| 2 ^ i) (by omega) (by omega) (by rw [bset_t (show lck ex pa ho dv ak g sp tp i = true by simp [lck, k25, k38]), ← hset]) _ (lv_sub hl [2, 3, 4, 5, 1, 0] rfl)
  exact loop6 7 0 0 (by omega) (Nat.le_refl 7) rfl _ (lv_sub hl [2, 3, 4, 5, 1, 0] rfl)

set_option maxHeartbeats 4000000 in
set_option maxRecDepth 100000 in
theorem kX0_isComplete (l : Launch) (D : va_G) (h : Nat) (ad : Nat → Nat) (cI cZ : ClassId) (ex : Nat → Bool) (pa : Nat → Option Nat) (di : Nat → Nat) (qu : Nat → Nat) (gc : Nat) (dg : Nat → Nat) (dp : Nat → Nat) (dv : Nat → Option Nat) (dd : Nat → Nat) (ds : Nat → Nat) (dc : Nat) (td : Nat) (ho : Nat → Option Nat) (ak : Nat → Bool) (se : Nat → Option Nat) (pr : Nat → Option Nat) (g sp : Nat) (hg : g < 16) (hs : sp < 3) (hpr : PR pa) (hho : HO ho dc) (hdc : dc ≤ 200) (hdv : DV dv dc) : Met l yX0_isComplete wsX0_isComplete ({ frames := 5, cells := 0, slots := 0, locals := 127 } : Room) (pP D (hW h ad cI cZ ex pa di qu gc dg dp dv dd ds dc td ho ak se pr) (hT cI cZ) [.ref h, .int (nI g), .int (nI sp)]) (pQ (some (.int (bI (!exU (fun t => decide (bset (lck ex pa ho dv ak g sp t) 6 ≠ 0)) 3))))) 0 0 nF := by
  refine Met.ofW (cc := cX0_isComplete) (maxL := 4) (ret := (some .boolean)) (by decide) rfl ?_
  intro p e s m args below meth c s₁ B hml hv
  obtain ⟨rfl, hP, hK⟩ := hv
  have hx := B.exec
  have hb := B.bytes
  have hr := B.returns
  have hts := atoms_spec (ws := wsX0_isComplete) B.pre
  have hown : s.vm.findClass RX0 = some m.cls := findClass_of_methodNamed B.named
  have hlocks := B.notSynchronized
  have hl := lv_entry ([.ref h, .int (nI g), .int (nI sp)]) (n := 4) (Nat.le_of_ble_eq_true rfl)
  rw [lg_entry_eq]
  generalize (lg_sl ([.ref h, .int (nI g), .int (nI sp)]) ++ List.replicate (4 - (lg_sl ([.ref h, .int (nI g), .int (nI sp)])).length) Slot.unset).toArray = ls at hl ⊢
  have hl : lv_has ls 4 [(0, .ref h), (1, .int (nI g)), (2, .int (nI sp))] := hl
  refine lv_iconst (v := nI 0) hx hb dX0_isComplete_0 (by decide) ?_
  refine lv_istore_n (lv' := [(3, .int (nI 0)), (0, .ref h), (1, .int (nI g)), (2, .int (nI sp))]) hx hb dX0_isComplete_1 rfl hl (by decide) rfl (fun ls hl => ?_)
  have loop2 : ∀ (n : Nat) (i : Nat), (i ≤ 3) → (4 ≤ i + n) → (∀ t, t < i → bset (lck ex pa ho dv ak g sp t) 6 = 0) → ∀ ls : Array Slot, lv_has ls 4 [(0, .ref h), (1, .int (nI g)), (2, .int (nI sp)), (3, .int (nI i))] → W p l e ({ frames := 5, cells := 0, slots := 0, locals := 127 } : Room) s m ([.ref h, .int (nI g), .int (nI sp)] : List Value).toArray below meth c s.heap [] 0 0 (MQ below (pQ (some (.int (bI (!exU (fun t => decide (bset (lck ex pa ho dv ak g sp t) 6 ≠ 0)) 3))))) ([.ref h, .int (nI g), .int (nI sp)] : List Value).toArray s 0 0 nF) (F0 m 2 ls []) := by
    intro n
    induction n with
    | zero => intro i hle hn hset; omega
    | succ n ih =>
      intro i hle hn hset ls hl
      refine lv_iload_n hx hb dX0_isComplete_2 rfl (lv_at hl 3 rfl) ?_
      refine lv_iconst (v := nI 3) hx hb dX0_isComplete_3 (by decide) ?_
      refine q_icmpN_ge (a := i) (b := 3) (tgt := 25) (by omega) (by omega) hx hb dX0_isComplete_4 (by decide) (fun k4 => ?_) (fun k4 => ?_)
      · refine lv_iconst (v := nI 1) hx hb dX0_isComplete_25 (by decide) ?_
        exact q_retZ hx hb hr hlocks (retT (by rw [exU_no.mpr (fun t h9 => show decide (bset (lck ex pa ho dv ak g sp t) 6 ≠ 0) = false from decide_eq_false (fun h8 => h8 (hset t (by omega))))]; rfl)) dX0_isComplete_26
      · refine lv_aload_n hx hb dX0_isComplete_7 rfl (lv_at hl 0 rfl) ?_
        refine lv_iload_n hx hb dX0_isComplete_8 rfl (lv_at hl 1 rfl) ?_
        refine lv_iload_n hx hb dX0_isComplete_9 rfl (lv_at hl 2 rfl) ?_
        refine lv_iload_n hx hb dX0_isComplete_10 rfl (lv_at hl 3 rfl) ?_
        refine q_callI (r := nI (bset (lck ex pa ho dv ak g sp i) 6)) (va_runV (As := [.int (nI g), .int (nI sp), .int (nI i)]) (rest := []) ⟨hx, hb, hml, hown, hts⟩ (kX0_findMissing l D h ad cI cZ ex pa di qu gc dg dp dv dd ds dc td ho ak se pr g sp i hg hs (by omega) hpr hho hdc hdv) (cwV 3 hts gX0_isComplete_X0_findMissing rfl rfl rfl (by decide +kernel) ⟨Nat.le_of_ble_eq_true rfl, Nat.le_of_ble_eq_true rfl⟩) ⟨pP_blind, va_recv hK hP (ci := 0) (q0 := 0) rfl rfl, pP_pre hP hK⟩ rfl rfl hl.1 rfl (lv_room (Nat.le_of_ble_eq_true rfl)) dX0_isComplete_11 ⟨Nat.zero_le _, Nat.zero_le _⟩) ?_
        refine q_ifN_eq (a := bset (lck ex pa ho dv ak g sp i) 6) (tgt := 19) (Nat.lt_trans (bset_lt _ 6) (by decide)) hx hb dX0_isComplete_14 (by decide) (fun k14 => ?_) (fun k14 => ?_)
        · refine lv_iinc (v := nI (i + 1)) (lv' := [(3, .int (nI (i + 1))), (0, .ref h), (1, .int (nI g)), (2, .int (nI sp))]) hx hb dX0_isComplete_19 hl (k := 3) rfl (i1_n i) (by decide) rfl (fun ls hl => ?_)
          refine lv_goto (tgt := 2) hx hb dX0_isComplete_22 (by decide) ?_
          exact ih (i + 1) (by omega) (by omega) (fun t h9 => (Nat.lt_or_ge t i).elim (hset t) (fun h8 => by rw [show t = i by omega]; exact k14)) _ (lv_sub hl [1, 2, 3, 0] rfl)
        · refine lv_iconst (v := nI 0) hx hb dX0_isComplete_17 (by decide) ?_
          exact q_retZ hx hb hr hlocks (retF (by rw [exU_yes (show i < 3 by omega) (show decide (bset (lck ex pa ho dv ak g sp i) 6 ≠ 0) = true from decide_eq_true k14)]; rfl)) dX0_isComplete_18
  exact loop2 4 0 (by omega) (Nat.le_refl 4) (fun t h9 => absurd h9 (Nat.not_lt_zero t)) _ (lv_sub hl [1, 2, 3, 0] rfl)

set_option maxHeartbeats 4000000 in
set_option maxRecDepth 100000 in
theorem kX0_looksChanged (l : Launch) (D : va_G) (h : Nat) (ad : Nat → Nat) (cI cZ : ClassId) (ex : Nat → Bool) (pa : Nat → Option Nat) (di : Nat → Nat) (qu : Nat → Nat) (gc : Nat) (dg : Nat → Nat) (dp : Nat → Nat) (dv : Nat → Option Nat) (dd : Nat → Nat) (ds : Nat → Nat) (dc : Nat) (td : Nat) (ho : Nat → Option Nat) (ak : Nat → Bool) (se : Nat → Option Nat) (pr : Nat → Option Nat) (g sp : Nat) (hg : g < 16) (hs : sp < 3) (hpr : PR pa) (hho : HO ho dc) (hdc : dc ≤ 200) (hdv : DV dv dc) (hse : ∀ k, k < 864 → ∀ v, se k = some v → v ≤ 100000) : Met l yX0_looksChanged wsX0_looksChanged ({ frames := 4, cells := 0, slots := 0, locals := 102 } : Room) (pP D (hW h ad cI cZ ex pa di qu gc dg dp dv dd ds dc td ho ak se pr) (hT cI cZ) [.ref h, .int (nI g), .int (nI sp)]) (pQ (some (.int (bI (lkd ex pa ho dv se sp g))))) 0 0 nF := by
  refine Met.ofW (cc := cX0_looksChanged) (maxL := 5) (ret := (some .boolean)) (by decide) rfl ?_
  intro p e s m args below meth c s₁ B hml hv
  obtain ⟨rfl, hP, hK⟩ := hv
  have hx := B.exec
  have hb := B.bytes
  have hr := B.returns
  have hts := atoms_spec (ws := wsX0_looksChanged) B.pre
  have hown : s.vm.findClass RX0 = some m.cls := findClass_of_methodNamed B.named
  have hlocks := B.notSynchronized
  have hl := lv_entry ([.ref h, .int (nI g), .int (nI sp)]) (n := 5) (Nat.le_of_ble_eq_true rfl)
  rw [lg_entry_eq]
  generalize (lg_sl ([.ref h, .int (nI g), .int (nI sp)]) ++ List.replicate (5 - (lg_sl ([.ref h, .int (nI g), .int (nI sp)])).length) Slot.unset).toArray = ls at hl ⊢
  have hl : lv_has ls 5 [(0, .ref h), (1, .int (nI g)), (2, .int (nI sp))] := hl
  refine lv_iload_n hx hb dX0_looksChanged_0 rfl (lv_at hl 2 rfl) ?_
  refine lv_sipush (v := nI 288) hx hb dX0_looksChanged_1 (by decide) ?_
  refine q_mulN (a := sp) (b := 288) hx hb dX0_looksChanged_4 ?_
  refine lv_iload_n hx hb dX0_looksChanged_5 rfl (lv_at hl 1 rfl) ?_
  refine lv_bipush (v := nI 18) hx hb dX0_looksChanged_6 (by decide) ?_
  refine q_mulN (a := g) (b := 18) hx hb dX0_looksChanged_8 ?_
  refine q_addN (a := sp * 288) (b := g * 18) hx hb dX0_looksChanged_9 ?_
  refine lv_istore_n (lv' := [(3, .int (nI ((sp * 288) + (g * 18)))), (0, .ref h), (1, .int (nI g)), (2, .int (nI sp))]) hx hb dX0_looksChanged_10 rfl hl (by decide) rfl (fun ls hl => ?_)
  refine lv_iconst (v := nI 0) hx hb dX0_looksChanged_11 (by decide) ?_
  refine lv_istore (lv' := [(4, .int (nI 0)), (3, .int (nI ((sp * 288) + (g * 18)))), (0, .ref h), (1, .int (nI g)), (2, .int (nI sp))]) hx hb dX0_looksChanged_12 hl (by decide) rfl (fun ls hl => ?_)
  have loop14 : ∀ (n : Nat) (i : Nat), (i ≤ 18) → (19 ≤ i + n) → (∀ t, t < i → lkj ex pa ho dv se sp g t = false) → ∀ ls : Array Slot, lv_has ls 5 [(0, .ref h), (1, .int (nI g)), (2, .int (nI sp)), (3, .int (nI ((sp * 288) + (g * 18)))), (4, .int (nI i))] → W p l e ({ frames := 4, cells := 0, slots := 0, locals := 102 } : Room) s m ([.ref h, .int (nI g), .int (nI sp)] : List Value).toArray below meth c s.heap [] 0 0 (MQ below (pQ (some (.int (bI (lkd ex pa ho dv se sp g))))) ([.ref h, .int (nI g), .int (nI sp)] : List Value).toArray s 0 0 nF) (F0 m 14 ls []) := by
    intro n
    induction n with
    | zero => intro i hle hn hset; omega
    | succ n ih =>
      intro i hle hn hset ls hl
      refine lv_iload hx hb dX0_looksChanged_14 (lv_at hl 4 rfl) ?_
      refine lv_bipush (v := nI 18) hx hb dX0_looksChanged_16 (by decide) ?_
      refine q_icmpN_ge (a := i) (b := 18) (tgt := 55) (by omega) (by omega) hx hb dX0_looksChanged_18 (by decide) (fun k18 => ?_) (fun k18 => ?_)
      · refine lv_iconst (v := nI 0) hx hb dX0_looksChanged_55 (by decide) ?_
        exact q_retZ hx hb hr hlocks (retF (show lkd ex pa ho dv se sp g = false from exU_no.mpr (fun t h9 => hset t (by omega)))) dX0_looksChanged_56
      · refine lv_aload_n hx hb dX0_looksChanged_21 rfl (lv_at hl 0 rfl) ?_
        refine va_get (D := D) (ci := 0) (v := .ref (ad 14)) (C := RX0) (T := TX0) (N := 16) hx hb hts (iX0_looksChanged) hown hK hP 0 rfl rfl 14 (by decide) (hts (.fieldLink RX0 54 "ShopHub" "seen" "[I") (by decide +kernel)) (fun _ h9 => h9) rfl dX0_looksChanged_22 ?_
        refine lv_iload_n hx hb dX0_looksChanged_25 rfl (lv_at hl 3 rfl) ?_
        refine lv_iload hx hb dX0_looksChanged_26 (lv_at hl 4 rfl) ?_
        refine q_addN (a := (sp * 288) + (g * 18)) (b := i) hx hb dX0_looksChanged_28 ?_
        refine q_ald oI se hx hb hK hP 12 1 rfl rfl (k := ((sp * 288) + (g * 18)) + i) (by omega) (Nat.le_of_ble_eq_true rfl) dX0_looksChanged_29 ?_
        refine lv_aload_n hx hb dX0_looksChanged_30 rfl (lv_at hl 0 rfl) ?_
        refine lv_iload_n hx hb dX0_looksChanged_31 rfl (lv_at hl 1 rfl) ?_
        refine lv_iload hx hb dX0_looksChanged_32 (lv_at hl 4 rfl) ?_
        refine lv_iconst (v := nI 3) hx hb dX0_looksChanged_34 (by decide) ?_
        refine q_divN (a := i) (b := 3) ((by omega)) (by decide) (by decide) hx hb dX0_looksChanged_35 ?_
        refine lv_iload_n hx hb dX0_looksChanged_36 rfl (lv_at hl 2 rfl) ?_
        refine lv_iload hx hb dX0_looksChanged_37 (lv_at hl 4 rfl) ?_
        refine lv_iconst (v := nI 3) hx hb dX0_looksChanged_39 (by decide) ?_
        refine q_remN (a := i) (b := 3) (by omega) (by decide) (by decide) hx hb dX0_looksChanged_40 ?_
        refine q_callI (r := oI (vlu ex pa ho dv (i / 3) (sp + 1) ((i % 3) + 1) g)) (va_runV (As := [.int (nI g), .int (nI (i / 3)), .int (nI sp), .int (nI (i % 3))]) (rest := [.int (oI (se (((sp * 288) + (g * 18)) + i)))]) ⟨hx, hb, hml, hown, hts⟩ (kX0_findValue l D h ad cI cZ ex pa di qu gc dg dp dv dd ds dc td ho ak se pr g (i / 3) sp (i % 3) hg (by omega) hs (by omega) hpr hho hdc) (cwV 4 hts gX0_looksChanged_X0_findValue rfl rfl rfl (by decide +kernel) ⟨Nat.le_of_ble_eq_true rfl, Nat.le_of_ble_eq_true rfl⟩) ⟨pP_blind, va_recv hK hP (ci := 0) (q0 := 0) rfl rfl, pP_pre hP hK⟩ rfl rfl hl.1 rfl (lv_room (Nat.le_of_ble_eq_true rfl)) dX0_looksChanged_41 ⟨Nat.zero_le _, Nat.zero_le _⟩) ?_
        refine q_icmpO_eq (a := se (((sp * 288) + (g * 18)) + i)) (b := vlu ex pa ho dv (i / 3) (sp + 1) ((i % 3) + 1) g) (tgt := 49) (fun k h9 => by have := hse _ (by omega) k h9; omega) (fun k h9 => by have := vlu_in hho hpr hdv hg (show i / 3 < 6 by omega) (show sp + 1 < 4 by omega) (show i % 3 + 1 < 4 by omega) k h9; omega) hx hb dX0_looksChanged_44 (by decide) (fun k44 => ?_) (fun k44 => ?_)
        · refine lv_iinc (v := nI (i + 1)) (lv' := [(4, .int (nI (i + 1))), (0, .ref h), (1, .int (nI g)), (2, .int (nI sp)), (3, .int (nI ((sp * 288) + (g * 18))))]) hx hb dX0_looksChanged_49 hl (k := 4) rfl (i1_n i) (by decide) rfl (fun ls hl => ?_)
          refine lv_goto (tgt := 14) hx hb dX0_looksChanged_52 (by decide) ?_
          exact ih (i + 1) (by omega) (by omega) (fun t h9 => (Nat.lt_or_ge t i).elim (hset t) (fun h8 => by rw [show t = i by omega]; exact decide_eq_false (fun h7 => h7 k44))) _ (lv_sub hl [1, 2, 3, 4, 0] rfl)
        · refine lv_iconst (v := nI 1) hx hb dX0_looksChanged_47 (by decide) ?_
          exact q_retZ hx hb hr hlocks (retT (show lkd ex pa ho dv se sp g = true from exU_yes (show i < 18 by omega) (decide_eq_true k44))) dX0_looksChanged_48
  exact loop14 19 0 (by omega) (Nat.le_refl 19) (fun t h9 => absurd h9 (Nat.not_lt_zero t)) _ (lv_sub hl [2, 3, 4, 1, 0] rfl)

set_option maxHeartbeats 4000000 in
set_option maxRecDepth 100000 in
theorem kX0_findChanged (l : Launch) (D : va_G) (h : Nat) (ad : Nat → Nat) (cI cZ : ClassId) (ex : Nat → Bool) (pa : Nat → Option Nat) (di : Nat → Nat) (qu : Nat → Nat) (gc : Nat) (dg : Nat → Nat) (dp : Nat → Nat) (dv : Nat → Option Nat) (dd : Nat → Nat) (ds : Nat → Nat) (dc : Nat) (td : Nat) (ho : Nat → Option Nat) (ak : Nat → Bool) (se : Nat → Option Nat) (pr : Nat → Option Nat) (sp : Nat) (hs : sp < 3) (hpr : PR pa) (hho : HO ho dc) (hdc : dc ≤ 200) (hdv : DV dv dc) (hse : ∀ k, k < 864 → ∀ v, se k = some v → v ≤ 100000) : Met l yX0_findChanged wsX0_findChanged ({ frames := 5, cells := 0, slots := 0, locals := 126 } : Room) (pP D (hW h ad cI cZ ex pa di qu gc dg dp dv dd ds dc td ho ak se pr) (hT cI cZ) [.ref h, .int (nI sp)]) (pQ (some (.int (nI (bset (lkd ex pa ho dv se sp) 16))))) 0 0 nF := by
  refine Met.ofW (cc := cX0_findChanged) (maxL := 4) (ret := (some .int)) (by decide) rfl ?_
  intro p e s m args below meth c s₁ B hml hv
  obtain ⟨rfl, hP, hK⟩ := hv
  have hx := B.exec
  have hb := B.bytes
  have hr := B.returns
  have hts := atoms_spec (ws := wsX0_findChanged) B.pre
  have hown : s.vm.findClass RX0 = some m.cls := findClass_of_methodNamed B.named
  have hlocks := B.notSynchronized
  have hl := lv_entry ([.ref h, .int (nI sp)]) (n := 4) (Nat.le_of_ble_eq_true rfl)
  rw [lg_entry_eq]
  generalize (lg_sl ([.ref h, .int (nI sp)]) ++ List.replicate (4 - (lg_sl ([.ref h, .int (nI sp)])).length) Slot.unset).toArray = ls at hl ⊢
  have hl : lv_has ls 4 [(0, .ref h), (1, .int (nI sp))] := hl
  refine lv_iconst (v := nI 0) hx hb dX0_findChanged_0 (by decide) ?_
  refine lv_istore_n (lv' := [(2, .int (nI 0)), (0, .ref h), (1, .int (nI sp))]) hx hb dX0_findChanged_1 rfl hl (by decide) rfl (fun ls hl => ?_)
  refine lv_iconst (v := nI 0) hx hb dX0_findChanged_2 (by decide) ?_
  refine lv_istore_n (lv' := [(3, .int (nI 0)), (2, .int (nI 0)), (0, .ref h), (1, .int (nI sp))]) hx hb dX0_findChanged_3 rfl hl (by decide) rfl (fun ls hl => ?_)
  have loop4 : ∀ (n : Nat) (i : Nat) (b : Nat), (i ≤ 16) → (17 ≤ i + n) → (b = bset (lkd ex pa ho dv se sp) i) → ∀ ls : Array Slot, lv_has ls 4 [(0, .ref h), (1, .int (nI sp)), (2, .int (nI b)), (3, .int (nI i))] → W p l e ({ frames := 5, cells := 0, slots := 0, locals := 126 } : Room) s m ([.ref h, .int (nI sp)] : List Value).toArray below meth c s.heap [] 0 0 (MQ below (pQ (some (.int (nI (bset (lkd ex pa ho dv se sp) 16))))) ([.ref h, .int (nI sp)] : List Value).toArray s 0 0 nF) (F0 m 4 ls []) := by
    intro n
    induction n with
    | zero => intro i b hle hn hset; omega
    | succ n ih =>
      intro i b hle hn hset ls hl
      refine lv_iload_n hx hb dX0_findChanged_4 rfl (lv_at hl 3 rfl) ?_
      refine lv_bipush (v := nI 16) hx hb dX0_findChanged_5 (by decide) ?_
      refine q_icmpN_ge (a := i) (b := 16) (tgt := 31) (by omega) (by omega) hx hb dX0_findChanged_7 (by decide) (fun k7 => ?_) (fun k7 => ?_)
      · refine lv_iload_n hx hb dX0_findChanged_31 rfl (lv_at hl 2 rfl) ?_
        exact q_retI hx hb hr hlocks (by rw [hset, show i = 16 by omega]) dX0_findChanged_32
      · refine lv_aload_n hx hb dX0_findChanged_10 rfl (lv_at hl 0 rfl) ?_
        refine lv_iload_n hx hb dX0_findChanged_11 rfl (lv_at hl 3 rfl) ?_
        refine lv_iload_n hx hb dX0_findChanged_12 rfl (lv_at hl 1 rfl) ?_
        refine q_callI (r := bI (lkd ex pa ho dv se sp i)) (va_runV (As := [.int (nI i), .int (nI sp)]) (rest := []) ⟨hx, hb, hml, hown, hts⟩ (kX0_looksChanged l D h ad cI cZ ex pa di qu gc dg dp dv dd ds dc td ho ak se pr i sp (by omega) hs hpr hho hdc hdv hse) (cwV 2 hts gX0_findChanged_X0_looksChanged rfl rfl rfl (by decide +kernel) ⟨Nat.le_of_ble_eq_true rfl, Nat.le_of_ble_eq_true rfl⟩) ⟨pP_blind, va_recv hK hP (ci := 0) (q0 := 0) rfl rfl, pP_pre hP hK⟩ rfl rfl hl.1 rfl (lv_room (Nat.le_of_ble_eq_true rfl)) dX0_findChanged_13 ⟨Nat.zero_le _, Nat.zero_le _⟩) ?_
        refine q_ifB_eq (b := lkd ex pa ho dv se sp i) (tgt := 25) hx hb dX0_findChanged_16 (by decide) (fun k16 => ?_) (fun k16 => ?_)
        · refine lv_iinc (v := nI (i + 1)) (lv' := [(3, .int (nI (i + 1))), (0, .ref h), (1, .int (nI sp)), (2, .int (nI b))]) hx hb dX0_findChanged_25 hl (k := 3) rfl (i1_n i) (by decide) rfl (fun ls hl => ?_)
          refine lv_goto (tgt := 4) hx hb dX0_findChanged_28 (by decide) ?_
          exact ih (i + 1) b (by omega) (by omega) (by rw [bset_f k16]; exact hset) _ (lv_sub hl [1, 2, 3, 0] rfl)
        · refine lv_iload_n hx hb dX0_findChanged_19 rfl (lv_at hl 2 rfl) ?_
          refine lv_iconst (v := nI 1) hx hb dX0_findChanged_20 (by decide) ?_
          refine lv_iload_n hx hb dX0_findChanged_21 rfl (lv_at hl 3 rfl) ?_
          refine lv_ishl hx hb dX0_findChanged_22 ?_
          refine q_top (y := nI (2 ^ i)) (shl1 i (by omega)) ?_
          refine lv_ior hx hb dX0_findChanged_23 ?_
          refine q_top (y := nI (b ||| 2 ^ i)) (nI_or b (2 ^ i)) ?_
          refine lv_istore_n (lv' := [(2, .int (nI (b ||| 2 ^ i))), (0, .ref h), (1, .int (nI sp)), (3, .int (nI i))]) hx hb dX0_findChanged_24 rfl hl (by decide) rfl (fun ls hl => ?_)
          refine lv_iinc (v := nI (i + 1)) (lv' := [(3, .int (nI (i + 1))), (2, .int (nI (b ||| 2 ^ i))), (0, .ref h), (1, .int (nI sp))]) hx hb dX0_findChanged_25 hl (k := 3) rfl (i1_n i) (by decide) rfl (fun ls hl => ?_)
          refine lv_goto (tgt := 4) hx hb dX0_findChanged_28 (by decide) ?_
          exact ih (i + 1) (b ||| 2 ^ i) (by omega) (by omega) (by rw [bset_t k16, ← hset]) _ (lv_sub hl [2, 3, 1, 0] rfl)
  exact loop4 17 0 0 (by omega) (Nat.le_refl 17) rfl _ (lv_sub hl [2, 3, 1, 0] rfl)

