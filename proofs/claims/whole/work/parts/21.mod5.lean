set_option maxHeartbeats 4000000 in
set_option maxRecDepth 100000 in
theorem kJ6_bitCount_0f7a4 (l : Launch) (b : Nat) (hb6 : b < 65536) : Met l yJ6_bitCount_0f7a4 wsJ6_bitCount_0f7a4 ({ frames := 0, cells := 0, slots := 0, locals := 0 } : Room) (sP [.int (nI b)]) (pQ (some (.int (nI (pcn b 16))))) 0 0 nF := by
  refine Met.ofW (cc := cJ6_bitCount_0f7a4) (maxL := 1) (ret := (some .int)) (by decide) rfl ?_
  intro p e s m args below meth c s₁ B hml hv
  obtain rfl := hv
  have hx := B.exec
  have hb := B.bytes
  have hr := B.returns
  have hts := atoms_spec (ws := wsJ6_bitCount_0f7a4) B.pre
  have hown : s.vm.findClass RJ6 = some m.cls := findClass_of_methodNamed B.named
  have hlocks := B.notSynchronized
  have hl := lv_entry ([.int (nI b)]) (n := 1) (Nat.le_of_ble_eq_true rfl)
  rw [lg_entry_eq]
  generalize (lg_sl ([.int (nI b)]) ++ List.replicate (1 - (lg_sl ([.int (nI b)])).length) Slot.unset).toArray = ls at hl ⊢
  have hl : lv_has ls 1 [(0, .int (nI b))] := hl
  have hC1 := bc1_le b
  have hC2 := bc2_le (bc1 b)
  have hC3 := bc3_le (bc2 (bc1 b))
  have hC4 := bc4_le (bc3 (bc2 (bc1 b)))
  refine lv_iload_n hx hb dJ6_bitCount_0f7a4_0 rfl (lv_at hl 0 rfl) ?_
  refine lv_iload_n hx hb dJ6_bitCount_0f7a4_1 rfl (lv_at hl 0 rfl) ?_
  refine lv_iconst (v := nI 1) hx hb dJ6_bitCount_0f7a4_2 (by decide) ?_
  refine lv_iushr (v := nI (b / 2 ^ 1)) hx hb dJ6_bitCount_0f7a4_3 (pk_ushrN (by omega) (nI 1) 1 (by decide)) ?_
  refine lv_ldcw (v := 1431655765) hx hb hown (hts (.constant RJ6 265 (1431655765)) (by decide +kernel)) dJ6_bitCount_0f7a4_4 ?_
  refine q_top (y := nI 1431655765) (by decide : (1431655765 : Int32) = nI 1431655765) ?_
  refine lv_iand hx hb dJ6_bitCount_0f7a4_7 ?_
  refine q_top (y := nI ((b / 2 ^ 1) &&& 1431655765)) (nI_and _ _) ?_
  refine q_subN (a := b) (b := (b / 2 ^ 1) &&& 1431655765) (bc1_h b) hx hb dJ6_bitCount_0f7a4_8 ?_
  refine q_top (y := nI (bc1 b)) (rfl) ?_
  refine lv_istore_n (lv' := [(0, .int (nI (bc1 b)))]) hx hb dJ6_bitCount_0f7a4_9 rfl hl (by decide) rfl (fun ls hl => ?_)
  refine lv_iload_n hx hb dJ6_bitCount_0f7a4_10 rfl (lv_at hl 0 rfl) ?_
  refine lv_ldcw (v := 858993459) hx hb hown (hts (.constant RJ6 266 (858993459)) (by decide +kernel)) dJ6_bitCount_0f7a4_11 ?_
  refine q_top (y := nI 858993459) (by decide : (858993459 : Int32) = nI 858993459) ?_
  refine lv_iand hx hb dJ6_bitCount_0f7a4_14 ?_
  refine q_top (y := nI ((bc1 b) &&& 858993459)) (nI_and _ _) ?_
  refine lv_iload_n hx hb dJ6_bitCount_0f7a4_15 rfl (lv_at hl 0 rfl) ?_
  refine lv_iconst (v := nI 2) hx hb dJ6_bitCount_0f7a4_16 (by decide) ?_
  refine lv_iushr (v := nI (bc1 b / 2 ^ 2)) hx hb dJ6_bitCount_0f7a4_17 (pk_ushrN (by omega) (nI 2) 2 (by decide)) ?_
  refine lv_ldcw (v := 858993459) hx hb hown (hts (.constant RJ6 266 (858993459)) (by decide +kernel)) dJ6_bitCount_0f7a4_18 ?_
  refine q_top (y := nI 858993459) (by decide : (858993459 : Int32) = nI 858993459) ?_
  refine lv_iand hx hb dJ6_bitCount_0f7a4_21 ?_
  refine q_top (y := nI ((bc1 b / 2 ^ 2) &&& 858993459)) (nI_and _ _) ?_
  refine q_addN (a := (bc1 b) &&& 858993459) (b := (bc1 b / 2 ^ 2) &&& 858993459) hx hb dJ6_bitCount_0f7a4_22 ?_
  refine q_top (y := nI (bc2 (bc1 b))) (rfl) ?_
  refine lv_istore_n (lv' := [(0, .int (nI (bc2 (bc1 b))))]) hx hb dJ6_bitCount_0f7a4_23 rfl hl (by decide) rfl (fun ls hl => ?_)
  refine lv_iload_n hx hb dJ6_bitCount_0f7a4_24 rfl (lv_at hl 0 rfl) ?_
  refine lv_iload_n hx hb dJ6_bitCount_0f7a4_25 rfl (lv_at hl 0 rfl) ?_
  refine lv_iconst (v := nI 4) hx hb dJ6_bitCount_0f7a4_26 (by decide) ?_
  refine lv_iushr (v := nI (bc2 (bc1 b) / 2 ^ 4)) hx hb dJ6_bitCount_0f7a4_27 (pk_ushrN (by omega) (nI 4) 4 (by decide)) ?_
  refine q_addN (a := bc2 (bc1 b)) (b := bc2 (bc1 b) / 2 ^ 4) hx hb dJ6_bitCount_0f7a4_28 ?_
  refine lv_ldcw (v := 252645135) hx hb hown (hts (.constant RJ6 267 (252645135)) (by decide +kernel)) dJ6_bitCount_0f7a4_29 ?_
  refine q_top (y := nI 252645135) (by decide : (252645135 : Int32) = nI 252645135) ?_
  refine lv_iand hx hb dJ6_bitCount_0f7a4_32 ?_
  refine q_top (y := nI (bc3 (bc2 (bc1 b)))) (nI_and _ _) ?_
  refine lv_istore_n (lv' := [(0, .int (nI (bc3 (bc2 (bc1 b)))))]) hx hb dJ6_bitCount_0f7a4_33 rfl hl (by decide) rfl (fun ls hl => ?_)
  refine lv_iload_n hx hb dJ6_bitCount_0f7a4_34 rfl (lv_at hl 0 rfl) ?_
  refine lv_iload_n hx hb dJ6_bitCount_0f7a4_35 rfl (lv_at hl 0 rfl) ?_
  refine lv_bipush (v := nI 8) hx hb dJ6_bitCount_0f7a4_36 (by decide) ?_
  refine lv_iushr (v := nI (bc3 (bc2 (bc1 b)) / 2 ^ 8)) hx hb dJ6_bitCount_0f7a4_38 (pk_ushrN (by omega) (nI 8) 8 (by decide)) ?_
  refine q_addN (a := bc3 (bc2 (bc1 b))) (b := bc3 (bc2 (bc1 b)) / 2 ^ 8) hx hb dJ6_bitCount_0f7a4_39 ?_
  refine q_top (y := nI (bc4 (bc3 (bc2 (bc1 b))))) (rfl) ?_
  refine lv_istore_n (lv' := [(0, .int (nI (bc4 (bc3 (bc2 (bc1 b))))))]) hx hb dJ6_bitCount_0f7a4_40 rfl hl (by decide) rfl (fun ls hl => ?_)
  refine lv_iload_n hx hb dJ6_bitCount_0f7a4_41 rfl (lv_at hl 0 rfl) ?_
  refine lv_iload_n hx hb dJ6_bitCount_0f7a4_42 rfl (lv_at hl 0 rfl) ?_
  refine lv_bipush (v := nI 16) hx hb dJ6_bitCount_0f7a4_43 (by decide) ?_
  refine lv_iushr (v := nI (bc4 (bc3 (bc2 (bc1 b))) / 2 ^ 16)) hx hb dJ6_bitCount_0f7a4_45 (pk_ushrN (by omega) (nI 16) 16 (by decide)) ?_
  refine q_addN (a := bc4 (bc3 (bc2 (bc1 b)))) (b := bc4 (bc3 (bc2 (bc1 b))) / 2 ^ 16) hx hb dJ6_bitCount_0f7a4_46 ?_
  refine q_top (y := nI (bc5 (bc4 (bc3 (bc2 (bc1 b)))))) (rfl) ?_
  refine lv_istore_n (lv' := [(0, .int (nI (bc5 (bc4 (bc3 (bc2 (bc1 b)))))))]) hx hb dJ6_bitCount_0f7a4_47 rfl hl (by decide) rfl (fun ls hl => ?_)
  refine lv_iload_n hx hb dJ6_bitCount_0f7a4_48 rfl (lv_at hl 0 rfl) ?_
  refine lv_bipush (v := nI 63) hx hb dJ6_bitCount_0f7a4_49 (by decide) ?_
  refine lv_iand hx hb dJ6_bitCount_0f7a4_51 ?_
  refine q_top (y := nI (bc6 b)) (nI_and _ _) ?_
  exact q_retI hx hb hr hlocks (by rw [bc_ok hb6]) dJ6_bitCount_0f7a4_52

set_option maxHeartbeats 4000000 in
set_option maxRecDepth 100000 in
theorem kX0_feed (l : Launch) (D : va_G) (h : Nat) (ad : Nat → Nat) (cI cZ : ClassId) (ex : Nat → Bool) (pa : Nat → Option Nat) (di : Nat → Nat) (qu : Nat → Nat) (gc : Nat) (dg : Nat → Nat) (dp : Nat → Nat) (dv : Nat → Option Nat) (dd : Nat → Nat) (ds : Nat → Nat) (dc : Nat) (td : Nat) (ho : Nat → Option Nat) (ak : Nat → Bool) (se : Nat → Option Nat) (pr : Nat → Option Nat) (sz : Nat) (sp : Nat) (hs : sp < 3) (hpr : PR pa) (hho : HO ho dc) (hdc : dc ≤ 200) (hdv : DV dv dc) (hse : ∀ k, k < 864 → ∀ v, se k = some v → v ≤ 100000) : Met l yX0_feed wsX0_feed ({ frames := 6, cells := 0, slots := 0, locals := 149 } : Room) (wP D (hW h ad cI cZ ex pa di qu gc dg dp dv dd ds dc td ho ak se pr) (hT cI cZ) [.ref h, .int (nI sp)] sz) (wQ D (hW h ad cI cZ ex pa di qu gc dg dp dv dd ds dc td ho ak se pr) (hW h ad cI cZ ex pa di qu gc dg dp dv dd ds dc td ho ak (fed ex pa ho dv sp se 16) pr) (some (.int (nI (pcn (bset (lkd ex pa ho dv se sp) 16) 16))))) 0 0 (va_A (hW h ad cI cZ ex pa di qu gc dg dp dv dd ds dc td ho ak se pr) sz) := by
  refine Met.ofW (cc := cX0_feed) (maxL := 4) (ret := (some .int)) (by decide) rfl ?_
  intro p e s m args below meth c s₁ B hml hv
  obtain ⟨rfl, hsz, hP, hK, hD0⟩ := hv
  have hx := B.exec
  have hb := B.bytes
  have hr := B.returns
  have hts := atoms_spec (ws := wsX0_feed) B.pre
  have hown : s.vm.findClass RX0 = some m.cls := findClass_of_methodNamed B.named
  have hlocks := B.notSynchronized
  subst hsz
  have hD := hD0.self (sz := s.heap.size)
  generalize hAe : va_A (hW h ad cI cZ ex pa di qu gc dg dp dv dd ds dc td ho ak se pr) s.heap.size = A at hD ⊢
  have hA : ∀ q : Nat, s.heap.size ≤ q → A q := fun q h => by rw [← hAe]; exact Or.inr h
  have hS : va_S A s.heap s.heap [] := va_S.rf
  have hl := lv_entry ([.ref h, .int (nI sp)]) (n := 4) (Nat.le_of_ble_eq_true rfl)
  rw [lg_entry_eq]
  generalize (lg_sl ([.ref h, .int (nI sp)]) ++ List.replicate (4 - (lg_sl ([.ref h, .int (nI sp)])).length) Slot.unset).toArray = ls at hl ⊢
  have hl : lv_has ls 4 [(0, .ref h), (1, .int (nI sp))] := hl
  refine lv_iload_n hx hb dX0_feed_0 rfl (lv_at hl 1 rfl) ?_
  refine q_callV (va_runS (As := [.int (nI sp)]) (rest := []) ⟨hx, hb, hml, hown, hts⟩ (kX0_checkShop l sp hs) (cwS 1 hts gX0_feed_X0_checkShop rfl rfl rfl (by decide +kernel) ⟨Nat.le_of_ble_eq_true rfl, Nat.le_of_ble_eq_true rfl⟩) ⟨sP_blind, sP_pre⟩ rfl rfl hl.1 rfl (lv_room (Nat.le_of_ble_eq_true rfl)) dX0_feed_1 ⟨Nat.zero_le _, Nat.zero_le _⟩) ?_
  refine lv_aload_n hx hb dX0_feed_4 rfl (lv_at hl 0 rfl) ?_
  refine lv_iload_n hx hb dX0_feed_5 rfl (lv_at hl 1 rfl) ?_
  refine q_callI (r := nI (bset (lkd ex pa ho dv se sp) 16)) (va_runV (As := [.int (nI sp)]) (rest := []) ⟨hx, hb, hml, hown, hts⟩ (kX0_findChanged l D h ad cI cZ ex pa di qu gc dg dp dv dd ds dc td ho ak se pr sp hs hpr hho hdc hdv hse) (cwV 1 hts gX0_feed_X0_findChanged rfl rfl rfl (by decide +kernel) ⟨Nat.le_of_ble_eq_true rfl, Nat.le_of_ble_eq_true rfl⟩) ⟨pP_blind, va_recv hK hP (ci := 0) (q0 := 0) rfl rfl, pP_pre hP hK⟩ rfl rfl hl.1 rfl (lv_room (Nat.le_of_ble_eq_true rfl)) dX0_feed_6 ⟨Nat.zero_le _, Nat.zero_le _⟩) ?_
  refine lv_istore_n (lv' := [(2, .int (nI (bset (lkd ex pa ho dv se sp) 16))), (0, .ref h), (1, .int (nI sp))]) hx hb dX0_feed_9 rfl hl (by decide) rfl (fun ls hl => ?_)
  refine lv_iconst (v := nI 0) hx hb dX0_feed_10 (by decide) ?_
  refine lv_istore_n (lv' := [(3, .int (nI 0)), (2, .int (nI (bset (lkd ex pa ho dv se sp) 16))), (0, .ref h), (1, .int (nI sp))]) hx hb dX0_feed_11 rfl hl (by decide) rfl (fun ls hl => ?_)
  have loop12 : ∀ (n : Nat) (i : Nat), (i ≤ 16) → (17 ≤ i + n) → ∀ (H : Heap) (locs : List Loc), va_P D vwCl (hW h ad cI cZ ex pa di qu gc dg dp dv dd ds dc td ho ak (fed ex pa ho dv sp se i) pr) H → va_D A (hW h ad cI cZ ex pa di qu gc dg dp dv dd ds dc td ho ak (fed ex pa ho dv sp se i) pr) → va_S A s.heap H locs → ∀ ls : Array Slot, lv_has ls 4 [(0, .ref h), (1, .int (nI sp)), (2, .int (nI (bset (lkd ex pa ho dv se sp) 16))), (3, .int (nI i))] → W p l e ({ frames := 6, cells := 0, slots := 0, locals := 149 } : Room) s m ([.ref h, .int (nI sp)] : List Value).toArray below meth c H locs 0 0 (MQ below (wQ D (hW h ad cI cZ ex pa di qu gc dg dp dv dd ds dc td ho ak se pr) (hW h ad cI cZ ex pa di qu gc dg dp dv dd ds dc td ho ak (fed ex pa ho dv sp se 16) pr) (some (.int (nI (pcn (bset (lkd ex pa ho dv se sp) 16) 16))))) ([.ref h, .int (nI sp)] : List Value).toArray s 0 0 A) (F0 m 12 ls []) := by
    intro n
    induction n with
    | zero => intro i hle hn; omega
    | succ n ih =>
      intro i hle hn H locs hP hD hS ls hl
      refine lv_iload_n hx hb dX0_feed_12 rfl (lv_at hl 3 rfl) ?_
      refine lv_bipush (v := nI 16) hx hb dX0_feed_13 (by decide) ?_
      refine q_icmpN_ge (a := i) (b := 16) (tgt := 30) (by omega) (by omega) hx hb dX0_feed_15 (by decide) (fun k15 => ?_) (fun k15 => ?_)
      · refine lv_iload_n hx hb dX0_feed_30 rfl (lv_at hl 2 rfl) ?_
        refine q_callI (r := nI (pcn (bset (lkd ex pa ho dv se sp) 16) 16)) (va_runS (As := [.int (nI (bset (lkd ex pa ho dv se sp) 16))]) (rest := []) ⟨hx, hb, hml, hown, hts⟩ (kJ6_bitCount_0f7a4 l (bset (lkd ex pa ho dv se sp) 16) (bset_lt _ 16)) (va_cwS 1 hts gX0_feed_J6_bitCount_0f7a4 rfl rfl rfl (by decide +kernel) ⟨Nat.le_of_ble_eq_true rfl, Nat.le_of_ble_eq_true rfl⟩) ⟨sP_blind, sP_pre⟩ rfl rfl hl.1 rfl (lv_room (Nat.le_of_ble_eq_true rfl)) dX0_feed_31 ⟨Nat.zero_le _, Nat.zero_le _⟩) ?_
        have hP : va_P D vwCl (hW h ad cI cZ ex pa di qu gc dg dp dv dd ds dc td ho ak (fed ex pa ho dv sp se 16) pr) H := by rw [show fed ex pa ho dv sp se 16 = fed ex pa ho dv sp se i from by rw [show i = 16 by omega]]; exact hP
        exact q_wretI hx hb hr hlocks hAe hP hS (rfl) dX0_feed_34
      · refine lv_aload_n hx hb dX0_feed_18 rfl (lv_at hl 0 rfl) ?_
        refine lv_iload_n hx hb dX0_feed_19 rfl (lv_at hl 3 rfl) ?_
        refine lv_iload_n hx hb dX0_feed_20 rfl (lv_at hl 1 rfl) ?_
        refine q_wcallV (w' := (hW h ad cI cZ ex pa di qu gc dg dp dv dd ds dc td ho ak (rmb (fed ex pa ho dv sp se i) (sgt ex pa ho dv sp i) (sp * 288 + i * 18) 18) pr)) (va_runV (As := [.int (nI i), .int (nI sp)]) (rest := []) ⟨hx, hb, hml, hown, hts⟩ (kX0_rememberSights l D h ad cI cZ ex pa di qu gc dg dp dv dd ds dc td ho ak (fed ex pa ho dv sp se i) pr _ i sp (by omega) hs hpr hho hdc) (cwV 2 hts gX0_feed_X0_rememberSights rfl rfl rfl (by decide +kernel) ⟨Nat.le_of_ble_eq_true rfl, Nat.le_of_ble_eq_true rfl⟩) ⟨wP_blind, va_recv hK hP (ci := 0) (q0 := 0) rfl rfl, wP_pre hP hK hD⟩ rfl rfl hl.1 rfl (lv_room (Nat.le_of_ble_eq_true rfl)) dX0_feed_21 ⟨Nat.zero_le _, Nat.zero_le _⟩) hD hS hA rfl (fun H locs hP hD hS => ?_)
        refine lv_iinc (v := nI (i + 1)) (lv' := [(3, .int (nI (i + 1))), (0, .ref h), (1, .int (nI sp)), (2, .int (nI (bset (lkd ex pa ho dv se sp) 16)))]) hx hb dX0_feed_24 hl (k := 3) rfl (i1_n i) (by decide) rfl (fun ls hl => ?_)
        refine lv_goto (tgt := 12) hx hb dX0_feed_27 (by decide) ?_
        have hP : va_P D vwCl (hW h ad cI cZ ex pa di qu gc dg dp dv dd ds dc td ho ak (fed ex pa ho dv sp se (i + 1)) pr) H := by rw [show fed ex pa ho dv sp se (i + 1) = rmb (fed ex pa ho dv sp se i) (sgt ex pa ho dv sp i) (sp * 288 + i * 18) 18 from rfl]; exact hP
        have hD : va_D A (hW h ad cI cZ ex pa di qu gc dg dp dv dd ds dc td ho ak (fed ex pa ho dv sp se (i + 1)) pr) := by rw [show fed ex pa ho dv sp se (i + 1) = rmb (fed ex pa ho dv sp se i) (sgt ex pa ho dv sp i) (sp * 288 + i * 18) 18 from rfl]; exact hD
        exact ih (i + 1) (by omega) (by omega) _ _ hP hD hS _ (lv_sub hl [1, 2, 3, 0] rfl)
  have hP : va_P D vwCl (hW h ad cI cZ ex pa di qu gc dg dp dv dd ds dc td ho ak (fed ex pa ho dv sp se 0) pr) s.heap := by rw [show fed ex pa ho dv sp se 0 = se from rfl]; exact hP
  have hD : va_D A (hW h ad cI cZ ex pa di qu gc dg dp dv dd ds dc td ho ak (fed ex pa ho dv sp se 0) pr) := by rw [show fed ex pa ho dv sp se 0 = se from rfl]; exact hD
  exact loop12 17 0 (by omega) (Nat.le_refl 17) _ _ hP hD hS _ (lv_sub hl [2, 3, 1, 0] rfl)

set_option maxHeartbeats 4000000 in
set_option maxRecDepth 100000 in
theorem kX1_feed (l : Launch) (D : va_G) (h : Nat) (ad : Nat → Nat) (cI cJ cZ : ClassId) (td : Nat) (gc : Nat) (ex : Nat → Bool) (pa : Nat → Option Nat) (di : Nat → Nat) (qu : Nat → Nat) (dc : Nat) (dg : Nat → Nat) (da : Nat → Nat) (dh : Nat → Option Nat) (dt : Nat → Option Nat) (dv : Nat → Option Nat) (dd : Nat → Nat) (ds : Nat → Nat) (ak : Nat → Bool) (se : Nat → Option Nat) (pr : Nat → Option Nat) (th : Nat) (sz : Nat) (ho : Nat → Option Nat) (lev : Nat → Nat) (sp : Nat) (hti : TI ex pa lev) (hs : sp < 3) (hgc : gc ≤ 16) (hrd : RD dc dg da dh dt dd ds td) (hrh : RH ex ho dc dg da dh dt dd ds td) (hpr : PR pa) (hho : HO ho dc) (hdv : DV dv dc) (hse : ∀ k, k < 864 → ∀ v, se k = some v → v ≤ 100000) : Met l yX1_feed wsX1_feed ({ frames := 5, cells := 0, slots := 0, locals := 128 } : Room) (wP D (mW h ad cI cJ cZ td gc ex pa di qu dc dg da dh dt dv dd ds ak se pr th) (mT cI cJ cZ) [.ref h, .int (nI sp)] sz) (wQ D (mW h ad cI cJ cZ td gc ex pa di qu dc dg da dh dt dv dd ds ak se pr th) (mW h ad cI cJ cZ td gc ex pa di qu dc dg da dh dt dv dd ds ak (fed ex pa ho dv sp se gc) pr 0) (some (.int (nI (pcn (bset (lkd ex pa ho dv se sp) gc) gc))))) 0 0 (va_A (mW h ad cI cJ cZ td gc ex pa di qu dc dg da dh dt dv dd ds ak se pr th) sz) := by
  refine Met.ofW (cc := cX1_feed) (maxL := 6) (ret := (some .int)) (by decide) rfl ?_
  intro p e s m args below meth c s₁ B hml hv
  obtain ⟨rfl, hsz, hP, hK, hD0⟩ := hv
  have hx := B.exec
  have hb := B.bytes
  have hr := B.returns
  have hts := atoms_spec (ws := wsX1_feed) B.pre
  have hown : s.vm.findClass RX1 = some m.cls := findClass_of_methodNamed B.named
  have hlocks := B.notSynchronized
  subst hsz
  have hD := hD0.self (sz := s.heap.size)
  generalize hAe : va_A (mW h ad cI cJ cZ td gc ex pa di qu dc dg da dh dt dv dd ds ak se pr th) s.heap.size = A at hD ⊢
  have hA : ∀ q : Nat, s.heap.size ≤ q → A q := fun q h => by rw [← hAe]; exact Or.inr h
  have hS : va_S A s.heap s.heap [] := va_S.rf
  have hl := lv_entry ([.ref h, .int (nI sp)]) (n := 6) (Nat.le_of_ble_eq_true rfl)
  rw [lg_entry_eq]
  generalize (lg_sl ([.ref h, .int (nI sp)]) ++ List.replicate (6 - (lg_sl ([.ref h, .int (nI sp)])).length) Slot.unset).toArray = ls at hl ⊢
  have hl : lv_has ls 6 [(0, .ref h), (1, .int (nI sp))] := hl
  refine lv_aload_n hx hb dX1_feed_0 rfl (lv_at hl 0 rfl) ?_
  refine lv_iload_n hx hb dX1_feed_1 rfl (lv_at hl 1 rfl) ?_
  refine q_callI (r := bI (isin (nI sp) (nI 0) (nI 2))) (va_runS (As := [.int (nI sp)]) (rest := [.ref h]) ⟨hx, hb, hml, hown, hts⟩ (kX1_isShop l (nI sp)) (cwS 1 hts gX1_feed_X1_isShop rfl rfl rfl (by decide +kernel) ⟨Nat.le_of_ble_eq_true rfl, Nat.le_of_ble_eq_true rfl⟩) ⟨sP_blind, sP_pre⟩ rfl rfl hl.1 rfl (lv_room (Nat.le_of_ble_eq_true rfl)) dX1_feed_2 ⟨Nat.zero_le _, Nat.zero_le _⟩) ?_
  refine q_top (y := bI true) (by rw [isin_N (by omega) (by decide), decide_eq_true (by omega)]) ?_
  refine q_ifB_eq (b := true) (tgt := 12) hx hb dX1_feed_5 (by decide) (fun k5 => absurd k5 (by decide)) (fun k5 => ?_)
  refine lv_iconst (v := nI 0) hx hb dX1_feed_8 (by decide) ?_
  refine lv_goto (tgt := 13) hx hb dX1_feed_9 (by decide) ?_
  refine q_wcallI (r := bI (decide (0 < 0))) (w' := (mW h ad cI cJ cZ td gc ex pa di qu dc dg da dh dt dv dd ds ak se pr 0)) (va_runV (As := [.int (nI 0)]) (rest := []) ⟨hx, hb, hml, hown, hts⟩ (kX1_fails l D h ad cI cJ cZ td gc ex pa di qu dc dg da dh dt dv dd ds ak se pr th _ 0 (by decide)) (cwV 1 hts gX1_feed_X1_fails rfl rfl rfl (by decide +kernel) ⟨Nat.le_of_ble_eq_true rfl, Nat.le_of_ble_eq_true rfl⟩) ⟨wP_blind, va_recv hK hP (ci := 1) (q0 := 0) rfl rfl, wP_pre hP hK hD⟩ rfl rfl hl.1 rfl (lv_room (Nat.le_of_ble_eq_true rfl)) dX1_feed_13 ⟨Nat.zero_le _, Nat.zero_le _⟩) hD hS hA rfl (fun H locs hP hD hS => ?_)
  refine q_ifB_eq (b := decide (0 < 0)) (tgt := 21) hx hb dX1_feed_16 (by decide) (fun k16 => ?_) (fun k16 => absurd k16 (by decide))
  refine lv_aload_n hx hb dX1_feed_21 rfl (lv_at hl 0 rfl) ?_
  refine lv_iload_n hx hb dX1_feed_22 rfl (lv_at hl 1 rfl) ?_
  refine q_callI (r := nI (bset (lkd ex pa ho dv se sp) gc)) (va_runV (As := [.int (nI sp)]) (rest := []) ⟨hx, hb, hml, hown, hts⟩ (kX1_differs l D h ad cI cJ cZ td gc ex pa di qu dc dg da dh dt dv dd ds ak se pr 0 ho lev sp hti hs hgc hrd hrh hpr hho hdv hse) (cwV 1 hts gX1_feed_X1_differs rfl rfl rfl (by decide +kernel) ⟨Nat.le_of_ble_eq_true rfl, Nat.le_of_ble_eq_true rfl⟩) ⟨pP_blind, va_recv hK hP (ci := 1) (q0 := 0) rfl rfl, pP_pre hP hK⟩ rfl rfl hl.1 rfl (lv_room (Nat.le_of_ble_eq_true rfl)) dX1_feed_23 ⟨Nat.zero_le _, Nat.zero_le _⟩) ?_
  refine lv_istore_n (lv' := [(2, .int (nI (bset (lkd ex pa ho dv se sp) gc))), (0, .ref h), (1, .int (nI sp))]) hx hb dX1_feed_26 rfl hl (by decide) rfl (fun ls hl => ?_)
  refine lv_iconst (v := nI 0) hx hb dX1_feed_27 (by decide) ?_
  refine lv_istore_n (lv' := [(3, .int (nI 0)), (2, .int (nI (bset (lkd ex pa ho dv se sp) gc))), (0, .ref h), (1, .int (nI sp))]) hx hb dX1_feed_28 rfl hl (by decide) rfl (fun ls hl => ?_)
  refine lv_iconst (v := nI 0) hx hb dX1_feed_29 (by decide) ?_
  refine lv_istore (lv' := [(4, .int (nI 0)), (3, .int (nI 0)), (2, .int (nI (bset (lkd ex pa ho dv se sp) gc))), (0, .ref h), (1, .int (nI sp))]) hx hb dX1_feed_30 hl (by decide) rfl (fun ls hl => ?_)
  have loop32 : ∀ (n : Nat) (i : Nat) (k : Nat), (i ≤ gc) → (gc + 1 ≤ i + n) → (k = pcn (bset (lkd ex pa ho dv se sp) gc) i) → ∀ (H : Heap) (locs : List Loc), va_P D vwCl (mW h ad cI cJ cZ td gc ex pa di qu dc dg da dh dt dv dd ds ak (fed ex pa ho dv sp se i) pr 0) H → va_D A (mW h ad cI cJ cZ td gc ex pa di qu dc dg da dh dt dv dd ds ak (fed ex pa ho dv sp se i) pr 0) → va_S A s.heap H locs → ∀ ls : Array Slot, lv_has ls 6 [(0, .ref h), (1, .int (nI sp)), (2, .int (nI (bset (lkd ex pa ho dv se sp) gc))), (3, .int (nI k)), (4, .int (nI i))] → W p l e ({ frames := 5, cells := 0, slots := 0, locals := 128 } : Room) s m ([.ref h, .int (nI sp)] : List Value).toArray below meth c H locs 0 0 (MQ below (wQ D (mW h ad cI cJ cZ td gc ex pa di qu dc dg da dh dt dv dd ds ak se pr th) (mW h ad cI cJ cZ td gc ex pa di qu dc dg da dh dt dv dd ds ak (fed ex pa ho dv sp se gc) pr 0) (some (.int (nI (pcn (bset (lkd ex pa ho dv se sp) gc) gc))))) ([.ref h, .int (nI sp)] : List Value).toArray s 0 0 A) (F0 m 32 ls []) := by
    intro n
    induction n with
    | zero => intro i k hle hn hset; omega
    | succ n ih =>
      intro i k hle hn hset H locs hP hD hS ls hl
      refine lv_iload hx hb dX1_feed_32 (lv_at hl 4 rfl) ?_
      refine lv_aload_n hx hb dX1_feed_34 rfl (lv_at hl 0 rfl) ?_
      refine va_get (D := D) (ci := 1) (v := .int (nI gc)) (C := RX1) (T := TX1) (N := 18) hx hb hts (iX1_feed) hown hK hP 0 rfl rfl 1 (by decide) (hts (.fieldLink RX1 58 "ShopHubModel" "goods" "I") (by decide +kernel)) (fun _ h9 => h9) rfl dX1_feed_35 ?_
      refine q_icmpN_ge (a := i) (b := gc) (tgt := 106) (by omega) (by omega) hx hb dX1_feed_38 (by decide) (fun k38 => ?_) (fun k38 => ?_)
      · refine lv_iload_n hx hb dX1_feed_106 rfl (lv_at hl 3 rfl) ?_
        have hP : va_P D vwCl (mW h ad cI cJ cZ td gc ex pa di qu dc dg da dh dt dv dd ds ak (fed ex pa ho dv sp se gc) pr 0) H := by rw [show fed ex pa ho dv sp se gc = fed ex pa ho dv sp se i from by rw [show i = gc by omega]]; exact hP
        exact q_wretI hx hb hr hlocks hAe hP hS (by rw [hset, show i = gc by omega]) dX1_feed_107
      · refine lv_iload_n hx hb dX1_feed_41 rfl (lv_at hl 3 rfl) ?_
        refine lv_iload_n hx hb dX1_feed_42 rfl (lv_at hl 2 rfl) ?_
        refine lv_iload hx hb dX1_feed_43 (lv_at hl 4 rfl) ?_
        refine lv_ishr hx hb dX1_feed_45 ?_
        refine q_top (y := nI (bset (lkd ex pa ho dv se sp) gc / 2 ^ i)) (shr_k (bset_lt' _ hgc) (by omega)) ?_
        refine lv_iconst (v := nI 1) hx hb dX1_feed_46 (by decide) ?_
        refine lv_iand hx hb dX1_feed_47 ?_
        refine q_top (y := nI (bset (lkd ex pa ho dv se sp) gc / 2 ^ i % 2)) (and_1 (by have h8 := bset_lt' (lkd ex pa ho dv se sp) hgc; have h9 := Nat.div_le_self (bset (lkd ex pa ho dv se sp) gc) (2 ^ i); omega)) ?_
        refine q_addN (a := k) (b := bset (lkd ex pa ho dv se sp) gc / 2 ^ i % 2) hx hb dX1_feed_48 ?_
        refine lv_istore_n (lv' := [(3, .int (nI (k + (bset (lkd ex pa ho dv se sp) gc / 2 ^ i % 2)))), (0, .ref h), (1, .int (nI sp)), (2, .int (nI (bset (lkd ex pa ho dv se sp) gc))), (4, .int (nI i))]) hx hb dX1_feed_49 rfl hl (by decide) rfl (fun ls hl => ?_)
        refine lv_iconst (v := nI 0) hx hb dX1_feed_50 (by decide) ?_
        refine lv_istore (lv' := [(5, .int (nI 0)), (3, .int (nI (k + (bset (lkd ex pa ho dv se sp) gc / 2 ^ i % 2)))), (0, .ref h), (1, .int (nI sp)), (2, .int (nI (bset (lkd ex pa ho dv se sp) gc))), (4, .int (nI i))]) hx hb dX1_feed_51 hl (by decide) rfl (fun ls hl => ?_)
        have loop53 : ∀ (n2 : Nat) (j : Nat), (j ≤ 18) → (19 ≤ j + n2) → ∀ (H : Heap) (locs : List Loc), va_P D vwCl (mW h ad cI cJ cZ td gc ex pa di qu dc dg da dh dt dv dd ds ak (rmb (fed ex pa ho dv sp se i) (sgt ex pa ho dv sp i) (sp * 288 + i * 18) j) pr 0) H → va_D A (mW h ad cI cJ cZ td gc ex pa di qu dc dg da dh dt dv dd ds ak (rmb (fed ex pa ho dv sp se i) (sgt ex pa ho dv sp i) (sp * 288 + i * 18) j) pr 0) → va_S A s.heap H locs → ∀ ls : Array Slot, lv_has ls 6 [(0, .ref h), (1, .int (nI sp)), (2, .int (nI (bset (lkd ex pa ho dv se sp) gc))), (3, .int (nI (k + (bset (lkd ex pa ho dv se sp) gc / 2 ^ i % 2)))), (4, .int (nI i)), (5, .int (nI j))] → W p l e ({ frames := 5, cells := 0, slots := 0, locals := 128 } : Room) s m ([.ref h, .int (nI sp)] : List Value).toArray below meth c H locs 0 0 (MQ below (wQ D (mW h ad cI cJ cZ td gc ex pa di qu dc dg da dh dt dv dd ds ak se pr th) (mW h ad cI cJ cZ td gc ex pa di qu dc dg da dh dt dv dd ds ak (fed ex pa ho dv sp se gc) pr 0) (some (.int (nI (pcn (bset (lkd ex pa ho dv se sp) gc) gc))))) ([.ref h, .int (nI sp)] : List Value).toArray s 0 0 A) (F0 m 53 ls []) := by
          intro n2
          induction n2 with
          | zero => intro j hle2 hn2; omega
          | succ n2 ih2 =>
            intro j hle2 hn2 H locs hP hD hS ls hl
            have hi16 : i < 16 := by omega
            refine lv_iload hx hb dX1_feed_53 (lv_at hl 5 rfl) ?_
            refine lv_bipush (v := nI 18) hx hb dX1_feed_55 (by decide) ?_
            refine q_icmpN_ge (a := j) (b := 18) (tgt := 100) (by omega) (by omega) hx hb dX1_feed_57 (by decide) (fun k57 => ?_) (fun k57 => ?_)
            · refine lv_iinc (v := nI (i + 1)) (lv' := [(4, .int (nI (i + 1))), (0, .ref h), (1, .int (nI sp)), (2, .int (nI (bset (lkd ex pa ho dv se sp) gc))), (3, .int (nI (k + (bset (lkd ex pa ho dv se sp) gc / 2 ^ i % 2)))), (5, .int (nI j))]) hx hb dX1_feed_100 hl (k := 4) rfl (i1_n i) (by decide) rfl (fun ls hl => ?_)
              refine lv_goto (tgt := 32) hx hb dX1_feed_103 (by decide) ?_
              have hP : va_P D vwCl (mW h ad cI cJ cZ td gc ex pa di qu dc dg da dh dt dv dd ds ak (fed ex pa ho dv sp se (i + 1)) pr 0) H := by rw [show fed ex pa ho dv sp se (i + 1) = rmb (fed ex pa ho dv sp se i) (sgt ex pa ho dv sp i) (sp * 288 + i * 18) j from by rw [show j = 18 by omega]; rfl]; exact hP
              have hD : va_D A (mW h ad cI cJ cZ td gc ex pa di qu dc dg da dh dt dv dd ds ak (fed ex pa ho dv sp se (i + 1)) pr 0) := by rw [show fed ex pa ho dv sp se (i + 1) = rmb (fed ex pa ho dv sp se i) (sgt ex pa ho dv sp i) (sp * 288 + i * 18) j from by rw [show j = 18 by omega]; rfl]; exact hD
              exact ih (i + 1) (k + bset (lkd ex pa ho dv se sp) gc / 2 ^ i % 2) (by omega) (by omega) (by rw [hset]; rfl) _ _ hP hD hS _ (lv_sub hl [1, 2, 3, 4, 0] rfl)
            · refine lv_aload_n hx hb dX1_feed_60 rfl (lv_at hl 0 rfl) ?_
              refine va_get (D := D) (ci := 1) (v := .ref (ad 15)) (C := RX1) (T := TX1) (N := 18) hx hb hts (iX1_feed) hown hK hP 0 rfl rfl 15 (by decide) (hts (.fieldLink RX1 47 "ShopHubModel" "seen" "[I") (by decide +kernel)) (fun _ h9 => h9) rfl dX1_feed_61 ?_
              refine lv_iload_n hx hb dX1_feed_64 rfl (lv_at hl 1 rfl) ?_
              refine lv_iload hx hb dX1_feed_65 (lv_at hl 4 rfl) ?_
              refine lv_iload hx hb dX1_feed_67 (lv_at hl 5 rfl) ?_
              refine lv_iconst (v := nI 3) hx hb dX1_feed_69 (by decide) ?_
              refine q_divN (a := j) (b := 3) (by omega) (by decide) (by decide) hx hb dX1_feed_70 ?_
              refine lv_iload hx hb dX1_feed_71 (lv_at hl 5 rfl) ?_
              refine lv_iconst (v := nI 3) hx hb dX1_feed_73 (by decide) ?_
              refine q_remN (a := j) (b := 3) (by omega) (by decide) (by decide) hx hb dX1_feed_74 ?_
              refine q_callI (r := nI (3 * (6 * (16 * sp + i) + j / 3) + j % 3)) (va_runS (As := [.int (nI sp), .int (nI i), .int (nI (j / 3)), .int (nI (j % 3))]) (rest := [.ref (ad 15)]) ⟨hx, hb, hml, hown, hts⟩ (kX1_place l sp i (j / 3) (j % 3)) (cwS 4 hts gX1_feed_X1_place rfl rfl rfl (by decide +kernel) ⟨Nat.le_of_ble_eq_true rfl, Nat.le_of_ble_eq_true rfl⟩) ⟨sP_blind, sP_pre⟩ rfl rfl hl.1 rfl (lv_room (Nat.le_of_ble_eq_true rfl)) dX1_feed_75 ⟨Nat.zero_le _, Nat.zero_le _⟩) ?_
              refine q_top (y := nI (sp * 288 + i * 18 + j)) (by rw [show 3 * (6 * (16 * sp + i) + j / 3) + j % 3 = sp * 288 + i * 18 + j by omega]) ?_
              refine lv_aload_n hx hb dX1_feed_78 rfl (lv_at hl 0 rfl) ?_
              refine lv_iload_n hx hb dX1_feed_79 rfl (lv_at hl 1 rfl) ?_
              refine lv_iload hx hb dX1_feed_80 (lv_at hl 4 rfl) ?_
              refine lv_iload hx hb dX1_feed_82 (lv_at hl 5 rfl) ?_
              refine lv_iconst (v := nI 3) hx hb dX1_feed_84 (by decide) ?_
              refine q_divN (a := j) (b := 3) (by omega) (by decide) (by decide) hx hb dX1_feed_85 ?_
              refine lv_iload hx hb dX1_feed_86 (lv_at hl 5 rfl) ?_
              refine lv_iconst (v := nI 3) hx hb dX1_feed_88 (by decide) ?_
              refine q_remN (a := j) (b := 3) (by omega) (by decide) (by decide) hx hb dX1_feed_89 ?_
              refine q_callI (r := oI (vlu ex pa ho dv (j / 3) (sp + 1) (j % 3 + 1) i)) (va_runV (As := [.int (nI sp), .int (nI i), .int (nI (j / 3)), .int (nI (j % 3))]) (rest := [.int (nI (sp * 288 + i * 18 + j)), .ref (ad 15)]) ⟨hx, hb, hml, hown, hts⟩ (kX1_sees l D h ad cI cJ cZ td gc ex pa di qu dc dg da dh dt dv dd ds ak (rmb (fed ex pa ho dv sp se i) (sgt ex pa ho dv sp i) (sp * 288 + i * 18) j) pr 0 ho lev sp i (j / 3) (j % 3) hti hi16 (by omega) hs (by omega) hrd hrh hpr hho) (cwV 4 hts gX1_feed_X1_sees rfl rfl rfl (by decide +kernel) ⟨Nat.le_of_ble_eq_true rfl, Nat.le_of_ble_eq_true rfl⟩) ⟨pP_blind, va_recv hK hP (ci := 1) (q0 := 0) rfl rfl, pP_pre hP hK⟩ rfl rfl hl.1 rfl (lv_room (Nat.le_of_ble_eq_true rfl)) dX1_feed_90 ⟨Nat.zero_le _, Nat.zero_le _⟩) ?_
              refine q_ast oI (rmb (fed ex pa ho dv sp se i) (sgt ex pa ho dv sp i) (sp * 288 + i * 18) j) (vlu ex pa ho dv (j / 3) (sp + 1) (j % 3 + 1) i) hx hb hK hP hD hS 13 1 rfl rfl (k := sp * 288 + i * 18 + j) (by omega) (Nat.le_of_ble_eq_true rfl) dX1_feed_93 (fun H locs hP hD hS => ?_)
              have hP : va_P D vwCl (mW h ad cI cJ cZ td gc ex pa di qu dc dg da dh dt dv dd ds ak (va_up (rmb (fed ex pa ho dv sp se i) (sgt ex pa ho dv sp i) (sp * 288 + i * 18) j) (sp * 288 + i * 18 + j) (vlu ex pa ho dv (j / 3) (sp + 1) (j % 3 + 1) i)) pr 0) H := hP
              have hD : va_D A (mW h ad cI cJ cZ td gc ex pa di qu dc dg da dh dt dv dd ds ak (va_up (rmb (fed ex pa ho dv sp se i) (sgt ex pa ho dv sp i) (sp * 288 + i * 18) j) (sp * 288 + i * 18 + j) (vlu ex pa ho dv (j / 3) (sp + 1) (j % 3 + 1) i)) pr 0) := hD
              refine lv_iinc (v := nI (j + 1)) (lv' := [(5, .int (nI (j + 1))), (0, .ref h), (1, .int (nI sp)), (2, .int (nI (bset (lkd ex pa ho dv se sp) gc))), (3, .int (nI (k + (bset (lkd ex pa ho dv se sp) gc / 2 ^ i % 2)))), (4, .int (nI i))]) hx hb dX1_feed_94 hl (k := 5) rfl (i1_n j) (by decide) rfl (fun ls hl => ?_)
              refine lv_goto (tgt := 53) hx hb dX1_feed_97 (by decide) ?_
              have hP : va_P D vwCl (mW h ad cI cJ cZ td gc ex pa di qu dc dg da dh dt dv dd ds ak (rmb (fed ex pa ho dv sp se i) (sgt ex pa ho dv sp i) (sp * 288 + i * 18) (j + 1)) pr 0) H := by rw [show rmb (fed ex pa ho dv sp se i) (sgt ex pa ho dv sp i) (sp * 288 + i * 18) (j + 1) = va_up (rmb (fed ex pa ho dv sp se i) (sgt ex pa ho dv sp i) (sp * 288 + i * 18) j) (sp * 288 + i * 18 + j) (vlu ex pa ho dv (j / 3) (sp + 1) (j % 3 + 1) i) from rmb_s _ _ _ _]; exact hP
              have hD : va_D A (mW h ad cI cJ cZ td gc ex pa di qu dc dg da dh dt dv dd ds ak (rmb (fed ex pa ho dv sp se i) (sgt ex pa ho dv sp i) (sp * 288 + i * 18) (j + 1)) pr 0) := by rw [show rmb (fed ex pa ho dv sp se i) (sgt ex pa ho dv sp i) (sp * 288 + i * 18) (j + 1) = va_up (rmb (fed ex pa ho dv sp se i) (sgt ex pa ho dv sp i) (sp * 288 + i * 18) j) (sp * 288 + i * 18 + j) (vlu ex pa ho dv (j / 3) (sp + 1) (j % 3 + 1) i) from rmb_s _ _ _ _]; exact hD
              exact ih2 (j + 1) (by omega) (by omega) _ _ hP hD hS _ (lv_sub hl [1, 2, 3, 4, 5, 0] rfl)
        have hP : va_P D vwCl (mW h ad cI cJ cZ td gc ex pa di qu dc dg da dh dt dv dd ds ak (rmb (fed ex pa ho dv sp se i) (sgt ex pa ho dv sp i) (sp * 288 + i * 18) 0) pr 0) H := by rw [show rmb (fed ex pa ho dv sp se i) (sgt ex pa ho dv sp i) (sp * 288 + i * 18) 0 = fed ex pa ho dv sp se i from rmb_0 _ _ _]; exact hP
        have hD : va_D A (mW h ad cI cJ cZ td gc ex pa di qu dc dg da dh dt dv dd ds ak (rmb (fed ex pa ho dv sp se i) (sgt ex pa ho dv sp i) (sp * 288 + i * 18) 0) pr 0) := by rw [show rmb (fed ex pa ho dv sp se i) (sgt ex pa ho dv sp i) (sp * 288 + i * 18) 0 = fed ex pa ho dv sp se i from rmb_0 _ _ _]; exact hD
        exact loop53 19 0 (by omega) (Nat.le_refl 19) _ _ hP hD hS _ (lv_sub hl [2, 3, 4, 1, 5, 0] rfl)
  have hP : va_P D vwCl (mW h ad cI cJ cZ td gc ex pa di qu dc dg da dh dt dv dd ds ak (fed ex pa ho dv sp se 0) pr 0) H := by rw [show fed ex pa ho dv sp se 0 = se from rfl]; exact hP
  have hD : va_D A (mW h ad cI cJ cZ td gc ex pa di qu dc dg da dh dt dv dd ds ak (fed ex pa ho dv sp se 0) pr 0) := by rw [show fed ex pa ho dv sp se 0 = se from rfl]; exact hD
  exact loop32 (gc + 1) 0 0 (by omega) (by omega) rfl _ _ hP hD hS _ (lv_sub hl [3, 4, 2, 1, 0] rfl)

set_option maxHeartbeats 4000000 in
set_option maxRecDepth 100000 in
theorem kX1_price (l : Launch) (D : va_G) (h : Nat) (ad : Nat → Nat) (cI cJ cZ : ClassId) (td : Nat) (gc : Nat) (ex : Nat → Bool) (pa : Nat → Option Nat) (di : Nat → Nat) (qu : Nat → Nat) (dc : Nat) (dg : Nat → Nat) (da : Nat → Nat) (dh : Nat → Option Nat) (dt : Nat → Option Nat) (dv : Nat → Option Nat) (dd : Nat → Nat) (ds : Nat → Nat) (ak : Nat → Bool) (se : Nat → Option Nat) (pr : Nat → Option Nat) (th : Nat) (sz : Nat) (ho : Nat → Option Nat) (lev : Nat → Nat) (g sp : Nat) (hti : TI ex pa lev) (hg : g < 16) (he : ex g = true) (hs : sp < 3) (hgc : gc ≤ 16) (hxg : ∀ j, j < 16 → ex j = true → j < gc) (hrd : RD dc dg da dh dt dd ds td) (hrh : RH ex ho dc dg da dh dt dd ds td) (hpr : PR pa) (hho : HO ho dc) (hdv : DV dv dc) (hqu : ∀ k, k < 256 → qu k ≤ 20) (hdi : ∀ k, k < 16 → di k ≤ 100) (hpb : ∀ k, k < 16 → ∀ v, pr k = some v → v ≤ 1000000000) (hnv : prs (vlu ex pa ho dv 0 (sp + 1) (0 + 1)) qu di pr (g + 1) g ≠ none) : Met l yX1_price wsX1_price ({ frames := 3, cells := 0, slots := 0, locals := 79 } : Room) (wP D (mW h ad cI cJ cZ td gc ex pa di qu dc dg da dh dt dv dd ds ak se pr th) (mT cI cJ cZ) [.ref h, .int (nI g), .int (nI sp)] sz) (wQ D (mW h ad cI cJ cZ td gc ex pa di qu dc dg da dh dt dv dd ds ak se pr th) (mW h ad cI cJ cZ td gc ex pa di qu dc dg da dh dt dv dd ds ak se (prs (vlu ex pa ho dv 0 (sp + 1) (0 + 1)) qu di pr (g + 1)) 0) (some (.int (oI (prs (vlu ex pa ho dv 0 (sp + 1) (0 + 1)) qu di pr (g + 1) g))))) 0 0 (va_A (mW h ad cI cJ cZ td gc ex pa di qu dc dg da dh dt dv dd ds ak se pr th) sz) := by
  refine Met.ofW (cc := cX1_price) (maxL := 6) (ret := (some .int)) (by decide) rfl ?_
  intro p e s m args below meth c s₁ B hml hv
  obtain ⟨rfl, hsz, hP, hK, hD0⟩ := hv
  have hx := B.exec
  have hb := B.bytes
  have hr := B.returns
  have hts := atoms_spec (ws := wsX1_price) B.pre
  have hown : s.vm.findClass RX1 = some m.cls := findClass_of_methodNamed B.named
  have hlocks := B.notSynchronized
  subst hsz
  have hD := hD0.self (sz := s.heap.size)
  generalize hAe : va_A (mW h ad cI cJ cZ td gc ex pa di qu dc dg da dh dt dv dd ds ak se pr th) s.heap.size = A at hD ⊢
  have hA : ∀ q : Nat, s.heap.size ≤ q → A q := fun q h => by rw [← hAe]; exact Or.inr h
  have hS : va_S A s.heap s.heap [] := va_S.rf
  have hl := lv_entry ([.ref h, .int (nI g), .int (nI sp)]) (n := 6) (Nat.le_of_ble_eq_true rfl)
  rw [lg_entry_eq]
  generalize (lg_sl ([.ref h, .int (nI g), .int (nI sp)]) ++ List.replicate (6 - (lg_sl ([.ref h, .int (nI g), .int (nI sp)])).length) Slot.unset).toArray = ls at hl ⊢
  have hl : lv_has ls 6 [(0, .ref h), (1, .int (nI g)), (2, .int (nI sp))] := hl
  have hvb : ∀ k, k < 16 → ∀ v, (vlu ex pa ho dv 0 (sp + 1) (0 + 1)) k = some v → v ≤ 100000 := fun k hk => vlu_in hho hpr hdv hk (by omega) (show sp + 1 < 4 by omega) (by omega)
  refine lv_aload_n hx hb dX1_price_0 rfl (lv_at hl 0 rfl) ?_
  refine lv_iload_n hx hb dX1_price_1 rfl (lv_at hl 1 rfl) ?_
  refine q_callI (r := bI (ex g)) (va_runV (As := [.int (nI g)]) (rest := []) ⟨hx, hb, hml, hown, hts⟩ (kX1_isGoodN l D h ad cI cJ cZ td gc ex pa di qu dc dg da dh dt dv dd ds ak se pr th g hg hgc hxg) (cwV 1 hts gX1_price_X1_isGood rfl rfl rfl (by decide +kernel) ⟨Nat.le_of_ble_eq_true rfl, Nat.le_of_ble_eq_true rfl⟩) ⟨pP_blind, va_recv hK hP (ci := 1) (q0 := 0) rfl rfl, pP_pre hP hK⟩ rfl rfl hl.1 rfl (lv_room (Nat.le_of_ble_eq_true rfl)) dX1_price_2 ⟨Nat.zero_le _, Nat.zero_le _⟩) ?_
  refine q_ifB_eq (b := ex g) (tgt := 19) hx hb dX1_price_5 (by decide) (fun k5 => absurd k5 (by rw [he]; decide)) (fun k5 => ?_)
  refine lv_iload_n hx hb dX1_price_8 rfl (lv_at hl 2 rfl) ?_
  refine q_callI (r := bI (isin (nI sp) (nI 0) (nI 2))) (va_runS (As := [.int (nI sp)]) (rest := []) ⟨hx, hb, hml, hown, hts⟩ (kX1_isShop l (nI sp)) (cwS 1 hts gX1_price_X1_isShop rfl rfl rfl (by decide +kernel) ⟨Nat.le_of_ble_eq_true rfl, Nat.le_of_ble_eq_true rfl⟩) ⟨sP_blind, sP_pre⟩ rfl rfl hl.1 rfl (lv_room (Nat.le_of_ble_eq_true rfl)) dX1_price_9 ⟨Nat.zero_le _, Nat.zero_le _⟩) ?_
  refine q_top (y := bI true) (by rw [isin_N (by omega) (by decide), decide_eq_true (by omega)]) ?_
  refine q_ifB_eq (b := true) (tgt := 19) hx hb dX1_price_12 (by decide) (fun k12 => absurd k12 (by decide)) (fun k12 => ?_)
  refine lv_iconst (v := nI 1) hx hb dX1_price_15 (by decide) ?_
  refine lv_goto (tgt := 20) hx hb dX1_price_16 (by decide) ?_
  refine q_top (y := bI true) ((by decide : nI 1 = bI true)) ?_
  refine lv_istore_n (lv' := [(3, .int (bI true)), (0, .ref h), (1, .int (nI g)), (2, .int (nI sp))]) hx hb dX1_price_20 rfl hl (by decide) rfl (fun ls hl => ?_)
  refine lv_iconst (v := nI 0) hx hb dX1_price_21 (by decide) ?_
  refine lv_istore (lv' := [(4, .int (nI 0)), (3, .int (bI true)), (0, .ref h), (1, .int (nI g)), (2, .int (nI sp))]) hx hb dX1_price_22 hl (by decide) rfl (fun ls hl => ?_)
  have loop24 : ∀ (n : Nat) (i : Nat), (i ≤ g + 1) → (g + 2 ≤ i + n) → ∀ (H : Heap) (locs : List Loc), va_P D vwCl (mW h ad cI cJ cZ td gc ex pa di qu dc dg da dh dt dv dd ds ak se (prs (vlu ex pa ho dv 0 (sp + 1) (0 + 1)) qu di pr i) th) H → va_D A (mW h ad cI cJ cZ td gc ex pa di qu dc dg da dh dt dv dd ds ak se (prs (vlu ex pa ho dv 0 (sp + 1) (0 + 1)) qu di pr i) th) → va_S A s.heap H locs → ∀ ls : Array Slot, lv_has ls 6 [(0, .ref h), (1, .int (nI g)), (2, .int (nI sp)), (3, .int (bI true)), (4, .int (nI i))] → W p l e ({ frames := 3, cells := 0, slots := 0, locals := 79 } : Room) s m ([.ref h, .int (nI g), .int (nI sp)] : List Value).toArray below meth c H locs 0 0 (MQ below (wQ D (mW h ad cI cJ cZ td gc ex pa di qu dc dg da dh dt dv dd ds ak se pr th) (mW h ad cI cJ cZ td gc ex pa di qu dc dg da dh dt dv dd ds ak se (prs (vlu ex pa ho dv 0 (sp + 1) (0 + 1)) qu di pr (g + 1)) 0) (some (.int (oI (prs (vlu ex pa ho dv 0 (sp + 1) (0 + 1)) qu di pr (g + 1) g))))) ([.ref h, .int (nI g), .int (nI sp)] : List Value).toArray s 0 0 A) (F0 m 24 ls []) := by
    intro n
    induction n with
    | zero => intro i hle hn; omega
    | succ n ih =>
      intro i hle hn H locs hP hD hS ls hl
      refine lv_iload_n hx hb dX1_price_24 rfl (lv_at hl 3 rfl) ?_
      refine q_ifB_eq (b := true) (tgt := 90) hx hb dX1_price_25 (by decide) (fun k25 => absurd k25 (by decide)) (fun k25 => ?_)
      refine lv_iload hx hb dX1_price_28 (lv_at hl 4 rfl) ?_
      refine lv_iload_n hx hb dX1_price_30 rfl (lv_at hl 1 rfl) ?_
      refine q_icmpN_gt (a := i) (b := g) (tgt := 90) (by omega) (by omega) hx hb dX1_price_31 (by decide) (fun k31 => ?_) (fun k31 => ?_)
      · have hig : i = g + 1 := by omega
        refine lv_aload_n hx hb dX1_price_90 rfl (lv_at hl 0 rfl) ?_
        refine lv_iload_n hx hb dX1_price_91 rfl (lv_at hl 3 rfl) ?_
        refine q_ifB_ne (b := true) (tgt := 99) hx hb dX1_price_92 (by decide) (fun k92 => ?_) (fun k92 => absurd k92 (by decide))
        refine lv_aload_n hx hb dX1_price_99 rfl (lv_at hl 0 rfl) ?_
        refine va_get (D := D) (ci := 1) (v := .ref (ad 16)) (C := RX1) (T := TX1) (N := 18) hx hb hts (iX1_price) hown hK hP 0 rfl rfl 16 (by decide) (hts (.fieldLink RX1 50 "ShopHubModel" "price" "[J") (by decide +kernel)) (fun _ h9 => h9) rfl dX1_price_100 ?_
        refine lv_iload_n hx hb dX1_price_103 rfl (lv_at hl 1 rfl) ?_
        refine q_lld (prs (vlu ex pa ho dv 0 (sp + 1) (0 + 1)) qu di pr i) hx hb hK hP 14 2 rfl rfl (k := g) (by omega) (Nat.le_of_ble_eq_true rfl) dX1_price_104 ?_
        refine lv_ldc2 (v := -1) hx hb hown (hts (.constantLong RX1 114 (-1)) (by decide +kernel)) dX1_price_105 ?_
        refine q_topL (y := (oL none)) (by decide) ?_
        refine W.lcmp hx hb dX1_price_108 ?_
        refine lv_if_ne (tgt := 116) hx hb dX1_price_109 (by decide) (fun k109 => ?_) (fun k109 => absurd (by have h9 := (lcm_o (fun k h9 => by have := prs_in hvb hpb i (by omega) g hg k h9; omega)).mp k109; rw [hig] at h9; exact h9) hnv)
        refine lv_iconst (v := nI 0) hx hb dX1_price_116 (by decide) ?_
        refine q_wcallI (r := bI (decide (0 < 0))) (w' := (mW h ad cI cJ cZ td gc ex pa di qu dc dg da dh dt dv dd ds ak se (prs (vlu ex pa ho dv 0 (sp + 1) (0 + 1)) qu di pr i) 0)) (va_runV (As := [.int (nI 0)]) (rest := []) ⟨hx, hb, hml, hown, hts⟩ (kX1_fails l D h ad cI cJ cZ td gc ex pa di qu dc dg da dh dt dv dd ds ak se (prs (vlu ex pa ho dv 0 (sp + 1) (0 + 1)) qu di pr i) th _ 0 (by decide)) (cwV 1 hts gX1_price_X1_fails rfl rfl rfl (by decide +kernel) ⟨Nat.le_of_ble_eq_true rfl, Nat.le_of_ble_eq_true rfl⟩) ⟨wP_blind, va_recv hK hP (ci := 1) (q0 := 0) rfl rfl, wP_pre hP hK hD⟩ rfl rfl hl.1 rfl (lv_room (Nat.le_of_ble_eq_true rfl)) dX1_price_117 ⟨Nat.zero_le _, Nat.zero_le _⟩) hD hS hA rfl (fun H locs hP hD hS => ?_)
        refine q_ifB_eq (b := decide (0 < 0)) (tgt := 127) hx hb dX1_price_120 (by decide) (fun k120 => ?_) (fun k120 => absurd k120 (by decide))
        refine lv_aload_n hx hb dX1_price_127 rfl (lv_at hl 0 rfl) ?_
        refine va_get (D := D) (ci := 1) (v := .ref (ad 16)) (C := RX1) (T := TX1) (N := 18) hx hb hts (iX1_price) hown hK hP 0 rfl rfl 16 (by decide) (hts (.fieldLink RX1 50 "ShopHubModel" "price" "[J") (by decide +kernel)) (fun _ h9 => h9) rfl dX1_price_128 ?_
        refine lv_iload_n hx hb dX1_price_131 rfl (lv_at hl 1 rfl) ?_
        refine q_lld (prs (vlu ex pa ho dv 0 (sp + 1) (0 + 1)) qu di pr i) hx hb hK hP 14 2 rfl rfl (k := g) (by omega) (Nat.le_of_ble_eq_true rfl) dX1_price_132 ?_
        refine lv_l2i (v := oI (prs (vlu ex pa ho dv 0 (sp + 1) (0 + 1)) qu di pr i g)) hx hb dX1_price_133 (oL_i _) ?_
        have hP : va_P D vwCl (mW h ad cI cJ cZ td gc ex pa di qu dc dg da dh dt dv dd ds ak se (prs (vlu ex pa ho dv 0 (sp + 1) (0 + 1)) qu di pr (g + 1)) 0) H := by rw [show prs (vlu ex pa ho dv 0 (sp + 1) (0 + 1)) qu di pr (g + 1) = prs (vlu ex pa ho dv 0 (sp + 1) (0 + 1)) qu di pr i from by rw [hig]]; exact hP
        exact q_wretI hx hb hr hlocks hAe hP hS (by rw [hig]) dX1_price_134
      · refine lv_aload_n hx hb dX1_price_34 rfl (lv_at hl 0 rfl) ?_
        refine va_get (D := D) (ci := 1) (v := .ref (ad 2)) (C := RX1) (T := TX1) (N := 18) hx hb hts (iX1_price) hown hK hP 0 rfl rfl 2 (by decide) (hts (.fieldLink RX1 7 "ShopHubModel" "isThere" "[Z") (by decide +kernel)) (fun _ h9 => h9) rfl dX1_price_35 ?_
        refine lv_iload hx hb dX1_price_38 (lv_at hl 4 rfl) ?_
        refine q_zld ex hx hb hK hP 1 0 rfl rfl (k := i) (by omega) (Nat.le_of_ble_eq_true rfl) dX1_price_40 ?_
        refine q_ifB_eq (b := ex i) (tgt := 56) hx hb dX1_price_41 (by decide) (fun k41 => ?_) (fun k41 => ?_)
        · refine lv_iconst (v := oI none) hx hb dX1_price_56 (by decide) ?_
          refine q_top (y := oI ((vlu ex pa ho dv 0 (sp + 1) (0 + 1)) i)) (by rw [vlu_dead k41]) ?_
          refine lv_istore (lv' := [(5, .int (oI ((vlu ex pa ho dv 0 (sp + 1) (0 + 1)) i))), (0, .ref h), (1, .int (nI g)), (2, .int (nI sp)), (3, .int (bI true)), (4, .int (nI i))]) hx hb dX1_price_57 hl (by decide) rfl (fun ls hl => ?_)
          refine lv_aload_n hx hb dX1_price_59 rfl (lv_at hl 1 rfl) ?_
          refine va_get (D := D) (ci := 1) (v := .ref (ad 16)) (C := RX1) (T := TX1) (N := 18) hx hb hts (iX1_price) hown hK hP 0 rfl rfl 16 (by decide) (hts (.fieldLink RX1 50 "ShopHubModel" "price" "[J") (by decide +kernel)) (fun _ h9 => h9) rfl dX1_price_60 ?_
          refine lv_iload hx hb dX1_price_63 (lv_at hl 5 rfl) ?_
          refine lv_iload hx hb dX1_price_65 (lv_at hl 0 rfl) ?_
          refine lv_iconst (v := oI none) hx hb dX1_price_67 (by decide) ?_
          refine q_icmpO_ne (a := (vlu ex pa ho dv 0 (sp + 1) (0 + 1)) i) (b := none) (tgt := 80) (fun k h9 => by have := hvb i (by omega) k h9; omega) (fun k h9 => by cases h9) hx hb dX1_price_68 (by decide) (fun k68 => ?_) (fun k68 => ?_)
          · refine lv_iload hx hb dX1_price_80 (lv_at hl 0 rfl) ?_
            refine lv_i2l (v := (oL ((vlu ex pa ho dv 0 (sp + 1) (0 + 1)) i))) hx hb dX1_price_82 (oI_l (fun k h9 => by have := hvb i (by omega) k h9; omega)) ?_
            refine q_lst (prs (vlu ex pa ho dv 0 (sp + 1) (0 + 1)) qu di pr i) ((vlu ex pa ho dv 0 (sp + 1) (0 + 1)) i) hx hb hK hP hD hS 14 2 rfl rfl (k := i) (by omega) (Nat.le_of_ble_eq_true rfl) dX1_price_83 (fun H locs hP hD hS => ?_)
            have hP : va_P D vwCl (mW h ad cI cJ cZ td gc ex pa di qu dc dg da dh dt dv dd ds ak se (va_up (prs (vlu ex pa ho dv 0 (sp + 1) (0 + 1)) qu di pr i) i ((vlu ex pa ho dv 0 (sp + 1) (0 + 1)) i)) th) H := hP
            have hD : va_D A (mW h ad cI cJ cZ td gc ex pa di qu dc dg da dh dt dv dd ds ak se (va_up (prs (vlu ex pa ho dv 0 (sp + 1) (0 + 1)) qu di pr i) i ((vlu ex pa ho dv 0 (sp + 1) (0 + 1)) i)) th) := hD
            refine lv_iinc (v := nI (i + 1)) (lv' := [(4, .int (nI (i + 1))), (5, .int (oI ((vlu ex pa ho dv 0 (sp + 1) (0 + 1)) i))), (0, .ref h), (1, .int (nI g)), (2, .int (nI sp)), (3, .int (bI true))]) hx hb dX1_price_84 hl (k := 5) rfl (i1_n i) (by decide) rfl (fun ls hl => ?_)
            refine lv_goto (tgt := 24) hx hb dX1_price_87 (by decide) ?_
            have hP : va_P D vwCl (mW h ad cI cJ cZ td gc ex pa di qu dc dg da dh dt dv dd ds ak se (prs (vlu ex pa ho dv 0 (sp + 1) (0 + 1)) qu di pr (i + 1)) th) H := by rw [show prs (vlu ex pa ho dv 0 (sp + 1) (0 + 1)) qu di pr (i + 1) = va_up (prs (vlu ex pa ho dv 0 (sp + 1) (0 + 1)) qu di pr i) i ((vlu ex pa ho dv 0 (sp + 1) (0 + 1)) i) from prs_v k68]; exact hP
            have hD : va_D A (mW h ad cI cJ cZ td gc ex pa di qu dc dg da dh dt dv dd ds ak se (prs (vlu ex pa ho dv 0 (sp + 1) (0 + 1)) qu di pr (i + 1)) th) := by rw [show prs (vlu ex pa ho dv 0 (sp + 1) (0 + 1)) qu di pr (i + 1) = va_up (prs (vlu ex pa ho dv 0 (sp + 1) (0 + 1)) qu di pr i) i ((vlu ex pa ho dv 0 (sp + 1) (0 + 1)) i) from prs_v k68]; exact hD
            exact ih (i + 1) (by omega) (by omega) _ _ hP hD hS _ (lv_sub hl [2, 3, 4, 5, 0] rfl)
          · refine lv_aload_n hx hb dX1_price_71 rfl (lv_at hl 1 rfl) ?_
            refine lv_iload hx hb dX1_price_72 (lv_at hl 5 rfl) ?_
            refine q_callJ (r := (oL (bnd qu (prs (vlu ex pa ho dv 0 (sp + 1) (0 + 1)) qu di pr i) di i))) (va_runV (As := [.int (nI i)]) (rest := [.int (nI i), .ref (ad 16)]) ⟨hx, hb, hml, hown, hts⟩ (kX1_bundle l D h ad cI cJ cZ td gc ex pa di qu dc dg da dh dt dv dd ds ak se (prs (vlu ex pa ho dv 0 (sp + 1) (0 + 1)) qu di pr i) th i (by omega) hqu hdi (prs_in hvb hpb i (by omega))) (cwV 1 hts gX1_price_X1_bundle rfl rfl rfl (by decide +kernel) ⟨Nat.le_of_ble_eq_true rfl, Nat.le_of_ble_eq_true rfl⟩) ⟨pP_blind, va_recv hK hP (ci := 1) (q0 := 0) rfl rfl, pP_pre hP hK⟩ rfl rfl hl.1 rfl (lv_room (Nat.le_of_ble_eq_true rfl)) dX1_price_74 ⟨Nat.zero_le _, Nat.zero_le _⟩) ?_
            refine lv_goto (tgt := 83) hx hb dX1_price_77 (by decide) ?_
            refine q_lst (prs (vlu ex pa ho dv 0 (sp + 1) (0 + 1)) qu di pr i) (bnd qu (prs (vlu ex pa ho dv 0 (sp + 1) (0 + 1)) qu di pr i) di i) hx hb hK hP hD hS 14 2 rfl rfl (k := i) (by omega) (Nat.le_of_ble_eq_true rfl) dX1_price_83 (fun H locs hP hD hS => ?_)
            have hP : va_P D vwCl (mW h ad cI cJ cZ td gc ex pa di qu dc dg da dh dt dv dd ds ak se (va_up (prs (vlu ex pa ho dv 0 (sp + 1) (0 + 1)) qu di pr i) i (bnd qu (prs (vlu ex pa ho dv 0 (sp + 1) (0 + 1)) qu di pr i) di i)) th) H := hP
            have hD : va_D A (mW h ad cI cJ cZ td gc ex pa di qu dc dg da dh dt dv dd ds ak se (va_up (prs (vlu ex pa ho dv 0 (sp + 1) (0 + 1)) qu di pr i) i (bnd qu (prs (vlu ex pa ho dv 0 (sp + 1) (0 + 1)) qu di pr i) di i)) th) := hD
            refine lv_iinc (v := nI (i + 1)) (lv' := [(4, .int (nI (i + 1))), (5, .int (oI ((vlu ex pa ho dv 0 (sp + 1) (0 + 1)) i))), (0, .ref h), (1, .int (nI g)), (2, .int (nI sp)), (3, .int (bI true))]) hx hb dX1_price_84 hl (k := 5) rfl (i1_n i) (by decide) rfl (fun ls hl => ?_)
            refine lv_goto (tgt := 24) hx hb dX1_price_87 (by decide) ?_
            have hP : va_P D vwCl (mW h ad cI cJ cZ td gc ex pa di qu dc dg da dh dt dv dd ds ak se (prs (vlu ex pa ho dv 0 (sp + 1) (0 + 1)) qu di pr (i + 1)) th) H := by rw [show prs (vlu ex pa ho dv 0 (sp + 1) (0 + 1)) qu di pr (i + 1) = va_up (prs (vlu ex pa ho dv 0 (sp + 1) (0 + 1)) qu di pr i) i (bnd qu (prs (vlu ex pa ho dv 0 (sp + 1) (0 + 1)) qu di pr i) di i) from prs_b k68]; exact hP
            have hD : va_D A (mW h ad cI cJ cZ td gc ex pa di qu dc dg da dh dt dv dd ds ak se (prs (vlu ex pa ho dv 0 (sp + 1) (0 + 1)) qu di pr (i + 1)) th) := by rw [show prs (vlu ex pa ho dv 0 (sp + 1) (0 + 1)) qu di pr (i + 1) = va_up (prs (vlu ex pa ho dv 0 (sp + 1) (0 + 1)) qu di pr i) i (bnd qu (prs (vlu ex pa ho dv 0 (sp + 1) (0 + 1)) qu di pr i) di i) from prs_b k68]; exact hD
            exact ih (i + 1) (by omega) (by omega) _ _ hP hD hS _ (lv_sub hl [2, 3, 4, 5, 0] rfl)
        · refine lv_aload_n hx hb dX1_price_44 rfl (lv_at hl 0 rfl) ?_
          refine lv_iload hx hb dX1_price_45 (lv_at hl 4 rfl) ?_
          refine lv_iconst (v := nI 0) hx hb dX1_price_47 (by decide) ?_
          refine lv_iload_n hx hb dX1_price_48 rfl (lv_at hl 2 rfl) ?_
          refine lv_iconst (v := nI 0) hx hb dX1_price_49 (by decide) ?_
          refine q_callI (r := oI (vlu ex pa ho dv 0 (sp + 1) (0 + 1) i)) (va_runV (As := [.int (nI i), .int (nI 0), .int (nI sp), .int (nI 0)]) (rest := []) ⟨hx, hb, hml, hown, hts⟩ (kX1_valueOf l D h ad cI cJ cZ td gc ex pa di qu dc dg da dh dt dv dd ds ak se (prs (vlu ex pa ho dv 0 (sp + 1) (0 + 1)) qu di pr i) th ho lev i 0 sp 0 hti (by omega) k41 (by decide) hs (by decide) hrd hrh hpr hho) (cwV 4 hts gX1_price_X1_valueOf rfl rfl rfl (by decide +kernel) ⟨Nat.le_of_ble_eq_true rfl, Nat.le_of_ble_eq_true rfl⟩) ⟨pP_blind, va_recv hK hP (ci := 1) (q0 := 0) rfl rfl, pP_pre hP hK⟩ rfl rfl hl.1 rfl (lv_room (Nat.le_of_ble_eq_true rfl)) dX1_price_50 ⟨Nat.zero_le _, Nat.zero_le _⟩) ?_
          refine lv_goto (tgt := 57) hx hb dX1_price_53 (by decide) ?_
          refine lv_istore (lv' := [(5, .int (oI (vlu ex pa ho dv 0 (sp + 1) (0 + 1) i))), (0, .ref h), (1, .int (nI g)), (2, .int (nI sp)), (3, .int (bI true)), (4, .int (nI i))]) hx hb dX1_price_57 hl (by decide) rfl (fun ls hl => ?_)
          refine lv_aload_n hx hb dX1_price_59 rfl (lv_at hl 1 rfl) ?_
          refine va_get (D := D) (ci := 1) (v := .ref (ad 16)) (C := RX1) (T := TX1) (N := 18) hx hb hts (iX1_price) hown hK hP 0 rfl rfl 16 (by decide) (hts (.fieldLink RX1 50 "ShopHubModel" "price" "[J") (by decide +kernel)) (fun _ h9 => h9) rfl dX1_price_60 ?_
          refine lv_iload hx hb dX1_price_63 (lv_at hl 5 rfl) ?_
          refine lv_iload hx hb dX1_price_65 (lv_at hl 0 rfl) ?_
          refine lv_iconst (v := oI none) hx hb dX1_price_67 (by decide) ?_
          refine q_icmpO_ne (a := vlu ex pa ho dv 0 (sp + 1) (0 + 1) i) (b := none) (tgt := 80) (fun k h9 => by have := hvb i (by omega) k h9; omega) (fun k h9 => by cases h9) hx hb dX1_price_68 (by decide) (fun k68 => ?_) (fun k68 => ?_)
          · refine lv_iload hx hb dX1_price_80 (lv_at hl 0 rfl) ?_
            refine lv_i2l (v := (oL ((vlu ex pa ho dv 0 (sp + 1) (0 + 1)) i))) hx hb dX1_price_82 (oI_l (fun k h9 => by have := hvb i (by omega) k h9; omega)) ?_
            refine q_lst (prs (vlu ex pa ho dv 0 (sp + 1) (0 + 1)) qu di pr i) ((vlu ex pa ho dv 0 (sp + 1) (0 + 1)) i) hx hb hK hP hD hS 14 2 rfl rfl (k := i) (by omega) (Nat.le_of_ble_eq_true rfl) dX1_price_83 (fun H locs hP hD hS => ?_)
            have hP : va_P D vwCl (mW h ad cI cJ cZ td gc ex pa di qu dc dg da dh dt dv dd ds ak se (va_up (prs (vlu ex pa ho dv 0 (sp + 1) (0 + 1)) qu di pr i) i ((vlu ex pa ho dv 0 (sp + 1) (0 + 1)) i)) th) H := hP
            have hD : va_D A (mW h ad cI cJ cZ td gc ex pa di qu dc dg da dh dt dv dd ds ak se (va_up (prs (vlu ex pa ho dv 0 (sp + 1) (0 + 1)) qu di pr i) i ((vlu ex pa ho dv 0 (sp + 1) (0 + 1)) i)) th) := hD
            refine lv_iinc (v := nI (i + 1)) (lv' := [(4, .int (nI (i + 1))), (5, .int (oI (vlu ex pa ho dv 0 (sp + 1) (0 + 1) i))), (0, .ref h), (1, .int (nI g)), (2, .int (nI sp)), (3, .int (bI true))]) hx hb dX1_price_84 hl (k := 5) rfl (i1_n i) (by decide) rfl (fun ls hl => ?_)
            refine lv_goto (tgt := 24) hx hb dX1_price_87 (by decide) ?_
            have hP : va_P D vwCl (mW h ad cI cJ cZ td gc ex pa di qu dc dg da dh dt dv dd ds ak se (prs (vlu ex pa ho dv 0 (sp + 1) (0 + 1)) qu di pr (i + 1)) th) H := by rw [show prs (vlu ex pa ho dv 0 (sp + 1) (0 + 1)) qu di pr (i + 1) = va_up (prs (vlu ex pa ho dv 0 (sp + 1) (0 + 1)) qu di pr i) i ((vlu ex pa ho dv 0 (sp + 1) (0 + 1)) i) from prs_v k68]; exact hP
            have hD : va_D A (mW h ad cI cJ cZ td gc ex pa di qu dc dg da dh dt dv dd ds ak se (prs (vlu ex pa ho dv 0 (sp + 1) (0 + 1)) qu di pr (i + 1)) th) := by rw [show prs (vlu ex pa ho dv 0 (sp + 1) (0 + 1)) qu di pr (i + 1) = va_up (prs (vlu ex pa ho dv 0 (sp + 1) (0 + 1)) qu di pr i) i ((vlu ex pa ho dv 0 (sp + 1) (0 + 1)) i) from prs_v k68]; exact hD
            exact ih (i + 1) (by omega) (by omega) _ _ hP hD hS _ (lv_sub hl [2, 3, 4, 5, 0] rfl)
          · refine lv_aload_n hx hb dX1_price_71 rfl (lv_at hl 1 rfl) ?_
            refine lv_iload hx hb dX1_price_72 (lv_at hl 5 rfl) ?_
            refine q_callJ (r := (oL (bnd qu (prs (vlu ex pa ho dv 0 (sp + 1) (0 + 1)) qu di pr i) di i))) (va_runV (As := [.int (nI i)]) (rest := [.int (nI i), .ref (ad 16)]) ⟨hx, hb, hml, hown, hts⟩ (kX1_bundle l D h ad cI cJ cZ td gc ex pa di qu dc dg da dh dt dv dd ds ak se (prs (vlu ex pa ho dv 0 (sp + 1) (0 + 1)) qu di pr i) th i (by omega) hqu hdi (prs_in hvb hpb i (by omega))) (cwV 1 hts gX1_price_X1_bundle rfl rfl rfl (by decide +kernel) ⟨Nat.le_of_ble_eq_true rfl, Nat.le_of_ble_eq_true rfl⟩) ⟨pP_blind, va_recv hK hP (ci := 1) (q0 := 0) rfl rfl, pP_pre hP hK⟩ rfl rfl hl.1 rfl (lv_room (Nat.le_of_ble_eq_true rfl)) dX1_price_74 ⟨Nat.zero_le _, Nat.zero_le _⟩) ?_
            refine lv_goto (tgt := 83) hx hb dX1_price_77 (by decide) ?_
            refine q_lst (prs (vlu ex pa ho dv 0 (sp + 1) (0 + 1)) qu di pr i) (bnd qu (prs (vlu ex pa ho dv 0 (sp + 1) (0 + 1)) qu di pr i) di i) hx hb hK hP hD hS 14 2 rfl rfl (k := i) (by omega) (Nat.le_of_ble_eq_true rfl) dX1_price_83 (fun H locs hP hD hS => ?_)
            have hP : va_P D vwCl (mW h ad cI cJ cZ td gc ex pa di qu dc dg da dh dt dv dd ds ak se (va_up (prs (vlu ex pa ho dv 0 (sp + 1) (0 + 1)) qu di pr i) i (bnd qu (prs (vlu ex pa ho dv 0 (sp + 1) (0 + 1)) qu di pr i) di i)) th) H := hP
            have hD : va_D A (mW h ad cI cJ cZ td gc ex pa di qu dc dg da dh dt dv dd ds ak se (va_up (prs (vlu ex pa ho dv 0 (sp + 1) (0 + 1)) qu di pr i) i (bnd qu (prs (vlu ex pa ho dv 0 (sp + 1) (0 + 1)) qu di pr i) di i)) th) := hD
            refine lv_iinc (v := nI (i + 1)) (lv' := [(4, .int (nI (i + 1))), (5, .int (oI (vlu ex pa ho dv 0 (sp + 1) (0 + 1) i))), (0, .ref h), (1, .int (nI g)), (2, .int (nI sp)), (3, .int (bI true))]) hx hb dX1_price_84 hl (k := 5) rfl (i1_n i) (by decide) rfl (fun ls hl => ?_)
            refine lv_goto (tgt := 24) hx hb dX1_price_87 (by decide) ?_
            have hP : va_P D vwCl (mW h ad cI cJ cZ td gc ex pa di qu dc dg da dh dt dv dd ds ak se (prs (vlu ex pa ho dv 0 (sp + 1) (0 + 1)) qu di pr (i + 1)) th) H := by rw [show prs (vlu ex pa ho dv 0 (sp + 1) (0 + 1)) qu di pr (i + 1) = va_up (prs (vlu ex pa ho dv 0 (sp + 1) (0 + 1)) qu di pr i) i (bnd qu (prs (vlu ex pa ho dv 0 (sp + 1) (0 + 1)) qu di pr i) di i) from prs_b k68]; exact hP
            have hD : va_D A (mW h ad cI cJ cZ td gc ex pa di qu dc dg da dh dt dv dd ds ak se (prs (vlu ex pa ho dv 0 (sp + 1) (0 + 1)) qu di pr (i + 1)) th) := by rw [show prs (vlu ex pa ho dv 0 (sp + 1) (0 + 1)) qu di pr (i + 1) = va_up (prs (vlu ex pa ho dv 0 (sp + 1) (0 + 1)) qu di pr i) i (bnd qu (prs (vlu ex pa ho dv 0 (sp + 1) (0 + 1)) qu di pr i) di i) from prs_b k68]; exact hD
            exact ih (i + 1) (by omega) (by omega) _ _ hP hD hS _ (lv_sub hl [2, 3, 4, 5, 0] rfl)
  have hP : va_P D vwCl (mW h ad cI cJ cZ td gc ex pa di qu dc dg da dh dt dv dd ds ak se (prs (vlu ex pa ho dv 0 (sp + 1) (0 + 1)) qu di pr 0) th) s.heap := by rw [show prs (vlu ex pa ho dv 0 (sp + 1) (0 + 1)) qu di pr 0 = pr from rfl]; exact hP
  have hD : va_D A (mW h ad cI cJ cZ td gc ex pa di qu dc dg da dh dt dv dd ds ak se (prs (vlu ex pa ho dv 0 (sp + 1) (0 + 1)) qu di pr 0) th) := by rw [show prs (vlu ex pa ho dv 0 (sp + 1) (0 + 1)) qu di pr 0 = pr from rfl]; exact hD
  exact loop24 (g + 2) 0 (by omega) (by omega) _ _ hP hD hS _ (lv_sub hl [2, 3, 4, 1, 0] rfl)

set_option maxHeartbeats 4000000 in
set_option maxRecDepth 100000 in
theorem kX1_price2 (l : Launch) (D : va_G) (h : Nat) (ad : Nat → Nat) (cI cJ cZ : ClassId) (td : Nat) (gc : Nat) (ex : Nat → Bool) (pa : Nat → Option Nat) (di : Nat → Nat) (qu : Nat → Nat) (dc : Nat) (dg : Nat → Nat) (da : Nat → Nat) (dh : Nat → Option Nat) (dt : Nat → Option Nat) (dv : Nat → Option Nat) (dd : Nat → Nat) (ds : Nat → Nat) (ak : Nat → Bool) (se : Nat → Option Nat) (pr : Nat → Option Nat) (th : Nat) (sz : Nat) (ho : Nat → Option Nat) (lev : Nat → Nat) (g sp : Nat) (hti : TI ex pa lev) (hg : g < 16) (he : ex g = true) (hs : sp < 3) (hgc : gc ≤ 16) (hxg : ∀ j, j < 16 → ex j = true → j < gc) (hrd : RD dc dg da dh dt dd ds td) (hrh : RH ex ho dc dg da dh dt dd ds td) (hpr : PR pa) (hho : HO ho dc) (hdv : DV dv dc) (hqu : ∀ k, k < 256 → qu k ≤ 20) (hdi : ∀ k, k < 16 → di k ≤ 100) (hpb : ∀ k, k < 16 → ∀ v, pr k = some v → v ≤ 1000000000) (hnv : prs (vlu ex pa ho dv 0 (sp + 1) (0 + 1)) qu di pr (g + 1) g = none) : Met l yX1_price wsX1_price ({ frames := 3, cells := 0, slots := 0, locals := 79 } : Room) (wP D (mW h ad cI cJ cZ td gc ex pa di qu dc dg da dh dt dv dd ds ak se pr th) (mT cI cJ cZ) [.ref h, .int (nI g), .int (nI sp)] sz) (wQ D (mW h ad cI cJ cZ td gc ex pa di qu dc dg da dh dt dv dd ds ak se pr th) (mW h ad cI cJ cZ td gc ex pa di qu dc dg da dh dt dv dd ds ak se (prs (vlu ex pa ho dv 0 (sp + 1) (0 + 1)) qu di pr (g + 1)) 2) (some (.int (nI 0)))) 0 0 (va_A (mW h ad cI cJ cZ td gc ex pa di qu dc dg da dh dt dv dd ds ak se pr th) sz) := by
  refine Met.ofW (cc := cX1_price) (maxL := 6) (ret := (some .int)) (by decide) rfl ?_
  intro p e s m args below meth c s₁ B hml hv
  obtain ⟨rfl, hsz, hP, hK, hD0⟩ := hv
  have hx := B.exec
  have hb := B.bytes
  have hr := B.returns
  have hts := atoms_spec (ws := wsX1_price) B.pre
  have hown : s.vm.findClass RX1 = some m.cls := findClass_of_methodNamed B.named
  have hlocks := B.notSynchronized
  subst hsz
  have hD := hD0.self (sz := s.heap.size)
  generalize hAe : va_A (mW h ad cI cJ cZ td gc ex pa di qu dc dg da dh dt dv dd ds ak se pr th) s.heap.size = A at hD ⊢
  have hA : ∀ q : Nat, s.heap.size ≤ q → A q := fun q h => by rw [← hAe]; exact Or.inr h
  have hS : va_S A s.heap s.heap [] := va_S.rf
  have hl := lv_entry ([.ref h, .int (nI g), .int (nI sp)]) (n := 6) (Nat.le_of_ble_eq_true rfl)
  rw [lg_entry_eq]
  generalize (lg_sl ([.ref h, .int (nI g), .int (nI sp)]) ++ List.replicate (6 - (lg_sl ([.ref h, .int (nI g), .int (nI sp)])).length) Slot.unset).toArray = ls at hl ⊢
  have hl : lv_has ls 6 [(0, .ref h), (1, .int (nI g)), (2, .int (nI sp))] := hl
  have hvb : ∀ k, k < 16 → ∀ v, (vlu ex pa ho dv 0 (sp + 1) (0 + 1)) k = some v → v ≤ 100000 := fun k hk => vlu_in hho hpr hdv hk (by omega) (show sp + 1 < 4 by omega) (by omega)
  refine lv_aload_n hx hb dX1_price_0 rfl (lv_at hl 0 rfl) ?_
  refine lv_iload_n hx hb dX1_price_1 rfl (lv_at hl 1 rfl) ?_
  refine q_callI (r := bI (ex g)) (va_runV (As := [.int (nI g)]) (rest := []) ⟨hx, hb, hml, hown, hts⟩ (kX1_isGoodN l D h ad cI cJ cZ td gc ex pa di qu dc dg da dh dt dv dd ds ak se pr th g hg hgc hxg) (cwV 1 hts gX1_price_X1_isGood rfl rfl rfl (by decide +kernel) ⟨Nat.le_of_ble_eq_true rfl, Nat.le_of_ble_eq_true rfl⟩) ⟨pP_blind, va_recv hK hP (ci := 1) (q0 := 0) rfl rfl, pP_pre hP hK⟩ rfl rfl hl.1 rfl (lv_room (Nat.le_of_ble_eq_true rfl)) dX1_price_2 ⟨Nat.zero_le _, Nat.zero_le _⟩) ?_
  refine q_ifB_eq (b := ex g) (tgt := 19) hx hb dX1_price_5 (by decide) (fun k5 => absurd k5 (by rw [he]; decide)) (fun k5 => ?_)
  refine lv_iload_n hx hb dX1_price_8 rfl (lv_at hl 2 rfl) ?_
  refine q_callI (r := bI (isin (nI sp) (nI 0) (nI 2))) (va_runS (As := [.int (nI sp)]) (rest := []) ⟨hx, hb, hml, hown, hts⟩ (kX1_isShop l (nI sp)) (cwS 1 hts gX1_price_X1_isShop rfl rfl rfl (by decide +kernel) ⟨Nat.le_of_ble_eq_true rfl, Nat.le_of_ble_eq_true rfl⟩) ⟨sP_blind, sP_pre⟩ rfl rfl hl.1 rfl (lv_room (Nat.le_of_ble_eq_true rfl)) dX1_price_9 ⟨Nat.zero_le _, Nat.zero_le _⟩) ?_
  refine q_top (y := bI true) (by rw [isin_N (by omega) (by decide), decide_eq_true (by omega)]) ?_
  refine q_ifB_eq (b := true) (tgt := 19) hx hb dX1_price_12 (by decide) (fun k12 => absurd k12 (by decide)) (fun k12 => ?_)
  refine lv_iconst (v := nI 1) hx hb dX1_price_15 (by decide) ?_
  refine lv_goto (tgt := 20) hx hb dX1_price_16 (by decide) ?_
  refine q_top (y := bI true) ((by decide : nI 1 = bI true)) ?_
  refine lv_istore_n (lv' := [(3, .int (bI true)), (0, .ref h), (1, .int (nI g)), (2, .int (nI sp))]) hx hb dX1_price_20 rfl hl (by decide) rfl (fun ls hl => ?_)
  refine lv_iconst (v := nI 0) hx hb dX1_price_21 (by decide) ?_
  refine lv_istore (lv' := [(4, .int (nI 0)), (3, .int (bI true)), (0, .ref h), (1, .int (nI g)), (2, .int (nI sp))]) hx hb dX1_price_22 hl (by decide) rfl (fun ls hl => ?_)
  have loop24 : ∀ (n : Nat) (i : Nat), (i ≤ g + 1) → (g + 2 ≤ i + n) → ∀ (H : Heap) (locs : List Loc), va_P D vwCl (mW h ad cI cJ cZ td gc ex pa di qu dc dg da dh dt dv dd ds ak se (prs (vlu ex pa ho dv 0 (sp + 1) (0 + 1)) qu di pr i) th) H → va_D A (mW h ad cI cJ cZ td gc ex pa di qu dc dg da dh dt dv dd ds ak se (prs (vlu ex pa ho dv 0 (sp + 1) (0 + 1)) qu di pr i) th) → va_S A s.heap H locs → ∀ ls : Array Slot, lv_has ls 6 [(0, .ref h), (1, .int (nI g)), (2, .int (nI sp)), (3, .int (bI true)), (4, .int (nI i))] → W p l e ({ frames := 3, cells := 0, slots := 0, locals := 79 } : Room) s m ([.ref h, .int (nI g), .int (nI sp)] : List Value).toArray below meth c H locs 0 0 (MQ below (wQ D (mW h ad cI cJ cZ td gc ex pa di qu dc dg da dh dt dv dd ds ak se pr th) (mW h ad cI cJ cZ td gc ex pa di qu dc dg da dh dt dv dd ds ak se (prs (vlu ex pa ho dv 0 (sp + 1) (0 + 1)) qu di pr (g + 1)) 2) (some (.int (nI 0)))) ([.ref h, .int (nI g), .int (nI sp)] : List Value).toArray s 0 0 A) (F0 m 24 ls []) := by
    intro n
    induction n with
    | zero => intro i hle hn; omega
    | succ n ih =>
      intro i hle hn H locs hP hD hS ls hl
      refine lv_iload_n hx hb dX1_price_24 rfl (lv_at hl 3 rfl) ?_
      refine q_ifB_eq (b := true) (tgt := 90) hx hb dX1_price_25 (by decide) (fun k25 => absurd k25 (by decide)) (fun k25 => ?_)
      refine lv_iload hx hb dX1_price_28 (lv_at hl 4 rfl) ?_
      refine lv_iload_n hx hb dX1_price_30 rfl (lv_at hl 1 rfl) ?_
      refine q_icmpN_gt (a := i) (b := g) (tgt := 90) (by omega) (by omega) hx hb dX1_price_31 (by decide) (fun k31 => ?_) (fun k31 => ?_)
      · have hig : i = g + 1 := by omega
        refine lv_aload_n hx hb dX1_price_90 rfl (lv_at hl 0 rfl) ?_
        refine lv_iload_n hx hb dX1_price_91 rfl (lv_at hl 3 rfl) ?_
        refine q_ifB_ne (b := true) (tgt := 99) hx hb dX1_price_92 (by decide) (fun k92 => ?_) (fun k92 => absurd k92 (by decide))
        refine lv_aload_n hx hb dX1_price_99 rfl (lv_at hl 0 rfl) ?_
        refine va_get (D := D) (ci := 1) (v := .ref (ad 16)) (C := RX1) (T := TX1) (N := 18) hx hb hts (iX1_price) hown hK hP 0 rfl rfl 16 (by decide) (hts (.fieldLink RX1 50 "ShopHubModel" "price" "[J") (by decide +kernel)) (fun _ h9 => h9) rfl dX1_price_100 ?_
        refine lv_iload_n hx hb dX1_price_103 rfl (lv_at hl 1 rfl) ?_
        refine q_lld (prs (vlu ex pa ho dv 0 (sp + 1) (0 + 1)) qu di pr i) hx hb hK hP 14 2 rfl rfl (k := g) (by omega) (Nat.le_of_ble_eq_true rfl) dX1_price_104 ?_
        refine lv_ldc2 (v := -1) hx hb hown (hts (.constantLong RX1 114 (-1)) (by decide +kernel)) dX1_price_105 ?_
        refine q_topL (y := (oL none)) (by decide) ?_
        refine W.lcmp hx hb dX1_price_108 ?_
        refine lv_if_ne (tgt := 116) hx hb dX1_price_109 (by decide) (fun k109 => absurd ((lcm_o (fun k h9 => by have := prs_in hvb hpb i (by omega) g hg k h9; omega)).mpr (by rw [hig]; exact hnv)) k109) (fun k109 => ?_)
        refine lv_iconst (v := nI 2) hx hb dX1_price_112 (by decide) ?_
        refine lv_goto (tgt := 117) hx hb dX1_price_113 (by decide) ?_
        refine q_wcallI (r := bI (decide (0 < 2))) (w' := (mW h ad cI cJ cZ td gc ex pa di qu dc dg da dh dt dv dd ds ak se (prs (vlu ex pa ho dv 0 (sp + 1) (0 + 1)) qu di pr i) 2)) (va_runV (As := [.int (nI 2)]) (rest := []) ⟨hx, hb, hml, hown, hts⟩ (kX1_fails l D h ad cI cJ cZ td gc ex pa di qu dc dg da dh dt dv dd ds ak se (prs (vlu ex pa ho dv 0 (sp + 1) (0 + 1)) qu di pr i) th _ 2 (by decide)) (cwV 1 hts gX1_price_X1_fails rfl rfl rfl (by decide +kernel) ⟨Nat.le_of_ble_eq_true rfl, Nat.le_of_ble_eq_true rfl⟩) ⟨wP_blind, va_recv hK hP (ci := 1) (q0 := 0) rfl rfl, wP_pre hP hK hD⟩ rfl rfl hl.1 rfl (lv_room (Nat.le_of_ble_eq_true rfl)) dX1_price_117 ⟨Nat.zero_le _, Nat.zero_le _⟩) hD hS hA rfl (fun H locs hP hD hS => ?_)
        refine q_ifB_eq (b := decide (0 < 2)) (tgt := 127) hx hb dX1_price_120 (by decide) (fun k120 => absurd k120 (by decide)) (fun k120 => ?_)
        refine lv_iconst (v := nI 0) hx hb dX1_price_123 (by decide) ?_
        refine lv_goto (tgt := 134) hx hb dX1_price_124 (by decide) ?_
        have hP : va_P D vwCl (mW h ad cI cJ cZ td gc ex pa di qu dc dg da dh dt dv dd ds ak se (prs (vlu ex pa ho dv 0 (sp + 1) (0 + 1)) qu di pr (g + 1)) 2) H := by rw [show prs (vlu ex pa ho dv 0 (sp + 1) (0 + 1)) qu di pr (g + 1) = prs (vlu ex pa ho dv 0 (sp + 1) (0 + 1)) qu di pr i from by rw [hig]]; exact hP
        exact q_wretI hx hb hr hlocks hAe hP hS (rfl) dX1_price_134
      · refine lv_aload_n hx hb dX1_price_34 rfl (lv_at hl 0 rfl) ?_
        refine va_get (D := D) (ci := 1) (v := .ref (ad 2)) (C := RX1) (T := TX1) (N := 18) hx hb hts (iX1_price) hown hK hP 0 rfl rfl 2 (by decide) (hts (.fieldLink RX1 7 "ShopHubModel" "isThere" "[Z") (by decide +kernel)) (fun _ h9 => h9) rfl dX1_price_35 ?_
        refine lv_iload hx hb dX1_price_38 (lv_at hl 4 rfl) ?_
        refine q_zld ex hx hb hK hP 1 0 rfl rfl (k := i) (by omega) (Nat.le_of_ble_eq_true rfl) dX1_price_40 ?_
        refine q_ifB_eq (b := ex i) (tgt := 56) hx hb dX1_price_41 (by decide) (fun k41 => ?_) (fun k41 => ?_)
        · refine lv_iconst (v := oI none) hx hb dX1_price_56 (by decide) ?_
          refine q_top (y := oI ((vlu ex pa ho dv 0 (sp + 1) (0 + 1)) i)) (by rw [vlu_dead k41]) ?_
          refine lv_istore (lv' := [(5, .int (oI ((vlu ex pa ho dv 0 (sp + 1) (0 + 1)) i))), (0, .ref h), (1, .int (nI g)), (2, .int (nI sp)), (3, .int (bI true)), (4, .int (nI i))]) hx hb dX1_price_57 hl (by decide) rfl (fun ls hl => ?_)
          refine lv_aload_n hx hb dX1_price_59 rfl (lv_at hl 1 rfl) ?_
          refine va_get (D := D) (ci := 1) (v := .ref (ad 16)) (C := RX1) (T := TX1) (N := 18) hx hb hts (iX1_price) hown hK hP 0 rfl rfl 16 (by decide) (hts (.fieldLink RX1 50 "ShopHubModel" "price" "[J") (by decide +kernel)) (fun _ h9 => h9) rfl dX1_price_60 ?_
          refine lv_iload hx hb dX1_price_63 (lv_at hl 5 rfl) ?_
          refine lv_iload hx hb dX1_price_65 (lv_at hl 0 rfl) ?_
          refine lv_iconst (v := oI none) hx hb dX1_price_67 (by decide) ?_
          refine q_icmpO_ne (a := (vlu ex pa ho dv 0 (sp + 1) (0 + 1)) i) (b := none) (tgt := 80) (fun k h9 => by have := hvb i (by omega) k h9; omega) (fun k h9 => by cases h9) hx hb dX1_price_68 (by decide) (fun k68 => ?_) (fun k68 => ?_)
          · refine lv_iload hx hb dX1_price_80 (lv_at hl 0 rfl) ?_
            refine lv_i2l (v := (oL ((vlu ex pa ho dv 0 (sp + 1) (0 + 1)) i))) hx hb dX1_price_82 (oI_l (fun k h9 => by have := hvb i (by omega) k h9; omega)) ?_
            refine q_lst (prs (vlu ex pa ho dv 0 (sp + 1) (0 + 1)) qu di pr i) ((vlu ex pa ho dv 0 (sp + 1) (0 + 1)) i) hx hb hK hP hD hS 14 2 rfl rfl (k := i) (by omega) (Nat.le_of_ble_eq_true rfl) dX1_price_83 (fun H locs hP hD hS => ?_)
            have hP : va_P D vwCl (mW h ad cI cJ cZ td gc ex pa di qu dc dg da dh dt dv dd ds ak se (va_up (prs (vlu ex pa ho dv 0 (sp + 1) (0 + 1)) qu di pr i) i ((vlu ex pa ho dv 0 (sp + 1) (0 + 1)) i)) th) H := hP
            have hD : va_D A (mW h ad cI cJ cZ td gc ex pa di qu dc dg da dh dt dv dd ds ak se (va_up (prs (vlu ex pa ho dv 0 (sp + 1) (0 + 1)) qu di pr i) i ((vlu ex pa ho dv 0 (sp + 1) (0 + 1)) i)) th) := hD
            refine lv_iinc (v := nI (i + 1)) (lv' := [(4, .int (nI (i + 1))), (5, .int (oI ((vlu ex pa ho dv 0 (sp + 1) (0 + 1)) i))), (0, .ref h), (1, .int (nI g)), (2, .int (nI sp)), (3, .int (bI true))]) hx hb dX1_price_84 hl (k := 5) rfl (i1_n i) (by decide) rfl (fun ls hl => ?_)
            refine lv_goto (tgt := 24) hx hb dX1_price_87 (by decide) ?_
            have hP : va_P D vwCl (mW h ad cI cJ cZ td gc ex pa di qu dc dg da dh dt dv dd ds ak se (prs (vlu ex pa ho dv 0 (sp + 1) (0 + 1)) qu di pr (i + 1)) th) H := by rw [show prs (vlu ex pa ho dv 0 (sp + 1) (0 + 1)) qu di pr (i + 1) = va_up (prs (vlu ex pa ho dv 0 (sp + 1) (0 + 1)) qu di pr i) i ((vlu ex pa ho dv 0 (sp + 1) (0 + 1)) i) from prs_v k68]; exact hP
            have hD : va_D A (mW h ad cI cJ cZ td gc ex pa di qu dc dg da dh dt dv dd ds ak se (prs (vlu ex pa ho dv 0 (sp + 1) (0 + 1)) qu di pr (i + 1)) th) := by rw [show prs (vlu ex pa ho dv 0 (sp + 1) (0 + 1)) qu di pr (i + 1) = va_up (prs (vlu ex pa ho dv 0 (sp + 1) (0 + 1)) qu di pr i) i ((vlu ex pa ho dv 0 (sp + 1) (0 + 1)) i) from prs_v k68]; exact hD
            exact ih (i + 1) (by omega) (by omega) _ _ hP hD hS _ (lv_sub hl [2, 3, 4, 5, 0] rfl)
          · refine lv_aload_n hx hb dX1_price_71 rfl (lv_at hl 1 rfl) ?_
            refine lv_iload hx hb dX1_price_72 (lv_at hl 5 rfl) ?_
            refine q_callJ (r := (oL (bnd qu (prs (vlu ex pa ho dv 0 (sp + 1) (0 + 1)) qu di pr i) di i))) (va_runV (As := [.int (nI i)]) (rest := [.int (nI i), .ref (ad 16)]) ⟨hx, hb, hml, hown, hts⟩ (kX1_bundle l D h ad cI cJ cZ td gc ex pa di qu dc dg da dh dt dv dd ds ak se (prs (vlu ex pa ho dv 0 (sp + 1) (0 + 1)) qu di pr i) th i (by omega) hqu hdi (prs_in hvb hpb i (by omega))) (cwV 1 hts gX1_price_X1_bundle rfl rfl rfl (by decide +kernel) ⟨Nat.le_of_ble_eq_true rfl, Nat.le_of_ble_eq_true rfl⟩) ⟨pP_blind, va_recv hK hP (ci := 1) (q0 := 0) rfl rfl, pP_pre hP hK⟩ rfl rfl hl.1 rfl (lv_room (Nat.le_of_ble_eq_true rfl)) dX1_price_74 ⟨Nat.zero_le _, Nat.zero_le _⟩) ?_
            refine lv_goto (tgt := 83) hx hb dX1_price_77 (by decide) ?_
            refine q_lst (prs (vlu ex pa ho dv 0 (sp + 1) (0 + 1)) qu di pr i) (bnd qu (prs (vlu ex pa ho dv 0 (sp + 1) (0 + 1)) qu di pr i) di i) hx hb hK hP hD hS 14 2 rfl rfl (k := i) (by omega) (Nat.le_of_ble_eq_true rfl) dX1_price_83 (fun H locs hP hD hS => ?_)
            have hP : va_P D vwCl (mW h ad cI cJ cZ td gc ex pa di qu dc dg da dh dt dv dd ds ak se (va_up (prs (vlu ex pa ho dv 0 (sp + 1) (0 + 1)) qu di pr i) i (bnd qu (prs (vlu ex pa ho dv 0 (sp + 1) (0 + 1)) qu di pr i) di i)) th) H := hP
            have hD : va_D A (mW h ad cI cJ cZ td gc ex pa di qu dc dg da dh dt dv dd ds ak se (va_up (prs (vlu ex pa ho dv 0 (sp + 1) (0 + 1)) qu di pr i) i (bnd qu (prs (vlu ex pa ho dv 0 (sp + 1) (0 + 1)) qu di pr i) di i)) th) := hD
            refine lv_iinc (v := nI (i + 1)) (lv' := [(4, .int (nI (i + 1))), (5, .int (oI ((vlu ex pa ho dv 0 (sp + 1) (0 + 1)) i))), (0, .ref h), (1, .int (nI g)), (2, .int (nI sp)), (3, .int (bI true))]) hx hb dX1_price_84 hl (k := 5) rfl (i1_n i) (by decide) rfl (fun ls hl => ?_)
            refine lv_goto (tgt := 24) hx hb dX1_price_87 (by decide) ?_
            have hP : va_P D vwCl (mW h ad cI cJ cZ td gc ex pa di qu dc dg da dh dt dv dd ds ak se (prs (vlu ex pa ho dv 0 (sp + 1) (0 + 1)) qu di pr (i + 1)) th) H := by rw [show prs (vlu ex pa ho dv 0 (sp + 1) (0 + 1)) qu di pr (i + 1) = va_up (prs (vlu ex pa ho dv 0 (sp + 1) (0 + 1)) qu di pr i) i (bnd qu (prs (vlu ex pa ho dv 0 (sp + 1) (0 + 1)) qu di pr i) di i) from prs_b k68]; exact hP
            have hD : va_D A (mW h ad cI cJ cZ td gc ex pa di qu dc dg da dh dt dv dd ds ak se (prs (vlu ex pa ho dv 0 (sp + 1) (0 + 1)) qu di pr (i + 1)) th) := by rw [show prs (vlu ex pa ho dv 0 (sp + 1) (0 + 1)) qu di pr (i + 1) = va_up (prs (vlu ex pa ho dv 0 (sp + 1) (0 + 1)) qu di pr i) i (bnd qu (prs (vlu ex pa ho dv 0 (sp + 1) (0 + 1)) qu di pr i) di i) from prs_b k68]; exact hD
            exact ih (i + 1) (by omega) (by omega) _ _ hP hD hS _ (lv_sub hl [2, 3, 4, 5, 0] rfl)
        · refine lv_aload_n hx hb dX1_price_44 rfl (lv_at hl 0 rfl) ?_
          refine lv_iload hx hb dX1_price_45 (lv_at hl 4 rfl) ?_
          refine lv_iconst (v := nI 0) hx hb dX1_price_47 (by decide) ?_
          refine lv_iload_n hx hb dX1_price_48 rfl (lv_at hl 2 rfl) ?_
          refine lv_iconst (v := nI 0) hx hb dX1_price_49 (by decide) ?_
          refine q_callI (r := oI (vlu ex pa ho dv 0 (sp + 1) (0 + 1) i)) (va_runV (As := [.int (nI i), .int (nI 0), .int (nI sp), .int (nI 0)]) (rest := []) ⟨hx, hb, hml, hown, hts⟩ (kX1_valueOf l D h ad cI cJ cZ td gc ex pa di qu dc dg da dh dt dv dd ds ak se (prs (vlu ex pa ho dv 0 (sp + 1) (0 + 1)) qu di pr i) th ho lev i 0 sp 0 hti (by omega) k41 (by decide) hs (by decide) hrd hrh hpr hho) (cwV 4 hts gX1_price_X1_valueOf rfl rfl rfl (by decide +kernel) ⟨Nat.le_of_ble_eq_true rfl, Nat.le_of_ble_eq_true rfl⟩) ⟨pP_blind, va_recv hK hP (ci := 1) (q0 := 0) rfl rfl, pP_pre hP hK⟩ rfl rfl hl.1 rfl (lv_room (Nat.le_of_ble_eq_true rfl)) dX1_price_50 ⟨Nat.zero_le _, Nat.zero_le _⟩) ?_
          refine lv_goto (tgt := 57) hx hb dX1_price_53 (by decide) ?_
          refine lv_istore (lv' := [(5, .int (oI (vlu ex pa ho dv 0 (sp + 1) (0 + 1) i))), (0, .ref h), (1, .int (nI g)), (2, .int (nI sp)), (3, .int (bI true)), (4, .int (nI i))]) hx hb dX1_price_57 hl (by decide) rfl (fun ls hl => ?_)
          refine lv_aload_n hx hb dX1_price_59 rfl (lv_at hl 1 rfl) ?_
          refine va_get (D := D) (ci := 1) (v := .ref (ad 16)) (C := RX1) (T := TX1) (N := 18) hx hb hts (iX1_price) hown hK hP 0 rfl rfl 16 (by decide) (hts (.fieldLink RX1 50 "ShopHubModel" "price" "[J") (by decide +kernel)) (fun _ h9 => h9) rfl dX1_price_60 ?_
          refine lv_iload hx hb dX1_price_63 (lv_at hl 5 rfl) ?_
          refine lv_iload hx hb dX1_price_65 (lv_at hl 0 rfl) ?_
          refine lv_iconst (v := oI none) hx hb dX1_price_67 (by decide) ?_
          refine q_icmpO_ne (a := vlu ex pa ho dv 0 (sp + 1) (0 + 1) i) (b := none) (tgt := 80) (fun k h9 => by have := hvb i (by omega) k h9; omega) (fun k h9 => by cases h9) hx hb dX1_price_68 (by decide) (fun k68 => ?_) (fun k68 => ?_)
          · refine lv_iload hx hb dX1_price_80 (lv_at hl 0 rfl) ?_
            refine lv_i2l (v := (oL ((vlu ex pa ho dv 0 (sp + 1) (0 + 1)) i))) hx hb dX1_price_82 (oI_l (fun k h9 => by have := hvb i (by omega) k h9; omega)) ?_
            refine q_lst (prs (vlu ex pa ho dv 0 (sp + 1) (0 + 1)) qu di pr i) ((vlu ex pa ho dv 0 (sp + 1) (0 + 1)) i) hx hb hK hP hD hS 14 2 rfl rfl (k := i) (by omega) (Nat.le_of_ble_eq_true rfl) dX1_price_83 (fun H locs hP hD hS => ?_)
            have hP : va_P D vwCl (mW h ad cI cJ cZ td gc ex pa di qu dc dg da dh dt dv dd ds ak se (va_up (prs (vlu ex pa ho dv 0 (sp + 1) (0 + 1)) qu di pr i) i ((vlu ex pa ho dv 0 (sp + 1) (0 + 1)) i)) th) H := hP
            have hD : va_D A (mW h ad cI cJ cZ td gc ex pa di qu dc dg da dh dt dv dd ds ak se (va_up (prs (vlu ex pa ho dv 0 (sp + 1) (0 + 1)) qu di pr i) i ((vlu ex pa ho dv 0 (sp + 1) (0 + 1)) i)) th) := hD
            refine lv_iinc (v := nI (i + 1)) (lv' := [(4, .int (nI (i + 1))), (5, .int (oI (vlu ex pa ho dv 0 (sp + 1) (0 + 1) i))), (0, .ref h), (1, .int (nI g)), (2, .int (nI sp)), (3, .int (bI true))]) hx hb dX1_price_84 hl (k := 5) rfl (i1_n i) (by decide) rfl (fun ls hl => ?_)
            refine lv_goto (tgt := 24) hx hb dX1_price_87 (by decide) ?_
            have hP : va_P D vwCl (mW h ad cI cJ cZ td gc ex pa di qu dc dg da dh dt dv dd ds ak se (prs (vlu ex pa ho dv 0 (sp + 1) (0 + 1)) qu di pr (i + 1)) th) H := by rw [show prs (vlu ex pa ho dv 0 (sp + 1) (0 + 1)) qu di pr (i + 1) = va_up (prs (vlu ex pa ho dv 0 (sp + 1) (0 + 1)) qu di pr i) i ((vlu ex pa ho dv 0 (sp + 1) (0 + 1)) i) from prs_v k68]; exact hP
            have hD : va_D A (mW h ad cI cJ cZ td gc ex pa di qu dc dg da dh dt dv dd ds ak se (prs (vlu ex pa ho dv 0 (sp + 1) (0 + 1)) qu di pr (i + 1)) th) := by rw [show prs (vlu ex pa ho dv 0 (sp + 1) (0 + 1)) qu di pr (i + 1) = va_up (prs (vlu ex pa ho dv 0 (sp + 1) (0 + 1)) qu di pr i) i ((vlu ex pa ho dv 0 (sp + 1) (0 + 1)) i) from prs_v k68]; exact hD
            exact ih (i + 1) (by omega) (by omega) _ _ hP hD hS _ (lv_sub hl [2, 3, 4, 5, 0] rfl)
          · refine lv_aload_n hx hb dX1_price_71 rfl (lv_at hl 1 rfl) ?_
            refine lv_iload hx hb dX1_price_72 (lv_at hl 5 rfl) ?_
            refine q_callJ (r := (oL (bnd qu (prs (vlu ex pa ho dv 0 (sp + 1) (0 + 1)) qu di pr i) di i))) (va_runV (As := [.int (nI i)]) (rest := [.int (nI i), .ref (ad 16)]) ⟨hx, hb, hml, hown, hts⟩ (kX1_bundle l D h ad cI cJ cZ td gc ex pa di qu dc dg da dh dt dv dd ds ak se (prs (vlu ex pa ho dv 0 (sp + 1) (0 + 1)) qu di pr i) th i (by omega) hqu hdi (prs_in hvb hpb i (by omega))) (cwV 1 hts gX1_price_X1_bundle rfl rfl rfl (by decide +kernel) ⟨Nat.le_of_ble_eq_true rfl, Nat.le_of_ble_eq_true rfl⟩) ⟨pP_blind, va_recv hK hP (ci := 1) (q0 := 0) rfl rfl, pP_pre hP hK⟩ rfl rfl hl.1 rfl (lv_room (Nat.le_of_ble_eq_true rfl)) dX1_price_74 ⟨Nat.zero_le _, Nat.zero_le _⟩) ?_
            refine lv_goto (tgt := 83) hx hb dX1_price_77 (by decide) ?_
            refine q_lst (prs (vlu ex pa ho dv 0 (sp + 1) (0 + 1)) qu di pr i) (bnd qu (prs (vlu ex pa ho dv 0 (sp + 1) (0 + 1)) qu di pr i) di i) hx hb hK hP hD hS 14 2 rfl rfl (k := i) (by omega) (Nat.le_of_ble_eq_true rfl) dX1_price_83 (fun H locs hP hD hS => ?_)
            have hP : va_P D vwCl (mW h ad cI cJ cZ td gc ex pa di qu dc dg da dh dt dv dd ds ak se (va_up (prs (vlu ex pa ho dv 0 (sp + 1) (0 + 1)) qu di pr i) i (bnd qu (prs (vlu ex pa ho dv 0 (sp + 1) (0 + 1)) qu di pr i) di i)) th) H := hP
            have hD : va_D A (mW h ad cI cJ cZ td gc ex pa di qu dc dg da dh dt dv dd ds ak se (va_up (prs (vlu ex pa ho dv 0 (sp + 1) (0 + 1)) qu di pr i) i (bnd qu (prs (vlu ex pa ho dv 0 (sp + 1) (0 + 1)) qu di pr i) di i)) th) := hD
            refine lv_iinc (v := nI (i + 1)) (lv' := [(4, .int (nI (i + 1))), (5, .int (oI (vlu ex pa ho dv 0 (sp + 1) (0 + 1) i))), (0, .ref h), (1, .int (nI g)), (2, .int (nI sp)), (3, .int (bI true))]) hx hb dX1_price_84 hl (k := 5) rfl (i1_n i) (by decide) rfl (fun ls hl => ?_)
            refine lv_goto (tgt := 24) hx hb dX1_price_87 (by decide) ?_
            have hP : va_P D vwCl (mW h ad cI cJ cZ td gc ex pa di qu dc dg da dh dt dv dd ds ak se (prs (vlu ex pa ho dv 0 (sp + 1) (0 + 1)) qu di pr (i + 1)) th) H := by rw [show prs (vlu ex pa ho dv 0 (sp + 1) (0 + 1)) qu di pr (i + 1) = va_up (prs (vlu ex pa ho dv 0 (sp + 1) (0 + 1)) qu di pr i) i (bnd qu (prs (vlu ex pa ho dv 0 (sp + 1) (0 + 1)) qu di pr i) di i) from prs_b k68]; exact hP
            have hD : va_D A (mW h ad cI cJ cZ td gc ex pa di qu dc dg da dh dt dv dd ds ak se (prs (vlu ex pa ho dv 0 (sp + 1) (0 + 1)) qu di pr (i + 1)) th) := by rw [show prs (vlu ex pa ho dv 0 (sp + 1) (0 + 1)) qu di pr (i + 1) = va_up (prs (vlu ex pa ho dv 0 (sp + 1) (0 + 1)) qu di pr i) i (bnd qu (prs (vlu ex pa ho dv 0 (sp + 1) (0 + 1)) qu di pr i) di i) from prs_b k68]; exact hD
            exact ih (i + 1) (by omega) (by omega) _ _ hP hD hS _ (lv_sub hl [2, 3, 4, 5, 0] rfl)
  have hP : va_P D vwCl (mW h ad cI cJ cZ td gc ex pa di qu dc dg da dh dt dv dd ds ak se (prs (vlu ex pa ho dv 0 (sp + 1) (0 + 1)) qu di pr 0) th) s.heap := by rw [show prs (vlu ex pa ho dv 0 (sp + 1) (0 + 1)) qu di pr 0 = pr from rfl]; exact hP
  have hD : va_D A (mW h ad cI cJ cZ td gc ex pa di qu dc dg da dh dt dv dd ds ak se (prs (vlu ex pa ho dv 0 (sp + 1) (0 + 1)) qu di pr 0) th) := by rw [show prs (vlu ex pa ho dv 0 (sp + 1) (0 + 1)) qu di pr 0 = pr from rfl]; exact hD
  exact loop24 (g + 2) 0 (by omega) (by omega) _ _ hP hD hS _ (lv_sub hl [2, 3, 4, 1, 0] rfl)

set_option maxHeartbeats 4000000 in
set_option maxRecDepth 100000 in
theorem kX1_price1 (l : Launch) (D : va_G) (h : Nat) (ad : Nat → Nat) (cI cJ cZ : ClassId) (td : Nat) (gc : Nat) (ex : Nat → Bool) (pa : Nat → Option Nat) (di : Nat → Nat) (qu : Nat → Nat) (dc : Nat) (dg : Nat → Nat) (da : Nat → Nat) (dh : Nat → Option Nat) (dt : Nat → Option Nat) (dv : Nat → Option Nat) (dd : Nat → Nat) (ds : Nat → Nat) (ak : Nat → Bool) (se : Nat → Option Nat) (pr : Nat → Option Nat) (th : Nat) (sz : Nat) (g x : Int32) (hgc : gc ≤ 16) (hxg : ∀ j, j < 16 → ex j = true → j < gc) (hs : gBad ex g ∨ ∃ j, j < 16 ∧ g = nI j ∧ ex j = true ∧ aBad 3 x) : Met l yX1_price wsX1_price ({ frames := 2, cells := 0, slots := 0, locals := 43 } : Room) (wP D (mW h ad cI cJ cZ td gc ex pa di qu dc dg da dh dt dv dd ds ak se pr th) (mT cI cJ cZ) [.ref h, .int g, .int x] sz) (wQ D (mW h ad cI cJ cZ td gc ex pa di qu dc dg da dh dt dv dd ds ak se pr th) (mW h ad cI cJ cZ td gc ex pa di qu dc dg da dh dt dv dd ds ak se pr 1) (some (.int (nI 0)))) 0 0 (va_A (mW h ad cI cJ cZ td gc ex pa di qu dc dg da dh dt dv dd ds ak se pr th) sz) := by
  refine Met.ofW (cc := cX1_price) (maxL := 6) (ret := (some .int)) (by decide) rfl ?_
  intro p e s m args below meth c s₁ B hml hv
  obtain ⟨rfl, hsz, hP, hK, hD0⟩ := hv
  have hx := B.exec
  have hb := B.bytes
  have hr := B.returns
  have hts := atoms_spec (ws := wsX1_price) B.pre
  have hown : s.vm.findClass RX1 = some m.cls := findClass_of_methodNamed B.named
  have hlocks := B.notSynchronized
  subst hsz
  have hD := hD0.self (sz := s.heap.size)
  generalize hAe : va_A (mW h ad cI cJ cZ td gc ex pa di qu dc dg da dh dt dv dd ds ak se pr th) s.heap.size = A at hD ⊢
  have hA : ∀ q : Nat, s.heap.size ≤ q → A q := fun q h => by rw [← hAe]; exact Or.inr h
  have hS : va_S A s.heap s.heap [] := va_S.rf
  have hl := lv_entry ([.ref h, .int g, .int x]) (n := 6) (Nat.le_of_ble_eq_true rfl)
  rw [lg_entry_eq]
  generalize (lg_sl ([.ref h, .int g, .int x]) ++ List.replicate (6 - (lg_sl ([.ref h, .int g, .int x])).length) Slot.unset).toArray = ls at hl ⊢
  have hl : lv_has ls 6 [(0, .ref h), (1, .int g), (2, .int x)] := hl
  rcases hs with hs | ⟨j, hj, rfl, he, hs⟩
  · refine lv_aload_n hx hb dX1_price_0 rfl (lv_at hl 0 rfl) ?_
    rcases gBad_c hs with hs | ⟨j, hj, rfl, he⟩
    · refine lv_iload_n hx hb dX1_price_1 rfl (lv_at hl 1 rfl) ?_
      refine q_callI (r := bI false) (va_runV (As := [.int g]) (rest := []) ⟨hx, hb, hml, hown, hts⟩ (kX1_isGoodR l D h ad cI cJ cZ td gc ex pa di qu dc dg da dh dt dv dd ds ak se pr th g hgc hs) (cwV 1 hts gX1_price_X1_isGood rfl rfl rfl (by decide +kernel) ⟨Nat.le_of_ble_eq_true rfl, Nat.le_of_ble_eq_true rfl⟩) ⟨pP_blind, va_recv hK hP (ci := 1) (q0 := 0) rfl rfl, pP_pre hP hK⟩ rfl rfl hl.1 rfl (lv_room (Nat.le_of_ble_eq_true rfl)) dX1_price_2 ⟨Nat.zero_le _, Nat.zero_le _⟩) ?_
      refine q_ifB_eq (b := false) (tgt := 19) hx hb dX1_price_5 (by decide) (fun k5 => ?_) (fun k5 => absurd k5 (by decide))
      refine lv_iconst (v := nI 0) hx hb dX1_price_19 (by decide) ?_
      refine q_top (y := bI false) ((by decide : nI 0 = bI false)) ?_
      refine lv_istore_n (lv' := [(3, .int (bI false)), (0, .ref h), (1, .int g), (2, .int x)]) hx hb dX1_price_20 rfl hl (by decide) rfl (fun ls hl => ?_)
      refine lv_iconst (v := nI 0) hx hb dX1_price_21 (by decide) ?_
      refine lv_istore (lv' := [(4, .int (nI 0)), (3, .int (bI false)), (0, .ref h), (1, .int g), (2, .int x)]) hx hb dX1_price_22 hl (by decide) rfl (fun ls hl => ?_)
      refine lv_iload_n hx hb dX1_price_24 rfl (lv_at hl 1 rfl) ?_
      refine q_ifB_eq (b := false) (tgt := 90) hx hb dX1_price_25 (by decide) (fun k25 => ?_) (fun k25 => absurd k25 (by decide))
      refine lv_aload_n hx hb dX1_price_90 rfl (lv_at hl 2 rfl) ?_
      refine lv_iload_n hx hb dX1_price_91 rfl (lv_at hl 1 rfl) ?_
      refine q_ifB_ne (b := false) (tgt := 99) hx hb dX1_price_92 (by decide) (fun k92 => absurd k92 (by decide)) (fun k92 => ?_)
      refine lv_iconst (v := nI 1) hx hb dX1_price_95 (by decide) ?_
      refine lv_goto (tgt := 117) hx hb dX1_price_96 (by decide) ?_
      refine q_wcallI (r := bI (decide (0 < 1))) (w' := (mW h ad cI cJ cZ td gc ex pa di qu dc dg da dh dt dv dd ds ak se pr 1)) (va_runV (As := [.int (nI 1)]) (rest := []) ⟨hx, hb, hml, hown, hts⟩ (kX1_fails l D h ad cI cJ cZ td gc ex pa di qu dc dg da dh dt dv dd ds ak se pr th _ 1 (by decide)) (cwV 1 hts gX1_price_X1_fails rfl rfl rfl (by decide +kernel) ⟨Nat.le_of_ble_eq_true rfl, Nat.le_of_ble_eq_true rfl⟩) ⟨wP_blind, va_recv hK hP (ci := 1) (q0 := 0) rfl rfl, wP_pre hP hK hD⟩ rfl rfl hl.1 rfl (lv_room (Nat.le_of_ble_eq_true rfl)) dX1_price_117 ⟨Nat.zero_le _, Nat.zero_le _⟩) hD hS hA rfl (fun H locs hP hD hS => ?_)
      refine q_ifB_eq (b := decide (0 < 1)) (tgt := 127) hx hb dX1_price_120 (by decide) (fun k120 => absurd k120 (by decide)) (fun k120 => ?_)
      refine lv_iconst (v := nI 0) hx hb dX1_price_123 (by decide) ?_
      refine lv_goto (tgt := 134) hx hb dX1_price_124 (by decide) ?_
      exact q_wretI hx hb hr hlocks hAe hP hS (rfl) dX1_price_134
    · refine lv_iload_n hx hb dX1_price_1 rfl (lv_at hl 1 rfl) ?_
      refine q_callI (r := bI (ex j)) (va_runV (As := [.int (nI j)]) (rest := []) ⟨hx, hb, hml, hown, hts⟩ (kX1_isGoodN l D h ad cI cJ cZ td gc ex pa di qu dc dg da dh dt dv dd ds ak se pr th j hj hgc hxg) (cwV 1 hts gX1_price_X1_isGood rfl rfl rfl (by decide +kernel) ⟨Nat.le_of_ble_eq_true rfl, Nat.le_of_ble_eq_true rfl⟩) ⟨pP_blind, va_recv hK hP (ci := 1) (q0 := 0) rfl rfl, pP_pre hP hK⟩ rfl rfl hl.1 rfl (lv_room (Nat.le_of_ble_eq_true rfl)) dX1_price_2 ⟨Nat.zero_le _, Nat.zero_le _⟩) ?_
      refine q_ifB_eq (b := ex j) (tgt := 19) hx hb dX1_price_5 (by decide) (fun k5 => ?_) (fun k5 => absurd k5 (by rw [he]; decide))
      refine lv_iconst (v := nI 0) hx hb dX1_price_19 (by decide) ?_
      refine q_top (y := bI false) ((by decide : nI 0 = bI false)) ?_
      refine lv_istore_n (lv' := [(3, .int (bI false)), (0, .ref h), (1, .int (nI j)), (2, .int x)]) hx hb dX1_price_20 rfl hl (by decide) rfl (fun ls hl => ?_)
      refine lv_iconst (v := nI 0) hx hb dX1_price_21 (by decide) ?_
      refine lv_istore (lv' := [(4, .int (nI 0)), (3, .int (bI false)), (0, .ref h), (1, .int (nI j)), (2, .int x)]) hx hb dX1_price_22 hl (by decide) rfl (fun ls hl => ?_)
      refine lv_iload_n hx hb dX1_price_24 rfl (lv_at hl 1 rfl) ?_
      refine q_ifB_eq (b := false) (tgt := 90) hx hb dX1_price_25 (by decide) (fun k25 => ?_) (fun k25 => absurd k25 (by decide))
      refine lv_aload_n hx hb dX1_price_90 rfl (lv_at hl 2 rfl) ?_
      refine lv_iload_n hx hb dX1_price_91 rfl (lv_at hl 1 rfl) ?_
      refine q_ifB_ne (b := false) (tgt := 99) hx hb dX1_price_92 (by decide) (fun k92 => absurd k92 (by decide)) (fun k92 => ?_)
      refine lv_iconst (v := nI 1) hx hb dX1_price_95 (by decide) ?_
      refine lv_goto (tgt := 117) hx hb dX1_price_96 (by decide) ?_
      refine q_wcallI (r := bI (decide (0 < 1))) (w' := (mW h ad cI cJ cZ td gc ex pa di qu dc dg da dh dt dv dd ds ak se pr 1)) (va_runV (As := [.int (nI 1)]) (rest := []) ⟨hx, hb, hml, hown, hts⟩ (kX1_fails l D h ad cI cJ cZ td gc ex pa di qu dc dg da dh dt dv dd ds ak se pr th _ 1 (by decide)) (cwV 1 hts gX1_price_X1_fails rfl rfl rfl (by decide +kernel) ⟨Nat.le_of_ble_eq_true rfl, Nat.le_of_ble_eq_true rfl⟩) ⟨wP_blind, va_recv hK hP (ci := 1) (q0 := 0) rfl rfl, wP_pre hP hK hD⟩ rfl rfl hl.1 rfl (lv_room (Nat.le_of_ble_eq_true rfl)) dX1_price_117 ⟨Nat.zero_le _, Nat.zero_le _⟩) hD hS hA rfl (fun H locs hP hD hS => ?_)
      refine q_ifB_eq (b := decide (0 < 1)) (tgt := 127) hx hb dX1_price_120 (by decide) (fun k120 => absurd k120 (by decide)) (fun k120 => ?_)
      refine lv_iconst (v := nI 0) hx hb dX1_price_123 (by decide) ?_
      refine lv_goto (tgt := 134) hx hb dX1_price_124 (by decide) ?_
      exact q_wretI hx hb hr hlocks hAe hP hS (rfl) dX1_price_134
  · refine lv_aload_n hx hb dX1_price_0 rfl (lv_at hl 0 rfl) ?_
    refine lv_iload_n hx hb dX1_price_1 rfl (lv_at hl 1 rfl) ?_
    refine q_callI (r := bI (ex j)) (va_runV (As := [.int (nI j)]) (rest := []) ⟨hx, hb, hml, hown, hts⟩ (kX1_isGoodN l D h ad cI cJ cZ td gc ex pa di qu dc dg da dh dt dv dd ds ak se pr th j hj hgc hxg) (cwV 1 hts gX1_price_X1_isGood rfl rfl rfl (by decide +kernel) ⟨Nat.le_of_ble_eq_true rfl, Nat.le_of_ble_eq_true rfl⟩) ⟨pP_blind, va_recv hK hP (ci := 1) (q0 := 0) rfl rfl, pP_pre hP hK⟩ rfl rfl hl.1 rfl (lv_room (Nat.le_of_ble_eq_true rfl)) dX1_price_2 ⟨Nat.zero_le _, Nat.zero_le _⟩) ?_
    refine q_ifB_eq (b := ex j) (tgt := 19) hx hb dX1_price_5 (by decide) (fun k5 => absurd k5 (by rw [he]; decide)) (fun k5 => ?_)
    refine lv_iload_n hx hb dX1_price_8 rfl (lv_at hl 2 rfl) ?_
    refine q_callI (r := bI (isin x (nI 0) (nI 2))) (va_runS (As := [.int x]) (rest := []) ⟨hx, hb, hml, hown, hts⟩ (kX1_isShop l x) (cwS 1 hts gX1_price_X1_isShop rfl rfl rfl (by decide +kernel) ⟨Nat.le_of_ble_eq_true rfl, Nat.le_of_ble_eq_true rfl⟩) ⟨sP_blind, sP_pre⟩ rfl rfl hl.1 rfl (lv_room (Nat.le_of_ble_eq_true rfl)) dX1_price_9 ⟨Nat.zero_le _, Nat.zero_le _⟩) ?_
    refine q_top (y := bI false) (by rw [isin_ab (m := 3) (by decide) rfl hs]) ?_
    refine q_ifB_eq (b := false) (tgt := 19) hx hb dX1_price_12 (by decide) (fun k12 => ?_) (fun k12 => absurd k12 (by decide))
    refine lv_iconst (v := nI 0) hx hb dX1_price_19 (by decide) ?_
    refine q_top (y := bI false) ((by decide : nI 0 = bI false)) ?_
    refine lv_istore_n (lv' := [(3, .int (bI false)), (0, .ref h), (1, .int (nI j)), (2, .int x)]) hx hb dX1_price_20 rfl hl (by decide) rfl (fun ls hl => ?_)
    refine lv_iconst (v := nI 0) hx hb dX1_price_21 (by decide) ?_
    refine lv_istore (lv' := [(4, .int (nI 0)), (3, .int (bI false)), (0, .ref h), (1, .int (nI j)), (2, .int x)]) hx hb dX1_price_22 hl (by decide) rfl (fun ls hl => ?_)
    refine lv_iload_n hx hb dX1_price_24 rfl (lv_at hl 1 rfl) ?_
    refine q_ifB_eq (b := false) (tgt := 90) hx hb dX1_price_25 (by decide) (fun k25 => ?_) (fun k25 => absurd k25 (by decide))
    refine lv_aload_n hx hb dX1_price_90 rfl (lv_at hl 2 rfl) ?_
    refine lv_iload_n hx hb dX1_price_91 rfl (lv_at hl 1 rfl) ?_
    refine q_ifB_ne (b := false) (tgt := 99) hx hb dX1_price_92 (by decide) (fun k92 => absurd k92 (by decide)) (fun k92 => ?_)
    refine lv_iconst (v := nI 1) hx hb dX1_price_95 (by decide) ?_
    refine lv_goto (tgt := 117) hx hb dX1_price_96 (by decide) ?_
    refine q_wcallI (r := bI (decide (0 < 1))) (w' := (mW h ad cI cJ cZ td gc ex pa di qu dc dg da dh dt dv dd ds ak se pr 1)) (va_runV (As := [.int (nI 1)]) (rest := []) ⟨hx, hb, hml, hown, hts⟩ (kX1_fails l D h ad cI cJ cZ td gc ex pa di qu dc dg da dh dt dv dd ds ak se pr th _ 1 (by decide)) (cwV 1 hts gX1_price_X1_fails rfl rfl rfl (by decide +kernel) ⟨Nat.le_of_ble_eq_true rfl, Nat.le_of_ble_eq_true rfl⟩) ⟨wP_blind, va_recv hK hP (ci := 1) (q0 := 0) rfl rfl, wP_pre hP hK hD⟩ rfl rfl hl.1 rfl (lv_room (Nat.le_of_ble_eq_true rfl)) dX1_price_117 ⟨Nat.zero_le _, Nat.zero_le _⟩) hD hS hA rfl (fun H locs hP hD hS => ?_)
    refine q_ifB_eq (b := decide (0 < 1)) (tgt := 127) hx hb dX1_price_120 (by decide) (fun k120 => absurd k120 (by decide)) (fun k120 => ?_)
    refine lv_iconst (v := nI 0) hx hb dX1_price_123 (by decide) ?_
    refine lv_goto (tgt := 134) hx hb dX1_price_124 (by decide) ?_
    exact q_wretI hx hb hr hlocks hAe hP hS (rfl) dX1_price_134
