set_option maxHeartbeats 4000000 in
set_option maxRecDepth 100000 in
theorem kX1_bundle (l : Launch) (D : va_G) (h : Nat) (ad : Nat → Nat) (cI cJ cZ : ClassId) (td : Nat) (gc : Nat) (ex : Nat → Bool) (pa : Nat → Option Nat) (di : Nat → Nat) (qu : Nat → Nat) (dc : Nat) (dg : Nat → Nat) (da : Nat → Nat) (dh : Nat → Option Nat) (dt : Nat → Option Nat) (dv : Nat → Option Nat) (dd : Nat → Nat) (ds : Nat → Nat) (ak : Nat → Bool) (se : Nat → Option Nat) (pr : Nat → Option Nat) (th : Nat) (g : Nat) (hg : g < 16) (hqu : ∀ k, k < 256 → qu k ≤ 20) (hdi : ∀ k, k < 16 → di k ≤ 100) (hpb : ∀ k, k < 16 → ∀ v, pr k = some v → v ≤ 1000000000) : Met l yX1_bundle wsX1_bundle ({ frames := 0, cells := 0, slots := 0, locals := 0 } : Room) (pP D (mW h ad cI cJ cZ td gc ex pa di qu dc dg da dh dt dv dd ds ak se pr th) (mT cI cJ cZ) [.ref h, .int (nI g)]) (pQ (some (.long (oL (bnd qu pr di g))))) 0 0 nF := by
  refine Met.ofW (cc := cX1_bundle) (maxL := 8) (ret := (some .long)) (by decide) rfl ?_
  intro p e s m args below meth c s₁ B hml hv
  obtain ⟨rfl, hP, hK⟩ := hv
  have hx := B.exec
  have hb := B.bytes
  have hr := B.returns
  have hts := atoms_spec (ws := wsX1_bundle) B.pre
  have hown : s.vm.findClass RX1 = some m.cls := findClass_of_methodNamed B.named
  have hlocks := B.notSynchronized
  have hl := lv_entry ([.ref h, .int (nI g)]) (n := 8) (Nat.le_of_ble_eq_true rfl)
  rw [lg_entry_eq]
  generalize (lg_sl ([.ref h, .int (nI g)]) ++ List.replicate (8 - (lg_sl ([.ref h, .int (nI g)])).length) Slot.unset).toArray = ls at hl ⊢
  have hl : lv_has ls 8 [(0, .ref h), (1, .int (nI g))] := hl
  have hDg := hdi g hg
  refine lv_lconst (v := lN 0) hx hb dX1_bundle_0 (by decide) ?_
  refine lv_lstore_n (lv' := [(2, .long (lN 0)), (0, .ref h), (1, .int (nI g))]) hx hb dX1_bundle_1 rfl hl (by decide) rfl (fun ls hl => ?_)
  refine lv_iconst (v := nI 0) hx hb dX1_bundle_2 (by decide) ?_
  refine q_top (y := bI false) ((by decide : nI 0 = bI false)) ?_
  refine lv_istore (lv' := [(4, .int (bI false)), (2, .long (lN 0)), (0, .ref h), (1, .int (nI g))]) hx hb dX1_bundle_3 hl (by decide) rfl (fun ls hl => ?_)
  refine lv_iconst (v := nI 1) hx hb dX1_bundle_5 (by decide) ?_
  refine q_top (y := bI true) ((by decide : nI 1 = bI true)) ?_
  refine lv_istore (lv' := [(5, .int (bI true)), (4, .int (bI false)), (2, .long (lN 0)), (0, .ref h), (1, .int (nI g))]) hx hb dX1_bundle_6 hl (by decide) rfl (fun ls hl => ?_)
  refine lv_iconst (v := nI 0) hx hb dX1_bundle_8 (by decide) ?_
  refine lv_istore (lv' := [(6, .int (nI 0)), (5, .int (bI true)), (4, .int (bI false)), (2, .long (lN 0)), (0, .ref h), (1, .int (nI g))]) hx hb dX1_bundle_9 hl (by decide) rfl (fun ls hl => ?_)
  have loop11 : ∀ (n : Nat) (i : Nat) (b : Bool) (c2 : Bool) (sm : Nat), (i ≤ g) → (g + 1 ≤ i + n) → (b = exU (pos qu g) i) → (c2 = !exU (nop qu pr g) i) → (c2 = true → sm = psm qu pr g i) → (sm ≤ i * 20000000000) → ∀ ls : Array Slot, lv_has ls 8 [(0, .ref h), (1, .int (nI g)), (2, .long (lN sm)), (4, .int (bI b)), (5, .int (bI c2)), (6, .int (nI i))] → W p l e ({ frames := 0, cells := 0, slots := 0, locals := 0 } : Room) s m ([.ref h, .int (nI g)] : List Value).toArray below meth c s.heap [] 0 0 (MQ below (pQ (some (.long (oL (bnd qu pr di g))))) ([.ref h, .int (nI g)] : List Value).toArray s 0 0 nF) (F0 m 11 ls []) := by
    intro n
    induction n with
    | zero => intro i b c2 sm hle hn hb1 hc1 hs1 hsm; omega
    | succ n ih =>
      intro i b c2 sm hle hn hb1 hc1 hs1 hsm ls hl
      refine lv_iload hx hb dX1_bundle_11 (lv_at hl 5 rfl) ?_
      refine lv_iload_n hx hb dX1_bundle_13 rfl (lv_at hl 1 rfl) ?_
      refine q_icmpN_ge (a := i) (b := g) (tgt := 113) (by omega) (by omega) hx hb dX1_bundle_14 (by decide) (fun k14 => ?_) (fun k14 => ?_)
      · have hig : i = g := by omega
        have hb2 : b = exU (pos qu g) g := by rw [hb1, hig]
        have hc2 : c2 = !exU (nop qu pr g) g := by rw [hc1, hig]
        refine lv_lload_n hx hb dX1_bundle_113 rfl (lv_at hl 2 rfl) ?_
        refine lv_bipush (v := nI 100) hx hb dX1_bundle_114 (by decide) ?_
        refine lv_aload_n hx hb dX1_bundle_116 rfl (lv_at hl 0 rfl) ?_
        refine va_get (D := D) (ci := 1) (v := .ref (ad 4)) (C := RX1) (T := TX1) (N := 18) hx hb hts (iX1_bundle) hown hK hP 0 rfl rfl 4 (by decide) (hts (.fieldLink RX1 17 "ShopHubModel" "discount" "[I") (by decide +kernel)) (fun _ h9 => h9) rfl dX1_bundle_117 ?_
        refine lv_iload_n hx hb dX1_bundle_120 rfl (lv_at hl 1 rfl) ?_
        refine q_ald nI di hx hb hK hP 3 1 rfl rfl (k := g) (by omega) (Nat.le_of_ble_eq_true rfl) dX1_bundle_121 ?_
        refine q_subN (a := 100) (b := di g) (by omega) hx hb dX1_bundle_122 ?_
        refine lv_i2l (v := (lN (100 - (di g)))) hx hb dX1_bundle_123 (nI_l (by omega)) ?_
        refine lv_lmul hx hb dX1_bundle_124 ?_
        refine q_topL (y := (lN (sm * (100 - (di g))))) (lN_mul _ _) ?_
        refine lv_ldc2 (v := 100) hx hb hown (hts (.constantLong RX1 116 (100)) (by decide +kernel)) dX1_bundle_125 ?_
        refine q_topL (y := (lN 100)) (by decide) ?_
        refine lv_ldiv hx hb dX1_bundle_128 (by decide) ?_
        refine q_topL (y := (lN ((sm * (100 - di g)) / 100))) (pk_lDiv (by have : sm * (100 - di g) ≤ sm * 100 := Nat.mul_le_mul_left sm (by omega); omega) (by decide) (by decide)) ?_
        refine lv_lstore (lv' := [(6, .long (lN ((sm * (100 - di g)) / 100))), (0, .ref h), (1, .int (nI g)), (2, .long (lN sm)), (4, .int (bI b)), (5, .int (bI c2))]) hx hb dX1_bundle_129 hl (by decide) rfl (fun ls hl => ?_)
        refine lv_iload hx hb dX1_bundle_131 (lv_at hl 4 rfl) ?_
        refine q_ifB_eq (b := b) (tgt := 155) hx hb dX1_bundle_133 (by decide) (fun k133 => ?_) (fun k133 => ?_)
        · refine lv_ldc2 (v := -1) hx hb hown (hts (.constantLong RX1 114 (-1)) (by decide +kernel)) dX1_bundle_155 ?_
          refine q_topL (y := (oL none)) (by decide) ?_
          exact q_retL hx hb hr hlocks (by rw [bnd_p (by rw [← hb2]; exact k133)]) dX1_bundle_158
        · refine lv_iload hx hb dX1_bundle_136 (lv_at hl 5 rfl) ?_
          refine q_ifB_eq (b := c2) (tgt := 155) hx hb dX1_bundle_138 (by decide) (fun k138 => ?_) (fun k138 => ?_)
          · refine lv_ldc2 (v := -1) hx hb hown (hts (.constantLong RX1 114 (-1)) (by decide +kernel)) dX1_bundle_155 ?_
            refine q_topL (y := (oL none)) (by decide) ?_
            exact q_retL hx hb hr hlocks (by rw [bnd_n (by rw [k138] at hc2; cases h9 : exU (nop qu pr g) g with | true => rfl | false => rw [h9] at hc2; cases hc2)]) dX1_bundle_158
          · refine lv_lload hx hb dX1_bundle_141 (lv_at hl 0 rfl) ?_
            refine lv_ldc2 (v := 1000000000) hx hb hown (hts (.constantLong RX1 118 (1000000000)) (by decide +kernel)) dX1_bundle_143 ?_
            refine q_topL (y := (lN 1000000000)) (by decide) ?_
            refine W.lcmp hx hb dX1_bundle_146 ?_
            refine lv_if_gt (tgt := 155) hx hb dX1_bundle_147 (by decide) (fun k147 => ?_) (fun k147 => ?_)
            · have k97 := (pk_lLT (by decide) (by have := @dsc_le sm (di g); omega)).mp ((lg_cmp_gt _ _).mp k147)
              refine lv_ldc2 (v := -1) hx hb hown (hts (.constantLong RX1 114 (-1)) (by decide +kernel)) dX1_bundle_155 ?_
              refine q_topL (y := (oL none)) (by decide) ?_
              exact q_retL hx hb hr hlocks (by rw [bnd_h (by rw [← (by have h9 := hs1 k138; rw [hig] at h9; exact h9 : sm = psm qu pr g g)]; exact k97)]) dX1_bundle_158
            · have k97 := Nat.le_of_not_lt (fun e9 => k147 ((lg_cmp_gt _ _).mpr ((pk_lLT (by decide) (by have := @dsc_le sm (di g); omega)).mpr e9)))
              refine lv_lload hx hb dX1_bundle_150 (lv_at hl 0 rfl) ?_
              refine lv_goto (tgt := 158) hx hb dX1_bundle_152 (by decide) ?_
              exact q_retL hx hb hr hlocks (by rw [bnd_k (by rw [k138] at hc2; cases h9 : exU (nop qu pr g) g with | false => rfl | true => rw [h9] at hc2; cases hc2) (by rw [← hb2]; exact k133) (by rw [← (by have h9 := hs1 k138; rw [hig] at h9; exact h9 : sm = psm qu pr g g)]; exact k97), ← (by have h9 := hs1 k138; rw [hig] at h9; exact h9 : sm = psm qu pr g g)]; rfl) dX1_bundle_158
      · cases b with
        | false =>
          refine lv_aload_n hx hb dX1_bundle_17 rfl (lv_at hl 0 rfl) ?_
          cases c2 with
          | false =>
            refine va_get (D := D) (ci := 1) (v := .ref (ad 5)) (C := RX1) (T := TX1) (N := 18) hx hb hts (iX1_bundle) hown hK hP 0 rfl rfl 5 (by decide) (hts (.fieldLink RX1 20 "ShopHubModel" "quantity" "[I") (by decide +kernel)) (fun _ h9 => h9) rfl dX1_bundle_18 ?_
            rcases Nat.eq_zero_or_pos (qu (g * 16 + i)) with hz | hz
            · refine lv_bipush (v := nI 16) hx hb dX1_bundle_21 (by decide) ?_
              rcases hv : pr i with _ | v
              · refine lv_iload_n hx hb dX1_bundle_23 rfl (lv_at hl 1 rfl) ?_
                refine q_mulN (a := 16) (b := g) hx hb dX1_bundle_24 ?_
                refine lv_iload hx hb dX1_bundle_25 (lv_at hl 5 rfl) ?_
                refine q_addN (a := 16 * g) (b := i) hx hb dX1_bundle_27 ?_
                refine q_top (y := nI (g * 16 + i)) (by rw [Nat.mul_comm 16 g]) ?_
                refine q_ald nI qu hx hb hK hP 4 1 rfl rfl (k := g * 16 + i) (by omega) (Nat.le_of_ble_eq_true rfl) dX1_bundle_28 ?_
                refine lv_istore (lv' := [(7, .int (nI (qu (g * 16 + i)))), (0, .ref h), (1, .int (nI g)), (2, .long (lN sm)), (4, .int (bI false)), (5, .int (bI false)), (6, .int (nI i))]) hx hb dX1_bundle_29 hl (by decide) rfl (fun ls hl => ?_)
                refine lv_iload hx hb dX1_bundle_31 (lv_at hl 4 rfl) ?_
                refine q_ifB_ne (b := false) (tgt := 41) hx hb dX1_bundle_33 (by decide) (fun k33 => absurd k33 (by decide)) (fun k33 => ?_)
                refine lv_iload hx hb dX1_bundle_36 (lv_at hl 0 rfl) ?_
                refine q_ifN_le (a := qu (g * 16 + i)) (tgt := 45) (by omega) hx hb dX1_bundle_38 (by decide) (fun k38 => ?_) (fun k38 => absurd k38 (by omega))
                refine lv_iconst (v := nI 0) hx hb dX1_bundle_45 (by decide) ?_
                refine q_top (y := bI false) ((by decide : nI 0 = bI false)) ?_
                refine lv_istore (lv' := [(4, .int (bI false)), (7, .int (nI (qu (g * 16 + i)))), (0, .ref h), (1, .int (nI g)), (2, .long (lN sm)), (5, .int (bI false)), (6, .int (nI i))]) hx hb dX1_bundle_46 hl (by decide) rfl (fun ls hl => ?_)
                refine lv_iload hx hb dX1_bundle_48 (lv_at hl 5 rfl) ?_
                refine q_ifB_eq (b := false) (tgt := 76) hx hb dX1_bundle_50 (by decide) (fun k50 => ?_) (fun k50 => absurd k50 (by decide))
                refine lv_iconst (v := nI 0) hx hb dX1_bundle_76 (by decide) ?_
                refine q_top (y := bI false) ((by decide : nI 0 = bI false)) ?_
                refine lv_istore (lv' := [(5, .int (bI false)), (4, .int (bI false)), (7, .int (nI (qu (g * 16 + i)))), (0, .ref h), (1, .int (nI g)), (2, .long (lN sm)), (6, .int (nI i))]) hx hb dX1_bundle_77 hl (by decide) rfl (fun ls hl => ?_)
                refine lv_lload_n hx hb dX1_bundle_79 rfl (lv_at hl 5 rfl) ?_
                refine lv_iload hx hb dX1_bundle_80 (lv_at hl 2 rfl) ?_
                refine q_ifN_le (a := qu (g * 16 + i)) (tgt := 104) (by omega) hx hb dX1_bundle_82 (by decide) (fun k82 => ?_) (fun k82 => absurd k82 (by omega))
                refine lv_lconst (v := lN 0) hx hb dX1_bundle_104 (by decide) ?_
                refine lv_ladd hx hb dX1_bundle_105 ?_
                refine q_topL (y := (lN (sm + 0))) (lN_add _ _) ?_
                refine lv_lstore_n (lv' := [(2, .long (lN (sm + 0))), (5, .int (bI false)), (4, .int (bI false)), (7, .int (nI (qu (g * 16 + i)))), (0, .ref h), (1, .int (nI g)), (6, .int (nI i))]) hx hb dX1_bundle_106 rfl hl (by decide) rfl (fun ls hl => ?_)
                refine lv_iinc (v := nI (i + 1)) (lv' := [(6, .int (nI (i + 1))), (2, .long (lN (sm + 0))), (5, .int (bI false)), (4, .int (bI false)), (7, .int (nI (qu (g * 16 + i)))), (0, .ref h), (1, .int (nI g))]) hx hb dX1_bundle_107 hl (k := 6) rfl (i1_n i) (by decide) rfl (fun ls hl => ?_)
                refine lv_goto (tgt := 11) hx hb dX1_bundle_110 (by decide) ?_
                exact ih (i + 1) false false (sm + 0) (by omega) (by omega) (by rw [exU_s (show pos qu g i = false from decide_eq_false (by omega))]; exact hb1) (by rw [exU_s (show nop qu pr g i = false by unfold nop; rw [decide_eq_false (by omega), Bool.false_and])]; exact hc1) (fun h9 => by rw [psm_0 hz, Nat.add_zero]; exact hs1 h9) (sm_0 hsm) _ (lv_sub hl [5, 6, 1, 3, 2, 0] rfl)
              · have hv9 := hpb i (by omega) v hv
                refine lv_iload_n hx hb dX1_bundle_23 rfl (lv_at hl 1 rfl) ?_
                refine q_mulN (a := 16) (b := g) hx hb dX1_bundle_24 ?_
                refine lv_iload hx hb dX1_bundle_25 (lv_at hl 5 rfl) ?_
                refine q_addN (a := 16 * g) (b := i) hx hb dX1_bundle_27 ?_
                refine q_top (y := nI (g * 16 + i)) (by rw [Nat.mul_comm 16 g]) ?_
                refine q_ald nI qu hx hb hK hP 4 1 rfl rfl (k := g * 16 + i) (by omega) (Nat.le_of_ble_eq_true rfl) dX1_bundle_28 ?_
                refine lv_istore (lv' := [(7, .int (nI (qu (g * 16 + i)))), (0, .ref h), (1, .int (nI g)), (2, .long (lN sm)), (4, .int (bI false)), (5, .int (bI false)), (6, .int (nI i))]) hx hb dX1_bundle_29 hl (by decide) rfl (fun ls hl => ?_)
                refine lv_iload hx hb dX1_bundle_31 (lv_at hl 4 rfl) ?_
                refine q_ifB_ne (b := false) (tgt := 41) hx hb dX1_bundle_33 (by decide) (fun k33 => absurd k33 (by decide)) (fun k33 => ?_)
                refine lv_iload hx hb dX1_bundle_36 (lv_at hl 0 rfl) ?_
                refine q_ifN_le (a := qu (g * 16 + i)) (tgt := 45) (by omega) hx hb dX1_bundle_38 (by decide) (fun k38 => ?_) (fun k38 => absurd k38 (by omega))
                refine lv_iconst (v := nI 0) hx hb dX1_bundle_45 (by decide) ?_
                refine q_top (y := bI false) ((by decide : nI 0 = bI false)) ?_
                refine lv_istore (lv' := [(4, .int (bI false)), (7, .int (nI (qu (g * 16 + i)))), (0, .ref h), (1, .int (nI g)), (2, .long (lN sm)), (5, .int (bI false)), (6, .int (nI i))]) hx hb dX1_bundle_46 hl (by decide) rfl (fun ls hl => ?_)
                refine lv_iload hx hb dX1_bundle_48 (lv_at hl 5 rfl) ?_
                refine q_ifB_eq (b := false) (tgt := 76) hx hb dX1_bundle_50 (by decide) (fun k50 => ?_) (fun k50 => absurd k50 (by decide))
                refine lv_iconst (v := nI 0) hx hb dX1_bundle_76 (by decide) ?_
                refine q_top (y := bI false) ((by decide : nI 0 = bI false)) ?_
                refine lv_istore (lv' := [(5, .int (bI false)), (4, .int (bI false)), (7, .int (nI (qu (g * 16 + i)))), (0, .ref h), (1, .int (nI g)), (2, .long (lN sm)), (6, .int (nI i))]) hx hb dX1_bundle_77 hl (by decide) rfl (fun ls hl => ?_)
                refine lv_lload_n hx hb dX1_bundle_79 rfl (lv_at hl 5 rfl) ?_
                refine lv_iload hx hb dX1_bundle_80 (lv_at hl 2 rfl) ?_
                refine q_ifN_le (a := qu (g * 16 + i)) (tgt := 104) (by omega) hx hb dX1_bundle_82 (by decide) (fun k82 => ?_) (fun k82 => absurd k82 (by omega))
                refine lv_lconst (v := lN 0) hx hb dX1_bundle_104 (by decide) ?_
                refine lv_ladd hx hb dX1_bundle_105 ?_
                refine q_topL (y := (lN (sm + 0))) (lN_add _ _) ?_
                refine lv_lstore_n (lv' := [(2, .long (lN (sm + 0))), (5, .int (bI false)), (4, .int (bI false)), (7, .int (nI (qu (g * 16 + i)))), (0, .ref h), (1, .int (nI g)), (6, .int (nI i))]) hx hb dX1_bundle_106 rfl hl (by decide) rfl (fun ls hl => ?_)
                refine lv_iinc (v := nI (i + 1)) (lv' := [(6, .int (nI (i + 1))), (2, .long (lN (sm + 0))), (5, .int (bI false)), (4, .int (bI false)), (7, .int (nI (qu (g * 16 + i)))), (0, .ref h), (1, .int (nI g))]) hx hb dX1_bundle_107 hl (k := 6) rfl (i1_n i) (by decide) rfl (fun ls hl => ?_)
                refine lv_goto (tgt := 11) hx hb dX1_bundle_110 (by decide) ?_
                exact ih (i + 1) false false (sm + 0) (by omega) (by omega) (by rw [exU_s (show pos qu g i = false from decide_eq_false (by omega))]; exact hb1) (by rw [exU_s (show nop qu pr g i = false by unfold nop; rw [decide_eq_false (by omega), Bool.false_and])]; exact hc1) (fun h9 => by rw [psm_0 hz, Nat.add_zero]; exact hs1 h9) (sm_0 hsm) _ (lv_sub hl [5, 6, 1, 3, 2, 0] rfl)
            · refine lv_bipush (v := nI 16) hx hb dX1_bundle_21 (by decide) ?_
              rcases hv : pr i with _ | v
              · refine lv_iload_n hx hb dX1_bundle_23 rfl (lv_at hl 1 rfl) ?_
                refine q_mulN (a := 16) (b := g) hx hb dX1_bundle_24 ?_
                refine lv_iload hx hb dX1_bundle_25 (lv_at hl 5 rfl) ?_
                refine q_addN (a := 16 * g) (b := i) hx hb dX1_bundle_27 ?_
                refine q_top (y := nI (g * 16 + i)) (by rw [Nat.mul_comm 16 g]) ?_
                refine q_ald nI qu hx hb hK hP 4 1 rfl rfl (k := g * 16 + i) (by omega) (Nat.le_of_ble_eq_true rfl) dX1_bundle_28 ?_
                refine lv_istore (lv' := [(7, .int (nI (qu (g * 16 + i)))), (0, .ref h), (1, .int (nI g)), (2, .long (lN sm)), (4, .int (bI false)), (5, .int (bI false)), (6, .int (nI i))]) hx hb dX1_bundle_29 hl (by decide) rfl (fun ls hl => ?_)
                refine lv_iload hx hb dX1_bundle_31 (lv_at hl 4 rfl) ?_
                refine q_ifB_ne (b := false) (tgt := 41) hx hb dX1_bundle_33 (by decide) (fun k33 => absurd k33 (by decide)) (fun k33 => ?_)
                refine lv_iload hx hb dX1_bundle_36 (lv_at hl 0 rfl) ?_
                refine q_ifN_le (a := qu (g * 16 + i)) (tgt := 45) (by have := hqu (g * 16 + i) (by omega); omega) hx hb dX1_bundle_38 (by decide) (fun k38 => absurd k38 (by omega)) (fun k38 => ?_)
                refine lv_iconst (v := nI 1) hx hb dX1_bundle_41 (by decide) ?_
                refine lv_goto (tgt := 46) hx hb dX1_bundle_42 (by decide) ?_
                refine q_top (y := bI true) ((by decide : nI 1 = bI true)) ?_
                refine lv_istore (lv' := [(4, .int (bI true)), (7, .int (nI (qu (g * 16 + i)))), (0, .ref h), (1, .int (nI g)), (2, .long (lN sm)), (5, .int (bI false)), (6, .int (nI i))]) hx hb dX1_bundle_46 hl (by decide) rfl (fun ls hl => ?_)
                refine lv_iload hx hb dX1_bundle_48 (lv_at hl 5 rfl) ?_
                refine q_ifB_eq (b := false) (tgt := 76) hx hb dX1_bundle_50 (by decide) (fun k50 => ?_) (fun k50 => absurd k50 (by decide))
                refine lv_iconst (v := nI 0) hx hb dX1_bundle_76 (by decide) ?_
                refine q_top (y := bI false) ((by decide : nI 0 = bI false)) ?_
                refine lv_istore (lv' := [(5, .int (bI false)), (4, .int (bI true)), (7, .int (nI (qu (g * 16 + i)))), (0, .ref h), (1, .int (nI g)), (2, .long (lN sm)), (6, .int (nI i))]) hx hb dX1_bundle_77 hl (by decide) rfl (fun ls hl => ?_)
                refine lv_lload_n hx hb dX1_bundle_79 rfl (lv_at hl 5 rfl) ?_
                refine lv_iload hx hb dX1_bundle_80 (lv_at hl 2 rfl) ?_
                refine q_ifN_le (a := qu (g * 16 + i)) (tgt := 104) (by have := hqu (g * 16 + i) (by omega); omega) hx hb dX1_bundle_82 (by decide) (fun k82 => absurd k82 (by omega)) (fun k82 => ?_)
                refine lv_iload hx hb dX1_bundle_85 (lv_at hl 0 rfl) ?_
                refine q_ifB_eq (b := false) (tgt := 104) hx hb dX1_bundle_87 (by decide) (fun k87 => ?_) (fun k87 => absurd k87 (by decide))
                refine lv_lconst (v := lN 0) hx hb dX1_bundle_104 (by decide) ?_
                refine lv_ladd hx hb dX1_bundle_105 ?_
                refine q_topL (y := (lN (sm + 0))) (lN_add _ _) ?_
                refine lv_lstore_n (lv' := [(2, .long (lN (sm + 0))), (5, .int (bI false)), (4, .int (bI true)), (7, .int (nI (qu (g * 16 + i)))), (0, .ref h), (1, .int (nI g)), (6, .int (nI i))]) hx hb dX1_bundle_106 rfl hl (by decide) rfl (fun ls hl => ?_)
                refine lv_iinc (v := nI (i + 1)) (lv' := [(6, .int (nI (i + 1))), (2, .long (lN (sm + 0))), (5, .int (bI false)), (4, .int (bI true)), (7, .int (nI (qu (g * 16 + i)))), (0, .ref h), (1, .int (nI g))]) hx hb dX1_bundle_107 hl (k := 6) rfl (i1_n i) (by decide) rfl (fun ls hl => ?_)
                refine lv_goto (tgt := 11) hx hb dX1_bundle_110 (by decide) ?_
                exact ih (i + 1) true false (sm + 0) (by omega) (by omega) ((exU_t (show pos qu g i = true from decide_eq_true hz)).symm) (by rw [exU_t (show nop qu pr g i = true by unfold nop; rw [decide_eq_true hz, decide_eq_true hv]; rfl)]; rfl) (fun h9 => by cases h9) (sm_0 hsm) _ (lv_sub hl [5, 6, 1, 3, 2, 0] rfl)
              · have hv9 := hpb i (by omega) v hv
                refine lv_iload_n hx hb dX1_bundle_23 rfl (lv_at hl 1 rfl) ?_
                refine q_mulN (a := 16) (b := g) hx hb dX1_bundle_24 ?_
                refine lv_iload hx hb dX1_bundle_25 (lv_at hl 5 rfl) ?_
                refine q_addN (a := 16 * g) (b := i) hx hb dX1_bundle_27 ?_
                refine q_top (y := nI (g * 16 + i)) (by rw [Nat.mul_comm 16 g]) ?_
                refine q_ald nI qu hx hb hK hP 4 1 rfl rfl (k := g * 16 + i) (by omega) (Nat.le_of_ble_eq_true rfl) dX1_bundle_28 ?_
                refine lv_istore (lv' := [(7, .int (nI (qu (g * 16 + i)))), (0, .ref h), (1, .int (nI g)), (2, .long (lN sm)), (4, .int (bI false)), (5, .int (bI false)), (6, .int (nI i))]) hx hb dX1_bundle_29 hl (by decide) rfl (fun ls hl => ?_)
                refine lv_iload hx hb dX1_bundle_31 (lv_at hl 4 rfl) ?_
                refine q_ifB_ne (b := false) (tgt := 41) hx hb dX1_bundle_33 (by decide) (fun k33 => absurd k33 (by decide)) (fun k33 => ?_)
                refine lv_iload hx hb dX1_bundle_36 (lv_at hl 0 rfl) ?_
                refine q_ifN_le (a := qu (g * 16 + i)) (tgt := 45) (by have := hqu (g * 16 + i) (by omega); omega) hx hb dX1_bundle_38 (by decide) (fun k38 => absurd k38 (by omega)) (fun k38 => ?_)
                refine lv_iconst (v := nI 1) hx hb dX1_bundle_41 (by decide) ?_
                refine lv_goto (tgt := 46) hx hb dX1_bundle_42 (by decide) ?_
                refine q_top (y := bI true) ((by decide : nI 1 = bI true)) ?_
                refine lv_istore (lv' := [(4, .int (bI true)), (7, .int (nI (qu (g * 16 + i)))), (0, .ref h), (1, .int (nI g)), (2, .long (lN sm)), (5, .int (bI false)), (6, .int (nI i))]) hx hb dX1_bundle_46 hl (by decide) rfl (fun ls hl => ?_)
                refine lv_iload hx hb dX1_bundle_48 (lv_at hl 5 rfl) ?_
                refine q_ifB_eq (b := false) (tgt := 76) hx hb dX1_bundle_50 (by decide) (fun k50 => ?_) (fun k50 => absurd k50 (by decide))
                refine lv_iconst (v := nI 0) hx hb dX1_bundle_76 (by decide) ?_
                refine q_top (y := bI false) ((by decide : nI 0 = bI false)) ?_
                refine lv_istore (lv' := [(5, .int (bI false)), (4, .int (bI true)), (7, .int (nI (qu (g * 16 + i)))), (0, .ref h), (1, .int (nI g)), (2, .long (lN sm)), (6, .int (nI i))]) hx hb dX1_bundle_77 hl (by decide) rfl (fun ls hl => ?_)
                refine lv_lload_n hx hb dX1_bundle_79 rfl (lv_at hl 5 rfl) ?_
                refine lv_iload hx hb dX1_bundle_80 (lv_at hl 2 rfl) ?_
                refine q_ifN_le (a := qu (g * 16 + i)) (tgt := 104) (by have := hqu (g * 16 + i) (by omega); omega) hx hb dX1_bundle_82 (by decide) (fun k82 => absurd k82 (by omega)) (fun k82 => ?_)
                refine lv_iload hx hb dX1_bundle_85 (lv_at hl 0 rfl) ?_
                refine q_ifB_eq (b := false) (tgt := 104) hx hb dX1_bundle_87 (by decide) (fun k87 => ?_) (fun k87 => absurd k87 (by decide))
                refine lv_lconst (v := lN 0) hx hb dX1_bundle_104 (by decide) ?_
                refine lv_ladd hx hb dX1_bundle_105 ?_
                refine q_topL (y := (lN (sm + 0))) (lN_add _ _) ?_
                refine lv_lstore_n (lv' := [(2, .long (lN (sm + 0))), (5, .int (bI false)), (4, .int (bI true)), (7, .int (nI (qu (g * 16 + i)))), (0, .ref h), (1, .int (nI g)), (6, .int (nI i))]) hx hb dX1_bundle_106 rfl hl (by decide) rfl (fun ls hl => ?_)
                refine lv_iinc (v := nI (i + 1)) (lv' := [(6, .int (nI (i + 1))), (2, .long (lN (sm + 0))), (5, .int (bI false)), (4, .int (bI true)), (7, .int (nI (qu (g * 16 + i)))), (0, .ref h), (1, .int (nI g))]) hx hb dX1_bundle_107 hl (k := 6) rfl (i1_n i) (by decide) rfl (fun ls hl => ?_)
                refine lv_goto (tgt := 11) hx hb dX1_bundle_110 (by decide) ?_
                exact ih (i + 1) true false (sm + 0) (by omega) (by omega) ((exU_t (show pos qu g i = true from decide_eq_true hz)).symm) (by rw [exU_s (show nop qu pr g i = false by unfold nop; rw [hv, decide_eq_false (show ¬ some v = none by simp), Bool.and_false])]; exact hc1) (fun h9 => by cases h9) (sm_0 hsm) _ (lv_sub hl [5, 6, 1, 3, 2, 0] rfl)
          | true =>
            refine va_get (D := D) (ci := 1) (v := .ref (ad 5)) (C := RX1) (T := TX1) (N := 18) hx hb hts (iX1_bundle) hown hK hP 0 rfl rfl 5 (by decide) (hts (.fieldLink RX1 20 "ShopHubModel" "quantity" "[I") (by decide +kernel)) (fun _ h9 => h9) rfl dX1_bundle_18 ?_
            rcases Nat.eq_zero_or_pos (qu (g * 16 + i)) with hz | hz
            · refine lv_bipush (v := nI 16) hx hb dX1_bundle_21 (by decide) ?_
              rcases hv : pr i with _ | v
              · refine lv_iload_n hx hb dX1_bundle_23 rfl (lv_at hl 1 rfl) ?_
                refine q_mulN (a := 16) (b := g) hx hb dX1_bundle_24 ?_
                refine lv_iload hx hb dX1_bundle_25 (lv_at hl 5 rfl) ?_
                refine q_addN (a := 16 * g) (b := i) hx hb dX1_bundle_27 ?_
                refine q_top (y := nI (g * 16 + i)) (by rw [Nat.mul_comm 16 g]) ?_
                refine q_ald nI qu hx hb hK hP 4 1 rfl rfl (k := g * 16 + i) (by omega) (Nat.le_of_ble_eq_true rfl) dX1_bundle_28 ?_
                refine lv_istore (lv' := [(7, .int (nI (qu (g * 16 + i)))), (0, .ref h), (1, .int (nI g)), (2, .long (lN sm)), (4, .int (bI false)), (5, .int (bI true)), (6, .int (nI i))]) hx hb dX1_bundle_29 hl (by decide) rfl (fun ls hl => ?_)
                refine lv_iload hx hb dX1_bundle_31 (lv_at hl 4 rfl) ?_
                refine q_ifB_ne (b := false) (tgt := 41) hx hb dX1_bundle_33 (by decide) (fun k33 => absurd k33 (by decide)) (fun k33 => ?_)
                refine lv_iload hx hb dX1_bundle_36 (lv_at hl 0 rfl) ?_
                refine q_ifN_le (a := qu (g * 16 + i)) (tgt := 45) (by omega) hx hb dX1_bundle_38 (by decide) (fun k38 => ?_) (fun k38 => absurd k38 (by omega))
                refine lv_iconst (v := nI 0) hx hb dX1_bundle_45 (by decide) ?_
                refine q_top (y := bI false) ((by decide : nI 0 = bI false)) ?_
                refine lv_istore (lv' := [(4, .int (bI false)), (7, .int (nI (qu (g * 16 + i)))), (0, .ref h), (1, .int (nI g)), (2, .long (lN sm)), (5, .int (bI true)), (6, .int (nI i))]) hx hb dX1_bundle_46 hl (by decide) rfl (fun ls hl => ?_)
                refine lv_iload hx hb dX1_bundle_48 (lv_at hl 5 rfl) ?_
                refine q_ifB_eq (b := true) (tgt := 76) hx hb dX1_bundle_50 (by decide) (fun k50 => absurd k50 (by decide)) (fun k50 => ?_)
                refine lv_iload hx hb dX1_bundle_53 (lv_at hl 1 rfl) ?_
                refine q_ifN_eq (a := qu (g * 16 + i)) (tgt := 72) (by omega) hx hb dX1_bundle_55 (by decide) (fun k55 => ?_) (fun k55 => absurd hz k55)
                refine lv_iconst (v := nI 1) hx hb dX1_bundle_72 (by decide) ?_
                refine lv_goto (tgt := 77) hx hb dX1_bundle_73 (by decide) ?_
                refine q_top (y := bI true) ((by decide : nI 1 = bI true)) ?_
                refine lv_istore (lv' := [(5, .int (bI true)), (4, .int (bI false)), (7, .int (nI (qu (g * 16 + i)))), (0, .ref h), (1, .int (nI g)), (2, .long (lN sm)), (6, .int (nI i))]) hx hb dX1_bundle_77 hl (by decide) rfl (fun ls hl => ?_)
                refine lv_lload_n hx hb dX1_bundle_79 rfl (lv_at hl 5 rfl) ?_
                refine lv_iload hx hb dX1_bundle_80 (lv_at hl 2 rfl) ?_
                refine q_ifN_le (a := qu (g * 16 + i)) (tgt := 104) (by omega) hx hb dX1_bundle_82 (by decide) (fun k82 => ?_) (fun k82 => absurd k82 (by omega))
                refine lv_lconst (v := lN 0) hx hb dX1_bundle_104 (by decide) ?_
                refine lv_ladd hx hb dX1_bundle_105 ?_
                refine q_topL (y := (lN (sm + 0))) (lN_add _ _) ?_
                refine lv_lstore_n (lv' := [(2, .long (lN (sm + 0))), (5, .int (bI true)), (4, .int (bI false)), (7, .int (nI (qu (g * 16 + i)))), (0, .ref h), (1, .int (nI g)), (6, .int (nI i))]) hx hb dX1_bundle_106 rfl hl (by decide) rfl (fun ls hl => ?_)
                refine lv_iinc (v := nI (i + 1)) (lv' := [(6, .int (nI (i + 1))), (2, .long (lN (sm + 0))), (5, .int (bI true)), (4, .int (bI false)), (7, .int (nI (qu (g * 16 + i)))), (0, .ref h), (1, .int (nI g))]) hx hb dX1_bundle_107 hl (k := 6) rfl (i1_n i) (by decide) rfl (fun ls hl => ?_)
                refine lv_goto (tgt := 11) hx hb dX1_bundle_110 (by decide) ?_
                exact ih (i + 1) false true (sm + 0) (by omega) (by omega) (by rw [exU_s (show pos qu g i = false from decide_eq_false (by omega))]; exact hb1) (by rw [exU_s (show nop qu pr g i = false by unfold nop; rw [decide_eq_false (by omega), Bool.false_and])]; exact hc1) (fun h9 => by rw [psm_0 hz, Nat.add_zero]; exact hs1 h9) (sm_0 hsm) _ (lv_sub hl [5, 6, 1, 3, 2, 0] rfl)
              · have hv9 := hpb i (by omega) v hv
                refine lv_iload_n hx hb dX1_bundle_23 rfl (lv_at hl 1 rfl) ?_
                refine q_mulN (a := 16) (b := g) hx hb dX1_bundle_24 ?_
                refine lv_iload hx hb dX1_bundle_25 (lv_at hl 5 rfl) ?_
                refine q_addN (a := 16 * g) (b := i) hx hb dX1_bundle_27 ?_
                refine q_top (y := nI (g * 16 + i)) (by rw [Nat.mul_comm 16 g]) ?_
                refine q_ald nI qu hx hb hK hP 4 1 rfl rfl (k := g * 16 + i) (by omega) (Nat.le_of_ble_eq_true rfl) dX1_bundle_28 ?_
                refine lv_istore (lv' := [(7, .int (nI (qu (g * 16 + i)))), (0, .ref h), (1, .int (nI g)), (2, .long (lN sm)), (4, .int (bI false)), (5, .int (bI true)), (6, .int (nI i))]) hx hb dX1_bundle_29 hl (by decide) rfl (fun ls hl => ?_)
                refine lv_iload hx hb dX1_bundle_31 (lv_at hl 4 rfl) ?_
                refine q_ifB_ne (b := false) (tgt := 41) hx hb dX1_bundle_33 (by decide) (fun k33 => absurd k33 (by decide)) (fun k33 => ?_)
                refine lv_iload hx hb dX1_bundle_36 (lv_at hl 0 rfl) ?_
                refine q_ifN_le (a := qu (g * 16 + i)) (tgt := 45) (by omega) hx hb dX1_bundle_38 (by decide) (fun k38 => ?_) (fun k38 => absurd k38 (by omega))
                refine lv_iconst (v := nI 0) hx hb dX1_bundle_45 (by decide) ?_
                refine q_top (y := bI false) ((by decide : nI 0 = bI false)) ?_
                refine lv_istore (lv' := [(4, .int (bI false)), (7, .int (nI (qu (g * 16 + i)))), (0, .ref h), (1, .int (nI g)), (2, .long (lN sm)), (5, .int (bI true)), (6, .int (nI i))]) hx hb dX1_bundle_46 hl (by decide) rfl (fun ls hl => ?_)
                refine lv_iload hx hb dX1_bundle_48 (lv_at hl 5 rfl) ?_
                refine q_ifB_eq (b := true) (tgt := 76) hx hb dX1_bundle_50 (by decide) (fun k50 => absurd k50 (by decide)) (fun k50 => ?_)
                refine lv_iload hx hb dX1_bundle_53 (lv_at hl 1 rfl) ?_
                refine q_ifN_eq (a := qu (g * 16 + i)) (tgt := 72) (by omega) hx hb dX1_bundle_55 (by decide) (fun k55 => ?_) (fun k55 => absurd hz k55)
                refine lv_iconst (v := nI 1) hx hb dX1_bundle_72 (by decide) ?_
                refine lv_goto (tgt := 77) hx hb dX1_bundle_73 (by decide) ?_
                refine q_top (y := bI true) ((by decide : nI 1 = bI true)) ?_
                refine lv_istore (lv' := [(5, .int (bI true)), (4, .int (bI false)), (7, .int (nI (qu (g * 16 + i)))), (0, .ref h), (1, .int (nI g)), (2, .long (lN sm)), (6, .int (nI i))]) hx hb dX1_bundle_77 hl (by decide) rfl (fun ls hl => ?_)
                refine lv_lload_n hx hb dX1_bundle_79 rfl (lv_at hl 5 rfl) ?_
                refine lv_iload hx hb dX1_bundle_80 (lv_at hl 2 rfl) ?_
                refine q_ifN_le (a := qu (g * 16 + i)) (tgt := 104) (by omega) hx hb dX1_bundle_82 (by decide) (fun k82 => ?_) (fun k82 => absurd k82 (by omega))
                refine lv_lconst (v := lN 0) hx hb dX1_bundle_104 (by decide) ?_
                refine lv_ladd hx hb dX1_bundle_105 ?_
                refine q_topL (y := (lN (sm + 0))) (lN_add _ _) ?_
                refine lv_lstore_n (lv' := [(2, .long (lN (sm + 0))), (5, .int (bI true)), (4, .int (bI false)), (7, .int (nI (qu (g * 16 + i)))), (0, .ref h), (1, .int (nI g)), (6, .int (nI i))]) hx hb dX1_bundle_106 rfl hl (by decide) rfl (fun ls hl => ?_)
                refine lv_iinc (v := nI (i + 1)) (lv' := [(6, .int (nI (i + 1))), (2, .long (lN (sm + 0))), (5, .int (bI true)), (4, .int (bI false)), (7, .int (nI (qu (g * 16 + i)))), (0, .ref h), (1, .int (nI g))]) hx hb dX1_bundle_107 hl (k := 6) rfl (i1_n i) (by decide) rfl (fun ls hl => ?_)
                refine lv_goto (tgt := 11) hx hb dX1_bundle_110 (by decide) ?_
                exact ih (i + 1) false true (sm + 0) (by omega) (by omega) (by rw [exU_s (show pos qu g i = false from decide_eq_false (by omega))]; exact hb1) (by rw [exU_s (show nop qu pr g i = false by unfold nop; rw [decide_eq_false (by omega), Bool.false_and])]; exact hc1) (fun h9 => by rw [psm_0 hz, Nat.add_zero]; exact hs1 h9) (sm_0 hsm) _ (lv_sub hl [5, 6, 1, 3, 2, 0] rfl)
            · refine lv_bipush (v := nI 16) hx hb dX1_bundle_21 (by decide) ?_
              rcases hv : pr i with _ | v
              · refine lv_iload_n hx hb dX1_bundle_23 rfl (lv_at hl 1 rfl) ?_
                refine q_mulN (a := 16) (b := g) hx hb dX1_bundle_24 ?_
                refine lv_iload hx hb dX1_bundle_25 (lv_at hl 5 rfl) ?_
                refine q_addN (a := 16 * g) (b := i) hx hb dX1_bundle_27 ?_
                refine q_top (y := nI (g * 16 + i)) (by rw [Nat.mul_comm 16 g]) ?_
                refine q_ald nI qu hx hb hK hP 4 1 rfl rfl (k := g * 16 + i) (by omega) (Nat.le_of_ble_eq_true rfl) dX1_bundle_28 ?_
                refine lv_istore (lv' := [(7, .int (nI (qu (g * 16 + i)))), (0, .ref h), (1, .int (nI g)), (2, .long (lN sm)), (4, .int (bI false)), (5, .int (bI true)), (6, .int (nI i))]) hx hb dX1_bundle_29 hl (by decide) rfl (fun ls hl => ?_)
                refine lv_iload hx hb dX1_bundle_31 (lv_at hl 4 rfl) ?_
                refine q_ifB_ne (b := false) (tgt := 41) hx hb dX1_bundle_33 (by decide) (fun k33 => absurd k33 (by decide)) (fun k33 => ?_)
                refine lv_iload hx hb dX1_bundle_36 (lv_at hl 0 rfl) ?_
                refine q_ifN_le (a := qu (g * 16 + i)) (tgt := 45) (by have := hqu (g * 16 + i) (by omega); omega) hx hb dX1_bundle_38 (by decide) (fun k38 => absurd k38 (by omega)) (fun k38 => ?_)
                refine lv_iconst (v := nI 1) hx hb dX1_bundle_41 (by decide) ?_
                refine lv_goto (tgt := 46) hx hb dX1_bundle_42 (by decide) ?_
                refine q_top (y := bI true) ((by decide : nI 1 = bI true)) ?_
                refine lv_istore (lv' := [(4, .int (bI true)), (7, .int (nI (qu (g * 16 + i)))), (0, .ref h), (1, .int (nI g)), (2, .long (lN sm)), (5, .int (bI true)), (6, .int (nI i))]) hx hb dX1_bundle_46 hl (by decide) rfl (fun ls hl => ?_)
                refine lv_iload hx hb dX1_bundle_48 (lv_at hl 5 rfl) ?_
                refine q_ifB_eq (b := true) (tgt := 76) hx hb dX1_bundle_50 (by decide) (fun k50 => absurd k50 (by decide)) (fun k50 => ?_)
                refine lv_iload hx hb dX1_bundle_53 (lv_at hl 1 rfl) ?_
                refine q_ifN_eq (a := qu (g * 16 + i)) (tgt := 72) (by have := hqu (g * 16 + i) (by omega); omega) hx hb dX1_bundle_55 (by decide) (fun k55 => absurd k55 (by omega)) (fun k55 => ?_)
                refine lv_aload_n hx hb dX1_bundle_58 rfl (lv_at hl 2 rfl) ?_
                refine va_get (D := D) (ci := 1) (v := .ref (ad 16)) (C := RX1) (T := TX1) (N := 18) hx hb hts (iX1_bundle) hown hK hP 0 rfl rfl 16 (by decide) (hts (.fieldLink RX1 50 "ShopHubModel" "price" "[J") (by decide +kernel)) (fun _ h9 => h9) rfl dX1_bundle_59 ?_
                refine lv_iload hx hb dX1_bundle_62 (lv_at hl 6 rfl) ?_
                refine q_lld pr hx hb hK hP 14 2 rfl rfl (k := i) (by omega) (Nat.le_of_ble_eq_true rfl) dX1_bundle_64 ?_
                refine q_topL (y := (oL none)) (by rw [hv]) ?_
                refine lv_ldc2 (v := -1) hx hb hown (hts (.constantLong RX1 114 (-1)) (by decide +kernel)) dX1_bundle_65 ?_
                refine q_topL (y := (oL none)) (by decide) ?_
                refine W.lcmp hx hb dX1_bundle_68 ?_
                refine lv_if_eq (tgt := 76) hx hb dX1_bundle_69 (by decide) (fun k69 => ?_) (fun k69 => absurd lcm_none k69)
                refine lv_iconst (v := nI 0) hx hb dX1_bundle_76 (by decide) ?_
                refine q_top (y := bI false) ((by decide : nI 0 = bI false)) ?_
                refine lv_istore (lv' := [(5, .int (bI false)), (4, .int (bI true)), (7, .int (nI (qu (g * 16 + i)))), (0, .ref h), (1, .int (nI g)), (2, .long (lN sm)), (6, .int (nI i))]) hx hb dX1_bundle_77 hl (by decide) rfl (fun ls hl => ?_)
                refine lv_lload_n hx hb dX1_bundle_79 rfl (lv_at hl 5 rfl) ?_
                refine lv_iload hx hb dX1_bundle_80 (lv_at hl 2 rfl) ?_
                refine q_ifN_le (a := qu (g * 16 + i)) (tgt := 104) (by have := hqu (g * 16 + i) (by omega); omega) hx hb dX1_bundle_82 (by decide) (fun k82 => absurd k82 (by omega)) (fun k82 => ?_)
                refine lv_iload hx hb dX1_bundle_85 (lv_at hl 0 rfl) ?_
                refine q_ifB_eq (b := false) (tgt := 104) hx hb dX1_bundle_87 (by decide) (fun k87 => ?_) (fun k87 => absurd k87 (by decide))
                refine lv_lconst (v := lN 0) hx hb dX1_bundle_104 (by decide) ?_
                refine lv_ladd hx hb dX1_bundle_105 ?_
                refine q_topL (y := (lN (sm + 0))) (lN_add _ _) ?_
                refine lv_lstore_n (lv' := [(2, .long (lN (sm + 0))), (5, .int (bI false)), (4, .int (bI true)), (7, .int (nI (qu (g * 16 + i)))), (0, .ref h), (1, .int (nI g)), (6, .int (nI i))]) hx hb dX1_bundle_106 rfl hl (by decide) rfl (fun ls hl => ?_)
                refine lv_iinc (v := nI (i + 1)) (lv' := [(6, .int (nI (i + 1))), (2, .long (lN (sm + 0))), (5, .int (bI false)), (4, .int (bI true)), (7, .int (nI (qu (g * 16 + i)))), (0, .ref h), (1, .int (nI g))]) hx hb dX1_bundle_107 hl (k := 6) rfl (i1_n i) (by decide) rfl (fun ls hl => ?_)
                refine lv_goto (tgt := 11) hx hb dX1_bundle_110 (by decide) ?_
                exact ih (i + 1) true false (sm + 0) (by omega) (by omega) ((exU_t (show pos qu g i = true from decide_eq_true hz)).symm) (by rw [exU_t (show nop qu pr g i = true by unfold nop; rw [decide_eq_true hz, decide_eq_true hv]; rfl)]; rfl) (fun h9 => by cases h9) (sm_0 hsm) _ (lv_sub hl [5, 6, 1, 3, 2, 0] rfl)
              · have hv9 := hpb i (by omega) v hv
                refine lv_iload_n hx hb dX1_bundle_23 rfl (lv_at hl 1 rfl) ?_
                refine q_mulN (a := 16) (b := g) hx hb dX1_bundle_24 ?_
                refine lv_iload hx hb dX1_bundle_25 (lv_at hl 5 rfl) ?_
                refine q_addN (a := 16 * g) (b := i) hx hb dX1_bundle_27 ?_
                refine q_top (y := nI (g * 16 + i)) (by rw [Nat.mul_comm 16 g]) ?_
                refine q_ald nI qu hx hb hK hP 4 1 rfl rfl (k := g * 16 + i) (by omega) (Nat.le_of_ble_eq_true rfl) dX1_bundle_28 ?_
                refine lv_istore (lv' := [(7, .int (nI (qu (g * 16 + i)))), (0, .ref h), (1, .int (nI g)), (2, .long (lN sm)), (4, .int (bI false)), (5, .int (bI true)), (6, .int (nI i))]) hx hb dX1_bundle_29 hl (by decide) rfl (fun ls hl => ?_)
                refine lv_iload hx hb dX1_bundle_31 (lv_at hl 4 rfl) ?_
                refine q_ifB_ne (b := false) (tgt := 41) hx hb dX1_bundle_33 (by decide) (fun k33 => absurd k33 (by decide)) (fun k33 => ?_)
                refine lv_iload hx hb dX1_bundle_36 (lv_at hl 0 rfl) ?_
                refine q_ifN_le (a := qu (g * 16 + i)) (tgt := 45) (by have := hqu (g * 16 + i) (by omega); omega) hx hb dX1_bundle_38 (by decide) (fun k38 => absurd k38 (by omega)) (fun k38 => ?_)
                refine lv_iconst (v := nI 1) hx hb dX1_bundle_41 (by decide) ?_
                refine lv_goto (tgt := 46) hx hb dX1_bundle_42 (by decide) ?_
                refine q_top (y := bI true) ((by decide : nI 1 = bI true)) ?_
                refine lv_istore (lv' := [(4, .int (bI true)), (7, .int (nI (qu (g * 16 + i)))), (0, .ref h), (1, .int (nI g)), (2, .long (lN sm)), (5, .int (bI true)), (6, .int (nI i))]) hx hb dX1_bundle_46 hl (by decide) rfl (fun ls hl => ?_)
                refine lv_iload hx hb dX1_bundle_48 (lv_at hl 5 rfl) ?_
                refine q_ifB_eq (b := true) (tgt := 76) hx hb dX1_bundle_50 (by decide) (fun k50 => absurd k50 (by decide)) (fun k50 => ?_)
                refine lv_iload hx hb dX1_bundle_53 (lv_at hl 1 rfl) ?_
                refine q_ifN_eq (a := qu (g * 16 + i)) (tgt := 72) (by have := hqu (g * 16 + i) (by omega); omega) hx hb dX1_bundle_55 (by decide) (fun k55 => absurd k55 (by omega)) (fun k55 => ?_)
                refine lv_aload_n hx hb dX1_bundle_58 rfl (lv_at hl 2 rfl) ?_
                refine va_get (D := D) (ci := 1) (v := .ref (ad 16)) (C := RX1) (T := TX1) (N := 18) hx hb hts (iX1_bundle) hown hK hP 0 rfl rfl 16 (by decide) (hts (.fieldLink RX1 50 "ShopHubModel" "price" "[J") (by decide +kernel)) (fun _ h9 => h9) rfl dX1_bundle_59 ?_
                refine lv_iload hx hb dX1_bundle_62 (lv_at hl 6 rfl) ?_
                refine q_lld pr hx hb hK hP 14 2 rfl rfl (k := i) (by omega) (Nat.le_of_ble_eq_true rfl) dX1_bundle_64 ?_
                refine q_topL (y := (lN v)) (by rw [hv]; rfl) ?_
                refine lv_ldc2 (v := -1) hx hb hown (hts (.constantLong RX1 114 (-1)) (by decide +kernel)) dX1_bundle_65 ?_
                refine q_topL (y := (oL none)) (by decide) ?_
                refine W.lcmp hx hb dX1_bundle_68 ?_
                refine lv_if_eq (tgt := 76) hx hb dX1_bundle_69 (by decide) (fun k69 => absurd k69 (lcm_some (by omega))) (fun k69 => ?_)
                refine lv_iconst (v := nI 1) hx hb dX1_bundle_72 (by decide) ?_
                refine lv_goto (tgt := 77) hx hb dX1_bundle_73 (by decide) ?_
                refine q_top (y := bI true) ((by decide : nI 1 = bI true)) ?_
                refine lv_istore (lv' := [(5, .int (bI true)), (4, .int (bI true)), (7, .int (nI (qu (g * 16 + i)))), (0, .ref h), (1, .int (nI g)), (2, .long (lN sm)), (6, .int (nI i))]) hx hb dX1_bundle_77 hl (by decide) rfl (fun ls hl => ?_)
                refine lv_lload_n hx hb dX1_bundle_79 rfl (lv_at hl 5 rfl) ?_
                refine lv_iload hx hb dX1_bundle_80 (lv_at hl 2 rfl) ?_
                refine q_ifN_le (a := qu (g * 16 + i)) (tgt := 104) (by have := hqu (g * 16 + i) (by omega); omega) hx hb dX1_bundle_82 (by decide) (fun k82 => absurd k82 (by omega)) (fun k82 => ?_)
                refine lv_iload hx hb dX1_bundle_85 (lv_at hl 0 rfl) ?_
                refine q_ifB_eq (b := true) (tgt := 104) hx hb dX1_bundle_87 (by decide) (fun k87 => absurd k87 (by decide)) (fun k87 => ?_)
                refine lv_iload hx hb dX1_bundle_90 (lv_at hl 2 rfl) ?_
                refine lv_i2l (v := (lN (qu (g * 16 + i)))) hx hb dX1_bundle_92 (nI_l (by have := hqu (g * 16 + i) (by omega); omega)) ?_
                refine lv_aload_n hx hb dX1_bundle_93 rfl (lv_at hl 3 rfl) ?_
                refine va_get (D := D) (ci := 1) (v := .ref (ad 16)) (C := RX1) (T := TX1) (N := 18) hx hb hts (iX1_bundle) hown hK hP 0 rfl rfl 16 (by decide) (hts (.fieldLink RX1 50 "ShopHubModel" "price" "[J") (by decide +kernel)) (fun _ h9 => h9) rfl dX1_bundle_94 ?_
                refine lv_iload hx hb dX1_bundle_97 (lv_at hl 6 rfl) ?_
                refine q_lld pr hx hb hK hP 14 2 rfl rfl (k := i) (by omega) (Nat.le_of_ble_eq_true rfl) dX1_bundle_99 ?_
                refine q_topL (y := (lN v)) (by rw [hv]; rfl) ?_
                refine lv_lmul hx hb dX1_bundle_100 ?_
                refine q_topL (y := (lN ((qu (g * 16 + i)) * v))) (lN_mul _ _) ?_
                refine lv_goto (tgt := 105) hx hb dX1_bundle_101 (by decide) ?_
                refine lv_ladd hx hb dX1_bundle_105 ?_
                refine q_topL (y := (lN (sm + ((qu (g * 16 + i)) * v)))) (lN_add _ _) ?_
                refine lv_lstore_n (lv' := [(2, .long (lN (sm + ((qu (g * 16 + i)) * v)))), (5, .int (bI true)), (4, .int (bI true)), (7, .int (nI (qu (g * 16 + i)))), (0, .ref h), (1, .int (nI g)), (6, .int (nI i))]) hx hb dX1_bundle_106 rfl hl (by decide) rfl (fun ls hl => ?_)
                refine lv_iinc (v := nI (i + 1)) (lv' := [(6, .int (nI (i + 1))), (2, .long (lN (sm + ((qu (g * 16 + i)) * v)))), (5, .int (bI true)), (4, .int (bI true)), (7, .int (nI (qu (g * 16 + i)))), (0, .ref h), (1, .int (nI g))]) hx hb dX1_bundle_107 hl (k := 6) rfl (i1_n i) (by decide) rfl (fun ls hl => ?_)
                refine lv_goto (tgt := 11) hx hb dX1_bundle_110 (by decide) ?_
                exact ih (i + 1) true true (sm + ((qu (g * 16 + i)) * v)) (by omega) (by omega) ((exU_t (show pos qu g i = true from decide_eq_true hz)).symm) (by rw [exU_s (show nop qu pr g i = false by unfold nop; rw [hv, decide_eq_false (show ¬ some v = none by simp), Bool.and_false])]; exact hc1) (fun _ => by rw [psm_s hv, ← hs1 rfl, Nat.mul_comm]) (sm_s hsm (hqu _ (by omega)) hv9) _ (lv_sub hl [5, 6, 1, 3, 2, 0] rfl)
        | true =>
          refine lv_aload_n hx hb dX1_bundle_17 rfl (lv_at hl 0 rfl) ?_
          cases c2 with
          | false =>
            refine va_get (D := D) (ci := 1) (v := .ref (ad 5)) (C := RX1) (T := TX1) (N := 18) hx hb hts (iX1_bundle) hown hK hP 0 rfl rfl 5 (by decide) (hts (.fieldLink RX1 20 "ShopHubModel" "quantity" "[I") (by decide +kernel)) (fun _ h9 => h9) rfl dX1_bundle_18 ?_
            rcases Nat.eq_zero_or_pos (qu (g * 16 + i)) with hz | hz
            · refine lv_bipush (v := nI 16) hx hb dX1_bundle_21 (by decide) ?_
              rcases hv : pr i with _ | v
              · refine lv_iload_n hx hb dX1_bundle_23 rfl (lv_at hl 1 rfl) ?_
                refine q_mulN (a := 16) (b := g) hx hb dX1_bundle_24 ?_
                refine lv_iload hx hb dX1_bundle_25 (lv_at hl 5 rfl) ?_
                refine q_addN (a := 16 * g) (b := i) hx hb dX1_bundle_27 ?_
                refine q_top (y := nI (g * 16 + i)) (by rw [Nat.mul_comm 16 g]) ?_
                refine q_ald nI qu hx hb hK hP 4 1 rfl rfl (k := g * 16 + i) (by omega) (Nat.le_of_ble_eq_true rfl) dX1_bundle_28 ?_
                refine lv_istore (lv' := [(7, .int (nI (qu (g * 16 + i)))), (0, .ref h), (1, .int (nI g)), (2, .long (lN sm)), (4, .int (bI true)), (5, .int (bI false)), (6, .int (nI i))]) hx hb dX1_bundle_29 hl (by decide) rfl (fun ls hl => ?_)
                refine lv_iload hx hb dX1_bundle_31 (lv_at hl 4 rfl) ?_
                refine q_ifB_ne (b := true) (tgt := 41) hx hb dX1_bundle_33 (by decide) (fun k33 => ?_) (fun k33 => absurd k33 (by decide))
                refine lv_iconst (v := nI 1) hx hb dX1_bundle_41 (by decide) ?_
                refine lv_goto (tgt := 46) hx hb dX1_bundle_42 (by decide) ?_
                refine q_top (y := bI true) ((by decide : nI 1 = bI true)) ?_
                refine lv_istore (lv' := [(4, .int (bI true)), (7, .int (nI (qu (g * 16 + i)))), (0, .ref h), (1, .int (nI g)), (2, .long (lN sm)), (5, .int (bI false)), (6, .int (nI i))]) hx hb dX1_bundle_46 hl (by decide) rfl (fun ls hl => ?_)
                refine lv_iload hx hb dX1_bundle_48 (lv_at hl 5 rfl) ?_
                refine q_ifB_eq (b := false) (tgt := 76) hx hb dX1_bundle_50 (by decide) (fun k50 => ?_) (fun k50 => absurd k50 (by decide))
                refine lv_iconst (v := nI 0) hx hb dX1_bundle_76 (by decide) ?_
                refine q_top (y := bI false) ((by decide : nI 0 = bI false)) ?_
                refine lv_istore (lv' := [(5, .int (bI false)), (4, .int (bI true)), (7, .int (nI (qu (g * 16 + i)))), (0, .ref h), (1, .int (nI g)), (2, .long (lN sm)), (6, .int (nI i))]) hx hb dX1_bundle_77 hl (by decide) rfl (fun ls hl => ?_)
                refine lv_lload_n hx hb dX1_bundle_79 rfl (lv_at hl 5 rfl) ?_
                refine lv_iload hx hb dX1_bundle_80 (lv_at hl 2 rfl) ?_
                refine q_ifN_le (a := qu (g * 16 + i)) (tgt := 104) (by omega) hx hb dX1_bundle_82 (by decide) (fun k82 => ?_) (fun k82 => absurd k82 (by omega))
                refine lv_lconst (v := lN 0) hx hb dX1_bundle_104 (by decide) ?_
                refine lv_ladd hx hb dX1_bundle_105 ?_
                refine q_topL (y := (lN (sm + 0))) (lN_add _ _) ?_
                refine lv_lstore_n (lv' := [(2, .long (lN (sm + 0))), (5, .int (bI false)), (4, .int (bI true)), (7, .int (nI (qu (g * 16 + i)))), (0, .ref h), (1, .int (nI g)), (6, .int (nI i))]) hx hb dX1_bundle_106 rfl hl (by decide) rfl (fun ls hl => ?_)
                refine lv_iinc (v := nI (i + 1)) (lv' := [(6, .int (nI (i + 1))), (2, .long (lN (sm + 0))), (5, .int (bI false)), (4, .int (bI true)), (7, .int (nI (qu (g * 16 + i)))), (0, .ref h), (1, .int (nI g))]) hx hb dX1_bundle_107 hl (k := 6) rfl (i1_n i) (by decide) rfl (fun ls hl => ?_)
                refine lv_goto (tgt := 11) hx hb dX1_bundle_110 (by decide) ?_
                exact ih (i + 1) true false (sm + 0) (by omega) (by omega) (by rw [exU_s (show pos qu g i = false from decide_eq_false (by omega))]; exact hb1) (by rw [exU_s (show nop qu pr g i = false by unfold nop; rw [decide_eq_false (by omega), Bool.false_and])]; exact hc1) (fun h9 => by rw [psm_0 hz, Nat.add_zero]; exact hs1 h9) (sm_0 hsm) _ (lv_sub hl [5, 6, 1, 3, 2, 0] rfl)
              · have hv9 := hpb i (by omega) v hv
                refine lv_iload_n hx hb dX1_bundle_23 rfl (lv_at hl 1 rfl) ?_
                refine q_mulN (a := 16) (b := g) hx hb dX1_bundle_24 ?_
                refine lv_iload hx hb dX1_bundle_25 (lv_at hl 5 rfl) ?_
                refine q_addN (a := 16 * g) (b := i) hx hb dX1_bundle_27 ?_
                refine q_top (y := nI (g * 16 + i)) (by rw [Nat.mul_comm 16 g]) ?_
                refine q_ald nI qu hx hb hK hP 4 1 rfl rfl (k := g * 16 + i) (by omega) (Nat.le_of_ble_eq_true rfl) dX1_bundle_28 ?_
                refine lv_istore (lv' := [(7, .int (nI (qu (g * 16 + i)))), (0, .ref h), (1, .int (nI g)), (2, .long (lN sm)), (4, .int (bI true)), (5, .int (bI false)), (6, .int (nI i))]) hx hb dX1_bundle_29 hl (by decide) rfl (fun ls hl => ?_)
                refine lv_iload hx hb dX1_bundle_31 (lv_at hl 4 rfl) ?_
                refine q_ifB_ne (b := true) (tgt := 41) hx hb dX1_bundle_33 (by decide) (fun k33 => ?_) (fun k33 => absurd k33 (by decide))
                refine lv_iconst (v := nI 1) hx hb dX1_bundle_41 (by decide) ?_
                refine lv_goto (tgt := 46) hx hb dX1_bundle_42 (by decide) ?_
                refine q_top (y := bI true) ((by decide : nI 1 = bI true)) ?_
                refine lv_istore (lv' := [(4, .int (bI true)), (7, .int (nI (qu (g * 16 + i)))), (0, .ref h), (1, .int (nI g)), (2, .long (lN sm)), (5, .int (bI false)), (6, .int (nI i))]) hx hb dX1_bundle_46 hl (by decide) rfl (fun ls hl => ?_)
                refine lv_iload hx hb dX1_bundle_48 (lv_at hl 5 rfl) ?_
                refine q_ifB_eq (b := false) (tgt := 76) hx hb dX1_bundle_50 (by decide) (fun k50 => ?_) (fun k50 => absurd k50 (by decide))
                refine lv_iconst (v := nI 0) hx hb dX1_bundle_76 (by decide) ?_
                refine q_top (y := bI false) ((by decide : nI 0 = bI false)) ?_
                refine lv_istore (lv' := [(5, .int (bI false)), (4, .int (bI true)), (7, .int (nI (qu (g * 16 + i)))), (0, .ref h), (1, .int (nI g)), (2, .long (lN sm)), (6, .int (nI i))]) hx hb dX1_bundle_77 hl (by decide) rfl (fun ls hl => ?_)
                refine lv_lload_n hx hb dX1_bundle_79 rfl (lv_at hl 5 rfl) ?_
                refine lv_iload hx hb dX1_bundle_80 (lv_at hl 2 rfl) ?_
                refine q_ifN_le (a := qu (g * 16 + i)) (tgt := 104) (by omega) hx hb dX1_bundle_82 (by decide) (fun k82 => ?_) (fun k82 => absurd k82 (by omega))
                refine lv_lconst (v := lN 0) hx hb dX1_bundle_104 (by decide) ?_
                refine lv_ladd hx hb dX1_bundle_105 ?_
                refine q_topL (y := (lN (sm + 0))) (lN_add _ _) ?_
                refine lv_lstore_n (lv' := [(2, .long (lN (sm + 0))), (5, .int (bI false)), (4, .int (bI true)), (7, .int (nI (qu (g * 16 + i)))), (0, .ref h), (1, .int (nI g)), (6, .int (nI i))]) hx hb dX1_bundle_106 rfl hl (by decide) rfl (fun ls hl => ?_)
                refine lv_iinc (v := nI (i + 1)) (lv' := [(6, .int (nI (i + 1))), (2, .long (lN (sm + 0))), (5, .int (bI false)), (4, .int (bI true)), (7, .int (nI (qu (g * 16 + i)))), (0, .ref h), (1, .int (nI g))]) hx hb dX1_bundle_107 hl (k := 6) rfl (i1_n i) (by decide) rfl (fun ls hl => ?_)
                refine lv_goto (tgt := 11) hx hb dX1_bundle_110 (by decide) ?_
                exact ih (i + 1) true false (sm + 0) (by omega) (by omega) (by rw [exU_s (show pos qu g i = false from decide_eq_false (by omega))]; exact hb1) (by rw [exU_s (show nop qu pr g i = false by unfold nop; rw [decide_eq_false (by omega), Bool.false_and])]; exact hc1) (fun h9 => by rw [psm_0 hz, Nat.add_zero]; exact hs1 h9) (sm_0 hsm) _ (lv_sub hl [5, 6, 1, 3, 2, 0] rfl)
            · refine lv_bipush (v := nI 16) hx hb dX1_bundle_21 (by decide) ?_
              rcases hv : pr i with _ | v
              · refine lv_iload_n hx hb dX1_bundle_23 rfl (lv_at hl 1 rfl) ?_
                refine q_mulN (a := 16) (b := g) hx hb dX1_bundle_24 ?_
                refine lv_iload hx hb dX1_bundle_25 (lv_at hl 5 rfl) ?_
                refine q_addN (a := 16 * g) (b := i) hx hb dX1_bundle_27 ?_
                refine q_top (y := nI (g * 16 + i)) (by rw [Nat.mul_comm 16 g]) ?_
                refine q_ald nI qu hx hb hK hP 4 1 rfl rfl (k := g * 16 + i) (by omega) (Nat.le_of_ble_eq_true rfl) dX1_bundle_28 ?_
                refine lv_istore (lv' := [(7, .int (nI (qu (g * 16 + i)))), (0, .ref h), (1, .int (nI g)), (2, .long (lN sm)), (4, .int (bI true)), (5, .int (bI false)), (6, .int (nI i))]) hx hb dX1_bundle_29 hl (by decide) rfl (fun ls hl => ?_)
                refine lv_iload hx hb dX1_bundle_31 (lv_at hl 4 rfl) ?_
                refine q_ifB_ne (b := true) (tgt := 41) hx hb dX1_bundle_33 (by decide) (fun k33 => ?_) (fun k33 => absurd k33 (by decide))
                refine lv_iconst (v := nI 1) hx hb dX1_bundle_41 (by decide) ?_
                refine lv_goto (tgt := 46) hx hb dX1_bundle_42 (by decide) ?_
                refine q_top (y := bI true) ((by decide : nI 1 = bI true)) ?_
                refine lv_istore (lv' := [(4, .int (bI true)), (7, .int (nI (qu (g * 16 + i)))), (0, .ref h), (1, .int (nI g)), (2, .long (lN sm)), (5, .int (bI false)), (6, .int (nI i))]) hx hb dX1_bundle_46 hl (by decide) rfl (fun ls hl => ?_)
                refine lv_iload hx hb dX1_bundle_48 (lv_at hl 5 rfl) ?_
                refine q_ifB_eq (b := false) (tgt := 76) hx hb dX1_bundle_50 (by decide) (fun k50 => ?_) (fun k50 => absurd k50 (by decide))
                refine lv_iconst (v := nI 0) hx hb dX1_bundle_76 (by decide) ?_
                refine q_top (y := bI false) ((by decide : nI 0 = bI false)) ?_
                refine lv_istore (lv' := [(5, .int (bI false)), (4, .int (bI true)), (7, .int (nI (qu (g * 16 + i)))), (0, .ref h), (1, .int (nI g)), (2, .long (lN sm)), (6, .int (nI i))]) hx hb dX1_bundle_77 hl (by decide) rfl (fun ls hl => ?_)
                refine lv_lload_n hx hb dX1_bundle_79 rfl (lv_at hl 5 rfl) ?_
                refine lv_iload hx hb dX1_bundle_80 (lv_at hl 2 rfl) ?_
                refine q_ifN_le (a := qu (g * 16 + i)) (tgt := 104) (by have := hqu (g * 16 + i) (by omega); omega) hx hb dX1_bundle_82 (by decide) (fun k82 => absurd k82 (by omega)) (fun k82 => ?_)
                refine lv_iload hx hb dX1_bundle_85 (lv_at hl 0 rfl) ?_
                refine q_ifB_eq (b := false) (tgt := 104) hx hb dX1_bundle_87 (by decide) (fun k87 => ?_) (fun k87 => absurd k87 (by decide))
                refine lv_lconst (v := lN 0) hx hb dX1_bundle_104 (by decide) ?_
                refine lv_ladd hx hb dX1_bundle_105 ?_
                refine q_topL (y := (lN (sm + 0))) (lN_add _ _) ?_
                refine lv_lstore_n (lv' := [(2, .long (lN (sm + 0))), (5, .int (bI false)), (4, .int (bI true)), (7, .int (nI (qu (g * 16 + i)))), (0, .ref h), (1, .int (nI g)), (6, .int (nI i))]) hx hb dX1_bundle_106 rfl hl (by decide) rfl (fun ls hl => ?_)
                refine lv_iinc (v := nI (i + 1)) (lv' := [(6, .int (nI (i + 1))), (2, .long (lN (sm + 0))), (5, .int (bI false)), (4, .int (bI true)), (7, .int (nI (qu (g * 16 + i)))), (0, .ref h), (1, .int (nI g))]) hx hb dX1_bundle_107 hl (k := 6) rfl (i1_n i) (by decide) rfl (fun ls hl => ?_)
                refine lv_goto (tgt := 11) hx hb dX1_bundle_110 (by decide) ?_
                exact ih (i + 1) true false (sm + 0) (by omega) (by omega) ((exU_t (show pos qu g i = true from decide_eq_true hz)).symm) (by rw [exU_t (show nop qu pr g i = true by unfold nop; rw [decide_eq_true hz, decide_eq_true hv]; rfl)]; rfl) (fun h9 => by cases h9) (sm_0 hsm) _ (lv_sub hl [5, 6, 1, 3, 2, 0] rfl)
              · have hv9 := hpb i (by omega) v hv
                refine lv_iload_n hx hb dX1_bundle_23 rfl (lv_at hl 1 rfl) ?_
                refine q_mulN (a := 16) (b := g) hx hb dX1_bundle_24 ?_
                refine lv_iload hx hb dX1_bundle_25 (lv_at hl 5 rfl) ?_
                refine q_addN (a := 16 * g) (b := i) hx hb dX1_bundle_27 ?_
                refine q_top (y := nI (g * 16 + i)) (by rw [Nat.mul_comm 16 g]) ?_
                refine q_ald nI qu hx hb hK hP 4 1 rfl rfl (k := g * 16 + i) (by omega) (Nat.le_of_ble_eq_true rfl) dX1_bundle_28 ?_
                refine lv_istore (lv' := [(7, .int (nI (qu (g * 16 + i)))), (0, .ref h), (1, .int (nI g)), (2, .long (lN sm)), (4, .int (bI true)), (5, .int (bI false)), (6, .int (nI i))]) hx hb dX1_bundle_29 hl (by decide) rfl (fun ls hl => ?_)
                refine lv_iload hx hb dX1_bundle_31 (lv_at hl 4 rfl) ?_
                refine q_ifB_ne (b := true) (tgt := 41) hx hb dX1_bundle_33 (by decide) (fun k33 => ?_) (fun k33 => absurd k33 (by decide))
                refine lv_iconst (v := nI 1) hx hb dX1_bundle_41 (by decide) ?_
                refine lv_goto (tgt := 46) hx hb dX1_bundle_42 (by decide) ?_
                refine q_top (y := bI true) ((by decide : nI 1 = bI true)) ?_
                refine lv_istore (lv' := [(4, .int (bI true)), (7, .int (nI (qu (g * 16 + i)))), (0, .ref h), (1, .int (nI g)), (2, .long (lN sm)), (5, .int (bI false)), (6, .int (nI i))]) hx hb dX1_bundle_46 hl (by decide) rfl (fun ls hl => ?_)
                refine lv_iload hx hb dX1_bundle_48 (lv_at hl 5 rfl) ?_
                refine q_ifB_eq (b := false) (tgt := 76) hx hb dX1_bundle_50 (by decide) (fun k50 => ?_) (fun k50 => absurd k50 (by decide))
                refine lv_iconst (v := nI 0) hx hb dX1_bundle_76 (by decide) ?_
                refine q_top (y := bI false) ((by decide : nI 0 = bI false)) ?_
                refine lv_istore (lv' := [(5, .int (bI false)), (4, .int (bI true)), (7, .int (nI (qu (g * 16 + i)))), (0, .ref h), (1, .int (nI g)), (2, .long (lN sm)), (6, .int (nI i))]) hx hb dX1_bundle_77 hl (by decide) rfl (fun ls hl => ?_)
                refine lv_lload_n hx hb dX1_bundle_79 rfl (lv_at hl 5 rfl) ?_
                refine lv_iload hx hb dX1_bundle_80 (lv_at hl 2 rfl) ?_
                refine q_ifN_le (a := qu (g * 16 + i)) (tgt := 104) (by have := hqu (g * 16 + i) (by omega); omega) hx hb dX1_bundle_82 (by decide) (fun k82 => absurd k82 (by omega)) (fun k82 => ?_)
                refine lv_iload hx hb dX1_bundle_85 (lv_at hl 0 rfl) ?_
                refine q_ifB_eq (b := false) (tgt := 104) hx hb dX1_bundle_87 (by decide) (fun k87 => ?_) (fun k87 => absurd k87 (by decide))
                refine lv_lconst (v := lN 0) hx hb dX1_bundle_104 (by decide) ?_
                refine lv_ladd hx hb dX1_bundle_105 ?_
                refine q_topL (y := (lN (sm + 0))) (lN_add _ _) ?_
                refine lv_lstore_n (lv' := [(2, .long (lN (sm + 0))), (5, .int (bI false)), (4, .int (bI true)), (7, .int (nI (qu (g * 16 + i)))), (0, .ref h), (1, .int (nI g)), (6, .int (nI i))]) hx hb dX1_bundle_106 rfl hl (by decide) rfl (fun ls hl => ?_)
                refine lv_iinc (v := nI (i + 1)) (lv' := [(6, .int (nI (i + 1))), (2, .long (lN (sm + 0))), (5, .int (bI false)), (4, .int (bI true)), (7, .int (nI (qu (g * 16 + i)))), (0, .ref h), (1, .int (nI g))]) hx hb dX1_bundle_107 hl (k := 6) rfl (i1_n i) (by decide) rfl (fun ls hl => ?_)
                refine lv_goto (tgt := 11) hx hb dX1_bundle_110 (by decide) ?_
                exact ih (i + 1) true false (sm + 0) (by omega) (by omega) ((exU_t (show pos qu g i = true from decide_eq_true hz)).symm) (by rw [exU_s (show nop qu pr g i = false by unfold nop; rw [hv, decide_eq_false (show ¬ some v = none by simp), Bool.and_false])]; exact hc1) (fun h9 => by cases h9) (sm_0 hsm) _ (lv_sub hl [5, 6, 1, 3, 2, 0] rfl)
          | true =>
            refine va_get (D := D) (ci := 1) (v := .ref (ad 5)) (C := RX1) (T := TX1) (N := 18) hx hb hts (iX1_bundle) hown hK hP 0 rfl rfl 5 (by decide) (hts (.fieldLink RX1 20 "ShopHubModel" "quantity" "[I") (by decide +kernel)) (fun _ h9 => h9) rfl dX1_bundle_18 ?_
            rcases Nat.eq_zero_or_pos (qu (g * 16 + i)) with hz | hz
            · refine lv_bipush (v := nI 16) hx hb dX1_bundle_21 (by decide) ?_
              rcases hv : pr i with _ | v
              · refine lv_iload_n hx hb dX1_bundle_23 rfl (lv_at hl 1 rfl) ?_
                refine q_mulN (a := 16) (b := g) hx hb dX1_bundle_24 ?_
                refine lv_iload hx hb dX1_bundle_25 (lv_at hl 5 rfl) ?_
                refine q_addN (a := 16 * g) (b := i) hx hb dX1_bundle_27 ?_
                refine q_top (y := nI (g * 16 + i)) (by rw [Nat.mul_comm 16 g]) ?_
                refine q_ald nI qu hx hb hK hP 4 1 rfl rfl (k := g * 16 + i) (by omega) (Nat.le_of_ble_eq_true rfl) dX1_bundle_28 ?_
                refine lv_istore (lv' := [(7, .int (nI (qu (g * 16 + i)))), (0, .ref h), (1, .int (nI g)), (2, .long (lN sm)), (4, .int (bI true)), (5, .int (bI true)), (6, .int (nI i))]) hx hb dX1_bundle_29 hl (by decide) rfl (fun ls hl => ?_)
                refine lv_iload hx hb dX1_bundle_31 (lv_at hl 4 rfl) ?_
                refine q_ifB_ne (b := true) (tgt := 41) hx hb dX1_bundle_33 (by decide) (fun k33 => ?_) (fun k33 => absurd k33 (by decide))
                refine lv_iconst (v := nI 1) hx hb dX1_bundle_41 (by decide) ?_
                refine lv_goto (tgt := 46) hx hb dX1_bundle_42 (by decide) ?_
                refine q_top (y := bI true) ((by decide : nI 1 = bI true)) ?_
                refine lv_istore (lv' := [(4, .int (bI true)), (7, .int (nI (qu (g * 16 + i)))), (0, .ref h), (1, .int (nI g)), (2, .long (lN sm)), (5, .int (bI true)), (6, .int (nI i))]) hx hb dX1_bundle_46 hl (by decide) rfl (fun ls hl => ?_)
                refine lv_iload hx hb dX1_bundle_48 (lv_at hl 5 rfl) ?_
                refine q_ifB_eq (b := true) (tgt := 76) hx hb dX1_bundle_50 (by decide) (fun k50 => absurd k50 (by decide)) (fun k50 => ?_)
                refine lv_iload hx hb dX1_bundle_53 (lv_at hl 1 rfl) ?_
                refine q_ifN_eq (a := qu (g * 16 + i)) (tgt := 72) (by omega) hx hb dX1_bundle_55 (by decide) (fun k55 => ?_) (fun k55 => absurd hz k55)
                refine lv_iconst (v := nI 1) hx hb dX1_bundle_72 (by decide) ?_
                refine lv_goto (tgt := 77) hx hb dX1_bundle_73 (by decide) ?_
                refine q_top (y := bI true) ((by decide : nI 1 = bI true)) ?_
                refine lv_istore (lv' := [(5, .int (bI true)), (4, .int (bI true)), (7, .int (nI (qu (g * 16 + i)))), (0, .ref h), (1, .int (nI g)), (2, .long (lN sm)), (6, .int (nI i))]) hx hb dX1_bundle_77 hl (by decide) rfl (fun ls hl => ?_)
                refine lv_lload_n hx hb dX1_bundle_79 rfl (lv_at hl 5 rfl) ?_
                refine lv_iload hx hb dX1_bundle_80 (lv_at hl 2 rfl) ?_
                refine q_ifN_le (a := qu (g * 16 + i)) (tgt := 104) (by omega) hx hb dX1_bundle_82 (by decide) (fun k82 => ?_) (fun k82 => absurd k82 (by omega))
                refine lv_lconst (v := lN 0) hx hb dX1_bundle_104 (by decide) ?_
                refine lv_ladd hx hb dX1_bundle_105 ?_
                refine q_topL (y := (lN (sm + 0))) (lN_add _ _) ?_
                refine lv_lstore_n (lv' := [(2, .long (lN (sm + 0))), (5, .int (bI true)), (4, .int (bI true)), (7, .int (nI (qu (g * 16 + i)))), (0, .ref h), (1, .int (nI g)), (6, .int (nI i))]) hx hb dX1_bundle_106 rfl hl (by decide) rfl (fun ls hl => ?_)
                refine lv_iinc (v := nI (i + 1)) (lv' := [(6, .int (nI (i + 1))), (2, .long (lN (sm + 0))), (5, .int (bI true)), (4, .int (bI true)), (7, .int (nI (qu (g * 16 + i)))), (0, .ref h), (1, .int (nI g))]) hx hb dX1_bundle_107 hl (k := 6) rfl (i1_n i) (by decide) rfl (fun ls hl => ?_)
                refine lv_goto (tgt := 11) hx hb dX1_bundle_110 (by decide) ?_
                exact ih (i + 1) true true (sm + 0) (by omega) (by omega) (by rw [exU_s (show pos qu g i = false from decide_eq_false (by omega))]; exact hb1) (by rw [exU_s (show nop qu pr g i = false by unfold nop; rw [decide_eq_false (by omega), Bool.false_and])]; exact hc1) (fun h9 => by rw [psm_0 hz, Nat.add_zero]; exact hs1 h9) (sm_0 hsm) _ (lv_sub hl [5, 6, 1, 3, 2, 0] rfl)
              · have hv9 := hpb i (by omega) v hv
                refine lv_iload_n hx hb dX1_bundle_23 rfl (lv_at hl 1 rfl) ?_
                refine q_mulN (a := 16) (b := g) hx hb dX1_bundle_24 ?_
                refine lv_iload hx hb dX1_bundle_25 (lv_at hl 5 rfl) ?_
                refine q_addN (a := 16 * g) (b := i) hx hb dX1_bundle_27 ?_
                refine q_top (y := nI (g * 16 + i)) (by rw [Nat.mul_comm 16 g]) ?_
                refine q_ald nI qu hx hb hK hP 4 1 rfl rfl (k := g * 16 + i) (by omega) (Nat.le_of_ble_eq_true rfl) dX1_bundle_28 ?_
                refine lv_istore (lv' := [(7, .int (nI (qu (g * 16 + i)))), (0, .ref h), (1, .int (nI g)), (2, .long (lN sm)), (4, .int (bI true)), (5, .int (bI true)), (6, .int (nI i))]) hx hb dX1_bundle_29 hl (by decide) rfl (fun ls hl => ?_)
                refine lv_iload hx hb dX1_bundle_31 (lv_at hl 4 rfl) ?_
                refine q_ifB_ne (b := true) (tgt := 41) hx hb dX1_bundle_33 (by decide) (fun k33 => ?_) (fun k33 => absurd k33 (by decide))
                refine lv_iconst (v := nI 1) hx hb dX1_bundle_41 (by decide) ?_
                refine lv_goto (tgt := 46) hx hb dX1_bundle_42 (by decide) ?_
                refine q_top (y := bI true) ((by decide : nI 1 = bI true)) ?_
                refine lv_istore (lv' := [(4, .int (bI true)), (7, .int (nI (qu (g * 16 + i)))), (0, .ref h), (1, .int (nI g)), (2, .long (lN sm)), (5, .int (bI true)), (6, .int (nI i))]) hx hb dX1_bundle_46 hl (by decide) rfl (fun ls hl => ?_)
                refine lv_iload hx hb dX1_bundle_48 (lv_at hl 5 rfl) ?_
                refine q_ifB_eq (b := true) (tgt := 76) hx hb dX1_bundle_50 (by decide) (fun k50 => absurd k50 (by decide)) (fun k50 => ?_)
                refine lv_iload hx hb dX1_bundle_53 (lv_at hl 1 rfl) ?_
                refine q_ifN_eq (a := qu (g * 16 + i)) (tgt := 72) (by omega) hx hb dX1_bundle_55 (by decide) (fun k55 => ?_) (fun k55 => absurd hz k55)
                refine lv_iconst (v := nI 1) hx hb dX1_bundle_72 (by decide) ?_
                refine lv_goto (tgt := 77) hx hb dX1_bundle_73 (by decide) ?_
                refine q_top (y := bI true) ((by decide : nI 1 = bI true)) ?_
                refine lv_istore (lv' := [(5, .int (bI true)), (4, .int (bI true)), (7, .int (nI (qu (g * 16 + i)))), (0, .ref h), (1, .int (nI g)), (2, .long (lN sm)), (6, .int (nI i))]) hx hb dX1_bundle_77 hl (by decide) rfl (fun ls hl => ?_)
                refine lv_lload_n hx hb dX1_bundle_79 rfl (lv_at hl 5 rfl) ?_
                refine lv_iload hx hb dX1_bundle_80 (lv_at hl 2 rfl) ?_
                refine q_ifN_le (a := qu (g * 16 + i)) (tgt := 104) (by omega) hx hb dX1_bundle_82 (by decide) (fun k82 => ?_) (fun k82 => absurd k82 (by omega))
                refine lv_lconst (v := lN 0) hx hb dX1_bundle_104 (by decide) ?_
                refine lv_ladd hx hb dX1_bundle_105 ?_
                refine q_topL (y := (lN (sm + 0))) (lN_add _ _) ?_
                refine lv_lstore_n (lv' := [(2, .long (lN (sm + 0))), (5, .int (bI true)), (4, .int (bI true)), (7, .int (nI (qu (g * 16 + i)))), (0, .ref h), (1, .int (nI g)), (6, .int (nI i))]) hx hb dX1_bundle_106 rfl hl (by decide) rfl (fun ls hl => ?_)
                refine lv_iinc (v := nI (i + 1)) (lv' := [(6, .int (nI (i + 1))), (2, .long (lN (sm + 0))), (5, .int (bI true)), (4, .int (bI true)), (7, .int (nI (qu (g * 16 + i)))), (0, .ref h), (1, .int (nI g))]) hx hb dX1_bundle_107 hl (k := 6) rfl (i1_n i) (by decide) rfl (fun ls hl => ?_)
                refine lv_goto (tgt := 11) hx hb dX1_bundle_110 (by decide) ?_
                exact ih (i + 1) true true (sm + 0) (by omega) (by omega) (by rw [exU_s (show pos qu g i = false from decide_eq_false (by omega))]; exact hb1) (by rw [exU_s (show nop qu pr g i = false by unfold nop; rw [decide_eq_false (by omega), Bool.false_and])]; exact hc1) (fun h9 => by rw [psm_0 hz, Nat.add_zero]; exact hs1 h9) (sm_0 hsm) _ (lv_sub hl [5, 6, 1, 3, 2, 0] rfl)
            · refine lv_bipush (v := nI 16) hx hb dX1_bundle_21 (by decide) ?_
              rcases hv : pr i with _ | v
              · refine lv_iload_n hx hb dX1_bundle_23 rfl (lv_at hl 1 rfl) ?_
                refine q_mulN (a := 16) (b := g) hx hb dX1_bundle_24 ?_
                refine lv_iload hx hb dX1_bundle_25 (lv_at hl 5 rfl) ?_
                refine q_addN (a := 16 * g) (b := i) hx hb dX1_bundle_27 ?_
                refine q_top (y := nI (g * 16 + i)) (by rw [Nat.mul_comm 16 g]) ?_
                refine q_ald nI qu hx hb hK hP 4 1 rfl rfl (k := g * 16 + i) (by omega) (Nat.le_of_ble_eq_true rfl) dX1_bundle_28 ?_
                refine lv_istore (lv' := [(7, .int (nI (qu (g * 16 + i)))), (0, .ref h), (1, .int (nI g)), (2, .long (lN sm)), (4, .int (bI true)), (5, .int (bI true)), (6, .int (nI i))]) hx hb dX1_bundle_29 hl (by decide) rfl (fun ls hl => ?_)
                refine lv_iload hx hb dX1_bundle_31 (lv_at hl 4 rfl) ?_
                refine q_ifB_ne (b := true) (tgt := 41) hx hb dX1_bundle_33 (by decide) (fun k33 => ?_) (fun k33 => absurd k33 (by decide))
                refine lv_iconst (v := nI 1) hx hb dX1_bundle_41 (by decide) ?_
                refine lv_goto (tgt := 46) hx hb dX1_bundle_42 (by decide) ?_
                refine q_top (y := bI true) ((by decide : nI 1 = bI true)) ?_
                refine lv_istore (lv' := [(4, .int (bI true)), (7, .int (nI (qu (g * 16 + i)))), (0, .ref h), (1, .int (nI g)), (2, .long (lN sm)), (5, .int (bI true)), (6, .int (nI i))]) hx hb dX1_bundle_46 hl (by decide) rfl (fun ls hl => ?_)
                refine lv_iload hx hb dX1_bundle_48 (lv_at hl 5 rfl) ?_
                refine q_ifB_eq (b := true) (tgt := 76) hx hb dX1_bundle_50 (by decide) (fun k50 => absurd k50 (by decide)) (fun k50 => ?_)
                refine lv_iload hx hb dX1_bundle_53 (lv_at hl 1 rfl) ?_
                refine q_ifN_eq (a := qu (g * 16 + i)) (tgt := 72) (by have := hqu (g * 16 + i) (by omega); omega) hx hb dX1_bundle_55 (by decide) (fun k55 => absurd k55 (by omega)) (fun k55 => ?_)
                refine lv_aload_n hx hb dX1_bundle_58 rfl (lv_at hl 2 rfl) ?_
                refine va_get (D := D) (ci := 1) (v := .ref (ad 16)) (C := RX1) (T := TX1) (N := 18) hx hb hts (iX1_bundle) hown hK hP 0 rfl rfl 16 (by decide) (hts (.fieldLink RX1 50 "ShopHubModel" "price" "[J") (by decide +kernel)) (fun _ h9 => h9) rfl dX1_bundle_59 ?_
                refine lv_iload hx hb dX1_bundle_62 (lv_at hl 6 rfl) ?_
                refine q_lld pr hx hb hK hP 14 2 rfl rfl (k := i) (by omega) (Nat.le_of_ble_eq_true rfl) dX1_bundle_64 ?_
                refine q_topL (y := (oL none)) (by rw [hv]) ?_
                refine lv_ldc2 (v := -1) hx hb hown (hts (.constantLong RX1 114 (-1)) (by decide +kernel)) dX1_bundle_65 ?_
                refine q_topL (y := (oL none)) (by decide) ?_
                refine W.lcmp hx hb dX1_bundle_68 ?_
                refine lv_if_eq (tgt := 76) hx hb dX1_bundle_69 (by decide) (fun k69 => ?_) (fun k69 => absurd lcm_none k69)
                refine lv_iconst (v := nI 0) hx hb dX1_bundle_76 (by decide) ?_
                refine q_top (y := bI false) ((by decide : nI 0 = bI false)) ?_
                refine lv_istore (lv' := [(5, .int (bI false)), (4, .int (bI true)), (7, .int (nI (qu (g * 16 + i)))), (0, .ref h), (1, .int (nI g)), (2, .long (lN sm)), (6, .int (nI i))]) hx hb dX1_bundle_77 hl (by decide) rfl (fun ls hl => ?_)
                refine lv_lload_n hx hb dX1_bundle_79 rfl (lv_at hl 5 rfl) ?_
                refine lv_iload hx hb dX1_bundle_80 (lv_at hl 2 rfl) ?_
                refine q_ifN_le (a := qu (g * 16 + i)) (tgt := 104) (by have := hqu (g * 16 + i) (by omega); omega) hx hb dX1_bundle_82 (by decide) (fun k82 => absurd k82 (by omega)) (fun k82 => ?_)
                refine lv_iload hx hb dX1_bundle_85 (lv_at hl 0 rfl) ?_
                refine q_ifB_eq (b := false) (tgt := 104) hx hb dX1_bundle_87 (by decide) (fun k87 => ?_) (fun k87 => absurd k87 (by decide))
                refine lv_lconst (v := lN 0) hx hb dX1_bundle_104 (by decide) ?_
                refine lv_ladd hx hb dX1_bundle_105 ?_
                refine q_topL (y := (lN (sm + 0))) (lN_add _ _) ?_
                refine lv_lstore_n (lv' := [(2, .long (lN (sm + 0))), (5, .int (bI false)), (4, .int (bI true)), (7, .int (nI (qu (g * 16 + i)))), (0, .ref h), (1, .int (nI g)), (6, .int (nI i))]) hx hb dX1_bundle_106 rfl hl (by decide) rfl (fun ls hl => ?_)
                refine lv_iinc (v := nI (i + 1)) (lv' := [(6, .int (nI (i + 1))), (2, .long (lN (sm + 0))), (5, .int (bI false)), (4, .int (bI true)), (7, .int (nI (qu (g * 16 + i)))), (0, .ref h), (1, .int (nI g))]) hx hb dX1_bundle_107 hl (k := 6) rfl (i1_n i) (by decide) rfl (fun ls hl => ?_)
                refine lv_goto (tgt := 11) hx hb dX1_bundle_110 (by decide) ?_
                exact ih (i + 1) true false (sm + 0) (by omega) (by omega) ((exU_t (show pos qu g i = true from decide_eq_true hz)).symm) (by rw [exU_t (show nop qu pr g i = true by unfold nop; rw [decide_eq_true hz, decide_eq_true hv]; rfl)]; rfl) (fun h9 => by cases h9) (sm_0 hsm) _ (lv_sub hl [5, 6, 1, 3, 2, 0] rfl)
              · have hv9 := hpb i (by omega) v hv
                refine lv_iload_n hx hb dX1_bundle_23 rfl (lv_at hl 1 rfl) ?_
                refine q_mulN (a := 16) (b := g) hx hb dX1_bundle_24 ?_
                refine lv_iload hx hb dX1_bundle_25 (lv_at hl 5 rfl) ?_
                refine q_addN (a := 16 * g) (b := i) hx hb dX1_bundle_27 ?_
                refine q_top (y := nI (g * 16 + i)) (by rw [Nat.mul_comm 16 g]) ?_
                refine q_ald nI qu hx hb hK hP 4 1 rfl rfl (k := g * 16 + i) (by omega) (Nat.le_of_ble_eq_true rfl) dX1_bundle_28 ?_
                refine lv_istore (lv' := [(7, .int (nI (qu (g * 16 + i)))), (0, .ref h), (1, .int (nI g)), (2, .long (lN sm)), (4, .int (bI true)), (5, .int (bI true)), (6, .int (nI i))]) hx hb dX1_bundle_29 hl (by decide) rfl (fun ls hl => ?_)
                refine lv_iload hx hb dX1_bundle_31 (lv_at hl 4 rfl) ?_
                refine q_ifB_ne (b := true) (tgt := 41) hx hb dX1_bundle_33 (by decide) (fun k33 => ?_) (fun k33 => absurd k33 (by decide))
                refine lv_iconst (v := nI 1) hx hb dX1_bundle_41 (by decide) ?_
                refine lv_goto (tgt := 46) hx hb dX1_bundle_42 (by decide) ?_
                refine q_top (y := bI true) ((by decide : nI 1 = bI true)) ?_
                refine lv_istore (lv' := [(4, .int (bI true)), (7, .int (nI (qu (g * 16 + i)))), (0, .ref h), (1, .int (nI g)), (2, .long (lN sm)), (5, .int (bI true)), (6, .int (nI i))]) hx hb dX1_bundle_46 hl (by decide) rfl (fun ls hl => ?_)
                refine lv_iload hx hb dX1_bundle_48 (lv_at hl 5 rfl) ?_
                refine q_ifB_eq (b := true) (tgt := 76) hx hb dX1_bundle_50 (by decide) (fun k50 => absurd k50 (by decide)) (fun k50 => ?_)
                refine lv_iload hx hb dX1_bundle_53 (lv_at hl 1 rfl) ?_
                refine q_ifN_eq (a := qu (g * 16 + i)) (tgt := 72) (by have := hqu (g * 16 + i) (by omega); omega) hx hb dX1_bundle_55 (by decide) (fun k55 => absurd k55 (by omega)) (fun k55 => ?_)
                refine lv_aload_n hx hb dX1_bundle_58 rfl (lv_at hl 2 rfl) ?_
                refine va_get (D := D) (ci := 1) (v := .ref (ad 16)) (C := RX1) (T := TX1) (N := 18) hx hb hts (iX1_bundle) hown hK hP 0 rfl rfl 16 (by decide) (hts (.fieldLink RX1 50 "ShopHubModel" "price" "[J") (by decide +kernel)) (fun _ h9 => h9) rfl dX1_bundle_59 ?_
                refine lv_iload hx hb dX1_bundle_62 (lv_at hl 6 rfl) ?_
                refine q_lld pr hx hb hK hP 14 2 rfl rfl (k := i) (by omega) (Nat.le_of_ble_eq_true rfl) dX1_bundle_64 ?_
                refine q_topL (y := (lN v)) (by rw [hv]; rfl) ?_
                refine lv_ldc2 (v := -1) hx hb hown (hts (.constantLong RX1 114 (-1)) (by decide +kernel)) dX1_bundle_65 ?_
                refine q_topL (y := (oL none)) (by decide) ?_
                refine W.lcmp hx hb dX1_bundle_68 ?_
                refine lv_if_eq (tgt := 76) hx hb dX1_bundle_69 (by decide) (fun k69 => absurd k69 (lcm_some (by omega))) (fun k69 => ?_)
                refine lv_iconst (v := nI 1) hx hb dX1_bundle_72 (by decide) ?_
                refine lv_goto (tgt := 77) hx hb dX1_bundle_73 (by decide) ?_
                refine q_top (y := bI true) ((by decide : nI 1 = bI true)) ?_
                refine lv_istore (lv' := [(5, .int (bI true)), (4, .int (bI true)), (7, .int (nI (qu (g * 16 + i)))), (0, .ref h), (1, .int (nI g)), (2, .long (lN sm)), (6, .int (nI i))]) hx hb dX1_bundle_77 hl (by decide) rfl (fun ls hl => ?_)
                refine lv_lload_n hx hb dX1_bundle_79 rfl (lv_at hl 5 rfl) ?_
                refine lv_iload hx hb dX1_bundle_80 (lv_at hl 2 rfl) ?_
                refine q_ifN_le (a := qu (g * 16 + i)) (tgt := 104) (by have := hqu (g * 16 + i) (by omega); omega) hx hb dX1_bundle_82 (by decide) (fun k82 => absurd k82 (by omega)) (fun k82 => ?_)
                refine lv_iload hx hb dX1_bundle_85 (lv_at hl 0 rfl) ?_
                refine q_ifB_eq (b := true) (tgt := 104) hx hb dX1_bundle_87 (by decide) (fun k87 => absurd k87 (by decide)) (fun k87 => ?_)
                refine lv_iload hx hb dX1_bundle_90 (lv_at hl 2 rfl) ?_
                refine lv_i2l (v := (lN (qu (g * 16 + i)))) hx hb dX1_bundle_92 (nI_l (by have := hqu (g * 16 + i) (by omega); omega)) ?_
                refine lv_aload_n hx hb dX1_bundle_93 rfl (lv_at hl 3 rfl) ?_
                refine va_get (D := D) (ci := 1) (v := .ref (ad 16)) (C := RX1) (T := TX1) (N := 18) hx hb hts (iX1_bundle) hown hK hP 0 rfl rfl 16 (by decide) (hts (.fieldLink RX1 50 "ShopHubModel" "price" "[J") (by decide +kernel)) (fun _ h9 => h9) rfl dX1_bundle_94 ?_
                refine lv_iload hx hb dX1_bundle_97 (lv_at hl 6 rfl) ?_
                refine q_lld pr hx hb hK hP 14 2 rfl rfl (k := i) (by omega) (Nat.le_of_ble_eq_true rfl) dX1_bundle_99 ?_
                refine q_topL (y := (lN v)) (by rw [hv]; rfl) ?_
                refine lv_lmul hx hb dX1_bundle_100 ?_
                refine q_topL (y := (lN ((qu (g * 16 + i)) * v))) (lN_mul _ _) ?_
                refine lv_goto (tgt := 105) hx hb dX1_bundle_101 (by decide) ?_
                refine lv_ladd hx hb dX1_bundle_105 ?_
                refine q_topL (y := (lN (sm + ((qu (g * 16 + i)) * v)))) (lN_add _ _) ?_
                refine lv_lstore_n (lv' := [(2, .long (lN (sm + ((qu (g * 16 + i)) * v)))), (5, .int (bI true)), (4, .int (bI true)), (7, .int (nI (qu (g * 16 + i)))), (0, .ref h), (1, .int (nI g)), (6, .int (nI i))]) hx hb dX1_bundle_106 rfl hl (by decide) rfl (fun ls hl => ?_)
                refine lv_iinc (v := nI (i + 1)) (lv' := [(6, .int (nI (i + 1))), (2, .long (lN (sm + ((qu (g * 16 + i)) * v)))), (5, .int (bI true)), (4, .int (bI true)), (7, .int (nI (qu (g * 16 + i)))), (0, .ref h), (1, .int (nI g))]) hx hb dX1_bundle_107 hl (k := 6) rfl (i1_n i) (by decide) rfl (fun ls hl => ?_)
                refine lv_goto (tgt := 11) hx hb dX1_bundle_110 (by decide) ?_
                exact ih (i + 1) true true (sm + ((qu (g * 16 + i)) * v)) (by omega) (by omega) ((exU_t (show pos qu g i = true from decide_eq_true hz)).symm) (by rw [exU_s (show nop qu pr g i = false by unfold nop; rw [hv, decide_eq_false (show ¬ some v = none by simp), Bool.and_false])]; exact hc1) (fun _ => by rw [psm_s hv, ← hs1 rfl, Nat.mul_comm]) (sm_s hsm (hqu _ (by omega)) hv9) _ (lv_sub hl [5, 6, 1, 3, 2, 0] rfl)
  exact loop11 (g + 1) 0 false true 0 (by omega) (by omega) rfl rfl (fun _ => rfl) (by omega) _ (lv_sub hl [4, 5, 3, 2, 1, 0] rfl)

set_option maxHeartbeats 4000000 in
set_option maxRecDepth 100000 in
theorem kX1_draft (l : Launch) (D : va_G) (h : Nat) (ad : Nat → Nat) (cI cJ cZ : ClassId) (td : Nat) (gc : Nat) (ex : Nat → Bool) (pa : Nat → Option Nat) (di : Nat → Nat) (qu : Nat → Nat) (dc : Nat) (dg : Nat → Nat) (da : Nat → Nat) (dh : Nat → Option Nat) (dt : Nat → Option Nat) (dv : Nat → Option Nat) (dd : Nat → Nat) (ds : Nat → Nat) (ak : Nat → Bool) (se : Nat → Option Nat) (pr : Nat → Option Nat) (th : Nat) (sz : Nat) (g a : Nat) (x y v : Option Nat) (w : Nat) (hg : g < 16) (he : ex g = true) (ha : a < 6) (hxr : ∀ k, x = some k → k < 3) (hyr : ∀ k, y = some k → k < 3) (hgc : gc ≤ 16) (hxg : ∀ j, j < 16 → ex j = true → j < gc) (hvr : ∀ k, v = some k → k ≤ 100000) (hw2 : w ≤ 1000) (hdc : dc < 200) : Met l yX1_draft wsX1_draft ({ frames := 2, cells := 0, slots := 0, locals := 43 } : Room) (wP D (mW h ad cI cJ cZ td gc ex pa di qu dc dg da dh dt dv dd ds ak se pr th) (mT cI cJ cZ) [.ref h, .int (nI g), .int (nI a), .int (oI x), .int (oI y), .int (oI v), .int (nI w)] sz) (wQ D (mW h ad cI cJ cZ td gc ex pa di qu dc dg da dh dt dv dd ds ak se pr th) (mW h ad cI cJ cZ td gc ex pa di qu (dc + 1) (va_up dg dc g) (va_up da dc a) (va_up dh dc x) (va_up dt dc y) (va_up dv dc v) (va_up dd dc w) ds ak se pr 0) (some (.int (nI dc)))) 0 0 (va_A (mW h ad cI cJ cZ td gc ex pa di qu dc dg da dh dt dv dd ds ak se pr th) sz) := by
  refine Met.ofW (cc := cX1_draft) (maxL := 9) (ret := (some .int)) (by decide) rfl ?_
  intro p e s m args below meth c s₁ B hml hv
  obtain ⟨rfl, hsz, hP, hK, hD0⟩ := hv
  have hx := B.exec
  have hb := B.bytes
  have hr := B.returns
  have hts := atoms_spec (ws := wsX1_draft) B.pre
  have hown : s.vm.findClass RX1 = some m.cls := findClass_of_methodNamed B.named
  have hlocks := B.notSynchronized
  subst hsz
  have hD := hD0.self (sz := s.heap.size)
  generalize hAe : va_A (mW h ad cI cJ cZ td gc ex pa di qu dc dg da dh dt dv dd ds ak se pr th) s.heap.size = A at hD ⊢
  have hA : ∀ q : Nat, s.heap.size ≤ q → A q := fun q h => by rw [← hAe]; exact Or.inr h
  have hS : va_S A s.heap s.heap [] := va_S.rf
  have hl := lv_entry ([.ref h, .int (nI g), .int (nI a), .int (oI x), .int (oI y), .int (oI v), .int (nI w)]) (n := 9) (Nat.le_of_ble_eq_true rfl)
  rw [lg_entry_eq]
  generalize (lg_sl ([.ref h, .int (nI g), .int (nI a), .int (oI x), .int (oI y), .int (oI v), .int (nI w)]) ++ List.replicate (9 - (lg_sl ([.ref h, .int (nI g), .int (nI a), .int (oI x), .int (oI y), .int (oI v), .int (nI w)])).length) Slot.unset).toArray = ls at hl ⊢
  have hl : lv_has ls 9 [(0, .ref h), (1, .int (nI g)), (2, .int (nI a)), (3, .int (oI x)), (4, .int (oI y)), (5, .int (oI v)), (6, .int (nI w))] := hl
  refine lv_aload_n hx hb dX1_draft_0 rfl (lv_at hl 0 rfl) ?_
  refine lv_iload_n hx hb dX1_draft_1 rfl (lv_at hl 1 rfl) ?_
  refine q_callI (r := bI (ex g)) (va_runV (As := [.int (nI g)]) (rest := []) ⟨hx, hb, hml, hown, hts⟩ (kX1_isGoodN l D h ad cI cJ cZ td gc ex pa di qu dc dg da dh dt dv dd ds ak se pr th g hg hgc hxg) (cwV 1 hts gX1_draft_X1_isGood rfl rfl rfl (by decide +kernel) ⟨Nat.le_of_ble_eq_true rfl, Nat.le_of_ble_eq_true rfl⟩) ⟨pP_blind, va_recv hK hP (ci := 1) (q0 := 0) rfl rfl, pP_pre hP hK⟩ rfl rfl hl.1 rfl (lv_room (Nat.le_of_ble_eq_true rfl)) dX1_draft_2 ⟨Nat.zero_le _, Nat.zero_le _⟩) ?_
  refine q_ifB_eq (b := ex g) (tgt := 40) hx hb dX1_draft_5 (by decide) (fun k5 => absurd k5 (by rw [he]; decide)) (fun k5 => ?_)
  refine lv_iload_n hx hb dX1_draft_8 rfl (lv_at hl 2 rfl) ?_
  refine lv_iconst (v := nI 0) hx hb dX1_draft_9 (by decide) ?_
  refine lv_iconst (v := nI 5) hx hb dX1_draft_10 (by decide) ?_
  refine q_callI (r := bI (isin (nI a) (nI 0) (nI 5))) (va_runS (As := [.int (nI a), .int (nI 0), .int (nI 5)]) (rest := []) ⟨hx, hb, hml, hown, hts⟩ (kX1_isIn l (nI a) (nI 0) (nI 5)) (cwS 3 hts gX1_draft_X1_isIn rfl rfl rfl (by decide +kernel) ⟨Nat.le_of_ble_eq_true rfl, Nat.le_of_ble_eq_true rfl⟩) ⟨sP_blind, sP_pre⟩ rfl rfl hl.1 rfl (lv_room (Nat.le_of_ble_eq_true rfl)) dX1_draft_11 ⟨Nat.zero_le _, Nat.zero_le _⟩) ?_
  refine q_top (y := bI true) (by rw [isin_N (by omega) (by decide), decide_eq_true (by omega)]) ?_
  refine q_ifB_eq (b := true) (tgt := 40) hx hb dX1_draft_14 (by decide) (fun k14 => absurd k14 (by decide)) (fun k14 => ?_)
  refine lv_iload_n hx hb dX1_draft_17 rfl (lv_at hl 3 rfl) ?_
  refine lv_iconst (v := oI none) hx hb dX1_draft_18 (by decide) ?_
  refine lv_iconst (v := nI 2) hx hb dX1_draft_19 (by decide) ?_
  refine q_callI (r := bI (isin (oI x) (oI none) (nI 2))) (va_runS (As := [.int (oI x), .int (oI none), .int (nI 2)]) (rest := []) ⟨hx, hb, hml, hown, hts⟩ (kX1_isIn l (oI x) (oI none) (nI 2)) (cwS 3 hts gX1_draft_X1_isIn rfl rfl rfl (by decide +kernel) ⟨Nat.le_of_ble_eq_true rfl, Nat.le_of_ble_eq_true rfl⟩) ⟨sP_blind, sP_pre⟩ rfl rfl hl.1 rfl (lv_room (Nat.le_of_ble_eq_true rfl)) dX1_draft_20 ⟨Nat.zero_le _, Nat.zero_le _⟩) ?_
  refine q_top (y := bI true) (by rw [isin_o (by decide) (fun k h9 => by have := hxr k h9; omega)]) ?_
  refine q_ifB_eq (b := true) (tgt := 40) hx hb dX1_draft_23 (by decide) (fun k23 => absurd k23 (by decide)) (fun k23 => ?_)
  refine lv_iload hx hb dX1_draft_26 (lv_at hl 4 rfl) ?_
  refine lv_iconst (v := oI none) hx hb dX1_draft_28 (by decide) ?_
  refine lv_iconst (v := nI 2) hx hb dX1_draft_29 (by decide) ?_
  refine q_callI (r := bI (isin (oI y) (oI none) (nI 2))) (va_runS (As := [.int (oI y), .int (oI none), .int (nI 2)]) (rest := []) ⟨hx, hb, hml, hown, hts⟩ (kX1_isIn l (oI y) (oI none) (nI 2)) (cwS 3 hts gX1_draft_X1_isIn rfl rfl rfl (by decide +kernel) ⟨Nat.le_of_ble_eq_true rfl, Nat.le_of_ble_eq_true rfl⟩) ⟨sP_blind, sP_pre⟩ rfl rfl hl.1 rfl (lv_room (Nat.le_of_ble_eq_true rfl)) dX1_draft_30 ⟨Nat.zero_le _, Nat.zero_le _⟩) ?_
  refine q_top (y := bI true) (by rw [isin_o (by decide) (fun k h9 => by have := hyr k h9; omega)]) ?_
  refine q_ifB_eq (b := true) (tgt := 40) hx hb dX1_draft_33 (by decide) (fun k33 => absurd k33 (by decide)) (fun k33 => ?_)
  refine lv_iconst (v := nI 1) hx hb dX1_draft_36 (by decide) ?_
  refine lv_goto (tgt := 41) hx hb dX1_draft_37 (by decide) ?_
  refine q_top (y := bI true) ((by decide : nI 1 = bI true)) ?_
  refine lv_istore (lv' := [(7, .int (bI true)), (0, .ref h), (1, .int (nI g)), (2, .int (nI a)), (3, .int (oI x)), (4, .int (oI y)), (5, .int (oI v)), (6, .int (nI w))]) hx hb dX1_draft_41 hl (by decide) rfl (fun ls hl => ?_)
  refine lv_iload hx hb dX1_draft_43 (lv_at hl 6 rfl) ?_
  refine lv_iconst (v := oI none) hx hb dX1_draft_45 (by decide) ?_
  refine lv_ldc (v := 100000) hx hb hown (hts (.constant RX1 80 (100000)) (by decide +kernel)) dX1_draft_46 ?_
  refine q_top (y := nI 100000) (by decide : (100000 : Int32) = nI 100000) ?_
  refine q_callI (r := bI (isin (oI v) (oI none) (nI 100000))) (va_runS (As := [.int (oI v), .int (oI none), .int (nI 100000)]) (rest := []) ⟨hx, hb, hml, hown, hts⟩ (kX1_isIn l (oI v) (oI none) (nI 100000)) (cwS 3 hts gX1_draft_X1_isIn rfl rfl rfl (by decide +kernel) ⟨Nat.le_of_ble_eq_true rfl, Nat.le_of_ble_eq_true rfl⟩) ⟨sP_blind, sP_pre⟩ rfl rfl hl.1 rfl (lv_room (Nat.le_of_ble_eq_true rfl)) dX1_draft_48 ⟨Nat.zero_le _, Nat.zero_le _⟩) ?_
  refine q_top (y := bI true) (by rw [isin_o (by decide) (hvr)]) ?_
  refine q_ifB_eq (b := true) (tgt := 70) hx hb dX1_draft_51 (by decide) (fun k51 => absurd k51 (by decide)) (fun k51 => ?_)
  refine lv_iload hx hb dX1_draft_54 (lv_at hl 7 rfl) ?_
  refine lv_iconst (v := nI 0) hx hb dX1_draft_56 (by decide) ?_
  refine lv_sipush (v := nI 1000) hx hb dX1_draft_57 (by decide) ?_
  refine q_callI (r := bI (isin (nI w) (nI 0) (nI 1000))) (va_runS (As := [.int (nI w), .int (nI 0), .int (nI 1000)]) (rest := []) ⟨hx, hb, hml, hown, hts⟩ (kX1_isIn l (nI w) (nI 0) (nI 1000)) (cwS 3 hts gX1_draft_X1_isIn rfl rfl rfl (by decide +kernel) ⟨Nat.le_of_ble_eq_true rfl, Nat.le_of_ble_eq_true rfl⟩) ⟨sP_blind, sP_pre⟩ rfl rfl hl.1 rfl (lv_room (Nat.le_of_ble_eq_true rfl)) dX1_draft_60 ⟨Nat.zero_le _, Nat.zero_le _⟩) ?_
  refine q_top (y := bI true) (by rw [isin_N (by omega) (by decide), decide_eq_true (by omega)]) ?_
  refine q_ifB_eq (b := true) (tgt := 70) hx hb dX1_draft_63 (by decide) (fun k63 => absurd k63 (by decide)) (fun k63 => ?_)
  refine lv_iconst (v := nI 1) hx hb dX1_draft_66 (by decide) ?_
  refine lv_goto (tgt := 71) hx hb dX1_draft_67 (by decide) ?_
  refine q_top (y := bI true) ((by decide : nI 1 = bI true)) ?_
  refine lv_istore (lv' := [(8, .int (bI true)), (7, .int (bI true)), (0, .ref h), (1, .int (nI g)), (2, .int (nI a)), (3, .int (oI x)), (4, .int (oI y)), (5, .int (oI v)), (6, .int (nI w))]) hx hb dX1_draft_71 hl (by decide) rfl (fun ls hl => ?_)
  refine lv_aload_n hx hb dX1_draft_73 rfl (lv_at hl 2 rfl) ?_
  refine lv_iload hx hb dX1_draft_74 (lv_at hl 1 rfl) ?_
  refine q_ifB_ne (b := true) (tgt := 83) hx hb dX1_draft_76 (by decide) (fun k76 => ?_) (fun k76 => absurd k76 (by decide))
  refine lv_iload hx hb dX1_draft_83 (lv_at hl 0 rfl) ?_
  refine q_ifB_ne (b := true) (tgt := 92) hx hb dX1_draft_85 (by decide) (fun k85 => ?_) (fun k85 => absurd k85 (by decide))
  refine lv_aload_n hx hb dX1_draft_92 rfl (lv_at hl 2 rfl) ?_
  refine va_get (D := D) (ci := 1) (v := .int (nI dc)) (C := RX1) (T := TX1) (N := 18) hx hb hts (iX1_draft) hown hK hP 0 rfl rfl 6 (by decide) (hts (.fieldLink RX1 81 "ShopHubModel" "drafts" "I") (by decide +kernel)) (fun _ h9 => h9) rfl dX1_draft_93 ?_
  refine lv_sipush (v := nI 200) hx hb dX1_draft_96 (by decide) ?_
  refine q_icmpN_ne (a := dc) (b := 200) (tgt := 106) (by omega) (by omega) hx hb dX1_draft_99 (by decide) (fun k99 => ?_) (fun k99 => absurd k99 (by omega))
  refine lv_iconst (v := nI 0) hx hb dX1_draft_106 (by decide) ?_
  refine q_wcallI (r := bI (decide (0 < 0))) (w' := (mW h ad cI cJ cZ td gc ex pa di qu dc dg da dh dt dv dd ds ak se pr 0)) (va_runV (As := [.int (nI 0)]) (rest := []) ⟨hx, hb, hml, hown, hts⟩ (kX1_fails l D h ad cI cJ cZ td gc ex pa di qu dc dg da dh dt dv dd ds ak se pr th _ 0 (by decide)) (cwV 1 hts gX1_draft_X1_fails rfl rfl rfl (by decide +kernel) ⟨Nat.le_of_ble_eq_true rfl, Nat.le_of_ble_eq_true rfl⟩) ⟨wP_blind, va_recv hK hP (ci := 1) (q0 := 0) rfl rfl, wP_pre hP hK hD⟩ rfl rfl hl.1 rfl (lv_room (Nat.le_of_ble_eq_true rfl)) dX1_draft_107 ⟨Nat.zero_le _, Nat.zero_le _⟩) hD hS hA rfl (fun H locs hP hD hS => ?_)
  refine q_ifB_eq (b := decide (0 < 0)) (tgt := 115) hx hb dX1_draft_110 (by decide) (fun k110 => ?_) (fun k110 => absurd k110 (by decide))
  refine lv_aload_n hx hb dX1_draft_115 rfl (lv_at hl 2 rfl) ?_
  refine va_get (D := D) (ci := 1) (v := .ref (ad 7)) (C := RX1) (T := TX1) (N := 18) hx hb hts (iX1_draft) hown hK hP 0 rfl rfl 7 (by decide) (hts (.fieldLink RX1 23 "ShopHubModel" "good" "[I") (by decide +kernel)) (fun _ h9 => h9) rfl dX1_draft_116 ?_
  refine lv_aload_n hx hb dX1_draft_119 rfl (lv_at hl 2 rfl) ?_
  refine va_get (D := D) (ci := 1) (v := .int (nI dc)) (C := RX1) (T := TX1) (N := 18) hx hb hts (iX1_draft) hown hK hP 0 rfl rfl 6 (by decide) (hts (.fieldLink RX1 81 "ShopHubModel" "drafts" "I") (by decide +kernel)) (fun _ h9 => h9) rfl dX1_draft_120 ?_
  refine lv_iload_n hx hb dX1_draft_123 rfl (lv_at hl 3 rfl) ?_
  refine q_ast nI dg g hx hb hK hP hD hS 5 1 rfl rfl (k := dc) (by omega) (Nat.le_of_ble_eq_true rfl) dX1_draft_124 (fun H locs hP hD hS => ?_)
  have hP : va_P D vwCl (mW h ad cI cJ cZ td gc ex pa di qu dc (va_up dg dc g) da dh dt dv dd ds ak se pr 0) H := hP
  have hD : va_D A (mW h ad cI cJ cZ td gc ex pa di qu dc (va_up dg dc g) da dh dt dv dd ds ak se pr 0) := hD
  refine lv_aload_n hx hb dX1_draft_125 rfl (lv_at hl 2 rfl) ?_
  refine va_get (D := D) (ci := 1) (v := .ref (ad 8)) (C := RX1) (T := TX1) (N := 18) hx hb hts (iX1_draft) hown hK hP 0 rfl rfl 8 (by decide) (hts (.fieldLink RX1 26 "ShopHubModel" "attribute" "[I") (by decide +kernel)) (fun _ h9 => h9) rfl dX1_draft_126 ?_
  refine lv_aload_n hx hb dX1_draft_129 rfl (lv_at hl 2 rfl) ?_
  refine va_get (D := D) (ci := 1) (v := .int (nI dc)) (C := RX1) (T := TX1) (N := 18) hx hb hts (iX1_draft) hown hK hP 0 rfl rfl 6 (by decide) (hts (.fieldLink RX1 81 "ShopHubModel" "drafts" "I") (by decide +kernel)) (fun _ h9 => h9) rfl dX1_draft_130 ?_
  refine lv_iload_n hx hb dX1_draft_133 rfl (lv_at hl 4 rfl) ?_
  refine q_ast nI da a hx hb hK hP hD hS 6 1 rfl rfl (k := dc) (by omega) (Nat.le_of_ble_eq_true rfl) dX1_draft_134 (fun H locs hP hD hS => ?_)
  have hP : va_P D vwCl (mW h ad cI cJ cZ td gc ex pa di qu dc (va_up dg dc g) (va_up da dc a) dh dt dv dd ds ak se pr 0) H := hP
  have hD : va_D A (mW h ad cI cJ cZ td gc ex pa di qu dc (va_up dg dc g) (va_up da dc a) dh dt dv dd ds ak se pr 0) := hD
  refine lv_aload_n hx hb dX1_draft_135 rfl (lv_at hl 2 rfl) ?_
  refine va_get (D := D) (ci := 1) (v := .ref (ad 9)) (C := RX1) (T := TX1) (N := 18) hx hb hts (iX1_draft) hown hK hP 0 rfl rfl 9 (by decide) (hts (.fieldLink RX1 29 "ShopHubModel" "shop" "[I") (by decide +kernel)) (fun _ h9 => h9) rfl dX1_draft_136 ?_
  refine lv_aload_n hx hb dX1_draft_139 rfl (lv_at hl 2 rfl) ?_
  refine va_get (D := D) (ci := 1) (v := .int (nI dc)) (C := RX1) (T := TX1) (N := 18) hx hb hts (iX1_draft) hown hK hP 0 rfl rfl 6 (by decide) (hts (.fieldLink RX1 81 "ShopHubModel" "drafts" "I") (by decide +kernel)) (fun _ h9 => h9) rfl dX1_draft_140 ?_
  refine lv_iload_n hx hb dX1_draft_143 rfl (lv_at hl 5 rfl) ?_
  refine q_ast oI dh x hx hb hK hP hD hS 7 1 rfl rfl (k := dc) (by omega) (Nat.le_of_ble_eq_true rfl) dX1_draft_144 (fun H locs hP hD hS => ?_)
  have hP : va_P D vwCl (mW h ad cI cJ cZ td gc ex pa di qu dc (va_up dg dc g) (va_up da dc a) (va_up dh dc x) dt dv dd ds ak se pr 0) H := hP
  have hD : va_D A (mW h ad cI cJ cZ td gc ex pa di qu dc (va_up dg dc g) (va_up da dc a) (va_up dh dc x) dt dv dd ds ak se pr 0) := hD
  refine lv_aload_n hx hb dX1_draft_145 rfl (lv_at hl 2 rfl) ?_
  refine va_get (D := D) (ci := 1) (v := .ref (ad 10)) (C := RX1) (T := TX1) (N := 18) hx hb hts (iX1_draft) hown hK hP 0 rfl rfl 10 (by decide) (hts (.fieldLink RX1 32 "ShopHubModel" "tongue" "[I") (by decide +kernel)) (fun _ h9 => h9) rfl dX1_draft_146 ?_
  refine lv_aload_n hx hb dX1_draft_149 rfl (lv_at hl 2 rfl) ?_
  refine va_get (D := D) (ci := 1) (v := .int (nI dc)) (C := RX1) (T := TX1) (N := 18) hx hb hts (iX1_draft) hown hK hP 0 rfl rfl 6 (by decide) (hts (.fieldLink RX1 81 "ShopHubModel" "drafts" "I") (by decide +kernel)) (fun _ h9 => h9) rfl dX1_draft_150 ?_
  refine lv_iload hx hb dX1_draft_153 (lv_at hl 6 rfl) ?_
  refine q_ast oI dt y hx hb hK hP hD hS 8 1 rfl rfl (k := dc) (by omega) (Nat.le_of_ble_eq_true rfl) dX1_draft_155 (fun H locs hP hD hS => ?_)
  have hP : va_P D vwCl (mW h ad cI cJ cZ td gc ex pa di qu dc (va_up dg dc g) (va_up da dc a) (va_up dh dc x) (va_up dt dc y) dv dd ds ak se pr 0) H := hP
  have hD : va_D A (mW h ad cI cJ cZ td gc ex pa di qu dc (va_up dg dc g) (va_up da dc a) (va_up dh dc x) (va_up dt dc y) dv dd ds ak se pr 0) := hD
  refine lv_aload_n hx hb dX1_draft_156 rfl (lv_at hl 2 rfl) ?_
  refine va_get (D := D) (ci := 1) (v := .ref (ad 11)) (C := RX1) (T := TX1) (N := 18) hx hb hts (iX1_draft) hown hK hP 0 rfl rfl 11 (by decide) (hts (.fieldLink RX1 35 "ShopHubModel" "value" "[I") (by decide +kernel)) (fun _ h9 => h9) rfl dX1_draft_157 ?_
  refine lv_aload_n hx hb dX1_draft_160 rfl (lv_at hl 2 rfl) ?_
  refine va_get (D := D) (ci := 1) (v := .int (nI dc)) (C := RX1) (T := TX1) (N := 18) hx hb hts (iX1_draft) hown hK hP 0 rfl rfl 6 (by decide) (hts (.fieldLink RX1 81 "ShopHubModel" "drafts" "I") (by decide +kernel)) (fun _ h9 => h9) rfl dX1_draft_161 ?_
  refine lv_iload hx hb dX1_draft_164 (lv_at hl 7 rfl) ?_
  refine q_ast oI dv v hx hb hK hP hD hS 9 1 rfl rfl (k := dc) (by omega) (Nat.le_of_ble_eq_true rfl) dX1_draft_166 (fun H locs hP hD hS => ?_)
  have hP : va_P D vwCl (mW h ad cI cJ cZ td gc ex pa di qu dc (va_up dg dc g) (va_up da dc a) (va_up dh dc x) (va_up dt dc y) (va_up dv dc v) dd ds ak se pr 0) H := hP
  have hD : va_D A (mW h ad cI cJ cZ td gc ex pa di qu dc (va_up dg dc g) (va_up da dc a) (va_up dh dc x) (va_up dt dc y) (va_up dv dc v) dd ds ak se pr 0) := hD
  refine lv_aload_n hx hb dX1_draft_167 rfl (lv_at hl 2 rfl) ?_
  refine va_get (D := D) (ci := 1) (v := .ref (ad 12)) (C := RX1) (T := TX1) (N := 18) hx hb hts (iX1_draft) hown hK hP 0 rfl rfl 12 (by decide) (hts (.fieldLink RX1 38 "ShopHubModel" "day" "[I") (by decide +kernel)) (fun _ h9 => h9) rfl dX1_draft_168 ?_
  refine lv_aload_n hx hb dX1_draft_171 rfl (lv_at hl 2 rfl) ?_
  refine va_get (D := D) (ci := 1) (v := .int (nI dc)) (C := RX1) (T := TX1) (N := 18) hx hb hts (iX1_draft) hown hK hP 0 rfl rfl 6 (by decide) (hts (.fieldLink RX1 81 "ShopHubModel" "drafts" "I") (by decide +kernel)) (fun _ h9 => h9) rfl dX1_draft_172 ?_
  refine lv_iload hx hb dX1_draft_175 (lv_at hl 8 rfl) ?_
  refine q_ast nI dd w hx hb hK hP hD hS 10 1 rfl rfl (k := dc) (by omega) (Nat.le_of_ble_eq_true rfl) dX1_draft_177 (fun H locs hP hD hS => ?_)
  have hP : va_P D vwCl (mW h ad cI cJ cZ td gc ex pa di qu dc (va_up dg dc g) (va_up da dc a) (va_up dh dc x) (va_up dt dc y) (va_up dv dc v) (va_up dd dc w) ds ak se pr 0) H := hP
  have hD : va_D A (mW h ad cI cJ cZ td gc ex pa di qu dc (va_up dg dc g) (va_up da dc a) (va_up dh dc x) (va_up dt dc y) (va_up dv dc v) (va_up dd dc w) ds ak se pr 0) := hD
  refine lv_aload_n hx hb dX1_draft_178 rfl (lv_at hl 2 rfl) ?_
  refine lv_dup hx hb dX1_draft_179 rfl ?_
  refine va_get (D := D) (ci := 1) (v := .int (nI dc)) (C := RX1) (T := TX1) (N := 18) hx hb hts (iX1_draft) hown hK hP 0 rfl rfl 6 (by decide) (hts (.fieldLink RX1 81 "ShopHubModel" "drafts" "I") (by decide +kernel)) (fun _ h9 => h9) rfl dX1_draft_180 ?_
  refine lv_iconst (v := nI 1) hx hb dX1_draft_183 (by decide) ?_
  refine q_addN (a := dc) (b := 1) hx hb dX1_draft_184 ?_
  refine va_put (D := D) (ci := 1) (v := .int (nI (dc + 1))) (ty := .int) (C := RX1) (T := TX1) (N := 18) hx hb hts (iX1_draft) tyX1 tyX1_ok nmX1 hown hK hP hD hS 0 rfl rfl 6 (by decide) (hts (.fieldLink RX1 81 "ShopHubModel" "drafts" "I") (by decide +kernel)) (fun _ h9 => h9) rfl (by decide +kernel) rfl rfl (Nat.le_of_ble_eq_true rfl) dX1_draft_185 (fun H locs hP hD hS => ?_)
  have hP : va_P D vwCl (mW h ad cI cJ cZ td gc ex pa di qu (dc + 1) (va_up dg dc g) (va_up da dc a) (va_up dh dc x) (va_up dt dc y) (va_up dv dc v) (va_up dd dc w) ds ak se pr 0) H := hP
  have hD : va_D A (mW h ad cI cJ cZ td gc ex pa di qu (dc + 1) (va_up dg dc g) (va_up da dc a) (va_up dh dc x) (va_up dt dc y) (va_up dv dc v) (va_up dd dc w) ds ak se pr 0) := hD
  refine lv_aload_n hx hb dX1_draft_188 rfl (lv_at hl 2 rfl) ?_
  refine va_get (D := D) (ci := 1) (v := .int (nI (dc + 1))) (C := RX1) (T := TX1) (N := 18) hx hb hts (iX1_draft) hown hK hP 0 rfl rfl 6 (by decide) (hts (.fieldLink RX1 81 "ShopHubModel" "drafts" "I") (by decide +kernel)) (fun _ h9 => h9) rfl dX1_draft_189 ?_
  refine lv_iconst (v := nI 1) hx hb dX1_draft_192 (by decide) ?_
  refine q_subN (a := dc + 1) (b := 1) (by omega) hx hb dX1_draft_193 ?_
  exact q_wretI hx hb hr hlocks hAe hP hS (by rw [Nat.add_sub_cancel]) dX1_draft_194

set_option maxHeartbeats 4000000 in
set_option maxRecDepth 100000 in
theorem kX1_draft3 (l : Launch) (D : va_G) (h : Nat) (ad : Nat → Nat) (cI cJ cZ : ClassId) (td : Nat) (gc : Nat) (ex : Nat → Bool) (pa : Nat → Option Nat) (di : Nat → Nat) (qu : Nat → Nat) (dc : Nat) (dg : Nat → Nat) (da : Nat → Nat) (dh : Nat → Option Nat) (dt : Nat → Option Nat) (dv : Nat → Option Nat) (dd : Nat → Nat) (ds : Nat → Nat) (ak : Nat → Bool) (se : Nat → Option Nat) (pr : Nat → Option Nat) (th : Nat) (sz : Nat) (g a : Nat) (x y v : Option Nat) (w : Nat) (hg : g < 16) (he : ex g = true) (ha : a < 6) (hxr : ∀ k, x = some k → k < 3) (hyr : ∀ k, y = some k → k < 3) (hgc : gc ≤ 16) (hxg : ∀ j, j < 16 → ex j = true → j < gc) (hvr : ∀ k, v = some k → k ≤ 100000) (hw2 : w ≤ 1000) (hdc : dc = 200) : Met l yX1_draft wsX1_draft ({ frames := 2, cells := 0, slots := 0, locals := 43 } : Room) (wP D (mW h ad cI cJ cZ td gc ex pa di qu dc dg da dh dt dv dd ds ak se pr th) (mT cI cJ cZ) [.ref h, .int (nI g), .int (nI a), .int (oI x), .int (oI y), .int (oI v), .int (nI w)] sz) (wQ D (mW h ad cI cJ cZ td gc ex pa di qu dc dg da dh dt dv dd ds ak se pr th) (mW h ad cI cJ cZ td gc ex pa di qu dc dg da dh dt dv dd ds ak se pr 3) (some (.int (nI 0)))) 0 0 (va_A (mW h ad cI cJ cZ td gc ex pa di qu dc dg da dh dt dv dd ds ak se pr th) sz) := by
  refine Met.ofW (cc := cX1_draft) (maxL := 9) (ret := (some .int)) (by decide) rfl ?_
  intro p e s m args below meth c s₁ B hml hv
  obtain ⟨rfl, hsz, hP, hK, hD0⟩ := hv
  have hx := B.exec
  have hb := B.bytes
  have hr := B.returns
  have hts := atoms_spec (ws := wsX1_draft) B.pre
  have hown : s.vm.findClass RX1 = some m.cls := findClass_of_methodNamed B.named
  have hlocks := B.notSynchronized
  subst hsz
  have hD := hD0.self (sz := s.heap.size)
  generalize hAe : va_A (mW h ad cI cJ cZ td gc ex pa di qu dc dg da dh dt dv dd ds ak se pr th) s.heap.size = A at hD ⊢
  have hA : ∀ q : Nat, s.heap.size ≤ q → A q := fun q h => by rw [← hAe]; exact Or.inr h
  have hS : va_S A s.heap s.heap [] := va_S.rf
  have hl := lv_entry ([.ref h, .int (nI g), .int (nI a), .int (oI x), .int (oI y), .int (oI v), .int (nI w)]) (n := 9) (Nat.le_of_ble_eq_true rfl)
  rw [lg_entry_eq]
  generalize (lg_sl ([.ref h, .int (nI g), .int (nI a), .int (oI x), .int (oI y), .int (oI v), .int (nI w)]) ++ List.replicate (9 - (lg_sl ([.ref h, .int (nI g), .int (nI a), .int (oI x), .int (oI y), .int (oI v), .int (nI w)])).length) Slot.unset).toArray = ls at hl ⊢
  have hl : lv_has ls 9 [(0, .ref h), (1, .int (nI g)), (2, .int (nI a)), (3, .int (oI x)), (4, .int (oI y)), (5, .int (oI v)), (6, .int (nI w))] := hl
  refine lv_aload_n hx hb dX1_draft_0 rfl (lv_at hl 0 rfl) ?_
  refine lv_iload_n hx hb dX1_draft_1 rfl (lv_at hl 1 rfl) ?_
  refine q_callI (r := bI (ex g)) (va_runV (As := [.int (nI g)]) (rest := []) ⟨hx, hb, hml, hown, hts⟩ (kX1_isGoodN l D h ad cI cJ cZ td gc ex pa di qu dc dg da dh dt dv dd ds ak se pr th g hg hgc hxg) (cwV 1 hts gX1_draft_X1_isGood rfl rfl rfl (by decide +kernel) ⟨Nat.le_of_ble_eq_true rfl, Nat.le_of_ble_eq_true rfl⟩) ⟨pP_blind, va_recv hK hP (ci := 1) (q0 := 0) rfl rfl, pP_pre hP hK⟩ rfl rfl hl.1 rfl (lv_room (Nat.le_of_ble_eq_true rfl)) dX1_draft_2 ⟨Nat.zero_le _, Nat.zero_le _⟩) ?_
  refine q_ifB_eq (b := ex g) (tgt := 40) hx hb dX1_draft_5 (by decide) (fun k5 => absurd k5 (by rw [he]; decide)) (fun k5 => ?_)
  refine lv_iload_n hx hb dX1_draft_8 rfl (lv_at hl 2 rfl) ?_
  refine lv_iconst (v := nI 0) hx hb dX1_draft_9 (by decide) ?_
  refine lv_iconst (v := nI 5) hx hb dX1_draft_10 (by decide) ?_
  refine q_callI (r := bI (isin (nI a) (nI 0) (nI 5))) (va_runS (As := [.int (nI a), .int (nI 0), .int (nI 5)]) (rest := []) ⟨hx, hb, hml, hown, hts⟩ (kX1_isIn l (nI a) (nI 0) (nI 5)) (cwS 3 hts gX1_draft_X1_isIn rfl rfl rfl (by decide +kernel) ⟨Nat.le_of_ble_eq_true rfl, Nat.le_of_ble_eq_true rfl⟩) ⟨sP_blind, sP_pre⟩ rfl rfl hl.1 rfl (lv_room (Nat.le_of_ble_eq_true rfl)) dX1_draft_11 ⟨Nat.zero_le _, Nat.zero_le _⟩) ?_
  refine q_top (y := bI true) (by rw [isin_N (by omega) (by decide), decide_eq_true (by omega)]) ?_
  refine q_ifB_eq (b := true) (tgt := 40) hx hb dX1_draft_14 (by decide) (fun k14 => absurd k14 (by decide)) (fun k14 => ?_)
  refine lv_iload_n hx hb dX1_draft_17 rfl (lv_at hl 3 rfl) ?_
  refine lv_iconst (v := oI none) hx hb dX1_draft_18 (by decide) ?_
  refine lv_iconst (v := nI 2) hx hb dX1_draft_19 (by decide) ?_
  refine q_callI (r := bI (isin (oI x) (oI none) (nI 2))) (va_runS (As := [.int (oI x), .int (oI none), .int (nI 2)]) (rest := []) ⟨hx, hb, hml, hown, hts⟩ (kX1_isIn l (oI x) (oI none) (nI 2)) (cwS 3 hts gX1_draft_X1_isIn rfl rfl rfl (by decide +kernel) ⟨Nat.le_of_ble_eq_true rfl, Nat.le_of_ble_eq_true rfl⟩) ⟨sP_blind, sP_pre⟩ rfl rfl hl.1 rfl (lv_room (Nat.le_of_ble_eq_true rfl)) dX1_draft_20 ⟨Nat.zero_le _, Nat.zero_le _⟩) ?_
  refine q_top (y := bI true) (by rw [isin_o (by decide) (fun k h9 => by have := hxr k h9; omega)]) ?_
  refine q_ifB_eq (b := true) (tgt := 40) hx hb dX1_draft_23 (by decide) (fun k23 => absurd k23 (by decide)) (fun k23 => ?_)
  refine lv_iload hx hb dX1_draft_26 (lv_at hl 4 rfl) ?_
  refine lv_iconst (v := oI none) hx hb dX1_draft_28 (by decide) ?_
  refine lv_iconst (v := nI 2) hx hb dX1_draft_29 (by decide) ?_
  refine q_callI (r := bI (isin (oI y) (oI none) (nI 2))) (va_runS (As := [.int (oI y), .int (oI none), .int (nI 2)]) (rest := []) ⟨hx, hb, hml, hown, hts⟩ (kX1_isIn l (oI y) (oI none) (nI 2)) (cwS 3 hts gX1_draft_X1_isIn rfl rfl rfl (by decide +kernel) ⟨Nat.le_of_ble_eq_true rfl, Nat.le_of_ble_eq_true rfl⟩) ⟨sP_blind, sP_pre⟩ rfl rfl hl.1 rfl (lv_room (Nat.le_of_ble_eq_true rfl)) dX1_draft_30 ⟨Nat.zero_le _, Nat.zero_le _⟩) ?_
  refine q_top (y := bI true) (by rw [isin_o (by decide) (fun k h9 => by have := hyr k h9; omega)]) ?_
  refine q_ifB_eq (b := true) (tgt := 40) hx hb dX1_draft_33 (by decide) (fun k33 => absurd k33 (by decide)) (fun k33 => ?_)
  refine lv_iconst (v := nI 1) hx hb dX1_draft_36 (by decide) ?_
  refine lv_goto (tgt := 41) hx hb dX1_draft_37 (by decide) ?_
  refine q_top (y := bI true) ((by decide : nI 1 = bI true)) ?_
  refine lv_istore (lv' := [(7, .int (bI true)), (0, .ref h), (1, .int (nI g)), (2, .int (nI a)), (3, .int (oI x)), (4, .int (oI y)), (5, .int (oI v)), (6, .int (nI w))]) hx hb dX1_draft_41 hl (by decide) rfl (fun ls hl => ?_)
  refine lv_iload hx hb dX1_draft_43 (lv_at hl 6 rfl) ?_
  refine lv_iconst (v := oI none) hx hb dX1_draft_45 (by decide) ?_
  refine lv_ldc (v := 100000) hx hb hown (hts (.constant RX1 80 (100000)) (by decide +kernel)) dX1_draft_46 ?_
  refine q_top (y := nI 100000) (by decide : (100000 : Int32) = nI 100000) ?_
  refine q_callI (r := bI (isin (oI v) (oI none) (nI 100000))) (va_runS (As := [.int (oI v), .int (oI none), .int (nI 100000)]) (rest := []) ⟨hx, hb, hml, hown, hts⟩ (kX1_isIn l (oI v) (oI none) (nI 100000)) (cwS 3 hts gX1_draft_X1_isIn rfl rfl rfl (by decide +kernel) ⟨Nat.le_of_ble_eq_true rfl, Nat.le_of_ble_eq_true rfl⟩) ⟨sP_blind, sP_pre⟩ rfl rfl hl.1 rfl (lv_room (Nat.le_of_ble_eq_true rfl)) dX1_draft_48 ⟨Nat.zero_le _, Nat.zero_le _⟩) ?_
  refine q_top (y := bI true) (by rw [isin_o (by decide) (hvr)]) ?_
  refine q_ifB_eq (b := true) (tgt := 70) hx hb dX1_draft_51 (by decide) (fun k51 => absurd k51 (by decide)) (fun k51 => ?_)
  refine lv_iload hx hb dX1_draft_54 (lv_at hl 7 rfl) ?_
  refine lv_iconst (v := nI 0) hx hb dX1_draft_56 (by decide) ?_
  refine lv_sipush (v := nI 1000) hx hb dX1_draft_57 (by decide) ?_
  refine q_callI (r := bI (isin (nI w) (nI 0) (nI 1000))) (va_runS (As := [.int (nI w), .int (nI 0), .int (nI 1000)]) (rest := []) ⟨hx, hb, hml, hown, hts⟩ (kX1_isIn l (nI w) (nI 0) (nI 1000)) (cwS 3 hts gX1_draft_X1_isIn rfl rfl rfl (by decide +kernel) ⟨Nat.le_of_ble_eq_true rfl, Nat.le_of_ble_eq_true rfl⟩) ⟨sP_blind, sP_pre⟩ rfl rfl hl.1 rfl (lv_room (Nat.le_of_ble_eq_true rfl)) dX1_draft_60 ⟨Nat.zero_le _, Nat.zero_le _⟩) ?_
  refine q_top (y := bI true) (by rw [isin_N (by omega) (by decide), decide_eq_true (by omega)]) ?_
  refine q_ifB_eq (b := true) (tgt := 70) hx hb dX1_draft_63 (by decide) (fun k63 => absurd k63 (by decide)) (fun k63 => ?_)
  refine lv_iconst (v := nI 1) hx hb dX1_draft_66 (by decide) ?_
  refine lv_goto (tgt := 71) hx hb dX1_draft_67 (by decide) ?_
  refine q_top (y := bI true) ((by decide : nI 1 = bI true)) ?_
  refine lv_istore (lv' := [(8, .int (bI true)), (7, .int (bI true)), (0, .ref h), (1, .int (nI g)), (2, .int (nI a)), (3, .int (oI x)), (4, .int (oI y)), (5, .int (oI v)), (6, .int (nI w))]) hx hb dX1_draft_71 hl (by decide) rfl (fun ls hl => ?_)
  refine lv_aload_n hx hb dX1_draft_73 rfl (lv_at hl 2 rfl) ?_
  refine lv_iload hx hb dX1_draft_74 (lv_at hl 1 rfl) ?_
  refine q_ifB_ne (b := true) (tgt := 83) hx hb dX1_draft_76 (by decide) (fun k76 => ?_) (fun k76 => absurd k76 (by decide))
  refine lv_iload hx hb dX1_draft_83 (lv_at hl 0 rfl) ?_
  refine q_ifB_ne (b := true) (tgt := 92) hx hb dX1_draft_85 (by decide) (fun k85 => ?_) (fun k85 => absurd k85 (by decide))
  refine lv_aload_n hx hb dX1_draft_92 rfl (lv_at hl 2 rfl) ?_
  refine va_get (D := D) (ci := 1) (v := .int (nI dc)) (C := RX1) (T := TX1) (N := 18) hx hb hts (iX1_draft) hown hK hP 0 rfl rfl 6 (by decide) (hts (.fieldLink RX1 81 "ShopHubModel" "drafts" "I") (by decide +kernel)) (fun _ h9 => h9) rfl dX1_draft_93 ?_
  refine lv_sipush (v := nI 200) hx hb dX1_draft_96 (by decide) ?_
  refine q_icmpN_ne (a := dc) (b := 200) (tgt := 106) (by omega) (by omega) hx hb dX1_draft_99 (by decide) (fun k99 => absurd k99 (by omega)) (fun k99 => ?_)
  refine lv_iconst (v := nI 3) hx hb dX1_draft_102 (by decide) ?_
  refine lv_goto (tgt := 107) hx hb dX1_draft_103 (by decide) ?_
  refine q_wcallI (r := bI (decide (0 < 3))) (w' := (mW h ad cI cJ cZ td gc ex pa di qu dc dg da dh dt dv dd ds ak se pr 3)) (va_runV (As := [.int (nI 3)]) (rest := []) ⟨hx, hb, hml, hown, hts⟩ (kX1_fails l D h ad cI cJ cZ td gc ex pa di qu dc dg da dh dt dv dd ds ak se pr th _ 3 (by decide)) (cwV 1 hts gX1_draft_X1_fails rfl rfl rfl (by decide +kernel) ⟨Nat.le_of_ble_eq_true rfl, Nat.le_of_ble_eq_true rfl⟩) ⟨wP_blind, va_recv hK hP (ci := 1) (q0 := 0) rfl rfl, wP_pre hP hK hD⟩ rfl rfl hl.1 rfl (lv_room (Nat.le_of_ble_eq_true rfl)) dX1_draft_107 ⟨Nat.zero_le _, Nat.zero_le _⟩) hD hS hA rfl (fun H locs hP hD hS => ?_)
  refine q_ifB_eq (b := decide (0 < 3)) (tgt := 115) hx hb dX1_draft_110 (by decide) (fun k110 => absurd k110 (by decide)) (fun k110 => ?_)
  refine lv_iconst (v := nI 0) hx hb dX1_draft_113 (by decide) ?_
  exact q_wretI hx hb hr hlocks hAe hP hS (rfl) dX1_draft_114

set_option maxHeartbeats 4000000 in
set_option maxRecDepth 100000 in
theorem kX1_draft2 (l : Launch) (D : va_G) (h : Nat) (ad : Nat → Nat) (cI cJ cZ : ClassId) (td : Nat) (gc : Nat) (ex : Nat → Bool) (pa : Nat → Option Nat) (di : Nat → Nat) (qu : Nat → Nat) (dc : Nat) (dg : Nat → Nat) (da : Nat → Nat) (dh : Nat → Option Nat) (dt : Nat → Option Nat) (dv : Nat → Option Nat) (dd : Nat → Nat) (ds : Nat → Nat) (ak : Nat → Bool) (se : Nat → Option Nat) (pr : Nat → Option Nat) (th : Nat) (sz : Nat) (g a : Nat) (x y : Option Nat) (v w : Int32) (hg : g < 16) (he : ex g = true) (ha : a < 6) (hxr : ∀ k, x = some k → k < 3) (hyr : ∀ k, y = some k → k < 3) (hgc : gc ≤ 16) (hxg : ∀ j, j < 16 → ex j = true → j < gc) (hbad : (v ≠ -1 ∧ (v < 0 ∨ nI 100000 < v)) ∨ ((∃ o : Option Nat, v = oI o ∧ ∀ k, o = some k → k ≤ 100000) ∧ (w < 0 ∨ nI 1000 < w))) : Met l yX1_draft wsX1_draft ({ frames := 2, cells := 0, slots := 0, locals := 43 } : Room) (wP D (mW h ad cI cJ cZ td gc ex pa di qu dc dg da dh dt dv dd ds ak se pr th) (mT cI cJ cZ) [.ref h, .int (nI g), .int (nI a), .int (oI x), .int (oI y), .int v, .int w] sz) (wQ D (mW h ad cI cJ cZ td gc ex pa di qu dc dg da dh dt dv dd ds ak se pr th) (mW h ad cI cJ cZ td gc ex pa di qu dc dg da dh dt dv dd ds ak se pr 2) (some (.int (nI 0)))) 0 0 (va_A (mW h ad cI cJ cZ td gc ex pa di qu dc dg da dh dt dv dd ds ak se pr th) sz) := by
  refine Met.ofW (cc := cX1_draft) (maxL := 9) (ret := (some .int)) (by decide) rfl ?_
  intro p e s m args below meth c s₁ B hml hv
  obtain ⟨rfl, hsz, hP, hK, hD0⟩ := hv
  have hx := B.exec
  have hb := B.bytes
  have hr := B.returns
  have hts := atoms_spec (ws := wsX1_draft) B.pre
  have hown : s.vm.findClass RX1 = some m.cls := findClass_of_methodNamed B.named
  have hlocks := B.notSynchronized
  subst hsz
  have hD := hD0.self (sz := s.heap.size)
  generalize hAe : va_A (mW h ad cI cJ cZ td gc ex pa di qu dc dg da dh dt dv dd ds ak se pr th) s.heap.size = A at hD ⊢
  have hA : ∀ q : Nat, s.heap.size ≤ q → A q := fun q h => by rw [← hAe]; exact Or.inr h
  have hS : va_S A s.heap s.heap [] := va_S.rf
  have hl := lv_entry ([.ref h, .int (nI g), .int (nI a), .int (oI x), .int (oI y), .int v, .int w]) (n := 9) (Nat.le_of_ble_eq_true rfl)
  rw [lg_entry_eq]
  generalize (lg_sl ([.ref h, .int (nI g), .int (nI a), .int (oI x), .int (oI y), .int v, .int w]) ++ List.replicate (9 - (lg_sl ([.ref h, .int (nI g), .int (nI a), .int (oI x), .int (oI y), .int v, .int w])).length) Slot.unset).toArray = ls at hl ⊢
  have hl : lv_has ls 9 [(0, .ref h), (1, .int (nI g)), (2, .int (nI a)), (3, .int (oI x)), (4, .int (oI y)), (5, .int v), (6, .int w)] := hl
  refine lv_aload_n hx hb dX1_draft_0 rfl (lv_at hl 0 rfl) ?_
  refine lv_iload_n hx hb dX1_draft_1 rfl (lv_at hl 1 rfl) ?_
  refine q_callI (r := bI (ex g)) (va_runV (As := [.int (nI g)]) (rest := []) ⟨hx, hb, hml, hown, hts⟩ (kX1_isGoodN l D h ad cI cJ cZ td gc ex pa di qu dc dg da dh dt dv dd ds ak se pr th g hg hgc hxg) (cwV 1 hts gX1_draft_X1_isGood rfl rfl rfl (by decide +kernel) ⟨Nat.le_of_ble_eq_true rfl, Nat.le_of_ble_eq_true rfl⟩) ⟨pP_blind, va_recv hK hP (ci := 1) (q0 := 0) rfl rfl, pP_pre hP hK⟩ rfl rfl hl.1 rfl (lv_room (Nat.le_of_ble_eq_true rfl)) dX1_draft_2 ⟨Nat.zero_le _, Nat.zero_le _⟩) ?_
  refine q_ifB_eq (b := ex g) (tgt := 40) hx hb dX1_draft_5 (by decide) (fun k5 => absurd k5 (by rw [he]; decide)) (fun k5 => ?_)
  refine lv_iload_n hx hb dX1_draft_8 rfl (lv_at hl 2 rfl) ?_
  refine lv_iconst (v := nI 0) hx hb dX1_draft_9 (by decide) ?_
  refine lv_iconst (v := nI 5) hx hb dX1_draft_10 (by decide) ?_
  refine q_callI (r := bI (isin (nI a) (nI 0) (nI 5))) (va_runS (As := [.int (nI a), .int (nI 0), .int (nI 5)]) (rest := []) ⟨hx, hb, hml, hown, hts⟩ (kX1_isIn l (nI a) (nI 0) (nI 5)) (cwS 3 hts gX1_draft_X1_isIn rfl rfl rfl (by decide +kernel) ⟨Nat.le_of_ble_eq_true rfl, Nat.le_of_ble_eq_true rfl⟩) ⟨sP_blind, sP_pre⟩ rfl rfl hl.1 rfl (lv_room (Nat.le_of_ble_eq_true rfl)) dX1_draft_11 ⟨Nat.zero_le _, Nat.zero_le _⟩) ?_
  refine q_top (y := bI true) (by rw [isin_N (by omega) (by decide), decide_eq_true (by omega)]) ?_
  refine q_ifB_eq (b := true) (tgt := 40) hx hb dX1_draft_14 (by decide) (fun k14 => absurd k14 (by decide)) (fun k14 => ?_)
  refine lv_iload_n hx hb dX1_draft_17 rfl (lv_at hl 3 rfl) ?_
  refine lv_iconst (v := oI none) hx hb dX1_draft_18 (by decide) ?_
  refine lv_iconst (v := nI 2) hx hb dX1_draft_19 (by decide) ?_
  refine q_callI (r := bI (isin (oI x) (oI none) (nI 2))) (va_runS (As := [.int (oI x), .int (oI none), .int (nI 2)]) (rest := []) ⟨hx, hb, hml, hown, hts⟩ (kX1_isIn l (oI x) (oI none) (nI 2)) (cwS 3 hts gX1_draft_X1_isIn rfl rfl rfl (by decide +kernel) ⟨Nat.le_of_ble_eq_true rfl, Nat.le_of_ble_eq_true rfl⟩) ⟨sP_blind, sP_pre⟩ rfl rfl hl.1 rfl (lv_room (Nat.le_of_ble_eq_true rfl)) dX1_draft_20 ⟨Nat.zero_le _, Nat.zero_le _⟩) ?_
  refine q_top (y := bI true) (by rw [isin_o (by decide) (fun k h9 => by have := hxr k h9; omega)]) ?_
  refine q_ifB_eq (b := true) (tgt := 40) hx hb dX1_draft_23 (by decide) (fun k23 => absurd k23 (by decide)) (fun k23 => ?_)
  refine lv_iload hx hb dX1_draft_26 (lv_at hl 4 rfl) ?_
  refine lv_iconst (v := oI none) hx hb dX1_draft_28 (by decide) ?_
  refine lv_iconst (v := nI 2) hx hb dX1_draft_29 (by decide) ?_
  refine q_callI (r := bI (isin (oI y) (oI none) (nI 2))) (va_runS (As := [.int (oI y), .int (oI none), .int (nI 2)]) (rest := []) ⟨hx, hb, hml, hown, hts⟩ (kX1_isIn l (oI y) (oI none) (nI 2)) (cwS 3 hts gX1_draft_X1_isIn rfl rfl rfl (by decide +kernel) ⟨Nat.le_of_ble_eq_true rfl, Nat.le_of_ble_eq_true rfl⟩) ⟨sP_blind, sP_pre⟩ rfl rfl hl.1 rfl (lv_room (Nat.le_of_ble_eq_true rfl)) dX1_draft_30 ⟨Nat.zero_le _, Nat.zero_le _⟩) ?_
  refine q_top (y := bI true) (by rw [isin_o (by decide) (fun k h9 => by have := hyr k h9; omega)]) ?_
  refine q_ifB_eq (b := true) (tgt := 40) hx hb dX1_draft_33 (by decide) (fun k33 => absurd k33 (by decide)) (fun k33 => ?_)
  refine lv_iconst (v := nI 1) hx hb dX1_draft_36 (by decide) ?_
  refine lv_goto (tgt := 41) hx hb dX1_draft_37 (by decide) ?_
  refine q_top (y := bI true) ((by decide : nI 1 = bI true)) ?_
  refine lv_istore (lv' := [(7, .int (bI true)), (0, .ref h), (1, .int (nI g)), (2, .int (nI a)), (3, .int (oI x)), (4, .int (oI y)), (5, .int v), (6, .int w)]) hx hb dX1_draft_41 hl (by decide) rfl (fun ls hl => ?_)
  refine lv_iload hx hb dX1_draft_43 (lv_at hl 6 rfl) ?_
  rcases hbad with ⟨hne, hv⟩ | ⟨⟨o, rfl, hv⟩, hw⟩
  · refine lv_iconst (v := oI none) hx hb dX1_draft_45 (by decide) ?_
    refine lv_ldc (v := 100000) hx hb hown (hts (.constant RX1 80 (100000)) (by decide +kernel)) dX1_draft_46 ?_
    refine q_top (y := nI 100000) (by decide : (100000 : Int32) = nI 100000) ?_
    refine q_callI (r := bI (isin v (oI none) (nI 100000))) (va_runS (As := [.int v, .int (oI none), .int (nI 100000)]) (rest := []) ⟨hx, hb, hml, hown, hts⟩ (kX1_isIn l v (oI none) (nI 100000)) (cwS 3 hts gX1_draft_X1_isIn rfl rfl rfl (by decide +kernel) ⟨Nat.le_of_ble_eq_true rfl, Nat.le_of_ble_eq_true rfl⟩) ⟨sP_blind, sP_pre⟩ rfl rfl hl.1 rfl (lv_room (Nat.le_of_ble_eq_true rfl)) dX1_draft_48 ⟨Nat.zero_le _, Nat.zero_le _⟩) ?_
    refine q_top (y := bI false) (by rw [isin_vb hne hv]) ?_
    refine q_ifB_eq (b := false) (tgt := 70) hx hb dX1_draft_51 (by decide) (fun k51 => ?_) (fun k51 => absurd k51 (by decide))
    refine lv_iconst (v := nI 0) hx hb dX1_draft_70 (by decide) ?_
    refine q_top (y := bI false) ((by decide : nI 0 = bI false)) ?_
    refine lv_istore (lv' := [(8, .int (bI false)), (7, .int (bI true)), (0, .ref h), (1, .int (nI g)), (2, .int (nI a)), (3, .int (oI x)), (4, .int (oI y)), (5, .int v), (6, .int w)]) hx hb dX1_draft_71 hl (by decide) rfl (fun ls hl => ?_)
    refine lv_aload_n hx hb dX1_draft_73 rfl (lv_at hl 2 rfl) ?_
    refine lv_iload hx hb dX1_draft_74 (lv_at hl 1 rfl) ?_
    refine q_ifB_ne (b := true) (tgt := 83) hx hb dX1_draft_76 (by decide) (fun k76 => ?_) (fun k76 => absurd k76 (by decide))
    refine lv_iload hx hb dX1_draft_83 (lv_at hl 0 rfl) ?_
    refine q_ifB_ne (b := false) (tgt := 92) hx hb dX1_draft_85 (by decide) (fun k85 => absurd k85 (by decide)) (fun k85 => ?_)
    refine lv_iconst (v := nI 2) hx hb dX1_draft_88 (by decide) ?_
    refine lv_goto (tgt := 107) hx hb dX1_draft_89 (by decide) ?_
    refine q_wcallI (r := bI (decide (0 < 2))) (w' := (mW h ad cI cJ cZ td gc ex pa di qu dc dg da dh dt dv dd ds ak se pr 2)) (va_runV (As := [.int (nI 2)]) (rest := []) ⟨hx, hb, hml, hown, hts⟩ (kX1_fails l D h ad cI cJ cZ td gc ex pa di qu dc dg da dh dt dv dd ds ak se pr th _ 2 (by decide)) (cwV 1 hts gX1_draft_X1_fails rfl rfl rfl (by decide +kernel) ⟨Nat.le_of_ble_eq_true rfl, Nat.le_of_ble_eq_true rfl⟩) ⟨wP_blind, va_recv hK hP (ci := 1) (q0 := 0) rfl rfl, wP_pre hP hK hD⟩ rfl rfl hl.1 rfl (lv_room (Nat.le_of_ble_eq_true rfl)) dX1_draft_107 ⟨Nat.zero_le _, Nat.zero_le _⟩) hD hS hA rfl (fun H locs hP hD hS => ?_)
    refine q_ifB_eq (b := decide (0 < 2)) (tgt := 115) hx hb dX1_draft_110 (by decide) (fun k110 => absurd k110 (by decide)) (fun k110 => ?_)
    refine lv_iconst (v := nI 0) hx hb dX1_draft_113 (by decide) ?_
    exact q_wretI hx hb hr hlocks hAe hP hS (rfl) dX1_draft_114
  · refine lv_iconst (v := oI none) hx hb dX1_draft_45 (by decide) ?_
    refine lv_ldc (v := 100000) hx hb hown (hts (.constant RX1 80 (100000)) (by decide +kernel)) dX1_draft_46 ?_
    refine q_top (y := nI 100000) (by decide : (100000 : Int32) = nI 100000) ?_
    refine q_callI (r := bI (isin (oI o) (oI none) (nI 100000))) (va_runS (As := [.int (oI o), .int (oI none), .int (nI 100000)]) (rest := []) ⟨hx, hb, hml, hown, hts⟩ (kX1_isIn l (oI o) (oI none) (nI 100000)) (cwS 3 hts gX1_draft_X1_isIn rfl rfl rfl (by decide +kernel) ⟨Nat.le_of_ble_eq_true rfl, Nat.le_of_ble_eq_true rfl⟩) ⟨sP_blind, sP_pre⟩ rfl rfl hl.1 rfl (lv_room (Nat.le_of_ble_eq_true rfl)) dX1_draft_48 ⟨Nat.zero_le _, Nat.zero_le _⟩) ?_
    refine q_top (y := bI true) (by rw [isin_o (by decide) (hv)]) ?_
    refine q_ifB_eq (b := true) (tgt := 70) hx hb dX1_draft_51 (by decide) (fun k51 => absurd k51 (by decide)) (fun k51 => ?_)
    refine lv_iload hx hb dX1_draft_54 (lv_at hl 7 rfl) ?_
    refine lv_iconst (v := nI 0) hx hb dX1_draft_56 (by decide) ?_
    refine lv_sipush (v := nI 1000) hx hb dX1_draft_57 (by decide) ?_
    refine q_callI (r := bI (isin w (nI 0) (nI 1000))) (va_runS (As := [.int w, .int (nI 0), .int (nI 1000)]) (rest := []) ⟨hx, hb, hml, hown, hts⟩ (kX1_isIn l w (nI 0) (nI 1000)) (cwS 3 hts gX1_draft_X1_isIn rfl rfl rfl (by decide +kernel) ⟨Nat.le_of_ble_eq_true rfl, Nat.le_of_ble_eq_true rfl⟩) ⟨sP_blind, sP_pre⟩ rfl rfl hl.1 rfl (lv_room (Nat.le_of_ble_eq_true rfl)) dX1_draft_60 ⟨Nat.zero_le _, Nat.zero_le _⟩) ?_
    refine q_top (y := bI false) (by rw [isin_wb (show w < nI 0 ∨ nI 1000 < w from hw)]) ?_
    refine q_ifB_eq (b := false) (tgt := 70) hx hb dX1_draft_63 (by decide) (fun k63 => ?_) (fun k63 => absurd k63 (by decide))
    refine lv_iconst (v := nI 0) hx hb dX1_draft_70 (by decide) ?_
    refine q_top (y := bI false) ((by decide : nI 0 = bI false)) ?_
    refine lv_istore (lv' := [(8, .int (bI false)), (7, .int (bI true)), (0, .ref h), (1, .int (nI g)), (2, .int (nI a)), (3, .int (oI x)), (4, .int (oI y)), (5, .int (oI o)), (6, .int w)]) hx hb dX1_draft_71 hl (by decide) rfl (fun ls hl => ?_)
    refine lv_aload_n hx hb dX1_draft_73 rfl (lv_at hl 2 rfl) ?_
    refine lv_iload hx hb dX1_draft_74 (lv_at hl 1 rfl) ?_
    refine q_ifB_ne (b := true) (tgt := 83) hx hb dX1_draft_76 (by decide) (fun k76 => ?_) (fun k76 => absurd k76 (by decide))
    refine lv_iload hx hb dX1_draft_83 (lv_at hl 0 rfl) ?_
    refine q_ifB_ne (b := false) (tgt := 92) hx hb dX1_draft_85 (by decide) (fun k85 => absurd k85 (by decide)) (fun k85 => ?_)
    refine lv_iconst (v := nI 2) hx hb dX1_draft_88 (by decide) ?_
    refine lv_goto (tgt := 107) hx hb dX1_draft_89 (by decide) ?_
    refine q_wcallI (r := bI (decide (0 < 2))) (w' := (mW h ad cI cJ cZ td gc ex pa di qu dc dg da dh dt dv dd ds ak se pr 2)) (va_runV (As := [.int (nI 2)]) (rest := []) ⟨hx, hb, hml, hown, hts⟩ (kX1_fails l D h ad cI cJ cZ td gc ex pa di qu dc dg da dh dt dv dd ds ak se pr th _ 2 (by decide)) (cwV 1 hts gX1_draft_X1_fails rfl rfl rfl (by decide +kernel) ⟨Nat.le_of_ble_eq_true rfl, Nat.le_of_ble_eq_true rfl⟩) ⟨wP_blind, va_recv hK hP (ci := 1) (q0 := 0) rfl rfl, wP_pre hP hK hD⟩ rfl rfl hl.1 rfl (lv_room (Nat.le_of_ble_eq_true rfl)) dX1_draft_107 ⟨Nat.zero_le _, Nat.zero_le _⟩) hD hS hA rfl (fun H locs hP hD hS => ?_)
    refine q_ifB_eq (b := decide (0 < 2)) (tgt := 115) hx hb dX1_draft_110 (by decide) (fun k110 => absurd k110 (by decide)) (fun k110 => ?_)
    refine lv_iconst (v := nI 0) hx hb dX1_draft_113 (by decide) ?_
    exact q_wretI hx hb hr hlocks hAe hP hS (rfl) dX1_draft_114

set_option maxHeartbeats 4000000 in
set_option maxRecDepth 100000 in
theorem kX1_draft1 (l : Launch) (D : va_G) (h : Nat) (ad : Nat → Nat) (cI cJ cZ : ClassId) (td : Nat) (gc : Nat) (ex : Nat → Bool) (pa : Nat → Option Nat) (di : Nat → Nat) (qu : Nat → Nat) (dc : Nat) (dg : Nat → Nat) (da : Nat → Nat) (dh : Nat → Option Nat) (dt : Nat → Option Nat) (dv : Nat → Option Nat) (dd : Nat → Nat) (ds : Nat → Nat) (ak : Nat → Bool) (se : Nat → Option Nat) (pr : Nat → Option Nat) (th : Nat) (sz : Nat) (g a x y v w : Int32) (hgc : gc ≤ 16) (hxg : ∀ j, j < 16 → ex j = true → j < gc) (hs : (gBad ex g ∨ ∃ j, j < 16 ∧ g = nI j ∧ ex j = true ∧ (aBad 6 a ∨ ∃ a2, a2 < 6 ∧ a = nI a2 ∧ ((aBad 3 x ∧ x ≠ -1) ∨ ((x = -1 ∨ ∃ x2, x2 < 3 ∧ x = nI x2) ∧ aBad 3 y ∧ y ≠ -1))))) : Met l yX1_draft wsX1_draft ({ frames := 2, cells := 0, slots := 0, locals := 43 } : Room) (wP D (mW h ad cI cJ cZ td gc ex pa di qu dc dg da dh dt dv dd ds ak se pr th) (mT cI cJ cZ) [.ref h, .int g, .int a, .int x, .int y, .int v, .int w] sz) (wQ D (mW h ad cI cJ cZ td gc ex pa di qu dc dg da dh dt dv dd ds ak se pr th) (mW h ad cI cJ cZ td gc ex pa di qu dc dg da dh dt dv dd ds ak se pr 1) (some (.int (nI 0)))) 0 0 (va_A (mW h ad cI cJ cZ td gc ex pa di qu dc dg da dh dt dv dd ds ak se pr th) sz) := by
  refine Met.ofW (cc := cX1_draft) (maxL := 9) (ret := (some .int)) (by decide) rfl ?_
  intro p e s m args below meth c s₁ B hml hv
  obtain ⟨rfl, hsz, hP, hK, hD0⟩ := hv
  have hx := B.exec
  have hb := B.bytes
  have hr := B.returns
  have hts := atoms_spec (ws := wsX1_draft) B.pre
  have hown : s.vm.findClass RX1 = some m.cls := findClass_of_methodNamed B.named
  have hlocks := B.notSynchronized
  subst hsz
  have hD := hD0.self (sz := s.heap.size)
  generalize hAe : va_A (mW h ad cI cJ cZ td gc ex pa di qu dc dg da dh dt dv dd ds ak se pr th) s.heap.size = A at hD ⊢
  have hA : ∀ q : Nat, s.heap.size ≤ q → A q := fun q h => by rw [← hAe]; exact Or.inr h
  have hS : va_S A s.heap s.heap [] := va_S.rf
  have hl := lv_entry ([.ref h, .int g, .int a, .int x, .int y, .int v, .int w]) (n := 9) (Nat.le_of_ble_eq_true rfl)
  rw [lg_entry_eq]
  generalize (lg_sl ([.ref h, .int g, .int a, .int x, .int y, .int v, .int w]) ++ List.replicate (9 - (lg_sl ([.ref h, .int g, .int a, .int x, .int y, .int v, .int w])).length) Slot.unset).toArray = ls at hl ⊢
  have hl : lv_has ls 9 [(0, .ref h), (1, .int g), (2, .int a), (3, .int x), (4, .int y), (5, .int v), (6, .int w)] := hl
  rcases hs with hs | ⟨j, hj, rfl, he, hs⟩
  · refine lv_aload_n hx hb dX1_draft_0 rfl (lv_at hl 0 rfl) ?_
    rcases gBad_c hs with hs | ⟨j, hj, rfl, he⟩
    · refine lv_iload_n hx hb dX1_draft_1 rfl (lv_at hl 1 rfl) ?_
      refine q_callI (r := bI false) (va_runV (As := [.int g]) (rest := []) ⟨hx, hb, hml, hown, hts⟩ (kX1_isGoodR l D h ad cI cJ cZ td gc ex pa di qu dc dg da dh dt dv dd ds ak se pr th g hgc hs) (cwV 1 hts gX1_draft_X1_isGood rfl rfl rfl (by decide +kernel) ⟨Nat.le_of_ble_eq_true rfl, Nat.le_of_ble_eq_true rfl⟩) ⟨pP_blind, va_recv hK hP (ci := 1) (q0 := 0) rfl rfl, pP_pre hP hK⟩ rfl rfl hl.1 rfl (lv_room (Nat.le_of_ble_eq_true rfl)) dX1_draft_2 ⟨Nat.zero_le _, Nat.zero_le _⟩) ?_
      refine q_ifB_eq (b := false) (tgt := 40) hx hb dX1_draft_5 (by decide) (fun k5 => ?_) (fun k5 => absurd k5 (by decide))
      refine lv_iconst (v := nI 0) hx hb dX1_draft_40 (by decide) ?_
      refine q_top (y := bI false) ((by decide : nI 0 = bI false)) ?_
      refine lv_istore (lv' := [(7, .int (bI false)), (0, .ref h), (1, .int g), (2, .int a), (3, .int x), (4, .int y), (5, .int v), (6, .int w)]) hx hb dX1_draft_41 hl (by decide) rfl (fun ls hl => ?_)
      refine lv_iload hx hb dX1_draft_43 (lv_at hl 6 rfl) ?_
      refine lv_iconst (v := oI none) hx hb dX1_draft_45 (by decide) ?_
      refine lv_ldc (v := 100000) hx hb hown (hts (.constant RX1 80 (100000)) (by decide +kernel)) dX1_draft_46 ?_
      refine q_top (y := nI 100000) (by decide : (100000 : Int32) = nI 100000) ?_
      refine q_callI (r := bI (isin v (oI none) (nI 100000))) (va_runS (As := [.int v, .int (oI none), .int (nI 100000)]) (rest := []) ⟨hx, hb, hml, hown, hts⟩ (kX1_isIn l v (oI none) (nI 100000)) (cwS 3 hts gX1_draft_X1_isIn rfl rfl rfl (by decide +kernel) ⟨Nat.le_of_ble_eq_true rfl, Nat.le_of_ble_eq_true rfl⟩) ⟨sP_blind, sP_pre⟩ rfl rfl hl.1 rfl (lv_room (Nat.le_of_ble_eq_true rfl)) dX1_draft_48 ⟨Nat.zero_le _, Nat.zero_le _⟩) ?_
      refine q_ifB_eq (b := isin v (oI none) (nI 100000)) (tgt := 70) hx hb dX1_draft_51 (by decide) (fun k51 => ?_) (fun k51 => ?_)
      · refine lv_iconst (v := nI 0) hx hb dX1_draft_70 (by decide) ?_
        refine q_top (y := bI false) ((by decide : nI 0 = bI false)) ?_
        refine lv_istore (lv' := [(8, .int (bI false)), (7, .int (bI false)), (0, .ref h), (1, .int g), (2, .int a), (3, .int x), (4, .int y), (5, .int v), (6, .int w)]) hx hb dX1_draft_71 hl (by decide) rfl (fun ls hl => ?_)
        refine lv_aload_n hx hb dX1_draft_73 rfl (lv_at hl 2 rfl) ?_
        refine lv_iload hx hb dX1_draft_74 (lv_at hl 1 rfl) ?_
        refine q_ifB_ne (b := false) (tgt := 83) hx hb dX1_draft_76 (by decide) (fun k76 => absurd k76 (by decide)) (fun k76 => ?_)
        refine lv_iconst (v := nI 1) hx hb dX1_draft_79 (by decide) ?_
        refine lv_goto (tgt := 107) hx hb dX1_draft_80 (by decide) ?_
        refine q_wcallI (r := bI (decide (0 < 1))) (w' := (mW h ad cI cJ cZ td gc ex pa di qu dc dg da dh dt dv dd ds ak se pr 1)) (va_runV (As := [.int (nI 1)]) (rest := []) ⟨hx, hb, hml, hown, hts⟩ (kX1_fails l D h ad cI cJ cZ td gc ex pa di qu dc dg da dh dt dv dd ds ak se pr th _ 1 (by decide)) (cwV 1 hts gX1_draft_X1_fails rfl rfl rfl (by decide +kernel) ⟨Nat.le_of_ble_eq_true rfl, Nat.le_of_ble_eq_true rfl⟩) ⟨wP_blind, va_recv hK hP (ci := 1) (q0 := 0) rfl rfl, wP_pre hP hK hD⟩ rfl rfl hl.1 rfl (lv_room (Nat.le_of_ble_eq_true rfl)) dX1_draft_107 ⟨Nat.zero_le _, Nat.zero_le _⟩) hD hS hA rfl (fun H locs hP hD hS => ?_)
        refine q_ifB_eq (b := decide (0 < 1)) (tgt := 115) hx hb dX1_draft_110 (by decide) (fun k110 => absurd k110 (by decide)) (fun k110 => ?_)
        refine lv_iconst (v := nI 0) hx hb dX1_draft_113 (by decide) ?_
        exact q_wretI hx hb hr hlocks hAe hP hS (rfl) dX1_draft_114
      · refine lv_iload hx hb dX1_draft_54 (lv_at hl 7 rfl) ?_
        refine lv_iconst (v := nI 0) hx hb dX1_draft_56 (by decide) ?_
        refine lv_sipush (v := nI 1000) hx hb dX1_draft_57 (by decide) ?_
        refine q_callI (r := bI (isin w (nI 0) (nI 1000))) (va_runS (As := [.int w, .int (nI 0), .int (nI 1000)]) (rest := []) ⟨hx, hb, hml, hown, hts⟩ (kX1_isIn l w (nI 0) (nI 1000)) (cwS 3 hts gX1_draft_X1_isIn rfl rfl rfl (by decide +kernel) ⟨Nat.le_of_ble_eq_true rfl, Nat.le_of_ble_eq_true rfl⟩) ⟨sP_blind, sP_pre⟩ rfl rfl hl.1 rfl (lv_room (Nat.le_of_ble_eq_true rfl)) dX1_draft_60 ⟨Nat.zero_le _, Nat.zero_le _⟩) ?_
        refine q_ifB_eq (b := isin w (nI 0) (nI 1000)) (tgt := 70) hx hb dX1_draft_63 (by decide) (fun k63 => ?_) (fun k63 => ?_)
        · refine lv_iconst (v := nI 0) hx hb dX1_draft_70 (by decide) ?_
          refine q_top (y := bI false) ((by decide : nI 0 = bI false)) ?_
          refine lv_istore (lv' := [(8, .int (bI false)), (7, .int (bI false)), (0, .ref h), (1, .int g), (2, .int a), (3, .int x), (4, .int y), (5, .int v), (6, .int w)]) hx hb dX1_draft_71 hl (by decide) rfl (fun ls hl => ?_)
          refine lv_aload_n hx hb dX1_draft_73 rfl (lv_at hl 2 rfl) ?_
          refine lv_iload hx hb dX1_draft_74 (lv_at hl 1 rfl) ?_
          refine q_ifB_ne (b := false) (tgt := 83) hx hb dX1_draft_76 (by decide) (fun k76 => absurd k76 (by decide)) (fun k76 => ?_)
          refine lv_iconst (v := nI 1) hx hb dX1_draft_79 (by decide) ?_
          refine lv_goto (tgt := 107) hx hb dX1_draft_80 (by decide) ?_
          refine q_wcallI (r := bI (decide (0 < 1))) (w' := (mW h ad cI cJ cZ td gc ex pa di qu dc dg da dh dt dv dd ds ak se pr 1)) (va_runV (As := [.int (nI 1)]) (rest := []) ⟨hx, hb, hml, hown, hts⟩ (kX1_fails l D h ad cI cJ cZ td gc ex pa di qu dc dg da dh dt dv dd ds ak se pr th _ 1 (by decide)) (cwV 1 hts gX1_draft_X1_fails rfl rfl rfl (by decide +kernel) ⟨Nat.le_of_ble_eq_true rfl, Nat.le_of_ble_eq_true rfl⟩) ⟨wP_blind, va_recv hK hP (ci := 1) (q0 := 0) rfl rfl, wP_pre hP hK hD⟩ rfl rfl hl.1 rfl (lv_room (Nat.le_of_ble_eq_true rfl)) dX1_draft_107 ⟨Nat.zero_le _, Nat.zero_le _⟩) hD hS hA rfl (fun H locs hP hD hS => ?_)
          refine q_ifB_eq (b := decide (0 < 1)) (tgt := 115) hx hb dX1_draft_110 (by decide) (fun k110 => absurd k110 (by decide)) (fun k110 => ?_)
          refine lv_iconst (v := nI 0) hx hb dX1_draft_113 (by decide) ?_
          exact q_wretI hx hb hr hlocks hAe hP hS (rfl) dX1_draft_114
        · refine lv_iconst (v := nI 1) hx hb dX1_draft_66 (by decide) ?_
          refine lv_goto (tgt := 71) hx hb dX1_draft_67 (by decide) ?_
          refine q_top (y := bI true) ((by decide : nI 1 = bI true)) ?_
          refine lv_istore (lv' := [(8, .int (bI true)), (7, .int (bI false)), (0, .ref h), (1, .int g), (2, .int a), (3, .int x), (4, .int y), (5, .int v), (6, .int w)]) hx hb dX1_draft_71 hl (by decide) rfl (fun ls hl => ?_)
          refine lv_aload_n hx hb dX1_draft_73 rfl (lv_at hl 2 rfl) ?_
          refine lv_iload hx hb dX1_draft_74 (lv_at hl 1 rfl) ?_
          refine q_ifB_ne (b := false) (tgt := 83) hx hb dX1_draft_76 (by decide) (fun k76 => absurd k76 (by decide)) (fun k76 => ?_)
          refine lv_iconst (v := nI 1) hx hb dX1_draft_79 (by decide) ?_
          refine lv_goto (tgt := 107) hx hb dX1_draft_80 (by decide) ?_
          refine q_wcallI (r := bI (decide (0 < 1))) (w' := (mW h ad cI cJ cZ td gc ex pa di qu dc dg da dh dt dv dd ds ak se pr 1)) (va_runV (As := [.int (nI 1)]) (rest := []) ⟨hx, hb, hml, hown, hts⟩ (kX1_fails l D h ad cI cJ cZ td gc ex pa di qu dc dg da dh dt dv dd ds ak se pr th _ 1 (by decide)) (cwV 1 hts gX1_draft_X1_fails rfl rfl rfl (by decide +kernel) ⟨Nat.le_of_ble_eq_true rfl, Nat.le_of_ble_eq_true rfl⟩) ⟨wP_blind, va_recv hK hP (ci := 1) (q0 := 0) rfl rfl, wP_pre hP hK hD⟩ rfl rfl hl.1 rfl (lv_room (Nat.le_of_ble_eq_true rfl)) dX1_draft_107 ⟨Nat.zero_le _, Nat.zero_le _⟩) hD hS hA rfl (fun H locs hP hD hS => ?_)
          refine q_ifB_eq (b := decide (0 < 1)) (tgt := 115) hx hb dX1_draft_110 (by decide) (fun k110 => absurd k110 (by decide)) (fun k110 => ?_)
          refine lv_iconst (v := nI 0) hx hb dX1_draft_113 (by decide) ?_
          exact q_wretI hx hb hr hlocks hAe hP hS (rfl) dX1_draft_114
    · refine lv_iload_n hx hb dX1_draft_1 rfl (lv_at hl 1 rfl) ?_
      refine q_callI (r := bI (ex j)) (va_runV (As := [.int (nI j)]) (rest := []) ⟨hx, hb, hml, hown, hts⟩ (kX1_isGoodN l D h ad cI cJ cZ td gc ex pa di qu dc dg da dh dt dv dd ds ak se pr th j hj hgc hxg) (cwV 1 hts gX1_draft_X1_isGood rfl rfl rfl (by decide +kernel) ⟨Nat.le_of_ble_eq_true rfl, Nat.le_of_ble_eq_true rfl⟩) ⟨pP_blind, va_recv hK hP (ci := 1) (q0 := 0) rfl rfl, pP_pre hP hK⟩ rfl rfl hl.1 rfl (lv_room (Nat.le_of_ble_eq_true rfl)) dX1_draft_2 ⟨Nat.zero_le _, Nat.zero_le _⟩) ?_
      refine q_ifB_eq (b := ex j) (tgt := 40) hx hb dX1_draft_5 (by decide) (fun k5 => ?_) (fun k5 => absurd k5 (by rw [he]; decide))
      refine lv_iconst (v := nI 0) hx hb dX1_draft_40 (by decide) ?_
      refine q_top (y := bI false) ((by decide : nI 0 = bI false)) ?_
      refine lv_istore (lv' := [(7, .int (bI false)), (0, .ref h), (1, .int (nI j)), (2, .int a), (3, .int x), (4, .int y), (5, .int v), (6, .int w)]) hx hb dX1_draft_41 hl (by decide) rfl (fun ls hl => ?_)
      refine lv_iload hx hb dX1_draft_43 (lv_at hl 6 rfl) ?_
      refine lv_iconst (v := oI none) hx hb dX1_draft_45 (by decide) ?_
      refine lv_ldc (v := 100000) hx hb hown (hts (.constant RX1 80 (100000)) (by decide +kernel)) dX1_draft_46 ?_
      refine q_top (y := nI 100000) (by decide : (100000 : Int32) = nI 100000) ?_
      refine q_callI (r := bI (isin v (oI none) (nI 100000))) (va_runS (As := [.int v, .int (oI none), .int (nI 100000)]) (rest := []) ⟨hx, hb, hml, hown, hts⟩ (kX1_isIn l v (oI none) (nI 100000)) (cwS 3 hts gX1_draft_X1_isIn rfl rfl rfl (by decide +kernel) ⟨Nat.le_of_ble_eq_true rfl, Nat.le_of_ble_eq_true rfl⟩) ⟨sP_blind, sP_pre⟩ rfl rfl hl.1 rfl (lv_room (Nat.le_of_ble_eq_true rfl)) dX1_draft_48 ⟨Nat.zero_le _, Nat.zero_le _⟩) ?_
      refine q_ifB_eq (b := isin v (oI none) (nI 100000)) (tgt := 70) hx hb dX1_draft_51 (by decide) (fun k51 => ?_) (fun k51 => ?_)
      · refine lv_iconst (v := nI 0) hx hb dX1_draft_70 (by decide) ?_
        refine q_top (y := bI false) ((by decide : nI 0 = bI false)) ?_
        refine lv_istore (lv' := [(8, .int (bI false)), (7, .int (bI false)), (0, .ref h), (1, .int (nI j)), (2, .int a), (3, .int x), (4, .int y), (5, .int v), (6, .int w)]) hx hb dX1_draft_71 hl (by decide) rfl (fun ls hl => ?_)
        refine lv_aload_n hx hb dX1_draft_73 rfl (lv_at hl 2 rfl) ?_
        refine lv_iload hx hb dX1_draft_74 (lv_at hl 1 rfl) ?_
        refine q_ifB_ne (b := false) (tgt := 83) hx hb dX1_draft_76 (by decide) (fun k76 => absurd k76 (by decide)) (fun k76 => ?_)
        refine lv_iconst (v := nI 1) hx hb dX1_draft_79 (by decide) ?_
        refine lv_goto (tgt := 107) hx hb dX1_draft_80 (by decide) ?_
        refine q_wcallI (r := bI (decide (0 < 1))) (w' := (mW h ad cI cJ cZ td gc ex pa di qu dc dg da dh dt dv dd ds ak se pr 1)) (va_runV (As := [.int (nI 1)]) (rest := []) ⟨hx, hb, hml, hown, hts⟩ (kX1_fails l D h ad cI cJ cZ td gc ex pa di qu dc dg da dh dt dv dd ds ak se pr th _ 1 (by decide)) (cwV 1 hts gX1_draft_X1_fails rfl rfl rfl (by decide +kernel) ⟨Nat.le_of_ble_eq_true rfl, Nat.le_of_ble_eq_true rfl⟩) ⟨wP_blind, va_recv hK hP (ci := 1) (q0 := 0) rfl rfl, wP_pre hP hK hD⟩ rfl rfl hl.1 rfl (lv_room (Nat.le_of_ble_eq_true rfl)) dX1_draft_107 ⟨Nat.zero_le _, Nat.zero_le _⟩) hD hS hA rfl (fun H locs hP hD hS => ?_)
        refine q_ifB_eq (b := decide (0 < 1)) (tgt := 115) hx hb dX1_draft_110 (by decide) (fun k110 => absurd k110 (by decide)) (fun k110 => ?_)
        refine lv_iconst (v := nI 0) hx hb dX1_draft_113 (by decide) ?_
        exact q_wretI hx hb hr hlocks hAe hP hS (rfl) dX1_draft_114
      · refine lv_iload hx hb dX1_draft_54 (lv_at hl 7 rfl) ?_
        refine lv_iconst (v := nI 0) hx hb dX1_draft_56 (by decide) ?_
        refine lv_sipush (v := nI 1000) hx hb dX1_draft_57 (by decide) ?_
        refine q_callI (r := bI (isin w (nI 0) (nI 1000))) (va_runS (As := [.int w, .int (nI 0), .int (nI 1000)]) (rest := []) ⟨hx, hb, hml, hown, hts⟩ (kX1_isIn l w (nI 0) (nI 1000)) (cwS 3 hts gX1_draft_X1_isIn rfl rfl rfl (by decide +kernel) ⟨Nat.le_of_ble_eq_true rfl, Nat.le_of_ble_eq_true rfl⟩) ⟨sP_blind, sP_pre⟩ rfl rfl hl.1 rfl (lv_room (Nat.le_of_ble_eq_true rfl)) dX1_draft_60 ⟨Nat.zero_le _, Nat.zero_le _⟩) ?_
        refine q_ifB_eq (b := isin w (nI 0) (nI 1000)) (tgt := 70) hx hb dX1_draft_63 (by decide) (fun k63 => ?_) (fun k63 => ?_)
        · refine lv_iconst (v := nI 0) hx hb dX1_draft_70 (by decide) ?_
          refine q_top (y := bI false) ((by decide : nI 0 = bI false)) ?_
          refine lv_istore (lv' := [(8, .int (bI false)), (7, .int (bI false)), (0, .ref h), (1, .int (nI j)), (2, .int a), (3, .int x), (4, .int y), (5, .int v), (6, .int w)]) hx hb dX1_draft_71 hl (by decide) rfl (fun ls hl => ?_)
          refine lv_aload_n hx hb dX1_draft_73 rfl (lv_at hl 2 rfl) ?_
          refine lv_iload hx hb dX1_draft_74 (lv_at hl 1 rfl) ?_
          refine q_ifB_ne (b := false) (tgt := 83) hx hb dX1_draft_76 (by decide) (fun k76 => absurd k76 (by decide)) (fun k76 => ?_)
          refine lv_iconst (v := nI 1) hx hb dX1_draft_79 (by decide) ?_
          refine lv_goto (tgt := 107) hx hb dX1_draft_80 (by decide) ?_
          refine q_wcallI (r := bI (decide (0 < 1))) (w' := (mW h ad cI cJ cZ td gc ex pa di qu dc dg da dh dt dv dd ds ak se pr 1)) (va_runV (As := [.int (nI 1)]) (rest := []) ⟨hx, hb, hml, hown, hts⟩ (kX1_fails l D h ad cI cJ cZ td gc ex pa di qu dc dg da dh dt dv dd ds ak se pr th _ 1 (by decide)) (cwV 1 hts gX1_draft_X1_fails rfl rfl rfl (by decide +kernel) ⟨Nat.le_of_ble_eq_true rfl, Nat.le_of_ble_eq_true rfl⟩) ⟨wP_blind, va_recv hK hP (ci := 1) (q0 := 0) rfl rfl, wP_pre hP hK hD⟩ rfl rfl hl.1 rfl (lv_room (Nat.le_of_ble_eq_true rfl)) dX1_draft_107 ⟨Nat.zero_le _, Nat.zero_le _⟩) hD hS hA rfl (fun H locs hP hD hS => ?_)
          refine q_ifB_eq (b := decide (0 < 1)) (tgt := 115) hx hb dX1_draft_110 (by decide) (fun k110 => absurd k110 (by decide)) (fun k110 => ?_)
          refine lv_iconst (v := nI 0) hx hb dX1_draft_113 (by decide) ?_
          exact q_wretI hx hb hr hlocks hAe hP hS (rfl) dX1_draft_114
        · refine lv_iconst (v := nI 1) hx hb dX1_draft_66 (by decide) ?_
          refine lv_goto (tgt := 71) hx hb dX1_draft_67 (by decide) ?_
          refine q_top (y := bI true) ((by decide : nI 1 = bI true)) ?_
          refine lv_istore (lv' := [(8, .int (bI true)), (7, .int (bI false)), (0, .ref h), (1, .int (nI j)), (2, .int a), (3, .int x), (4, .int y), (5, .int v), (6, .int w)]) hx hb dX1_draft_71 hl (by decide) rfl (fun ls hl => ?_)
          refine lv_aload_n hx hb dX1_draft_73 rfl (lv_at hl 2 rfl) ?_
          refine lv_iload hx hb dX1_draft_74 (lv_at hl 1 rfl) ?_
          refine q_ifB_ne (b := false) (tgt := 83) hx hb dX1_draft_76 (by decide) (fun k76 => absurd k76 (by decide)) (fun k76 => ?_)
          refine lv_iconst (v := nI 1) hx hb dX1_draft_79 (by decide) ?_
          refine lv_goto (tgt := 107) hx hb dX1_draft_80 (by decide) ?_
          refine q_wcallI (r := bI (decide (0 < 1))) (w' := (mW h ad cI cJ cZ td gc ex pa di qu dc dg da dh dt dv dd ds ak se pr 1)) (va_runV (As := [.int (nI 1)]) (rest := []) ⟨hx, hb, hml, hown, hts⟩ (kX1_fails l D h ad cI cJ cZ td gc ex pa di qu dc dg da dh dt dv dd ds ak se pr th _ 1 (by decide)) (cwV 1 hts gX1_draft_X1_fails rfl rfl rfl (by decide +kernel) ⟨Nat.le_of_ble_eq_true rfl, Nat.le_of_ble_eq_true rfl⟩) ⟨wP_blind, va_recv hK hP (ci := 1) (q0 := 0) rfl rfl, wP_pre hP hK hD⟩ rfl rfl hl.1 rfl (lv_room (Nat.le_of_ble_eq_true rfl)) dX1_draft_107 ⟨Nat.zero_le _, Nat.zero_le _⟩) hD hS hA rfl (fun H locs hP hD hS => ?_)
          refine q_ifB_eq (b := decide (0 < 1)) (tgt := 115) hx hb dX1_draft_110 (by decide) (fun k110 => absurd k110 (by decide)) (fun k110 => ?_)
          refine lv_iconst (v := nI 0) hx hb dX1_draft_113 (by decide) ?_
          exact q_wretI hx hb hr hlocks hAe hP hS (rfl) dX1_draft_114
  · refine lv_aload_n hx hb dX1_draft_0 rfl (lv_at hl 0 rfl) ?_
    refine lv_iload_n hx hb dX1_draft_1 rfl (lv_at hl 1 rfl) ?_
    refine q_callI (r := bI (ex j)) (va_runV (As := [.int (nI j)]) (rest := []) ⟨hx, hb, hml, hown, hts⟩ (kX1_isGoodN l D h ad cI cJ cZ td gc ex pa di qu dc dg da dh dt dv dd ds ak se pr th j hj hgc hxg) (cwV 1 hts gX1_draft_X1_isGood rfl rfl rfl (by decide +kernel) ⟨Nat.le_of_ble_eq_true rfl, Nat.le_of_ble_eq_true rfl⟩) ⟨pP_blind, va_recv hK hP (ci := 1) (q0 := 0) rfl rfl, pP_pre hP hK⟩ rfl rfl hl.1 rfl (lv_room (Nat.le_of_ble_eq_true rfl)) dX1_draft_2 ⟨Nat.zero_le _, Nat.zero_le _⟩) ?_
    refine q_ifB_eq (b := ex j) (tgt := 40) hx hb dX1_draft_5 (by decide) (fun k5 => absurd k5 (by rw [he]; decide)) (fun k5 => ?_)
    rcases hs with hs | ⟨a2, ha, rfl, hs⟩
    · refine lv_iload_n hx hb dX1_draft_8 rfl (lv_at hl 2 rfl) ?_
      refine lv_iconst (v := nI 0) hx hb dX1_draft_9 (by decide) ?_
      refine lv_iconst (v := nI 5) hx hb dX1_draft_10 (by decide) ?_
      refine q_callI (r := bI (isin a (nI 0) (nI 5))) (va_runS (As := [.int a, .int (nI 0), .int (nI 5)]) (rest := []) ⟨hx, hb, hml, hown, hts⟩ (kX1_isIn l a (nI 0) (nI 5)) (cwS 3 hts gX1_draft_X1_isIn rfl rfl rfl (by decide +kernel) ⟨Nat.le_of_ble_eq_true rfl, Nat.le_of_ble_eq_true rfl⟩) ⟨sP_blind, sP_pre⟩ rfl rfl hl.1 rfl (lv_room (Nat.le_of_ble_eq_true rfl)) dX1_draft_11 ⟨Nat.zero_le _, Nat.zero_le _⟩) ?_
      refine q_top (y := bI false) (by rw [isin_ab (m := 6) (by decide) rfl hs]) ?_
      refine q_ifB_eq (b := false) (tgt := 40) hx hb dX1_draft_14 (by decide) (fun k14 => ?_) (fun k14 => absurd k14 (by decide))
      refine lv_iconst (v := nI 0) hx hb dX1_draft_40 (by decide) ?_
      refine q_top (y := bI false) ((by decide : nI 0 = bI false)) ?_
      refine lv_istore (lv' := [(7, .int (bI false)), (0, .ref h), (1, .int (nI j)), (2, .int a), (3, .int x), (4, .int y), (5, .int v), (6, .int w)]) hx hb dX1_draft_41 hl (by decide) rfl (fun ls hl => ?_)
      refine lv_iload hx hb dX1_draft_43 (lv_at hl 6 rfl) ?_
      refine lv_iconst (v := oI none) hx hb dX1_draft_45 (by decide) ?_
      refine lv_ldc (v := 100000) hx hb hown (hts (.constant RX1 80 (100000)) (by decide +kernel)) dX1_draft_46 ?_
      refine q_top (y := nI 100000) (by decide : (100000 : Int32) = nI 100000) ?_
      refine q_callI (r := bI (isin v (oI none) (nI 100000))) (va_runS (As := [.int v, .int (oI none), .int (nI 100000)]) (rest := []) ⟨hx, hb, hml, hown, hts⟩ (kX1_isIn l v (oI none) (nI 100000)) (cwS 3 hts gX1_draft_X1_isIn rfl rfl rfl (by decide +kernel) ⟨Nat.le_of_ble_eq_true rfl, Nat.le_of_ble_eq_true rfl⟩) ⟨sP_blind, sP_pre⟩ rfl rfl hl.1 rfl (lv_room (Nat.le_of_ble_eq_true rfl)) dX1_draft_48 ⟨Nat.zero_le _, Nat.zero_le _⟩) ?_
      refine q_ifB_eq (b := isin v (oI none) (nI 100000)) (tgt := 70) hx hb dX1_draft_51 (by decide) (fun k51 => ?_) (fun k51 => ?_)
      · refine lv_iconst (v := nI 0) hx hb dX1_draft_70 (by decide) ?_
        refine q_top (y := bI false) ((by decide : nI 0 = bI false)) ?_
        refine lv_istore (lv' := [(8, .int (bI false)), (7, .int (bI false)), (0, .ref h), (1, .int (nI j)), (2, .int a), (3, .int x), (4, .int y), (5, .int v), (6, .int w)]) hx hb dX1_draft_71 hl (by decide) rfl (fun ls hl => ?_)
        refine lv_aload_n hx hb dX1_draft_73 rfl (lv_at hl 2 rfl) ?_
        refine lv_iload hx hb dX1_draft_74 (lv_at hl 1 rfl) ?_
        refine q_ifB_ne (b := false) (tgt := 83) hx hb dX1_draft_76 (by decide) (fun k76 => absurd k76 (by decide)) (fun k76 => ?_)
        refine lv_iconst (v := nI 1) hx hb dX1_draft_79 (by decide) ?_
        refine lv_goto (tgt := 107) hx hb dX1_draft_80 (by decide) ?_
        refine q_wcallI (r := bI (decide (0 < 1))) (w' := (mW h ad cI cJ cZ td gc ex pa di qu dc dg da dh dt dv dd ds ak se pr 1)) (va_runV (As := [.int (nI 1)]) (rest := []) ⟨hx, hb, hml, hown, hts⟩ (kX1_fails l D h ad cI cJ cZ td gc ex pa di qu dc dg da dh dt dv dd ds ak se pr th _ 1 (by decide)) (cwV 1 hts gX1_draft_X1_fails rfl rfl rfl (by decide +kernel) ⟨Nat.le_of_ble_eq_true rfl, Nat.le_of_ble_eq_true rfl⟩) ⟨wP_blind, va_recv hK hP (ci := 1) (q0 := 0) rfl rfl, wP_pre hP hK hD⟩ rfl rfl hl.1 rfl (lv_room (Nat.le_of_ble_eq_true rfl)) dX1_draft_107 ⟨Nat.zero_le _, Nat.zero_le _⟩) hD hS hA rfl (fun H locs hP hD hS => ?_)
        refine q_ifB_eq (b := decide (0 < 1)) (tgt := 115) hx hb dX1_draft_110 (by decide) (fun k110 => absurd k110 (by decide)) (fun k110 => ?_)
        refine lv_iconst (v := nI 0) hx hb dX1_draft_113 (by decide) ?_
        exact q_wretI hx hb hr hlocks hAe hP hS (rfl) dX1_draft_114
      · refine lv_iload hx hb dX1_draft_54 (lv_at hl 7 rfl) ?_
        refine lv_iconst (v := nI 0) hx hb dX1_draft_56 (by decide) ?_
        refine lv_sipush (v := nI 1000) hx hb dX1_draft_57 (by decide) ?_
        refine q_callI (r := bI (isin w (nI 0) (nI 1000))) (va_runS (As := [.int w, .int (nI 0), .int (nI 1000)]) (rest := []) ⟨hx, hb, hml, hown, hts⟩ (kX1_isIn l w (nI 0) (nI 1000)) (cwS 3 hts gX1_draft_X1_isIn rfl rfl rfl (by decide +kernel) ⟨Nat.le_of_ble_eq_true rfl, Nat.le_of_ble_eq_true rfl⟩) ⟨sP_blind, sP_pre⟩ rfl rfl hl.1 rfl (lv_room (Nat.le_of_ble_eq_true rfl)) dX1_draft_60 ⟨Nat.zero_le _, Nat.zero_le _⟩) ?_
        refine q_ifB_eq (b := isin w (nI 0) (nI 1000)) (tgt := 70) hx hb dX1_draft_63 (by decide) (fun k63 => ?_) (fun k63 => ?_)
        · refine lv_iconst (v := nI 0) hx hb dX1_draft_70 (by decide) ?_
          refine q_top (y := bI false) ((by decide : nI 0 = bI false)) ?_
          refine lv_istore (lv' := [(8, .int (bI false)), (7, .int (bI false)), (0, .ref h), (1, .int (nI j)), (2, .int a), (3, .int x), (4, .int y), (5, .int v), (6, .int w)]) hx hb dX1_draft_71 hl (by decide) rfl (fun ls hl => ?_)
          refine lv_aload_n hx hb dX1_draft_73 rfl (lv_at hl 2 rfl) ?_
          refine lv_iload hx hb dX1_draft_74 (lv_at hl 1 rfl) ?_
          refine q_ifB_ne (b := false) (tgt := 83) hx hb dX1_draft_76 (by decide) (fun k76 => absurd k76 (by decide)) (fun k76 => ?_)
          refine lv_iconst (v := nI 1) hx hb dX1_draft_79 (by decide) ?_
          refine lv_goto (tgt := 107) hx hb dX1_draft_80 (by decide) ?_
          refine q_wcallI (r := bI (decide (0 < 1))) (w' := (mW h ad cI cJ cZ td gc ex pa di qu dc dg da dh dt dv dd ds ak se pr 1)) (va_runV (As := [.int (nI 1)]) (rest := []) ⟨hx, hb, hml, hown, hts⟩ (kX1_fails l D h ad cI cJ cZ td gc ex pa di qu dc dg da dh dt dv dd ds ak se pr th _ 1 (by decide)) (cwV 1 hts gX1_draft_X1_fails rfl rfl rfl (by decide +kernel) ⟨Nat.le_of_ble_eq_true rfl, Nat.le_of_ble_eq_true rfl⟩) ⟨wP_blind, va_recv hK hP (ci := 1) (q0 := 0) rfl rfl, wP_pre hP hK hD⟩ rfl rfl hl.1 rfl (lv_room (Nat.le_of_ble_eq_true rfl)) dX1_draft_107 ⟨Nat.zero_le _, Nat.zero_le _⟩) hD hS hA rfl (fun H locs hP hD hS => ?_)
          refine q_ifB_eq (b := decide (0 < 1)) (tgt := 115) hx hb dX1_draft_110 (by decide) (fun k110 => absurd k110 (by decide)) (fun k110 => ?_)
          refine lv_iconst (v := nI 0) hx hb dX1_draft_113 (by decide) ?_
          exact q_wretI hx hb hr hlocks hAe hP hS (rfl) dX1_draft_114
        · refine lv_iconst (v := nI 1) hx hb dX1_draft_66 (by decide) ?_
          refine lv_goto (tgt := 71) hx hb dX1_draft_67 (by decide) ?_
          refine q_top (y := bI true) ((by decide : nI 1 = bI true)) ?_
          refine lv_istore (lv' := [(8, .int (bI true)), (7, .int (bI false)), (0, .ref h), (1, .int (nI j)), (2, .int a), (3, .int x), (4, .int y), (5, .int v), (6, .int w)]) hx hb dX1_draft_71 hl (by decide) rfl (fun ls hl => ?_)
          refine lv_aload_n hx hb dX1_draft_73 rfl (lv_at hl 2 rfl) ?_
          refine lv_iload hx hb dX1_draft_74 (lv_at hl 1 rfl) ?_
          refine q_ifB_ne (b := false) (tgt := 83) hx hb dX1_draft_76 (by decide) (fun k76 => absurd k76 (by decide)) (fun k76 => ?_)
          refine lv_iconst (v := nI 1) hx hb dX1_draft_79 (by decide) ?_
          refine lv_goto (tgt := 107) hx hb dX1_draft_80 (by decide) ?_
          refine q_wcallI (r := bI (decide (0 < 1))) (w' := (mW h ad cI cJ cZ td gc ex pa di qu dc dg da dh dt dv dd ds ak se pr 1)) (va_runV (As := [.int (nI 1)]) (rest := []) ⟨hx, hb, hml, hown, hts⟩ (kX1_fails l D h ad cI cJ cZ td gc ex pa di qu dc dg da dh dt dv dd ds ak se pr th _ 1 (by decide)) (cwV 1 hts gX1_draft_X1_fails rfl rfl rfl (by decide +kernel) ⟨Nat.le_of_ble_eq_true rfl, Nat.le_of_ble_eq_true rfl⟩) ⟨wP_blind, va_recv hK hP (ci := 1) (q0 := 0) rfl rfl, wP_pre hP hK hD⟩ rfl rfl hl.1 rfl (lv_room (Nat.le_of_ble_eq_true rfl)) dX1_draft_107 ⟨Nat.zero_le _, Nat.zero_le _⟩) hD hS hA rfl (fun H locs hP hD hS => ?_)
          refine q_ifB_eq (b := decide (0 < 1)) (tgt := 115) hx hb dX1_draft_110 (by decide) (fun k110 => absurd k110 (by decide)) (fun k110 => ?_)
          refine lv_iconst (v := nI 0) hx hb dX1_draft_113 (by decide) ?_
          exact q_wretI hx hb hr hlocks hAe hP hS (rfl) dX1_draft_114
    · refine lv_iload_n hx hb dX1_draft_8 rfl (lv_at hl 2 rfl) ?_
      refine lv_iconst (v := nI 0) hx hb dX1_draft_9 (by decide) ?_
      refine lv_iconst (v := nI 5) hx hb dX1_draft_10 (by decide) ?_
      refine q_callI (r := bI (isin (nI a2) (nI 0) (nI 5))) (va_runS (As := [.int (nI a2), .int (nI 0), .int (nI 5)]) (rest := []) ⟨hx, hb, hml, hown, hts⟩ (kX1_isIn l (nI a2) (nI 0) (nI 5)) (cwS 3 hts gX1_draft_X1_isIn rfl rfl rfl (by decide +kernel) ⟨Nat.le_of_ble_eq_true rfl, Nat.le_of_ble_eq_true rfl⟩) ⟨sP_blind, sP_pre⟩ rfl rfl hl.1 rfl (lv_room (Nat.le_of_ble_eq_true rfl)) dX1_draft_11 ⟨Nat.zero_le _, Nat.zero_le _⟩) ?_
      refine q_top (y := bI true) (by rw [isin_N (by omega) (by decide), decide_eq_true (by omega)]) ?_
      refine q_ifB_eq (b := true) (tgt := 40) hx hb dX1_draft_14 (by decide) (fun k14 => absurd k14 (by decide)) (fun k14 => ?_)
      rcases hs with ⟨hs, hne⟩ | ⟨rfl | ⟨x2, hx2, rfl⟩, hs, hne⟩
      · refine lv_iload_n hx hb dX1_draft_17 rfl (lv_at hl 3 rfl) ?_
        refine lv_iconst (v := oI none) hx hb dX1_draft_18 (by decide) ?_
        refine lv_iconst (v := nI 2) hx hb dX1_draft_19 (by decide) ?_
        refine q_callI (r := bI (isin x (oI none) (nI 2))) (va_runS (As := [.int x, .int (oI none), .int (nI 2)]) (rest := []) ⟨hx, hb, hml, hown, hts⟩ (kX1_isIn l x (oI none) (nI 2)) (cwS 3 hts gX1_draft_X1_isIn rfl rfl rfl (by decide +kernel) ⟨Nat.le_of_ble_eq_true rfl, Nat.le_of_ble_eq_true rfl⟩) ⟨sP_blind, sP_pre⟩ rfl rfl hl.1 rfl (lv_room (Nat.le_of_ble_eq_true rfl)) dX1_draft_20 ⟨Nat.zero_le _, Nat.zero_le _⟩) ?_
        refine q_top (y := bI false) (by rw [isin_ob (m := 3) (by decide) rfl hs hne]) ?_
        refine q_ifB_eq (b := false) (tgt := 40) hx hb dX1_draft_23 (by decide) (fun k23 => ?_) (fun k23 => absurd k23 (by decide))
        refine lv_iconst (v := nI 0) hx hb dX1_draft_40 (by decide) ?_
        refine q_top (y := bI false) ((by decide : nI 0 = bI false)) ?_
        refine lv_istore (lv' := [(7, .int (bI false)), (0, .ref h), (1, .int (nI j)), (2, .int (nI a2)), (3, .int x), (4, .int y), (5, .int v), (6, .int w)]) hx hb dX1_draft_41 hl (by decide) rfl (fun ls hl => ?_)
        refine lv_iload hx hb dX1_draft_43 (lv_at hl 6 rfl) ?_
        refine lv_iconst (v := oI none) hx hb dX1_draft_45 (by decide) ?_
        refine lv_ldc (v := 100000) hx hb hown (hts (.constant RX1 80 (100000)) (by decide +kernel)) dX1_draft_46 ?_
        refine q_top (y := nI 100000) (by decide : (100000 : Int32) = nI 100000) ?_
        refine q_callI (r := bI (isin v (oI none) (nI 100000))) (va_runS (As := [.int v, .int (oI none), .int (nI 100000)]) (rest := []) ⟨hx, hb, hml, hown, hts⟩ (kX1_isIn l v (oI none) (nI 100000)) (cwS 3 hts gX1_draft_X1_isIn rfl rfl rfl (by decide +kernel) ⟨Nat.le_of_ble_eq_true rfl, Nat.le_of_ble_eq_true rfl⟩) ⟨sP_blind, sP_pre⟩ rfl rfl hl.1 rfl (lv_room (Nat.le_of_ble_eq_true rfl)) dX1_draft_48 ⟨Nat.zero_le _, Nat.zero_le _⟩) ?_
        refine q_ifB_eq (b := isin v (oI none) (nI 100000)) (tgt := 70) hx hb dX1_draft_51 (by decide) (fun k51 => ?_) (fun k51 => ?_)
        · refine lv_iconst (v := nI 0) hx hb dX1_draft_70 (by decide) ?_
          refine q_top (y := bI false) ((by decide : nI 0 = bI false)) ?_
          refine lv_istore (lv' := [(8, .int (bI false)), (7, .int (bI false)), (0, .ref h), (1, .int (nI j)), (2, .int (nI a2)), (3, .int x), (4, .int y), (5, .int v), (6, .int w)]) hx hb dX1_draft_71 hl (by decide) rfl (fun ls hl => ?_)
          refine lv_aload_n hx hb dX1_draft_73 rfl (lv_at hl 2 rfl) ?_
          refine lv_iload hx hb dX1_draft_74 (lv_at hl 1 rfl) ?_
          refine q_ifB_ne (b := false) (tgt := 83) hx hb dX1_draft_76 (by decide) (fun k76 => absurd k76 (by decide)) (fun k76 => ?_)
          refine lv_iconst (v := nI 1) hx hb dX1_draft_79 (by decide) ?_
          refine lv_goto (tgt := 107) hx hb dX1_draft_80 (by decide) ?_
          refine q_wcallI (r := bI (decide (0 < 1))) (w' := (mW h ad cI cJ cZ td gc ex pa di qu dc dg da dh dt dv dd ds ak se pr 1)) (va_runV (As := [.int (nI 1)]) (rest := []) ⟨hx, hb, hml, hown, hts⟩ (kX1_fails l D h ad cI cJ cZ td gc ex pa di qu dc dg da dh dt dv dd ds ak se pr th _ 1 (by decide)) (cwV 1 hts gX1_draft_X1_fails rfl rfl rfl (by decide +kernel) ⟨Nat.le_of_ble_eq_true rfl, Nat.le_of_ble_eq_true rfl⟩) ⟨wP_blind, va_recv hK hP (ci := 1) (q0 := 0) rfl rfl, wP_pre hP hK hD⟩ rfl rfl hl.1 rfl (lv_room (Nat.le_of_ble_eq_true rfl)) dX1_draft_107 ⟨Nat.zero_le _, Nat.zero_le _⟩) hD hS hA rfl (fun H locs hP hD hS => ?_)
          refine q_ifB_eq (b := decide (0 < 1)) (tgt := 115) hx hb dX1_draft_110 (by decide) (fun k110 => absurd k110 (by decide)) (fun k110 => ?_)
          refine lv_iconst (v := nI 0) hx hb dX1_draft_113 (by decide) ?_
          exact q_wretI hx hb hr hlocks hAe hP hS (rfl) dX1_draft_114
        · refine lv_iload hx hb dX1_draft_54 (lv_at hl 7 rfl) ?_
          refine lv_iconst (v := nI 0) hx hb dX1_draft_56 (by decide) ?_
          refine lv_sipush (v := nI 1000) hx hb dX1_draft_57 (by decide) ?_
          refine q_callI (r := bI (isin w (nI 0) (nI 1000))) (va_runS (As := [.int w, .int (nI 0), .int (nI 1000)]) (rest := []) ⟨hx, hb, hml, hown, hts⟩ (kX1_isIn l w (nI 0) (nI 1000)) (cwS 3 hts gX1_draft_X1_isIn rfl rfl rfl (by decide +kernel) ⟨Nat.le_of_ble_eq_true rfl, Nat.le_of_ble_eq_true rfl⟩) ⟨sP_blind, sP_pre⟩ rfl rfl hl.1 rfl (lv_room (Nat.le_of_ble_eq_true rfl)) dX1_draft_60 ⟨Nat.zero_le _, Nat.zero_le _⟩) ?_
          refine q_ifB_eq (b := isin w (nI 0) (nI 1000)) (tgt := 70) hx hb dX1_draft_63 (by decide) (fun k63 => ?_) (fun k63 => ?_)
          · refine lv_iconst (v := nI 0) hx hb dX1_draft_70 (by decide) ?_
            refine q_top (y := bI false) ((by decide : nI 0 = bI false)) ?_
            refine lv_istore (lv' := [(8, .int (bI false)), (7, .int (bI false)), (0, .ref h), (1, .int (nI j)), (2, .int (nI a2)), (3, .int x), (4, .int y), (5, .int v), (6, .int w)]) hx hb dX1_draft_71 hl (by decide) rfl (fun ls hl => ?_)
            refine lv_aload_n hx hb dX1_draft_73 rfl (lv_at hl 2 rfl) ?_
            refine lv_iload hx hb dX1_draft_74 (lv_at hl 1 rfl) ?_
            refine q_ifB_ne (b := false) (tgt := 83) hx hb dX1_draft_76 (by decide) (fun k76 => absurd k76 (by decide)) (fun k76 => ?_)
            refine lv_iconst (v := nI 1) hx hb dX1_draft_79 (by decide) ?_
            refine lv_goto (tgt := 107) hx hb dX1_draft_80 (by decide) ?_
            refine q_wcallI (r := bI (decide (0 < 1))) (w' := (mW h ad cI cJ cZ td gc ex pa di qu dc dg da dh dt dv dd ds ak se pr 1)) (va_runV (As := [.int (nI 1)]) (rest := []) ⟨hx, hb, hml, hown, hts⟩ (kX1_fails l D h ad cI cJ cZ td gc ex pa di qu dc dg da dh dt dv dd ds ak se pr th _ 1 (by decide)) (cwV 1 hts gX1_draft_X1_fails rfl rfl rfl (by decide +kernel) ⟨Nat.le_of_ble_eq_true rfl, Nat.le_of_ble_eq_true rfl⟩) ⟨wP_blind, va_recv hK hP (ci := 1) (q0 := 0) rfl rfl, wP_pre hP hK hD⟩ rfl rfl hl.1 rfl (lv_room (Nat.le_of_ble_eq_true rfl)) dX1_draft_107 ⟨Nat.zero_le _, Nat.zero_le _⟩) hD hS hA rfl (fun H locs hP hD hS => ?_)
            refine q_ifB_eq (b := decide (0 < 1)) (tgt := 115) hx hb dX1_draft_110 (by decide) (fun k110 => absurd k110 (by decide)) (fun k110 => ?_)
            refine lv_iconst (v := nI 0) hx hb dX1_draft_113 (by decide) ?_
            exact q_wretI hx hb hr hlocks hAe hP hS (rfl) dX1_draft_114
          · refine lv_iconst (v := nI 1) hx hb dX1_draft_66 (by decide) ?_
            refine lv_goto (tgt := 71) hx hb dX1_draft_67 (by decide) ?_
            refine q_top (y := bI true) ((by decide : nI 1 = bI true)) ?_
            refine lv_istore (lv' := [(8, .int (bI true)), (7, .int (bI false)), (0, .ref h), (1, .int (nI j)), (2, .int (nI a2)), (3, .int x), (4, .int y), (5, .int v), (6, .int w)]) hx hb dX1_draft_71 hl (by decide) rfl (fun ls hl => ?_)
            refine lv_aload_n hx hb dX1_draft_73 rfl (lv_at hl 2 rfl) ?_
            refine lv_iload hx hb dX1_draft_74 (lv_at hl 1 rfl) ?_
            refine q_ifB_ne (b := false) (tgt := 83) hx hb dX1_draft_76 (by decide) (fun k76 => absurd k76 (by decide)) (fun k76 => ?_)
            refine lv_iconst (v := nI 1) hx hb dX1_draft_79 (by decide) ?_
            refine lv_goto (tgt := 107) hx hb dX1_draft_80 (by decide) ?_
            refine q_wcallI (r := bI (decide (0 < 1))) (w' := (mW h ad cI cJ cZ td gc ex pa di qu dc dg da dh dt dv dd ds ak se pr 1)) (va_runV (As := [.int (nI 1)]) (rest := []) ⟨hx, hb, hml, hown, hts⟩ (kX1_fails l D h ad cI cJ cZ td gc ex pa di qu dc dg da dh dt dv dd ds ak se pr th _ 1 (by decide)) (cwV 1 hts gX1_draft_X1_fails rfl rfl rfl (by decide +kernel) ⟨Nat.le_of_ble_eq_true rfl, Nat.le_of_ble_eq_true rfl⟩) ⟨wP_blind, va_recv hK hP (ci := 1) (q0 := 0) rfl rfl, wP_pre hP hK hD⟩ rfl rfl hl.1 rfl (lv_room (Nat.le_of_ble_eq_true rfl)) dX1_draft_107 ⟨Nat.zero_le _, Nat.zero_le _⟩) hD hS hA rfl (fun H locs hP hD hS => ?_)
            refine q_ifB_eq (b := decide (0 < 1)) (tgt := 115) hx hb dX1_draft_110 (by decide) (fun k110 => absurd k110 (by decide)) (fun k110 => ?_)
            refine lv_iconst (v := nI 0) hx hb dX1_draft_113 (by decide) ?_
            exact q_wretI hx hb hr hlocks hAe hP hS (rfl) dX1_draft_114
      · refine lv_iload_n hx hb dX1_draft_17 rfl (lv_at hl 3 rfl) ?_
        refine lv_iconst (v := oI none) hx hb dX1_draft_18 (by decide) ?_
        refine lv_iconst (v := nI 2) hx hb dX1_draft_19 (by decide) ?_
        refine q_callI (r := bI (isin (oI none) (oI none) (nI 2))) (va_runS (As := [.int (oI none), .int (oI none), .int (nI 2)]) (rest := []) ⟨hx, hb, hml, hown, hts⟩ (kX1_isIn l (oI none) (oI none) (nI 2)) (cwS 3 hts gX1_draft_X1_isIn rfl rfl rfl (by decide +kernel) ⟨Nat.le_of_ble_eq_true rfl, Nat.le_of_ble_eq_true rfl⟩) ⟨sP_blind, sP_pre⟩ rfl rfl hl.1 rfl (lv_room (Nat.le_of_ble_eq_true rfl)) dX1_draft_20 ⟨Nat.zero_le _, Nat.zero_le _⟩) ?_
        refine q_top (y := bI true) (by rw [isin_o (by decide) (fun k h9 => by cases h9)]) ?_
        refine q_ifB_eq (b := true) (tgt := 40) hx hb dX1_draft_23 (by decide) (fun k23 => absurd k23 (by decide)) (fun k23 => ?_)
        refine lv_iload hx hb dX1_draft_26 (lv_at hl 4 rfl) ?_
        refine lv_iconst (v := oI none) hx hb dX1_draft_28 (by decide) ?_
        refine lv_iconst (v := nI 2) hx hb dX1_draft_29 (by decide) ?_
        refine q_callI (r := bI (isin y (oI none) (nI 2))) (va_runS (As := [.int y, .int (oI none), .int (nI 2)]) (rest := []) ⟨hx, hb, hml, hown, hts⟩ (kX1_isIn l y (oI none) (nI 2)) (cwS 3 hts gX1_draft_X1_isIn rfl rfl rfl (by decide +kernel) ⟨Nat.le_of_ble_eq_true rfl, Nat.le_of_ble_eq_true rfl⟩) ⟨sP_blind, sP_pre⟩ rfl rfl hl.1 rfl (lv_room (Nat.le_of_ble_eq_true rfl)) dX1_draft_30 ⟨Nat.zero_le _, Nat.zero_le _⟩) ?_
        refine q_top (y := bI false) (by rw [isin_ob (m := 3) (by decide) rfl hs hne]) ?_
        refine q_ifB_eq (b := false) (tgt := 40) hx hb dX1_draft_33 (by decide) (fun k33 => ?_) (fun k33 => absurd k33 (by decide))
        refine lv_iconst (v := nI 0) hx hb dX1_draft_40 (by decide) ?_
        refine q_top (y := bI false) ((by decide : nI 0 = bI false)) ?_
        refine lv_istore (lv' := [(7, .int (bI false)), (0, .ref h), (1, .int (nI j)), (2, .int (nI a2)), (3, .int (oI none)), (4, .int y), (5, .int v), (6, .int w)]) hx hb dX1_draft_41 hl (by decide) rfl (fun ls hl => ?_)
        refine lv_iload hx hb dX1_draft_43 (lv_at hl 6 rfl) ?_
        refine lv_iconst (v := oI none) hx hb dX1_draft_45 (by decide) ?_
        refine lv_ldc (v := 100000) hx hb hown (hts (.constant RX1 80 (100000)) (by decide +kernel)) dX1_draft_46 ?_
        refine q_top (y := nI 100000) (by decide : (100000 : Int32) = nI 100000) ?_
        refine q_callI (r := bI (isin v (oI none) (nI 100000))) (va_runS (As := [.int v, .int (oI none), .int (nI 100000)]) (rest := []) ⟨hx, hb, hml, hown, hts⟩ (kX1_isIn l v (oI none) (nI 100000)) (cwS 3 hts gX1_draft_X1_isIn rfl rfl rfl (by decide +kernel) ⟨Nat.le_of_ble_eq_true rfl, Nat.le_of_ble_eq_true rfl⟩) ⟨sP_blind, sP_pre⟩ rfl rfl hl.1 rfl (lv_room (Nat.le_of_ble_eq_true rfl)) dX1_draft_48 ⟨Nat.zero_le _, Nat.zero_le _⟩) ?_
        refine q_ifB_eq (b := isin v (oI none) (nI 100000)) (tgt := 70) hx hb dX1_draft_51 (by decide) (fun k51 => ?_) (fun k51 => ?_)
        · refine lv_iconst (v := nI 0) hx hb dX1_draft_70 (by decide) ?_
          refine q_top (y := bI false) ((by decide : nI 0 = bI false)) ?_
          refine lv_istore (lv' := [(8, .int (bI false)), (7, .int (bI false)), (0, .ref h), (1, .int (nI j)), (2, .int (nI a2)), (3, .int (oI none)), (4, .int y), (5, .int v), (6, .int w)]) hx hb dX1_draft_71 hl (by decide) rfl (fun ls hl => ?_)
          refine lv_aload_n hx hb dX1_draft_73 rfl (lv_at hl 2 rfl) ?_
          refine lv_iload hx hb dX1_draft_74 (lv_at hl 1 rfl) ?_
          refine q_ifB_ne (b := false) (tgt := 83) hx hb dX1_draft_76 (by decide) (fun k76 => absurd k76 (by decide)) (fun k76 => ?_)
          refine lv_iconst (v := nI 1) hx hb dX1_draft_79 (by decide) ?_
          refine lv_goto (tgt := 107) hx hb dX1_draft_80 (by decide) ?_
          refine q_wcallI (r := bI (decide (0 < 1))) (w' := (mW h ad cI cJ cZ td gc ex pa di qu dc dg da dh dt dv dd ds ak se pr 1)) (va_runV (As := [.int (nI 1)]) (rest := []) ⟨hx, hb, hml, hown, hts⟩ (kX1_fails l D h ad cI cJ cZ td gc ex pa di qu dc dg da dh dt dv dd ds ak se pr th _ 1 (by decide)) (cwV 1 hts gX1_draft_X1_fails rfl rfl rfl (by decide +kernel) ⟨Nat.le_of_ble_eq_true rfl, Nat.le_of_ble_eq_true rfl⟩) ⟨wP_blind, va_recv hK hP (ci := 1) (q0 := 0) rfl rfl, wP_pre hP hK hD⟩ rfl rfl hl.1 rfl (lv_room (Nat.le_of_ble_eq_true rfl)) dX1_draft_107 ⟨Nat.zero_le _, Nat.zero_le _⟩) hD hS hA rfl (fun H locs hP hD hS => ?_)
          refine q_ifB_eq (b := decide (0 < 1)) (tgt := 115) hx hb dX1_draft_110 (by decide) (fun k110 => absurd k110 (by decide)) (fun k110 => ?_)
          refine lv_iconst (v := nI 0) hx hb dX1_draft_113 (by decide) ?_
          exact q_wretI hx hb hr hlocks hAe hP hS (rfl) dX1_draft_114
        · refine lv_iload hx hb dX1_draft_54 (lv_at hl 7 rfl) ?_
          refine lv_iconst (v := nI 0) hx hb dX1_draft_56 (by decide) ?_
          refine lv_sipush (v := nI 1000) hx hb dX1_draft_57 (by decide) ?_
          refine q_callI (r := bI (isin w (nI 0) (nI 1000))) (va_runS (As := [.int w, .int (nI 0), .int (nI 1000)]) (rest := []) ⟨hx, hb, hml, hown, hts⟩ (kX1_isIn l w (nI 0) (nI 1000)) (cwS 3 hts gX1_draft_X1_isIn rfl rfl rfl (by decide +kernel) ⟨Nat.le_of_ble_eq_true rfl, Nat.le_of_ble_eq_true rfl⟩) ⟨sP_blind, sP_pre⟩ rfl rfl hl.1 rfl (lv_room (Nat.le_of_ble_eq_true rfl)) dX1_draft_60 ⟨Nat.zero_le _, Nat.zero_le _⟩) ?_
          refine q_ifB_eq (b := isin w (nI 0) (nI 1000)) (tgt := 70) hx hb dX1_draft_63 (by decide) (fun k63 => ?_) (fun k63 => ?_)
          · refine lv_iconst (v := nI 0) hx hb dX1_draft_70 (by decide) ?_
            refine q_top (y := bI false) ((by decide : nI 0 = bI false)) ?_
            refine lv_istore (lv' := [(8, .int (bI false)), (7, .int (bI false)), (0, .ref h), (1, .int (nI j)), (2, .int (nI a2)), (3, .int (oI none)), (4, .int y), (5, .int v), (6, .int w)]) hx hb dX1_draft_71 hl (by decide) rfl (fun ls hl => ?_)
            refine lv_aload_n hx hb dX1_draft_73 rfl (lv_at hl 2 rfl) ?_
            refine lv_iload hx hb dX1_draft_74 (lv_at hl 1 rfl) ?_
            refine q_ifB_ne (b := false) (tgt := 83) hx hb dX1_draft_76 (by decide) (fun k76 => absurd k76 (by decide)) (fun k76 => ?_)
            refine lv_iconst (v := nI 1) hx hb dX1_draft_79 (by decide) ?_
            refine lv_goto (tgt := 107) hx hb dX1_draft_80 (by decide) ?_
            refine q_wcallI (r := bI (decide (0 < 1))) (w' := (mW h ad cI cJ cZ td gc ex pa di qu dc dg da dh dt dv dd ds ak se pr 1)) (va_runV (As := [.int (nI 1)]) (rest := []) ⟨hx, hb, hml, hown, hts⟩ (kX1_fails l D h ad cI cJ cZ td gc ex pa di qu dc dg da dh dt dv dd ds ak se pr th _ 1 (by decide)) (cwV 1 hts gX1_draft_X1_fails rfl rfl rfl (by decide +kernel) ⟨Nat.le_of_ble_eq_true rfl, Nat.le_of_ble_eq_true rfl⟩) ⟨wP_blind, va_recv hK hP (ci := 1) (q0 := 0) rfl rfl, wP_pre hP hK hD⟩ rfl rfl hl.1 rfl (lv_room (Nat.le_of_ble_eq_true rfl)) dX1_draft_107 ⟨Nat.zero_le _, Nat.zero_le _⟩) hD hS hA rfl (fun H locs hP hD hS => ?_)
            refine q_ifB_eq (b := decide (0 < 1)) (tgt := 115) hx hb dX1_draft_110 (by decide) (fun k110 => absurd k110 (by decide)) (fun k110 => ?_)
            refine lv_iconst (v := nI 0) hx hb dX1_draft_113 (by decide) ?_
            exact q_wretI hx hb hr hlocks hAe hP hS (rfl) dX1_draft_114
          · refine lv_iconst (v := nI 1) hx hb dX1_draft_66 (by decide) ?_
            refine lv_goto (tgt := 71) hx hb dX1_draft_67 (by decide) ?_
            refine q_top (y := bI true) ((by decide : nI 1 = bI true)) ?_
            refine lv_istore (lv' := [(8, .int (bI true)), (7, .int (bI false)), (0, .ref h), (1, .int (nI j)), (2, .int (nI a2)), (3, .int (oI none)), (4, .int y), (5, .int v), (6, .int w)]) hx hb dX1_draft_71 hl (by decide) rfl (fun ls hl => ?_)
            refine lv_aload_n hx hb dX1_draft_73 rfl (lv_at hl 2 rfl) ?_
            refine lv_iload hx hb dX1_draft_74 (lv_at hl 1 rfl) ?_
            refine q_ifB_ne (b := false) (tgt := 83) hx hb dX1_draft_76 (by decide) (fun k76 => absurd k76 (by decide)) (fun k76 => ?_)
            refine lv_iconst (v := nI 1) hx hb dX1_draft_79 (by decide) ?_
            refine lv_goto (tgt := 107) hx hb dX1_draft_80 (by decide) ?_
            refine q_wcallI (r := bI (decide (0 < 1))) (w' := (mW h ad cI cJ cZ td gc ex pa di qu dc dg da dh dt dv dd ds ak se pr 1)) (va_runV (As := [.int (nI 1)]) (rest := []) ⟨hx, hb, hml, hown, hts⟩ (kX1_fails l D h ad cI cJ cZ td gc ex pa di qu dc dg da dh dt dv dd ds ak se pr th _ 1 (by decide)) (cwV 1 hts gX1_draft_X1_fails rfl rfl rfl (by decide +kernel) ⟨Nat.le_of_ble_eq_true rfl, Nat.le_of_ble_eq_true rfl⟩) ⟨wP_blind, va_recv hK hP (ci := 1) (q0 := 0) rfl rfl, wP_pre hP hK hD⟩ rfl rfl hl.1 rfl (lv_room (Nat.le_of_ble_eq_true rfl)) dX1_draft_107 ⟨Nat.zero_le _, Nat.zero_le _⟩) hD hS hA rfl (fun H locs hP hD hS => ?_)
            refine q_ifB_eq (b := decide (0 < 1)) (tgt := 115) hx hb dX1_draft_110 (by decide) (fun k110 => absurd k110 (by decide)) (fun k110 => ?_)
            refine lv_iconst (v := nI 0) hx hb dX1_draft_113 (by decide) ?_
            exact q_wretI hx hb hr hlocks hAe hP hS (rfl) dX1_draft_114
      · refine lv_iload_n hx hb dX1_draft_17 rfl (lv_at hl 3 rfl) ?_
        refine lv_iconst (v := oI none) hx hb dX1_draft_18 (by decide) ?_
        refine lv_iconst (v := nI 2) hx hb dX1_draft_19 (by decide) ?_
        refine q_callI (r := bI (isin (oI (some x2)) (oI none) (nI 2))) (va_runS (As := [.int (nI x2), .int (oI none), .int (nI 2)]) (rest := []) ⟨hx, hb, hml, hown, hts⟩ (kX1_isIn l (oI (some x2)) (oI none) (nI 2)) (cwS 3 hts gX1_draft_X1_isIn rfl rfl rfl (by decide +kernel) ⟨Nat.le_of_ble_eq_true rfl, Nat.le_of_ble_eq_true rfl⟩) ⟨sP_blind, sP_pre⟩ rfl rfl hl.1 rfl (lv_room (Nat.le_of_ble_eq_true rfl)) dX1_draft_20 ⟨Nat.zero_le _, Nat.zero_le _⟩) ?_
        refine q_top (y := bI true) (by rw [isin_o (by decide) (fun k h9 => by cases h9; omega)]) ?_
        refine q_ifB_eq (b := true) (tgt := 40) hx hb dX1_draft_23 (by decide) (fun k23 => absurd k23 (by decide)) (fun k23 => ?_)
        refine lv_iload hx hb dX1_draft_26 (lv_at hl 4 rfl) ?_
        refine lv_iconst (v := oI none) hx hb dX1_draft_28 (by decide) ?_
        refine lv_iconst (v := nI 2) hx hb dX1_draft_29 (by decide) ?_
        refine q_callI (r := bI (isin y (oI none) (nI 2))) (va_runS (As := [.int y, .int (oI none), .int (nI 2)]) (rest := []) ⟨hx, hb, hml, hown, hts⟩ (kX1_isIn l y (oI none) (nI 2)) (cwS 3 hts gX1_draft_X1_isIn rfl rfl rfl (by decide +kernel) ⟨Nat.le_of_ble_eq_true rfl, Nat.le_of_ble_eq_true rfl⟩) ⟨sP_blind, sP_pre⟩ rfl rfl hl.1 rfl (lv_room (Nat.le_of_ble_eq_true rfl)) dX1_draft_30 ⟨Nat.zero_le _, Nat.zero_le _⟩) ?_
        refine q_top (y := bI false) (by rw [isin_ob (m := 3) (by decide) rfl hs hne]) ?_
        refine q_ifB_eq (b := false) (tgt := 40) hx hb dX1_draft_33 (by decide) (fun k33 => ?_) (fun k33 => absurd k33 (by decide))
        refine lv_iconst (v := nI 0) hx hb dX1_draft_40 (by decide) ?_
        refine q_top (y := bI false) ((by decide : nI 0 = bI false)) ?_
        refine lv_istore (lv' := [(7, .int (bI false)), (0, .ref h), (1, .int (nI j)), (2, .int (nI a2)), (3, .int (nI x2)), (4, .int y), (5, .int v), (6, .int w)]) hx hb dX1_draft_41 hl (by decide) rfl (fun ls hl => ?_)
        refine lv_iload hx hb dX1_draft_43 (lv_at hl 6 rfl) ?_
        refine lv_iconst (v := oI none) hx hb dX1_draft_45 (by decide) ?_
        refine lv_ldc (v := 100000) hx hb hown (hts (.constant RX1 80 (100000)) (by decide +kernel)) dX1_draft_46 ?_
        refine q_top (y := nI 100000) (by decide : (100000 : Int32) = nI 100000) ?_
        refine q_callI (r := bI (isin v (oI none) (nI 100000))) (va_runS (As := [.int v, .int (oI none), .int (nI 100000)]) (rest := []) ⟨hx, hb, hml, hown, hts⟩ (kX1_isIn l v (oI none) (nI 100000)) (cwS 3 hts gX1_draft_X1_isIn rfl rfl rfl (by decide +kernel) ⟨Nat.le_of_ble_eq_true rfl, Nat.le_of_ble_eq_true rfl⟩) ⟨sP_blind, sP_pre⟩ rfl rfl hl.1 rfl (lv_room (Nat.le_of_ble_eq_true rfl)) dX1_draft_48 ⟨Nat.zero_le _, Nat.zero_le _⟩) ?_
        refine q_ifB_eq (b := isin v (oI none) (nI 100000)) (tgt := 70) hx hb dX1_draft_51 (by decide) (fun k51 => ?_) (fun k51 => ?_)
        · refine lv_iconst (v := nI 0) hx hb dX1_draft_70 (by decide) ?_
          refine q_top (y := bI false) ((by decide : nI 0 = bI false)) ?_
          refine lv_istore (lv' := [(8, .int (bI false)), (7, .int (bI false)), (0, .ref h), (1, .int (nI j)), (2, .int (nI a2)), (3, .int (nI x2)), (4, .int y), (5, .int v), (6, .int w)]) hx hb dX1_draft_71 hl (by decide) rfl (fun ls hl => ?_)
          refine lv_aload_n hx hb dX1_draft_73 rfl (lv_at hl 2 rfl) ?_
          refine lv_iload hx hb dX1_draft_74 (lv_at hl 1 rfl) ?_
          refine q_ifB_ne (b := false) (tgt := 83) hx hb dX1_draft_76 (by decide) (fun k76 => absurd k76 (by decide)) (fun k76 => ?_)
          refine lv_iconst (v := nI 1) hx hb dX1_draft_79 (by decide) ?_
          refine lv_goto (tgt := 107) hx hb dX1_draft_80 (by decide) ?_
          refine q_wcallI (r := bI (decide (0 < 1))) (w' := (mW h ad cI cJ cZ td gc ex pa di qu dc dg da dh dt dv dd ds ak se pr 1)) (va_runV (As := [.int (nI 1)]) (rest := []) ⟨hx, hb, hml, hown, hts⟩ (kX1_fails l D h ad cI cJ cZ td gc ex pa di qu dc dg da dh dt dv dd ds ak se pr th _ 1 (by decide)) (cwV 1 hts gX1_draft_X1_fails rfl rfl rfl (by decide +kernel) ⟨Nat.le_of_ble_eq_true rfl, Nat.le_of_ble_eq_true rfl⟩) ⟨wP_blind, va_recv hK hP (ci := 1) (q0 := 0) rfl rfl, wP_pre hP hK hD⟩ rfl rfl hl.1 rfl (lv_room (Nat.le_of_ble_eq_true rfl)) dX1_draft_107 ⟨Nat.zero_le _, Nat.zero_le _⟩) hD hS hA rfl (fun H locs hP hD hS => ?_)
          refine q_ifB_eq (b := decide (0 < 1)) (tgt := 115) hx hb dX1_draft_110 (by decide) (fun k110 => absurd k110 (by decide)) (fun k110 => ?_)
          refine lv_iconst (v := nI 0) hx hb dX1_draft_113 (by decide) ?_
          exact q_wretI hx hb hr hlocks hAe hP hS (rfl) dX1_draft_114
        · refine lv_iload hx hb dX1_draft_54 (lv_at hl 7 rfl) ?_
          refine lv_iconst (v := nI 0) hx hb dX1_draft_56 (by decide) ?_
          refine lv_sipush (v := nI 1000) hx hb dX1_draft_57 (by decide) ?_
          refine q_callI (r := bI (isin w (nI 0) (nI 1000))) (va_runS (As := [.int w, .int (nI 0), .int (nI 1000)]) (rest := []) ⟨hx, hb, hml, hown, hts⟩ (kX1_isIn l w (nI 0) (nI 1000)) (cwS 3 hts gX1_draft_X1_isIn rfl rfl rfl (by decide +kernel) ⟨Nat.le_of_ble_eq_true rfl, Nat.le_of_ble_eq_true rfl⟩) ⟨sP_blind, sP_pre⟩ rfl rfl hl.1 rfl (lv_room (Nat.le_of_ble_eq_true rfl)) dX1_draft_60 ⟨Nat.zero_le _, Nat.zero_le _⟩) ?_
          refine q_ifB_eq (b := isin w (nI 0) (nI 1000)) (tgt := 70) hx hb dX1_draft_63 (by decide) (fun k63 => ?_) (fun k63 => ?_)
          · refine lv_iconst (v := nI 0) hx hb dX1_draft_70 (by decide) ?_
            refine q_top (y := bI false) ((by decide : nI 0 = bI false)) ?_
            refine lv_istore (lv' := [(8, .int (bI false)), (7, .int (bI false)), (0, .ref h), (1, .int (nI j)), (2, .int (nI a2)), (3, .int (nI x2)), (4, .int y), (5, .int v), (6, .int w)]) hx hb dX1_draft_71 hl (by decide) rfl (fun ls hl => ?_)
            refine lv_aload_n hx hb dX1_draft_73 rfl (lv_at hl 2 rfl) ?_
            refine lv_iload hx hb dX1_draft_74 (lv_at hl 1 rfl) ?_
            refine q_ifB_ne (b := false) (tgt := 83) hx hb dX1_draft_76 (by decide) (fun k76 => absurd k76 (by decide)) (fun k76 => ?_)
            refine lv_iconst (v := nI 1) hx hb dX1_draft_79 (by decide) ?_
            refine lv_goto (tgt := 107) hx hb dX1_draft_80 (by decide) ?_
            refine q_wcallI (r := bI (decide (0 < 1))) (w' := (mW h ad cI cJ cZ td gc ex pa di qu dc dg da dh dt dv dd ds ak se pr 1)) (va_runV (As := [.int (nI 1)]) (rest := []) ⟨hx, hb, hml, hown, hts⟩ (kX1_fails l D h ad cI cJ cZ td gc ex pa di qu dc dg da dh dt dv dd ds ak se pr th _ 1 (by decide)) (cwV 1 hts gX1_draft_X1_fails rfl rfl rfl (by decide +kernel) ⟨Nat.le_of_ble_eq_true rfl, Nat.le_of_ble_eq_true rfl⟩) ⟨wP_blind, va_recv hK hP (ci := 1) (q0 := 0) rfl rfl, wP_pre hP hK hD⟩ rfl rfl hl.1 rfl (lv_room (Nat.le_of_ble_eq_true rfl)) dX1_draft_107 ⟨Nat.zero_le _, Nat.zero_le _⟩) hD hS hA rfl (fun H locs hP hD hS => ?_)
            refine q_ifB_eq (b := decide (0 < 1)) (tgt := 115) hx hb dX1_draft_110 (by decide) (fun k110 => absurd k110 (by decide)) (fun k110 => ?_)
            refine lv_iconst (v := nI 0) hx hb dX1_draft_113 (by decide) ?_
            exact q_wretI hx hb hr hlocks hAe hP hS (rfl) dX1_draft_114
          · refine lv_iconst (v := nI 1) hx hb dX1_draft_66 (by decide) ?_
            refine lv_goto (tgt := 71) hx hb dX1_draft_67 (by decide) ?_
            refine q_top (y := bI true) ((by decide : nI 1 = bI true)) ?_
            refine lv_istore (lv' := [(8, .int (bI true)), (7, .int (bI false)), (0, .ref h), (1, .int (nI j)), (2, .int (nI a2)), (3, .int (nI x2)), (4, .int y), (5, .int v), (6, .int w)]) hx hb dX1_draft_71 hl (by decide) rfl (fun ls hl => ?_)
            refine lv_aload_n hx hb dX1_draft_73 rfl (lv_at hl 2 rfl) ?_
            refine lv_iload hx hb dX1_draft_74 (lv_at hl 1 rfl) ?_
            refine q_ifB_ne (b := false) (tgt := 83) hx hb dX1_draft_76 (by decide) (fun k76 => absurd k76 (by decide)) (fun k76 => ?_)
            refine lv_iconst (v := nI 1) hx hb dX1_draft_79 (by decide) ?_
            refine lv_goto (tgt := 107) hx hb dX1_draft_80 (by decide) ?_
            refine q_wcallI (r := bI (decide (0 < 1))) (w' := (mW h ad cI cJ cZ td gc ex pa di qu dc dg da dh dt dv dd ds ak se pr 1)) (va_runV (As := [.int (nI 1)]) (rest := []) ⟨hx, hb, hml, hown, hts⟩ (kX1_fails l D h ad cI cJ cZ td gc ex pa di qu dc dg da dh dt dv dd ds ak se pr th _ 1 (by decide)) (cwV 1 hts gX1_draft_X1_fails rfl rfl rfl (by decide +kernel) ⟨Nat.le_of_ble_eq_true rfl, Nat.le_of_ble_eq_true rfl⟩) ⟨wP_blind, va_recv hK hP (ci := 1) (q0 := 0) rfl rfl, wP_pre hP hK hD⟩ rfl rfl hl.1 rfl (lv_room (Nat.le_of_ble_eq_true rfl)) dX1_draft_107 ⟨Nat.zero_le _, Nat.zero_le _⟩) hD hS hA rfl (fun H locs hP hD hS => ?_)
            refine q_ifB_eq (b := decide (0 < 1)) (tgt := 115) hx hb dX1_draft_110 (by decide) (fun k110 => absurd k110 (by decide)) (fun k110 => ?_)
            refine lv_iconst (v := nI 0) hx hb dX1_draft_113 (by decide) ?_
            exact q_wretI hx hb hr hlocks hAe hP hS (rfl) dX1_draft_114

set_option maxHeartbeats 4000000 in
set_option maxRecDepth 100000 in
theorem kX1_approve (l : Launch) (D : va_G) (h : Nat) (ad : Nat → Nat) (cI cJ cZ : ClassId) (td : Nat) (gc : Nat) (ex : Nat → Bool) (pa : Nat → Option Nat) (di : Nat → Nat) (qu : Nat → Nat) (dc : Nat) (dg : Nat → Nat) (da : Nat → Nat) (dh : Nat → Option Nat) (dt : Nat → Option Nat) (dv : Nat → Option Nat) (dd : Nat → Nat) (ds : Nat → Nat) (ak : Nat → Bool) (se : Nat → Option Nat) (pr : Nat → Option Nat) (th : Nat) (sz : Nat) (d : Nat) (hd : d < dc) (hrd : RD dc dg da dh dt dd ds td) (he : ex (dg d) = true) (hz : ds d = 0) : Met l yX1_approve wsX1_approve ({ frames := 2, cells := 0, slots := 0, locals := 48 } : Room) (wP D (mW h ad cI cJ cZ td gc ex pa di qu dc dg da dh dt dv dd ds ak se pr th) (mT cI cJ cZ) [.ref h, .int (nI d)] sz) (wQ D (mW h ad cI cJ cZ td gc ex pa di qu dc dg da dh dt dv dd ds ak se pr th) (mW h ad cI cJ cZ td gc ex pa di qu dc dg da dh dt dv dd (va_up ds d 1) ak se pr 0) (some (.int (bI (decide (bst (rdf dg da dh dt (va_up ds d 1) dd td (dg d) (da d) (dh d) (dt d)) dd dc = some d)))))) 0 0 (va_A (mW h ad cI cJ cZ td gc ex pa di qu dc dg da dh dt dv dd ds ak se pr th) sz) := by
  refine Met.ofW (cc := cX1_approve) (maxL := 3) (ret := (some .boolean)) (by decide) rfl ?_
  intro p e s m args below meth c s₁ B hml hv
  obtain ⟨rfl, hsz, hP, hK, hD0⟩ := hv
  have hx := B.exec
  have hb := B.bytes
  have hr := B.returns
  have hts := atoms_spec (ws := wsX1_approve) B.pre
  have hown : s.vm.findClass RX1 = some m.cls := findClass_of_methodNamed B.named
  have hlocks := B.notSynchronized
  subst hsz
  have hD := hD0.self (sz := s.heap.size)
  generalize hAe : va_A (mW h ad cI cJ cZ td gc ex pa di qu dc dg da dh dt dv dd ds ak se pr th) s.heap.size = A at hD ⊢
  have hA : ∀ q : Nat, s.heap.size ≤ q → A q := fun q h => by rw [← hAe]; exact Or.inr h
  have hS : va_S A s.heap s.heap [] := va_S.rf
  have hl := lv_entry ([.ref h, .int (nI d)]) (n := 3) (Nat.le_of_ble_eq_true rfl)
  rw [lg_entry_eq]
  generalize (lg_sl ([.ref h, .int (nI d)]) ++ List.replicate (3 - (lg_sl ([.ref h, .int (nI d)])).length) Slot.unset).toArray = ls at hl ⊢
  have hl : lv_has ls 3 [(0, .ref h), (1, .int (nI d))] := hl
  have hdc := hrd.1
  refine lv_aload_n hx hb dX1_approve_0 rfl (lv_at hl 0 rfl) ?_
  refine lv_iload_n hx hb dX1_approve_1 rfl (lv_at hl 1 rfl) ?_
  refine q_callI (r := bI (ex (dg d))) (va_runV (As := [.int (nI d)]) (rest := []) ⟨hx, hb, hml, hown, hts⟩ (kX1_isDraftN l D h ad cI cJ cZ td gc ex pa di qu dc dg da dh dt dv dd ds ak se pr th d hd hrd.1 (hrd.2.2.1 _ hd)) (cwV 1 hts gX1_approve_X1_isDraft rfl rfl rfl (by decide +kernel) ⟨Nat.le_of_ble_eq_true rfl, Nat.le_of_ble_eq_true rfl⟩) ⟨pP_blind, va_recv hK hP (ci := 1) (q0 := 0) rfl rfl, pP_pre hP hK⟩ rfl rfl hl.1 rfl (lv_room (Nat.le_of_ble_eq_true rfl)) dX1_approve_2 ⟨Nat.zero_le _, Nat.zero_le _⟩) ?_
  refine q_top (y := bI true) (by rw [he]) ?_
  refine lv_istore_n (lv' := [(2, .int (bI true)), (0, .ref h), (1, .int (nI d))]) hx hb dX1_approve_5 rfl hl (by decide) rfl (fun ls hl => ?_)
  refine lv_aload_n hx hb dX1_approve_6 rfl (lv_at hl 1 rfl) ?_
  refine lv_iload_n hx hb dX1_approve_7 rfl (lv_at hl 0 rfl) ?_
  refine q_ifB_ne (b := true) (tgt := 15) hx hb dX1_approve_8 (by decide) (fun k8 => ?_) (fun k8 => absurd k8 (by decide))
  refine lv_aload_n hx hb dX1_approve_15 rfl (lv_at hl 1 rfl) ?_
  refine va_get (D := D) (ci := 1) (v := .ref (ad 13)) (C := RX1) (T := TX1) (N := 18) hx hb hts (iX1_approve) hown hK hP 0 rfl rfl 13 (by decide) (hts (.fieldLink RX1 41 "ShopHubModel" "state" "[I") (by decide +kernel)) (fun _ h9 => h9) rfl dX1_approve_16 ?_
  refine lv_iload_n hx hb dX1_approve_19 rfl (lv_at hl 2 rfl) ?_
  refine q_ald nI ds hx hb hK hP 11 1 rfl rfl (k := d) (by omega) (Nat.le_of_ble_eq_true rfl) dX1_approve_20 ?_
  refine q_ifN_ne (a := ds d) (tgt := 28) (by omega) hx hb dX1_approve_21 (by decide) (fun k21 => absurd hz k21) (fun k21 => ?_)
  refine lv_iconst (v := nI 0) hx hb dX1_approve_24 (by decide) ?_
  refine lv_goto (tgt := 29) hx hb dX1_approve_25 (by decide) ?_
  refine q_wcallI (r := bI (decide (0 < 0))) (w' := (mW h ad cI cJ cZ td gc ex pa di qu dc dg da dh dt dv dd ds ak se pr 0)) (va_runV (As := [.int (nI 0)]) (rest := []) ⟨hx, hb, hml, hown, hts⟩ (kX1_fails l D h ad cI cJ cZ td gc ex pa di qu dc dg da dh dt dv dd ds ak se pr th _ 0 (by decide)) (cwV 1 hts gX1_approve_X1_fails rfl rfl rfl (by decide +kernel) ⟨Nat.le_of_ble_eq_true rfl, Nat.le_of_ble_eq_true rfl⟩) ⟨wP_blind, va_recv hK hP (ci := 1) (q0 := 0) rfl rfl, wP_pre hP hK hD⟩ rfl rfl hl.1 rfl (lv_room (Nat.le_of_ble_eq_true rfl)) dX1_approve_29 ⟨Nat.zero_le _, Nat.zero_le _⟩) hD hS hA rfl (fun H locs hP hD hS => ?_)
  refine q_ifB_eq (b := decide (0 < 0)) (tgt := 37) hx hb dX1_approve_32 (by decide) (fun k32 => ?_) (fun k32 => absurd k32 (by decide))
  refine lv_aload_n hx hb dX1_approve_37 rfl (lv_at hl 1 rfl) ?_
  refine va_get (D := D) (ci := 1) (v := .ref (ad 13)) (C := RX1) (T := TX1) (N := 18) hx hb hts (iX1_approve) hown hK hP 0 rfl rfl 13 (by decide) (hts (.fieldLink RX1 41 "ShopHubModel" "state" "[I") (by decide +kernel)) (fun _ h9 => h9) rfl dX1_approve_38 ?_
  refine lv_iload_n hx hb dX1_approve_41 rfl (lv_at hl 2 rfl) ?_
  refine lv_iconst (v := nI 1) hx hb dX1_approve_42 (by decide) ?_
  refine q_ast nI ds 1 hx hb hK hP hD hS 11 1 rfl rfl (k := d) (by omega) (Nat.le_of_ble_eq_true rfl) dX1_approve_43 (fun H locs hP hD hS => ?_)
  have hP : va_P D vwCl (mW h ad cI cJ cZ td gc ex pa di qu dc dg da dh dt dv dd (va_up ds d 1) ak se pr 0) H := hP
  have hD : va_D A (mW h ad cI cJ cZ td gc ex pa di qu dc dg da dh dt dv dd (va_up ds d 1) ak se pr 0) := hD
  refine lv_aload_n hx hb dX1_approve_44 rfl (lv_at hl 1 rfl) ?_
  refine lv_iload_n hx hb dX1_approve_45 rfl (lv_at hl 2 rfl) ?_
  refine q_callI (r := bI (decide (bst (rdf dg da dh dt (va_up ds d 1) dd td (dg d) (da d) (dh d) (dt d)) dd dc = some d))) (va_runV (As := [.int (nI d)]) (rest := []) ⟨hx, hb, hml, hown, hts⟩ (kX1_isHolding l D h ad cI cJ cZ td gc ex pa di qu dc dg da dh dt dv dd (va_up ds d 1) ak se pr 0 d hd (RD_up hrd (by decide))) (cwV 1 hts gX1_approve_X1_isHolding rfl rfl rfl (by decide +kernel) ⟨Nat.le_of_ble_eq_true rfl, Nat.le_of_ble_eq_true rfl⟩) ⟨pP_blind, va_recv hK hP (ci := 1) (q0 := 0) rfl rfl, pP_pre hP hK⟩ rfl rfl hl.1 rfl (lv_room (Nat.le_of_ble_eq_true rfl)) dX1_approve_46 ⟨Nat.zero_le _, Nat.zero_le _⟩) ?_
  exact q_wretZ hx hb hr hlocks hAe hP hS (rfl) dX1_approve_49

set_option maxHeartbeats 4000000 in
set_option maxRecDepth 100000 in
theorem kX1_approve2 (l : Launch) (D : va_G) (h : Nat) (ad : Nat → Nat) (cI cJ cZ : ClassId) (td : Nat) (gc : Nat) (ex : Nat → Bool) (pa : Nat → Option Nat) (di : Nat → Nat) (qu : Nat → Nat) (dc : Nat) (dg : Nat → Nat) (da : Nat → Nat) (dh : Nat → Option Nat) (dt : Nat → Option Nat) (dv : Nat → Option Nat) (dd : Nat → Nat) (ds : Nat → Nat) (ak : Nat → Bool) (se : Nat → Option Nat) (pr : Nat → Option Nat) (th : Nat) (sz : Nat) (d : Nat) (hd : d < dc) (hrd : RD dc dg da dh dt dd ds td) (he : ex (dg d) = true) (hz : ds d ≠ 0) : Met l yX1_approve wsX1_approve ({ frames := 2, cells := 0, slots := 0, locals := 43 } : Room) (wP D (mW h ad cI cJ cZ td gc ex pa di qu dc dg da dh dt dv dd ds ak se pr th) (mT cI cJ cZ) [.ref h, .int (nI d)] sz) (wQ D (mW h ad cI cJ cZ td gc ex pa di qu dc dg da dh dt dv dd ds ak se pr th) (mW h ad cI cJ cZ td gc ex pa di qu dc dg da dh dt dv dd ds ak se pr 2) (some (.int (bI false)))) 0 0 (va_A (mW h ad cI cJ cZ td gc ex pa di qu dc dg da dh dt dv dd ds ak se pr th) sz) := by
  refine Met.ofW (cc := cX1_approve) (maxL := 3) (ret := (some .boolean)) (by decide) rfl ?_
  intro p e s m args below meth c s₁ B hml hv
  obtain ⟨rfl, hsz, hP, hK, hD0⟩ := hv
  have hx := B.exec
  have hb := B.bytes
  have hr := B.returns
  have hts := atoms_spec (ws := wsX1_approve) B.pre
  have hown : s.vm.findClass RX1 = some m.cls := findClass_of_methodNamed B.named
  have hlocks := B.notSynchronized
  subst hsz
  have hD := hD0.self (sz := s.heap.size)
  generalize hAe : va_A (mW h ad cI cJ cZ td gc ex pa di qu dc dg da dh dt dv dd ds ak se pr th) s.heap.size = A at hD ⊢
  have hA : ∀ q : Nat, s.heap.size ≤ q → A q := fun q h => by rw [← hAe]; exact Or.inr h
  have hS : va_S A s.heap s.heap [] := va_S.rf
  have hl := lv_entry ([.ref h, .int (nI d)]) (n := 3) (Nat.le_of_ble_eq_true rfl)
  rw [lg_entry_eq]
  generalize (lg_sl ([.ref h, .int (nI d)]) ++ List.replicate (3 - (lg_sl ([.ref h, .int (nI d)])).length) Slot.unset).toArray = ls at hl ⊢
  have hl : lv_has ls 3 [(0, .ref h), (1, .int (nI d))] := hl
  have hdc := hrd.1
  have hd2 := hrd.2.2.2.2.2.2.2 d hd
  refine lv_aload_n hx hb dX1_approve_0 rfl (lv_at hl 0 rfl) ?_
  refine lv_iload_n hx hb dX1_approve_1 rfl (lv_at hl 1 rfl) ?_
  refine q_callI (r := bI (ex (dg d))) (va_runV (As := [.int (nI d)]) (rest := []) ⟨hx, hb, hml, hown, hts⟩ (kX1_isDraftN l D h ad cI cJ cZ td gc ex pa di qu dc dg da dh dt dv dd ds ak se pr th d hd hrd.1 (hrd.2.2.1 _ hd)) (cwV 1 hts gX1_approve_X1_isDraft rfl rfl rfl (by decide +kernel) ⟨Nat.le_of_ble_eq_true rfl, Nat.le_of_ble_eq_true rfl⟩) ⟨pP_blind, va_recv hK hP (ci := 1) (q0 := 0) rfl rfl, pP_pre hP hK⟩ rfl rfl hl.1 rfl (lv_room (Nat.le_of_ble_eq_true rfl)) dX1_approve_2 ⟨Nat.zero_le _, Nat.zero_le _⟩) ?_
  refine q_top (y := bI true) (by rw [he]) ?_
  refine lv_istore_n (lv' := [(2, .int (bI true)), (0, .ref h), (1, .int (nI d))]) hx hb dX1_approve_5 rfl hl (by decide) rfl (fun ls hl => ?_)
  refine lv_aload_n hx hb dX1_approve_6 rfl (lv_at hl 1 rfl) ?_
  refine lv_iload_n hx hb dX1_approve_7 rfl (lv_at hl 0 rfl) ?_
  refine q_ifB_ne (b := true) (tgt := 15) hx hb dX1_approve_8 (by decide) (fun k8 => ?_) (fun k8 => absurd k8 (by decide))
  refine lv_aload_n hx hb dX1_approve_15 rfl (lv_at hl 1 rfl) ?_
  refine va_get (D := D) (ci := 1) (v := .ref (ad 13)) (C := RX1) (T := TX1) (N := 18) hx hb hts (iX1_approve) hown hK hP 0 rfl rfl 13 (by decide) (hts (.fieldLink RX1 41 "ShopHubModel" "state" "[I") (by decide +kernel)) (fun _ h9 => h9) rfl dX1_approve_16 ?_
  refine lv_iload_n hx hb dX1_approve_19 rfl (lv_at hl 2 rfl) ?_
  refine q_ald nI ds hx hb hK hP 11 1 rfl rfl (k := d) (by omega) (Nat.le_of_ble_eq_true rfl) dX1_approve_20 ?_
  refine q_ifN_ne (a := ds d) (tgt := 28) (by omega) hx hb dX1_approve_21 (by decide) (fun k21 => ?_) (fun k21 => absurd k21 hz)
  refine lv_iconst (v := nI 2) hx hb dX1_approve_28 (by decide) ?_
  refine q_wcallI (r := bI (decide (0 < 2))) (w' := (mW h ad cI cJ cZ td gc ex pa di qu dc dg da dh dt dv dd ds ak se pr 2)) (va_runV (As := [.int (nI 2)]) (rest := []) ⟨hx, hb, hml, hown, hts⟩ (kX1_fails l D h ad cI cJ cZ td gc ex pa di qu dc dg da dh dt dv dd ds ak se pr th _ 2 (by decide)) (cwV 1 hts gX1_approve_X1_fails rfl rfl rfl (by decide +kernel) ⟨Nat.le_of_ble_eq_true rfl, Nat.le_of_ble_eq_true rfl⟩) ⟨wP_blind, va_recv hK hP (ci := 1) (q0 := 0) rfl rfl, wP_pre hP hK hD⟩ rfl rfl hl.1 rfl (lv_room (Nat.le_of_ble_eq_true rfl)) dX1_approve_29 ⟨Nat.zero_le _, Nat.zero_le _⟩) hD hS hA rfl (fun H locs hP hD hS => ?_)
  refine q_ifB_eq (b := decide (0 < 2)) (tgt := 37) hx hb dX1_approve_32 (by decide) (fun k32 => absurd k32 (by decide)) (fun k32 => ?_)
  refine lv_iconst (v := nI 0) hx hb dX1_approve_35 (by decide) ?_
  exact q_wretZ hx hb hr hlocks hAe hP hS (by decide) dX1_approve_36

set_option maxHeartbeats 4000000 in
set_option maxRecDepth 100000 in
theorem kX1_reject (l : Launch) (D : va_G) (h : Nat) (ad : Nat → Nat) (cI cJ cZ : ClassId) (td : Nat) (gc : Nat) (ex : Nat → Bool) (pa : Nat → Option Nat) (di : Nat → Nat) (qu : Nat → Nat) (dc : Nat) (dg : Nat → Nat) (da : Nat → Nat) (dh : Nat → Option Nat) (dt : Nat → Option Nat) (dv : Nat → Option Nat) (dd : Nat → Nat) (ds : Nat → Nat) (ak : Nat → Bool) (se : Nat → Option Nat) (pr : Nat → Option Nat) (th : Nat) (sz : Nat) (d : Nat) (hd : d < dc) (hrd : RD dc dg da dh dt dd ds td) (he : ex (dg d) = true) (hz : ds d ≠ 2) : Met l yX1_reject wsX1_reject ({ frames := 2, cells := 0, slots := 0, locals := 48 } : Room) (wP D (mW h ad cI cJ cZ td gc ex pa di qu dc dg da dh dt dv dd ds ak se pr th) (mT cI cJ cZ) [.ref h, .int (nI d)] sz) (wQ D (mW h ad cI cJ cZ td gc ex pa di qu dc dg da dh dt dv dd ds ak se pr th) (mW h ad cI cJ cZ td gc ex pa di qu dc dg da dh dt dv dd (va_up ds d 2) ak se pr 0) (some (.int (bI (decide (bst (rdf dg da dh dt ds dd td (dg d) (da d) (dh d) (dt d)) dd dc = some d)))))) 0 0 (va_A (mW h ad cI cJ cZ td gc ex pa di qu dc dg da dh dt dv dd ds ak se pr th) sz) := by
  refine Met.ofW (cc := cX1_reject) (maxL := 4) (ret := (some .boolean)) (by decide) rfl ?_
  intro p e s m args below meth c s₁ B hml hv
  obtain ⟨rfl, hsz, hP, hK, hD0⟩ := hv
  have hx := B.exec
  have hb := B.bytes
  have hr := B.returns
  have hts := atoms_spec (ws := wsX1_reject) B.pre
  have hown : s.vm.findClass RX1 = some m.cls := findClass_of_methodNamed B.named
  have hlocks := B.notSynchronized
  subst hsz
  have hD := hD0.self (sz := s.heap.size)
  generalize hAe : va_A (mW h ad cI cJ cZ td gc ex pa di qu dc dg da dh dt dv dd ds ak se pr th) s.heap.size = A at hD ⊢
  have hA : ∀ q : Nat, s.heap.size ≤ q → A q := fun q h => by rw [← hAe]; exact Or.inr h
  have hS : va_S A s.heap s.heap [] := va_S.rf
  have hl := lv_entry ([.ref h, .int (nI d)]) (n := 4) (Nat.le_of_ble_eq_true rfl)
  rw [lg_entry_eq]
  generalize (lg_sl ([.ref h, .int (nI d)]) ++ List.replicate (4 - (lg_sl ([.ref h, .int (nI d)])).length) Slot.unset).toArray = ls at hl ⊢
  have hl : lv_has ls 4 [(0, .ref h), (1, .int (nI d))] := hl
  have hdc := hrd.1
  have hd2 := hrd.2.2.2.2.2.2.2 d hd
  refine lv_aload_n hx hb dX1_reject_0 rfl (lv_at hl 0 rfl) ?_
  refine lv_iload_n hx hb dX1_reject_1 rfl (lv_at hl 1 rfl) ?_
  refine q_callI (r := bI (ex (dg d))) (va_runV (As := [.int (nI d)]) (rest := []) ⟨hx, hb, hml, hown, hts⟩ (kX1_isDraftN l D h ad cI cJ cZ td gc ex pa di qu dc dg da dh dt dv dd ds ak se pr th d hd hrd.1 (hrd.2.2.1 _ hd)) (cwV 1 hts gX1_reject_X1_isDraft rfl rfl rfl (by decide +kernel) ⟨Nat.le_of_ble_eq_true rfl, Nat.le_of_ble_eq_true rfl⟩) ⟨pP_blind, va_recv hK hP (ci := 1) (q0 := 0) rfl rfl, pP_pre hP hK⟩ rfl rfl hl.1 rfl (lv_room (Nat.le_of_ble_eq_true rfl)) dX1_reject_2 ⟨Nat.zero_le _, Nat.zero_le _⟩) ?_
  refine q_top (y := bI true) (by rw [he]) ?_
  refine lv_istore_n (lv' := [(2, .int (bI true)), (0, .ref h), (1, .int (nI d))]) hx hb dX1_reject_5 rfl hl (by decide) rfl (fun ls hl => ?_)
  refine lv_aload_n hx hb dX1_reject_6 rfl (lv_at hl 1 rfl) ?_
  refine lv_iload_n hx hb dX1_reject_7 rfl (lv_at hl 0 rfl) ?_
  refine q_ifB_ne (b := true) (tgt := 15) hx hb dX1_reject_8 (by decide) (fun k8 => ?_) (fun k8 => absurd k8 (by decide))
  refine lv_aload_n hx hb dX1_reject_15 rfl (lv_at hl 1 rfl) ?_
  refine va_get (D := D) (ci := 1) (v := .ref (ad 13)) (C := RX1) (T := TX1) (N := 18) hx hb hts (iX1_reject) hown hK hP 0 rfl rfl 13 (by decide) (hts (.fieldLink RX1 41 "ShopHubModel" "state" "[I") (by decide +kernel)) (fun _ h9 => h9) rfl dX1_reject_16 ?_
  refine lv_iload_n hx hb dX1_reject_19 rfl (lv_at hl 2 rfl) ?_
  refine q_ald nI ds hx hb hK hP 11 1 rfl rfl (k := d) (by omega) (Nat.le_of_ble_eq_true rfl) dX1_reject_20 ?_
  refine lv_iconst (v := nI 2) hx hb dX1_reject_21 (by decide) ?_
  refine q_icmpN_ne (a := ds d) (b := 2) (tgt := 29) (by omega) (by omega) hx hb dX1_reject_22 (by decide) (fun k22 => ?_) (fun k22 => absurd k22 hz)
  refine lv_iconst (v := nI 0) hx hb dX1_reject_29 (by decide) ?_
  refine q_wcallI (r := bI (decide (0 < 0))) (w' := (mW h ad cI cJ cZ td gc ex pa di qu dc dg da dh dt dv dd ds ak se pr 0)) (va_runV (As := [.int (nI 0)]) (rest := []) ⟨hx, hb, hml, hown, hts⟩ (kX1_fails l D h ad cI cJ cZ td gc ex pa di qu dc dg da dh dt dv dd ds ak se pr th _ 0 (by decide)) (cwV 1 hts gX1_reject_X1_fails rfl rfl rfl (by decide +kernel) ⟨Nat.le_of_ble_eq_true rfl, Nat.le_of_ble_eq_true rfl⟩) ⟨wP_blind, va_recv hK hP (ci := 1) (q0 := 0) rfl rfl, wP_pre hP hK hD⟩ rfl rfl hl.1 rfl (lv_room (Nat.le_of_ble_eq_true rfl)) dX1_reject_30 ⟨Nat.zero_le _, Nat.zero_le _⟩) hD hS hA rfl (fun H locs hP hD hS => ?_)
  refine q_ifB_eq (b := decide (0 < 0)) (tgt := 38) hx hb dX1_reject_33 (by decide) (fun k33 => ?_) (fun k33 => absurd k33 (by decide))
  refine lv_aload_n hx hb dX1_reject_38 rfl (lv_at hl 1 rfl) ?_
  refine lv_iload_n hx hb dX1_reject_39 rfl (lv_at hl 2 rfl) ?_
  refine q_callI (r := bI (decide (bst (rdf dg da dh dt ds dd td (dg d) (da d) (dh d) (dt d)) dd dc = some d))) (va_runV (As := [.int (nI d)]) (rest := []) ⟨hx, hb, hml, hown, hts⟩ (kX1_isHolding l D h ad cI cJ cZ td gc ex pa di qu dc dg da dh dt dv dd ds ak se pr 0 d hd hrd) (cwV 1 hts gX1_reject_X1_isHolding rfl rfl rfl (by decide +kernel) ⟨Nat.le_of_ble_eq_true rfl, Nat.le_of_ble_eq_true rfl⟩) ⟨pP_blind, va_recv hK hP (ci := 1) (q0 := 0) rfl rfl, pP_pre hP hK⟩ rfl rfl hl.1 rfl (lv_room (Nat.le_of_ble_eq_true rfl)) dX1_reject_40 ⟨Nat.zero_le _, Nat.zero_le _⟩) ?_
  refine lv_istore_n (lv' := [(3, .int (bI (decide (bst (rdf dg da dh dt ds dd td (dg d) (da d) (dh d) (dt d)) dd dc = some d)))), (2, .int (bI true)), (0, .ref h), (1, .int (nI d))]) hx hb dX1_reject_43 rfl hl (by decide) rfl (fun ls hl => ?_)
  refine lv_aload_n hx hb dX1_reject_44 rfl (lv_at hl 2 rfl) ?_
  refine va_get (D := D) (ci := 1) (v := .ref (ad 13)) (C := RX1) (T := TX1) (N := 18) hx hb hts (iX1_reject) hown hK hP 0 rfl rfl 13 (by decide) (hts (.fieldLink RX1 41 "ShopHubModel" "state" "[I") (by decide +kernel)) (fun _ h9 => h9) rfl dX1_reject_45 ?_
  refine lv_iload_n hx hb dX1_reject_48 rfl (lv_at hl 3 rfl) ?_
  refine lv_iconst (v := nI 2) hx hb dX1_reject_49 (by decide) ?_
  refine q_ast nI ds 2 hx hb hK hP hD hS 11 1 rfl rfl (k := d) (by omega) (Nat.le_of_ble_eq_true rfl) dX1_reject_50 (fun H locs hP hD hS => ?_)
  have hP : va_P D vwCl (mW h ad cI cJ cZ td gc ex pa di qu dc dg da dh dt dv dd (va_up ds d 2) ak se pr 0) H := hP
  have hD : va_D A (mW h ad cI cJ cZ td gc ex pa di qu dc dg da dh dt dv dd (va_up ds d 2) ak se pr 0) := hD
  refine lv_iload_n hx hb dX1_reject_51 rfl (lv_at hl 0 rfl) ?_
  exact q_wretZ hx hb hr hlocks hAe hP hS (rfl) dX1_reject_52

set_option maxHeartbeats 4000000 in
set_option maxRecDepth 100000 in
theorem kX1_reject2 (l : Launch) (D : va_G) (h : Nat) (ad : Nat → Nat) (cI cJ cZ : ClassId) (td : Nat) (gc : Nat) (ex : Nat → Bool) (pa : Nat → Option Nat) (di : Nat → Nat) (qu : Nat → Nat) (dc : Nat) (dg : Nat → Nat) (da : Nat → Nat) (dh : Nat → Option Nat) (dt : Nat → Option Nat) (dv : Nat → Option Nat) (dd : Nat → Nat) (ds : Nat → Nat) (ak : Nat → Bool) (se : Nat → Option Nat) (pr : Nat → Option Nat) (th : Nat) (sz : Nat) (d : Nat) (hd : d < dc) (hrd : RD dc dg da dh dt dd ds td) (he : ex (dg d) = true) (hz : ds d = 2) : Met l yX1_reject wsX1_reject ({ frames := 2, cells := 0, slots := 0, locals := 43 } : Room) (wP D (mW h ad cI cJ cZ td gc ex pa di qu dc dg da dh dt dv dd ds ak se pr th) (mT cI cJ cZ) [.ref h, .int (nI d)] sz) (wQ D (mW h ad cI cJ cZ td gc ex pa di qu dc dg da dh dt dv dd ds ak se pr th) (mW h ad cI cJ cZ td gc ex pa di qu dc dg da dh dt dv dd ds ak se pr 2) (some (.int (bI false)))) 0 0 (va_A (mW h ad cI cJ cZ td gc ex pa di qu dc dg da dh dt dv dd ds ak se pr th) sz) := by
  refine Met.ofW (cc := cX1_reject) (maxL := 4) (ret := (some .boolean)) (by decide) rfl ?_
  intro p e s m args below meth c s₁ B hml hv
  obtain ⟨rfl, hsz, hP, hK, hD0⟩ := hv
  have hx := B.exec
  have hb := B.bytes
  have hr := B.returns
  have hts := atoms_spec (ws := wsX1_reject) B.pre
  have hown : s.vm.findClass RX1 = some m.cls := findClass_of_methodNamed B.named
  have hlocks := B.notSynchronized
  subst hsz
  have hD := hD0.self (sz := s.heap.size)
  generalize hAe : va_A (mW h ad cI cJ cZ td gc ex pa di qu dc dg da dh dt dv dd ds ak se pr th) s.heap.size = A at hD ⊢
  have hA : ∀ q : Nat, s.heap.size ≤ q → A q := fun q h => by rw [← hAe]; exact Or.inr h
  have hS : va_S A s.heap s.heap [] := va_S.rf
  have hl := lv_entry ([.ref h, .int (nI d)]) (n := 4) (Nat.le_of_ble_eq_true rfl)
  rw [lg_entry_eq]
  generalize (lg_sl ([.ref h, .int (nI d)]) ++ List.replicate (4 - (lg_sl ([.ref h, .int (nI d)])).length) Slot.unset).toArray = ls at hl ⊢
  have hl : lv_has ls 4 [(0, .ref h), (1, .int (nI d))] := hl
  have hdc := hrd.1
  refine lv_aload_n hx hb dX1_reject_0 rfl (lv_at hl 0 rfl) ?_
  refine lv_iload_n hx hb dX1_reject_1 rfl (lv_at hl 1 rfl) ?_
  refine q_callI (r := bI (ex (dg d))) (va_runV (As := [.int (nI d)]) (rest := []) ⟨hx, hb, hml, hown, hts⟩ (kX1_isDraftN l D h ad cI cJ cZ td gc ex pa di qu dc dg da dh dt dv dd ds ak se pr th d hd hrd.1 (hrd.2.2.1 _ hd)) (cwV 1 hts gX1_reject_X1_isDraft rfl rfl rfl (by decide +kernel) ⟨Nat.le_of_ble_eq_true rfl, Nat.le_of_ble_eq_true rfl⟩) ⟨pP_blind, va_recv hK hP (ci := 1) (q0 := 0) rfl rfl, pP_pre hP hK⟩ rfl rfl hl.1 rfl (lv_room (Nat.le_of_ble_eq_true rfl)) dX1_reject_2 ⟨Nat.zero_le _, Nat.zero_le _⟩) ?_
  refine q_top (y := bI true) (by rw [he]) ?_
  refine lv_istore_n (lv' := [(2, .int (bI true)), (0, .ref h), (1, .int (nI d))]) hx hb dX1_reject_5 rfl hl (by decide) rfl (fun ls hl => ?_)
  refine lv_aload_n hx hb dX1_reject_6 rfl (lv_at hl 1 rfl) ?_
  refine lv_iload_n hx hb dX1_reject_7 rfl (lv_at hl 0 rfl) ?_
  refine q_ifB_ne (b := true) (tgt := 15) hx hb dX1_reject_8 (by decide) (fun k8 => ?_) (fun k8 => absurd k8 (by decide))
  refine lv_aload_n hx hb dX1_reject_15 rfl (lv_at hl 1 rfl) ?_
  refine va_get (D := D) (ci := 1) (v := .ref (ad 13)) (C := RX1) (T := TX1) (N := 18) hx hb hts (iX1_reject) hown hK hP 0 rfl rfl 13 (by decide) (hts (.fieldLink RX1 41 "ShopHubModel" "state" "[I") (by decide +kernel)) (fun _ h9 => h9) rfl dX1_reject_16 ?_
  refine lv_iload_n hx hb dX1_reject_19 rfl (lv_at hl 2 rfl) ?_
  refine q_ald nI ds hx hb hK hP 11 1 rfl rfl (k := d) (by omega) (Nat.le_of_ble_eq_true rfl) dX1_reject_20 ?_
  refine lv_iconst (v := nI 2) hx hb dX1_reject_21 (by decide) ?_
  refine q_icmpN_ne (a := ds d) (b := 2) (tgt := 29) (by omega) (by omega) hx hb dX1_reject_22 (by decide) (fun k22 => absurd hz k22) (fun k22 => ?_)
  refine lv_iconst (v := nI 2) hx hb dX1_reject_25 (by decide) ?_
  refine lv_goto (tgt := 30) hx hb dX1_reject_26 (by decide) ?_
  refine q_wcallI (r := bI (decide (0 < 2))) (w' := (mW h ad cI cJ cZ td gc ex pa di qu dc dg da dh dt dv dd ds ak se pr 2)) (va_runV (As := [.int (nI 2)]) (rest := []) ⟨hx, hb, hml, hown, hts⟩ (kX1_fails l D h ad cI cJ cZ td gc ex pa di qu dc dg da dh dt dv dd ds ak se pr th _ 2 (by decide)) (cwV 1 hts gX1_reject_X1_fails rfl rfl rfl (by decide +kernel) ⟨Nat.le_of_ble_eq_true rfl, Nat.le_of_ble_eq_true rfl⟩) ⟨wP_blind, va_recv hK hP (ci := 1) (q0 := 0) rfl rfl, wP_pre hP hK hD⟩ rfl rfl hl.1 rfl (lv_room (Nat.le_of_ble_eq_true rfl)) dX1_reject_30 ⟨Nat.zero_le _, Nat.zero_le _⟩) hD hS hA rfl (fun H locs hP hD hS => ?_)
  refine q_ifB_eq (b := decide (0 < 2)) (tgt := 38) hx hb dX1_reject_33 (by decide) (fun k33 => absurd k33 (by decide)) (fun k33 => ?_)
  refine lv_iconst (v := nI 0) hx hb dX1_reject_36 (by decide) ?_
  exact q_wretZ hx hb hr hlocks hAe hP hS (by decide) dX1_reject_37

set_option maxHeartbeats 4000000 in
set_option maxRecDepth 100000 in
theorem kX1_approve1 (l : Launch) (D : va_G) (h : Nat) (ad : Nat → Nat) (cI cJ cZ : ClassId) (td : Nat) (gc : Nat) (ex : Nat → Bool) (pa : Nat → Option Nat) (di : Nat → Nat) (qu : Nat → Nat) (dc : Nat) (dg : Nat → Nat) (da : Nat → Nat) (dh : Nat → Option Nat) (dt : Nat → Option Nat) (dv : Nat → Option Nat) (dd : Nat → Nat) (ds : Nat → Nat) (ak : Nat → Bool) (se : Nat → Option Nat) (pr : Nat → Option Nat) (th : Nat) (sz : Nat) (d : Int32) (hrd : RD dc dg da dh dt dd ds td) (hd : dBadM dc ex dg d) : Met l yX1_approve wsX1_approve ({ frames := 2, cells := 0, slots := 0, locals := 43 } : Room) (wP D (mW h ad cI cJ cZ td gc ex pa di qu dc dg da dh dt dv dd ds ak se pr th) (mT cI cJ cZ) [.ref h, .int d] sz) (wQ D (mW h ad cI cJ cZ td gc ex pa di qu dc dg da dh dt dv dd ds ak se pr th) (mW h ad cI cJ cZ td gc ex pa di qu dc dg da dh dt dv dd ds ak se pr 1) (some (.int (bI false)))) 0 0 (va_A (mW h ad cI cJ cZ td gc ex pa di qu dc dg da dh dt dv dd ds ak se pr th) sz) := by
  refine Met.ofW (cc := cX1_approve) (maxL := 3) (ret := (some .boolean)) (by decide) rfl ?_
  intro p e s m args below meth c s₁ B hml hv
  obtain ⟨rfl, hsz, hP, hK, hD0⟩ := hv
  have hx := B.exec
  have hb := B.bytes
  have hr := B.returns
  have hts := atoms_spec (ws := wsX1_approve) B.pre
  have hown : s.vm.findClass RX1 = some m.cls := findClass_of_methodNamed B.named
  have hlocks := B.notSynchronized
  subst hsz
  have hD := hD0.self (sz := s.heap.size)
  generalize hAe : va_A (mW h ad cI cJ cZ td gc ex pa di qu dc dg da dh dt dv dd ds ak se pr th) s.heap.size = A at hD ⊢
  have hA : ∀ q : Nat, s.heap.size ≤ q → A q := fun q h => by rw [← hAe]; exact Or.inr h
  have hS : va_S A s.heap s.heap [] := va_S.rf
  have hl := lv_entry ([.ref h, .int d]) (n := 3) (Nat.le_of_ble_eq_true rfl)
  rw [lg_entry_eq]
  generalize (lg_sl ([.ref h, .int d]) ++ List.replicate (3 - (lg_sl ([.ref h, .int d])).length) Slot.unset).toArray = ls at hl ⊢
  have hl : lv_has ls 3 [(0, .ref h), (1, .int d)] := hl
  rcases hd with hd | ⟨j, hj, rfl, he⟩
  · refine lv_aload_n hx hb dX1_approve_0 rfl (lv_at hl 0 rfl) ?_
    refine lv_iload_n hx hb dX1_approve_1 rfl (lv_at hl 1 rfl) ?_
    refine q_callI (r := bI false) (va_runV (As := [.int d]) (rest := []) ⟨hx, hb, hml, hown, hts⟩ (kX1_isDraftR l D h ad cI cJ cZ td gc ex pa di qu dc dg da dh dt dv dd ds ak se pr th d hrd.1 hd) (cwV 1 hts gX1_approve_X1_isDraft rfl rfl rfl (by decide +kernel) ⟨Nat.le_of_ble_eq_true rfl, Nat.le_of_ble_eq_true rfl⟩) ⟨pP_blind, va_recv hK hP (ci := 1) (q0 := 0) rfl rfl, pP_pre hP hK⟩ rfl rfl hl.1 rfl (lv_room (Nat.le_of_ble_eq_true rfl)) dX1_approve_2 ⟨Nat.zero_le _, Nat.zero_le _⟩) ?_
    refine lv_istore_n (lv' := [(2, .int (bI false)), (0, .ref h), (1, .int d)]) hx hb dX1_approve_5 rfl hl (by decide) rfl (fun ls hl => ?_)
    refine lv_aload_n hx hb dX1_approve_6 rfl (lv_at hl 1 rfl) ?_
    refine lv_iload_n hx hb dX1_approve_7 rfl (lv_at hl 0 rfl) ?_
    refine q_ifB_ne (b := false) (tgt := 15) hx hb dX1_approve_8 (by decide) (fun k8 => absurd k8 (by decide)) (fun k8 => ?_)
    refine lv_iconst (v := nI 1) hx hb dX1_approve_11 (by decide) ?_
    refine lv_goto (tgt := 29) hx hb dX1_approve_12 (by decide) ?_
    refine q_wcallI (r := bI (decide (0 < 1))) (w' := (mW h ad cI cJ cZ td gc ex pa di qu dc dg da dh dt dv dd ds ak se pr 1)) (va_runV (As := [.int (nI 1)]) (rest := []) ⟨hx, hb, hml, hown, hts⟩ (kX1_fails l D h ad cI cJ cZ td gc ex pa di qu dc dg da dh dt dv dd ds ak se pr th _ 1 (by decide)) (cwV 1 hts gX1_approve_X1_fails rfl rfl rfl (by decide +kernel) ⟨Nat.le_of_ble_eq_true rfl, Nat.le_of_ble_eq_true rfl⟩) ⟨wP_blind, va_recv hK hP (ci := 1) (q0 := 0) rfl rfl, wP_pre hP hK hD⟩ rfl rfl hl.1 rfl (lv_room (Nat.le_of_ble_eq_true rfl)) dX1_approve_29 ⟨Nat.zero_le _, Nat.zero_le _⟩) hD hS hA rfl (fun H locs hP hD hS => ?_)
    refine q_ifB_eq (b := decide (0 < 1)) (tgt := 37) hx hb dX1_approve_32 (by decide) (fun k32 => absurd k32 (by decide)) (fun k32 => ?_)
    refine lv_iconst (v := nI 0) hx hb dX1_approve_35 (by decide) ?_
    exact q_wretZ hx hb hr hlocks hAe hP hS (by decide) dX1_approve_36
  · refine lv_aload_n hx hb dX1_approve_0 rfl (lv_at hl 0 rfl) ?_
    refine lv_iload_n hx hb dX1_approve_1 rfl (lv_at hl 1 rfl) ?_
    refine q_callI (r := bI (ex (dg j))) (va_runV (As := [.int (nI j)]) (rest := []) ⟨hx, hb, hml, hown, hts⟩ (kX1_isDraftN l D h ad cI cJ cZ td gc ex pa di qu dc dg da dh dt dv dd ds ak se pr th j hj hrd.1 (hrd.2.2.1 _ hj)) (cwV 1 hts gX1_approve_X1_isDraft rfl rfl rfl (by decide +kernel) ⟨Nat.le_of_ble_eq_true rfl, Nat.le_of_ble_eq_true rfl⟩) ⟨pP_blind, va_recv hK hP (ci := 1) (q0 := 0) rfl rfl, pP_pre hP hK⟩ rfl rfl hl.1 rfl (lv_room (Nat.le_of_ble_eq_true rfl)) dX1_approve_2 ⟨Nat.zero_le _, Nat.zero_le _⟩) ?_
    refine q_top (y := bI false) (by rw [he]) ?_
    refine lv_istore_n (lv' := [(2, .int (bI false)), (0, .ref h), (1, .int (nI j))]) hx hb dX1_approve_5 rfl hl (by decide) rfl (fun ls hl => ?_)
    refine lv_aload_n hx hb dX1_approve_6 rfl (lv_at hl 1 rfl) ?_
    refine lv_iload_n hx hb dX1_approve_7 rfl (lv_at hl 0 rfl) ?_
    refine q_ifB_ne (b := false) (tgt := 15) hx hb dX1_approve_8 (by decide) (fun k8 => absurd k8 (by decide)) (fun k8 => ?_)
    refine lv_iconst (v := nI 1) hx hb dX1_approve_11 (by decide) ?_
    refine lv_goto (tgt := 29) hx hb dX1_approve_12 (by decide) ?_
    refine q_wcallI (r := bI (decide (0 < 1))) (w' := (mW h ad cI cJ cZ td gc ex pa di qu dc dg da dh dt dv dd ds ak se pr 1)) (va_runV (As := [.int (nI 1)]) (rest := []) ⟨hx, hb, hml, hown, hts⟩ (kX1_fails l D h ad cI cJ cZ td gc ex pa di qu dc dg da dh dt dv dd ds ak se pr th _ 1 (by decide)) (cwV 1 hts gX1_approve_X1_fails rfl rfl rfl (by decide +kernel) ⟨Nat.le_of_ble_eq_true rfl, Nat.le_of_ble_eq_true rfl⟩) ⟨wP_blind, va_recv hK hP (ci := 1) (q0 := 0) rfl rfl, wP_pre hP hK hD⟩ rfl rfl hl.1 rfl (lv_room (Nat.le_of_ble_eq_true rfl)) dX1_approve_29 ⟨Nat.zero_le _, Nat.zero_le _⟩) hD hS hA rfl (fun H locs hP hD hS => ?_)
    refine q_ifB_eq (b := decide (0 < 1)) (tgt := 37) hx hb dX1_approve_32 (by decide) (fun k32 => absurd k32 (by decide)) (fun k32 => ?_)
    refine lv_iconst (v := nI 0) hx hb dX1_approve_35 (by decide) ?_
    exact q_wretZ hx hb hr hlocks hAe hP hS (by decide) dX1_approve_36

set_option maxHeartbeats 4000000 in
set_option maxRecDepth 100000 in
theorem kX1_reject1 (l : Launch) (D : va_G) (h : Nat) (ad : Nat → Nat) (cI cJ cZ : ClassId) (td : Nat) (gc : Nat) (ex : Nat → Bool) (pa : Nat → Option Nat) (di : Nat → Nat) (qu : Nat → Nat) (dc : Nat) (dg : Nat → Nat) (da : Nat → Nat) (dh : Nat → Option Nat) (dt : Nat → Option Nat) (dv : Nat → Option Nat) (dd : Nat → Nat) (ds : Nat → Nat) (ak : Nat → Bool) (se : Nat → Option Nat) (pr : Nat → Option Nat) (th : Nat) (sz : Nat) (d : Int32) (hrd : RD dc dg da dh dt dd ds td) (hd : dBadM dc ex dg d) : Met l yX1_reject wsX1_reject ({ frames := 2, cells := 0, slots := 0, locals := 43 } : Room) (wP D (mW h ad cI cJ cZ td gc ex pa di qu dc dg da dh dt dv dd ds ak se pr th) (mT cI cJ cZ) [.ref h, .int d] sz) (wQ D (mW h ad cI cJ cZ td gc ex pa di qu dc dg da dh dt dv dd ds ak se pr th) (mW h ad cI cJ cZ td gc ex pa di qu dc dg da dh dt dv dd ds ak se pr 1) (some (.int (bI false)))) 0 0 (va_A (mW h ad cI cJ cZ td gc ex pa di qu dc dg da dh dt dv dd ds ak se pr th) sz) := by
  refine Met.ofW (cc := cX1_reject) (maxL := 4) (ret := (some .boolean)) (by decide) rfl ?_
  intro p e s m args below meth c s₁ B hml hv
  obtain ⟨rfl, hsz, hP, hK, hD0⟩ := hv
  have hx := B.exec
  have hb := B.bytes
  have hr := B.returns
  have hts := atoms_spec (ws := wsX1_reject) B.pre
  have hown : s.vm.findClass RX1 = some m.cls := findClass_of_methodNamed B.named
  have hlocks := B.notSynchronized
  subst hsz
  have hD := hD0.self (sz := s.heap.size)
  generalize hAe : va_A (mW h ad cI cJ cZ td gc ex pa di qu dc dg da dh dt dv dd ds ak se pr th) s.heap.size = A at hD ⊢
  have hA : ∀ q : Nat, s.heap.size ≤ q → A q := fun q h => by rw [← hAe]; exact Or.inr h
  have hS : va_S A s.heap s.heap [] := va_S.rf
  have hl := lv_entry ([.ref h, .int d]) (n := 4) (Nat.le_of_ble_eq_true rfl)
  rw [lg_entry_eq]
  generalize (lg_sl ([.ref h, .int d]) ++ List.replicate (4 - (lg_sl ([.ref h, .int d])).length) Slot.unset).toArray = ls at hl ⊢
  have hl : lv_has ls 4 [(0, .ref h), (1, .int d)] := hl
  rcases hd with hd | ⟨j, hj, rfl, he⟩
  · refine lv_aload_n hx hb dX1_reject_0 rfl (lv_at hl 0 rfl) ?_
    refine lv_iload_n hx hb dX1_reject_1 rfl (lv_at hl 1 rfl) ?_
    refine q_callI (r := bI false) (va_runV (As := [.int d]) (rest := []) ⟨hx, hb, hml, hown, hts⟩ (kX1_isDraftR l D h ad cI cJ cZ td gc ex pa di qu dc dg da dh dt dv dd ds ak se pr th d hrd.1 hd) (cwV 1 hts gX1_reject_X1_isDraft rfl rfl rfl (by decide +kernel) ⟨Nat.le_of_ble_eq_true rfl, Nat.le_of_ble_eq_true rfl⟩) ⟨pP_blind, va_recv hK hP (ci := 1) (q0 := 0) rfl rfl, pP_pre hP hK⟩ rfl rfl hl.1 rfl (lv_room (Nat.le_of_ble_eq_true rfl)) dX1_reject_2 ⟨Nat.zero_le _, Nat.zero_le _⟩) ?_
    refine lv_istore_n (lv' := [(2, .int (bI false)), (0, .ref h), (1, .int d)]) hx hb dX1_reject_5 rfl hl (by decide) rfl (fun ls hl => ?_)
    refine lv_aload_n hx hb dX1_reject_6 rfl (lv_at hl 1 rfl) ?_
    refine lv_iload_n hx hb dX1_reject_7 rfl (lv_at hl 0 rfl) ?_
    refine q_ifB_ne (b := false) (tgt := 15) hx hb dX1_reject_8 (by decide) (fun k8 => absurd k8 (by decide)) (fun k8 => ?_)
    refine lv_iconst (v := nI 1) hx hb dX1_reject_11 (by decide) ?_
    refine lv_goto (tgt := 30) hx hb dX1_reject_12 (by decide) ?_
    refine q_wcallI (r := bI (decide (0 < 1))) (w' := (mW h ad cI cJ cZ td gc ex pa di qu dc dg da dh dt dv dd ds ak se pr 1)) (va_runV (As := [.int (nI 1)]) (rest := []) ⟨hx, hb, hml, hown, hts⟩ (kX1_fails l D h ad cI cJ cZ td gc ex pa di qu dc dg da dh dt dv dd ds ak se pr th _ 1 (by decide)) (cwV 1 hts gX1_reject_X1_fails rfl rfl rfl (by decide +kernel) ⟨Nat.le_of_ble_eq_true rfl, Nat.le_of_ble_eq_true rfl⟩) ⟨wP_blind, va_recv hK hP (ci := 1) (q0 := 0) rfl rfl, wP_pre hP hK hD⟩ rfl rfl hl.1 rfl (lv_room (Nat.le_of_ble_eq_true rfl)) dX1_reject_30 ⟨Nat.zero_le _, Nat.zero_le _⟩) hD hS hA rfl (fun H locs hP hD hS => ?_)
    refine q_ifB_eq (b := decide (0 < 1)) (tgt := 38) hx hb dX1_reject_33 (by decide) (fun k33 => absurd k33 (by decide)) (fun k33 => ?_)
    refine lv_iconst (v := nI 0) hx hb dX1_reject_36 (by decide) ?_
    exact q_wretZ hx hb hr hlocks hAe hP hS (by decide) dX1_reject_37
  · refine lv_aload_n hx hb dX1_reject_0 rfl (lv_at hl 0 rfl) ?_
    refine lv_iload_n hx hb dX1_reject_1 rfl (lv_at hl 1 rfl) ?_
    refine q_callI (r := bI (ex (dg j))) (va_runV (As := [.int (nI j)]) (rest := []) ⟨hx, hb, hml, hown, hts⟩ (kX1_isDraftN l D h ad cI cJ cZ td gc ex pa di qu dc dg da dh dt dv dd ds ak se pr th j hj hrd.1 (hrd.2.2.1 _ hj)) (cwV 1 hts gX1_reject_X1_isDraft rfl rfl rfl (by decide +kernel) ⟨Nat.le_of_ble_eq_true rfl, Nat.le_of_ble_eq_true rfl⟩) ⟨pP_blind, va_recv hK hP (ci := 1) (q0 := 0) rfl rfl, pP_pre hP hK⟩ rfl rfl hl.1 rfl (lv_room (Nat.le_of_ble_eq_true rfl)) dX1_reject_2 ⟨Nat.zero_le _, Nat.zero_le _⟩) ?_
    refine q_top (y := bI false) (by rw [he]) ?_
    refine lv_istore_n (lv' := [(2, .int (bI false)), (0, .ref h), (1, .int (nI j))]) hx hb dX1_reject_5 rfl hl (by decide) rfl (fun ls hl => ?_)
    refine lv_aload_n hx hb dX1_reject_6 rfl (lv_at hl 1 rfl) ?_
    refine lv_iload_n hx hb dX1_reject_7 rfl (lv_at hl 0 rfl) ?_
    refine q_ifB_ne (b := false) (tgt := 15) hx hb dX1_reject_8 (by decide) (fun k8 => absurd k8 (by decide)) (fun k8 => ?_)
    refine lv_iconst (v := nI 1) hx hb dX1_reject_11 (by decide) ?_
    refine lv_goto (tgt := 30) hx hb dX1_reject_12 (by decide) ?_
    refine q_wcallI (r := bI (decide (0 < 1))) (w' := (mW h ad cI cJ cZ td gc ex pa di qu dc dg da dh dt dv dd ds ak se pr 1)) (va_runV (As := [.int (nI 1)]) (rest := []) ⟨hx, hb, hml, hown, hts⟩ (kX1_fails l D h ad cI cJ cZ td gc ex pa di qu dc dg da dh dt dv dd ds ak se pr th _ 1 (by decide)) (cwV 1 hts gX1_reject_X1_fails rfl rfl rfl (by decide +kernel) ⟨Nat.le_of_ble_eq_true rfl, Nat.le_of_ble_eq_true rfl⟩) ⟨wP_blind, va_recv hK hP (ci := 1) (q0 := 0) rfl rfl, wP_pre hP hK hD⟩ rfl rfl hl.1 rfl (lv_room (Nat.le_of_ble_eq_true rfl)) dX1_reject_30 ⟨Nat.zero_le _, Nat.zero_le _⟩) hD hS hA rfl (fun H locs hP hD hS => ?_)
    refine q_ifB_eq (b := decide (0 < 1)) (tgt := 38) hx hb dX1_reject_33 (by decide) (fun k33 => absurd k33 (by decide)) (fun k33 => ?_)
    refine lv_iconst (v := nI 0) hx hb dX1_reject_36 (by decide) ?_
    exact q_wretZ hx hb hr hlocks hAe hP hS (by decide) dX1_reject_37

set_option maxHeartbeats 4000000 in
set_option maxRecDepth 100000 in
theorem kX1_pass (l : Launch) (D : va_G) (h : Nat) (ad : Nat → Nat) (cI cJ cZ : ClassId) (td : Nat) (gc : Nat) (ex : Nat → Bool) (pa : Nat → Option Nat) (di : Nat → Nat) (qu : Nat → Nat) (dc : Nat) (dg : Nat → Nat) (da : Nat → Nat) (dh : Nat → Option Nat) (dt : Nat → Option Nat) (dv : Nat → Option Nat) (dd : Nat → Nat) (ds : Nat → Nat) (ak : Nat → Bool) (se : Nat → Option Nat) (pr : Nat → Option Nat) (th : Nat) (sz : Nat) (w : Nat) (hw1 : 1 ≤ w) (hw2 : w ≤ 100) : Met l yX1_pass wsX1_pass ({ frames := 1, cells := 0, slots := 0, locals := 22 } : Room) (wP D (mW h ad cI cJ cZ td gc ex pa di qu dc dg da dh dt dv dd ds ak se pr th) (mT cI cJ cZ) [.ref h, .int (nI w)] sz) (wQ D (mW h ad cI cJ cZ td gc ex pa di qu dc dg da dh dt dv dd ds ak se pr th) (mW h ad cI cJ cZ (td + w) gc ex pa di qu dc dg da dh dt dv dd ds ak se pr 0) (some (.int (nI (td + w))))) 0 0 (va_A (mW h ad cI cJ cZ td gc ex pa di qu dc dg da dh dt dv dd ds ak se pr th) sz) := by
  refine Met.ofW (cc := cX1_pass) (maxL := 2) (ret := (some .int)) (by decide) rfl ?_
  intro p e s m args below meth c s₁ B hml hv
  obtain ⟨rfl, hsz, hP, hK, hD0⟩ := hv
  have hx := B.exec
  have hb := B.bytes
  have hr := B.returns
  have hts := atoms_spec (ws := wsX1_pass) B.pre
  have hown : s.vm.findClass RX1 = some m.cls := findClass_of_methodNamed B.named
  have hlocks := B.notSynchronized
  subst hsz
  have hD := hD0.self (sz := s.heap.size)
  generalize hAe : va_A (mW h ad cI cJ cZ td gc ex pa di qu dc dg da dh dt dv dd ds ak se pr th) s.heap.size = A at hD ⊢
  have hA : ∀ q : Nat, s.heap.size ≤ q → A q := fun q h => by rw [← hAe]; exact Or.inr h
  have hS : va_S A s.heap s.heap [] := va_S.rf
  have hl := lv_entry ([.ref h, .int (nI w)]) (n := 2) (Nat.le_of_ble_eq_true rfl)
  rw [lg_entry_eq]
  generalize (lg_sl ([.ref h, .int (nI w)]) ++ List.replicate (2 - (lg_sl ([.ref h, .int (nI w)])).length) Slot.unset).toArray = ls at hl ⊢
  have hl : lv_has ls 2 [(0, .ref h), (1, .int (nI w))] := hl
  refine lv_aload_n hx hb dX1_pass_0 rfl (lv_at hl 0 rfl) ?_
  refine lv_iload_n hx hb dX1_pass_1 rfl (lv_at hl 1 rfl) ?_
  refine lv_iconst (v := nI 1) hx hb dX1_pass_2 (by decide) ?_
  refine lv_bipush (v := nI 100) hx hb dX1_pass_3 (by decide) ?_
  refine q_callI (r := bI (isin (nI w) (nI 1) (nI 100))) (va_runS (As := [.int (nI w), .int (nI 1), .int (nI 100)]) (rest := [.ref h]) ⟨hx, hb, hml, hown, hts⟩ (kX1_isIn l (nI w) (nI 1) (nI 100)) (cwS 3 hts gX1_pass_X1_isIn rfl rfl rfl (by decide +kernel) ⟨Nat.le_of_ble_eq_true rfl, Nat.le_of_ble_eq_true rfl⟩) ⟨sP_blind, sP_pre⟩ rfl rfl hl.1 rfl (lv_room (Nat.le_of_ble_eq_true rfl)) dX1_pass_5 ⟨Nat.zero_le _, Nat.zero_le _⟩) ?_
  refine q_top (y := bI true) (by rw [isin_w (by omega) (by decide) (by decide), decide_eq_true hw1, decide_eq_true hw2]; rfl) ?_
  refine q_ifB_eq (b := true) (tgt := 15) hx hb dX1_pass_8 (by decide) (fun k8 => absurd k8 (by decide)) (fun k8 => ?_)
  refine lv_iconst (v := nI 0) hx hb dX1_pass_11 (by decide) ?_
  refine lv_goto (tgt := 16) hx hb dX1_pass_12 (by decide) ?_
  refine q_wcallI (r := bI (decide (0 < 0))) (w' := (mW h ad cI cJ cZ td gc ex pa di qu dc dg da dh dt dv dd ds ak se pr 0)) (va_runV (As := [.int (nI 0)]) (rest := []) ⟨hx, hb, hml, hown, hts⟩ (kX1_fails l D h ad cI cJ cZ td gc ex pa di qu dc dg da dh dt dv dd ds ak se pr th _ 0 (by decide)) (cwV 1 hts gX1_pass_X1_fails rfl rfl rfl (by decide +kernel) ⟨Nat.le_of_ble_eq_true rfl, Nat.le_of_ble_eq_true rfl⟩) ⟨wP_blind, va_recv hK hP (ci := 1) (q0 := 0) rfl rfl, wP_pre hP hK hD⟩ rfl rfl hl.1 rfl (lv_room (Nat.le_of_ble_eq_true rfl)) dX1_pass_16 ⟨Nat.zero_le _, Nat.zero_le _⟩) hD hS hA rfl (fun H locs hP hD hS => ?_)
  refine q_ifB_eq (b := decide (0 < 0)) (tgt := 24) hx hb dX1_pass_19 (by decide) (fun k19 => ?_) (fun k19 => absurd k19 (by decide))
  refine lv_aload_n hx hb dX1_pass_24 rfl (lv_at hl 0 rfl) ?_
  refine lv_dup hx hb dX1_pass_25 rfl ?_
  refine va_get (D := D) (ci := 1) (v := .int (nI td)) (C := RX1) (T := TX1) (N := 18) hx hb hts (iX1_pass) hown hK hP 0 rfl rfl 0 (by decide) (hts (.fieldLink RX1 84 "ShopHubModel" "today" "I") (by decide +kernel)) (fun _ h9 => h9) rfl dX1_pass_26 ?_
  refine lv_iload_n hx hb dX1_pass_29 rfl (lv_at hl 1 rfl) ?_
  refine q_addN (a := td) (b := w) hx hb dX1_pass_30 ?_
  refine va_put (D := D) (ci := 1) (v := .int (nI (td + w))) (ty := .int) (C := RX1) (T := TX1) (N := 18) hx hb hts (iX1_pass) tyX1 tyX1_ok nmX1 hown hK hP hD hS 0 rfl rfl 0 (by decide) (hts (.fieldLink RX1 84 "ShopHubModel" "today" "I") (by decide +kernel)) (fun _ h9 => h9) rfl (by decide +kernel) rfl rfl (Nat.le_of_ble_eq_true rfl) dX1_pass_31 (fun H locs hP hD hS => ?_)
  have hP : va_P D vwCl (mW h ad cI cJ cZ (td + w) gc ex pa di qu dc dg da dh dt dv dd ds ak se pr 0) H := hP
  have hD : va_D A (mW h ad cI cJ cZ (td + w) gc ex pa di qu dc dg da dh dt dv dd ds ak se pr 0) := hD
  refine lv_aload_n hx hb dX1_pass_34 rfl (lv_at hl 0 rfl) ?_
  refine va_get (D := D) (ci := 1) (v := .int (nI (td + w))) (C := RX1) (T := TX1) (N := 18) hx hb hts (iX1_pass) hown hK hP 0 rfl rfl 0 (by decide) (hts (.fieldLink RX1 84 "ShopHubModel" "today" "I") (by decide +kernel)) (fun _ h9 => h9) rfl dX1_pass_35 ?_
  exact q_wretI hx hb hr hlocks hAe hP hS (rfl) dX1_pass_38

set_option maxHeartbeats 4000000 in
set_option maxRecDepth 100000 in
theorem kX1_pass1 (l : Launch) (D : va_G) (h : Nat) (ad : Nat → Nat) (cI cJ cZ : ClassId) (td : Nat) (gc : Nat) (ex : Nat → Bool) (pa : Nat → Option Nat) (di : Nat → Nat) (qu : Nat → Nat) (dc : Nat) (dg : Nat → Nat) (da : Nat → Nat) (dh : Nat → Option Nat) (dt : Nat → Option Nat) (dv : Nat → Option Nat) (dd : Nat → Nat) (ds : Nat → Nat) (ak : Nat → Bool) (se : Nat → Option Nat) (pr : Nat → Option Nat) (th : Nat) (sz : Nat) (w : Int32) (hw : w < nI 1 ∨ nI 100 < w) : Met l yX1_pass wsX1_pass ({ frames := 1, cells := 0, slots := 0, locals := 22 } : Room) (wP D (mW h ad cI cJ cZ td gc ex pa di qu dc dg da dh dt dv dd ds ak se pr th) (mT cI cJ cZ) [.ref h, .int w] sz) (wQ D (mW h ad cI cJ cZ td gc ex pa di qu dc dg da dh dt dv dd ds ak se pr th) (mW h ad cI cJ cZ td gc ex pa di qu dc dg da dh dt dv dd ds ak se pr 1) (some (.int (nI 0)))) 0 0 (va_A (mW h ad cI cJ cZ td gc ex pa di qu dc dg da dh dt dv dd ds ak se pr th) sz) := by
  refine Met.ofW (cc := cX1_pass) (maxL := 2) (ret := (some .int)) (by decide) rfl ?_
  intro p e s m args below meth c s₁ B hml hv
  obtain ⟨rfl, hsz, hP, hK, hD0⟩ := hv
  have hx := B.exec
  have hb := B.bytes
  have hr := B.returns
  have hts := atoms_spec (ws := wsX1_pass) B.pre
  have hown : s.vm.findClass RX1 = some m.cls := findClass_of_methodNamed B.named
  have hlocks := B.notSynchronized
  subst hsz
  have hD := hD0.self (sz := s.heap.size)
  generalize hAe : va_A (mW h ad cI cJ cZ td gc ex pa di qu dc dg da dh dt dv dd ds ak se pr th) s.heap.size = A at hD ⊢
  have hA : ∀ q : Nat, s.heap.size ≤ q → A q := fun q h => by rw [← hAe]; exact Or.inr h
  have hS : va_S A s.heap s.heap [] := va_S.rf
  have hl := lv_entry ([.ref h, .int w]) (n := 2) (Nat.le_of_ble_eq_true rfl)
  rw [lg_entry_eq]
  generalize (lg_sl ([.ref h, .int w]) ++ List.replicate (2 - (lg_sl ([.ref h, .int w])).length) Slot.unset).toArray = ls at hl ⊢
  have hl : lv_has ls 2 [(0, .ref h), (1, .int w)] := hl
  refine lv_aload_n hx hb dX1_pass_0 rfl (lv_at hl 0 rfl) ?_
  refine lv_iload_n hx hb dX1_pass_1 rfl (lv_at hl 1 rfl) ?_
  refine lv_iconst (v := nI 1) hx hb dX1_pass_2 (by decide) ?_
  refine lv_bipush (v := nI 100) hx hb dX1_pass_3 (by decide) ?_
  refine q_callI (r := bI (isin w (nI 1) (nI 100))) (va_runS (As := [.int w, .int (nI 1), .int (nI 100)]) (rest := [.ref h]) ⟨hx, hb, hml, hown, hts⟩ (kX1_isIn l w (nI 1) (nI 100)) (cwS 3 hts gX1_pass_X1_isIn rfl rfl rfl (by decide +kernel) ⟨Nat.le_of_ble_eq_true rfl, Nat.le_of_ble_eq_true rfl⟩) ⟨sP_blind, sP_pre⟩ rfl rfl hl.1 rfl (lv_room (Nat.le_of_ble_eq_true rfl)) dX1_pass_5 ⟨Nat.zero_le _, Nat.zero_le _⟩) ?_
  refine q_top (y := bI false) (by rw [isin_wb hw]) ?_
  refine q_ifB_eq (b := false) (tgt := 15) hx hb dX1_pass_8 (by decide) (fun k8 => ?_) (fun k8 => absurd k8 (by decide))
  refine lv_iconst (v := nI 1) hx hb dX1_pass_15 (by decide) ?_
  refine q_wcallI (r := bI (decide (0 < 1))) (w' := (mW h ad cI cJ cZ td gc ex pa di qu dc dg da dh dt dv dd ds ak se pr 1)) (va_runV (As := [.int (nI 1)]) (rest := []) ⟨hx, hb, hml, hown, hts⟩ (kX1_fails l D h ad cI cJ cZ td gc ex pa di qu dc dg da dh dt dv dd ds ak se pr th _ 1 (by decide)) (cwV 1 hts gX1_pass_X1_fails rfl rfl rfl (by decide +kernel) ⟨Nat.le_of_ble_eq_true rfl, Nat.le_of_ble_eq_true rfl⟩) ⟨wP_blind, va_recv hK hP (ci := 1) (q0 := 0) rfl rfl, wP_pre hP hK hD⟩ rfl rfl hl.1 rfl (lv_room (Nat.le_of_ble_eq_true rfl)) dX1_pass_16 ⟨Nat.zero_le _, Nat.zero_le _⟩) hD hS hA rfl (fun H locs hP hD hS => ?_)
  refine q_ifB_eq (b := decide (0 < 1)) (tgt := 24) hx hb dX1_pass_19 (by decide) (fun k19 => absurd k19 (by decide)) (fun k19 => ?_)
  refine lv_iconst (v := nI 0) hx hb dX1_pass_22 (by decide) ?_
  exact q_wretI hx hb hr hlocks hAe hP hS (rfl) dX1_pass_23

set_option maxHeartbeats 4000000 in
set_option maxRecDepth 100000 in
theorem kX1_value (l : Launch) (D : va_G) (h : Nat) (ad : Nat → Nat) (cI cJ cZ : ClassId) (td : Nat) (gc : Nat) (ex : Nat → Bool) (pa : Nat → Option Nat) (di : Nat → Nat) (qu : Nat → Nat) (dc : Nat) (dg : Nat → Nat) (da : Nat → Nat) (dh : Nat → Option Nat) (dt : Nat → Option Nat) (dv : Nat → Option Nat) (dd : Nat → Nat) (ds : Nat → Nat) (ak : Nat → Bool) (se : Nat → Option Nat) (pr : Nat → Option Nat) (th : Nat) (sz : Nat) (ho : Nat → Option Nat) (lev : Nat → Nat) (g a sp tp : Nat) (hti : TI ex pa lev) (hg : g < 16) (he : ex g = true) (ha : a < 6) (hs : sp < 3) (ht : tp < 3) (hgc : gc ≤ 16) (hxg : ∀ j, j < 16 → ex j = true → j < gc) (hrd : RD dc dg da dh dt dd ds td) (hrh : RH ex ho dc dg da dh dt dd ds td) (hpr : PR pa) (hho : HO ho dc) (hdv : DV dv dc) (hnv : vlu ex pa ho dv a (sp + 1) (tp + 1) g ≠ none) : Met l yX1_value wsX1_value ({ frames := 3, cells := 0, slots := 0, locals := 79 } : Room) (wP D (mW h ad cI cJ cZ td gc ex pa di qu dc dg da dh dt dv dd ds ak se pr th) (mT cI cJ cZ) [.ref h, .int (nI g), .int (nI a), .int (nI sp), .int (nI tp)] sz) (wQ D (mW h ad cI cJ cZ td gc ex pa di qu dc dg da dh dt dv dd ds ak se pr th) (mW h ad cI cJ cZ td gc ex pa di qu dc dg da dh dt dv dd ds ak se pr 0) (some (.int (oI (vlu ex pa ho dv a (sp + 1) (tp + 1) g))))) 0 0 (va_A (mW h ad cI cJ cZ td gc ex pa di qu dc dg da dh dt dv dd ds ak se pr th) sz) := by
  refine Met.ofW (cc := cX1_value) (maxL := 6) (ret := (some .int)) (by decide) rfl ?_
  intro p e s m args below meth c s₁ B hml hv
  obtain ⟨rfl, hsz, hP, hK, hD0⟩ := hv
  have hx := B.exec
  have hb := B.bytes
  have hr := B.returns
  have hts := atoms_spec (ws := wsX1_value) B.pre
  have hown : s.vm.findClass RX1 = some m.cls := findClass_of_methodNamed B.named
  have hlocks := B.notSynchronized
  subst hsz
  have hD := hD0.self (sz := s.heap.size)
  generalize hAe : va_A (mW h ad cI cJ cZ td gc ex pa di qu dc dg da dh dt dv dd ds ak se pr th) s.heap.size = A at hD ⊢
  have hA : ∀ q : Nat, s.heap.size ≤ q → A q := fun q h => by rw [← hAe]; exact Or.inr h
  have hS : va_S A s.heap s.heap [] := va_S.rf
  have hl := lv_entry ([.ref h, .int (nI g), .int (nI a), .int (nI sp), .int (nI tp)]) (n := 6) (Nat.le_of_ble_eq_true rfl)
  rw [lg_entry_eq]
  generalize (lg_sl ([.ref h, .int (nI g), .int (nI a), .int (nI sp), .int (nI tp)]) ++ List.replicate (6 - (lg_sl ([.ref h, .int (nI g), .int (nI a), .int (nI sp), .int (nI tp)])).length) Slot.unset).toArray = ls at hl ⊢
  have hl : lv_has ls 6 [(0, .ref h), (1, .int (nI g)), (2, .int (nI a)), (3, .int (nI sp)), (4, .int (nI tp))] := hl
  refine lv_aload_n hx hb dX1_value_0 rfl (lv_at hl 0 rfl) ?_
  refine lv_iload_n hx hb dX1_value_1 rfl (lv_at hl 1 rfl) ?_
  refine lv_iload_n hx hb dX1_value_2 rfl (lv_at hl 2 rfl) ?_
  refine lv_iload_n hx hb dX1_value_3 rfl (lv_at hl 3 rfl) ?_
  refine lv_iload hx hb dX1_value_4 (lv_at hl 4 rfl) ?_
  refine q_callI (r := bI true) (va_runV (As := [.int (nI g), .int (nI a), .int (nI sp), .int (nI tp)]) (rest := []) ⟨hx, hb, hml, hown, hts⟩ (kX1_isPlace l D h ad cI cJ cZ td gc ex pa di qu dc dg da dh dt dv dd ds ak se pr th g a sp tp hg ha hs ht he hgc hxg) (cwV 4 hts gX1_value_X1_isPlace rfl rfl rfl (by decide +kernel) ⟨Nat.le_of_ble_eq_true rfl, Nat.le_of_ble_eq_true rfl⟩) ⟨pP_blind, va_recv hK hP (ci := 1) (q0 := 0) rfl rfl, pP_pre hP hK⟩ rfl rfl hl.1 rfl (lv_room (Nat.le_of_ble_eq_true rfl)) dX1_value_6 ⟨Nat.zero_le _, Nat.zero_le _⟩) ?_
  refine lv_istore (lv' := [(5, .int (bI true)), (0, .ref h), (1, .int (nI g)), (2, .int (nI a)), (3, .int (nI sp)), (4, .int (nI tp))]) hx hb dX1_value_9 hl (by decide) rfl (fun ls hl => ?_)
  refine lv_aload_n hx hb dX1_value_11 rfl (lv_at hl 1 rfl) ?_
  refine lv_iload hx hb dX1_value_12 (lv_at hl 0 rfl) ?_
  refine q_ifB_ne (b := true) (tgt := 21) hx hb dX1_value_14 (by decide) (fun k14 => ?_) (fun k14 => absurd k14 (by decide))
  refine lv_aload_n hx hb dX1_value_21 rfl (lv_at hl 1 rfl) ?_
  refine lv_iload_n hx hb dX1_value_22 rfl (lv_at hl 2 rfl) ?_
  refine lv_iload_n hx hb dX1_value_23 rfl (lv_at hl 3 rfl) ?_
  refine lv_iload_n hx hb dX1_value_24 rfl (lv_at hl 4 rfl) ?_
  refine lv_iload hx hb dX1_value_25 (lv_at hl 5 rfl) ?_
  refine q_callI (r := oI (vlu ex pa ho dv a (sp + 1) (tp + 1) g)) (va_runV (As := [.int (nI g), .int (nI a), .int (nI sp), .int (nI tp)]) (rest := [.ref h]) ⟨hx, hb, hml, hown, hts⟩ (kX1_valueOf l D h ad cI cJ cZ td gc ex pa di qu dc dg da dh dt dv dd ds ak se pr th ho lev g a sp tp hti hg he ha hs ht hrd hrh hpr hho) (cwV 4 hts gX1_value_X1_valueOf rfl rfl rfl (by decide +kernel) ⟨Nat.le_of_ble_eq_true rfl, Nat.le_of_ble_eq_true rfl⟩) ⟨pP_blind, va_recv hK hP (ci := 1) (q0 := 0) rfl rfl, pP_pre hP hK⟩ rfl rfl hl.1 rfl (lv_room (Nat.le_of_ble_eq_true rfl)) dX1_value_27 ⟨Nat.zero_le _, Nat.zero_le _⟩) ?_
  refine lv_iconst (v := oI none) hx hb dX1_value_30 (by decide) ?_
  refine q_icmpO_ne (a := vlu ex pa ho dv a (sp + 1) (tp + 1) g) (b := none) (tgt := 38) (fun k h9 => by have := vlu_in hho hpr hdv hg ha (show sp + 1 < 4 by omega) (show tp + 1 < 4 by omega) k h9; omega) (fun k h9 => by cases h9) hx hb dX1_value_31 (by decide) (fun k31 => ?_) (fun k31 => absurd k31 hnv)
  refine lv_iconst (v := nI 0) hx hb dX1_value_38 (by decide) ?_
  refine q_wcallI (r := bI (decide (0 < 0))) (w' := (mW h ad cI cJ cZ td gc ex pa di qu dc dg da dh dt dv dd ds ak se pr 0)) (va_runV (As := [.int (nI 0)]) (rest := []) ⟨hx, hb, hml, hown, hts⟩ (kX1_fails l D h ad cI cJ cZ td gc ex pa di qu dc dg da dh dt dv dd ds ak se pr th _ 0 (by decide)) (cwV 1 hts gX1_value_X1_fails rfl rfl rfl (by decide +kernel) ⟨Nat.le_of_ble_eq_true rfl, Nat.le_of_ble_eq_true rfl⟩) ⟨wP_blind, va_recv hK hP (ci := 1) (q0 := 0) rfl rfl, wP_pre hP hK hD⟩ rfl rfl hl.1 rfl (lv_room (Nat.le_of_ble_eq_true rfl)) dX1_value_39 ⟨Nat.zero_le _, Nat.zero_le _⟩) hD hS hA rfl (fun H locs hP hD hS => ?_)
  refine q_ifB_eq (b := decide (0 < 0)) (tgt := 49) hx hb dX1_value_42 (by decide) (fun k42 => ?_) (fun k42 => absurd k42 (by decide))
  refine lv_aload_n hx hb dX1_value_49 rfl (lv_at hl 1 rfl) ?_
  refine lv_iload_n hx hb dX1_value_50 rfl (lv_at hl 2 rfl) ?_
  refine lv_iload_n hx hb dX1_value_51 rfl (lv_at hl 3 rfl) ?_
  refine lv_iload_n hx hb dX1_value_52 rfl (lv_at hl 4 rfl) ?_
  refine lv_iload hx hb dX1_value_53 (lv_at hl 5 rfl) ?_
  refine q_callI (r := oI (vlu ex pa ho dv a (sp + 1) (tp + 1) g)) (va_runV (As := [.int (nI g), .int (nI a), .int (nI sp), .int (nI tp)]) (rest := []) ⟨hx, hb, hml, hown, hts⟩ (kX1_valueOf l D h ad cI cJ cZ td gc ex pa di qu dc dg da dh dt dv dd ds ak se pr 0 ho lev g a sp tp hti hg he ha hs ht hrd hrh hpr hho) (cwV 4 hts gX1_value_X1_valueOf rfl rfl rfl (by decide +kernel) ⟨Nat.le_of_ble_eq_true rfl, Nat.le_of_ble_eq_true rfl⟩) ⟨pP_blind, va_recv hK hP (ci := 1) (q0 := 0) rfl rfl, pP_pre hP hK⟩ rfl rfl hl.1 rfl (lv_room (Nat.le_of_ble_eq_true rfl)) dX1_value_55 ⟨Nat.zero_le _, Nat.zero_le _⟩) ?_
  exact q_wretI hx hb hr hlocks hAe hP hS (rfl) dX1_value_58

set_option maxHeartbeats 4000000 in
set_option maxRecDepth 100000 in
theorem kX1_value2 (l : Launch) (D : va_G) (h : Nat) (ad : Nat → Nat) (cI cJ cZ : ClassId) (td : Nat) (gc : Nat) (ex : Nat → Bool) (pa : Nat → Option Nat) (di : Nat → Nat) (qu : Nat → Nat) (dc : Nat) (dg : Nat → Nat) (da : Nat → Nat) (dh : Nat → Option Nat) (dt : Nat → Option Nat) (dv : Nat → Option Nat) (dd : Nat → Nat) (ds : Nat → Nat) (ak : Nat → Bool) (se : Nat → Option Nat) (pr : Nat → Option Nat) (th : Nat) (sz : Nat) (ho : Nat → Option Nat) (lev : Nat → Nat) (g a sp tp : Nat) (hti : TI ex pa lev) (hg : g < 16) (he : ex g = true) (ha : a < 6) (hs : sp < 3) (ht : tp < 3) (hgc : gc ≤ 16) (hxg : ∀ j, j < 16 → ex j = true → j < gc) (hrd : RD dc dg da dh dt dd ds td) (hrh : RH ex ho dc dg da dh dt dd ds td) (hpr : PR pa) (hho : HO ho dc) (hdv : DV dv dc) (hnv : vlu ex pa ho dv a (sp + 1) (tp + 1) g = none) : Met l yX1_value wsX1_value ({ frames := 3, cells := 0, slots := 0, locals := 79 } : Room) (wP D (mW h ad cI cJ cZ td gc ex pa di qu dc dg da dh dt dv dd ds ak se pr th) (mT cI cJ cZ) [.ref h, .int (nI g), .int (nI a), .int (nI sp), .int (nI tp)] sz) (wQ D (mW h ad cI cJ cZ td gc ex pa di qu dc dg da dh dt dv dd ds ak se pr th) (mW h ad cI cJ cZ td gc ex pa di qu dc dg da dh dt dv dd ds ak se pr 2) (some (.int (nI 0)))) 0 0 (va_A (mW h ad cI cJ cZ td gc ex pa di qu dc dg da dh dt dv dd ds ak se pr th) sz) := by
  refine Met.ofW (cc := cX1_value) (maxL := 6) (ret := (some .int)) (by decide) rfl ?_
  intro p e s m args below meth c s₁ B hml hv
  obtain ⟨rfl, hsz, hP, hK, hD0⟩ := hv
  have hx := B.exec
  have hb := B.bytes
  have hr := B.returns
  have hts := atoms_spec (ws := wsX1_value) B.pre
  have hown : s.vm.findClass RX1 = some m.cls := findClass_of_methodNamed B.named
  have hlocks := B.notSynchronized
  subst hsz
  have hD := hD0.self (sz := s.heap.size)
  generalize hAe : va_A (mW h ad cI cJ cZ td gc ex pa di qu dc dg da dh dt dv dd ds ak se pr th) s.heap.size = A at hD ⊢
  have hA : ∀ q : Nat, s.heap.size ≤ q → A q := fun q h => by rw [← hAe]; exact Or.inr h
  have hS : va_S A s.heap s.heap [] := va_S.rf
  have hl := lv_entry ([.ref h, .int (nI g), .int (nI a), .int (nI sp), .int (nI tp)]) (n := 6) (Nat.le_of_ble_eq_true rfl)
  rw [lg_entry_eq]
  generalize (lg_sl ([.ref h, .int (nI g), .int (nI a), .int (nI sp), .int (nI tp)]) ++ List.replicate (6 - (lg_sl ([.ref h, .int (nI g), .int (nI a), .int (nI sp), .int (nI tp)])).length) Slot.unset).toArray = ls at hl ⊢
  have hl : lv_has ls 6 [(0, .ref h), (1, .int (nI g)), (2, .int (nI a)), (3, .int (nI sp)), (4, .int (nI tp))] := hl
  refine lv_aload_n hx hb dX1_value_0 rfl (lv_at hl 0 rfl) ?_
  refine lv_iload_n hx hb dX1_value_1 rfl (lv_at hl 1 rfl) ?_
  refine lv_iload_n hx hb dX1_value_2 rfl (lv_at hl 2 rfl) ?_
  refine lv_iload_n hx hb dX1_value_3 rfl (lv_at hl 3 rfl) ?_
  refine lv_iload hx hb dX1_value_4 (lv_at hl 4 rfl) ?_
  refine q_callI (r := bI true) (va_runV (As := [.int (nI g), .int (nI a), .int (nI sp), .int (nI tp)]) (rest := []) ⟨hx, hb, hml, hown, hts⟩ (kX1_isPlace l D h ad cI cJ cZ td gc ex pa di qu dc dg da dh dt dv dd ds ak se pr th g a sp tp hg ha hs ht he hgc hxg) (cwV 4 hts gX1_value_X1_isPlace rfl rfl rfl (by decide +kernel) ⟨Nat.le_of_ble_eq_true rfl, Nat.le_of_ble_eq_true rfl⟩) ⟨pP_blind, va_recv hK hP (ci := 1) (q0 := 0) rfl rfl, pP_pre hP hK⟩ rfl rfl hl.1 rfl (lv_room (Nat.le_of_ble_eq_true rfl)) dX1_value_6 ⟨Nat.zero_le _, Nat.zero_le _⟩) ?_
  refine lv_istore (lv' := [(5, .int (bI true)), (0, .ref h), (1, .int (nI g)), (2, .int (nI a)), (3, .int (nI sp)), (4, .int (nI tp))]) hx hb dX1_value_9 hl (by decide) rfl (fun ls hl => ?_)
  refine lv_aload_n hx hb dX1_value_11 rfl (lv_at hl 1 rfl) ?_
  refine lv_iload hx hb dX1_value_12 (lv_at hl 0 rfl) ?_
  refine q_ifB_ne (b := true) (tgt := 21) hx hb dX1_value_14 (by decide) (fun k14 => ?_) (fun k14 => absurd k14 (by decide))
  refine lv_aload_n hx hb dX1_value_21 rfl (lv_at hl 1 rfl) ?_
  refine lv_iload_n hx hb dX1_value_22 rfl (lv_at hl 2 rfl) ?_
  refine lv_iload_n hx hb dX1_value_23 rfl (lv_at hl 3 rfl) ?_
  refine lv_iload_n hx hb dX1_value_24 rfl (lv_at hl 4 rfl) ?_
  refine lv_iload hx hb dX1_value_25 (lv_at hl 5 rfl) ?_
  refine q_callI (r := oI (vlu ex pa ho dv a (sp + 1) (tp + 1) g)) (va_runV (As := [.int (nI g), .int (nI a), .int (nI sp), .int (nI tp)]) (rest := [.ref h]) ⟨hx, hb, hml, hown, hts⟩ (kX1_valueOf l D h ad cI cJ cZ td gc ex pa di qu dc dg da dh dt dv dd ds ak se pr th ho lev g a sp tp hti hg he ha hs ht hrd hrh hpr hho) (cwV 4 hts gX1_value_X1_valueOf rfl rfl rfl (by decide +kernel) ⟨Nat.le_of_ble_eq_true rfl, Nat.le_of_ble_eq_true rfl⟩) ⟨pP_blind, va_recv hK hP (ci := 1) (q0 := 0) rfl rfl, pP_pre hP hK⟩ rfl rfl hl.1 rfl (lv_room (Nat.le_of_ble_eq_true rfl)) dX1_value_27 ⟨Nat.zero_le _, Nat.zero_le _⟩) ?_
  refine lv_iconst (v := oI none) hx hb dX1_value_30 (by decide) ?_
  refine q_icmpO_ne (a := vlu ex pa ho dv a (sp + 1) (tp + 1) g) (b := none) (tgt := 38) (fun k h9 => by have := vlu_in hho hpr hdv hg ha (show sp + 1 < 4 by omega) (show tp + 1 < 4 by omega) k h9; omega) (fun k h9 => by cases h9) hx hb dX1_value_31 (by decide) (fun k31 => absurd hnv k31) (fun k31 => ?_)
  refine lv_iconst (v := nI 2) hx hb dX1_value_34 (by decide) ?_
  refine lv_goto (tgt := 39) hx hb dX1_value_35 (by decide) ?_
  refine q_wcallI (r := bI (decide (0 < 2))) (w' := (mW h ad cI cJ cZ td gc ex pa di qu dc dg da dh dt dv dd ds ak se pr 2)) (va_runV (As := [.int (nI 2)]) (rest := []) ⟨hx, hb, hml, hown, hts⟩ (kX1_fails l D h ad cI cJ cZ td gc ex pa di qu dc dg da dh dt dv dd ds ak se pr th _ 2 (by decide)) (cwV 1 hts gX1_value_X1_fails rfl rfl rfl (by decide +kernel) ⟨Nat.le_of_ble_eq_true rfl, Nat.le_of_ble_eq_true rfl⟩) ⟨wP_blind, va_recv hK hP (ci := 1) (q0 := 0) rfl rfl, wP_pre hP hK hD⟩ rfl rfl hl.1 rfl (lv_room (Nat.le_of_ble_eq_true rfl)) dX1_value_39 ⟨Nat.zero_le _, Nat.zero_le _⟩) hD hS hA rfl (fun H locs hP hD hS => ?_)
  refine q_ifB_eq (b := decide (0 < 2)) (tgt := 49) hx hb dX1_value_42 (by decide) (fun k42 => absurd k42 (by decide)) (fun k42 => ?_)
  refine lv_iconst (v := nI 0) hx hb dX1_value_45 (by decide) ?_
  refine lv_goto (tgt := 58) hx hb dX1_value_46 (by decide) ?_
  exact q_wretI hx hb hr hlocks hAe hP hS (rfl) dX1_value_58

set_option maxHeartbeats 4000000 in
set_option maxRecDepth 100000 in
theorem kX1_value1 (l : Launch) (D : va_G) (h : Nat) (ad : Nat → Nat) (cI cJ cZ : ClassId) (td : Nat) (gc : Nat) (ex : Nat → Bool) (pa : Nat → Option Nat) (di : Nat → Nat) (qu : Nat → Nat) (dc : Nat) (dg : Nat → Nat) (da : Nat → Nat) (dh : Nat → Option Nat) (dt : Nat → Option Nat) (dv : Nat → Option Nat) (dd : Nat → Nat) (ds : Nat → Nat) (ak : Nat → Bool) (se : Nat → Option Nat) (pr : Nat → Option Nat) (th : Nat) (sz : Nat) (g a x y : Int32) (hgc : gc ≤ 16) (hxg : ∀ j, j < 16 → ex j = true → j < gc) (hs : (gBad ex g ∨ ∃ j, j < 16 ∧ g = nI j ∧ ex j = true ∧ (aBad 6 a ∨ ∃ a2, a2 < 6 ∧ a = nI a2 ∧ (aBad 3 x ∨ ∃ x2, x2 < 3 ∧ x = nI x2 ∧ aBad 3 y)))) : Met l yX1_value wsX1_value ({ frames := 3, cells := 0, slots := 0, locals := 67 } : Room) (wP D (mW h ad cI cJ cZ td gc ex pa di qu dc dg da dh dt dv dd ds ak se pr th) (mT cI cJ cZ) [.ref h, .int g, .int a, .int x, .int y] sz) (wQ D (mW h ad cI cJ cZ td gc ex pa di qu dc dg da dh dt dv dd ds ak se pr th) (mW h ad cI cJ cZ td gc ex pa di qu dc dg da dh dt dv dd ds ak se pr 1) (some (.int (nI 0)))) 0 0 (va_A (mW h ad cI cJ cZ td gc ex pa di qu dc dg da dh dt dv dd ds ak se pr th) sz) := by
  refine Met.ofW (cc := cX1_value) (maxL := 6) (ret := (some .int)) (by decide) rfl ?_
  intro p e s m args below meth c s₁ B hml hv
  obtain ⟨rfl, hsz, hP, hK, hD0⟩ := hv
  have hx := B.exec
  have hb := B.bytes
  have hr := B.returns
  have hts := atoms_spec (ws := wsX1_value) B.pre
  have hown : s.vm.findClass RX1 = some m.cls := findClass_of_methodNamed B.named
  have hlocks := B.notSynchronized
  subst hsz
  have hD := hD0.self (sz := s.heap.size)
  generalize hAe : va_A (mW h ad cI cJ cZ td gc ex pa di qu dc dg da dh dt dv dd ds ak se pr th) s.heap.size = A at hD ⊢
  have hA : ∀ q : Nat, s.heap.size ≤ q → A q := fun q h => by rw [← hAe]; exact Or.inr h
  have hS : va_S A s.heap s.heap [] := va_S.rf
  have hl := lv_entry ([.ref h, .int g, .int a, .int x, .int y]) (n := 6) (Nat.le_of_ble_eq_true rfl)
  rw [lg_entry_eq]
  generalize (lg_sl ([.ref h, .int g, .int a, .int x, .int y]) ++ List.replicate (6 - (lg_sl ([.ref h, .int g, .int a, .int x, .int y])).length) Slot.unset).toArray = ls at hl ⊢
  have hl : lv_has ls 6 [(0, .ref h), (1, .int g), (2, .int a), (3, .int x), (4, .int y)] := hl
  refine lv_aload_n hx hb dX1_value_0 rfl (lv_at hl 0 rfl) ?_
  refine lv_iload_n hx hb dX1_value_1 rfl (lv_at hl 1 rfl) ?_
  refine lv_iload_n hx hb dX1_value_2 rfl (lv_at hl 2 rfl) ?_
  refine lv_iload_n hx hb dX1_value_3 rfl (lv_at hl 3 rfl) ?_
  refine lv_iload hx hb dX1_value_4 (lv_at hl 4 rfl) ?_
  refine q_callI (r := bI false) (va_runV (As := [.int g, .int a, .int x, .int y]) (rest := []) ⟨hx, hb, hml, hown, hts⟩ (kX1_isPlaceX l D h ad cI cJ cZ td gc ex pa di qu dc dg da dh dt dv dd ds ak se pr th g a x y hgc hxg hs) (cwV 4 hts gX1_value_X1_isPlace rfl rfl rfl (by decide +kernel) ⟨Nat.le_of_ble_eq_true rfl, Nat.le_of_ble_eq_true rfl⟩) ⟨pP_blind, va_recv hK hP (ci := 1) (q0 := 0) rfl rfl, pP_pre hP hK⟩ rfl rfl hl.1 rfl (lv_room (Nat.le_of_ble_eq_true rfl)) dX1_value_6 ⟨Nat.zero_le _, Nat.zero_le _⟩) ?_
  refine lv_istore (lv' := [(5, .int (bI false)), (0, .ref h), (1, .int g), (2, .int a), (3, .int x), (4, .int y)]) hx hb dX1_value_9 hl (by decide) rfl (fun ls hl => ?_)
  refine lv_aload_n hx hb dX1_value_11 rfl (lv_at hl 1 rfl) ?_
  refine lv_iload hx hb dX1_value_12 (lv_at hl 0 rfl) ?_
  refine q_ifB_ne (b := false) (tgt := 21) hx hb dX1_value_14 (by decide) (fun k14 => absurd k14 (by decide)) (fun k14 => ?_)
  refine lv_iconst (v := nI 1) hx hb dX1_value_17 (by decide) ?_
  refine lv_goto (tgt := 39) hx hb dX1_value_18 (by decide) ?_
  refine q_wcallI (r := bI (decide (0 < 1))) (w' := (mW h ad cI cJ cZ td gc ex pa di qu dc dg da dh dt dv dd ds ak se pr 1)) (va_runV (As := [.int (nI 1)]) (rest := []) ⟨hx, hb, hml, hown, hts⟩ (kX1_fails l D h ad cI cJ cZ td gc ex pa di qu dc dg da dh dt dv dd ds ak se pr th _ 1 (by decide)) (cwV 1 hts gX1_value_X1_fails rfl rfl rfl (by decide +kernel) ⟨Nat.le_of_ble_eq_true rfl, Nat.le_of_ble_eq_true rfl⟩) ⟨wP_blind, va_recv hK hP (ci := 1) (q0 := 0) rfl rfl, wP_pre hP hK hD⟩ rfl rfl hl.1 rfl (lv_room (Nat.le_of_ble_eq_true rfl)) dX1_value_39 ⟨Nat.zero_le _, Nat.zero_le _⟩) hD hS hA rfl (fun H locs hP hD hS => ?_)
  refine q_ifB_eq (b := decide (0 < 1)) (tgt := 49) hx hb dX1_value_42 (by decide) (fun k42 => absurd k42 (by decide)) (fun k42 => ?_)
  refine lv_iconst (v := nI 0) hx hb dX1_value_45 (by decide) ?_
  refine lv_goto (tgt := 58) hx hb dX1_value_46 (by decide) ?_
  exact q_wretI hx hb hr hlocks hAe hP hS (rfl) dX1_value_58

set_option maxHeartbeats 4000000 in
set_option maxRecDepth 100000 in
theorem kX1_origin (l : Launch) (D : va_G) (h : Nat) (ad : Nat → Nat) (cI cJ cZ : ClassId) (td : Nat) (gc : Nat) (ex : Nat → Bool) (pa : Nat → Option Nat) (di : Nat → Nat) (qu : Nat → Nat) (dc : Nat) (dg : Nat → Nat) (da : Nat → Nat) (dh : Nat → Option Nat) (dt : Nat → Option Nat) (dv : Nat → Option Nat) (dd : Nat → Nat) (ds : Nat → Nat) (ak : Nat → Bool) (se : Nat → Option Nat) (pr : Nat → Option Nat) (th : Nat) (sz : Nat) (ho : Nat → Option Nat) (lev : Nat → Nat) (g a sp tp : Nat) (hti : TI ex pa lev) (hg : g < 16) (he : ex g = true) (ha : a < 6) (hs : sp < 3) (ht : tp < 3) (hgc : gc ≤ 16) (hxg : ∀ j, j < 16 → ex j = true → j < gc) (hrd : RD dc dg da dh dt dd ds td) (hrh : RH ex ho dc dg da dh dt dd ds td) (hpr : PR pa) (hho : HO ho dc) : Met l yX1_origin wsX1_origin ({ frames := 3, cells := 0, slots := 0, locals := 67 } : Room) (wP D (mW h ad cI cJ cZ td gc ex pa di qu dc dg da dh dt dv dd ds ak se pr th) (mT cI cJ cZ) [.ref h, .int (nI g), .int (nI a), .int (nI sp), .int (nI tp)] sz) (wQ D (mW h ad cI cJ cZ td gc ex pa di qu dc dg da dh dt dv dd ds ak se pr th) (mW h ad cI cJ cZ td gc ex pa di qu dc dg da dh dt dv dd ds ak se pr 0) (some (.int (oI (org ex pa ho a (sp + 1) (tp + 1) 3 (some g)))))) 0 0 (va_A (mW h ad cI cJ cZ td gc ex pa di qu dc dg da dh dt dv dd ds ak se pr th) sz) := by
  refine Met.ofW (cc := cX1_origin) (maxL := 5) (ret := (some .int)) (by decide) rfl ?_
  intro p e s m args below meth c s₁ B hml hv
  obtain ⟨rfl, hsz, hP, hK, hD0⟩ := hv
  have hx := B.exec
  have hb := B.bytes
  have hr := B.returns
  have hts := atoms_spec (ws := wsX1_origin) B.pre
  have hown : s.vm.findClass RX1 = some m.cls := findClass_of_methodNamed B.named
  have hlocks := B.notSynchronized
  subst hsz
  have hD := hD0.self (sz := s.heap.size)
  generalize hAe : va_A (mW h ad cI cJ cZ td gc ex pa di qu dc dg da dh dt dv dd ds ak se pr th) s.heap.size = A at hD ⊢
  have hA : ∀ q : Nat, s.heap.size ≤ q → A q := fun q h => by rw [← hAe]; exact Or.inr h
  have hS : va_S A s.heap s.heap [] := va_S.rf
  have hl := lv_entry ([.ref h, .int (nI g), .int (nI a), .int (nI sp), .int (nI tp)]) (n := 5) (Nat.le_of_ble_eq_true rfl)
  rw [lg_entry_eq]
  generalize (lg_sl ([.ref h, .int (nI g), .int (nI a), .int (nI sp), .int (nI tp)]) ++ List.replicate (5 - (lg_sl ([.ref h, .int (nI g), .int (nI a), .int (nI sp), .int (nI tp)])).length) Slot.unset).toArray = ls at hl ⊢
  have hl : lv_has ls 5 [(0, .ref h), (1, .int (nI g)), (2, .int (nI a)), (3, .int (nI sp)), (4, .int (nI tp))] := hl
  refine lv_aload_n hx hb dX1_origin_0 rfl (lv_at hl 0 rfl) ?_
  refine lv_aload_n hx hb dX1_origin_1 rfl (lv_at hl 0 rfl) ?_
  refine lv_iload_n hx hb dX1_origin_2 rfl (lv_at hl 1 rfl) ?_
  refine lv_iload_n hx hb dX1_origin_3 rfl (lv_at hl 2 rfl) ?_
  refine lv_iload_n hx hb dX1_origin_4 rfl (lv_at hl 3 rfl) ?_
  refine lv_iload hx hb dX1_origin_5 (lv_at hl 4 rfl) ?_
  refine q_callI (r := bI true) (va_runV (As := [.int (nI g), .int (nI a), .int (nI sp), .int (nI tp)]) (rest := [.ref h]) ⟨hx, hb, hml, hown, hts⟩ (kX1_isPlace l D h ad cI cJ cZ td gc ex pa di qu dc dg da dh dt dv dd ds ak se pr th g a sp tp hg ha hs ht he hgc hxg) (cwV 4 hts gX1_origin_X1_isPlace rfl rfl rfl (by decide +kernel) ⟨Nat.le_of_ble_eq_true rfl, Nat.le_of_ble_eq_true rfl⟩) ⟨pP_blind, va_recv hK hP (ci := 1) (q0 := 0) rfl rfl, pP_pre hP hK⟩ rfl rfl hl.1 rfl (lv_room (Nat.le_of_ble_eq_true rfl)) dX1_origin_7 ⟨Nat.zero_le _, Nat.zero_le _⟩) ?_
  refine q_ifB_eq (b := true) (tgt := 17) hx hb dX1_origin_10 (by decide) (fun k10 => absurd k10 (by decide)) (fun k10 => ?_)
  refine lv_iconst (v := nI 0) hx hb dX1_origin_13 (by decide) ?_
  refine lv_goto (tgt := 18) hx hb dX1_origin_14 (by decide) ?_
  refine q_wcallI (r := bI (decide (0 < 0))) (w' := (mW h ad cI cJ cZ td gc ex pa di qu dc dg da dh dt dv dd ds ak se pr 0)) (va_runV (As := [.int (nI 0)]) (rest := []) ⟨hx, hb, hml, hown, hts⟩ (kX1_fails l D h ad cI cJ cZ td gc ex pa di qu dc dg da dh dt dv dd ds ak se pr th _ 0 (by decide)) (cwV 1 hts gX1_origin_X1_fails rfl rfl rfl (by decide +kernel) ⟨Nat.le_of_ble_eq_true rfl, Nat.le_of_ble_eq_true rfl⟩) ⟨wP_blind, va_recv hK hP (ci := 1) (q0 := 0) rfl rfl, wP_pre hP hK hD⟩ rfl rfl hl.1 rfl (lv_room (Nat.le_of_ble_eq_true rfl)) dX1_origin_18 ⟨Nat.zero_le _, Nat.zero_le _⟩) hD hS hA rfl (fun H locs hP hD hS => ?_)
  refine q_ifB_eq (b := decide (0 < 0)) (tgt := 28) hx hb dX1_origin_21 (by decide) (fun k21 => ?_) (fun k21 => absurd k21 (by decide))
  refine lv_aload_n hx hb dX1_origin_28 rfl (lv_at hl 0 rfl) ?_
  refine lv_iload_n hx hb dX1_origin_29 rfl (lv_at hl 1 rfl) ?_
  refine lv_iload_n hx hb dX1_origin_30 rfl (lv_at hl 2 rfl) ?_
  refine lv_iload_n hx hb dX1_origin_31 rfl (lv_at hl 3 rfl) ?_
  refine lv_iload hx hb dX1_origin_32 (lv_at hl 4 rfl) ?_
  refine q_callI (r := oI (org ex pa ho a (sp + 1) (tp + 1) 3 (some g))) (va_runV (As := [.int (nI g), .int (nI a), .int (nI sp), .int (nI tp)]) (rest := []) ⟨hx, hb, hml, hown, hts⟩ (kX1_originOf l D h ad cI cJ cZ td gc ex pa di qu dc dg da dh dt dv dd ds ak se pr 0 ho lev g a sp tp hti hg he ha hs ht hrd hrh) (cwV 4 hts gX1_origin_X1_originOf rfl rfl rfl (by decide +kernel) ⟨Nat.le_of_ble_eq_true rfl, Nat.le_of_ble_eq_true rfl⟩) ⟨pP_blind, va_recv hK hP (ci := 1) (q0 := 0) rfl rfl, pP_pre hP hK⟩ rfl rfl hl.1 rfl (lv_room (Nat.le_of_ble_eq_true rfl)) dX1_origin_34 ⟨Nat.zero_le _, Nat.zero_le _⟩) ?_
  exact q_wretI hx hb hr hlocks hAe hP hS (rfl) dX1_origin_37

set_option maxHeartbeats 4000000 in
set_option maxRecDepth 100000 in
theorem kX1_origin1 (l : Launch) (D : va_G) (h : Nat) (ad : Nat → Nat) (cI cJ cZ : ClassId) (td : Nat) (gc : Nat) (ex : Nat → Bool) (pa : Nat → Option Nat) (di : Nat → Nat) (qu : Nat → Nat) (dc : Nat) (dg : Nat → Nat) (da : Nat → Nat) (dh : Nat → Option Nat) (dt : Nat → Option Nat) (dv : Nat → Option Nat) (dd : Nat → Nat) (ds : Nat → Nat) (ak : Nat → Bool) (se : Nat → Option Nat) (pr : Nat → Option Nat) (th : Nat) (sz : Nat) (g a x y : Int32) (hgc : gc ≤ 16) (hxg : ∀ j, j < 16 → ex j = true → j < gc) (hs : (gBad ex g ∨ ∃ j, j < 16 ∧ g = nI j ∧ ex j = true ∧ (aBad 6 a ∨ ∃ a2, a2 < 6 ∧ a = nI a2 ∧ (aBad 3 x ∨ ∃ x2, x2 < 3 ∧ x = nI x2 ∧ aBad 3 y)))) : Met l yX1_origin wsX1_origin ({ frames := 3, cells := 0, slots := 0, locals := 67 } : Room) (wP D (mW h ad cI cJ cZ td gc ex pa di qu dc dg da dh dt dv dd ds ak se pr th) (mT cI cJ cZ) [.ref h, .int g, .int a, .int x, .int y] sz) (wQ D (mW h ad cI cJ cZ td gc ex pa di qu dc dg da dh dt dv dd ds ak se pr th) (mW h ad cI cJ cZ td gc ex pa di qu dc dg da dh dt dv dd ds ak se pr 1) (some (.int (nI 0)))) 0 0 (va_A (mW h ad cI cJ cZ td gc ex pa di qu dc dg da dh dt dv dd ds ak se pr th) sz) := by
  refine Met.ofW (cc := cX1_origin) (maxL := 5) (ret := (some .int)) (by decide) rfl ?_
  intro p e s m args below meth c s₁ B hml hv
  obtain ⟨rfl, hsz, hP, hK, hD0⟩ := hv
  have hx := B.exec
  have hb := B.bytes
  have hr := B.returns
  have hts := atoms_spec (ws := wsX1_origin) B.pre
  have hown : s.vm.findClass RX1 = some m.cls := findClass_of_methodNamed B.named
  have hlocks := B.notSynchronized
  subst hsz
  have hD := hD0.self (sz := s.heap.size)
  generalize hAe : va_A (mW h ad cI cJ cZ td gc ex pa di qu dc dg da dh dt dv dd ds ak se pr th) s.heap.size = A at hD ⊢
  have hA : ∀ q : Nat, s.heap.size ≤ q → A q := fun q h => by rw [← hAe]; exact Or.inr h
  have hS : va_S A s.heap s.heap [] := va_S.rf
  have hl := lv_entry ([.ref h, .int g, .int a, .int x, .int y]) (n := 5) (Nat.le_of_ble_eq_true rfl)
  rw [lg_entry_eq]
  generalize (lg_sl ([.ref h, .int g, .int a, .int x, .int y]) ++ List.replicate (5 - (lg_sl ([.ref h, .int g, .int a, .int x, .int y])).length) Slot.unset).toArray = ls at hl ⊢
  have hl : lv_has ls 5 [(0, .ref h), (1, .int g), (2, .int a), (3, .int x), (4, .int y)] := hl
  refine lv_aload_n hx hb dX1_origin_0 rfl (lv_at hl 0 rfl) ?_
  refine lv_aload_n hx hb dX1_origin_1 rfl (lv_at hl 0 rfl) ?_
  refine lv_iload_n hx hb dX1_origin_2 rfl (lv_at hl 1 rfl) ?_
  refine lv_iload_n hx hb dX1_origin_3 rfl (lv_at hl 2 rfl) ?_
  refine lv_iload_n hx hb dX1_origin_4 rfl (lv_at hl 3 rfl) ?_
  refine lv_iload hx hb dX1_origin_5 (lv_at hl 4 rfl) ?_
  refine q_callI (r := bI false) (va_runV (As := [.int g, .int a, .int x, .int y]) (rest := [.ref h]) ⟨hx, hb, hml, hown, hts⟩ (kX1_isPlaceX l D h ad cI cJ cZ td gc ex pa di qu dc dg da dh dt dv dd ds ak se pr th g a x y hgc hxg hs) (cwV 4 hts gX1_origin_X1_isPlace rfl rfl rfl (by decide +kernel) ⟨Nat.le_of_ble_eq_true rfl, Nat.le_of_ble_eq_true rfl⟩) ⟨pP_blind, va_recv hK hP (ci := 1) (q0 := 0) rfl rfl, pP_pre hP hK⟩ rfl rfl hl.1 rfl (lv_room (Nat.le_of_ble_eq_true rfl)) dX1_origin_7 ⟨Nat.zero_le _, Nat.zero_le _⟩) ?_
  refine q_ifB_eq (b := false) (tgt := 17) hx hb dX1_origin_10 (by decide) (fun k10 => ?_) (fun k10 => absurd k10 (by decide))
  refine lv_iconst (v := nI 1) hx hb dX1_origin_17 (by decide) ?_
  refine q_wcallI (r := bI (decide (0 < 1))) (w' := (mW h ad cI cJ cZ td gc ex pa di qu dc dg da dh dt dv dd ds ak se pr 1)) (va_runV (As := [.int (nI 1)]) (rest := []) ⟨hx, hb, hml, hown, hts⟩ (kX1_fails l D h ad cI cJ cZ td gc ex pa di qu dc dg da dh dt dv dd ds ak se pr th _ 1 (by decide)) (cwV 1 hts gX1_origin_X1_fails rfl rfl rfl (by decide +kernel) ⟨Nat.le_of_ble_eq_true rfl, Nat.le_of_ble_eq_true rfl⟩) ⟨wP_blind, va_recv hK hP (ci := 1) (q0 := 0) rfl rfl, wP_pre hP hK hD⟩ rfl rfl hl.1 rfl (lv_room (Nat.le_of_ble_eq_true rfl)) dX1_origin_18 ⟨Nat.zero_le _, Nat.zero_le _⟩) hD hS hA rfl (fun H locs hP hD hS => ?_)
  refine q_ifB_eq (b := decide (0 < 1)) (tgt := 28) hx hb dX1_origin_21 (by decide) (fun k21 => absurd k21 (by decide)) (fun k21 => ?_)
  refine lv_iconst (v := nI 0) hx hb dX1_origin_24 (by decide) ?_
  refine lv_goto (tgt := 37) hx hb dX1_origin_25 (by decide) ?_
  exact q_wretI hx hb hr hlocks hAe hP hS (rfl) dX1_origin_37

set_option maxHeartbeats 4000000 in
set_option maxRecDepth 100000 in
theorem kX1_missing (l : Launch) (D : va_G) (h : Nat) (ad : Nat → Nat) (cI cJ cZ : ClassId) (td : Nat) (gc : Nat) (ex : Nat → Bool) (pa : Nat → Option Nat) (di : Nat → Nat) (qu : Nat → Nat) (dc : Nat) (dg : Nat → Nat) (da : Nat → Nat) (dh : Nat → Option Nat) (dt : Nat → Option Nat) (dv : Nat → Option Nat) (dd : Nat → Nat) (ds : Nat → Nat) (ak : Nat → Bool) (se : Nat → Option Nat) (pr : Nat → Option Nat) (th : Nat) (sz : Nat) (ho : Nat → Option Nat) (lev : Nat → Nat) (g sp tp : Nat) (hti : TI ex pa lev) (hg : g < 16) (he : ex g = true) (hs : sp < 3) (ht : tp < 3) (hgc : gc ≤ 16) (hxg : ∀ j, j < 16 → ex j = true → j < gc) (hrd : RD dc dg da dh dt dd ds td) (hrh : RH ex ho dc dg da dh dt dd ds td) (hpr : PR pa) (hho : HO ho dc) (hdv : DV dv dc) : Met l yX1_missing wsX1_missing ({ frames := 4, cells := 0, slots := 0, locals := 104 } : Room) (wP D (mW h ad cI cJ cZ td gc ex pa di qu dc dg da dh dt dv dd ds ak se pr th) (mT cI cJ cZ) [.ref h, .int (nI g), .int (nI sp), .int (nI tp)] sz) (wQ D (mW h ad cI cJ cZ td gc ex pa di qu dc dg da dh dt dv dd ds ak se pr th) (mW h ad cI cJ cZ td gc ex pa di qu dc dg da dh dt dv dd ds ak se pr 0) (some (.int (nI (bset (lck ex pa ho dv ak g sp tp) 6))))) 0 0 (va_A (mW h ad cI cJ cZ td gc ex pa di qu dc dg da dh dt dv dd ds ak se pr th) sz) := by
  refine Met.ofW (cc := cX1_missing) (maxL := 4) (ret := (some .int)) (by decide) rfl ?_
  intro p e s m args below meth c s₁ B hml hv
  obtain ⟨rfl, hsz, hP, hK, hD0⟩ := hv
  have hx := B.exec
  have hb := B.bytes
  have hr := B.returns
  have hts := atoms_spec (ws := wsX1_missing) B.pre
  have hown : s.vm.findClass RX1 = some m.cls := findClass_of_methodNamed B.named
  have hlocks := B.notSynchronized
  subst hsz
  have hD := hD0.self (sz := s.heap.size)
  generalize hAe : va_A (mW h ad cI cJ cZ td gc ex pa di qu dc dg da dh dt dv dd ds ak se pr th) s.heap.size = A at hD ⊢
  have hA : ∀ q : Nat, s.heap.size ≤ q → A q := fun q h => by rw [← hAe]; exact Or.inr h
  have hS : va_S A s.heap s.heap [] := va_S.rf
  have hl := lv_entry ([.ref h, .int (nI g), .int (nI sp), .int (nI tp)]) (n := 4) (Nat.le_of_ble_eq_true rfl)
  rw [lg_entry_eq]
  generalize (lg_sl ([.ref h, .int (nI g), .int (nI sp), .int (nI tp)]) ++ List.replicate (4 - (lg_sl ([.ref h, .int (nI g), .int (nI sp), .int (nI tp)])).length) Slot.unset).toArray = ls at hl ⊢
  have hl : lv_has ls 4 [(0, .ref h), (1, .int (nI g)), (2, .int (nI sp)), (3, .int (nI tp))] := hl
  refine lv_aload_n hx hb dX1_missing_0 rfl (lv_at hl 0 rfl) ?_
  refine lv_aload_n hx hb dX1_missing_1 rfl (lv_at hl 0 rfl) ?_
  refine lv_iload_n hx hb dX1_missing_2 rfl (lv_at hl 1 rfl) ?_
  refine lv_iconst (v := nI 0) hx hb dX1_missing_3 (by decide) ?_
  refine lv_iload_n hx hb dX1_missing_4 rfl (lv_at hl 2 rfl) ?_
  refine lv_iload_n hx hb dX1_missing_5 rfl (lv_at hl 3 rfl) ?_
  refine q_callI (r := bI true) (va_runV (As := [.int (nI g), .int (nI 0), .int (nI sp), .int (nI tp)]) (rest := [.ref h]) ⟨hx, hb, hml, hown, hts⟩ (kX1_isPlace l D h ad cI cJ cZ td gc ex pa di qu dc dg da dh dt dv dd ds ak se pr th g 0 sp tp hg (by decide) hs ht he hgc hxg) (cwV 4 hts gX1_missing_X1_isPlace rfl rfl rfl (by decide +kernel) ⟨Nat.le_of_ble_eq_true rfl, Nat.le_of_ble_eq_true rfl⟩) ⟨pP_blind, va_recv hK hP (ci := 1) (q0 := 0) rfl rfl, pP_pre hP hK⟩ rfl rfl hl.1 rfl (lv_room (Nat.le_of_ble_eq_true rfl)) dX1_missing_6 ⟨Nat.zero_le _, Nat.zero_le _⟩) ?_
  refine q_ifB_eq (b := true) (tgt := 16) hx hb dX1_missing_9 (by decide) (fun k9 => absurd k9 (by decide)) (fun k9 => ?_)
  refine lv_iconst (v := nI 0) hx hb dX1_missing_12 (by decide) ?_
  refine lv_goto (tgt := 17) hx hb dX1_missing_13 (by decide) ?_
  refine q_wcallI (r := bI (decide (0 < 0))) (w' := (mW h ad cI cJ cZ td gc ex pa di qu dc dg da dh dt dv dd ds ak se pr 0)) (va_runV (As := [.int (nI 0)]) (rest := []) ⟨hx, hb, hml, hown, hts⟩ (kX1_fails l D h ad cI cJ cZ td gc ex pa di qu dc dg da dh dt dv dd ds ak se pr th _ 0 (by decide)) (cwV 1 hts gX1_missing_X1_fails rfl rfl rfl (by decide +kernel) ⟨Nat.le_of_ble_eq_true rfl, Nat.le_of_ble_eq_true rfl⟩) ⟨wP_blind, va_recv hK hP (ci := 1) (q0 := 0) rfl rfl, wP_pre hP hK hD⟩ rfl rfl hl.1 rfl (lv_room (Nat.le_of_ble_eq_true rfl)) dX1_missing_17 ⟨Nat.zero_le _, Nat.zero_le _⟩) hD hS hA rfl (fun H locs hP hD hS => ?_)
  refine q_ifB_eq (b := decide (0 < 0)) (tgt := 27) hx hb dX1_missing_20 (by decide) (fun k20 => ?_) (fun k20 => absurd k20 (by decide))
  refine lv_aload_n hx hb dX1_missing_27 rfl (lv_at hl 0 rfl) ?_
  refine lv_iload_n hx hb dX1_missing_28 rfl (lv_at hl 1 rfl) ?_
  refine lv_iload_n hx hb dX1_missing_29 rfl (lv_at hl 2 rfl) ?_
  refine lv_iload_n hx hb dX1_missing_30 rfl (lv_at hl 3 rfl) ?_
  refine q_callI (r := nI (bset (lck ex pa ho dv ak g sp tp) 6)) (va_runV (As := [.int (nI g), .int (nI sp), .int (nI tp)]) (rest := []) ⟨hx, hb, hml, hown, hts⟩ (kX1_lacks l D h ad cI cJ cZ td gc ex pa di qu dc dg da dh dt dv dd ds ak se pr 0 ho lev g sp tp hti hg he hs ht hrd hrh hpr hho hdv) (cwV 3 hts gX1_missing_X1_lacks rfl rfl rfl (by decide +kernel) ⟨Nat.le_of_ble_eq_true rfl, Nat.le_of_ble_eq_true rfl⟩) ⟨pP_blind, va_recv hK hP (ci := 1) (q0 := 0) rfl rfl, pP_pre hP hK⟩ rfl rfl hl.1 rfl (lv_room (Nat.le_of_ble_eq_true rfl)) dX1_missing_31 ⟨Nat.zero_le _, Nat.zero_le _⟩) ?_
  exact q_wretI hx hb hr hlocks hAe hP hS (rfl) dX1_missing_34

set_option maxHeartbeats 4000000 in
set_option maxRecDepth 100000 in
theorem kX1_missing1 (l : Launch) (D : va_G) (h : Nat) (ad : Nat → Nat) (cI cJ cZ : ClassId) (td : Nat) (gc : Nat) (ex : Nat → Bool) (pa : Nat → Option Nat) (di : Nat → Nat) (qu : Nat → Nat) (dc : Nat) (dg : Nat → Nat) (da : Nat → Nat) (dh : Nat → Option Nat) (dt : Nat → Option Nat) (dv : Nat → Option Nat) (dd : Nat → Nat) (ds : Nat → Nat) (ak : Nat → Bool) (se : Nat → Option Nat) (pr : Nat → Option Nat) (th : Nat) (sz : Nat) (g x y : Int32) (hgc : gc ≤ 16) (hxg : ∀ j, j < 16 → ex j = true → j < gc) (hs0 : (gBad ex g ∨ ∃ j, j < 16 ∧ g = nI j ∧ ex j = true ∧ (aBad 3 x ∨ ∃ x2, x2 < 3 ∧ x = nI x2 ∧ aBad 3 y))) : Met l yX1_missing wsX1_missing ({ frames := 3, cells := 0, slots := 0, locals := 67 } : Room) (wP D (mW h ad cI cJ cZ td gc ex pa di qu dc dg da dh dt dv dd ds ak se pr th) (mT cI cJ cZ) [.ref h, .int g, .int x, .int y] sz) (wQ D (mW h ad cI cJ cZ td gc ex pa di qu dc dg da dh dt dv dd ds ak se pr th) (mW h ad cI cJ cZ td gc ex pa di qu dc dg da dh dt dv dd ds ak se pr 1) (some (.int (nI 0)))) 0 0 (va_A (mW h ad cI cJ cZ td gc ex pa di qu dc dg da dh dt dv dd ds ak se pr th) sz) := by
  refine Met.ofW (cc := cX1_missing) (maxL := 4) (ret := (some .int)) (by decide) rfl ?_
  intro p e s m args below meth c s₁ B hml hv
  obtain ⟨rfl, hsz, hP, hK, hD0⟩ := hv
  have hx := B.exec
  have hb := B.bytes
  have hr := B.returns
  have hts := atoms_spec (ws := wsX1_missing) B.pre
  have hown : s.vm.findClass RX1 = some m.cls := findClass_of_methodNamed B.named
  have hlocks := B.notSynchronized
  subst hsz
  have hD := hD0.self (sz := s.heap.size)
  generalize hAe : va_A (mW h ad cI cJ cZ td gc ex pa di qu dc dg da dh dt dv dd ds ak se pr th) s.heap.size = A at hD ⊢
  have hA : ∀ q : Nat, s.heap.size ≤ q → A q := fun q h => by rw [← hAe]; exact Or.inr h
  have hS : va_S A s.heap s.heap [] := va_S.rf
  have hl := lv_entry ([.ref h, .int g, .int x, .int y]) (n := 4) (Nat.le_of_ble_eq_true rfl)
  rw [lg_entry_eq]
  generalize (lg_sl ([.ref h, .int g, .int x, .int y]) ++ List.replicate (4 - (lg_sl ([.ref h, .int g, .int x, .int y])).length) Slot.unset).toArray = ls at hl ⊢
  have hl : lv_has ls 4 [(0, .ref h), (1, .int g), (2, .int x), (3, .int y)] := hl
  have hs : (gBad ex g ∨ ∃ j, j < 16 ∧ g = nI j ∧ ex j = true ∧ (aBad 6 (nI 0) ∨ ∃ a2, a2 < 6 ∧ nI 0 = nI a2 ∧ (aBad 3 x ∨ ∃ x2, x2 < 3 ∧ x = nI x2 ∧ aBad 3 y))) := by
    rcases hs0 with h1 | ⟨j, h1, h2, h3, h4⟩
    · exact Or.inl h1
    · exact Or.inr ⟨j, h1, h2, h3, Or.inr ⟨0, by decide, rfl, h4⟩⟩
  refine lv_aload_n hx hb dX1_missing_0 rfl (lv_at hl 0 rfl) ?_
  refine lv_aload_n hx hb dX1_missing_1 rfl (lv_at hl 0 rfl) ?_
  refine lv_iload_n hx hb dX1_missing_2 rfl (lv_at hl 1 rfl) ?_
  refine lv_iconst (v := nI 0) hx hb dX1_missing_3 (by decide) ?_
  refine lv_iload_n hx hb dX1_missing_4 rfl (lv_at hl 2 rfl) ?_
  refine lv_iload_n hx hb dX1_missing_5 rfl (lv_at hl 3 rfl) ?_
  refine q_callI (r := bI false) (va_runV (As := [.int g, .int (nI 0), .int x, .int y]) (rest := [.ref h]) ⟨hx, hb, hml, hown, hts⟩ (kX1_isPlaceX l D h ad cI cJ cZ td gc ex pa di qu dc dg da dh dt dv dd ds ak se pr th g (nI 0) x y hgc hxg hs) (cwV 4 hts gX1_missing_X1_isPlace rfl rfl rfl (by decide +kernel) ⟨Nat.le_of_ble_eq_true rfl, Nat.le_of_ble_eq_true rfl⟩) ⟨pP_blind, va_recv hK hP (ci := 1) (q0 := 0) rfl rfl, pP_pre hP hK⟩ rfl rfl hl.1 rfl (lv_room (Nat.le_of_ble_eq_true rfl)) dX1_missing_6 ⟨Nat.zero_le _, Nat.zero_le _⟩) ?_
  refine q_ifB_eq (b := false) (tgt := 16) hx hb dX1_missing_9 (by decide) (fun k9 => ?_) (fun k9 => absurd k9 (by decide))
  refine lv_iconst (v := nI 1) hx hb dX1_missing_16 (by decide) ?_
  refine q_wcallI (r := bI (decide (0 < 1))) (w' := (mW h ad cI cJ cZ td gc ex pa di qu dc dg da dh dt dv dd ds ak se pr 1)) (va_runV (As := [.int (nI 1)]) (rest := []) ⟨hx, hb, hml, hown, hts⟩ (kX1_fails l D h ad cI cJ cZ td gc ex pa di qu dc dg da dh dt dv dd ds ak se pr th _ 1 (by decide)) (cwV 1 hts gX1_missing_X1_fails rfl rfl rfl (by decide +kernel) ⟨Nat.le_of_ble_eq_true rfl, Nat.le_of_ble_eq_true rfl⟩) ⟨wP_blind, va_recv hK hP (ci := 1) (q0 := 0) rfl rfl, wP_pre hP hK hD⟩ rfl rfl hl.1 rfl (lv_room (Nat.le_of_ble_eq_true rfl)) dX1_missing_17 ⟨Nat.zero_le _, Nat.zero_le _⟩) hD hS hA rfl (fun H locs hP hD hS => ?_)
  refine q_ifB_eq (b := decide (0 < 1)) (tgt := 27) hx hb dX1_missing_20 (by decide) (fun k20 => absurd k20 (by decide)) (fun k20 => ?_)
  refine lv_iconst (v := nI 0) hx hb dX1_missing_23 (by decide) ?_
  refine lv_goto (tgt := 34) hx hb dX1_missing_24 (by decide) ?_
  exact q_wretI hx hb hr hlocks hAe hP hS (rfl) dX1_missing_34

set_option maxHeartbeats 4000000 in
set_option maxRecDepth 100000 in
theorem kX1_told (l : Launch) (D : va_G) (h : Nat) (ad : Nat → Nat) (cI cJ cZ : ClassId) (td : Nat) (gc : Nat) (ex : Nat → Bool) (pa : Nat → Option Nat) (di : Nat → Nat) (qu : Nat → Nat) (dc : Nat) (dg : Nat → Nat) (da : Nat → Nat) (dh : Nat → Option Nat) (dt : Nat → Option Nat) (dv : Nat → Option Nat) (dd : Nat → Nat) (ds : Nat → Nat) (ak : Nat → Bool) (se : Nat → Option Nat) (pr : Nat → Option Nat) (th : Nat) (sz : Nat) (g : Nat) (hg : g < 16) (he : ex g = true) (hgc : gc ≤ 16) (hxg : ∀ j, j < 16 → ex j = true → j < gc) (hrd : RD dc dg da dh dt dd ds td) : Met l yX1_told wsX1_told ({ frames := 2, cells := 0, slots := 0, locals := 48 } : Room) (wP D (mW h ad cI cJ cZ td gc ex pa di qu dc dg da dh dt dv dd ds ak se pr th) (mT cI cJ cZ) [.ref h, .int (nI g)] sz) (wQ D (mW h ad cI cJ cZ td gc ex pa di qu dc dg da dh dt dv dd ds ak se pr th) (mW h ad cI cJ cZ td gc ex pa di qu dc dg da dh dt dv dd ds ak se pr 0) (some (.int (nI (cnt (fun k => decide (dg k = g) && decide (bst (rdf dg da dh dt ds dd td (dg k) (da k) (dh k) (dt k)) dd dc = some k)) dc))))) 0 0 (va_A (mW h ad cI cJ cZ td gc ex pa di qu dc dg da dh dt dv dd ds ak se pr th) sz) := by
  refine Met.ofW (cc := cX1_told) (maxL := 4) (ret := (some .int)) (by decide) rfl ?_
  intro p e s m args below meth c s₁ B hml hv
  obtain ⟨rfl, hsz, hP, hK, hD0⟩ := hv
  have hx := B.exec
  have hb := B.bytes
  have hr := B.returns
  have hts := atoms_spec (ws := wsX1_told) B.pre
  have hown : s.vm.findClass RX1 = some m.cls := findClass_of_methodNamed B.named
  have hlocks := B.notSynchronized
  subst hsz
  have hD := hD0.self (sz := s.heap.size)
  generalize hAe : va_A (mW h ad cI cJ cZ td gc ex pa di qu dc dg da dh dt dv dd ds ak se pr th) s.heap.size = A at hD ⊢
  have hA : ∀ q : Nat, s.heap.size ≤ q → A q := fun q h => by rw [← hAe]; exact Or.inr h
  have hS : va_S A s.heap s.heap [] := va_S.rf
  have hl := lv_entry ([.ref h, .int (nI g)]) (n := 4) (Nat.le_of_ble_eq_true rfl)
  rw [lg_entry_eq]
  generalize (lg_sl ([.ref h, .int (nI g)]) ++ List.replicate (4 - (lg_sl ([.ref h, .int (nI g)])).length) Slot.unset).toArray = ls at hl ⊢
  have hl : lv_has ls 4 [(0, .ref h), (1, .int (nI g))] := hl
  have hrd0 := hrd
  obtain ⟨hdc, htd, hdg, hda, hdh, hdt, hdd, hds⟩ := hrd
  refine lv_aload_n hx hb dX1_told_0 rfl (lv_at hl 0 rfl) ?_
  refine lv_aload_n hx hb dX1_told_1 rfl (lv_at hl 0 rfl) ?_
  refine lv_iload_n hx hb dX1_told_2 rfl (lv_at hl 1 rfl) ?_
  refine q_callI (r := bI (ex g)) (va_runV (As := [.int (nI g)]) (rest := [.ref h]) ⟨hx, hb, hml, hown, hts⟩ (kX1_isGoodN l D h ad cI cJ cZ td gc ex pa di qu dc dg da dh dt dv dd ds ak se pr th g hg hgc hxg) (cwV 1 hts gX1_told_X1_isGood rfl rfl rfl (by decide +kernel) ⟨Nat.le_of_ble_eq_true rfl, Nat.le_of_ble_eq_true rfl⟩) ⟨pP_blind, va_recv hK hP (ci := 1) (q0 := 0) rfl rfl, pP_pre hP hK⟩ rfl rfl hl.1 rfl (lv_room (Nat.le_of_ble_eq_true rfl)) dX1_told_3 ⟨Nat.zero_le _, Nat.zero_le _⟩) ?_
  refine q_ifB_eq (b := ex g) (tgt := 13) hx hb dX1_told_6 (by decide) (fun k6 => absurd k6 (by rw [he]; decide)) (fun k6 => ?_)
  refine lv_iconst (v := nI 0) hx hb dX1_told_9 (by decide) ?_
  refine lv_goto (tgt := 14) hx hb dX1_told_10 (by decide) ?_
  refine q_wcallI (r := bI (decide (0 < 0))) (w' := (mW h ad cI cJ cZ td gc ex pa di qu dc dg da dh dt dv dd ds ak se pr 0)) (va_runV (As := [.int (nI 0)]) (rest := []) ⟨hx, hb, hml, hown, hts⟩ (kX1_fails l D h ad cI cJ cZ td gc ex pa di qu dc dg da dh dt dv dd ds ak se pr th _ 0 (by decide)) (cwV 1 hts gX1_told_X1_fails rfl rfl rfl (by decide +kernel) ⟨Nat.le_of_ble_eq_true rfl, Nat.le_of_ble_eq_true rfl⟩) ⟨wP_blind, va_recv hK hP (ci := 1) (q0 := 0) rfl rfl, wP_pre hP hK hD⟩ rfl rfl hl.1 rfl (lv_room (Nat.le_of_ble_eq_true rfl)) dX1_told_14 ⟨Nat.zero_le _, Nat.zero_le _⟩) hD hS hA rfl (fun H locs hP hD hS => ?_)
  refine q_ifB_eq (b := decide (0 < 0)) (tgt := 22) hx hb dX1_told_17 (by decide) (fun k17 => ?_) (fun k17 => absurd k17 (by decide))
  refine lv_iconst (v := nI 0) hx hb dX1_told_22 (by decide) ?_
  refine lv_istore_n (lv' := [(2, .int (nI 0)), (0, .ref h), (1, .int (nI g))]) hx hb dX1_told_23 rfl hl (by decide) rfl (fun ls hl => ?_)
  refine lv_iconst (v := nI 0) hx hb dX1_told_24 (by decide) ?_
  refine lv_istore_n (lv' := [(3, .int (nI 0)), (2, .int (nI 0)), (0, .ref h), (1, .int (nI g))]) hx hb dX1_told_25 rfl hl (by decide) rfl (fun ls hl => ?_)
  have loop26 : ∀ (n : Nat) (i : Nat) (k : Nat), (i ≤ dc) → (dc + 1 ≤ i + n) → (k = cnt (fun k => decide (dg k = g) && decide (bst (rdf dg da dh dt ds dd td (dg k) (da k) (dh k) (dt k)) dd dc = some k)) i) → ∀ (H : Heap) (locs : List Loc), va_P D vwCl (mW h ad cI cJ cZ td gc ex pa di qu dc dg da dh dt dv dd ds ak se pr 0) H → va_D A (mW h ad cI cJ cZ td gc ex pa di qu dc dg da dh dt dv dd ds ak se pr 0) → va_S A s.heap H locs → ∀ ls : Array Slot, lv_has ls 4 [(0, .ref h), (1, .int (nI g)), (2, .int (nI k)), (3, .int (nI i))] → W p l e ({ frames := 2, cells := 0, slots := 0, locals := 48 } : Room) s m ([.ref h, .int (nI g)] : List Value).toArray below meth c H locs 0 0 (MQ below (wQ D (mW h ad cI cJ cZ td gc ex pa di qu dc dg da dh dt dv dd ds ak se pr th) (mW h ad cI cJ cZ td gc ex pa di qu dc dg da dh dt dv dd ds ak se pr 0) (some (.int (nI (cnt (fun k => decide (dg k = g) && decide (bst (rdf dg da dh dt ds dd td (dg k) (da k) (dh k) (dt k)) dd dc = some k)) dc))))) ([.ref h, .int (nI g)] : List Value).toArray s 0 0 A) (F0 m 26 ls []) := by
    intro n
    induction n with
    | zero => intro i k hle hn hset; omega
    | succ n ih =>
      intro i k hle hn hset H locs hP hD hS ls hl
      have hB1 := hdg i
      refine lv_iload_n hx hb dX1_told_26 rfl (lv_at hl 3 rfl) ?_
      refine lv_aload_n hx hb dX1_told_27 rfl (lv_at hl 0 rfl) ?_
      refine va_get (D := D) (ci := 1) (v := .int (nI dc)) (C := RX1) (T := TX1) (N := 18) hx hb hts (iX1_told) hown hK hP 0 rfl rfl 6 (by decide) (hts (.fieldLink RX1 81 "ShopHubModel" "drafts" "I") (by decide +kernel)) (fun _ h9 => h9) rfl dX1_told_28 ?_
      refine q_icmpN_ge (a := i) (b := dc) (tgt := 66) (by omega) (by omega) hx hb dX1_told_31 (by decide) (fun k31 => ?_) (fun k31 => ?_)
      · refine lv_iload_n hx hb dX1_told_66 rfl (lv_at hl 2 rfl) ?_
        exact q_wretI hx hb hr hlocks hAe hP hS (by rw [hset, show i = dc by omega]) dX1_told_67
      · refine lv_iload_n hx hb dX1_told_34 rfl (lv_at hl 2 rfl) ?_
        refine lv_aload_n hx hb dX1_told_35 rfl (lv_at hl 0 rfl) ?_
        refine va_get (D := D) (ci := 1) (v := .ref (ad 7)) (C := RX1) (T := TX1) (N := 18) hx hb hts (iX1_told) hown hK hP 0 rfl rfl 7 (by decide) (hts (.fieldLink RX1 23 "ShopHubModel" "good" "[I") (by decide +kernel)) (fun _ h9 => h9) rfl dX1_told_36 ?_
        refine lv_iload_n hx hb dX1_told_39 rfl (lv_at hl 3 rfl) ?_
        refine q_ald nI dg hx hb hK hP 5 1 rfl rfl (k := i) (by omega) (Nat.le_of_ble_eq_true rfl) dX1_told_40 ?_
        refine lv_iload_n hx hb dX1_told_41 rfl (lv_at hl 1 rfl) ?_
        refine q_icmpN_ne (a := dg i) (b := g) (tgt := 57) (by omega) (by omega) hx hb dX1_told_42 (by decide) (fun k42 => ?_) (fun k42 => ?_)
        · refine lv_iconst (v := nI 0) hx hb dX1_told_57 (by decide) ?_
          refine q_addN (a := k) (b := 0) hx hb dX1_told_58 ?_
          refine lv_istore_n (lv' := [(2, .int (nI (k + 0))), (0, .ref h), (1, .int (nI g)), (3, .int (nI i))]) hx hb dX1_told_59 rfl hl (by decide) rfl (fun ls hl => ?_)
          refine lv_iinc (v := nI (i + 1)) (lv' := [(3, .int (nI (i + 1))), (2, .int (nI (k + 0))), (0, .ref h), (1, .int (nI g))]) hx hb dX1_told_60 hl (k := 3) rfl (i1_n i) (by decide) rfl (fun ls hl => ?_)
          refine lv_goto (tgt := 26) hx hb dX1_told_63 (by decide) ?_
          exact ih (i + 1) (k + 0) (by omega) (by omega) (by rw [cnt_f (f := (fun k => decide (dg k = g) && decide (bst (rdf dg da dh dt ds dd td (dg k) (da k) (dh k) (dt k)) dd dc = some k))) (by rw [decide_eq_false k42, Bool.false_and]), Nat.add_zero]; exact hset) _ _ hP hD hS _ (lv_sub hl [2, 3, 1, 0] rfl)
        · refine lv_aload_n hx hb dX1_told_45 rfl (lv_at hl 0 rfl) ?_
          refine lv_iload_n hx hb dX1_told_46 rfl (lv_at hl 3 rfl) ?_
          refine q_callI (r := bI (decide (bst (rdf dg da dh dt ds dd td (dg i) (da i) (dh i) (dt i)) dd dc = some i))) (va_runV (As := [.int (nI i)]) (rest := [.int (nI k)]) ⟨hx, hb, hml, hown, hts⟩ (kX1_isHolding l D h ad cI cJ cZ td gc ex pa di qu dc dg da dh dt dv dd ds ak se pr 0 i (by omega) hrd0) (cwV 1 hts gX1_told_X1_isHolding rfl rfl rfl (by decide +kernel) ⟨Nat.le_of_ble_eq_true rfl, Nat.le_of_ble_eq_true rfl⟩) ⟨pP_blind, va_recv hK hP (ci := 1) (q0 := 0) rfl rfl, pP_pre hP hK⟩ rfl rfl hl.1 rfl (lv_room (Nat.le_of_ble_eq_true rfl)) dX1_told_47 ⟨Nat.zero_le _, Nat.zero_le _⟩) ?_
          refine q_ifB_eq (b := decide (bst (rdf dg da dh dt ds dd td (dg i) (da i) (dh i) (dt i)) dd dc = some i)) (tgt := 57) hx hb dX1_told_50 (by decide) (fun k50 => ?_) (fun k50 => ?_)
          · refine lv_iconst (v := nI 0) hx hb dX1_told_57 (by decide) ?_
            refine q_addN (a := k) (b := 0) hx hb dX1_told_58 ?_
            refine lv_istore_n (lv' := [(2, .int (nI (k + 0))), (0, .ref h), (1, .int (nI g)), (3, .int (nI i))]) hx hb dX1_told_59 rfl hl (by decide) rfl (fun ls hl => ?_)
            refine lv_iinc (v := nI (i + 1)) (lv' := [(3, .int (nI (i + 1))), (2, .int (nI (k + 0))), (0, .ref h), (1, .int (nI g))]) hx hb dX1_told_60 hl (k := 3) rfl (i1_n i) (by decide) rfl (fun ls hl => ?_)
            refine lv_goto (tgt := 26) hx hb dX1_told_63 (by decide) ?_
            exact ih (i + 1) (k + 0) (by omega) (by omega) (by rw [cnt_f (f := (fun k => decide (dg k = g) && decide (bst (rdf dg da dh dt ds dd td (dg k) (da k) (dh k) (dt k)) dd dc = some k))) (by rw [k50, Bool.and_false]), Nat.add_zero]; exact hset) _ _ hP hD hS _ (lv_sub hl [2, 3, 1, 0] rfl)
          · refine lv_iconst (v := nI 1) hx hb dX1_told_53 (by decide) ?_
            refine lv_goto (tgt := 58) hx hb dX1_told_54 (by decide) ?_
            refine q_addN (a := k) (b := 1) hx hb dX1_told_58 ?_
            refine lv_istore_n (lv' := [(2, .int (nI (k + 1))), (0, .ref h), (1, .int (nI g)), (3, .int (nI i))]) hx hb dX1_told_59 rfl hl (by decide) rfl (fun ls hl => ?_)
            refine lv_iinc (v := nI (i + 1)) (lv' := [(3, .int (nI (i + 1))), (2, .int (nI (k + 1))), (0, .ref h), (1, .int (nI g))]) hx hb dX1_told_60 hl (k := 3) rfl (i1_n i) (by decide) rfl (fun ls hl => ?_)
            refine lv_goto (tgt := 26) hx hb dX1_told_63 (by decide) ?_
            exact ih (i + 1) (k + 1) (by omega) (by omega) (by rw [cnt_t (f := (fun k => decide (dg k = g) && decide (bst (rdf dg da dh dt ds dd td (dg k) (da k) (dh k) (dt k)) dd dc = some k))) (by rw [k50, decide_eq_true k42]; rfl), ← hset]) _ _ hP hD hS _ (lv_sub hl [2, 3, 1, 0] rfl)
  exact loop26 (dc + 1) 0 0 (by omega) (by omega) rfl _ _ hP hD hS _ (lv_sub hl [2, 3, 1, 0] rfl)

set_option maxHeartbeats 4000000 in
set_option maxRecDepth 100000 in
theorem kX1_toggleAsked (l : Launch) (D : va_G) (h : Nat) (ad : Nat → Nat) (cI cJ cZ : ClassId) (td : Nat) (gc : Nat) (ex : Nat → Bool) (pa : Nat → Option Nat) (di : Nat → Nat) (qu : Nat → Nat) (dc : Nat) (dg : Nat → Nat) (da : Nat → Nat) (dh : Nat → Option Nat) (dt : Nat → Option Nat) (dv : Nat → Option Nat) (dd : Nat → Nat) (ds : Nat → Nat) (ak : Nat → Bool) (se : Nat → Option Nat) (pr : Nat → Option Nat) (th : Nat) (sz : Nat) (sp a : Nat) (hs : sp < 3) (ha : a < 6) : Met l yX1_toggleAsked wsX1_toggleAsked ({ frames := 2, cells := 0, slots := 0, locals := 42 } : Room) (wP D (mW h ad cI cJ cZ td gc ex pa di qu dc dg da dh dt dv dd ds ak se pr th) (mT cI cJ cZ) [.ref h, .int (nI sp), .int (nI a)] sz) (wQ D (mW h ad cI cJ cZ td gc ex pa di qu dc dg da dh dt dv dd ds ak se pr th) (mW h ad cI cJ cZ td gc ex pa di qu dc dg da dh dt dv dd ds (va_up ak (sp * 6 + a) (!ak (sp * 6 + a))) se pr 0) (some (.int (bI (!ak (sp * 6 + a)))))) 0 0 (va_A (mW h ad cI cJ cZ td gc ex pa di qu dc dg da dh dt dv dd ds ak se pr th) sz) := by
  refine Met.ofW (cc := cX1_toggleAsked) (maxL := 4) (ret := (some .boolean)) (by decide) rfl ?_
  intro p e s m args below meth c s₁ B hml hv
  obtain ⟨rfl, hsz, hP, hK, hD0⟩ := hv
  have hx := B.exec
  have hb := B.bytes
  have hr := B.returns
  have hts := atoms_spec (ws := wsX1_toggleAsked) B.pre
  have hown : s.vm.findClass RX1 = some m.cls := findClass_of_methodNamed B.named
  have hlocks := B.notSynchronized
  subst hsz
  have hD := hD0.self (sz := s.heap.size)
  generalize hAe : va_A (mW h ad cI cJ cZ td gc ex pa di qu dc dg da dh dt dv dd ds ak se pr th) s.heap.size = A at hD ⊢
  have hA : ∀ q : Nat, s.heap.size ≤ q → A q := fun q h => by rw [← hAe]; exact Or.inr h
  have hS : va_S A s.heap s.heap [] := va_S.rf
  have hl := lv_entry ([.ref h, .int (nI sp), .int (nI a)]) (n := 4) (Nat.le_of_ble_eq_true rfl)
  rw [lg_entry_eq]
  generalize (lg_sl ([.ref h, .int (nI sp), .int (nI a)]) ++ List.replicate (4 - (lg_sl ([.ref h, .int (nI sp), .int (nI a)])).length) Slot.unset).toArray = ls at hl ⊢
  have hl : lv_has ls 4 [(0, .ref h), (1, .int (nI sp)), (2, .int (nI a))] := hl
  refine lv_aload_n hx hb dX1_toggleAsked_0 rfl (lv_at hl 0 rfl) ?_
  refine lv_iload_n hx hb dX1_toggleAsked_1 rfl (lv_at hl 1 rfl) ?_
  refine q_callI (r := bI (isin (nI sp) (nI 0) (nI 2))) (va_runS (As := [.int (nI sp)]) (rest := [.ref h]) ⟨hx, hb, hml, hown, hts⟩ (kX1_isShop l (nI sp)) (cwS 1 hts gX1_toggleAsked_X1_isShop rfl rfl rfl (by decide +kernel) ⟨Nat.le_of_ble_eq_true rfl, Nat.le_of_ble_eq_true rfl⟩) ⟨sP_blind, sP_pre⟩ rfl rfl hl.1 rfl (lv_room (Nat.le_of_ble_eq_true rfl)) dX1_toggleAsked_2 ⟨Nat.zero_le _, Nat.zero_le _⟩) ?_
  refine q_top (y := bI true) (by rw [isin_N (by omega) (by decide), decide_eq_true (by omega)]) ?_
  refine q_ifB_eq (b := true) (tgt := 21) hx hb dX1_toggleAsked_5 (by decide) (fun k5 => absurd k5 (by decide)) (fun k5 => ?_)
  refine lv_iload_n hx hb dX1_toggleAsked_8 rfl (lv_at hl 2 rfl) ?_
  refine lv_iconst (v := nI 0) hx hb dX1_toggleAsked_9 (by decide) ?_
  refine lv_iconst (v := nI 5) hx hb dX1_toggleAsked_10 (by decide) ?_
  refine q_callI (r := bI (isin (nI a) (nI 0) (nI 5))) (va_runS (As := [.int (nI a), .int (nI 0), .int (nI 5)]) (rest := [.ref h]) ⟨hx, hb, hml, hown, hts⟩ (kX1_isIn l (nI a) (nI 0) (nI 5)) (cwS 3 hts gX1_toggleAsked_X1_isIn rfl rfl rfl (by decide +kernel) ⟨Nat.le_of_ble_eq_true rfl, Nat.le_of_ble_eq_true rfl⟩) ⟨sP_blind, sP_pre⟩ rfl rfl hl.1 rfl (lv_room (Nat.le_of_ble_eq_true rfl)) dX1_toggleAsked_11 ⟨Nat.zero_le _, Nat.zero_le _⟩) ?_
  refine q_top (y := bI true) (by rw [isin_N (by omega) (by decide), decide_eq_true (by omega)]) ?_
  refine q_ifB_eq (b := true) (tgt := 21) hx hb dX1_toggleAsked_14 (by decide) (fun k14 => absurd k14 (by decide)) (fun k14 => ?_)
  refine lv_iconst (v := nI 0) hx hb dX1_toggleAsked_17 (by decide) ?_
  refine lv_goto (tgt := 22) hx hb dX1_toggleAsked_18 (by decide) ?_
  refine q_wcallI (r := bI (decide (0 < 0))) (w' := (mW h ad cI cJ cZ td gc ex pa di qu dc dg da dh dt dv dd ds ak se pr 0)) (va_runV (As := [.int (nI 0)]) (rest := []) ⟨hx, hb, hml, hown, hts⟩ (kX1_fails l D h ad cI cJ cZ td gc ex pa di qu dc dg da dh dt dv dd ds ak se pr th _ 0 (by decide)) (cwV 1 hts gX1_toggleAsked_X1_fails rfl rfl rfl (by decide +kernel) ⟨Nat.le_of_ble_eq_true rfl, Nat.le_of_ble_eq_true rfl⟩) ⟨wP_blind, va_recv hK hP (ci := 1) (q0 := 0) rfl rfl, wP_pre hP hK hD⟩ rfl rfl hl.1 rfl (lv_room (Nat.le_of_ble_eq_true rfl)) dX1_toggleAsked_22 ⟨Nat.zero_le _, Nat.zero_le _⟩) hD hS hA rfl (fun H locs hP hD hS => ?_)
  refine q_ifB_eq (b := decide (0 < 0)) (tgt := 30) hx hb dX1_toggleAsked_25 (by decide) (fun k25 => ?_) (fun k25 => absurd k25 (by decide))
  refine lv_bipush (v := nI 6) hx hb dX1_toggleAsked_30 (by decide) ?_
  refine lv_iload_n hx hb dX1_toggleAsked_32 rfl (lv_at hl 1 rfl) ?_
  refine q_mulN (a := 6) (b := sp) hx hb dX1_toggleAsked_33 ?_
  refine lv_iload_n hx hb dX1_toggleAsked_34 rfl (lv_at hl 2 rfl) ?_
  refine q_addN (a := 6 * sp) (b := a) hx hb dX1_toggleAsked_35 ?_
  refine q_top (y := nI (sp * 6 + a)) (by rw [Nat.mul_comm 6 sp]) ?_
  refine lv_istore_n (lv' := [(3, .int (nI (sp * 6 + a))), (0, .ref h), (1, .int (nI sp)), (2, .int (nI a))]) hx hb dX1_toggleAsked_36 rfl hl (by decide) rfl (fun ls hl => ?_)
  refine lv_aload_n hx hb dX1_toggleAsked_37 rfl (lv_at hl 1 rfl) ?_
  refine va_get (D := D) (ci := 1) (v := .ref (ad 14)) (C := RX1) (T := TX1) (N := 18) hx hb hts (iX1_toggleAsked) hown hK hP 0 rfl rfl 14 (by decide) (hts (.fieldLink RX1 44 "ShopHubModel" "isAsked" "[Z") (by decide +kernel)) (fun _ h9 => h9) rfl dX1_toggleAsked_38 ?_
  refine lv_iload_n hx hb dX1_toggleAsked_41 rfl (lv_at hl 0 rfl) ?_
  refine lv_aload_n hx hb dX1_toggleAsked_42 rfl (lv_at hl 1 rfl) ?_
  refine va_get (D := D) (ci := 1) (v := .ref (ad 14)) (C := RX1) (T := TX1) (N := 18) hx hb hts (iX1_toggleAsked) hown hK hP 0 rfl rfl 14 (by decide) (hts (.fieldLink RX1 44 "ShopHubModel" "isAsked" "[Z") (by decide +kernel)) (fun _ h9 => h9) rfl dX1_toggleAsked_43 ?_
  refine lv_iload_n hx hb dX1_toggleAsked_46 rfl (lv_at hl 0 rfl) ?_
  refine q_zld ak hx hb hK hP 12 0 rfl rfl (k := sp * 6 + a) (by omega) (Nat.le_of_ble_eq_true rfl) dX1_toggleAsked_47 ?_
  refine q_ifB_ne (b := ak (sp * 6 + a)) (tgt := 55) hx hb dX1_toggleAsked_48 (by decide) (fun k48 => ?_) (fun k48 => ?_)
  · refine lv_iconst (v := nI 0) hx hb dX1_toggleAsked_55 (by decide) ?_
    refine q_top (y := bI false) ((by decide : nI 0 = bI false)) ?_
    refine q_zst ak false hx hb hK hP hD hS 12 0 rfl rfl (k := sp * 6 + a) (by omega) (Nat.le_of_ble_eq_true rfl) dX1_toggleAsked_56 (fun H locs hP hD hS => ?_)
    have hP : va_P D vwCl (mW h ad cI cJ cZ td gc ex pa di qu dc dg da dh dt dv dd ds (va_up ak (sp * 6 + a) false) se pr 0) H := hP
    have hD : va_D A (mW h ad cI cJ cZ td gc ex pa di qu dc dg da dh dt dv dd ds (va_up ak (sp * 6 + a) false) se pr 0) := hD
    refine lv_aload_n hx hb dX1_toggleAsked_57 rfl (lv_at hl 1 rfl) ?_
    refine va_get (D := D) (ci := 1) (v := .ref (ad 14)) (C := RX1) (T := TX1) (N := 18) hx hb hts (iX1_toggleAsked) hown hK hP 0 rfl rfl 14 (by decide) (hts (.fieldLink RX1 44 "ShopHubModel" "isAsked" "[Z") (by decide +kernel)) (fun _ h9 => h9) rfl dX1_toggleAsked_58 ?_
    refine lv_iload_n hx hb dX1_toggleAsked_61 rfl (lv_at hl 0 rfl) ?_
    refine q_zld (va_up ak (sp * 6 + a) false) hx hb hK hP 12 0 rfl rfl (k := sp * 6 + a) (by omega) (Nat.le_of_ble_eq_true rfl) dX1_toggleAsked_62 ?_
    have hP : va_P D vwCl (mW h ad cI cJ cZ td gc ex pa di qu dc dg da dh dt dv dd ds (va_up ak (sp * 6 + a) (!ak (sp * 6 + a))) se pr 0) H := by rw [show va_up ak (sp * 6 + a) (!ak (sp * 6 + a)) = va_up ak (sp * 6 + a) false from by rw [k48]; rfl]; exact hP
    exact q_wretZ hx hb hr hlocks hAe hP hS (by rw [up_at, k48]; rfl) dX1_toggleAsked_63
  · refine lv_iconst (v := nI 1) hx hb dX1_toggleAsked_51 (by decide) ?_
    refine lv_goto (tgt := 56) hx hb dX1_toggleAsked_52 (by decide) ?_
    refine q_top (y := bI true) ((by decide : nI 1 = bI true)) ?_
    refine q_zst ak true hx hb hK hP hD hS 12 0 rfl rfl (k := sp * 6 + a) (by omega) (Nat.le_of_ble_eq_true rfl) dX1_toggleAsked_56 (fun H locs hP hD hS => ?_)
    have hP : va_P D vwCl (mW h ad cI cJ cZ td gc ex pa di qu dc dg da dh dt dv dd ds (va_up ak (sp * 6 + a) true) se pr 0) H := hP
    have hD : va_D A (mW h ad cI cJ cZ td gc ex pa di qu dc dg da dh dt dv dd ds (va_up ak (sp * 6 + a) true) se pr 0) := hD
    refine lv_aload_n hx hb dX1_toggleAsked_57 rfl (lv_at hl 1 rfl) ?_
    refine va_get (D := D) (ci := 1) (v := .ref (ad 14)) (C := RX1) (T := TX1) (N := 18) hx hb hts (iX1_toggleAsked) hown hK hP 0 rfl rfl 14 (by decide) (hts (.fieldLink RX1 44 "ShopHubModel" "isAsked" "[Z") (by decide +kernel)) (fun _ h9 => h9) rfl dX1_toggleAsked_58 ?_
    refine lv_iload_n hx hb dX1_toggleAsked_61 rfl (lv_at hl 0 rfl) ?_
    refine q_zld (va_up ak (sp * 6 + a) true) hx hb hK hP 12 0 rfl rfl (k := sp * 6 + a) (by omega) (Nat.le_of_ble_eq_true rfl) dX1_toggleAsked_62 ?_
    have hP : va_P D vwCl (mW h ad cI cJ cZ td gc ex pa di qu dc dg da dh dt dv dd ds (va_up ak (sp * 6 + a) (!ak (sp * 6 + a))) se pr 0) H := by rw [show va_up ak (sp * 6 + a) (!ak (sp * 6 + a)) = va_up ak (sp * 6 + a) true from by rw [k48]; rfl]; exact hP
    exact q_wretZ hx hb hr hlocks hAe hP hS (by rw [up_at, k48]; rfl) dX1_toggleAsked_63

set_option maxHeartbeats 4000000 in
set_option maxRecDepth 100000 in
theorem kX1_toggleAsked1 (l : Launch) (D : va_G) (h : Nat) (ad : Nat → Nat) (cI cJ cZ : ClassId) (td : Nat) (gc : Nat) (ex : Nat → Bool) (pa : Nat → Option Nat) (di : Nat → Nat) (qu : Nat → Nat) (dc : Nat) (dg : Nat → Nat) (da : Nat → Nat) (dh : Nat → Option Nat) (dt : Nat → Option Nat) (dv : Nat → Option Nat) (dd : Nat → Nat) (ds : Nat → Nat) (ak : Nat → Bool) (se : Nat → Option Nat) (pr : Nat → Option Nat) (th : Nat) (sz : Nat) (x a : Int32) (hs : aBad 3 x ∨ ∃ x2, x2 < 3 ∧ x = nI x2 ∧ aBad 6 a) : Met l yX1_toggleAsked wsX1_toggleAsked ({ frames := 2, cells := 0, slots := 0, locals := 42 } : Room) (wP D (mW h ad cI cJ cZ td gc ex pa di qu dc dg da dh dt dv dd ds ak se pr th) (mT cI cJ cZ) [.ref h, .int x, .int a] sz) (wQ D (mW h ad cI cJ cZ td gc ex pa di qu dc dg da dh dt dv dd ds ak se pr th) (mW h ad cI cJ cZ td gc ex pa di qu dc dg da dh dt dv dd ds ak se pr 1) (some (.int (bI false)))) 0 0 (va_A (mW h ad cI cJ cZ td gc ex pa di qu dc dg da dh dt dv dd ds ak se pr th) sz) := by
  refine Met.ofW (cc := cX1_toggleAsked) (maxL := 4) (ret := (some .boolean)) (by decide) rfl ?_
  intro p e s m args below meth c s₁ B hml hv
  obtain ⟨rfl, hsz, hP, hK, hD0⟩ := hv
  have hx := B.exec
  have hb := B.bytes
  have hr := B.returns
  have hts := atoms_spec (ws := wsX1_toggleAsked) B.pre
  have hown : s.vm.findClass RX1 = some m.cls := findClass_of_methodNamed B.named
  have hlocks := B.notSynchronized
  subst hsz
  have hD := hD0.self (sz := s.heap.size)
  generalize hAe : va_A (mW h ad cI cJ cZ td gc ex pa di qu dc dg da dh dt dv dd ds ak se pr th) s.heap.size = A at hD ⊢
  have hA : ∀ q : Nat, s.heap.size ≤ q → A q := fun q h => by rw [← hAe]; exact Or.inr h
  have hS : va_S A s.heap s.heap [] := va_S.rf
  have hl := lv_entry ([.ref h, .int x, .int a]) (n := 4) (Nat.le_of_ble_eq_true rfl)
  rw [lg_entry_eq]
  generalize (lg_sl ([.ref h, .int x, .int a]) ++ List.replicate (4 - (lg_sl ([.ref h, .int x, .int a])).length) Slot.unset).toArray = ls at hl ⊢
  have hl : lv_has ls 4 [(0, .ref h), (1, .int x), (2, .int a)] := hl
  rcases hs with hs | ⟨x2, hx2, rfl, hs⟩
  · refine lv_aload_n hx hb dX1_toggleAsked_0 rfl (lv_at hl 0 rfl) ?_
    refine lv_iload_n hx hb dX1_toggleAsked_1 rfl (lv_at hl 1 rfl) ?_
    refine q_callI (r := bI (isin x (nI 0) (nI 2))) (va_runS (As := [.int x]) (rest := [.ref h]) ⟨hx, hb, hml, hown, hts⟩ (kX1_isShop l x) (cwS 1 hts gX1_toggleAsked_X1_isShop rfl rfl rfl (by decide +kernel) ⟨Nat.le_of_ble_eq_true rfl, Nat.le_of_ble_eq_true rfl⟩) ⟨sP_blind, sP_pre⟩ rfl rfl hl.1 rfl (lv_room (Nat.le_of_ble_eq_true rfl)) dX1_toggleAsked_2 ⟨Nat.zero_le _, Nat.zero_le _⟩) ?_
    refine q_top (y := bI false) (by rw [isin_ab (m := 3) (by decide) rfl hs]) ?_
    refine q_ifB_eq (b := false) (tgt := 21) hx hb dX1_toggleAsked_5 (by decide) (fun k5 => ?_) (fun k5 => absurd k5 (by decide))
    refine lv_iconst (v := nI 1) hx hb dX1_toggleAsked_21 (by decide) ?_
    refine q_wcallI (r := bI (decide (0 < 1))) (w' := (mW h ad cI cJ cZ td gc ex pa di qu dc dg da dh dt dv dd ds ak se pr 1)) (va_runV (As := [.int (nI 1)]) (rest := []) ⟨hx, hb, hml, hown, hts⟩ (kX1_fails l D h ad cI cJ cZ td gc ex pa di qu dc dg da dh dt dv dd ds ak se pr th _ 1 (by decide)) (cwV 1 hts gX1_toggleAsked_X1_fails rfl rfl rfl (by decide +kernel) ⟨Nat.le_of_ble_eq_true rfl, Nat.le_of_ble_eq_true rfl⟩) ⟨wP_blind, va_recv hK hP (ci := 1) (q0 := 0) rfl rfl, wP_pre hP hK hD⟩ rfl rfl hl.1 rfl (lv_room (Nat.le_of_ble_eq_true rfl)) dX1_toggleAsked_22 ⟨Nat.zero_le _, Nat.zero_le _⟩) hD hS hA rfl (fun H locs hP hD hS => ?_)
    refine q_ifB_eq (b := decide (0 < 1)) (tgt := 30) hx hb dX1_toggleAsked_25 (by decide) (fun k25 => absurd k25 (by decide)) (fun k25 => ?_)
    refine lv_iconst (v := nI 0) hx hb dX1_toggleAsked_28 (by decide) ?_
    exact q_wretZ hx hb hr hlocks hAe hP hS (by decide) dX1_toggleAsked_29
  · refine lv_aload_n hx hb dX1_toggleAsked_0 rfl (lv_at hl 0 rfl) ?_
    refine lv_iload_n hx hb dX1_toggleAsked_1 rfl (lv_at hl 1 rfl) ?_
    refine q_callI (r := bI (isin (nI x2) (nI 0) (nI 2))) (va_runS (As := [.int (nI x2)]) (rest := [.ref h]) ⟨hx, hb, hml, hown, hts⟩ (kX1_isShop l (nI x2)) (cwS 1 hts gX1_toggleAsked_X1_isShop rfl rfl rfl (by decide +kernel) ⟨Nat.le_of_ble_eq_true rfl, Nat.le_of_ble_eq_true rfl⟩) ⟨sP_blind, sP_pre⟩ rfl rfl hl.1 rfl (lv_room (Nat.le_of_ble_eq_true rfl)) dX1_toggleAsked_2 ⟨Nat.zero_le _, Nat.zero_le _⟩) ?_
    refine q_top (y := bI true) (by rw [isin_N (by omega) (by decide), decide_eq_true (by omega)]) ?_
    refine q_ifB_eq (b := true) (tgt := 21) hx hb dX1_toggleAsked_5 (by decide) (fun k5 => absurd k5 (by decide)) (fun k5 => ?_)
    refine lv_iload_n hx hb dX1_toggleAsked_8 rfl (lv_at hl 2 rfl) ?_
    refine lv_iconst (v := nI 0) hx hb dX1_toggleAsked_9 (by decide) ?_
    refine lv_iconst (v := nI 5) hx hb dX1_toggleAsked_10 (by decide) ?_
    refine q_callI (r := bI (isin a (nI 0) (nI 5))) (va_runS (As := [.int a, .int (nI 0), .int (nI 5)]) (rest := [.ref h]) ⟨hx, hb, hml, hown, hts⟩ (kX1_isIn l a (nI 0) (nI 5)) (cwS 3 hts gX1_toggleAsked_X1_isIn rfl rfl rfl (by decide +kernel) ⟨Nat.le_of_ble_eq_true rfl, Nat.le_of_ble_eq_true rfl⟩) ⟨sP_blind, sP_pre⟩ rfl rfl hl.1 rfl (lv_room (Nat.le_of_ble_eq_true rfl)) dX1_toggleAsked_11 ⟨Nat.zero_le _, Nat.zero_le _⟩) ?_
    refine q_top (y := bI false) (by rw [isin_ab (m := 6) (by decide) rfl hs]) ?_
    refine q_ifB_eq (b := false) (tgt := 21) hx hb dX1_toggleAsked_14 (by decide) (fun k14 => ?_) (fun k14 => absurd k14 (by decide))
    refine lv_iconst (v := nI 1) hx hb dX1_toggleAsked_21 (by decide) ?_
    refine q_wcallI (r := bI (decide (0 < 1))) (w' := (mW h ad cI cJ cZ td gc ex pa di qu dc dg da dh dt dv dd ds ak se pr 1)) (va_runV (As := [.int (nI 1)]) (rest := []) ⟨hx, hb, hml, hown, hts⟩ (kX1_fails l D h ad cI cJ cZ td gc ex pa di qu dc dg da dh dt dv dd ds ak se pr th _ 1 (by decide)) (cwV 1 hts gX1_toggleAsked_X1_fails rfl rfl rfl (by decide +kernel) ⟨Nat.le_of_ble_eq_true rfl, Nat.le_of_ble_eq_true rfl⟩) ⟨wP_blind, va_recv hK hP (ci := 1) (q0 := 0) rfl rfl, wP_pre hP hK hD⟩ rfl rfl hl.1 rfl (lv_room (Nat.le_of_ble_eq_true rfl)) dX1_toggleAsked_22 ⟨Nat.zero_le _, Nat.zero_le _⟩) hD hS hA rfl (fun H locs hP hD hS => ?_)
    refine q_ifB_eq (b := decide (0 < 1)) (tgt := 30) hx hb dX1_toggleAsked_25 (by decide) (fun k25 => absurd k25 (by decide)) (fun k25 => ?_)
    refine lv_iconst (v := nI 0) hx hb dX1_toggleAsked_28 (by decide) ?_
    exact q_wretZ hx hb hr hlocks hAe hP hS (by decide) dX1_toggleAsked_29

set_option maxHeartbeats 4000000 in
set_option maxRecDepth 100000 in
theorem kX1_changed (l : Launch) (D : va_G) (h : Nat) (ad : Nat → Nat) (cI cJ cZ : ClassId) (td : Nat) (gc : Nat) (ex : Nat → Bool) (pa : Nat → Option Nat) (di : Nat → Nat) (qu : Nat → Nat) (dc : Nat) (dg : Nat → Nat) (da : Nat → Nat) (dh : Nat → Option Nat) (dt : Nat → Option Nat) (dv : Nat → Option Nat) (dd : Nat → Nat) (ds : Nat → Nat) (ak : Nat → Bool) (se : Nat → Option Nat) (pr : Nat → Option Nat) (th : Nat) (sz : Nat) (ho : Nat → Option Nat) (lev : Nat → Nat) (sp : Nat) (hti : TI ex pa lev) (hs : sp < 3) (hgc : gc ≤ 16) (hrd : RD dc dg da dh dt dd ds td) (hrh : RH ex ho dc dg da dh dt dd ds td) (hpr : PR pa) (hho : HO ho dc) (hdv : DV dv dc) (hse : ∀ k, k < 864 → ∀ v, se k = some v → v ≤ 100000) : Met l yX1_changed wsX1_changed ({ frames := 5, cells := 0, slots := 0, locals := 128 } : Room) (wP D (mW h ad cI cJ cZ td gc ex pa di qu dc dg da dh dt dv dd ds ak se pr th) (mT cI cJ cZ) [.ref h, .int (nI sp)] sz) (wQ D (mW h ad cI cJ cZ td gc ex pa di qu dc dg da dh dt dv dd ds ak se pr th) (mW h ad cI cJ cZ td gc ex pa di qu dc dg da dh dt dv dd ds ak se pr 0) (some (.int (nI (bset (lkd ex pa ho dv se sp) gc))))) 0 0 (va_A (mW h ad cI cJ cZ td gc ex pa di qu dc dg da dh dt dv dd ds ak se pr th) sz) := by
  refine Met.ofW (cc := cX1_changed) (maxL := 2) (ret := (some .int)) (by decide) rfl ?_
  intro p e s m args below meth c s₁ B hml hv
  obtain ⟨rfl, hsz, hP, hK, hD0⟩ := hv
  have hx := B.exec
  have hb := B.bytes
  have hr := B.returns
  have hts := atoms_spec (ws := wsX1_changed) B.pre
  have hown : s.vm.findClass RX1 = some m.cls := findClass_of_methodNamed B.named
  have hlocks := B.notSynchronized
  subst hsz
  have hD := hD0.self (sz := s.heap.size)
  generalize hAe : va_A (mW h ad cI cJ cZ td gc ex pa di qu dc dg da dh dt dv dd ds ak se pr th) s.heap.size = A at hD ⊢
  have hA : ∀ q : Nat, s.heap.size ≤ q → A q := fun q h => by rw [← hAe]; exact Or.inr h
  have hS : va_S A s.heap s.heap [] := va_S.rf
  have hl := lv_entry ([.ref h, .int (nI sp)]) (n := 2) (Nat.le_of_ble_eq_true rfl)
  rw [lg_entry_eq]
  generalize (lg_sl ([.ref h, .int (nI sp)]) ++ List.replicate (2 - (lg_sl ([.ref h, .int (nI sp)])).length) Slot.unset).toArray = ls at hl ⊢
  have hl : lv_has ls 2 [(0, .ref h), (1, .int (nI sp))] := hl
  refine lv_aload_n hx hb dX1_changed_0 rfl (lv_at hl 0 rfl) ?_
  refine lv_iload_n hx hb dX1_changed_1 rfl (lv_at hl 1 rfl) ?_
  refine q_callI (r := bI (isin (nI sp) (nI 0) (nI 2))) (va_runS (As := [.int (nI sp)]) (rest := [.ref h]) ⟨hx, hb, hml, hown, hts⟩ (kX1_isShop l (nI sp)) (cwS 1 hts gX1_changed_X1_isShop rfl rfl rfl (by decide +kernel) ⟨Nat.le_of_ble_eq_true rfl, Nat.le_of_ble_eq_true rfl⟩) ⟨sP_blind, sP_pre⟩ rfl rfl hl.1 rfl (lv_room (Nat.le_of_ble_eq_true rfl)) dX1_changed_2 ⟨Nat.zero_le _, Nat.zero_le _⟩) ?_
  refine q_top (y := bI true) (by rw [isin_N (by omega) (by decide), decide_eq_true (by omega)]) ?_
  refine q_ifB_eq (b := true) (tgt := 12) hx hb dX1_changed_5 (by decide) (fun k5 => absurd k5 (by decide)) (fun k5 => ?_)
  refine lv_iconst (v := nI 0) hx hb dX1_changed_8 (by decide) ?_
  refine lv_goto (tgt := 13) hx hb dX1_changed_9 (by decide) ?_
  refine q_wcallI (r := bI (decide (0 < 0))) (w' := (mW h ad cI cJ cZ td gc ex pa di qu dc dg da dh dt dv dd ds ak se pr 0)) (va_runV (As := [.int (nI 0)]) (rest := []) ⟨hx, hb, hml, hown, hts⟩ (kX1_fails l D h ad cI cJ cZ td gc ex pa di qu dc dg da dh dt dv dd ds ak se pr th _ 0 (by decide)) (cwV 1 hts gX1_changed_X1_fails rfl rfl rfl (by decide +kernel) ⟨Nat.le_of_ble_eq_true rfl, Nat.le_of_ble_eq_true rfl⟩) ⟨wP_blind, va_recv hK hP (ci := 1) (q0 := 0) rfl rfl, wP_pre hP hK hD⟩ rfl rfl hl.1 rfl (lv_room (Nat.le_of_ble_eq_true rfl)) dX1_changed_13 ⟨Nat.zero_le _, Nat.zero_le _⟩) hD hS hA rfl (fun H locs hP hD hS => ?_)
  refine q_ifB_eq (b := decide (0 < 0)) (tgt := 23) hx hb dX1_changed_16 (by decide) (fun k16 => ?_) (fun k16 => absurd k16 (by decide))
  refine lv_aload_n hx hb dX1_changed_23 rfl (lv_at hl 0 rfl) ?_
  refine lv_iload_n hx hb dX1_changed_24 rfl (lv_at hl 1 rfl) ?_
  refine q_callI (r := nI (bset (lkd ex pa ho dv se sp) gc)) (va_runV (As := [.int (nI sp)]) (rest := []) ⟨hx, hb, hml, hown, hts⟩ (kX1_differs l D h ad cI cJ cZ td gc ex pa di qu dc dg da dh dt dv dd ds ak se pr 0 ho lev sp hti hs hgc hrd hrh hpr hho hdv hse) (cwV 1 hts gX1_changed_X1_differs rfl rfl rfl (by decide +kernel) ⟨Nat.le_of_ble_eq_true rfl, Nat.le_of_ble_eq_true rfl⟩) ⟨pP_blind, va_recv hK hP (ci := 1) (q0 := 0) rfl rfl, pP_pre hP hK⟩ rfl rfl hl.1 rfl (lv_room (Nat.le_of_ble_eq_true rfl)) dX1_changed_25 ⟨Nat.zero_le _, Nat.zero_le _⟩) ?_
  exact q_wretI hx hb hr hlocks hAe hP hS (rfl) dX1_changed_28

set_option maxHeartbeats 4000000 in
set_option maxRecDepth 100000 in
theorem kX1_changed1 (l : Launch) (D : va_G) (h : Nat) (ad : Nat → Nat) (cI cJ cZ : ClassId) (td : Nat) (gc : Nat) (ex : Nat → Bool) (pa : Nat → Option Nat) (di : Nat → Nat) (qu : Nat → Nat) (dc : Nat) (dg : Nat → Nat) (da : Nat → Nat) (dh : Nat → Option Nat) (dt : Nat → Option Nat) (dv : Nat → Option Nat) (dd : Nat → Nat) (ds : Nat → Nat) (ak : Nat → Bool) (se : Nat → Option Nat) (pr : Nat → Option Nat) (th : Nat) (sz : Nat) (x : Int32) (hs : aBad 3 x) : Met l yX1_changed wsX1_changed ({ frames := 2, cells := 0, slots := 0, locals := 42 } : Room) (wP D (mW h ad cI cJ cZ td gc ex pa di qu dc dg da dh dt dv dd ds ak se pr th) (mT cI cJ cZ) [.ref h, .int x] sz) (wQ D (mW h ad cI cJ cZ td gc ex pa di qu dc dg da dh dt dv dd ds ak se pr th) (mW h ad cI cJ cZ td gc ex pa di qu dc dg da dh dt dv dd ds ak se pr 1) (some (.int (nI 0)))) 0 0 (va_A (mW h ad cI cJ cZ td gc ex pa di qu dc dg da dh dt dv dd ds ak se pr th) sz) := by
  refine Met.ofW (cc := cX1_changed) (maxL := 2) (ret := (some .int)) (by decide) rfl ?_
  intro p e s m args below meth c s₁ B hml hv
  obtain ⟨rfl, hsz, hP, hK, hD0⟩ := hv
  have hx := B.exec
  have hb := B.bytes
  have hr := B.returns
  have hts := atoms_spec (ws := wsX1_changed) B.pre
  have hown : s.vm.findClass RX1 = some m.cls := findClass_of_methodNamed B.named
  have hlocks := B.notSynchronized
  subst hsz
  have hD := hD0.self (sz := s.heap.size)
  generalize hAe : va_A (mW h ad cI cJ cZ td gc ex pa di qu dc dg da dh dt dv dd ds ak se pr th) s.heap.size = A at hD ⊢
  have hA : ∀ q : Nat, s.heap.size ≤ q → A q := fun q h => by rw [← hAe]; exact Or.inr h
  have hS : va_S A s.heap s.heap [] := va_S.rf
  have hl := lv_entry ([.ref h, .int x]) (n := 2) (Nat.le_of_ble_eq_true rfl)
  rw [lg_entry_eq]
  generalize (lg_sl ([.ref h, .int x]) ++ List.replicate (2 - (lg_sl ([.ref h, .int x])).length) Slot.unset).toArray = ls at hl ⊢
  have hl : lv_has ls 2 [(0, .ref h), (1, .int x)] := hl
  refine lv_aload_n hx hb dX1_changed_0 rfl (lv_at hl 0 rfl) ?_
  refine lv_iload_n hx hb dX1_changed_1 rfl (lv_at hl 1 rfl) ?_
  refine q_callI (r := bI (isin x (nI 0) (nI 2))) (va_runS (As := [.int x]) (rest := [.ref h]) ⟨hx, hb, hml, hown, hts⟩ (kX1_isShop l x) (cwS 1 hts gX1_changed_X1_isShop rfl rfl rfl (by decide +kernel) ⟨Nat.le_of_ble_eq_true rfl, Nat.le_of_ble_eq_true rfl⟩) ⟨sP_blind, sP_pre⟩ rfl rfl hl.1 rfl (lv_room (Nat.le_of_ble_eq_true rfl)) dX1_changed_2 ⟨Nat.zero_le _, Nat.zero_le _⟩) ?_
  refine q_top (y := bI false) (by rw [isin_ab (m := 3) (by decide) rfl hs]) ?_
  refine q_ifB_eq (b := false) (tgt := 12) hx hb dX1_changed_5 (by decide) (fun k5 => ?_) (fun k5 => absurd k5 (by decide))
  refine lv_iconst (v := nI 1) hx hb dX1_changed_12 (by decide) ?_
  refine q_wcallI (r := bI (decide (0 < 1))) (w' := (mW h ad cI cJ cZ td gc ex pa di qu dc dg da dh dt dv dd ds ak se pr 1)) (va_runV (As := [.int (nI 1)]) (rest := []) ⟨hx, hb, hml, hown, hts⟩ (kX1_fails l D h ad cI cJ cZ td gc ex pa di qu dc dg da dh dt dv dd ds ak se pr th _ 1 (by decide)) (cwV 1 hts gX1_changed_X1_fails rfl rfl rfl (by decide +kernel) ⟨Nat.le_of_ble_eq_true rfl, Nat.le_of_ble_eq_true rfl⟩) ⟨wP_blind, va_recv hK hP (ci := 1) (q0 := 0) rfl rfl, wP_pre hP hK hD⟩ rfl rfl hl.1 rfl (lv_room (Nat.le_of_ble_eq_true rfl)) dX1_changed_13 ⟨Nat.zero_le _, Nat.zero_le _⟩) hD hS hA rfl (fun H locs hP hD hS => ?_)
  refine q_ifB_eq (b := decide (0 < 1)) (tgt := 23) hx hb dX1_changed_16 (by decide) (fun k16 => absurd k16 (by decide)) (fun k16 => ?_)
  refine lv_iconst (v := nI 0) hx hb dX1_changed_19 (by decide) ?_
  refine lv_goto (tgt := 28) hx hb dX1_changed_20 (by decide) ?_
  exact q_wretI hx hb hr hlocks hAe hP hS (rfl) dX1_changed_28

set_option maxHeartbeats 4000000 in
set_option maxRecDepth 100000 in
theorem kX1_feed1 (l : Launch) (D : va_G) (h : Nat) (ad : Nat → Nat) (cI cJ cZ : ClassId) (td : Nat) (gc : Nat) (ex : Nat → Bool) (pa : Nat → Option Nat) (di : Nat → Nat) (qu : Nat → Nat) (dc : Nat) (dg : Nat → Nat) (da : Nat → Nat) (dh : Nat → Option Nat) (dt : Nat → Option Nat) (dv : Nat → Option Nat) (dd : Nat → Nat) (ds : Nat → Nat) (ak : Nat → Bool) (se : Nat → Option Nat) (pr : Nat → Option Nat) (th : Nat) (sz : Nat) (x : Int32) (hs : aBad 3 x) : Met l yX1_feed wsX1_feed ({ frames := 2, cells := 0, slots := 0, locals := 42 } : Room) (wP D (mW h ad cI cJ cZ td gc ex pa di qu dc dg da dh dt dv dd ds ak se pr th) (mT cI cJ cZ) [.ref h, .int x] sz) (wQ D (mW h ad cI cJ cZ td gc ex pa di qu dc dg da dh dt dv dd ds ak se pr th) (mW h ad cI cJ cZ td gc ex pa di qu dc dg da dh dt dv dd ds ak se pr 1) (some (.int (nI 0)))) 0 0 (va_A (mW h ad cI cJ cZ td gc ex pa di qu dc dg da dh dt dv dd ds ak se pr th) sz) := by
  refine Met.ofW (cc := cX1_feed) (maxL := 6) (ret := (some .int)) (by decide) rfl ?_
  intro p e s m args below meth c s₁ B hml hv
  obtain ⟨rfl, hsz, hP, hK, hD0⟩ := hv
  have hx := B.exec
  have hb := B.bytes
  have hr := B.returns
  have hts := atoms_spec (ws := wsX1_feed) B.pre
  have hown : s.vm.findClass RX1 = some m.cls := findClass_of_methodNamed B.named
  have hlocks := B.notSynchronized
  subst hsz
  have hD := hD0.self (sz := s.heap.size)
  generalize hAe : va_A (mW h ad cI cJ cZ td gc ex pa di qu dc dg da dh dt dv dd ds ak se pr th) s.heap.size = A at hD ⊢
  have hA : ∀ q : Nat, s.heap.size ≤ q → A q := fun q h => by rw [← hAe]; exact Or.inr h
  have hS : va_S A s.heap s.heap [] := va_S.rf
  have hl := lv_entry ([.ref h, .int x]) (n := 6) (Nat.le_of_ble_eq_true rfl)
  rw [lg_entry_eq]
  generalize (lg_sl ([.ref h, .int x]) ++ List.replicate (6 - (lg_sl ([.ref h, .int x])).length) Slot.unset).toArray = ls at hl ⊢
  have hl : lv_has ls 6 [(0, .ref h), (1, .int x)] := hl
  refine lv_aload_n hx hb dX1_feed_0 rfl (lv_at hl 0 rfl) ?_
  refine lv_iload_n hx hb dX1_feed_1 rfl (lv_at hl 1 rfl) ?_
  refine q_callI (r := bI (isin x (nI 0) (nI 2))) (va_runS (As := [.int x]) (rest := [.ref h]) ⟨hx, hb, hml, hown, hts⟩ (kX1_isShop l x) (cwS 1 hts gX1_feed_X1_isShop rfl rfl rfl (by decide +kernel) ⟨Nat.le_of_ble_eq_true rfl, Nat.le_of_ble_eq_true rfl⟩) ⟨sP_blind, sP_pre⟩ rfl rfl hl.1 rfl (lv_room (Nat.le_of_ble_eq_true rfl)) dX1_feed_2 ⟨Nat.zero_le _, Nat.zero_le _⟩) ?_
  refine q_top (y := bI false) (by rw [isin_ab (m := 3) (by decide) rfl hs]) ?_
  refine q_ifB_eq (b := false) (tgt := 12) hx hb dX1_feed_5 (by decide) (fun k5 => ?_) (fun k5 => absurd k5 (by decide))
  refine lv_iconst (v := nI 1) hx hb dX1_feed_12 (by decide) ?_
  refine q_wcallI (r := bI (decide (0 < 1))) (w' := (mW h ad cI cJ cZ td gc ex pa di qu dc dg da dh dt dv dd ds ak se pr 1)) (va_runV (As := [.int (nI 1)]) (rest := []) ⟨hx, hb, hml, hown, hts⟩ (kX1_fails l D h ad cI cJ cZ td gc ex pa di qu dc dg da dh dt dv dd ds ak se pr th _ 1 (by decide)) (cwV 1 hts gX1_feed_X1_fails rfl rfl rfl (by decide +kernel) ⟨Nat.le_of_ble_eq_true rfl, Nat.le_of_ble_eq_true rfl⟩) ⟨wP_blind, va_recv hK hP (ci := 1) (q0 := 0) rfl rfl, wP_pre hP hK hD⟩ rfl rfl hl.1 rfl (lv_room (Nat.le_of_ble_eq_true rfl)) dX1_feed_13 ⟨Nat.zero_le _, Nat.zero_le _⟩) hD hS hA rfl (fun H locs hP hD hS => ?_)
  refine q_ifB_eq (b := decide (0 < 1)) (tgt := 21) hx hb dX1_feed_16 (by decide) (fun k16 => absurd k16 (by decide)) (fun k16 => ?_)
  refine lv_iconst (v := nI 0) hx hb dX1_feed_19 (by decide) ?_
  exact q_wretI hx hb hr hlocks hAe hP hS (rfl) dX1_feed_20

set_option maxHeartbeats 4000000 in
set_option maxRecDepth 100000 in
theorem kX1_complete1 (l : Launch) (D : va_G) (h : Nat) (ad : Nat → Nat) (cI cJ cZ : ClassId) (td : Nat) (gc : Nat) (ex : Nat → Bool) (pa : Nat → Option Nat) (di : Nat → Nat) (qu : Nat → Nat) (dc : Nat) (dg : Nat → Nat) (da : Nat → Nat) (dh : Nat → Option Nat) (dt : Nat → Option Nat) (dv : Nat → Option Nat) (dd : Nat → Nat) (ds : Nat → Nat) (ak : Nat → Bool) (se : Nat → Option Nat) (pr : Nat → Option Nat) (th : Nat) (sz : Nat) (x : Int32) (hs : aBad 3 x) : Met l yX1_complete wsX1_complete ({ frames := 2, cells := 0, slots := 0, locals := 42 } : Room) (wP D (mW h ad cI cJ cZ td gc ex pa di qu dc dg da dh dt dv dd ds ak se pr th) (mT cI cJ cZ) [.ref h, .int x] sz) (wQ D (mW h ad cI cJ cZ td gc ex pa di qu dc dg da dh dt dv dd ds ak se pr th) (mW h ad cI cJ cZ td gc ex pa di qu dc dg da dh dt dv dd ds ak se pr 1) (some (.int (nI 0)))) 0 0 (va_A (mW h ad cI cJ cZ td gc ex pa di qu dc dg da dh dt dv dd ds ak se pr th) sz) := by
  refine Met.ofW (cc := cX1_complete) (maxL := 6) (ret := (some .int)) (by decide) rfl ?_
  intro p e s m args below meth c s₁ B hml hv
  obtain ⟨rfl, hsz, hP, hK, hD0⟩ := hv
  have hx := B.exec
  have hb := B.bytes
  have hr := B.returns
  have hts := atoms_spec (ws := wsX1_complete) B.pre
  have hown : s.vm.findClass RX1 = some m.cls := findClass_of_methodNamed B.named
  have hlocks := B.notSynchronized
  subst hsz
  have hD := hD0.self (sz := s.heap.size)
  generalize hAe : va_A (mW h ad cI cJ cZ td gc ex pa di qu dc dg da dh dt dv dd ds ak se pr th) s.heap.size = A at hD ⊢
  have hA : ∀ q : Nat, s.heap.size ≤ q → A q := fun q h => by rw [← hAe]; exact Or.inr h
  have hS : va_S A s.heap s.heap [] := va_S.rf
  have hl := lv_entry ([.ref h, .int x]) (n := 6) (Nat.le_of_ble_eq_true rfl)
  rw [lg_entry_eq]
  generalize (lg_sl ([.ref h, .int x]) ++ List.replicate (6 - (lg_sl ([.ref h, .int x])).length) Slot.unset).toArray = ls at hl ⊢
  have hl : lv_has ls 6 [(0, .ref h), (1, .int x)] := hl
  refine lv_aload_n hx hb dX1_complete_0 rfl (lv_at hl 0 rfl) ?_
  refine lv_iload_n hx hb dX1_complete_1 rfl (lv_at hl 1 rfl) ?_
  refine q_callI (r := bI (isin x (nI 0) (nI 2))) (va_runS (As := [.int x]) (rest := [.ref h]) ⟨hx, hb, hml, hown, hts⟩ (kX1_isShop l x) (cwS 1 hts gX1_complete_X1_isShop rfl rfl rfl (by decide +kernel) ⟨Nat.le_of_ble_eq_true rfl, Nat.le_of_ble_eq_true rfl⟩) ⟨sP_blind, sP_pre⟩ rfl rfl hl.1 rfl (lv_room (Nat.le_of_ble_eq_true rfl)) dX1_complete_2 ⟨Nat.zero_le _, Nat.zero_le _⟩) ?_
  refine q_top (y := bI false) (by rw [isin_ab (m := 3) (by decide) rfl hs]) ?_
  refine q_ifB_eq (b := false) (tgt := 12) hx hb dX1_complete_5 (by decide) (fun k5 => ?_) (fun k5 => absurd k5 (by decide))
  refine lv_iconst (v := nI 1) hx hb dX1_complete_12 (by decide) ?_
  refine q_wcallI (r := bI (decide (0 < 1))) (w' := (mW h ad cI cJ cZ td gc ex pa di qu dc dg da dh dt dv dd ds ak se pr 1)) (va_runV (As := [.int (nI 1)]) (rest := []) ⟨hx, hb, hml, hown, hts⟩ (kX1_fails l D h ad cI cJ cZ td gc ex pa di qu dc dg da dh dt dv dd ds ak se pr th _ 1 (by decide)) (cwV 1 hts gX1_complete_X1_fails rfl rfl rfl (by decide +kernel) ⟨Nat.le_of_ble_eq_true rfl, Nat.le_of_ble_eq_true rfl⟩) ⟨wP_blind, va_recv hK hP (ci := 1) (q0 := 0) rfl rfl, wP_pre hP hK hD⟩ rfl rfl hl.1 rfl (lv_room (Nat.le_of_ble_eq_true rfl)) dX1_complete_13 ⟨Nat.zero_le _, Nat.zero_le _⟩) hD hS hA rfl (fun H locs hP hD hS => ?_)
  refine q_ifB_eq (b := decide (0 < 1)) (tgt := 21) hx hb dX1_complete_16 (by decide) (fun k16 => absurd k16 (by decide)) (fun k16 => ?_)
  refine lv_iconst (v := nI 0) hx hb dX1_complete_19 (by decide) ?_
  exact q_wretI hx hb hr hlocks hAe hP hS (rfl) dX1_complete_20

set_option maxHeartbeats 4000000 in
set_option maxRecDepth 100000 in
theorem kX1_complete (l : Launch) (D : va_G) (h : Nat) (ad : Nat → Nat) (cI cJ cZ : ClassId) (td : Nat) (gc : Nat) (ex : Nat → Bool) (pa : Nat → Option Nat) (di : Nat → Nat) (qu : Nat → Nat) (dc : Nat) (dg : Nat → Nat) (da : Nat → Nat) (dh : Nat → Option Nat) (dt : Nat → Option Nat) (dv : Nat → Option Nat) (dd : Nat → Nat) (ds : Nat → Nat) (ak : Nat → Bool) (se : Nat → Option Nat) (pr : Nat → Option Nat) (th : Nat) (sz : Nat) (ho : Nat → Option Nat) (lev : Nat → Nat) (sp : Nat) (hti : TI ex pa lev) (hs : sp < 3) (hgc : gc ≤ 16) (hrd : RD dc dg da dh dt dd ds td) (hrh : RH ex ho dc dg da dh dt dd ds td) (hpr : PR pa) (hho : HO ho dc) (hdv : DV dv dc) : Met l yX1_complete wsX1_complete ({ frames := 4, cells := 0, slots := 0, locals := 104 } : Room) (wP D (mW h ad cI cJ cZ td gc ex pa di qu dc dg da dh dt dv dd ds ak se pr th) (mT cI cJ cZ) [.ref h, .int (nI sp)] sz) (wQ D (mW h ad cI cJ cZ td gc ex pa di qu dc dg da dh dt dv dd ds ak se pr th) (mW h ad cI cJ cZ td gc ex pa di qu dc dg da dh dt dv dd ds ak se pr 0) (some (.int (nI (cnt (cpl ex pa ho dv ak sp) gc))))) 0 0 (va_A (mW h ad cI cJ cZ td gc ex pa di qu dc dg da dh dt dv dd ds ak se pr th) sz) := by
  refine Met.ofW (cc := cX1_complete) (maxL := 6) (ret := (some .int)) (by decide) rfl ?_
  intro p e s m args below meth c s₁ B hml hv
  obtain ⟨rfl, hsz, hP, hK, hD0⟩ := hv
  have hx := B.exec
  have hb := B.bytes
  have hr := B.returns
  have hts := atoms_spec (ws := wsX1_complete) B.pre
  have hown : s.vm.findClass RX1 = some m.cls := findClass_of_methodNamed B.named
  have hlocks := B.notSynchronized
  subst hsz
  have hD := hD0.self (sz := s.heap.size)
  generalize hAe : va_A (mW h ad cI cJ cZ td gc ex pa di qu dc dg da dh dt dv dd ds ak se pr th) s.heap.size = A at hD ⊢
  have hA : ∀ q : Nat, s.heap.size ≤ q → A q := fun q h => by rw [← hAe]; exact Or.inr h
  have hS : va_S A s.heap s.heap [] := va_S.rf
  have hl := lv_entry ([.ref h, .int (nI sp)]) (n := 6) (Nat.le_of_ble_eq_true rfl)
  rw [lg_entry_eq]
  generalize (lg_sl ([.ref h, .int (nI sp)]) ++ List.replicate (6 - (lg_sl ([.ref h, .int (nI sp)])).length) Slot.unset).toArray = ls at hl ⊢
  have hl : lv_has ls 6 [(0, .ref h), (1, .int (nI sp))] := hl
  refine lv_aload_n hx hb dX1_complete_0 rfl (lv_at hl 0 rfl) ?_
  refine lv_iload_n hx hb dX1_complete_1 rfl (lv_at hl 1 rfl) ?_
  refine q_callI (r := bI (isin (nI sp) (nI 0) (nI 2))) (va_runS (As := [.int (nI sp)]) (rest := [.ref h]) ⟨hx, hb, hml, hown, hts⟩ (kX1_isShop l (nI sp)) (cwS 1 hts gX1_complete_X1_isShop rfl rfl rfl (by decide +kernel) ⟨Nat.le_of_ble_eq_true rfl, Nat.le_of_ble_eq_true rfl⟩) ⟨sP_blind, sP_pre⟩ rfl rfl hl.1 rfl (lv_room (Nat.le_of_ble_eq_true rfl)) dX1_complete_2 ⟨Nat.zero_le _, Nat.zero_le _⟩) ?_
  refine q_top (y := bI true) (by rw [isin_N (by omega) (by decide), decide_eq_true (by omega)]) ?_
  refine q_ifB_eq (b := true) (tgt := 12) hx hb dX1_complete_5 (by decide) (fun k5 => absurd k5 (by decide)) (fun k5 => ?_)
  refine lv_iconst (v := nI 0) hx hb dX1_complete_8 (by decide) ?_
  refine lv_goto (tgt := 13) hx hb dX1_complete_9 (by decide) ?_
  refine q_wcallI (r := bI (decide (0 < 0))) (w' := (mW h ad cI cJ cZ td gc ex pa di qu dc dg da dh dt dv dd ds ak se pr 0)) (va_runV (As := [.int (nI 0)]) (rest := []) ⟨hx, hb, hml, hown, hts⟩ (kX1_fails l D h ad cI cJ cZ td gc ex pa di qu dc dg da dh dt dv dd ds ak se pr th _ 0 (by decide)) (cwV 1 hts gX1_complete_X1_fails rfl rfl rfl (by decide +kernel) ⟨Nat.le_of_ble_eq_true rfl, Nat.le_of_ble_eq_true rfl⟩) ⟨wP_blind, va_recv hK hP (ci := 1) (q0 := 0) rfl rfl, wP_pre hP hK hD⟩ rfl rfl hl.1 rfl (lv_room (Nat.le_of_ble_eq_true rfl)) dX1_complete_13 ⟨Nat.zero_le _, Nat.zero_le _⟩) hD hS hA rfl (fun H locs hP hD hS => ?_)
  refine q_ifB_eq (b := decide (0 < 0)) (tgt := 21) hx hb dX1_complete_16 (by decide) (fun k16 => ?_) (fun k16 => absurd k16 (by decide))
  refine lv_iconst (v := nI 0) hx hb dX1_complete_21 (by decide) ?_
  refine lv_istore_n (lv' := [(2, .int (nI 0)), (0, .ref h), (1, .int (nI sp))]) hx hb dX1_complete_22 rfl hl (by decide) rfl (fun ls hl => ?_)
  refine lv_iconst (v := nI 0) hx hb dX1_complete_23 (by decide) ?_
  refine lv_istore_n (lv' := [(3, .int (nI 0)), (2, .int (nI 0)), (0, .ref h), (1, .int (nI sp))]) hx hb dX1_complete_24 rfl hl (by decide) rfl (fun ls hl => ?_)
  have loop25 : ∀ (n : Nat) (i : Nat) (k : Nat), (i ≤ gc) → (gc + 1 ≤ i + n) → (k = cnt (cpl ex pa ho dv ak sp) i) → ∀ (H : Heap) (locs : List Loc), va_P D vwCl (mW h ad cI cJ cZ td gc ex pa di qu dc dg da dh dt dv dd ds ak se pr 0) H → va_D A (mW h ad cI cJ cZ td gc ex pa di qu dc dg da dh dt dv dd ds ak se pr 0) → va_S A s.heap H locs → ∀ ls : Array Slot, lv_has ls 6 [(0, .ref h), (1, .int (nI sp)), (2, .int (nI k)), (3, .int (nI i))] → W p l e ({ frames := 4, cells := 0, slots := 0, locals := 104 } : Room) s m ([.ref h, .int (nI sp)] : List Value).toArray below meth c H locs 0 0 (MQ below (wQ D (mW h ad cI cJ cZ td gc ex pa di qu dc dg da dh dt dv dd ds ak se pr th) (mW h ad cI cJ cZ td gc ex pa di qu dc dg da dh dt dv dd ds ak se pr 0) (some (.int (nI (cnt (cpl ex pa ho dv ak sp) gc))))) ([.ref h, .int (nI sp)] : List Value).toArray s 0 0 A) (F0 m 25 ls []) := by
    intro n
    induction n with
    | zero => intro i k hle hn hset; omega
    | succ n ih =>
      intro i k hle hn hset H locs hP hD hS ls hl
      refine lv_iload_n hx hb dX1_complete_25 rfl (lv_at hl 3 rfl) ?_
      refine lv_aload_n hx hb dX1_complete_26 rfl (lv_at hl 0 rfl) ?_
      refine va_get (D := D) (ci := 1) (v := .int (nI gc)) (C := RX1) (T := TX1) (N := 18) hx hb hts (iX1_complete) hown hK hP 0 rfl rfl 1 (by decide) (hts (.fieldLink RX1 58 "ShopHubModel" "goods" "I") (by decide +kernel)) (fun _ h9 => h9) rfl dX1_complete_27 ?_
      refine q_icmpN_ge (a := i) (b := gc) (tgt := 101) (by omega) (by omega) hx hb dX1_complete_30 (by decide) (fun k30 => ?_) (fun k30 => ?_)
      · refine lv_iload_n hx hb dX1_complete_101 rfl (lv_at hl 2 rfl) ?_
        exact q_wretI hx hb hr hlocks hAe hP hS (by rw [hset, show i = gc by omega]) dX1_complete_102
      · refine lv_iconst (v := nI 0) hx hb dX1_complete_33 (by decide) ?_
        refine lv_istore (lv' := [(4, .int (nI 0)), (0, .ref h), (1, .int (nI sp)), (2, .int (nI k)), (3, .int (nI i))]) hx hb dX1_complete_34 hl (by decide) rfl (fun ls hl => ?_)
        refine lv_iconst (v := nI 0) hx hb dX1_complete_36 (by decide) ?_
        refine lv_istore (lv' := [(5, .int (nI 0)), (4, .int (nI 0)), (0, .ref h), (1, .int (nI sp)), (2, .int (nI k)), (3, .int (nI i))]) hx hb dX1_complete_37 hl (by decide) rfl (fun ls hl => ?_)
        have loop39 : ∀ (n2 : Nat) (j : Nat) (b : Nat), (j ≤ 3) → (4 ≤ j + n2) → (b = 0 ↔ exU (fun t => decide (bset (lck ex pa ho dv ak i sp t) 6 ≠ 0)) j = false) → (b < 64) → ∀ (H : Heap) (locs : List Loc), va_P D vwCl (mW h ad cI cJ cZ td gc ex pa di qu dc dg da dh dt dv dd ds ak se pr 0) H → va_D A (mW h ad cI cJ cZ td gc ex pa di qu dc dg da dh dt dv dd ds ak se pr 0) → va_S A s.heap H locs → ∀ ls : Array Slot, lv_has ls 6 [(0, .ref h), (1, .int (nI sp)), (2, .int (nI k)), (3, .int (nI i)), (4, .int (nI b)), (5, .int (nI j))] → W p l e ({ frames := 4, cells := 0, slots := 0, locals := 104 } : Room) s m ([.ref h, .int (nI sp)] : List Value).toArray below meth c H locs 0 0 (MQ below (wQ D (mW h ad cI cJ cZ td gc ex pa di qu dc dg da dh dt dv dd ds ak se pr th) (mW h ad cI cJ cZ td gc ex pa di qu dc dg da dh dt dv dd ds ak se pr 0) (some (.int (nI (cnt (cpl ex pa ho dv ak sp) gc))))) ([.ref h, .int (nI sp)] : List Value).toArray s 0 0 A) (F0 m 39 ls []) := by
          intro n2
          induction n2 with
          | zero => intro j b hle2 hn2 hb2 hb3; omega
          | succ n2 ih2 =>
            intro j b hle2 hn2 hb2 hb3 H locs hP hD hS ls hl
            refine lv_iload hx hb dX1_complete_39 (lv_at hl 5 rfl) ?_
            refine lv_iconst (v := nI 3) hx hb dX1_complete_41 (by decide) ?_
            refine q_icmpN_ge (a := j) (b := 3) (tgt := 73) (by omega) (by omega) hx hb dX1_complete_42 (by decide) (fun k42 => ?_) (fun k42 => ?_)
            · have hbz : ex i = true → (b ≠ 0 ↔ (!exU (fun t => decide (bset (lck ex pa ho dv ak i sp t) 6 ≠ 0)) 3) = false) := fun _ => by rw [show (3 : Nat) = j by omega]; constructor; (intro z; cases h9 : exU (fun t => decide (bset (lck ex pa ho dv ak i sp t) 6 ≠ 0)) j with | true => rfl | false => exact absurd (hb2.mpr h9) z); (intro z z2; rw [hb2.mp z2] at z; cases z)
              have hbz2 : ex i = true → (b = 0 ↔ (!exU (fun t => decide (bset (lck ex pa ho dv ak i sp t) 6 ≠ 0)) 3) = true) := fun _ => by rw [show (3 : Nat) = j by omega, hb2]; cases exU (fun t => decide (bset (lck ex pa ho dv ak i sp t) 6 ≠ 0)) j <;> simp
              refine lv_iload_n hx hb dX1_complete_73 rfl (lv_at hl 2 rfl) ?_
              refine lv_aload_n hx hb dX1_complete_74 rfl (lv_at hl 0 rfl) ?_
              refine va_get (D := D) (ci := 1) (v := .ref (ad 2)) (C := RX1) (T := TX1) (N := 18) hx hb hts (iX1_complete) hown hK hP 0 rfl rfl 2 (by decide) (hts (.fieldLink RX1 7 "ShopHubModel" "isThere" "[Z") (by decide +kernel)) (fun _ h9 => h9) rfl dX1_complete_75 ?_
              refine lv_iload_n hx hb dX1_complete_78 rfl (lv_at hl 3 rfl) ?_
              refine q_zld ex hx hb hK hP 1 0 rfl rfl (k := i) (by omega) (Nat.le_of_ble_eq_true rfl) dX1_complete_79 ?_
              refine q_ifB_eq (b := ex i) (tgt := 92) hx hb dX1_complete_80 (by decide) (fun k80 => ?_) (fun k80 => ?_)
              · refine lv_iconst (v := nI 0) hx hb dX1_complete_92 (by decide) ?_
                refine q_addN (a := k) (b := 0) hx hb dX1_complete_93 ?_
                refine lv_istore_n (lv' := [(2, .int (nI (k + 0))), (0, .ref h), (1, .int (nI sp)), (3, .int (nI i)), (4, .int (nI b)), (5, .int (nI j))]) hx hb dX1_complete_94 rfl hl (by decide) rfl (fun ls hl => ?_)
                refine lv_iinc (v := nI (i + 1)) (lv' := [(3, .int (nI (i + 1))), (2, .int (nI (k + 0))), (0, .ref h), (1, .int (nI sp)), (4, .int (nI b)), (5, .int (nI j))]) hx hb dX1_complete_95 hl (k := 3) rfl (i1_n i) (by decide) rfl (fun ls hl => ?_)
                refine lv_goto (tgt := 25) hx hb dX1_complete_98 (by decide) ?_
                exact ih (i + 1) (k + 0) (by omega) (by omega) (by rw [cnt_f (f := (cpl ex pa ho dv ak sp)) (show cpl ex pa ho dv ak sp i = false by unfold cpl; rw [k80]; rfl), Nat.add_zero]; exact hset) _ _ hP hD hS _ (lv_sub hl [2, 3, 1, 0] rfl)
              · refine lv_iload hx hb dX1_complete_83 (lv_at hl 4 rfl) ?_
                refine q_ifN_ne (a := b) (tgt := 92) (by omega) hx hb dX1_complete_85 (by decide) (fun k85 => ?_) (fun k85 => ?_)
                · refine lv_iconst (v := nI 0) hx hb dX1_complete_92 (by decide) ?_
                  refine q_addN (a := k) (b := 0) hx hb dX1_complete_93 ?_
                  refine lv_istore_n (lv' := [(2, .int (nI (k + 0))), (0, .ref h), (1, .int (nI sp)), (3, .int (nI i)), (4, .int (nI b)), (5, .int (nI j))]) hx hb dX1_complete_94 rfl hl (by decide) rfl (fun ls hl => ?_)
                  refine lv_iinc (v := nI (i + 1)) (lv' := [(3, .int (nI (i + 1))), (2, .int (nI (k + 0))), (0, .ref h), (1, .int (nI sp)), (4, .int (nI b)), (5, .int (nI j))]) hx hb dX1_complete_95 hl (k := 3) rfl (i1_n i) (by decide) rfl (fun ls hl => ?_)
                  refine lv_goto (tgt := 25) hx hb dX1_complete_98 (by decide) ?_
                  exact ih (i + 1) (k + 0) (by omega) (by omega) (by rw [cnt_f (f := (cpl ex pa ho dv ak sp)) (show cpl ex pa ho dv ak sp i = false by unfold cpl; rw [(hbz k80).mp k85, Bool.and_false]), Nat.add_zero]; exact hset) _ _ hP hD hS _ (lv_sub hl [2, 3, 1, 0] rfl)
                · refine lv_iconst (v := nI 1) hx hb dX1_complete_88 (by decide) ?_
                  refine lv_goto (tgt := 93) hx hb dX1_complete_89 (by decide) ?_
                  refine q_addN (a := k) (b := 1) hx hb dX1_complete_93 ?_
                  refine lv_istore_n (lv' := [(2, .int (nI (k + 1))), (0, .ref h), (1, .int (nI sp)), (3, .int (nI i)), (4, .int (nI b)), (5, .int (nI j))]) hx hb dX1_complete_94 rfl hl (by decide) rfl (fun ls hl => ?_)
                  refine lv_iinc (v := nI (i + 1)) (lv' := [(3, .int (nI (i + 1))), (2, .int (nI (k + 1))), (0, .ref h), (1, .int (nI sp)), (4, .int (nI b)), (5, .int (nI j))]) hx hb dX1_complete_95 hl (k := 3) rfl (i1_n i) (by decide) rfl (fun ls hl => ?_)
                  refine lv_goto (tgt := 25) hx hb dX1_complete_98 (by decide) ?_
                  exact ih (i + 1) (k + 1) (by omega) (by omega) (by rw [cnt_t (f := (cpl ex pa ho dv ak sp)) (show cpl ex pa ho dv ak sp i = true by unfold cpl; rw [k80, (hbz2 k80).mp k85]; rfl), ← hset]) _ _ hP hD hS _ (lv_sub hl [2, 3, 1, 0] rfl)
            · refine lv_aload_n hx hb dX1_complete_45 rfl (lv_at hl 0 rfl) ?_
              refine va_get (D := D) (ci := 1) (v := .ref (ad 2)) (C := RX1) (T := TX1) (N := 18) hx hb hts (iX1_complete) hown hK hP 0 rfl rfl 2 (by decide) (hts (.fieldLink RX1 7 "ShopHubModel" "isThere" "[Z") (by decide +kernel)) (fun _ h9 => h9) rfl dX1_complete_46 ?_
              refine lv_iload_n hx hb dX1_complete_49 rfl (lv_at hl 3 rfl) ?_
              refine q_zld ex hx hb hK hP 1 0 rfl rfl (k := i) (by omega) (Nat.le_of_ble_eq_true rfl) dX1_complete_50 ?_
              refine q_ifB_eq (b := ex i) (tgt := 73) hx hb dX1_complete_51 (by decide) (fun k51 => ?_) (fun k51 => ?_)
              · have hbz : ex i = true → (b ≠ 0 ↔ (!exU (fun t => decide (bset (lck ex pa ho dv ak i sp t) 6 ≠ 0)) 3) = false) := fun z => by rw [k51] at z; cases z
                have hbz2 : ex i = true → (b = 0 ↔ (!exU (fun t => decide (bset (lck ex pa ho dv ak i sp t) 6 ≠ 0)) 3) = true) := fun z => by rw [k51] at z; cases z
                refine lv_iload_n hx hb dX1_complete_73 rfl (lv_at hl 2 rfl) ?_
                refine lv_aload_n hx hb dX1_complete_74 rfl (lv_at hl 0 rfl) ?_
                refine va_get (D := D) (ci := 1) (v := .ref (ad 2)) (C := RX1) (T := TX1) (N := 18) hx hb hts (iX1_complete) hown hK hP 0 rfl rfl 2 (by decide) (hts (.fieldLink RX1 7 "ShopHubModel" "isThere" "[Z") (by decide +kernel)) (fun _ h9 => h9) rfl dX1_complete_75 ?_
                refine lv_iload_n hx hb dX1_complete_78 rfl (lv_at hl 3 rfl) ?_
                refine q_zld ex hx hb hK hP 1 0 rfl rfl (k := i) (by omega) (Nat.le_of_ble_eq_true rfl) dX1_complete_79 ?_
                refine q_ifB_eq (b := ex i) (tgt := 92) hx hb dX1_complete_80 (by decide) (fun k80 => ?_) (fun k80 => ?_)
                · refine lv_iconst (v := nI 0) hx hb dX1_complete_92 (by decide) ?_
                  refine q_addN (a := k) (b := 0) hx hb dX1_complete_93 ?_
                  refine lv_istore_n (lv' := [(2, .int (nI (k + 0))), (0, .ref h), (1, .int (nI sp)), (3, .int (nI i)), (4, .int (nI b)), (5, .int (nI j))]) hx hb dX1_complete_94 rfl hl (by decide) rfl (fun ls hl => ?_)
                  refine lv_iinc (v := nI (i + 1)) (lv' := [(3, .int (nI (i + 1))), (2, .int (nI (k + 0))), (0, .ref h), (1, .int (nI sp)), (4, .int (nI b)), (5, .int (nI j))]) hx hb dX1_complete_95 hl (k := 3) rfl (i1_n i) (by decide) rfl (fun ls hl => ?_)
                  refine lv_goto (tgt := 25) hx hb dX1_complete_98 (by decide) ?_
                  exact ih (i + 1) (k + 0) (by omega) (by omega) (by rw [cnt_f (f := (cpl ex pa ho dv ak sp)) (show cpl ex pa ho dv ak sp i = false by unfold cpl; rw [k80]; rfl), Nat.add_zero]; exact hset) _ _ hP hD hS _ (lv_sub hl [2, 3, 1, 0] rfl)
                · refine lv_iload hx hb dX1_complete_83 (lv_at hl 4 rfl) ?_
                  refine q_ifN_ne (a := b) (tgt := 92) (by omega) hx hb dX1_complete_85 (by decide) (fun k85 => ?_) (fun k85 => ?_)
                  · refine lv_iconst (v := nI 0) hx hb dX1_complete_92 (by decide) ?_
                    refine q_addN (a := k) (b := 0) hx hb dX1_complete_93 ?_
                    refine lv_istore_n (lv' := [(2, .int (nI (k + 0))), (0, .ref h), (1, .int (nI sp)), (3, .int (nI i)), (4, .int (nI b)), (5, .int (nI j))]) hx hb dX1_complete_94 rfl hl (by decide) rfl (fun ls hl => ?_)
                    refine lv_iinc (v := nI (i + 1)) (lv' := [(3, .int (nI (i + 1))), (2, .int (nI (k + 0))), (0, .ref h), (1, .int (nI sp)), (4, .int (nI b)), (5, .int (nI j))]) hx hb dX1_complete_95 hl (k := 3) rfl (i1_n i) (by decide) rfl (fun ls hl => ?_)
                    refine lv_goto (tgt := 25) hx hb dX1_complete_98 (by decide) ?_
                    exact ih (i + 1) (k + 0) (by omega) (by omega) (by rw [cnt_f (f := (cpl ex pa ho dv ak sp)) (show cpl ex pa ho dv ak sp i = false by unfold cpl; rw [(hbz k80).mp k85, Bool.and_false]), Nat.add_zero]; exact hset) _ _ hP hD hS _ (lv_sub hl [2, 3, 1, 0] rfl)
                  · refine lv_iconst (v := nI 1) hx hb dX1_complete_88 (by decide) ?_
                    refine lv_goto (tgt := 93) hx hb dX1_complete_89 (by decide) ?_
                    refine q_addN (a := k) (b := 1) hx hb dX1_complete_93 ?_
                    refine lv_istore_n (lv' := [(2, .int (nI (k + 1))), (0, .ref h), (1, .int (nI sp)), (3, .int (nI i)), (4, .int (nI b)), (5, .int (nI j))]) hx hb dX1_complete_94 rfl hl (by decide) rfl (fun ls hl => ?_)
                    refine lv_iinc (v := nI (i + 1)) (lv' := [(3, .int (nI (i + 1))), (2, .int (nI (k + 1))), (0, .ref h), (1, .int (nI sp)), (4, .int (nI b)), (5, .int (nI j))]) hx hb dX1_complete_95 hl (k := 3) rfl (i1_n i) (by decide) rfl (fun ls hl => ?_)
                    refine lv_goto (tgt := 25) hx hb dX1_complete_98 (by decide) ?_
                    exact ih (i + 1) (k + 1) (by omega) (by omega) (by rw [cnt_t (f := (cpl ex pa ho dv ak sp)) (show cpl ex pa ho dv ak sp i = true by unfold cpl; rw [k80, (hbz2 k80).mp k85]; rfl), ← hset]) _ _ hP hD hS _ (lv_sub hl [2, 3, 1, 0] rfl)
              · refine lv_iload hx hb dX1_complete_54 (lv_at hl 4 rfl) ?_
                refine lv_aload_n hx hb dX1_complete_56 rfl (lv_at hl 0 rfl) ?_
                refine lv_iload_n hx hb dX1_complete_57 rfl (lv_at hl 3 rfl) ?_
                refine lv_iload_n hx hb dX1_complete_58 rfl (lv_at hl 1 rfl) ?_
                refine lv_iload hx hb dX1_complete_59 (lv_at hl 5 rfl) ?_
                refine q_callI (r := nI (bset (lck ex pa ho dv ak i sp j) 6)) (va_runV (As := [.int (nI i), .int (nI sp), .int (nI j)]) (rest := [.int (nI b)]) ⟨hx, hb, hml, hown, hts⟩ (kX1_lacks l D h ad cI cJ cZ td gc ex pa di qu dc dg da dh dt dv dd ds ak se pr 0 ho lev i sp j hti (by omega) k51 hs (by omega) hrd hrh hpr hho hdv) (cwV 3 hts gX1_complete_X1_lacks rfl rfl rfl (by decide +kernel) ⟨Nat.le_of_ble_eq_true rfl, Nat.le_of_ble_eq_true rfl⟩) ⟨pP_blind, va_recv hK hP (ci := 1) (q0 := 0) rfl rfl, pP_pre hP hK⟩ rfl rfl hl.1 rfl (lv_room (Nat.le_of_ble_eq_true rfl)) dX1_complete_61 ⟨Nat.zero_le _, Nat.zero_le _⟩) ?_
                refine lv_ior hx hb dX1_complete_64 ?_
                refine q_top (y := nI (b ||| bset (lck ex pa ho dv ak i sp j) 6)) (nI_or b (bset (lck ex pa ho dv ak i sp j) 6)) ?_
                refine lv_istore (lv' := [(4, .int (nI (b ||| bset (lck ex pa ho dv ak i sp j) 6))), (0, .ref h), (1, .int (nI sp)), (2, .int (nI k)), (3, .int (nI i)), (5, .int (nI j))]) hx hb dX1_complete_65 hl (by decide) rfl (fun ls hl => ?_)
                refine lv_iinc (v := nI (j + 1)) (lv' := [(5, .int (nI (j + 1))), (4, .int (nI (b ||| bset (lck ex pa ho dv ak i sp j) 6))), (0, .ref h), (1, .int (nI sp)), (2, .int (nI k)), (3, .int (nI i))]) hx hb dX1_complete_67 hl (k := 5) rfl (i1_n j) (by decide) rfl (fun ls hl => ?_)
                refine lv_goto (tgt := 39) hx hb dX1_complete_70 (by decide) ?_
                exact ih2 (j + 1) (b ||| bset (lck ex pa ho dv ak i sp j) 6) (by omega) (by omega) (exU_or hb2 rfl) (Nat.or_lt_two_pow (n := 6) hb3 (bset_lt _ 6)) _ _ hP hD hS _ (lv_sub hl [2, 3, 4, 5, 1, 0] rfl)
        exact loop39 4 0 0 (by omega) (Nat.le_refl 4) (⟨fun _ => rfl, fun _ => rfl⟩) (by decide) _ _ hP hD hS _ (lv_sub hl [2, 3, 4, 5, 1, 0] rfl)
  exact loop25 (gc + 1) 0 0 (by omega) (by omega) rfl _ _ hP hD hS _ (lv_sub hl [2, 3, 1, 0] rfl)
