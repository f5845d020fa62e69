set_option maxHeartbeats 4000000 in
set_option maxRecDepth 100000 in
theorem kL_part (l : Launch) (b L k n : Nat) (hk : k < L) (hL : L < 2147483648) (hn : 0 < n) (hn2 : n < 2147483648) : Met l yL_part wsL_part ({ frames := 0, cells := 0, slots := 0, locals := 0 } : Room) (sX b L (fun _ => nI 39) [.ref b, .int (nI k), .int (nI n)]) (pQ (some (.int (nI (39 % n))))) 0 0 nF := by
  refine Met.ofW (cc := cL_part) (maxL := 4) (ret := (some .int)) (by decide) rfl ?_
  intro p e s m args below meth c s₁ B hml hv
  obtain ⟨rfl, hX⟩ := hv
  have hx := B.exec
  have hb := B.bytes
  have hr := B.returns
  have hts := atoms_spec (ws := wsL_part) B.pre
  have hown : s.vm.findClass RL = some m.cls := findClass_of_methodNamed B.named
  have hlocks := B.notSynchronized
  have hl := lv_entry ([.ref b, .int (nI k), .int (nI n)]) (n := 4) (Nat.le_of_ble_eq_true rfl)
  rw [lg_entry_eq]
  generalize (lg_sl ([.ref b, .int (nI k), .int (nI n)]) ++ List.replicate (4 - (lg_sl ([.ref b, .int (nI k), .int (nI n)])).length) Slot.unset).toArray = ls at hl ⊢
  have hl : lv_has ls 4 [(0, .ref b), (1, .int (nI k)), (2, .int (nI n))] := hl
  have hX : va_X b L (fun _ => nI 39) s s.heap := hX
  have hbl := va_X_lt hX
  have hS : va_S nF s.heap s.heap [] := va_S.rf
  have hbA : ¬ nF b := fun z => z
  refine lv_iload_n hx hb dL_part_0 rfl (lv_at hl 1 rfl) ?_
  refine lv_aload_n hx hb dL_part_1 rfl (lv_at hl 0 rfl) ?_
  refine va_slen hx hb hX hbl hbA hS dL_part_2 ?_
  refine q_icmpN_ge (a := k) (b := L) (tgt := 12) (by omega) (by omega) hx hb dL_part_3 (by decide) (fun z => absurd z (by omega)) (fun _ => ?_)
  refine lv_aload_n hx hb dL_part_6 rfl (lv_at hl 0 rfl) ?_
  refine lv_iload_n hx hb dL_part_7 rfl (lv_at hl 1 rfl) ?_
  refine va_sld hx hb hX hbl hbA hS (vp_in_nI hk (by omega)) dL_part_8 ?_
  refine lv_goto (tgt := 25) hx hb dL_part_9 (by decide) ?_
  refine lv_istore_n (lv' := [(3, .int (nI 39)), (0, .ref b), (1, .int (nI k)), (2, .int (nI n))]) hx hb dL_part_25 rfl hl (by decide) rfl (fun ls hl => ?_)
  refine lv_iload_n hx hb dL_part_26 rfl (lv_at hl 0 rfl) ?_
  refine lv_ldc (v := 2147483647) hx hb hown (hts (.constant RL 7 (2147483647)) (by decide +kernel)) dL_part_27 ?_
  refine lv_iand hx hb dL_part_29 ?_
  refine q_top (y := nI 39) (by decide) ?_
  refine lv_iload_n hx hb dL_part_30 rfl (lv_at hl 3 rfl) ?_
  refine q_remN (a := 39) (b := n) (by decide) hn hn2 hx hb dL_part_31 ?_
  exact q_retI hx hb hr hlocks rfl dL_part_32

set_option maxHeartbeats 4000000 in
set_option maxRecDepth 100000 in
theorem kL_isDone (l : Launch) (D : va_G) (h : Nat) (ad : Nat → Nat) (cI cZ : ClassId) (hlf : l.stackTraces = false) (b L k ta qa da ea aa ga : Nat) (hk : k + 3 < L) (hL : L < 2147483648) : Met l yL_isDone wsL_isDone ({ frames := 9, cells := 1, slots := 6, locals := 150 } : Room) (oP D (hWi h ad cI cZ) (hT cI cZ) b L (fun _ => nI 39) [.ref h, .ref b, .int (nI k), .ref ta, .ref qa, .ref da, .ref ea, .ref aa, .ref ga]) (rQ (.int (bI true)) 1) 1 6 nF := by
  refine Met.ofW (cc := cL_isDone) (maxL := 17) (ret := (some .boolean)) (by decide) rfl ?_
  intro p e s m args below meth c s₁ B hml hv
  obtain ⟨rfl, hP, hK, hE, hX⟩ := hv
  have hx := B.exec
  have hb := B.bytes
  have hr := B.returns
  have hts := atoms_spec (ws := wsL_isDone) B.pre
  have hown : s.vm.findClass RL = some m.cls := findClass_of_methodNamed B.named
  have hlocks := B.notSynchronized
  have hl := lv_entry ([.ref h, .ref b, .int (nI k), .ref ta, .ref qa, .ref da, .ref ea, .ref aa, .ref ga]) (n := 17) (Nat.le_of_ble_eq_true rfl)
  rw [lg_entry_eq]
  generalize (lg_sl ([.ref h, .ref b, .int (nI k), .ref ta, .ref qa, .ref da, .ref ea, .ref aa, .ref ga]) ++ List.replicate (17 - (lg_sl ([.ref h, .ref b, .int (nI k), .ref ta, .ref qa, .ref da, .ref ea, .ref aa, .ref ga])).length) Slot.unset).toArray = ls at hl ⊢
  have hl : lv_has ls 17 [(0, .ref h), (1, .ref b), (2, .int (nI k)), (3, .ref ta), (4, .ref qa), (5, .ref da), (6, .ref ea), (7, .ref aa), (8, .ref ga)] := hl
  have hbl := va_X_lt hX
  have hE : tEA nF s s.heap := hE
  have hS : va_S nF s.heap s.heap [] := va_S.rf
  have hz : s.heap.size + 0 ≤ s.heap.size := Nat.le_refl _
  refine lv_aload_n hx hb dL_isDone_0 rfl (lv_at hl 1 rfl) ?_
  refine lv_iload_n hx hb dL_isDone_1 rfl (lv_at hl 2 rfl) ?_
  refine lv_bipush (v := nI 40) hx hb dL_isDone_2 (by decide) ?_
  refine q_callI (r := nI 39) (va_runS (As := [.ref b, .int (nI k), .int (nI 40)]) (rest := []) ⟨hx, hb, hml, hown, hts⟩ (kL_part l b L k 40 (by omega) hL (by decide) (by decide)) (va_cwS 3 hts gL_isDone_L_part rfl rfl rfl (by decide +kernel) ⟨Nat.le_of_ble_eq_true rfl, Nat.le_of_ble_eq_true rfl⟩) ⟨sX_blind, sX_preH hX⟩ rfl rfl hl.1 rfl (lv_room (Nat.le_of_ble_eq_true rfl)) dL_isDone_4 ⟨Nat.le_of_ble_eq_true rfl, Nat.le_of_ble_eq_true rfl⟩) ?_
  refine lv_istore (lv' := [(9, .int (nI 39)), (0, .ref h), (1, .ref b), (2, .int (nI k)), (3, .ref ta), (4, .ref qa), (5, .ref da), (6, .ref ea), (7, .ref aa), (8, .ref ga)]) hx hb dL_isDone_7 hl (by decide) rfl (fun ls hl => ?_)
  refine lv_aload_n hx hb dL_isDone_9 rfl (lv_at hl 2 rfl) ?_
  refine lv_iload_n hx hb dL_isDone_10 rfl (lv_at hl 3 rfl) ?_
  refine lv_iconst (v := nI 1) hx hb dL_isDone_11 (by decide) ?_
  refine q_addN (a := k) (b := 1) hx hb dL_isDone_12 ?_
  refine lv_sipush (v := nI 6000) hx hb dL_isDone_13 (by decide) ?_
  refine q_callI (r := nI 39) (va_runS (As := [.ref b, .int (nI (k + 1)), .int (nI 6000)]) (rest := []) ⟨hx, hb, hml, hown, hts⟩ (kL_part l b L (k + 1) 6000 (by omega) hL (by decide) (by decide)) (va_cwS 3 hts gL_isDone_L_part rfl rfl rfl (by decide +kernel) ⟨Nat.le_of_ble_eq_true rfl, Nat.le_of_ble_eq_true rfl⟩) ⟨sX_blind, sX_preH hX⟩ rfl rfl hl.1 rfl (lv_room (Nat.le_of_ble_eq_true rfl)) dL_isDone_16 ⟨Nat.le_of_ble_eq_true rfl, Nat.le_of_ble_eq_true rfl⟩) ?_
  refine lv_istore (lv' := [(10, .int (nI 39)), (9, .int (nI 39)), (0, .ref h), (1, .ref b), (2, .int (nI k)), (3, .ref ta), (4, .ref qa), (5, .ref da), (6, .ref ea), (7, .ref aa), (8, .ref ga)]) hx hb dL_isDone_19 hl (by decide) rfl (fun ls hl => ?_)
  refine lv_aload_n hx hb dL_isDone_21 rfl (lv_at hl 3 rfl) ?_
  refine lv_iload_n hx hb dL_isDone_22 rfl (lv_at hl 4 rfl) ?_
  refine lv_iconst (v := nI 2) hx hb dL_isDone_23 (by decide) ?_
  refine q_addN (a := k) (b := 2) hx hb dL_isDone_24 ?_
  refine lv_sipush (v := nI 7000) hx hb dL_isDone_25 (by decide) ?_
  refine q_callI (r := nI 39) (va_runS (As := [.ref b, .int (nI (k + 2)), .int (nI 7000)]) (rest := []) ⟨hx, hb, hml, hown, hts⟩ (kL_part l b L (k + 2) 7000 (by omega) hL (by decide) (by decide)) (va_cwS 3 hts gL_isDone_L_part rfl rfl rfl (by decide +kernel) ⟨Nat.le_of_ble_eq_true rfl, Nat.le_of_ble_eq_true rfl⟩) ⟨sX_blind, sX_preH hX⟩ rfl rfl hl.1 rfl (lv_room (Nat.le_of_ble_eq_true rfl)) dL_isDone_28 ⟨Nat.le_of_ble_eq_true rfl, Nat.le_of_ble_eq_true rfl⟩) ?_
  refine lv_istore (lv' := [(11, .int (nI 39)), (10, .int (nI 39)), (9, .int (nI 39)), (0, .ref h), (1, .ref b), (2, .int (nI k)), (3, .ref ta), (4, .ref qa), (5, .ref da), (6, .ref ea), (7, .ref aa), (8, .ref ga)]) hx hb dL_isDone_31 hl (by decide) rfl (fun ls hl => ?_)
  refine lv_aload_n hx hb dL_isDone_33 rfl (lv_at hl 4 rfl) ?_
  refine lv_iload_n hx hb dL_isDone_34 rfl (lv_at hl 5 rfl) ?_
  refine lv_iconst (v := nI 3) hx hb dL_isDone_35 (by decide) ?_
  refine q_addN (a := k) (b := 3) hx hb dL_isDone_36 ?_
  refine lv_sipush (v := nI 8000) hx hb dL_isDone_37 (by decide) ?_
  refine q_callI (r := nI 39) (va_runS (As := [.ref b, .int (nI (k + 3)), .int (nI 8000)]) (rest := []) ⟨hx, hb, hml, hown, hts⟩ (kL_part l b L (k + 3) 8000 (by omega) hL (by decide) (by decide)) (va_cwS 3 hts gL_isDone_L_part rfl rfl rfl (by decide +kernel) ⟨Nat.le_of_ble_eq_true rfl, Nat.le_of_ble_eq_true rfl⟩) ⟨sX_blind, sX_preH hX⟩ rfl rfl hl.1 rfl (lv_room (Nat.le_of_ble_eq_true rfl)) dL_isDone_40 ⟨Nat.le_of_ble_eq_true rfl, Nat.le_of_ble_eq_true rfl⟩) ?_
  refine lv_istore (lv' := [(12, .int (nI 39)), (11, .int (nI 39)), (10, .int (nI 39)), (9, .int (nI 39)), (0, .ref h), (1, .ref b), (2, .int (nI k)), (3, .ref ta), (4, .ref qa), (5, .ref da), (6, .ref ea), (7, .ref aa), (8, .ref ga)]) hx hb dL_isDone_43 hl (by decide) rfl (fun ls hl => ?_)
  refine lv_iload hx hb dL_isDone_45 (lv_at hl 3 rfl) ?_
  refine lv_bipush (v := (nI 8)) hx hb dL_isDone_47 (by decide) ?_
  refine lv_icmp_ge (tgt := 88) hx hb dL_isDone_49 (by decide) (fun _ => ?_) (fun z => (show False by revert z; decide).elim)
  refine lv_iload hx hb dL_isDone_88 (lv_at hl 3 rfl) ?_
  refine lv_bipush (v := (nI 11)) hx hb dL_isDone_90 (by decide) ?_
  refine lv_icmp_ge (tgt := 111) hx hb dL_isDone_92 (by decide) (fun _ => ?_) (fun z => (show False by revert z; decide).elim)
  refine lv_iload hx hb dL_isDone_111 (lv_at hl 3 rfl) ?_
  refine lv_bipush (v := (nI 22)) hx hb dL_isDone_113 (by decide) ?_
  refine lv_icmp_ge (tgt := 153) hx hb dL_isDone_115 (by decide) (fun _ => ?_) (fun z => (show False by revert z; decide).elim)
  refine lv_iload hx hb dL_isDone_153 (lv_at hl 3 rfl) ?_
  refine lv_bipush (v := (nI 30)) hx hb dL_isDone_155 (by decide) ?_
  refine lv_icmp_ge (tgt := 193) hx hb dL_isDone_157 (by decide) (fun _ => ?_) (fun z => (show False by revert z; decide).elim)
  refine lv_iload hx hb dL_isDone_193 (lv_at hl 3 rfl) ?_
  refine lv_bipush (v := (nI 30)) hx hb dL_isDone_195 (by decide) ?_
  refine lv_icmp_ne (tgt := 292) hx hb dL_isDone_197 (by decide) (fun _ => ?_) (fun z => (show False by revert z; decide).elim)
  refine lv_iload hx hb dL_isDone_292 (lv_at hl 3 rfl) ?_
  refine lv_bipush (v := (nI 34)) hx hb dL_isDone_294 (by decide) ?_
  refine lv_icmp_ge (tgt := 389) hx hb dL_isDone_296 (by decide) (fun _ => ?_) (fun z => (show False by revert z; decide).elim)
  refine lv_iload hx hb dL_isDone_389 (lv_at hl 3 rfl) ?_
  refine lv_bipush (v := (nI 37)) hx hb dL_isDone_391 (by decide) ?_
  refine lv_icmp_ge (tgt := 472) hx hb dL_isDone_393 (by decide) (fun _ => ?_) (fun z => (show False by revert z; decide).elim)
  refine lv_iload hx hb dL_isDone_472 (lv_at hl 2 rfl) ?_
  refine lv_iconst (v := (nI 4)) hx hb dL_isDone_474 (by decide) ?_
  refine lv_irem hx hb dL_isDone_475 (by decide) ?_
  refine q_top (y := (nI 3)) (by decide) ?_
  refine lv_istore (lv' := [(13, .int (nI 3)), (12, .int (nI 39)), (11, .int (nI 39)), (10, .int (nI 39)), (9, .int (nI 39)), (0, .ref h), (1, .ref b), (2, .int (nI k)), (3, .ref ta), (4, .ref qa), (5, .ref da), (6, .ref ea), (7, .ref aa), (8, .ref ga)]) hx hb dL_isDone_476 hl (by decide) rfl (fun ls hl => ?_)
  refine lv_iload hx hb dL_isDone_478 (lv_at hl 0 rfl) ?_
  refine lv_iconst (v := (nI 3)) hx hb dL_isDone_480 (by decide) ?_
  refine lv_icmp_ge (tgt := 493) hx hb dL_isDone_481 (by decide) (fun _ => ?_) (fun z => (show False by revert z; decide).elim)
  refine lv_iconst (v := (nI 0)) hx hb dL_isDone_493 (by decide) ?_
  refine lv_istore (lv' := [(14, .int (nI 0)), (13, .int (nI 3)), (12, .int (nI 39)), (11, .int (nI 39)), (10, .int (nI 39)), (9, .int (nI 39)), (0, .ref h), (1, .ref b), (2, .int (nI k)), (3, .ref ta), (4, .ref qa), (5, .ref da), (6, .ref ea), (7, .ref aa), (8, .ref ga)]) hx hb dL_isDone_494 hl (by decide) rfl (fun ls hl => ?_)
  refine lv_iconst (v := (nI 0)) hx hb dL_isDone_496 (by decide) ?_
  refine lv_istore (lv' := [(15, .int (nI 0)), (14, .int (nI 0)), (13, .int (nI 3)), (12, .int (nI 39)), (11, .int (nI 39)), (10, .int (nI 39)), (9, .int (nI 39)), (0, .ref h), (1, .ref b), (2, .int (nI k)), (3, .ref ta), (4, .ref qa), (5, .ref da), (6, .ref ea), (7, .ref aa), (8, .ref ga)]) hx hb dL_isDone_497 hl (by decide) rfl (fun ls hl => ?_)
  refine lv_iconst (v := (nI 0)) hx hb dL_isDone_499 (by decide) ?_
  refine lv_istore (lv' := [(16, .int (nI 0)), (15, .int (nI 0)), (14, .int (nI 0)), (13, .int (nI 3)), (12, .int (nI 39)), (11, .int (nI 39)), (10, .int (nI 39)), (9, .int (nI 39)), (0, .ref h), (1, .ref b), (2, .int (nI k)), (3, .ref ta), (4, .ref qa), (5, .ref da), (6, .ref ea), (7, .ref aa), (8, .ref ga)]) hx hb dL_isDone_500 hl (by decide) rfl (fun ls hl => ?_)
  refine lv_iload hx hb dL_isDone_502 (lv_at hl 0 rfl) ?_
  refine lv_bipush (v := (nI 8)) hx hb dL_isDone_504 (by decide) ?_
  refine lv_icmp_ge (tgt := 527) hx hb dL_isDone_506 (by decide) (fun z => (show False by revert z; decide).elim) (fun _ => ?_)
  refine lv_iload hx hb dL_isDone_509 (lv_at hl 1 rfl) ?_
  refine lv_iload hx hb dL_isDone_511 (lv_at hl 2 rfl) ?_
  refine lv_iload hx hb dL_isDone_513 (lv_at hl 0 rfl) ?_
  refine lv_ishr hx hb dL_isDone_515 ?_
  refine q_top (y := (nI 0)) (by decide) ?_
  refine lv_iconst (v := (nI 1)) hx hb dL_isDone_516 (by decide) ?_
  refine lv_iand hx hb dL_isDone_517 ?_
  refine q_top (y := (nI 0)) (by decide) ?_
  refine lv_iadd hx hb dL_isDone_518 ?_
  refine q_top (y := (nI 0)) (by decide) ?_
  refine lv_istore (lv' := [(15, .int (nI 0)), (16, .int (nI 0)), (14, .int (nI 0)), (13, .int (nI 3)), (12, .int (nI 39)), (11, .int (nI 39)), (10, .int (nI 39)), (9, .int (nI 39)), (0, .ref h), (1, .ref b), (2, .int (nI k)), (3, .ref ta), (4, .ref qa), (5, .ref da), (6, .ref ea), (7, .ref aa), (8, .ref ga)]) hx hb dL_isDone_519 hl (by decide) rfl (fun ls hl => ?_)
  refine lv_iinc (v := (nI 1)) (lv' := [(16, .int (nI 1)), (15, .int (nI 0)), (14, .int (nI 0)), (13, .int (nI 3)), (12, .int (nI 39)), (11, .int (nI 39)), (10, .int (nI 39)), (9, .int (nI 39)), (0, .ref h), (1, .ref b), (2, .int (nI k)), (3, .ref ta), (4, .ref qa), (5, .ref da), (6, .ref ea), (7, .ref aa), (8, .ref ga)]) hx hb dL_isDone_521 hl (k := 1) rfl (by decide) (by decide) rfl (fun ls hl => ?_)
  refine lv_goto (tgt := 502) hx hb dL_isDone_524 (by decide) ?_
  refine lv_iload hx hb dL_isDone_502 (lv_at hl 0 rfl) ?_
  refine lv_bipush (v := (nI 8)) hx hb dL_isDone_504 (by decide) ?_
  refine lv_icmp_ge (tgt := 527) hx hb dL_isDone_506 (by decide) (fun z => (show False by revert z; decide).elim) (fun _ => ?_)
  refine lv_iload hx hb dL_isDone_509 (lv_at hl 1 rfl) ?_
  refine lv_iload hx hb dL_isDone_511 (lv_at hl 2 rfl) ?_
  refine lv_iload hx hb dL_isDone_513 (lv_at hl 0 rfl) ?_
  refine lv_ishr hx hb dL_isDone_515 ?_
  refine q_top (y := (nI 0)) (by decide) ?_
  refine lv_iconst (v := (nI 1)) hx hb dL_isDone_516 (by decide) ?_
  refine lv_iand hx hb dL_isDone_517 ?_
  refine q_top (y := (nI 0)) (by decide) ?_
  refine lv_iadd hx hb dL_isDone_518 ?_
  refine q_top (y := (nI 0)) (by decide) ?_
  refine lv_istore (lv' := [(15, .int (nI 0)), (16, .int (nI 1)), (14, .int (nI 0)), (13, .int (nI 3)), (12, .int (nI 39)), (11, .int (nI 39)), (10, .int (nI 39)), (9, .int (nI 39)), (0, .ref h), (1, .ref b), (2, .int (nI k)), (3, .ref ta), (4, .ref qa), (5, .ref da), (6, .ref ea), (7, .ref aa), (8, .ref ga)]) hx hb dL_isDone_519 hl (by decide) rfl (fun ls hl => ?_)
  refine lv_iinc (v := (nI 2)) (lv' := [(16, .int (nI 2)), (15, .int (nI 0)), (14, .int (nI 0)), (13, .int (nI 3)), (12, .int (nI 39)), (11, .int (nI 39)), (10, .int (nI 39)), (9, .int (nI 39)), (0, .ref h), (1, .ref b), (2, .int (nI k)), (3, .ref ta), (4, .ref qa), (5, .ref da), (6, .ref ea), (7, .ref aa), (8, .ref ga)]) hx hb dL_isDone_521 hl (k := 1) rfl (by decide) (by decide) rfl (fun ls hl => ?_)
  refine lv_goto (tgt := 502) hx hb dL_isDone_524 (by decide) ?_
  refine lv_iload hx hb dL_isDone_502 (lv_at hl 0 rfl) ?_
  refine lv_bipush (v := (nI 8)) hx hb dL_isDone_504 (by decide) ?_
  refine lv_icmp_ge (tgt := 527) hx hb dL_isDone_506 (by decide) (fun z => (show False by revert z; decide).elim) (fun _ => ?_)
  refine lv_iload hx hb dL_isDone_509 (lv_at hl 1 rfl) ?_
  refine lv_iload hx hb dL_isDone_511 (lv_at hl 2 rfl) ?_
  refine lv_iload hx hb dL_isDone_513 (lv_at hl 0 rfl) ?_
  refine lv_ishr hx hb dL_isDone_515 ?_
  refine q_top (y := (nI 0)) (by decide) ?_
  refine lv_iconst (v := (nI 1)) hx hb dL_isDone_516 (by decide) ?_
  refine lv_iand hx hb dL_isDone_517 ?_
  refine q_top (y := (nI 0)) (by decide) ?_
  refine lv_iadd hx hb dL_isDone_518 ?_
  refine q_top (y := (nI 0)) (by decide) ?_
  refine lv_istore (lv' := [(15, .int (nI 0)), (16, .int (nI 2)), (14, .int (nI 0)), (13, .int (nI 3)), (12, .int (nI 39)), (11, .int (nI 39)), (10, .int (nI 39)), (9, .int (nI 39)), (0, .ref h), (1, .ref b), (2, .int (nI k)), (3, .ref ta), (4, .ref qa), (5, .ref da), (6, .ref ea), (7, .ref aa), (8, .ref ga)]) hx hb dL_isDone_519 hl (by decide) rfl (fun ls hl => ?_)
  refine lv_iinc (v := (nI 3)) (lv' := [(16, .int (nI 3)), (15, .int (nI 0)), (14, .int (nI 0)), (13, .int (nI 3)), (12, .int (nI 39)), (11, .int (nI 39)), (10, .int (nI 39)), (9, .int (nI 39)), (0, .ref h), (1, .ref b), (2, .int (nI k)), (3, .ref ta), (4, .ref qa), (5, .ref da), (6, .ref ea), (7, .ref aa), (8, .ref ga)]) hx hb dL_isDone_521 hl (k := 1) rfl (by decide) (by decide) rfl (fun ls hl => ?_)
  refine lv_goto (tgt := 502) hx hb dL_isDone_524 (by decide) ?_
  refine lv_iload hx hb dL_isDone_502 (lv_at hl 0 rfl) ?_
  refine lv_bipush (v := (nI 8)) hx hb dL_isDone_504 (by decide) ?_
  refine lv_icmp_ge (tgt := 527) hx hb dL_isDone_506 (by decide) (fun z => (show False by revert z; decide).elim) (fun _ => ?_)
  refine lv_iload hx hb dL_isDone_509 (lv_at hl 1 rfl) ?_
  refine lv_iload hx hb dL_isDone_511 (lv_at hl 2 rfl) ?_
  refine lv_iload hx hb dL_isDone_513 (lv_at hl 0 rfl) ?_
  refine lv_ishr hx hb dL_isDone_515 ?_
  refine q_top (y := (nI 0)) (by decide) ?_
  refine lv_iconst (v := (nI 1)) hx hb dL_isDone_516 (by decide) ?_
  refine lv_iand hx hb dL_isDone_517 ?_
  refine q_top (y := (nI 0)) (by decide) ?_
  refine lv_iadd hx hb dL_isDone_518 ?_
  refine q_top (y := (nI 0)) (by decide) ?_
  refine lv_istore (lv' := [(15, .int (nI 0)), (16, .int (nI 3)), (14, .int (nI 0)), (13, .int (nI 3)), (12, .int (nI 39)), (11, .int (nI 39)), (10, .int (nI 39)), (9, .int (nI 39)), (0, .ref h), (1, .ref b), (2, .int (nI k)), (3, .ref ta), (4, .ref qa), (5, .ref da), (6, .ref ea), (7, .ref aa), (8, .ref ga)]) hx hb dL_isDone_519 hl (by decide) rfl (fun ls hl => ?_)
  refine lv_iinc (v := (nI 4)) (lv' := [(16, .int (nI 4)), (15, .int (nI 0)), (14, .int (nI 0)), (13, .int (nI 3)), (12, .int (nI 39)), (11, .int (nI 39)), (10, .int (nI 39)), (9, .int (nI 39)), (0, .ref h), (1, .ref b), (2, .int (nI k)), (3, .ref ta), (4, .ref qa), (5, .ref da), (6, .ref ea), (7, .ref aa), (8, .ref ga)]) hx hb dL_isDone_521 hl (k := 1) rfl (by decide) (by decide) rfl (fun ls hl => ?_)
  refine lv_goto (tgt := 502) hx hb dL_isDone_524 (by decide) ?_
  refine lv_iload hx hb dL_isDone_502 (lv_at hl 0 rfl) ?_
  refine lv_bipush (v := (nI 8)) hx hb dL_isDone_504 (by decide) ?_
  refine lv_icmp_ge (tgt := 527) hx hb dL_isDone_506 (by decide) (fun z => (show False by revert z; decide).elim) (fun _ => ?_)
  refine lv_iload hx hb dL_isDone_509 (lv_at hl 1 rfl) ?_
  refine lv_iload hx hb dL_isDone_511 (lv_at hl 2 rfl) ?_
  refine lv_iload hx hb dL_isDone_513 (lv_at hl 0 rfl) ?_
  refine lv_ishr hx hb dL_isDone_515 ?_
  refine q_top (y := (nI 0)) (by decide) ?_
  refine lv_iconst (v := (nI 1)) hx hb dL_isDone_516 (by decide) ?_
  refine lv_iand hx hb dL_isDone_517 ?_
  refine q_top (y := (nI 0)) (by decide) ?_
  refine lv_iadd hx hb dL_isDone_518 ?_
  refine q_top (y := (nI 0)) (by decide) ?_
  refine lv_istore (lv' := [(15, .int (nI 0)), (16, .int (nI 4)), (14, .int (nI 0)), (13, .int (nI 3)), (12, .int (nI 39)), (11, .int (nI 39)), (10, .int (nI 39)), (9, .int (nI 39)), (0, .ref h), (1, .ref b), (2, .int (nI k)), (3, .ref ta), (4, .ref qa), (5, .ref da), (6, .ref ea), (7, .ref aa), (8, .ref ga)]) hx hb dL_isDone_519 hl (by decide) rfl (fun ls hl => ?_)
  refine lv_iinc (v := (nI 5)) (lv' := [(16, .int (nI 5)), (15, .int (nI 0)), (14, .int (nI 0)), (13, .int (nI 3)), (12, .int (nI 39)), (11, .int (nI 39)), (10, .int (nI 39)), (9, .int (nI 39)), (0, .ref h), (1, .ref b), (2, .int (nI k)), (3, .ref ta), (4, .ref qa), (5, .ref da), (6, .ref ea), (7, .ref aa), (8, .ref ga)]) hx hb dL_isDone_521 hl (k := 1) rfl (by decide) (by decide) rfl (fun ls hl => ?_)
  refine lv_goto (tgt := 502) hx hb dL_isDone_524 (by decide) ?_
  refine lv_iload hx hb dL_isDone_502 (lv_at hl 0 rfl) ?_
  refine lv_bipush (v := (nI 8)) hx hb dL_isDone_504 (by decide) ?_
  refine lv_icmp_ge (tgt := 527) hx hb dL_isDone_506 (by decide) (fun z => (show False by revert z; decide).elim) (fun _ => ?_)
  refine lv_iload hx hb dL_isDone_509 (lv_at hl 1 rfl) ?_
  refine lv_iload hx hb dL_isDone_511 (lv_at hl 2 rfl) ?_
  refine lv_iload hx hb dL_isDone_513 (lv_at hl 0 rfl) ?_
  refine lv_ishr hx hb dL_isDone_515 ?_
  refine q_top (y := (nI 0)) (by decide) ?_
  refine lv_iconst (v := (nI 1)) hx hb dL_isDone_516 (by decide) ?_
  refine lv_iand hx hb dL_isDone_517 ?_
  refine q_top (y := (nI 0)) (by decide) ?_
  refine lv_iadd hx hb dL_isDone_518 ?_
  refine q_top (y := (nI 0)) (by decide) ?_
  refine lv_istore (lv' := [(15, .int (nI 0)), (16, .int (nI 5)), (14, .int (nI 0)), (13, .int (nI 3)), (12, .int (nI 39)), (11, .int (nI 39)), (10, .int (nI 39)), (9, .int (nI 39)), (0, .ref h), (1, .ref b), (2, .int (nI k)), (3, .ref ta), (4, .ref qa), (5, .ref da), (6, .ref ea), (7, .ref aa), (8, .ref ga)]) hx hb dL_isDone_519 hl (by decide) rfl (fun ls hl => ?_)
  refine lv_iinc (v := (nI 6)) (lv' := [(16, .int (nI 6)), (15, .int (nI 0)), (14, .int (nI 0)), (13, .int (nI 3)), (12, .int (nI 39)), (11, .int (nI 39)), (10, .int (nI 39)), (9, .int (nI 39)), (0, .ref h), (1, .ref b), (2, .int (nI k)), (3, .ref ta), (4, .ref qa), (5, .ref da), (6, .ref ea), (7, .ref aa), (8, .ref ga)]) hx hb dL_isDone_521 hl (k := 1) rfl (by decide) (by decide) rfl (fun ls hl => ?_)
  refine lv_goto (tgt := 502) hx hb dL_isDone_524 (by decide) ?_
  refine lv_iload hx hb dL_isDone_502 (lv_at hl 0 rfl) ?_
  refine lv_bipush (v := (nI 8)) hx hb dL_isDone_504 (by decide) ?_
  refine lv_icmp_ge (tgt := 527) hx hb dL_isDone_506 (by decide) (fun z => (show False by revert z; decide).elim) (fun _ => ?_)
  refine lv_iload hx hb dL_isDone_509 (lv_at hl 1 rfl) ?_
  refine lv_iload hx hb dL_isDone_511 (lv_at hl 2 rfl) ?_
  refine lv_iload hx hb dL_isDone_513 (lv_at hl 0 rfl) ?_
  refine lv_ishr hx hb dL_isDone_515 ?_
  refine q_top (y := (nI 0)) (by decide) ?_
  refine lv_iconst (v := (nI 1)) hx hb dL_isDone_516 (by decide) ?_
  refine lv_iand hx hb dL_isDone_517 ?_
  refine q_top (y := (nI 0)) (by decide) ?_
  refine lv_iadd hx hb dL_isDone_518 ?_
  refine q_top (y := (nI 0)) (by decide) ?_
  refine lv_istore (lv' := [(15, .int (nI 0)), (16, .int (nI 6)), (14, .int (nI 0)), (13, .int (nI 3)), (12, .int (nI 39)), (11, .int (nI 39)), (10, .int (nI 39)), (9, .int (nI 39)), (0, .ref h), (1, .ref b), (2, .int (nI k)), (3, .ref ta), (4, .ref qa), (5, .ref da), (6, .ref ea), (7, .ref aa), (8, .ref ga)]) hx hb dL_isDone_519 hl (by decide) rfl (fun ls hl => ?_)
  refine lv_iinc (v := (nI 7)) (lv' := [(16, .int (nI 7)), (15, .int (nI 0)), (14, .int (nI 0)), (13, .int (nI 3)), (12, .int (nI 39)), (11, .int (nI 39)), (10, .int (nI 39)), (9, .int (nI 39)), (0, .ref h), (1, .ref b), (2, .int (nI k)), (3, .ref ta), (4, .ref qa), (5, .ref da), (6, .ref ea), (7, .ref aa), (8, .ref ga)]) hx hb dL_isDone_521 hl (k := 1) rfl (by decide) (by decide) rfl (fun ls hl => ?_)
  refine lv_goto (tgt := 502) hx hb dL_isDone_524 (by decide) ?_
  refine lv_iload hx hb dL_isDone_502 (lv_at hl 0 rfl) ?_
  refine lv_bipush (v := (nI 8)) hx hb dL_isDone_504 (by decide) ?_
  refine lv_icmp_ge (tgt := 527) hx hb dL_isDone_506 (by decide) (fun z => (show False by revert z; decide).elim) (fun _ => ?_)
  refine lv_iload hx hb dL_isDone_509 (lv_at hl 1 rfl) ?_
  refine lv_iload hx hb dL_isDone_511 (lv_at hl 2 rfl) ?_
  refine lv_iload hx hb dL_isDone_513 (lv_at hl 0 rfl) ?_
  refine lv_ishr hx hb dL_isDone_515 ?_
  refine q_top (y := (nI 0)) (by decide) ?_
  refine lv_iconst (v := (nI 1)) hx hb dL_isDone_516 (by decide) ?_
  refine lv_iand hx hb dL_isDone_517 ?_
  refine q_top (y := (nI 0)) (by decide) ?_
  refine lv_iadd hx hb dL_isDone_518 ?_
  refine q_top (y := (nI 0)) (by decide) ?_
  refine lv_istore (lv' := [(15, .int (nI 0)), (16, .int (nI 7)), (14, .int (nI 0)), (13, .int (nI 3)), (12, .int (nI 39)), (11, .int (nI 39)), (10, .int (nI 39)), (9, .int (nI 39)), (0, .ref h), (1, .ref b), (2, .int (nI k)), (3, .ref ta), (4, .ref qa), (5, .ref da), (6, .ref ea), (7, .ref aa), (8, .ref ga)]) hx hb dL_isDone_519 hl (by decide) rfl (fun ls hl => ?_)
  refine lv_iinc (v := (nI 8)) (lv' := [(16, .int (nI 8)), (15, .int (nI 0)), (14, .int (nI 0)), (13, .int (nI 3)), (12, .int (nI 39)), (11, .int (nI 39)), (10, .int (nI 39)), (9, .int (nI 39)), (0, .ref h), (1, .ref b), (2, .int (nI k)), (3, .ref ta), (4, .ref qa), (5, .ref da), (6, .ref ea), (7, .ref aa), (8, .ref ga)]) hx hb dL_isDone_521 hl (k := 1) rfl (by decide) (by decide) rfl (fun ls hl => ?_)
  refine lv_goto (tgt := 502) hx hb dL_isDone_524 (by decide) ?_
  refine lv_iload hx hb dL_isDone_502 (lv_at hl 0 rfl) ?_
  refine lv_bipush (v := (nI 8)) hx hb dL_isDone_504 (by decide) ?_
  refine lv_icmp_ge (tgt := 527) hx hb dL_isDone_506 (by decide) (fun _ => ?_) (fun z => (show False by revert z; decide).elim)
  refine lv_aload_n hx hb dL_isDone_527 rfl (lv_at hl 8 rfl) ?_
  refine lv_bipush (v := (nI 9)) hx hb dL_isDone_528 (by decide) ?_
  refine lv_iload hx hb dL_isDone_530 (lv_at hl 3 rfl) ?_
  refine lv_iconst (v := (nI 0)) hx hb dL_isDone_532 (by decide) ?_
  refine lv_iconst (v := (nI 0)) hx hb dL_isDone_533 (by decide) ?_
  refine q_rcall (vx_runSW (As := [.ref h, .int (nI 9), .int (nI 3), .int (nI 0), .int (nI 0)]) (rest := []) ⟨hx, hb, hml, hown, hts⟩ (kL_does9 l D h ad cI cZ hlf) (vx_cwSW 5 hts gL_isDone_L_does rfl rfl rfl (by decide +kernel) ⟨Nat.le_of_ble_eq_true rfl, Nat.le_of_ble_eq_true rfl⟩) ⟨tP_blind, tP_preH hP hK (tEA_at hE hS)⟩ rfl rfl hl.1 rfl (lv_room (Nat.le_of_ble_eq_true rfl)) dL_isDone_534 ⟨Nat.le_of_ble_eq_true rfl, Nat.le_of_ble_eq_true rfl⟩) hP hS hz (fun H hP hS hz => ?_)
  refine W.widen (k := 1) (n := 6) (Nat.le_of_ble_eq_true rfl) (Nat.le_of_ble_eq_true rfl) ?_
  refine lv_iload hx hb dL_isDone_537 (lv_at hl 3 rfl) ?_
  refine lv_iconst (v := (nI 3)) hx hb dL_isDone_539 (by decide) ?_
  refine lv_icmp_ne (tgt := 548) hx hb dL_isDone_540 (by decide) (fun z => (show False by revert z; decide).elim) (fun _ => ?_)
  refine lv_bipush (v := (-30)) hx hb dL_isDone_543 (by decide) ?_
  refine lv_goto (tgt := 550) hx hb dL_isDone_545 (by decide) ?_
  refine lv_icmp_ne (tgt := 581) hx hb dL_isDone_550 (by decide) (fun z => (show False by revert z; decide).elim) (fun _ => ?_)
  refine lv_iload hx hb dL_isDone_553 (lv_at hl 3 rfl) ?_
  refine lv_iconst (v := (nI 3)) hx hb dL_isDone_555 (by decide) ?_
  refine lv_icmp_eq (tgt := 577) hx hb dL_isDone_556 (by decide) (fun _ => ?_) (fun z => (show False by revert z; decide).elim)
  refine lv_iconst (v := (nI 1)) hx hb dL_isDone_577 (by decide) ?_
  refine lv_goto (tgt := 582) hx hb dL_isDone_578 (by decide) ?_
  refine q_top (y := bI true) (by decide) ?_
  exact q_rretZ hx hb hr hlocks hz (Nat.le_of_ble_eq_true rfl) hS dL_isDone_582 (Nat.le_of_ble_eq_true rfl) (Nat.le_of_ble_eq_true rfl)
