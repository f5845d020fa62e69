set_option maxHeartbeats 4000000 in
set_option maxRecDepth 100000 in
theorem kL_areShops (l : Launch) (D : va_G) (h : Nat) (ad : Nat → Nat) (cI cZ : ClassId) (hlf : l.stackTraces = false) (ta qa ga : Nat) : Met l yL_areShops wsL_areShops ({ frames := 10, cells := 6, slots := 36, locals := 178 } : Room) (tP D ((hWi h ad cI cZ) ++ [(ga, .inl (cI, 3, .inl (fun _ => nI 0)))]) (hT cI cZ) [.ref h, .ref ta, .ref qa, .ref ga]) (rQ (.int (bI true)) 6) 6 36 nF := by
  refine Met.ofW (cc := cL_areShops) (maxL := 17) (ret := (some .boolean)) (by decide) rfl ?_
  intro p e s m args below meth c s₁ B hml hv
  obtain ⟨rfl, hP, hK, hE⟩ := hv
  have hx := B.exec
  have hb := B.bytes
  have hr := B.returns
  have hts := atoms_spec (ws := wsL_areShops) B.pre
  have hown : s.vm.findClass RL = some m.cls := findClass_of_methodNamed B.named
  have hlocks := B.notSynchronized
  have hl := lv_entry ([.ref h, .ref ta, .ref qa, .ref ga]) (n := 17) (Nat.le_of_ble_eq_true rfl)
  rw [lg_entry_eq]
  generalize (lg_sl ([.ref h, .ref ta, .ref qa, .ref ga]) ++ List.replicate (17 - (lg_sl ([.ref h, .ref ta, .ref qa, .ref ga])).length) Slot.unset).toArray = ls at hl ⊢
  have hl : lv_has ls 17 [(0, .ref h), (1, .ref ta), (2, .ref qa), (3, .ref ga)] := hl
  have hE : tEA nF s s.heap := hE
  have hS : va_S nF s.heap s.heap [] := va_S.rf
  have hz : s.heap.size + 0 ≤ s.heap.size := Nat.le_refl _
  refine lv_aload_n hx hb dL_areShops_0 rfl (lv_at hl 0 rfl) ?_
  refine lv_iconst (v := (nI 4)) hx hb dL_areShops_1 (by decide) ?_
  refine lv_iconst (v := (nI 3)) hx hb dL_areShops_2 (by decide) ?_
  refine lv_iconst (v := (nI 0)) hx hb dL_areShops_3 (by decide) ?_
  refine lv_iconst (v := (nI 0)) hx hb dL_areShops_4 (by decide) ?_
  refine lv_iconst (v := (nI 0)) hx hb dL_areShops_5 (by decide) ?_
  refine q_rcall (vx_runSW (As := [.ref h, .int (nI 4), .int (nI 3), .int (nI 0), .int (nI 0), .int (nI 0)]) (rest := []) ⟨hx, hb, hml, hown, hts⟩ (kL_asks4 l D h ad cI cZ hlf) (vx_cwSW 6 hts gL_areShops_L_asks rfl rfl rfl (by decide +kernel) ⟨Nat.le_of_ble_eq_true rfl, Nat.le_of_ble_eq_true rfl⟩) ⟨tP_blind, tP_preH (va_Pl hP) hK (tEA_at hE hS)⟩ rfl rfl hl.1 rfl (lv_room (Nat.le_of_ble_eq_true rfl)) dL_areShops_6 ⟨Nat.le_of_ble_eq_true rfl, Nat.le_of_ble_eq_true rfl⟩) hP hS hz (fun H hP hS hz => ?_)
  refine W.widen (k := 1) (n := 6) (Nat.le_of_ble_eq_true rfl) (Nat.le_of_ble_eq_true rfl) ?_
  refine lv_bipush (v := (-30)) hx hb dL_areShops_9 (by decide) ?_
  refine lv_icmp_ne (tgt := 94) hx hb dL_areShops_11 (by decide) (fun z => (show False by revert z; decide).elim) (fun _ => ?_)
  refine lv_aload_n hx hb dL_areShops_14 rfl (lv_at hl 0 rfl) ?_
  refine lv_iconst (v := (nI 5)) hx hb dL_areShops_15 (by decide) ?_
  refine lv_iconst (v := (nI 0)) hx hb dL_areShops_16 (by decide) ?_
  refine lv_iconst (v := (nI 3)) hx hb dL_areShops_17 (by decide) ?_
  refine lv_iconst (v := (nI 0)) hx hb dL_areShops_18 (by decide) ?_
  refine lv_iconst (v := (nI 0)) hx hb dL_areShops_19 (by decide) ?_
  refine q_rcall (vx_runSW (As := [.ref h, .int (nI 5), .int (nI 0), .int (nI 3), .int (nI 0), .int (nI 0)]) (rest := []) ⟨hx, hb, hml, hown, hts⟩ (kL_asks5 l D h ad cI cZ hlf) (vx_cwSW 6 hts gL_areShops_L_asks rfl rfl rfl (by decide +kernel) ⟨Nat.le_of_ble_eq_true rfl, Nat.le_of_ble_eq_true rfl⟩) ⟨tP_blind, tP_preH (va_Pl hP) hK (tEA_at hE hS)⟩ rfl rfl hl.1 rfl (lv_room (Nat.le_of_ble_eq_true rfl)) dL_areShops_20 ⟨Nat.le_of_ble_eq_true rfl, Nat.le_of_ble_eq_true rfl⟩) hP hS hz (fun H hP hS hz => ?_)
  refine W.widen (k := 2) (n := 12) (Nat.le_of_ble_eq_true rfl) (Nat.le_of_ble_eq_true rfl) ?_
  refine lv_bipush (v := (-30)) hx hb dL_areShops_23 (by decide) ?_
  refine lv_icmp_ne (tgt := 94) hx hb dL_areShops_25 (by decide) (fun z => (show False by revert z; decide).elim) (fun _ => ?_)
  refine lv_aload_n hx hb dL_areShops_28 rfl (lv_at hl 0 rfl) ?_
  refine lv_bipush (v := (nI 6)) hx hb dL_areShops_29 (by decide) ?_
  refine lv_iconst (v := (-1)) hx hb dL_areShops_31 (by decide) ?_
  refine lv_iconst (v := (nI 0)) hx hb dL_areShops_32 (by decide) ?_
  refine lv_iconst (v := (nI 0)) hx hb dL_areShops_33 (by decide) ?_
  refine lv_iconst (v := (nI 0)) hx hb dL_areShops_34 (by decide) ?_
  refine q_rcall (vx_runSW (As := [.ref h, .int (nI 6), .int (-1), .int (nI 0), .int (nI 0), .int (nI 0)]) (rest := []) ⟨hx, hb, hml, hown, hts⟩ (kL_asks6 l D h ad cI cZ hlf) (vx_cwSW 6 hts gL_areShops_L_asks rfl rfl rfl (by decide +kernel) ⟨Nat.le_of_ble_eq_true rfl, Nat.le_of_ble_eq_true rfl⟩) ⟨tP_blind, tP_preH (va_Pl hP) hK (tEA_at hE hS)⟩ rfl rfl hl.1 rfl (lv_room (Nat.le_of_ble_eq_true rfl)) dL_areShops_35 ⟨Nat.le_of_ble_eq_true rfl, Nat.le_of_ble_eq_true rfl⟩) hP hS hz (fun H hP hS hz => ?_)
  refine W.widen (k := 3) (n := 18) (Nat.le_of_ble_eq_true rfl) (Nat.le_of_ble_eq_true rfl) ?_
  refine lv_bipush (v := (-30)) hx hb dL_areShops_38 (by decide) ?_
  refine lv_icmp_ne (tgt := 94) hx hb dL_areShops_40 (by decide) (fun z => (show False by revert z; decide).elim) (fun _ => ?_)
  refine lv_aload_n hx hb dL_areShops_43 rfl (lv_at hl 0 rfl) ?_
  refine lv_iconst (v := (nI 0)) hx hb dL_areShops_44 (by decide) ?_
  refine lv_aload_n hx hb dL_areShops_45 rfl (lv_at hl 3 rfl) ?_
  refine lv_iconst (v := (nI 0)) hx hb dL_areShops_46 (by decide) ?_
  refine q_ald nI (fun _ => 0) hx hb hK hP 14 1 rfl rfl (k := 0) (by decide) (Nat.le_of_ble_eq_true rfl) dL_areShops_47 ?_
  refine lv_iconst (v := (nI 0)) hx hb dL_areShops_48 (by decide) ?_
  refine lv_iconst (v := (nI 0)) hx hb dL_areShops_49 (by decide) ?_
  refine lv_iconst (v := (nI 0)) hx hb dL_areShops_50 (by decide) ?_
  refine q_rcall (vx_runSW (As := [.ref h, .int (nI 0), .int (nI 0), .int (nI 0), .int (nI 0), .int (nI 0)]) (rest := []) ⟨hx, hb, hml, hown, hts⟩ (kL_asks0 l D h ad cI cZ hlf) (vx_cwSW 6 hts gL_areShops_L_asks rfl rfl rfl (by decide +kernel) ⟨Nat.le_of_ble_eq_true rfl, Nat.le_of_ble_eq_true rfl⟩) ⟨tP_blind, tP_preH (va_Pl hP) hK (tEA_at hE hS)⟩ rfl rfl hl.1 rfl (lv_room (Nat.le_of_ble_eq_true rfl)) dL_areShops_51 ⟨Nat.le_of_ble_eq_true rfl, Nat.le_of_ble_eq_true rfl⟩) hP hS hz (fun H hP hS hz => ?_)
  refine W.widen (k := 4) (n := 24) (Nat.le_of_ble_eq_true rfl) (Nat.le_of_ble_eq_true rfl) ?_
  refine lv_bipush (v := (-30)) hx hb dL_areShops_54 (by decide) ?_
  refine lv_icmp_ne (tgt := 94) hx hb dL_areShops_56 (by decide) (fun z => (show False by revert z; decide).elim) (fun _ => ?_)
  refine lv_aload_n hx hb dL_areShops_59 rfl (lv_at hl 0 rfl) ?_
  refine lv_iconst (v := (nI 1)) hx hb dL_areShops_60 (by decide) ?_
  refine lv_iconst (v := (nI 0)) hx hb dL_areShops_61 (by decide) ?_
  refine lv_bipush (v := (nI 6)) hx hb dL_areShops_62 (by decide) ?_
  refine lv_iconst (v := (nI 0)) hx hb dL_areShops_64 (by decide) ?_
  refine lv_iconst (v := (nI 0)) hx hb dL_areShops_65 (by decide) ?_
  refine q_rcall (vx_runSW (As := [.ref h, .int (nI 1), .int (nI 0), .int (nI 6), .int (nI 0), .int (nI 0)]) (rest := []) ⟨hx, hb, hml, hown, hts⟩ (kL_asks1 l D h ad cI cZ hlf) (vx_cwSW 6 hts gL_areShops_L_asks rfl rfl rfl (by decide +kernel) ⟨Nat.le_of_ble_eq_true rfl, Nat.le_of_ble_eq_true rfl⟩) ⟨tP_blind, tP_preH (va_Pl hP) hK (tEA_at hE hS)⟩ rfl rfl hl.1 rfl (lv_room (Nat.le_of_ble_eq_true rfl)) dL_areShops_66 ⟨Nat.le_of_ble_eq_true rfl, Nat.le_of_ble_eq_true rfl⟩) hP hS hz (fun H hP hS hz => ?_)
  refine W.widen (k := 5) (n := 30) (Nat.le_of_ble_eq_true rfl) (Nat.le_of_ble_eq_true rfl) ?_
  refine lv_bipush (v := (-30)) hx hb dL_areShops_69 (by decide) ?_
  refine lv_icmp_ne (tgt := 94) hx hb dL_areShops_71 (by decide) (fun z => (show False by revert z; decide).elim) (fun _ => ?_)
  refine lv_aload_n hx hb dL_areShops_74 rfl (lv_at hl 0 rfl) ?_
  refine lv_iconst (v := (nI 3)) hx hb dL_areShops_75 (by decide) ?_
  refine lv_aload_n hx hb dL_areShops_76 rfl (lv_at hl 3 rfl) ?_
  refine lv_iconst (v := (nI 0)) hx hb dL_areShops_77 (by decide) ?_
  refine q_ald nI (fun _ => 0) hx hb hK hP 14 1 rfl rfl (k := 0) (by decide) (Nat.le_of_ble_eq_true rfl) dL_areShops_78 ?_
  refine lv_iconst (v := (nI 0)) hx hb dL_areShops_79 (by decide) ?_
  refine lv_iconst (v := (nI 0)) hx hb dL_areShops_80 (by decide) ?_
  refine lv_iconst (v := (nI 0)) hx hb dL_areShops_81 (by decide) ?_
  refine q_rcall (vx_runSW (As := [.ref h, .int (nI 3), .int (nI 0), .int (nI 0), .int (nI 0), .int (nI 0)]) (rest := []) ⟨hx, hb, hml, hown, hts⟩ (kL_asks3 l D h ad cI cZ hlf) (vx_cwSW 6 hts gL_areShops_L_asks rfl rfl rfl (by decide +kernel) ⟨Nat.le_of_ble_eq_true rfl, Nat.le_of_ble_eq_true rfl⟩) ⟨tP_blind, tP_preH (va_Pl hP) hK (tEA_at hE hS)⟩ rfl rfl hl.1 rfl (lv_room (Nat.le_of_ble_eq_true rfl)) dL_areShops_82 ⟨Nat.le_of_ble_eq_true rfl, Nat.le_of_ble_eq_true rfl⟩) hP hS hz (fun H hP hS hz => ?_)
  refine W.widen (k := 6) (n := 36) (Nat.le_of_ble_eq_true rfl) (Nat.le_of_ble_eq_true rfl) ?_
  refine lv_bipush (v := (-30)) hx hb dL_areShops_85 (by decide) ?_
  refine lv_icmp_ne (tgt := 94) hx hb dL_areShops_87 (by decide) (fun z => (show False by revert z; decide).elim) (fun _ => ?_)
  refine lv_iconst (v := (nI 1)) hx hb dL_areShops_90 (by decide) ?_
  refine lv_goto (tgt := 95) hx hb dL_areShops_91 (by decide) ?_
  refine lv_istore (lv' := [(4, .int (nI 1)), (0, .ref h), (1, .ref ta), (2, .ref qa), (3, .ref ga)]) hx hb dL_areShops_95 hl (by decide) rfl (fun ls hl => ?_)
  refine lv_iconst (v := (nI 0)) hx hb dL_areShops_97 (by decide) ?_
  refine lv_istore (lv' := [(5, .int (nI 0)), (4, .int (nI 1)), (0, .ref h), (1, .ref ta), (2, .ref qa), (3, .ref ga)]) hx hb dL_areShops_98 hl (by decide) rfl (fun ls hl => ?_)
  refine lv_iload hx hb dL_areShops_100 (lv_at hl 0 rfl) ?_
  refine lv_iconst (v := (nI 3)) hx hb dL_areShops_102 (by decide) ?_
  refine lv_icmp_ge (tgt := 468) hx hb dL_areShops_103 (by decide) (fun z => (show False by revert z; decide).elim) (fun _ => ?_)
  refine lv_iload hx hb dL_areShops_106 (lv_at hl 1 rfl) ?_
  refine lv_if_eq (tgt := 468) hx hb dL_areShops_108 (by decide) (fun z => (show False by revert z; decide).elim) (fun _ => ?_)
  refine lv_iconst (v := (nI 0)) hx hb dL_areShops_111 (by decide) ?_
  refine lv_istore (lv' := [(6, .int (nI 0)), (5, .int (nI 0)), (4, .int (nI 1)), (0, .ref h), (1, .ref ta), (2, .ref qa), (3, .ref ga)]) hx hb dL_areShops_112 hl (by decide) rfl (fun ls hl => ?_)
  refine lv_iconst (v := (nI 0)) hx hb dL_areShops_114 (by decide) ?_
  refine lv_istore (lv' := [(7, .int (nI 0)), (6, .int (nI 0)), (5, .int (nI 0)), (4, .int (nI 1)), (0, .ref h), (1, .ref ta), (2, .ref qa), (3, .ref ga)]) hx hb dL_areShops_115 hl (by decide) rfl (fun ls hl => ?_)
  refine lv_iload hx hb dL_areShops_117 (lv_at hl 0 rfl) ?_
  refine lv_aload_n hx hb dL_areShops_119 rfl (lv_at hl 7 rfl) ?_
  refine lv_iconst (v := (nI 0)) hx hb dL_areShops_120 (by decide) ?_
  refine q_ald nI (fun _ => 0) hx hb hK hP 14 1 rfl rfl (k := 0) (by decide) (Nat.le_of_ble_eq_true rfl) dL_areShops_121 ?_
  refine lv_icmp_ge (tgt := 416) hx hb dL_areShops_122 (by decide) (fun _ => ?_) (fun z => (show False by revert z; decide).elim)
  refine lv_iload hx hb dL_areShops_416 (lv_at hl 3 rfl) ?_
  refine lv_if_eq (tgt := 459) hx hb dL_areShops_418 (by decide) (fun z => (show False by revert z; decide).elim) (fun _ => ?_)
  refine lv_aload_n hx hb dL_areShops_421 rfl (lv_at hl 4 rfl) ?_
  refine lv_iload hx hb dL_areShops_422 (lv_at hl 2 rfl) ?_
  refine q_callI (r := nI (cnt (cpl (fun _ => false) (cle (fun _ => some 0) 16) (cle (fun _ => some 0) 1536) (fun _ => some 0) (fun _ => false) 0) 16)) (va_runV (As := [.int (nI 0)]) (rest := []) ⟨hx, hb, hml, hown, hts⟩ (kX0_complete l D h ad cI cZ (fun _ => false) (cle (fun _ => some 0) 16) (fun _ => 0) (fun _ => 0) 0 (fun _ => 0) (fun _ => 0) (fun _ => some 0) (fun _ => 0) (fun _ => 0) 0 0 (cle (fun _ => some 0) 1536) (fun _ => false) (cle (fun _ => some 0) 864) (fun _ => some 0) 0 (by decide) PR_0 HO_0 (Nat.zero_le 200) DV_0) (cwV 1 hts gL_areShops_X0_complete rfl rfl rfl (by decide +kernel) ⟨Nat.le_of_ble_eq_true rfl, Nat.le_of_ble_eq_true rfl⟩) ⟨pP_blind, va_recv hK (va_Pl hP) (ci := 0) (q0 := 0) rfl rfl, pP_pre (va_Pl hP) hK⟩ rfl rfl hl.1 rfl (lv_room (Nat.le_of_ble_eq_true rfl)) dL_areShops_424 ⟨Nat.le_of_ble_eq_true rfl, Nat.le_of_ble_eq_true rfl⟩) ?_
  refine q_top (y := nI 0) (by rw [cpl_0]) ?_
  refine lv_iload hx hb dL_areShops_427 (lv_at hl 1 rfl) ?_
  refine lv_icmp_ne (tgt := 459) hx hb dL_areShops_429 (by decide) (fun z => (show False by revert z; decide).elim) (fun _ => ?_)
  refine lv_aload_n hx hb dL_areShops_432 rfl (lv_at hl 4 rfl) ?_
  refine lv_iload hx hb dL_areShops_433 (lv_at hl 2 rfl) ?_
  refine q_callI (r := nI (bset (lkd (fun _ => false) (cle (fun _ => some 0) 16) (cle (fun _ => some 0) 1536) (fun _ => some 0) (cle (fun _ => some 0) 864) 0) 16)) (va_runV (As := [.int (nI 0)]) (rest := []) ⟨hx, hb, hml, hown, hts⟩ (kX0_changed l D h ad cI cZ (fun _ => false) (cle (fun _ => some 0) 16) (fun _ => 0) (fun _ => 0) 0 (fun _ => 0) (fun _ => 0) (fun _ => some 0) (fun _ => 0) (fun _ => 0) 0 0 (cle (fun _ => some 0) 1536) (fun _ => false) (cle (fun _ => some 0) 864) (fun _ => some 0) 0 (by decide) PR_0 HO_0 (Nat.zero_le 200) DV_0 SE_0) (cwV 1 hts gL_areShops_X0_changed rfl rfl rfl (by decide +kernel) ⟨Nat.le_of_ble_eq_true rfl, Nat.le_of_ble_eq_true rfl⟩) ⟨pP_blind, va_recv hK (va_Pl hP) (ci := 0) (q0 := 0) rfl rfl, pP_pre (va_Pl hP) hK⟩ rfl rfl hl.1 rfl (lv_room (Nat.le_of_ble_eq_true rfl)) dL_areShops_435 ⟨Nat.le_of_ble_eq_true rfl, Nat.le_of_ble_eq_true rfl⟩) ?_
  refine q_top (y := nI 0) (by rw [lkd_0 (by decide : 0 < 3)]) ?_
  refine lv_if_lt (tgt := 459) hx hb dL_areShops_438 (by decide) (fun z => (show False by revert z; decide).elim) (fun _ => ?_)
  refine lv_aload_n hx hb dL_areShops_441 rfl (lv_at hl 4 rfl) ?_
  refine lv_iload hx hb dL_areShops_442 (lv_at hl 2 rfl) ?_
  refine q_callI (r := nI (bset (lkd (fun _ => false) (cle (fun _ => some 0) 16) (cle (fun _ => some 0) 1536) (fun _ => some 0) (cle (fun _ => some 0) 864) 0) 16)) (va_runV (As := [.int (nI 0)]) (rest := []) ⟨hx, hb, hml, hown, hts⟩ (kX0_changed l D h ad cI cZ (fun _ => false) (cle (fun _ => some 0) 16) (fun _ => 0) (fun _ => 0) 0 (fun _ => 0) (fun _ => 0) (fun _ => some 0) (fun _ => 0) (fun _ => 0) 0 0 (cle (fun _ => some 0) 1536) (fun _ => false) (cle (fun _ => some 0) 864) (fun _ => some 0) 0 (by decide) PR_0 HO_0 (Nat.zero_le 200) DV_0 SE_0) (cwV 1 hts gL_areShops_X0_changed rfl rfl rfl (by decide +kernel) ⟨Nat.le_of_ble_eq_true rfl, Nat.le_of_ble_eq_true rfl⟩) ⟨pP_blind, va_recv hK (va_Pl hP) (ci := 0) (q0 := 0) rfl rfl, pP_pre (va_Pl hP) hK⟩ rfl rfl hl.1 rfl (lv_room (Nat.le_of_ble_eq_true rfl)) dL_areShops_444 ⟨Nat.le_of_ble_eq_true rfl, Nat.le_of_ble_eq_true rfl⟩) ?_
  refine q_top (y := nI 0) (by rw [lkd_0 (by decide : 0 < 3)]) ?_
  refine lv_iconst (v := (nI 1)) hx hb dL_areShops_447 (by decide) ?_
  refine lv_aload_n hx hb dL_areShops_448 rfl (lv_at hl 7 rfl) ?_
  refine lv_iconst (v := (nI 0)) hx hb dL_areShops_449 (by decide) ?_
  refine q_ald nI (fun _ => 0) hx hb hK hP 14 1 rfl rfl (k := 0) (by decide) (Nat.le_of_ble_eq_true rfl) dL_areShops_450 ?_
  refine lv_ishl hx hb dL_areShops_451 ?_
  refine q_top (y := (nI 1)) (by decide) ?_
  refine lv_icmp_ge (tgt := 459) hx hb dL_areShops_452 (by decide) (fun z => (show False by revert z; decide).elim) (fun _ => ?_)
  refine lv_iconst (v := (nI 1)) hx hb dL_areShops_455 (by decide) ?_
  refine lv_goto (tgt := 460) hx hb dL_areShops_456 (by decide) ?_
  refine lv_istore (lv' := [(4, .int (nI 1)), (7, .int (nI 0)), (6, .int (nI 0)), (5, .int (nI 0)), (0, .ref h), (1, .ref ta), (2, .ref qa), (3, .ref ga)]) hx hb dL_areShops_460 hl (by decide) rfl (fun ls hl => ?_)
  refine lv_iinc (v := (nI 1)) (lv' := [(5, .int (nI 1)), (4, .int (nI 1)), (7, .int (nI 0)), (6, .int (nI 0)), (0, .ref h), (1, .ref ta), (2, .ref qa), (3, .ref ga)]) hx hb dL_areShops_462 hl (k := 3) rfl (by decide) (by decide) rfl (fun ls hl => ?_)
  refine lv_goto (tgt := 100) hx hb dL_areShops_465 (by decide) ?_
  refine lv_iload hx hb dL_areShops_100 (lv_at hl 0 rfl) ?_
  refine lv_iconst (v := (nI 3)) hx hb dL_areShops_102 (by decide) ?_
  refine lv_icmp_ge (tgt := 468) hx hb dL_areShops_103 (by decide) (fun z => (show False by revert z; decide).elim) (fun _ => ?_)
  refine lv_iload hx hb dL_areShops_106 (lv_at hl 1 rfl) ?_
  refine lv_if_eq (tgt := 468) hx hb dL_areShops_108 (by decide) (fun z => (show False by revert z; decide).elim) (fun _ => ?_)
  refine lv_iconst (v := (nI 0)) hx hb dL_areShops_111 (by decide) ?_
  refine lv_istore (lv' := [(6, .int (nI 0)), (5, .int (nI 1)), (4, .int (nI 1)), (7, .int (nI 0)), (0, .ref h), (1, .ref ta), (2, .ref qa), (3, .ref ga)]) hx hb dL_areShops_112 hl (by decide) rfl (fun ls hl => ?_)
  refine lv_iconst (v := (nI 0)) hx hb dL_areShops_114 (by decide) ?_
  refine lv_istore (lv' := [(7, .int (nI 0)), (6, .int (nI 0)), (5, .int (nI 1)), (4, .int (nI 1)), (0, .ref h), (1, .ref ta), (2, .ref qa), (3, .ref ga)]) hx hb dL_areShops_115 hl (by decide) rfl (fun ls hl => ?_)
  refine lv_iload hx hb dL_areShops_117 (lv_at hl 0 rfl) ?_
  refine lv_aload_n hx hb dL_areShops_119 rfl (lv_at hl 7 rfl) ?_
  refine lv_iconst (v := (nI 0)) hx hb dL_areShops_120 (by decide) ?_
  refine q_ald nI (fun _ => 0) hx hb hK hP 14 1 rfl rfl (k := 0) (by decide) (Nat.le_of_ble_eq_true rfl) dL_areShops_121 ?_
  refine lv_icmp_ge (tgt := 416) hx hb dL_areShops_122 (by decide) (fun _ => ?_) (fun z => (show False by revert z; decide).elim)
  refine lv_iload hx hb dL_areShops_416 (lv_at hl 3 rfl) ?_
  refine lv_if_eq (tgt := 459) hx hb dL_areShops_418 (by decide) (fun z => (show False by revert z; decide).elim) (fun _ => ?_)
  refine lv_aload_n hx hb dL_areShops_421 rfl (lv_at hl 4 rfl) ?_
  refine lv_iload hx hb dL_areShops_422 (lv_at hl 2 rfl) ?_
  refine q_callI (r := nI (cnt (cpl (fun _ => false) (cle (fun _ => some 0) 16) (cle (fun _ => some 0) 1536) (fun _ => some 0) (fun _ => false) 1) 16)) (va_runV (As := [.int (nI 1)]) (rest := []) ⟨hx, hb, hml, hown, hts⟩ (kX0_complete l D h ad cI cZ (fun _ => false) (cle (fun _ => some 0) 16) (fun _ => 0) (fun _ => 0) 0 (fun _ => 0) (fun _ => 0) (fun _ => some 0) (fun _ => 0) (fun _ => 0) 0 0 (cle (fun _ => some 0) 1536) (fun _ => false) (cle (fun _ => some 0) 864) (fun _ => some 0) 1 (by decide) PR_0 HO_0 (Nat.zero_le 200) DV_0) (cwV 1 hts gL_areShops_X0_complete rfl rfl rfl (by decide +kernel) ⟨Nat.le_of_ble_eq_true rfl, Nat.le_of_ble_eq_true rfl⟩) ⟨pP_blind, va_recv hK (va_Pl hP) (ci := 0) (q0 := 0) rfl rfl, pP_pre (va_Pl hP) hK⟩ rfl rfl hl.1 rfl (lv_room (Nat.le_of_ble_eq_true rfl)) dL_areShops_424 ⟨Nat.le_of_ble_eq_true rfl, Nat.le_of_ble_eq_true rfl⟩) ?_
  refine q_top (y := nI 0) (by rw [cpl_0]) ?_
  refine lv_iload hx hb dL_areShops_427 (lv_at hl 1 rfl) ?_
  refine lv_icmp_ne (tgt := 459) hx hb dL_areShops_429 (by decide) (fun z => (show False by revert z; decide).elim) (fun _ => ?_)
  refine lv_aload_n hx hb dL_areShops_432 rfl (lv_at hl 4 rfl) ?_
  refine lv_iload hx hb dL_areShops_433 (lv_at hl 2 rfl) ?_
  refine q_callI (r := nI (bset (lkd (fun _ => false) (cle (fun _ => some 0) 16) (cle (fun _ => some 0) 1536) (fun _ => some 0) (cle (fun _ => some 0) 864) 1) 16)) (va_runV (As := [.int (nI 1)]) (rest := []) ⟨hx, hb, hml, hown, hts⟩ (kX0_changed l D h ad cI cZ (fun _ => false) (cle (fun _ => some 0) 16) (fun _ => 0) (fun _ => 0) 0 (fun _ => 0) (fun _ => 0) (fun _ => some 0) (fun _ => 0) (fun _ => 0) 0 0 (cle (fun _ => some 0) 1536) (fun _ => false) (cle (fun _ => some 0) 864) (fun _ => some 0) 1 (by decide) PR_0 HO_0 (Nat.zero_le 200) DV_0 SE_0) (cwV 1 hts gL_areShops_X0_changed rfl rfl rfl (by decide +kernel) ⟨Nat.le_of_ble_eq_true rfl, Nat.le_of_ble_eq_true rfl⟩) ⟨pP_blind, va_recv hK (va_Pl hP) (ci := 0) (q0 := 0) rfl rfl, pP_pre (va_Pl hP) hK⟩ rfl rfl hl.1 rfl (lv_room (Nat.le_of_ble_eq_true rfl)) dL_areShops_435 ⟨Nat.le_of_ble_eq_true rfl, Nat.le_of_ble_eq_true rfl⟩) ?_
  refine q_top (y := nI 0) (by rw [lkd_0 (by decide : 1 < 3)]) ?_
  refine lv_if_lt (tgt := 459) hx hb dL_areShops_438 (by decide) (fun z => (show False by revert z; decide).elim) (fun _ => ?_)
  refine lv_aload_n hx hb dL_areShops_441 rfl (lv_at hl 4 rfl) ?_
  refine lv_iload hx hb dL_areShops_442 (lv_at hl 2 rfl) ?_
  refine q_callI (r := nI (bset (lkd (fun _ => false) (cle (fun _ => some 0) 16) (cle (fun _ => some 0) 1536) (fun _ => some 0) (cle (fun _ => some 0) 864) 1) 16)) (va_runV (As := [.int (nI 1)]) (rest := []) ⟨hx, hb, hml, hown, hts⟩ (kX0_changed l D h ad cI cZ (fun _ => false) (cle (fun _ => some 0) 16) (fun _ => 0) (fun _ => 0) 0 (fun _ => 0) (fun _ => 0) (fun _ => some 0) (fun _ => 0) (fun _ => 0) 0 0 (cle (fun _ => some 0) 1536) (fun _ => false) (cle (fun _ => some 0) 864) (fun _ => some 0) 1 (by decide) PR_0 HO_0 (Nat.zero_le 200) DV_0 SE_0) (cwV 1 hts gL_areShops_X0_changed rfl rfl rfl (by decide +kernel) ⟨Nat.le_of_ble_eq_true rfl, Nat.le_of_ble_eq_true rfl⟩) ⟨pP_blind, va_recv hK (va_Pl hP) (ci := 0) (q0 := 0) rfl rfl, pP_pre (va_Pl hP) hK⟩ rfl rfl hl.1 rfl (lv_room (Nat.le_of_ble_eq_true rfl)) dL_areShops_444 ⟨Nat.le_of_ble_eq_true rfl, Nat.le_of_ble_eq_true rfl⟩) ?_
  refine q_top (y := nI 0) (by rw [lkd_0 (by decide : 1 < 3)]) ?_
  refine lv_iconst (v := (nI 1)) hx hb dL_areShops_447 (by decide) ?_
  refine lv_aload_n hx hb dL_areShops_448 rfl (lv_at hl 7 rfl) ?_
  refine lv_iconst (v := (nI 0)) hx hb dL_areShops_449 (by decide) ?_
  refine q_ald nI (fun _ => 0) hx hb hK hP 14 1 rfl rfl (k := 0) (by decide) (Nat.le_of_ble_eq_true rfl) dL_areShops_450 ?_
  refine lv_ishl hx hb dL_areShops_451 ?_
  refine q_top (y := (nI 1)) (by decide) ?_
  refine lv_icmp_ge (tgt := 459) hx hb dL_areShops_452 (by decide) (fun z => (show False by revert z; decide).elim) (fun _ => ?_)
  refine lv_iconst (v := (nI 1)) hx hb dL_areShops_455 (by decide) ?_
  refine lv_goto (tgt := 460) hx hb dL_areShops_456 (by decide) ?_
  refine lv_istore (lv' := [(4, .int (nI 1)), (7, .int (nI 0)), (6, .int (nI 0)), (5, .int (nI 1)), (0, .ref h), (1, .ref ta), (2, .ref qa), (3, .ref ga)]) hx hb dL_areShops_460 hl (by decide) rfl (fun ls hl => ?_)
  refine lv_iinc (v := (nI 2)) (lv' := [(5, .int (nI 2)), (4, .int (nI 1)), (7, .int (nI 0)), (6, .int (nI 0)), (0, .ref h), (1, .ref ta), (2, .ref qa), (3, .ref ga)]) hx hb dL_areShops_462 hl (k := 3) rfl (by decide) (by decide) rfl (fun ls hl => ?_)
  refine lv_goto (tgt := 100) hx hb dL_areShops_465 (by decide) ?_
  refine lv_iload hx hb dL_areShops_100 (lv_at hl 0 rfl) ?_
  refine lv_iconst (v := (nI 3)) hx hb dL_areShops_102 (by decide) ?_
  refine lv_icmp_ge (tgt := 468) hx hb dL_areShops_103 (by decide) (fun z => (show False by revert z; decide).elim) (fun _ => ?_)
  refine lv_iload hx hb dL_areShops_106 (lv_at hl 1 rfl) ?_
  refine lv_if_eq (tgt := 468) hx hb dL_areShops_108 (by decide) (fun z => (show False by revert z; decide).elim) (fun _ => ?_)
  refine lv_iconst (v := (nI 0)) hx hb dL_areShops_111 (by decide) ?_
  refine lv_istore (lv' := [(6, .int (nI 0)), (5, .int (nI 2)), (4, .int (nI 1)), (7, .int (nI 0)), (0, .ref h), (1, .ref ta), (2, .ref qa), (3, .ref ga)]) hx hb dL_areShops_112 hl (by decide) rfl (fun ls hl => ?_)
  refine lv_iconst (v := (nI 0)) hx hb dL_areShops_114 (by decide) ?_
  refine lv_istore (lv' := [(7, .int (nI 0)), (6, .int (nI 0)), (5, .int (nI 2)), (4, .int (nI 1)), (0, .ref h), (1, .ref ta), (2, .ref qa), (3, .ref ga)]) hx hb dL_areShops_115 hl (by decide) rfl (fun ls hl => ?_)
  refine lv_iload hx hb dL_areShops_117 (lv_at hl 0 rfl) ?_
  refine lv_aload_n hx hb dL_areShops_119 rfl (lv_at hl 7 rfl) ?_
  refine lv_iconst (v := (nI 0)) hx hb dL_areShops_120 (by decide) ?_
  refine q_ald nI (fun _ => 0) hx hb hK hP 14 1 rfl rfl (k := 0) (by decide) (Nat.le_of_ble_eq_true rfl) dL_areShops_121 ?_
  refine lv_icmp_ge (tgt := 416) hx hb dL_areShops_122 (by decide) (fun _ => ?_) (fun z => (show False by revert z; decide).elim)
  refine lv_iload hx hb dL_areShops_416 (lv_at hl 3 rfl) ?_
  refine lv_if_eq (tgt := 459) hx hb dL_areShops_418 (by decide) (fun z => (show False by revert z; decide).elim) (fun _ => ?_)
  refine lv_aload_n hx hb dL_areShops_421 rfl (lv_at hl 4 rfl) ?_
  refine lv_iload hx hb dL_areShops_422 (lv_at hl 2 rfl) ?_
  refine q_callI (r := nI (cnt (cpl (fun _ => false) (cle (fun _ => some 0) 16) (cle (fun _ => some 0) 1536) (fun _ => some 0) (fun _ => false) 2) 16)) (va_runV (As := [.int (nI 2)]) (rest := []) ⟨hx, hb, hml, hown, hts⟩ (kX0_complete l D h ad cI cZ (fun _ => false) (cle (fun _ => some 0) 16) (fun _ => 0) (fun _ => 0) 0 (fun _ => 0) (fun _ => 0) (fun _ => some 0) (fun _ => 0) (fun _ => 0) 0 0 (cle (fun _ => some 0) 1536) (fun _ => false) (cle (fun _ => some 0) 864) (fun _ => some 0) 2 (by decide) PR_0 HO_0 (Nat.zero_le 200) DV_0) (cwV 1 hts gL_areShops_X0_complete rfl rfl rfl (by decide +kernel) ⟨Nat.le_of_ble_eq_true rfl, Nat.le_of_ble_eq_true rfl⟩) ⟨pP_blind, va_recv hK (va_Pl hP) (ci := 0) (q0 := 0) rfl rfl, pP_pre (va_Pl hP) hK⟩ rfl rfl hl.1 rfl (lv_room (Nat.le_of_ble_eq_true rfl)) dL_areShops_424 ⟨Nat.le_of_ble_eq_true rfl, Nat.le_of_ble_eq_true rfl⟩) ?_
  refine q_top (y := nI 0) (by rw [cpl_0]) ?_
  refine lv_iload hx hb dL_areShops_427 (lv_at hl 1 rfl) ?_
  refine lv_icmp_ne (tgt := 459) hx hb dL_areShops_429 (by decide) (fun z => (show False by revert z; decide).elim) (fun _ => ?_)
  refine lv_aload_n hx hb dL_areShops_432 rfl (lv_at hl 4 rfl) ?_
  refine lv_iload hx hb dL_areShops_433 (lv_at hl 2 rfl) ?_
  refine q_callI (r := nI (bset (lkd (fun _ => false) (cle (fun _ => some 0) 16) (cle (fun _ => some 0) 1536) (fun _ => some 0) (cle (fun _ => some 0) 864) 2) 16)) (va_runV (As := [.int (nI 2)]) (rest := []) ⟨hx, hb, hml, hown, hts⟩ (kX0_changed l D h ad cI cZ (fun _ => false) (cle (fun _ => some 0) 16) (fun _ => 0) (fun _ => 0) 0 (fun _ => 0) (fun _ => 0) (fun _ => some 0) (fun _ => 0) (fun _ => 0) 0 0 (cle (fun _ => some 0) 1536) (fun _ => false) (cle (fun _ => some 0) 864) (fun _ => some 0) 2 (by decide) PR_0 HO_0 (Nat.zero_le 200) DV_0 SE_0) (cwV 1 hts gL_areShops_X0_changed rfl rfl rfl (by decide +kernel) ⟨Nat.le_of_ble_eq_true rfl, Nat.le_of_ble_eq_true rfl⟩) ⟨pP_blind, va_recv hK (va_Pl hP) (ci := 0) (q0 := 0) rfl rfl, pP_pre (va_Pl hP) hK⟩ rfl rfl hl.1 rfl (lv_room (Nat.le_of_ble_eq_true rfl)) dL_areShops_435 ⟨Nat.le_of_ble_eq_true rfl, Nat.le_of_ble_eq_true rfl⟩) ?_
  refine q_top (y := nI 0) (by rw [lkd_0 (by decide : 2 < 3)]) ?_
  refine lv_if_lt (tgt := 459) hx hb dL_areShops_438 (by decide) (fun z => (show False by revert z; decide).elim) (fun _ => ?_)
  refine lv_aload_n hx hb dL_areShops_441 rfl (lv_at hl 4 rfl) ?_
  refine lv_iload hx hb dL_areShops_442 (lv_at hl 2 rfl) ?_
  refine q_callI (r := nI (bset (lkd (fun _ => false) (cle (fun _ => some 0) 16) (cle (fun _ => some 0) 1536) (fun _ => some 0) (cle (fun _ => some 0) 864) 2) 16)) (va_runV (As := [.int (nI 2)]) (rest := []) ⟨hx, hb, hml, hown, hts⟩ (kX0_changed l D h ad cI cZ (fun _ => false) (cle (fun _ => some 0) 16) (fun _ => 0) (fun _ => 0) 0 (fun _ => 0) (fun _ => 0) (fun _ => some 0) (fun _ => 0) (fun _ => 0) 0 0 (cle (fun _ => some 0) 1536) (fun _ => false) (cle (fun _ => some 0) 864) (fun _ => some 0) 2 (by decide) PR_0 HO_0 (Nat.zero_le 200) DV_0 SE_0) (cwV 1 hts gL_areShops_X0_changed rfl rfl rfl (by decide +kernel) ⟨Nat.le_of_ble_eq_true rfl, Nat.le_of_ble_eq_true rfl⟩) ⟨pP_blind, va_recv hK (va_Pl hP) (ci := 0) (q0 := 0) rfl rfl, pP_pre (va_Pl hP) hK⟩ rfl rfl hl.1 rfl (lv_room (Nat.le_of_ble_eq_true rfl)) dL_areShops_444 ⟨Nat.le_of_ble_eq_true rfl, Nat.le_of_ble_eq_true rfl⟩) ?_
  refine q_top (y := nI 0) (by rw [lkd_0 (by decide : 2 < 3)]) ?_
  refine lv_iconst (v := (nI 1)) hx hb dL_areShops_447 (by decide) ?_
  refine lv_aload_n hx hb dL_areShops_448 rfl (lv_at hl 7 rfl) ?_
  refine lv_iconst (v := (nI 0)) hx hb dL_areShops_449 (by decide) ?_
  refine q_ald nI (fun _ => 0) hx hb hK hP 14 1 rfl rfl (k := 0) (by decide) (Nat.le_of_ble_eq_true rfl) dL_areShops_450 ?_
  refine lv_ishl hx hb dL_areShops_451 ?_
  refine q_top (y := (nI 1)) (by decide) ?_
  refine lv_icmp_ge (tgt := 459) hx hb dL_areShops_452 (by decide) (fun z => (show False by revert z; decide).elim) (fun _ => ?_)
  refine lv_iconst (v := (nI 1)) hx hb dL_areShops_455 (by decide) ?_
  refine lv_goto (tgt := 460) hx hb dL_areShops_456 (by decide) ?_
  refine lv_istore (lv' := [(4, .int (nI 1)), (7, .int (nI 0)), (6, .int (nI 0)), (5, .int (nI 2)), (0, .ref h), (1, .ref ta), (2, .ref qa), (3, .ref ga)]) hx hb dL_areShops_460 hl (by decide) rfl (fun ls hl => ?_)
  refine lv_iinc (v := (nI 3)) (lv' := [(5, .int (nI 3)), (4, .int (nI 1)), (7, .int (nI 0)), (6, .int (nI 0)), (0, .ref h), (1, .ref ta), (2, .ref qa), (3, .ref ga)]) hx hb dL_areShops_462 hl (k := 3) rfl (by decide) (by decide) rfl (fun ls hl => ?_)
  refine lv_goto (tgt := 100) hx hb dL_areShops_465 (by decide) ?_
  refine lv_iload hx hb dL_areShops_100 (lv_at hl 0 rfl) ?_
  refine lv_iconst (v := (nI 3)) hx hb dL_areShops_102 (by decide) ?_
  refine lv_icmp_ge (tgt := 468) hx hb dL_areShops_103 (by decide) (fun _ => ?_) (fun z => (show False by revert z; decide).elim)
  refine lv_iload hx hb dL_areShops_468 (lv_at hl 1 rfl) ?_
  refine q_top (y := bI true) (by decide) ?_
  exact q_rretZ hx hb hr hlocks hz (Nat.le_of_ble_eq_true rfl) hS dL_areShops_470 (Nat.le_of_ble_eq_true rfl) (Nat.le_of_ble_eq_true rfl)
