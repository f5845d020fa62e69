set_option maxHeartbeats 4000000 in
set_option maxRecDepth 100000 in
theorem kL_asks4 (l : Launch) (D : va_G) (h : Nat) (ad : Nat → Nat) (cI cZ : ClassId) (hlf : l.stackTraces = false) : Met l yL_asks wsL_asks ({ frames := 8, cells := 1, slots := 6, locals := 125 } : Room) (tP D (hWi h ad cI cZ) (hT cI cZ) [.ref h, .int (nI 4), .int (nI 3), .int (nI 0), .int (nI 0), .int (nI 0)]) (rQ (.int (-30)) 1) 1 6 nF := by
  refine mt_ofWH (cc := cL_asks) (maxL := 7) (ret := (some .int)) (by decide) rfl ?_
  intro p e s m args below meth c s₁ B hml htab hv
  obtain ⟨rfl, hP, hK, hE⟩ := hv
  have hx := B.exec
  have hb := B.bytes
  have hr := B.returns
  have hts := atoms_spec (ws := wsL_asks) B.pre
  have hown : s.vm.findClass RL = some m.cls := findClass_of_methodNamed B.named
  have hlocks := B.notSynchronized
  have hl := lv_entry ([.ref h, .int (nI 4), .int (nI 3), .int (nI 0), .int (nI 0), .int (nI 0)]) (n := 7) (Nat.le_of_ble_eq_true rfl)
  rw [lg_entry_eq]
  generalize (lg_sl ([.ref h, .int (nI 4), .int (nI 3), .int (nI 0), .int (nI 0), .int (nI 0)]) ++ List.replicate (7 - (lg_sl ([.ref h, .int (nI 4), .int (nI 3), .int (nI 0), .int (nI 0), .int (nI 0)])).length) Slot.unset).toArray = ls at hl ⊢
  have hl : lv_has ls 7 [(0, .ref h), (1, .int (nI 4)), (2, .int (nI 3)), (3, .int (nI 0)), (4, .int (nI 0)), (5, .int (nI 0))] := hl
  refine lv_iload_n hx hb dL_asks_0 rfl (lv_at hl 1 rfl) ?_
  refine lv_if_ne (tgt := 17) hx hb dL_asks_1 (by decide) (fun _ => ?_) (fun z => (show False by revert z; decide).elim)
  refine lv_iload_n hx hb dL_asks_17 rfl (lv_at hl 1 rfl) ?_
  refine lv_iconst (v := (nI 1)) hx hb dL_asks_18 (by decide) ?_
  refine lv_icmp_ne (tgt := 35) hx hb dL_asks_19 (by decide) (fun _ => ?_) (fun z => (show False by revert z; decide).elim)
  refine lv_iload_n hx hb dL_asks_35 rfl (lv_at hl 1 rfl) ?_
  refine lv_iconst (v := (nI 2)) hx hb dL_asks_36 (by decide) ?_
  refine lv_icmp_ne (tgt := 48) hx hb dL_asks_37 (by decide) (fun _ => ?_) (fun z => (show False by revert z; decide).elim)
  refine lv_iload_n hx hb dL_asks_48 rfl (lv_at hl 1 rfl) ?_
  refine lv_iconst (v := (nI 3)) hx hb dL_asks_49 (by decide) ?_
  refine lv_icmp_ne (tgt := 64) hx hb dL_asks_50 (by decide) (fun _ => ?_) (fun z => (show False by revert z; decide).elim)
  refine lv_iload_n hx hb dL_asks_64 rfl (lv_at hl 1 rfl) ?_
  refine lv_iconst (v := (nI 4)) hx hb dL_asks_65 (by decide) ?_
  refine lv_icmp_ne (tgt := 77) hx hb dL_asks_66 (by decide) (fun z => (show False by revert z; decide).elim) (fun _ => ?_)
  refine lv_aload_n hx hb dL_asks_69 rfl (lv_at hl 0 rfl) ?_
  refine lv_iload_n hx hb dL_asks_70 rfl (lv_at hl 2 rfl) ?_
  refine q_catchS (vx_runV (As := [.int (nI 3)]) (rest := []) ⟨hx, hb, hml, hown, hts⟩ (kX0_completeXI l D h ad cI cZ (fun _ => false) (cle (fun _ => some 0) 16) (fun _ => 0) (fun _ => 0) 0 (fun _ => 0) (fun _ => 0) (fun _ => some 0) (fun _ => 0) (fun _ => 0) 0 0 (cle (fun _ => some 0) 1536) (fun _ => false) (cle (fun _ => some 0) 864) (fun _ => some 0) hlf (nI 3) (Or.inr (by decide))) (cwV 1 hts gL_asks_X0_complete rfl rfl rfl (by decide +kernel) ⟨Nat.le_of_ble_eq_true rfl, Nat.le_of_ble_eq_true rfl⟩) ⟨tP_blind, va_recv hK hP (ci := 0) (q0 := 0) rfl rfl, tP_pre hP hK hE⟩ rfl rfl hl.1 rfl (lv_room (Nat.le_of_ble_eq_true rfl)) dL_asks_71 ⟨Nat.le_of_ble_eq_true rfl, Nat.le_of_ble_eq_true rfl⟩) (fun H ce q9 h1 h2 h3 h4 h5 => ?_)
  obtain ⟨t0, ht0, htab⟩ := tab_c htab
  refine vx_catch (own := RL) (name := "java/lang/IndexOutOfBoundsException") (E := "java/lang/IndexOutOfBoundsException") hown [] ⟨0, 96, 97, 52⟩ t0 ht0 (fun z hz => by cases hz) (by decide) (by decide) (hts (.classLink RL 52 "java/lang/IndexOutOfBoundsException") (by decide +kernel)) (va_Nw.use rfl (hE.2.2.2.1 "java/lang/IndexOutOfBoundsException" (by decide))) h3 h4 h5 ?_
  refine lv_astore (lv' := [(6, .ref q9), (0, .ref h), (1, .int (nI 4)), (2, .int (nI 3)), (3, .int (nI 0)), (4, .int (nI 0)), (5, .int (nI 0))]) hx hb dL_asks_97 hl (by decide) rfl (fun ls hl => ?_)
  refine lv_bipush (v := (-30)) hx hb dL_asks_99 (by decide) ?_
  exact q_rret hx hb hr hlocks h1 h2 dL_asks_101

set_option maxHeartbeats 4000000 in
set_option maxRecDepth 100000 in
theorem kL_asks5 (l : Launch) (D : va_G) (h : Nat) (ad : Nat → Nat) (cI cZ : ClassId) (hlf : l.stackTraces = false) : Met l yL_asks wsL_asks ({ frames := 8, cells := 1, slots := 6, locals := 126 } : Room) (tP D (hWi h ad cI cZ) (hT cI cZ) [.ref h, .int (nI 5), .int (nI 0), .int (nI 3), .int (nI 0), .int (nI 0)]) (rQ (.int (-30)) 1) 1 6 nF := by
  refine mt_ofWH (cc := cL_asks) (maxL := 7) (ret := (some .int)) (by decide) rfl ?_
  intro p e s m args below meth c s₁ B hml htab hv
  obtain ⟨rfl, hP, hK, hE⟩ := hv
  have hx := B.exec
  have hb := B.bytes
  have hr := B.returns
  have hts := atoms_spec (ws := wsL_asks) B.pre
  have hown : s.vm.findClass RL = some m.cls := findClass_of_methodNamed B.named
  have hlocks := B.notSynchronized
  have hl := lv_entry ([.ref h, .int (nI 5), .int (nI 0), .int (nI 3), .int (nI 0), .int (nI 0)]) (n := 7) (Nat.le_of_ble_eq_true rfl)
  rw [lg_entry_eq]
  generalize (lg_sl ([.ref h, .int (nI 5), .int (nI 0), .int (nI 3), .int (nI 0), .int (nI 0)]) ++ List.replicate (7 - (lg_sl ([.ref h, .int (nI 5), .int (nI 0), .int (nI 3), .int (nI 0), .int (nI 0)])).length) Slot.unset).toArray = ls at hl ⊢
  have hl : lv_has ls 7 [(0, .ref h), (1, .int (nI 5)), (2, .int (nI 0)), (3, .int (nI 3)), (4, .int (nI 0)), (5, .int (nI 0))] := hl
  refine lv_iload_n hx hb dL_asks_0 rfl (lv_at hl 1 rfl) ?_
  refine lv_if_ne (tgt := 17) hx hb dL_asks_1 (by decide) (fun _ => ?_) (fun z => (show False by revert z; decide).elim)
  refine lv_iload_n hx hb dL_asks_17 rfl (lv_at hl 1 rfl) ?_
  refine lv_iconst (v := (nI 1)) hx hb dL_asks_18 (by decide) ?_
  refine lv_icmp_ne (tgt := 35) hx hb dL_asks_19 (by decide) (fun _ => ?_) (fun z => (show False by revert z; decide).elim)
  refine lv_iload_n hx hb dL_asks_35 rfl (lv_at hl 1 rfl) ?_
  refine lv_iconst (v := (nI 2)) hx hb dL_asks_36 (by decide) ?_
  refine lv_icmp_ne (tgt := 48) hx hb dL_asks_37 (by decide) (fun _ => ?_) (fun z => (show False by revert z; decide).elim)
  refine lv_iload_n hx hb dL_asks_48 rfl (lv_at hl 1 rfl) ?_
  refine lv_iconst (v := (nI 3)) hx hb dL_asks_49 (by decide) ?_
  refine lv_icmp_ne (tgt := 64) hx hb dL_asks_50 (by decide) (fun _ => ?_) (fun z => (show False by revert z; decide).elim)
  refine lv_iload_n hx hb dL_asks_64 rfl (lv_at hl 1 rfl) ?_
  refine lv_iconst (v := (nI 4)) hx hb dL_asks_65 (by decide) ?_
  refine lv_icmp_ne (tgt := 77) hx hb dL_asks_66 (by decide) (fun _ => ?_) (fun z => (show False by revert z; decide).elim)
  refine lv_iload_n hx hb dL_asks_77 rfl (lv_at hl 1 rfl) ?_
  refine lv_iconst (v := (nI 5)) hx hb dL_asks_78 (by decide) ?_
  refine lv_icmp_ne (tgt := 91) hx hb dL_asks_79 (by decide) (fun z => (show False by revert z; decide).elim) (fun _ => ?_)
  refine lv_aload_n hx hb dL_asks_82 rfl (lv_at hl 0 rfl) ?_
  refine lv_iload_n hx hb dL_asks_83 rfl (lv_at hl 2 rfl) ?_
  refine lv_iload_n hx hb dL_asks_84 rfl (lv_at hl 3 rfl) ?_
  refine q_catchS (vx_runV (As := [.int (nI 0), .int (nI 3)]) (rest := []) ⟨hx, hb, hml, hown, hts⟩ (kX0_priceXI l D h ad cI cZ (fun _ => false) (cle (fun _ => some 0) 16) (fun _ => 0) (fun _ => 0) 0 (fun _ => 0) (fun _ => 0) (fun _ => some 0) (fun _ => 0) (fun _ => 0) 0 0 (cle (fun _ => some 0) 1536) (fun _ => false) (cle (fun _ => some 0) 864) (fun _ => some 0) hlf (nI 0) (nI 3) (Or.inl (fun j _ _ => rfl))) (cwV 2 hts gL_asks_X0_price rfl rfl rfl (by decide +kernel) ⟨Nat.le_of_ble_eq_true rfl, Nat.le_of_ble_eq_true rfl⟩) ⟨tP_blind, va_recv hK hP (ci := 0) (q0 := 0) rfl rfl, tP_pre hP hK hE⟩ rfl rfl hl.1 rfl (lv_room (Nat.le_of_ble_eq_true rfl)) dL_asks_85 ⟨Nat.le_of_ble_eq_true rfl, Nat.le_of_ble_eq_true rfl⟩) (fun H ce q9 h1 h2 h3 h4 h5 => ?_)
  obtain ⟨t0, ht0, htab⟩ := tab_c htab
  refine vx_catch (own := RL) (name := "java/lang/IndexOutOfBoundsException") (E := "java/lang/IndexOutOfBoundsException") hown [] ⟨0, 96, 97, 52⟩ t0 ht0 (fun z hz => by cases hz) (by decide) (by decide) (hts (.classLink RL 52 "java/lang/IndexOutOfBoundsException") (by decide +kernel)) (va_Nw.use rfl (hE.2.2.2.1 "java/lang/IndexOutOfBoundsException" (by decide))) h3 h4 h5 ?_
  refine lv_astore (lv' := [(6, .ref q9), (0, .ref h), (1, .int (nI 5)), (2, .int (nI 0)), (3, .int (nI 3)), (4, .int (nI 0)), (5, .int (nI 0))]) hx hb dL_asks_97 hl (by decide) rfl (fun ls hl => ?_)
  refine lv_bipush (v := (-30)) hx hb dL_asks_99 (by decide) ?_
  exact q_rret hx hb hr hlocks h1 h2 dL_asks_101

set_option maxHeartbeats 4000000 in
set_option maxRecDepth 100000 in
theorem kL_asks6 (l : Launch) (D : va_G) (h : Nat) (ad : Nat → Nat) (cI cZ : ClassId) (hlf : l.stackTraces = false) : Met l yL_asks wsL_asks ({ frames := 8, cells := 1, slots := 6, locals := 123 } : Room) (tP D (hWi h ad cI cZ) (hT cI cZ) [.ref h, .int (nI 6), .int (-1), .int (nI 0), .int (nI 0), .int (nI 0)]) (rQ (.int (-30)) 1) 1 6 nF := by
  refine mt_ofWH (cc := cL_asks) (maxL := 7) (ret := (some .int)) (by decide) rfl ?_
  intro p e s m args below meth c s₁ B hml htab hv
  obtain ⟨rfl, hP, hK, hE⟩ := hv
  have hx := B.exec
  have hb := B.bytes
  have hr := B.returns
  have hts := atoms_spec (ws := wsL_asks) B.pre
  have hown : s.vm.findClass RL = some m.cls := findClass_of_methodNamed B.named
  have hlocks := B.notSynchronized
  have hl := lv_entry ([.ref h, .int (nI 6), .int (-1), .int (nI 0), .int (nI 0), .int (nI 0)]) (n := 7) (Nat.le_of_ble_eq_true rfl)
  rw [lg_entry_eq]
  generalize (lg_sl ([.ref h, .int (nI 6), .int (-1), .int (nI 0), .int (nI 0), .int (nI 0)]) ++ List.replicate (7 - (lg_sl ([.ref h, .int (nI 6), .int (-1), .int (nI 0), .int (nI 0), .int (nI 0)])).length) Slot.unset).toArray = ls at hl ⊢
  have hl : lv_has ls 7 [(0, .ref h), (1, .int (nI 6)), (2, .int (-1)), (3, .int (nI 0)), (4, .int (nI 0)), (5, .int (nI 0))] := hl
  refine lv_iload_n hx hb dL_asks_0 rfl (lv_at hl 1 rfl) ?_
  refine lv_if_ne (tgt := 17) hx hb dL_asks_1 (by decide) (fun _ => ?_) (fun z => (show False by revert z; decide).elim)
  refine lv_iload_n hx hb dL_asks_17 rfl (lv_at hl 1 rfl) ?_
  refine lv_iconst (v := (nI 1)) hx hb dL_asks_18 (by decide) ?_
  refine lv_icmp_ne (tgt := 35) hx hb dL_asks_19 (by decide) (fun _ => ?_) (fun z => (show False by revert z; decide).elim)
  refine lv_iload_n hx hb dL_asks_35 rfl (lv_at hl 1 rfl) ?_
  refine lv_iconst (v := (nI 2)) hx hb dL_asks_36 (by decide) ?_
  refine lv_icmp_ne (tgt := 48) hx hb dL_asks_37 (by decide) (fun _ => ?_) (fun z => (show False by revert z; decide).elim)
  refine lv_iload_n hx hb dL_asks_48 rfl (lv_at hl 1 rfl) ?_
  refine lv_iconst (v := (nI 3)) hx hb dL_asks_49 (by decide) ?_
  refine lv_icmp_ne (tgt := 64) hx hb dL_asks_50 (by decide) (fun _ => ?_) (fun z => (show False by revert z; decide).elim)
  refine lv_iload_n hx hb dL_asks_64 rfl (lv_at hl 1 rfl) ?_
  refine lv_iconst (v := (nI 4)) hx hb dL_asks_65 (by decide) ?_
  refine lv_icmp_ne (tgt := 77) hx hb dL_asks_66 (by decide) (fun _ => ?_) (fun z => (show False by revert z; decide).elim)
  refine lv_iload_n hx hb dL_asks_77 rfl (lv_at hl 1 rfl) ?_
  refine lv_iconst (v := (nI 5)) hx hb dL_asks_78 (by decide) ?_
  refine lv_icmp_ne (tgt := 91) hx hb dL_asks_79 (by decide) (fun _ => ?_) (fun z => (show False by revert z; decide).elim)
  refine lv_aload_n hx hb dL_asks_91 rfl (lv_at hl 0 rfl) ?_
  refine lv_iload_n hx hb dL_asks_92 rfl (lv_at hl 2 rfl) ?_
  refine q_catchS (vx_runV (As := [.int (-1)]) (rest := []) ⟨hx, hb, hml, hown, hts⟩ (kX0_changedXI l D h ad cI cZ (fun _ => false) (cle (fun _ => some 0) 16) (fun _ => 0) (fun _ => 0) 0 (fun _ => 0) (fun _ => 0) (fun _ => some 0) (fun _ => 0) (fun _ => 0) 0 0 (cle (fun _ => some 0) 1536) (fun _ => false) (cle (fun _ => some 0) 864) (fun _ => some 0) hlf (-1) (Or.inl (by decide))) (cwV 1 hts gL_asks_X0_changed rfl rfl rfl (by decide +kernel) ⟨Nat.le_of_ble_eq_true rfl, Nat.le_of_ble_eq_true rfl⟩) ⟨tP_blind, va_recv hK hP (ci := 0) (q0 := 0) rfl rfl, tP_pre hP hK hE⟩ rfl rfl hl.1 rfl (lv_room (Nat.le_of_ble_eq_true rfl)) dL_asks_93 ⟨Nat.le_of_ble_eq_true rfl, Nat.le_of_ble_eq_true rfl⟩) (fun H ce q9 h1 h2 h3 h4 h5 => ?_)
  obtain ⟨t0, ht0, htab⟩ := tab_c htab
  refine vx_catch (own := RL) (name := "java/lang/IndexOutOfBoundsException") (E := "java/lang/IndexOutOfBoundsException") hown [] ⟨0, 96, 97, 52⟩ t0 ht0 (fun z hz => by cases hz) (by decide) (by decide) (hts (.classLink RL 52 "java/lang/IndexOutOfBoundsException") (by decide +kernel)) (va_Nw.use rfl (hE.2.2.2.1 "java/lang/IndexOutOfBoundsException" (by decide))) h3 h4 h5 ?_
  refine lv_astore (lv' := [(6, .ref q9), (0, .ref h), (1, .int (nI 6)), (2, .int (-1)), (3, .int (nI 0)), (4, .int (nI 0)), (5, .int (nI 0))]) hx hb dL_asks_97 hl (by decide) rfl (fun ls hl => ?_)
  refine lv_bipush (v := (-30)) hx hb dL_asks_99 (by decide) ?_
  exact q_rret hx hb hr hlocks h1 h2 dL_asks_101

set_option maxHeartbeats 4000000 in
set_option maxRecDepth 100000 in
theorem kL_asks0 (l : Launch) (D : va_G) (h : Nat) (ad : Nat → Nat) (cI cZ : ClassId) (hlf : l.stackTraces = false) : Met l yL_asks wsL_asks ({ frames := 9, cells := 1, slots := 6, locals := 152 } : Room) (tP D (hWi h ad cI cZ) (hT cI cZ) [.ref h, .int (nI 0), .int (nI 0), .int (nI 0), .int (nI 0), .int (nI 0)]) (rQ (.int (-30)) 1) 1 6 nF := by
  refine mt_ofWH (cc := cL_asks) (maxL := 7) (ret := (some .int)) (by decide) rfl ?_
  intro p e s m args below meth c s₁ B hml htab hv
  obtain ⟨rfl, hP, hK, hE⟩ := hv
  have hx := B.exec
  have hb := B.bytes
  have hr := B.returns
  have hts := atoms_spec (ws := wsL_asks) B.pre
  have hown : s.vm.findClass RL = some m.cls := findClass_of_methodNamed B.named
  have hlocks := B.notSynchronized
  have hl := lv_entry ([.ref h, .int (nI 0), .int (nI 0), .int (nI 0), .int (nI 0), .int (nI 0)]) (n := 7) (Nat.le_of_ble_eq_true rfl)
  rw [lg_entry_eq]
  generalize (lg_sl ([.ref h, .int (nI 0), .int (nI 0), .int (nI 0), .int (nI 0), .int (nI 0)]) ++ List.replicate (7 - (lg_sl ([.ref h, .int (nI 0), .int (nI 0), .int (nI 0), .int (nI 0), .int (nI 0)])).length) Slot.unset).toArray = ls at hl ⊢
  have hl : lv_has ls 7 [(0, .ref h), (1, .int (nI 0)), (2, .int (nI 0)), (3, .int (nI 0)), (4, .int (nI 0)), (5, .int (nI 0))] := hl
  refine lv_iload_n hx hb dL_asks_0 rfl (lv_at hl 1 rfl) ?_
  refine lv_if_ne (tgt := 17) hx hb dL_asks_1 (by decide) (fun z => (show False by revert z; decide).elim) (fun _ => ?_)
  refine lv_aload_n hx hb dL_asks_4 rfl (lv_at hl 0 rfl) ?_
  refine lv_iload_n hx hb dL_asks_5 rfl (lv_at hl 2 rfl) ?_
  refine lv_iload_n hx hb dL_asks_6 rfl (lv_at hl 3 rfl) ?_
  refine lv_iload hx hb dL_asks_7 (lv_at hl 4 rfl) ?_
  refine lv_iload hx hb dL_asks_9 (lv_at hl 5 rfl) ?_
  refine q_catchS (vx_runV (As := [.int (nI 0), .int (nI 0), .int (nI 0), .int (nI 0)]) (rest := []) ⟨hx, hb, hml, hown, hts⟩ (kX0_valueXI l D h ad cI cZ (fun _ => false) (cle (fun _ => some 0) 16) (fun _ => 0) (fun _ => 0) 0 (fun _ => 0) (fun _ => 0) (fun _ => some 0) (fun _ => 0) (fun _ => 0) 0 0 (cle (fun _ => some 0) 1536) (fun _ => false) (cle (fun _ => some 0) 864) (fun _ => some 0) hlf (nI 0) (nI 0) (nI 0) (nI 0) (Or.inl (fun j _ _ => rfl))) (cwV 4 hts gL_asks_X0_value rfl rfl rfl (by decide +kernel) ⟨Nat.le_of_ble_eq_true rfl, Nat.le_of_ble_eq_true rfl⟩) ⟨tP_blind, va_recv hK hP (ci := 0) (q0 := 0) rfl rfl, tP_pre hP hK hE⟩ rfl rfl hl.1 rfl (lv_room (Nat.le_of_ble_eq_true rfl)) dL_asks_11 ⟨Nat.le_of_ble_eq_true rfl, Nat.le_of_ble_eq_true rfl⟩) (fun H ce q9 h1 h2 h3 h4 h5 => ?_)
  obtain ⟨t0, ht0, htab⟩ := tab_c htab
  refine vx_catch (own := RL) (name := "java/lang/IndexOutOfBoundsException") (E := "java/lang/IndexOutOfBoundsException") hown [] ⟨0, 96, 97, 52⟩ t0 ht0 (fun z hz => by cases hz) (by decide) (by decide) (hts (.classLink RL 52 "java/lang/IndexOutOfBoundsException") (by decide +kernel)) (va_Nw.use rfl (hE.2.2.2.1 "java/lang/IndexOutOfBoundsException" (by decide))) h3 h4 h5 ?_
  refine lv_astore (lv' := [(6, .ref q9), (0, .ref h), (1, .int (nI 0)), (2, .int (nI 0)), (3, .int (nI 0)), (4, .int (nI 0)), (5, .int (nI 0))]) hx hb dL_asks_97 hl (by decide) rfl (fun ls hl => ?_)
  refine lv_bipush (v := (-30)) hx hb dL_asks_99 (by decide) ?_
  exact q_rret hx hb hr hlocks h1 h2 dL_asks_101

set_option maxHeartbeats 4000000 in
set_option maxRecDepth 100000 in
theorem kL_asks1 (l : Launch) (D : va_G) (h : Nat) (ad : Nat → Nat) (cI cZ : ClassId) (hlf : l.stackTraces = false) : Met l yL_asks wsL_asks ({ frames := 9, cells := 1, slots := 6, locals := 151 } : Room) (tP D (hWi h ad cI cZ) (hT cI cZ) [.ref h, .int (nI 1), .int (nI 0), .int (nI 6), .int (nI 0), .int (nI 0)]) (rQ (.int (-30)) 1) 1 6 nF := by
  refine mt_ofWH (cc := cL_asks) (maxL := 7) (ret := (some .int)) (by decide) rfl ?_
  intro p e s m args below meth c s₁ B hml htab hv
  obtain ⟨rfl, hP, hK, hE⟩ := hv
  have hx := B.exec
  have hb := B.bytes
  have hr := B.returns
  have hts := atoms_spec (ws := wsL_asks) B.pre
  have hown : s.vm.findClass RL = some m.cls := findClass_of_methodNamed B.named
  have hlocks := B.notSynchronized
  have hl := lv_entry ([.ref h, .int (nI 1), .int (nI 0), .int (nI 6), .int (nI 0), .int (nI 0)]) (n := 7) (Nat.le_of_ble_eq_true rfl)
  rw [lg_entry_eq]
  generalize (lg_sl ([.ref h, .int (nI 1), .int (nI 0), .int (nI 6), .int (nI 0), .int (nI 0)]) ++ List.replicate (7 - (lg_sl ([.ref h, .int (nI 1), .int (nI 0), .int (nI 6), .int (nI 0), .int (nI 0)])).length) Slot.unset).toArray = ls at hl ⊢
  have hl : lv_has ls 7 [(0, .ref h), (1, .int (nI 1)), (2, .int (nI 0)), (3, .int (nI 6)), (4, .int (nI 0)), (5, .int (nI 0))] := hl
  refine lv_iload_n hx hb dL_asks_0 rfl (lv_at hl 1 rfl) ?_
  refine lv_if_ne (tgt := 17) hx hb dL_asks_1 (by decide) (fun _ => ?_) (fun z => (show False by revert z; decide).elim)
  refine lv_iload_n hx hb dL_asks_17 rfl (lv_at hl 1 rfl) ?_
  refine lv_iconst (v := (nI 1)) hx hb dL_asks_18 (by decide) ?_
  refine lv_icmp_ne (tgt := 35) hx hb dL_asks_19 (by decide) (fun z => (show False by revert z; decide).elim) (fun _ => ?_)
  refine lv_aload_n hx hb dL_asks_22 rfl (lv_at hl 0 rfl) ?_
  refine lv_iload_n hx hb dL_asks_23 rfl (lv_at hl 2 rfl) ?_
  refine lv_iload_n hx hb dL_asks_24 rfl (lv_at hl 3 rfl) ?_
  refine lv_iload hx hb dL_asks_25 (lv_at hl 4 rfl) ?_
  refine lv_iload hx hb dL_asks_27 (lv_at hl 5 rfl) ?_
  refine q_catchS (vx_runV (As := [.int (nI 0), .int (nI 6), .int (nI 0), .int (nI 0)]) (rest := []) ⟨hx, hb, hml, hown, hts⟩ (kX0_originXI l D h ad cI cZ (fun _ => false) (cle (fun _ => some 0) 16) (fun _ => 0) (fun _ => 0) 0 (fun _ => 0) (fun _ => 0) (fun _ => some 0) (fun _ => 0) (fun _ => 0) 0 0 (cle (fun _ => some 0) 1536) (fun _ => false) (cle (fun _ => some 0) 864) (fun _ => some 0) hlf (nI 0) (nI 6) (nI 0) (nI 0) (Or.inl (fun j _ _ => rfl))) (cwV 4 hts gL_asks_X0_origin rfl rfl rfl (by decide +kernel) ⟨Nat.le_of_ble_eq_true rfl, Nat.le_of_ble_eq_true rfl⟩) ⟨tP_blind, va_recv hK hP (ci := 0) (q0 := 0) rfl rfl, tP_pre hP hK hE⟩ rfl rfl hl.1 rfl (lv_room (Nat.le_of_ble_eq_true rfl)) dL_asks_29 ⟨Nat.le_of_ble_eq_true rfl, Nat.le_of_ble_eq_true rfl⟩) (fun H ce q9 h1 h2 h3 h4 h5 => ?_)
  obtain ⟨t0, ht0, htab⟩ := tab_c htab
  refine vx_catch (own := RL) (name := "java/lang/IndexOutOfBoundsException") (E := "java/lang/IndexOutOfBoundsException") hown [] ⟨0, 96, 97, 52⟩ t0 ht0 (fun z hz => by cases hz) (by decide) (by decide) (hts (.classLink RL 52 "java/lang/IndexOutOfBoundsException") (by decide +kernel)) (va_Nw.use rfl (hE.2.2.2.1 "java/lang/IndexOutOfBoundsException" (by decide))) h3 h4 h5 ?_
  refine lv_astore (lv' := [(6, .ref q9), (0, .ref h), (1, .int (nI 1)), (2, .int (nI 0)), (3, .int (nI 6)), (4, .int (nI 0)), (5, .int (nI 0))]) hx hb dL_asks_97 hl (by decide) rfl (fun ls hl => ?_)
  refine lv_bipush (v := (-30)) hx hb dL_asks_99 (by decide) ?_
  exact q_rret hx hb hr hlocks h1 h2 dL_asks_101

set_option maxHeartbeats 4000000 in
set_option maxRecDepth 100000 in
theorem kL_asks3 (l : Launch) (D : va_G) (h : Nat) (ad : Nat → Nat) (cI cZ : ClassId) (hlf : l.stackTraces = false) : Met l yL_asks wsL_asks ({ frames := 8, cells := 1, slots := 6, locals := 126 } : Room) (tP D (hWi h ad cI cZ) (hT cI cZ) [.ref h, .int (nI 3), .int (nI 0), .int (nI 0), .int (nI 0), .int (nI 0)]) (rQ (.int (-30)) 1) 1 6 nF := by
  refine mt_ofWH (cc := cL_asks) (maxL := 7) (ret := (some .int)) (by decide) rfl ?_
  intro p e s m args below meth c s₁ B hml htab hv
  obtain ⟨rfl, hP, hK, hE⟩ := hv
  have hx := B.exec
  have hb := B.bytes
  have hr := B.returns
  have hts := atoms_spec (ws := wsL_asks) B.pre
  have hown : s.vm.findClass RL = some m.cls := findClass_of_methodNamed B.named
  have hlocks := B.notSynchronized
  have hl := lv_entry ([.ref h, .int (nI 3), .int (nI 0), .int (nI 0), .int (nI 0), .int (nI 0)]) (n := 7) (Nat.le_of_ble_eq_true rfl)
  rw [lg_entry_eq]
  generalize (lg_sl ([.ref h, .int (nI 3), .int (nI 0), .int (nI 0), .int (nI 0), .int (nI 0)]) ++ List.replicate (7 - (lg_sl ([.ref h, .int (nI 3), .int (nI 0), .int (nI 0), .int (nI 0), .int (nI 0)])).length) Slot.unset).toArray = ls at hl ⊢
  have hl : lv_has ls 7 [(0, .ref h), (1, .int (nI 3)), (2, .int (nI 0)), (3, .int (nI 0)), (4, .int (nI 0)), (5, .int (nI 0))] := hl
  refine lv_iload_n hx hb dL_asks_0 rfl (lv_at hl 1 rfl) ?_
  refine lv_if_ne (tgt := 17) hx hb dL_asks_1 (by decide) (fun _ => ?_) (fun z => (show False by revert z; decide).elim)
  refine lv_iload_n hx hb dL_asks_17 rfl (lv_at hl 1 rfl) ?_
  refine lv_iconst (v := (nI 1)) hx hb dL_asks_18 (by decide) ?_
  refine lv_icmp_ne (tgt := 35) hx hb dL_asks_19 (by decide) (fun _ => ?_) (fun z => (show False by revert z; decide).elim)
  refine lv_iload_n hx hb dL_asks_35 rfl (lv_at hl 1 rfl) ?_
  refine lv_iconst (v := (nI 2)) hx hb dL_asks_36 (by decide) ?_
  refine lv_icmp_ne (tgt := 48) hx hb dL_asks_37 (by decide) (fun _ => ?_) (fun z => (show False by revert z; decide).elim)
  refine lv_iload_n hx hb dL_asks_48 rfl (lv_at hl 1 rfl) ?_
  refine lv_iconst (v := (nI 3)) hx hb dL_asks_49 (by decide) ?_
  refine lv_icmp_ne (tgt := 64) hx hb dL_asks_50 (by decide) (fun z => (show False by revert z; decide).elim) (fun _ => ?_)
  refine lv_aload_n hx hb dL_asks_53 rfl (lv_at hl 0 rfl) ?_
  refine lv_iload_n hx hb dL_asks_54 rfl (lv_at hl 2 rfl) ?_
  refine lv_iload_n hx hb dL_asks_55 rfl (lv_at hl 3 rfl) ?_
  refine lv_iload hx hb dL_asks_56 (lv_at hl 4 rfl) ?_
  refine q_catchS (vx_runV (As := [.int (nI 0), .int (nI 0), .int (nI 0)]) (rest := []) ⟨hx, hb, hml, hown, hts⟩ (kX0_missingXI l D h ad cI cZ (fun _ => false) (cle (fun _ => some 0) 16) (fun _ => 0) (fun _ => 0) 0 (fun _ => 0) (fun _ => 0) (fun _ => some 0) (fun _ => 0) (fun _ => 0) 0 0 (cle (fun _ => some 0) 1536) (fun _ => false) (cle (fun _ => some 0) 864) (fun _ => some 0) hlf (nI 0) (nI 0) (nI 0) (Or.inl (fun j _ _ => rfl))) (cwV 3 hts gL_asks_X0_missing rfl rfl rfl (by decide +kernel) ⟨Nat.le_of_ble_eq_true rfl, Nat.le_of_ble_eq_true rfl⟩) ⟨tP_blind, va_recv hK hP (ci := 0) (q0 := 0) rfl rfl, tP_pre hP hK hE⟩ rfl rfl hl.1 rfl (lv_room (Nat.le_of_ble_eq_true rfl)) dL_asks_58 ⟨Nat.le_of_ble_eq_true rfl, Nat.le_of_ble_eq_true rfl⟩) (fun H ce q9 h1 h2 h3 h4 h5 => ?_)
  obtain ⟨t0, ht0, htab⟩ := tab_c htab
  refine vx_catch (own := RL) (name := "java/lang/IndexOutOfBoundsException") (E := "java/lang/IndexOutOfBoundsException") hown [] ⟨0, 96, 97, 52⟩ t0 ht0 (fun z hz => by cases hz) (by decide) (by decide) (hts (.classLink RL 52 "java/lang/IndexOutOfBoundsException") (by decide +kernel)) (va_Nw.use rfl (hE.2.2.2.1 "java/lang/IndexOutOfBoundsException" (by decide))) h3 h4 h5 ?_
  refine lv_astore (lv' := [(6, .ref q9), (0, .ref h), (1, .int (nI 3)), (2, .int (nI 0)), (3, .int (nI 0)), (4, .int (nI 0)), (5, .int (nI 0))]) hx hb dL_asks_97 hl (by decide) rfl (fun ls hl => ?_)
  refine lv_bipush (v := (-30)) hx hb dL_asks_99 (by decide) ?_
  exact q_rret hx hb hr hlocks h1 h2 dL_asks_101

set_option maxHeartbeats 4000000 in
set_option maxRecDepth 100000 in
theorem kL_does9 (l : Launch) (D : va_G) (h : Nat) (ad : Nat → Nat) (cI cZ : ClassId) (hlf : l.stackTraces = false) : Met l yL_does wsL_does ({ frames := 8, cells := 1, slots := 6, locals := 125 } : Room) (tP D (hWi h ad cI cZ) (hT cI cZ) [.ref h, .int (nI 9), .int (nI 3), .int (nI 0), .int (nI 0)]) (rQ (.int (-30)) 1) 1 6 nF := by
  refine mt_ofWH (cc := cL_does) (maxL := 6) (ret := (some .int)) (by decide) rfl ?_
  intro p e s m args below meth c s₁ B hml htab hv
  obtain ⟨rfl, hP, hK, hE⟩ := hv
  have hx := B.exec
  have hb := B.bytes
  have hr := B.returns
  have hts := atoms_spec (ws := wsL_does) B.pre
  have hown : s.vm.findClass RL = some m.cls := findClass_of_methodNamed B.named
  have hlocks := B.notSynchronized
  have hl := lv_entry ([.ref h, .int (nI 9), .int (nI 3), .int (nI 0), .int (nI 0)]) (n := 6) (Nat.le_of_ble_eq_true rfl)
  rw [lg_entry_eq]
  generalize (lg_sl ([.ref h, .int (nI 9), .int (nI 3), .int (nI 0), .int (nI 0)]) ++ List.replicate (6 - (lg_sl ([.ref h, .int (nI 9), .int (nI 3), .int (nI 0), .int (nI 0)])).length) Slot.unset).toArray = ls at hl ⊢
  have hl : lv_has ls 6 [(0, .ref h), (1, .int (nI 9)), (2, .int (nI 3)), (3, .int (nI 0)), (4, .int (nI 0))] := hl
  refine lv_iload_n hx hb dL_does_0 rfl (lv_at hl 1 rfl) ?_
  refine lv_if_ne (tgt := 12) hx hb dL_does_1 (by decide) (fun _ => ?_) (fun z => (show False by revert z; decide).elim)
  refine lv_iload_n hx hb dL_does_12 rfl (lv_at hl 1 rfl) ?_
  refine lv_iconst (v := (nI 1)) hx hb dL_does_13 (by decide) ?_
  refine lv_icmp_ne (tgt := 26) hx hb dL_does_14 (by decide) (fun _ => ?_) (fun z => (show False by revert z; decide).elim)
  refine lv_iload_n hx hb dL_does_26 rfl (lv_at hl 1 rfl) ?_
  refine lv_iconst (v := (nI 2)) hx hb dL_does_27 (by decide) ?_
  refine lv_icmp_ne (tgt := 39) hx hb dL_does_28 (by decide) (fun _ => ?_) (fun z => (show False by revert z; decide).elim)
  refine lv_iload_n hx hb dL_does_39 rfl (lv_at hl 1 rfl) ?_
  refine lv_iconst (v := (nI 3)) hx hb dL_does_40 (by decide) ?_
  refine lv_icmp_ne (tgt := 55) hx hb dL_does_41 (by decide) (fun _ => ?_) (fun z => (show False by revert z; decide).elim)
  refine lv_iload_n hx hb dL_does_55 rfl (lv_at hl 1 rfl) ?_
  refine lv_iconst (v := (nI 4)) hx hb dL_does_56 (by decide) ?_
  refine lv_icmp_ne (tgt := 69) hx hb dL_does_57 (by decide) (fun _ => ?_) (fun z => (show False by revert z; decide).elim)
  refine lv_iload_n hx hb dL_does_69 rfl (lv_at hl 1 rfl) ?_
  refine lv_iconst (v := (nI 5)) hx hb dL_does_70 (by decide) ?_
  refine lv_icmp_ne (tgt := 90) hx hb dL_does_71 (by decide) (fun _ => ?_) (fun z => (show False by revert z; decide).elim)
  refine lv_iload_n hx hb dL_does_90 rfl (lv_at hl 1 rfl) ?_
  refine lv_bipush (v := (nI 6)) hx hb dL_does_91 (by decide) ?_
  refine lv_icmp_ne (tgt := 112) hx hb dL_does_93 (by decide) (fun _ => ?_) (fun z => (show False by revert z; decide).elim)
  refine lv_iload_n hx hb dL_does_112 rfl (lv_at hl 1 rfl) ?_
  refine lv_bipush (v := (nI 7)) hx hb dL_does_113 (by decide) ?_
  refine lv_icmp_ne (tgt := 126) hx hb dL_does_115 (by decide) (fun _ => ?_) (fun z => (show False by revert z; decide).elim)
  refine lv_iload_n hx hb dL_does_126 rfl (lv_at hl 1 rfl) ?_
  refine lv_bipush (v := (nI 8)) hx hb dL_does_127 (by decide) ?_
  refine lv_icmp_ne (tgt := 149) hx hb dL_does_129 (by decide) (fun _ => ?_) (fun z => (show False by revert z; decide).elim)
  refine lv_aload_n hx hb dL_does_149 rfl (lv_at hl 0 rfl) ?_
  refine lv_iload_n hx hb dL_does_150 rfl (lv_at hl 2 rfl) ?_
  refine q_catchS (vx_runV (As := [.int (nI 3)]) (rest := []) ⟨hx, hb, hml, hown, hts⟩ (kX0_feedXI l D h ad cI cZ (fun _ => false) (cle (fun _ => some 0) 16) (fun _ => 0) (fun _ => 0) 0 (fun _ => 0) (fun _ => 0) (fun _ => some 0) (fun _ => 0) (fun _ => 0) 0 0 (cle (fun _ => some 0) 1536) (fun _ => false) (cle (fun _ => some 0) 864) (fun _ => some 0) hlf (nI 3) (Or.inr (by decide))) (cwV 1 hts gL_does_X0_feed rfl rfl rfl (by decide +kernel) ⟨Nat.le_of_ble_eq_true rfl, Nat.le_of_ble_eq_true rfl⟩) ⟨tP_blind, va_recv hK hP (ci := 0) (q0 := 0) rfl rfl, tP_pre hP hK hE⟩ rfl rfl hl.1 rfl (lv_room (Nat.le_of_ble_eq_true rfl)) dL_does_151 ⟨Nat.le_of_ble_eq_true rfl, Nat.le_of_ble_eq_true rfl⟩) (fun H ce q9 h1 h2 h3 h4 h5 => ?_)
  obtain ⟨t0, ht0, htab⟩ := tab_c htab
  refine vx_catch (own := RL) (name := "java/lang/IndexOutOfBoundsException") (E := "java/lang/IndexOutOfBoundsException") hown [] ⟨0, 154, 155, 52⟩ t0 ht0 (fun z hz => by cases hz) (by decide) (by decide) (hts (.classLink RL 52 "java/lang/IndexOutOfBoundsException") (by decide +kernel)) (va_Nw.use rfl (hE.2.2.2.1 "java/lang/IndexOutOfBoundsException" (by decide))) h3 h4 h5 ?_
  refine lv_astore (lv' := [(5, .ref q9), (0, .ref h), (1, .int (nI 9)), (2, .int (nI 3)), (3, .int (nI 0)), (4, .int (nI 0))]) hx hb dL_does_155 hl (by decide) rfl (fun ls hl => ?_)
  refine lv_bipush (v := (-30)) hx hb dL_does_157 (by decide) ?_
  exact q_rret hx hb hr hlocks h1 h2 dL_does_159
