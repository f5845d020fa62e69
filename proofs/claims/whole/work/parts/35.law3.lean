set_option maxHeartbeats 8000000 in
set_option maxRecDepth 100000 in
theorem lc_approve {p : Program} {l : Launch} {e : Env} {s : State} {m : MethodId} {below : List Frame} {meth : Method} {c : Code} {b L : Nat} {xs : Nat → Int32} {D : va_G} {cI cJ cZ : ClassId} {h : Nat} {ad : Nat → Nat} {h2 : Nat} {ad2 : Nat → Nat} {ob : Nat} (X0 : LCX p s m meth c b L xs D cI cJ cZ) (hlf : l.stackTraces = false) {i n cells slots : Nat} (hi : i + 7 ≤ L) (hL : L ≤ 3584) (hn : n ≤ 512) (hrc : cells + 1 ≤ 1078) (hrs : slots + 6 ≤ 14711) (K : LK p l e s m below meth c b D cI cJ cZ h ad h2 ad2 ob i (cells + 1) (slots + 6) (n + 1))
    (f : Nat → Int64) (lev : Nat → Nat) (ex : Nat → Bool) (pa mpa : Nat → Option Nat) (di qu mu : Nat → Nat) (gc : Nat) (dg dp da : Nat → Nat) (dh dt dv : Nat → Option Nat) (dd ds ms : Nat → Nat) (dc td : Nat) (ho : Nat → Option Nat) (ak : Nat → Bool) (se pr mr : Nat → Option Nat) (th : Nat) (hI : LI n lev ex pa mpa di qu mu gc dg dp da dh dt dv dd ds ms dc td ho se pr mr) (H : Heap) (locs : List Loc) (hP : va_P D vwCl (((hW h ad cI cZ ex pa di qu gc dg dp dv dd ds dc td ho ak se pr) ++ [(ob, .inl (cJ, 1, .inr (.inl f)))]) ++ (mW h2 ad2 cI cJ cZ td gc ex mpa di mu dc dg da dh dt dv dd ms ak se mr th)) H) (hD : va_D (fun q : Nat => s.heap.size ≤ q) (((hW h ad cI cZ ex pa di qu gc dg dp dv dd ds dc td ho ak se pr) ++ [(ob, .inl (cJ, 1, .inr (.inl f)))]) ++ (mW h2 ad2 cI cJ cZ td gc ex mpa di mu dc dg da dh dt dv dd ms ak se mr th))) (hS : va_S (fun q : Nat => s.heap.size ≤ q) s.heap H locs) (ls : Array Slot) (hl : lv_has ls 7 [(4, .int (nI i)), (0, .ref b), (1, .ref h), (2, .ref h2), (3, .ref ob)]) : W p l e room_1 s m #[Value.ref b] below meth c H locs cells slots (lw_Z below #[Value.ref b] s) (F0 m 554 ls []) := by
  obtain ⟨C0, hK, hE, hN⟩ := X0
  obtain ⟨hx, hb, hr, hml, hown, hts0, hX, hbl, hlocks, -⟩ := id C0
  have hts : ∀ w ∈ wsL_law, w.before #[Value.ref b] s = true := fun w hw => hts0 w (wsL_law_in w hw)
  have hA : ∀ q : Nat, s.heap.size ≤ q → (fun q : Nat => s.heap.size ≤ q) q := fun _ h => h
  have hbA : ¬ (fun q : Nat => s.heap.size ≤ q) b := Nat.not_le.mpr hbl
  have hrc0 : cells ≤ 1078 := by omega
  have hrs0 : slots ≤ 14711 := by omega
  obtain ⟨hT, hQ, hB, hSR, hPP, hPM, htd, hmz⟩ := hI
  obtain ⟨hti, hme, hpr, hmpr, hpn, hgc, hxg⟩ := id hT
  have htim : TI ex mpa lev := TI_cong hme hti
  obtain ⟨hdi, hqu, hmu, hPT, hmu0⟩ := id hQ
  obtain ⟨hrd, hDR, hds, hho, hdv, hdgc⟩ := id hB
  have hHO := BR_HO hB
  have hRH := BR_RH hB
  have hdp := BR_dp hB
  obtain ⟨hdc, htdl, hdg, hda, hdh, hdt, hdd, hms2⟩ := id hrd
  rcases k_ix dc (by omega) (xs (i + 1)) with hd | ⟨d, hd, e1⟩
  · refine lv_aload_n hx hb dL_law_554 rfl (lv_at hl 2 rfl) ?_
    refine lq_arg (k := 1) (y := xs (i + 1)) hx hb hX hbl hbA hS hl 1 0 rfl rfl (show i + 1 < L by omega) (by omega) (by decide) (rfl) dL_law_555 dL_law_556 dL_law_558 dL_law_559 dL_law_560 ?_
    refine lv_aload_n hx hb dL_law_561 rfl (lv_at hl 4 rfl) ?_
    refine q_ecall (k := 1) (vx_runSW (As := [.ref h, .int (xs (i + 1)), .ref ob]) (rest := []) ⟨hx, hb, hml, hown, hts⟩ (kL_approveXI l D h ad cI cZ ex pa di qu gc dg dp dv dd ds dc td ho ak se pr hlf ob (xs (i + 1)) (hd.elim Or.inl (fun z => Or.inr (Or.inl z))) hdc) (vx_cwSW 3 hts gL_law_L_approve rfl rfl rfl (by decide +kernel) ⟨Nat.le_of_ble_eq_true rfl, Nat.le_of_ble_eq_true rfl⟩) ⟨tN_blind, tN_pre (va_Pl (va_Pl hP)) (hK.sub [0, 1] rfl) (tEA_at hE hS) hN⟩ rfl rfl hl.1 rfl (lv_room (Nat.le_of_ble_eq_true rfl)) dL_law_562 ⟨hrc, hrs⟩) hP hS (fun H hP hS => ?_)
    refine lv_istore (lv' := [(5, .int (nI 1)), (4, .int (nI i)), (0, .ref b), (1, .ref h), (2, .ref h2), (3, .ref ob)]) hx hb dL_law_565 hl (by decide) rfl (fun ls hl => ?_)
    refine lv_aload_n hx hb dL_law_567 rfl (lv_at hl 4 rfl) ?_
    refine lq_arg (k := 1) (y := xs (i + 1)) hx hb hX hbl hbA hS hl 2 1 rfl rfl (show i + 1 < L by omega) (by omega) (by decide) (rfl) dL_law_568 dL_law_569 dL_law_571 dL_law_572 dL_law_573 ?_
    have hP := va_Psw hP
    have hD := va_Dsw hD
    refine q_wcallFI (wa' := (mW h2 ad2 cI cJ cZ td gc ex mpa di mu dc dg da dh dt dv dd ms ak se mr 1)) (wb := ((hW h ad cI cZ ex pa di qu gc dg dp dv dd ds dc td ho ak se pr) ++ [(ob, .inl (cJ, 1, .inr (.inl f)))])) (r := bI false) (va_runV (As := [.int (xs (i + 1))]) (rest := []) ⟨hx, hb, hml, hown, hts⟩ (kX1_approve1 l D h2 ad2 cI cJ cZ td gc ex mpa di mu dc dg da dh dt dv dd ms ak se mr th _ (xs (i + 1)) hrd (Or.inl hd)) (cwV 1 hts gL_law_X1_approve rfl rfl rfl (by decide +kernel) ⟨Nat.le_of_ble_eq_true rfl, Nat.le_of_ble_eq_true rfl⟩) ⟨wP_blind, va_recv hK (va_Pl hP) (ci := 1) (q0 := 0) rfl rfl, wP_pre (va_Pl hP) hK (va_Dl hD)⟩ rfl rfl hl.1 rfl (lv_room (Nat.le_of_ble_eq_true rfl)) dL_law_574 ⟨hrc, hrs⟩) hP hD hS hA rfl (fun H locs hP hD hS => ?_)
    refine lv_istore (lv' := [(6, .int (bI false)), (5, .int (nI 1)), (4, .int (nI i)), (0, .ref b), (1, .ref h), (2, .ref h2), (3, .ref ob)]) hx hb dL_law_577 hl (by decide) rfl (fun ls hl => ?_)
    refine lv_aload_n hx hb dL_law_579 rfl (lv_at hl 5 rfl) ?_
    refine q_callI (r := nI 1) (va_runV (As := []) (rest := []) ⟨hx, hb, hml, hown, hts⟩ (kX1_thrown l D h2 ad2 cI cJ cZ td gc ex mpa di mu dc dg da dh dt dv dd ms ak se mr 1) (cwV 0 hts gL_law_X1_thrown rfl rfl rfl (by decide +kernel) ⟨Nat.le_of_ble_eq_true rfl, Nat.le_of_ble_eq_true rfl⟩) ⟨pP_blind, va_recv hK (va_Pl hP) (ci := 1) (q0 := 0) rfl rfl, pP_pre (va_Pl hP) hK⟩ rfl rfl hl.1 rfl (lv_room (Nat.le_of_ble_eq_true rfl)) dL_law_580 ⟨hrc, hrs⟩) ?_
    refine lv_iload hx hb dL_law_583 (lv_at hl 1 rfl) ?_
    refine lv_icmp_eq (tgt := 590) hx hb dL_law_585 (by decide) (fun _ => ?_) (fun z => absurd rfl z)
    refine lv_iload hx hb dL_law_590 (lv_at hl 1 rfl) ?_
    refine lv_if_ne (tgt := 614) hx hb dL_law_592 (by decide) (fun _ => ?_) (fun z => absurd z (by decide))
    have hP := va_Psw hP
    have hD := va_Dsw hD
    refine lv_goto (tgt := 1367) hx hb dL_law_614 (by decide) ?_
    exact K f lev ex pa mpa di qu mu gc dg dp da dh dt dv dd ds ms dc td ho ak se pr mr 1 H locs ls ⟨hT, hQ, hB, hSR, hPP, hPM, by omega, hmz⟩ hP hD hS (lv_sub hl [2, 3, 4, 5, 6] rfl)
  · cases hex : ex (dg d)
    · refine lv_aload_n hx hb dL_law_554 rfl (lv_at hl 2 rfl) ?_
      refine lq_arg (k := 1) (y := xs (i + 1)) hx hb hX hbl hbA hS hl 1 0 rfl rfl (show i + 1 < L by omega) (by omega) (by decide) (rfl) dL_law_555 dL_law_556 dL_law_558 dL_law_559 dL_law_560 ?_
      refine lv_aload_n hx hb dL_law_561 rfl (lv_at hl 4 rfl) ?_
      refine q_ecall (k := 1) (vx_runSW (As := [.ref h, .int (xs (i + 1)), .ref ob]) (rest := []) ⟨hx, hb, hml, hown, hts⟩ (kL_approveXI l D h ad cI cZ ex pa di qu gc dg dp dv dd ds dc td ho ak se pr hlf ob (xs (i + 1)) (Or.inr (Or.inr ⟨d, hd, e1, hDR.2.2 d hd hex⟩)) hdc) (vx_cwSW 3 hts gL_law_L_approve rfl rfl rfl (by decide +kernel) ⟨Nat.le_of_ble_eq_true rfl, Nat.le_of_ble_eq_true rfl⟩) ⟨tN_blind, tN_pre (va_Pl (va_Pl hP)) (hK.sub [0, 1] rfl) (tEA_at hE hS) hN⟩ rfl rfl hl.1 rfl (lv_room (Nat.le_of_ble_eq_true rfl)) dL_law_562 ⟨hrc, hrs⟩) hP hS (fun H hP hS => ?_)
      refine lv_istore (lv' := [(5, .int (nI 1)), (4, .int (nI i)), (0, .ref b), (1, .ref h), (2, .ref h2), (3, .ref ob)]) hx hb dL_law_565 hl (by decide) rfl (fun ls hl => ?_)
      refine lv_aload_n hx hb dL_law_567 rfl (lv_at hl 4 rfl) ?_
      refine lq_arg (k := 1) (y := xs (i + 1)) hx hb hX hbl hbA hS hl 2 1 rfl rfl (show i + 1 < L by omega) (by omega) (by decide) (rfl) dL_law_568 dL_law_569 dL_law_571 dL_law_572 dL_law_573 ?_
      have hP := va_Psw hP
      have hD := va_Dsw hD
      refine q_wcallFI (wa' := (mW h2 ad2 cI cJ cZ td gc ex mpa di mu dc dg da dh dt dv dd ms ak se mr 1)) (wb := ((hW h ad cI cZ ex pa di qu gc dg dp dv dd ds dc td ho ak se pr) ++ [(ob, .inl (cJ, 1, .inr (.inl f)))])) (r := bI false) (va_runV (As := [.int (xs (i + 1))]) (rest := []) ⟨hx, hb, hml, hown, hts⟩ (kX1_approve1 l D h2 ad2 cI cJ cZ td gc ex mpa di mu dc dg da dh dt dv dd ms ak se mr th _ (xs (i + 1)) hrd (Or.inr ⟨d, hd, e1, hex⟩)) (cwV 1 hts gL_law_X1_approve rfl rfl rfl (by decide +kernel) ⟨Nat.le_of_ble_eq_true rfl, Nat.le_of_ble_eq_true rfl⟩) ⟨wP_blind, va_recv hK (va_Pl hP) (ci := 1) (q0 := 0) rfl rfl, wP_pre (va_Pl hP) hK (va_Dl hD)⟩ rfl rfl hl.1 rfl (lv_room (Nat.le_of_ble_eq_true rfl)) dL_law_574 ⟨hrc, hrs⟩) hP hD hS hA rfl (fun H locs hP hD hS => ?_)
      refine lv_istore (lv' := [(6, .int (bI false)), (5, .int (nI 1)), (4, .int (nI i)), (0, .ref b), (1, .ref h), (2, .ref h2), (3, .ref ob)]) hx hb dL_law_577 hl (by decide) rfl (fun ls hl => ?_)
      refine lv_aload_n hx hb dL_law_579 rfl (lv_at hl 5 rfl) ?_
      refine q_callI (r := nI 1) (va_runV (As := []) (rest := []) ⟨hx, hb, hml, hown, hts⟩ (kX1_thrown l D h2 ad2 cI cJ cZ td gc ex mpa di mu dc dg da dh dt dv dd ms ak se mr 1) (cwV 0 hts gL_law_X1_thrown rfl rfl rfl (by decide +kernel) ⟨Nat.le_of_ble_eq_true rfl, Nat.le_of_ble_eq_true rfl⟩) ⟨pP_blind, va_recv hK (va_Pl hP) (ci := 1) (q0 := 0) rfl rfl, pP_pre (va_Pl hP) hK⟩ rfl rfl hl.1 rfl (lv_room (Nat.le_of_ble_eq_true rfl)) dL_law_580 ⟨hrc, hrs⟩) ?_
      refine lv_iload hx hb dL_law_583 (lv_at hl 1 rfl) ?_
      refine lv_icmp_eq (tgt := 590) hx hb dL_law_585 (by decide) (fun _ => ?_) (fun z => absurd rfl z)
      refine lv_iload hx hb dL_law_590 (lv_at hl 1 rfl) ?_
      refine lv_if_ne (tgt := 614) hx hb dL_law_592 (by decide) (fun _ => ?_) (fun z => absurd z (by decide))
      have hP := va_Psw hP
      have hD := va_Dsw hD
      refine lv_goto (tgt := 1367) hx hb dL_law_614 (by decide) ?_
      exact K f lev ex pa mpa di qu mu gc dg dp da dh dt dv dd ds ms dc td ho ak se pr mr 1 H locs ls ⟨hT, hQ, hB, hSR, hPP, hPM, by omega, hmz⟩ hP hD hS (lv_sub hl [2, 3, 4, 5, 6] rfl)
    · have hds1 := hDR.2.1 d hd hex
      have hds2 := hrd.2.2.2.2.2.2.2 d hd
      by_cases hz : ms d = 0
      · have hB' := BR_set (u := 1) hB hd hex (by decide)
        refine lv_aload_n hx hb dL_law_554 rfl (lv_at hl 2 rfl) ?_
        refine lq_arg (k := 1) (y := nI d) hx hb hX hbl hbA hS hl 1 0 rfl rfl (show i + 1 < L by omega) (by omega) (by decide) (e1) dL_law_555 dL_law_556 dL_law_558 dL_law_559 dL_law_560 ?_
        refine lv_aload_n hx hb dL_law_561 rfl (lv_at hl 4 rfl) ?_
        refine q_wcallFI (wa' := ((hW h ad cI cZ ex pa di qu gc dg dp dv dd (va_up ds d 2) dc td (stl ho (va_up ds d 2) dd dp td dc) ak se pr) ++ [(ob, .inl (cJ, 1, .inr (.inl (vp_updL f 0 (bL (decide (stl ho (va_up ds d 2) dd dp td dc (dp d) = some d)))))))])) (wb := (mW h2 ad2 cI cJ cZ td gc ex mpa di mu dc dg da dh dt dv dd ms ak se mr th)) (r := nI 0) (vx_runSW (As := [.ref h, .int (nI d), .ref ob]) (rest := []) ⟨hx, hb, hml, hown, hts⟩ (kL_approve l D h ad cI cZ ex pa di qu gc dg dp dv dd ds dc td ho ak se pr cJ ob f _ d hd (by omega) hdc htdl hdp hdd hds ) (vx_cwSW 3 hts gL_law_L_approve rfl rfl rfl (by decide +kernel) ⟨Nat.le_of_ble_eq_true rfl, Nat.le_of_ble_eq_true rfl⟩) ⟨wP_blind, wP_pre (va_Pl hP) hK (va_Dl hD)⟩ rfl rfl hl.1 rfl (lv_room (Nat.le_of_ble_eq_true rfl)) dL_law_562 ⟨hrc0, hrs0⟩) hP hD hS hA rfl (fun H locs hP hD hS => ?_)
        refine lv_istore (lv' := [(5, .int (nI 0)), (4, .int (nI i)), (0, .ref b), (1, .ref h), (2, .ref h2), (3, .ref ob)]) hx hb dL_law_565 hl (by decide) rfl (fun ls hl => ?_)
        refine lv_aload_n hx hb dL_law_567 rfl (lv_at hl 4 rfl) ?_
        refine lq_arg (k := 1) (y := nI d) hx hb hX hbl hbA hS hl 2 1 rfl rfl (show i + 1 < L by omega) (by omega) (by decide) (e1) dL_law_568 dL_law_569 dL_law_571 dL_law_572 dL_law_573 ?_
        have hP := va_Psw hP
        have hD := va_Dsw hD
        refine q_wcallFI (wa' := (mW h2 ad2 cI cJ cZ td gc ex mpa di mu dc dg da dh dt dv dd (va_up ms d 1) ak se mr 0)) (wb := ((hW h ad cI cZ ex pa di qu gc dg dp dv dd (va_up ds d 2) dc td (stl ho (va_up ds d 2) dd dp td dc) ak se pr) ++ [(ob, .inl (cJ, 1, .inr (.inl (vp_updL f 0 (bL (decide (stl ho (va_up ds d 2) dd dp td dc (dp d) = some d)))))))])) (r := bI (decide (bst (rdf dg da dh dt (va_up ms d 1) dd td (dg d) (da d) (dh d) (dt d)) dd dc = some d))) (va_runV (As := [.int (nI d)]) (rest := []) ⟨hx, hb, hml, hown, hts⟩ (kX1_approve l D h2 ad2 cI cJ cZ td gc ex mpa di mu dc dg da dh dt dv dd ms ak se mr th _ d hd hrd hex hz) (cwV 1 hts gL_law_X1_approve rfl rfl rfl (by decide +kernel) ⟨Nat.le_of_ble_eq_true rfl, Nat.le_of_ble_eq_true rfl⟩) ⟨wP_blind, va_recv hK (va_Pl hP) (ci := 1) (q0 := 0) rfl rfl, wP_pre (va_Pl hP) hK (va_Dl hD)⟩ rfl rfl hl.1 rfl (lv_room (Nat.le_of_ble_eq_true rfl)) dL_law_574 ⟨hrc0, hrs0⟩) hP hD hS hA rfl (fun H locs hP hD hS => ?_)
        refine lv_istore (lv' := [(6, .int (bI (decide (bst (rdf dg da dh dt (va_up ms d 1) dd td (dg d) (da d) (dh d) (dt d)) dd dc = some d)))), (5, .int (nI 0)), (4, .int (nI i)), (0, .ref b), (1, .ref h), (2, .ref h2), (3, .ref ob)]) hx hb dL_law_577 hl (by decide) rfl (fun ls hl => ?_)
        refine lv_aload_n hx hb dL_law_579 rfl (lv_at hl 5 rfl) ?_
        refine q_callI (r := nI 0) (va_runV (As := []) (rest := []) ⟨hx, hb, hml, hown, hts⟩ (kX1_thrown l D h2 ad2 cI cJ cZ td gc ex mpa di mu dc dg da dh dt dv dd (va_up ms d 1) ak se mr 0) (cwV 0 hts gL_law_X1_thrown rfl rfl rfl (by decide +kernel) ⟨Nat.le_of_ble_eq_true rfl, Nat.le_of_ble_eq_true rfl⟩) ⟨pP_blind, va_recv hK (va_Pl hP) (ci := 1) (q0 := 0) rfl rfl, pP_pre (va_Pl hP) hK⟩ rfl rfl hl.1 rfl (lv_room (Nat.le_of_ble_eq_true rfl)) dL_law_580 ⟨hrc0, hrs0⟩) ?_
        refine lv_iload hx hb dL_law_583 (lv_at hl 1 rfl) ?_
        refine lv_icmp_eq (tgt := 590) hx hb dL_law_585 (by decide) (fun _ => ?_) (fun z => absurd rfl z)
        refine lv_iload hx hb dL_law_590 (lv_at hl 1 rfl) ?_
        refine lv_if_ne (tgt := 614) hx hb dL_law_592 (by decide) (fun z => absurd (by decide) z) (fun _ => ?_)
        refine lv_aload_n hx hb dL_law_595 rfl (lv_at hl 6 rfl) ?_
        refine lv_iconst (v := nI 0) hx hb dL_law_596 (by decide) ?_
        refine va_lald hx hb hK (va_Pr hP) 14 2 rfl rfl (vp_in_nI (by decide) (by decide)) dL_law_597 ?_
        refine q_topL (y := (bL (decide (stl ho (va_up ds d 2) dd dp td dc (dp d) = some d)))) vpU ?_
        refine lv_iload hx hb dL_law_598 (lv_at hl 0 rfl) ?_
        have heq : (bL (decide (stl ho (va_up ds d 2) dd dp td dc (dp d) = some d))) = bL (decide (bst (rdf dg da dh dt (va_up ms d 1) dd td (dg d) (da d) (dh d) (dt d)) dd dc = some d)) := by rw [BR_RH hB' (dg d) (da d) (dh d) (dt d) (hdg d hd) hex (hda d hd) (hdh d hd) (hdt d hd), ← hDR.1 d hd]
        refine q_ifB_eq (b := decide (bst (rdf dg da dh dt (va_up ms d 1) dd td (dg d) (da d) (dh d) (dt d)) dd dc = some d)) (tgt := 607) hx hb dL_law_600 (by decide) (fun k1 => ?_) (fun k1 => ?_)
        · refine lv_lconst (v := 0) hx hb dL_law_607 (by decide) ?_
          refine q_topL (y := (bL (decide (stl ho (va_up ds d 2) dd dp td dc (dp d) = some d)))) (by rw [heq, k1]; decide) ?_
          refine W.lcmp hx hb dL_law_608 ?_
          refine lv_if_eq (tgt := 614) hx hb dL_law_609 (by decide) (fun _ => ?_) (fun z => absurd ((lg_cmp_eq _ _).mpr rfl) z)
          have hP := va_Psw hP
          have hD := va_Dsw hD
          refine lv_goto (tgt := 1367) hx hb dL_law_614 (by decide) ?_
          refine W.widen (k := cells + 1) (n := slots + 6) (by omega) (by omega) ?_
          exact K (vp_updL f 0 (bL (decide (stl ho (va_up ds d 2) dd dp td dc (dp d) = some d)))) lev ex pa mpa di qu mu gc dg dp da dh dt dv dd (va_up ds d 2) (va_up ms d 1) dc td (stl ho (va_up ds d 2) dd dp td dc) ak se pr mr 0 H locs ls ⟨hT, hQ, hB', hSR, hPP, hPM, by omega, fun k hk => by rw [up_ne _ _ (show k ≠ d by omega)]; exact hmz k hk⟩ hP hD hS (lv_sub hl [2, 3, 4, 5, 6] rfl)
        · refine lv_lconst (v := 1) hx hb dL_law_603 (by decide) ?_
          refine q_topL (y := (bL (decide (stl ho (va_up ds d 2) dd dp td dc (dp d) = some d)))) (by rw [heq, k1]; decide) ?_
          refine lv_goto (tgt := 608) hx hb dL_law_604 (by decide) ?_
          refine W.lcmp hx hb dL_law_608 ?_
          refine lv_if_eq (tgt := 614) hx hb dL_law_609 (by decide) (fun _ => ?_) (fun z => absurd ((lg_cmp_eq _ _).mpr rfl) z)
          have hP := va_Psw hP
          have hD := va_Dsw hD
          refine lv_goto (tgt := 1367) hx hb dL_law_614 (by decide) ?_
          refine W.widen (k := cells + 1) (n := slots + 6) (by omega) (by omega) ?_
          exact K (vp_updL f 0 (bL (decide (stl ho (va_up ds d 2) dd dp td dc (dp d) = some d)))) lev ex pa mpa di qu mu gc dg dp da dh dt dv dd (va_up ds d 2) (va_up ms d 1) dc td (stl ho (va_up ds d 2) dd dp td dc) ak se pr mr 0 H locs ls ⟨hT, hQ, hB', hSR, hPP, hPM, by omega, fun k hk => by rw [up_ne _ _ (show k ≠ d by omega)]; exact hmz k hk⟩ hP hD hS (lv_sub hl [2, 3, 4, 5, 6] rfl)
      · refine lv_aload_n hx hb dL_law_554 rfl (lv_at hl 2 rfl) ?_
        refine lq_arg (k := 1) (y := nI d) hx hb hX hbl hbA hS hl 1 0 rfl rfl (show i + 1 < L by omega) (by omega) (by decide) (e1) dL_law_555 dL_law_556 dL_law_558 dL_law_559 dL_law_560 ?_
        refine lv_aload_n hx hb dL_law_561 rfl (lv_at hl 4 rfl) ?_
        refine q_ecall (k := 2) (vx_runSW (As := [.ref h, .int (nI d), .ref ob]) (rest := []) ⟨hx, hb, hml, hown, hts⟩ (kL_approveXS l D h ad cI cZ ex pa di qu gc dg dp dv dd ds dc td ho ak se pr hlf ob d hd hdc (by omega) (by omega) (hds d hd)) (vx_cwSW 3 hts gL_law_L_approve rfl rfl rfl (by decide +kernel) ⟨Nat.le_of_ble_eq_true rfl, Nat.le_of_ble_eq_true rfl⟩) ⟨tN_blind, tN_pre (va_Pl (va_Pl hP)) (hK.sub [0, 1] rfl) (tEA_at hE hS) hN⟩ rfl rfl hl.1 rfl (lv_room (Nat.le_of_ble_eq_true rfl)) dL_law_562 ⟨hrc, hrs⟩) hP hS (fun H hP hS => ?_)
        refine lv_istore (lv' := [(5, .int (nI 2)), (4, .int (nI i)), (0, .ref b), (1, .ref h), (2, .ref h2), (3, .ref ob)]) hx hb dL_law_565 hl (by decide) rfl (fun ls hl => ?_)
        refine lv_aload_n hx hb dL_law_567 rfl (lv_at hl 4 rfl) ?_
        refine lq_arg (k := 1) (y := nI d) hx hb hX hbl hbA hS hl 2 1 rfl rfl (show i + 1 < L by omega) (by omega) (by decide) (e1) dL_law_568 dL_law_569 dL_law_571 dL_law_572 dL_law_573 ?_
        have hP := va_Psw hP
        have hD := va_Dsw hD
        refine q_wcallFI (wa' := (mW h2 ad2 cI cJ cZ td gc ex mpa di mu dc dg da dh dt dv dd ms ak se mr 2)) (wb := ((hW h ad cI cZ ex pa di qu gc dg dp dv dd ds dc td ho ak se pr) ++ [(ob, .inl (cJ, 1, .inr (.inl f)))])) (r := bI false) (va_runV (As := [.int (nI d)]) (rest := []) ⟨hx, hb, hml, hown, hts⟩ (kX1_approve2 l D h2 ad2 cI cJ cZ td gc ex mpa di mu dc dg da dh dt dv dd ms ak se mr th _ d hd hrd hex hz) (cwV 1 hts gL_law_X1_approve rfl rfl rfl (by decide +kernel) ⟨Nat.le_of_ble_eq_true rfl, Nat.le_of_ble_eq_true rfl⟩) ⟨wP_blind, va_recv hK (va_Pl hP) (ci := 1) (q0 := 0) rfl rfl, wP_pre (va_Pl hP) hK (va_Dl hD)⟩ rfl rfl hl.1 rfl (lv_room (Nat.le_of_ble_eq_true rfl)) dL_law_574 ⟨hrc, hrs⟩) hP hD hS hA rfl (fun H locs hP hD hS => ?_)
        refine lv_istore (lv' := [(6, .int (bI false)), (5, .int (nI 2)), (4, .int (nI i)), (0, .ref b), (1, .ref h), (2, .ref h2), (3, .ref ob)]) hx hb dL_law_577 hl (by decide) rfl (fun ls hl => ?_)
        refine lv_aload_n hx hb dL_law_579 rfl (lv_at hl 5 rfl) ?_
        refine q_callI (r := nI 2) (va_runV (As := []) (rest := []) ⟨hx, hb, hml, hown, hts⟩ (kX1_thrown l D h2 ad2 cI cJ cZ td gc ex mpa di mu dc dg da dh dt dv dd ms ak se mr 2) (cwV 0 hts gL_law_X1_thrown rfl rfl rfl (by decide +kernel) ⟨Nat.le_of_ble_eq_true rfl, Nat.le_of_ble_eq_true rfl⟩) ⟨pP_blind, va_recv hK (va_Pl hP) (ci := 1) (q0 := 0) rfl rfl, pP_pre (va_Pl hP) hK⟩ rfl rfl hl.1 rfl (lv_room (Nat.le_of_ble_eq_true rfl)) dL_law_580 ⟨hrc, hrs⟩) ?_
        refine lv_iload hx hb dL_law_583 (lv_at hl 1 rfl) ?_
        refine lv_icmp_eq (tgt := 590) hx hb dL_law_585 (by decide) (fun _ => ?_) (fun z => absurd rfl z)
        refine lv_iload hx hb dL_law_590 (lv_at hl 1 rfl) ?_
        refine lv_if_ne (tgt := 614) hx hb dL_law_592 (by decide) (fun _ => ?_) (fun z => absurd z (by decide))
        have hP := va_Psw hP
        have hD := va_Dsw hD
        refine lv_goto (tgt := 1367) hx hb dL_law_614 (by decide) ?_
        exact K f lev ex pa mpa di qu mu gc dg dp da dh dt dv dd ds ms dc td ho ak se pr mr 2 H locs ls ⟨hT, hQ, hB, hSR, hPP, hPM, by omega, hmz⟩ hP hD hS (lv_sub hl [2, 3, 4, 5, 6] rfl)

set_option maxHeartbeats 8000000 in
set_option maxRecDepth 100000 in
theorem lc_reject {p : Program} {l : Launch} {e : Env} {s : State} {m : MethodId} {below : List Frame} {meth : Method} {c : Code} {b L : Nat} {xs : Nat → Int32} {D : va_G} {cI cJ cZ : ClassId} {h : Nat} {ad : Nat → Nat} {h2 : Nat} {ad2 : Nat → Nat} {ob : Nat} (X0 : LCX p s m meth c b L xs D cI cJ cZ) (hlf : l.stackTraces = false) {i n cells slots : Nat} (hi : i + 7 ≤ L) (hL : L ≤ 3584) (hn : n ≤ 512) (hrc : cells + 1 ≤ 1078) (hrs : slots + 6 ≤ 14711) (K : LK p l e s m below meth c b D cI cJ cZ h ad h2 ad2 ob i (cells + 1) (slots + 6) (n + 1))
    (f : Nat → Int64) (lev : Nat → Nat) (ex : Nat → Bool) (pa mpa : Nat → Option Nat) (di qu mu : Nat → Nat) (gc : Nat) (dg dp da : Nat → Nat) (dh dt dv : Nat → Option Nat) (dd ds ms : Nat → Nat) (dc td : Nat) (ho : Nat → Option Nat) (ak : Nat → Bool) (se pr mr : Nat → Option Nat) (th : Nat) (hI : LI n lev ex pa mpa di qu mu gc dg dp da dh dt dv dd ds ms dc td ho se pr mr) (H : Heap) (locs : List Loc) (hP : va_P D vwCl (((hW h ad cI cZ ex pa di qu gc dg dp dv dd ds dc td ho ak se pr) ++ [(ob, .inl (cJ, 1, .inr (.inl f)))]) ++ (mW h2 ad2 cI cJ cZ td gc ex mpa di mu dc dg da dh dt dv dd ms ak se mr th)) H) (hD : va_D (fun q : Nat => s.heap.size ≤ q) (((hW h ad cI cZ ex pa di qu gc dg dp dv dd ds dc td ho ak se pr) ++ [(ob, .inl (cJ, 1, .inr (.inl f)))]) ++ (mW h2 ad2 cI cJ cZ td gc ex mpa di mu dc dg da dh dt dv dd ms ak se mr th))) (hS : va_S (fun q : Nat => s.heap.size ≤ q) s.heap H locs) (ls : Array Slot) (hl : lv_has ls 7 [(4, .int (nI i)), (0, .ref b), (1, .ref h), (2, .ref h2), (3, .ref ob)]) : W p l e room_1 s m #[Value.ref b] below meth c H locs cells slots (lw_Z below #[Value.ref b] s) (F0 m 617 ls []) := by
  obtain ⟨C0, hK, hE, hN⟩ := X0
  obtain ⟨hx, hb, hr, hml, hown, hts0, hX, hbl, hlocks, -⟩ := id C0
  have hts : ∀ w ∈ wsL_law, w.before #[Value.ref b] s = true := fun w hw => hts0 w (wsL_law_in w hw)
  have hA : ∀ q : Nat, s.heap.size ≤ q → (fun q : Nat => s.heap.size ≤ q) q := fun _ h => h
  have hbA : ¬ (fun q : Nat => s.heap.size ≤ q) b := Nat.not_le.mpr hbl
  have hrc0 : cells ≤ 1078 := by omega
  have hrs0 : slots ≤ 14711 := by omega
  obtain ⟨hT, hQ, hB, hSR, hPP, hPM, htd, hmz⟩ := hI
  obtain ⟨hti, hme, hpr, hmpr, hpn, hgc, hxg⟩ := id hT
  have htim : TI ex mpa lev := TI_cong hme hti
  obtain ⟨hdi, hqu, hmu, hPT, hmu0⟩ := id hQ
  obtain ⟨hrd, hDR, hds, hho, hdv, hdgc⟩ := id hB
  have hHO := BR_HO hB
  have hRH := BR_RH hB
  have hdp := BR_dp hB
  obtain ⟨hdc, htdl, hdg, hda, hdh, hdt, hdd, hms2⟩ := id hrd
  rcases k_ix dc (by omega) (xs (i + 1)) with hd | ⟨d, hd, e1⟩
  · refine lv_aload_n hx hb dL_law_617 rfl (lv_at hl 2 rfl) ?_
    refine lq_arg (k := 1) (y := xs (i + 1)) hx hb hX hbl hbA hS hl 1 0 rfl rfl (show i + 1 < L by omega) (by omega) (by decide) (rfl) dL_law_618 dL_law_619 dL_law_621 dL_law_622 dL_law_623 ?_
    refine lv_aload_n hx hb dL_law_624 rfl (lv_at hl 4 rfl) ?_
    refine q_ecall (k := 1) (vx_runSW (As := [.ref h, .int (xs (i + 1)), .ref ob]) (rest := []) ⟨hx, hb, hml, hown, hts⟩ (kL_rejectXI l D h ad cI cZ ex pa di qu gc dg dp dv dd ds dc td ho ak se pr hlf ob (xs (i + 1)) (hd.elim Or.inl (fun z => Or.inr (Or.inl z))) hdc) (vx_cwSW 3 hts gL_law_L_reject rfl rfl rfl (by decide +kernel) ⟨Nat.le_of_ble_eq_true rfl, Nat.le_of_ble_eq_true rfl⟩) ⟨tN_blind, tN_pre (va_Pl (va_Pl hP)) (hK.sub [0, 1] rfl) (tEA_at hE hS) hN⟩ rfl rfl hl.1 rfl (lv_room (Nat.le_of_ble_eq_true rfl)) dL_law_625 ⟨hrc, hrs⟩) hP hS (fun H hP hS => ?_)
    refine lv_istore (lv' := [(5, .int (nI 1)), (4, .int (nI i)), (0, .ref b), (1, .ref h), (2, .ref h2), (3, .ref ob)]) hx hb dL_law_628 hl (by decide) rfl (fun ls hl => ?_)
    refine lv_aload_n hx hb dL_law_630 rfl (lv_at hl 4 rfl) ?_
    refine lq_arg (k := 1) (y := xs (i + 1)) hx hb hX hbl hbA hS hl 2 1 rfl rfl (show i + 1 < L by omega) (by omega) (by decide) (rfl) dL_law_631 dL_law_632 dL_law_634 dL_law_635 dL_law_636 ?_
    have hP := va_Psw hP
    have hD := va_Dsw hD
    refine q_wcallFI (wa' := (mW h2 ad2 cI cJ cZ td gc ex mpa di mu dc dg da dh dt dv dd ms ak se mr 1)) (wb := ((hW h ad cI cZ ex pa di qu gc dg dp dv dd ds dc td ho ak se pr) ++ [(ob, .inl (cJ, 1, .inr (.inl f)))])) (r := bI false) (va_runV (As := [.int (xs (i + 1))]) (rest := []) ⟨hx, hb, hml, hown, hts⟩ (kX1_reject1 l D h2 ad2 cI cJ cZ td gc ex mpa di mu dc dg da dh dt dv dd ms ak se mr th _ (xs (i + 1)) hrd (Or.inl hd)) (cwV 1 hts gL_law_X1_reject rfl rfl rfl (by decide +kernel) ⟨Nat.le_of_ble_eq_true rfl, Nat.le_of_ble_eq_true rfl⟩) ⟨wP_blind, va_recv hK (va_Pl hP) (ci := 1) (q0 := 0) rfl rfl, wP_pre (va_Pl hP) hK (va_Dl hD)⟩ rfl rfl hl.1 rfl (lv_room (Nat.le_of_ble_eq_true rfl)) dL_law_637 ⟨hrc, hrs⟩) hP hD hS hA rfl (fun H locs hP hD hS => ?_)
    refine lv_istore (lv' := [(6, .int (bI false)), (5, .int (nI 1)), (4, .int (nI i)), (0, .ref b), (1, .ref h), (2, .ref h2), (3, .ref ob)]) hx hb dL_law_640 hl (by decide) rfl (fun ls hl => ?_)
    refine lv_aload_n hx hb dL_law_642 rfl (lv_at hl 5 rfl) ?_
    refine q_callI (r := nI 1) (va_runV (As := []) (rest := []) ⟨hx, hb, hml, hown, hts⟩ (kX1_thrown l D h2 ad2 cI cJ cZ td gc ex mpa di mu dc dg da dh dt dv dd ms ak se mr 1) (cwV 0 hts gL_law_X1_thrown rfl rfl rfl (by decide +kernel) ⟨Nat.le_of_ble_eq_true rfl, Nat.le_of_ble_eq_true rfl⟩) ⟨pP_blind, va_recv hK (va_Pl hP) (ci := 1) (q0 := 0) rfl rfl, pP_pre (va_Pl hP) hK⟩ rfl rfl hl.1 rfl (lv_room (Nat.le_of_ble_eq_true rfl)) dL_law_643 ⟨hrc, hrs⟩) ?_
    refine lv_iload hx hb dL_law_646 (lv_at hl 1 rfl) ?_
    refine lv_icmp_eq (tgt := 653) hx hb dL_law_648 (by decide) (fun _ => ?_) (fun z => absurd rfl z)
    refine lv_iload hx hb dL_law_653 (lv_at hl 1 rfl) ?_
    refine lv_if_ne (tgt := 677) hx hb dL_law_655 (by decide) (fun _ => ?_) (fun z => absurd z (by decide))
    have hP := va_Psw hP
    have hD := va_Dsw hD
    refine lv_goto (tgt := 1367) hx hb dL_law_677 (by decide) ?_
    exact K f lev ex pa mpa di qu mu gc dg dp da dh dt dv dd ds ms dc td ho ak se pr mr 1 H locs ls ⟨hT, hQ, hB, hSR, hPP, hPM, by omega, hmz⟩ hP hD hS (lv_sub hl [2, 3, 4, 5, 6] rfl)
  · cases hex : ex (dg d)
    · refine lv_aload_n hx hb dL_law_617 rfl (lv_at hl 2 rfl) ?_
      refine lq_arg (k := 1) (y := xs (i + 1)) hx hb hX hbl hbA hS hl 1 0 rfl rfl (show i + 1 < L by omega) (by omega) (by decide) (rfl) dL_law_618 dL_law_619 dL_law_621 dL_law_622 dL_law_623 ?_
      refine lv_aload_n hx hb dL_law_624 rfl (lv_at hl 4 rfl) ?_
      refine q_ecall (k := 1) (vx_runSW (As := [.ref h, .int (xs (i + 1)), .ref ob]) (rest := []) ⟨hx, hb, hml, hown, hts⟩ (kL_rejectXI l D h ad cI cZ ex pa di qu gc dg dp dv dd ds dc td ho ak se pr hlf ob (xs (i + 1)) (Or.inr (Or.inr ⟨d, hd, e1, hDR.2.2 d hd hex⟩)) hdc) (vx_cwSW 3 hts gL_law_L_reject rfl rfl rfl (by decide +kernel) ⟨Nat.le_of_ble_eq_true rfl, Nat.le_of_ble_eq_true rfl⟩) ⟨tN_blind, tN_pre (va_Pl (va_Pl hP)) (hK.sub [0, 1] rfl) (tEA_at hE hS) hN⟩ rfl rfl hl.1 rfl (lv_room (Nat.le_of_ble_eq_true rfl)) dL_law_625 ⟨hrc, hrs⟩) hP hS (fun H hP hS => ?_)
      refine lv_istore (lv' := [(5, .int (nI 1)), (4, .int (nI i)), (0, .ref b), (1, .ref h), (2, .ref h2), (3, .ref ob)]) hx hb dL_law_628 hl (by decide) rfl (fun ls hl => ?_)
      refine lv_aload_n hx hb dL_law_630 rfl (lv_at hl 4 rfl) ?_
      refine lq_arg (k := 1) (y := xs (i + 1)) hx hb hX hbl hbA hS hl 2 1 rfl rfl (show i + 1 < L by omega) (by omega) (by decide) (rfl) dL_law_631 dL_law_632 dL_law_634 dL_law_635 dL_law_636 ?_
      have hP := va_Psw hP
      have hD := va_Dsw hD
      refine q_wcallFI (wa' := (mW h2 ad2 cI cJ cZ td gc ex mpa di mu dc dg da dh dt dv dd ms ak se mr 1)) (wb := ((hW h ad cI cZ ex pa di qu gc dg dp dv dd ds dc td ho ak se pr) ++ [(ob, .inl (cJ, 1, .inr (.inl f)))])) (r := bI false) (va_runV (As := [.int (xs (i + 1))]) (rest := []) ⟨hx, hb, hml, hown, hts⟩ (kX1_reject1 l D h2 ad2 cI cJ cZ td gc ex mpa di mu dc dg da dh dt dv dd ms ak se mr th _ (xs (i + 1)) hrd (Or.inr ⟨d, hd, e1, hex⟩)) (cwV 1 hts gL_law_X1_reject rfl rfl rfl (by decide +kernel) ⟨Nat.le_of_ble_eq_true rfl, Nat.le_of_ble_eq_true rfl⟩) ⟨wP_blind, va_recv hK (va_Pl hP) (ci := 1) (q0 := 0) rfl rfl, wP_pre (va_Pl hP) hK (va_Dl hD)⟩ rfl rfl hl.1 rfl (lv_room (Nat.le_of_ble_eq_true rfl)) dL_law_637 ⟨hrc, hrs⟩) hP hD hS hA rfl (fun H locs hP hD hS => ?_)
      refine lv_istore (lv' := [(6, .int (bI false)), (5, .int (nI 1)), (4, .int (nI i)), (0, .ref b), (1, .ref h), (2, .ref h2), (3, .ref ob)]) hx hb dL_law_640 hl (by decide) rfl (fun ls hl => ?_)
      refine lv_aload_n hx hb dL_law_642 rfl (lv_at hl 5 rfl) ?_
      refine q_callI (r := nI 1) (va_runV (As := []) (rest := []) ⟨hx, hb, hml, hown, hts⟩ (kX1_thrown l D h2 ad2 cI cJ cZ td gc ex mpa di mu dc dg da dh dt dv dd ms ak se mr 1) (cwV 0 hts gL_law_X1_thrown rfl rfl rfl (by decide +kernel) ⟨Nat.le_of_ble_eq_true rfl, Nat.le_of_ble_eq_true rfl⟩) ⟨pP_blind, va_recv hK (va_Pl hP) (ci := 1) (q0 := 0) rfl rfl, pP_pre (va_Pl hP) hK⟩ rfl rfl hl.1 rfl (lv_room (Nat.le_of_ble_eq_true rfl)) dL_law_643 ⟨hrc, hrs⟩) ?_
      refine lv_iload hx hb dL_law_646 (lv_at hl 1 rfl) ?_
      refine lv_icmp_eq (tgt := 653) hx hb dL_law_648 (by decide) (fun _ => ?_) (fun z => absurd rfl z)
      refine lv_iload hx hb dL_law_653 (lv_at hl 1 rfl) ?_
      refine lv_if_ne (tgt := 677) hx hb dL_law_655 (by decide) (fun _ => ?_) (fun z => absurd z (by decide))
      have hP := va_Psw hP
      have hD := va_Dsw hD
      refine lv_goto (tgt := 1367) hx hb dL_law_677 (by decide) ?_
      exact K f lev ex pa mpa di qu mu gc dg dp da dh dt dv dd ds ms dc td ho ak se pr mr 1 H locs ls ⟨hT, hQ, hB, hSR, hPP, hPM, by omega, hmz⟩ hP hD hS (lv_sub hl [2, 3, 4, 5, 6] rfl)
    · have hds1 := hDR.2.1 d hd hex
      have hds2 := hrd.2.2.2.2.2.2.2 d hd
      by_cases hz : ms d ≠ 2
      · have hB' := BR_set (u := 2) hB hd hex (by decide)
        refine lv_aload_n hx hb dL_law_617 rfl (lv_at hl 2 rfl) ?_
        refine lq_arg (k := 1) (y := nI d) hx hb hX hbl hbA hS hl 1 0 rfl rfl (show i + 1 < L by omega) (by omega) (by decide) (e1) dL_law_618 dL_law_619 dL_law_621 dL_law_622 dL_law_623 ?_
        refine lv_aload_n hx hb dL_law_624 rfl (lv_at hl 4 rfl) ?_
        refine q_wcallFI (wa' := ((hW h ad cI cZ ex pa di qu gc dg dp dv dd (va_up ds d 3) dc td (stl ho (va_up ds d 3) dd dp td dc) ak se pr) ++ [(ob, .inl (cJ, 1, .inr (.inl (vp_updL f 0 (bL (decide (ho (dp d) = some d)))))))])) (wb := (mW h2 ad2 cI cJ cZ td gc ex mpa di mu dc dg da dh dt dv dd ms ak se mr th)) (r := nI 0) (vx_runSW (As := [.ref h, .int (nI d), .ref ob]) (rest := []) ⟨hx, hb, hml, hown, hts⟩ (kL_reject l D h ad cI cZ ex pa di qu gc dg dp dv dd ds dc td ho ak se pr cJ ob f _ d hd (by omega) (by omega) hHO hdc htdl hdp hdd hds ) (vx_cwSW 3 hts gL_law_L_reject rfl rfl rfl (by decide +kernel) ⟨Nat.le_of_ble_eq_true rfl, Nat.le_of_ble_eq_true rfl⟩) ⟨wP_blind, wP_pre (va_Pl hP) hK (va_Dl hD)⟩ rfl rfl hl.1 rfl (lv_room (Nat.le_of_ble_eq_true rfl)) dL_law_625 ⟨hrc0, hrs0⟩) hP hD hS hA rfl (fun H locs hP hD hS => ?_)
        refine lv_istore (lv' := [(5, .int (nI 0)), (4, .int (nI i)), (0, .ref b), (1, .ref h), (2, .ref h2), (3, .ref ob)]) hx hb dL_law_628 hl (by decide) rfl (fun ls hl => ?_)
        refine lv_aload_n hx hb dL_law_630 rfl (lv_at hl 4 rfl) ?_
        refine lq_arg (k := 1) (y := nI d) hx hb hX hbl hbA hS hl 2 1 rfl rfl (show i + 1 < L by omega) (by omega) (by decide) (e1) dL_law_631 dL_law_632 dL_law_634 dL_law_635 dL_law_636 ?_
        have hP := va_Psw hP
        have hD := va_Dsw hD
        refine q_wcallFI (wa' := (mW h2 ad2 cI cJ cZ td gc ex mpa di mu dc dg da dh dt dv dd (va_up ms d 2) ak se mr 0)) (wb := ((hW h ad cI cZ ex pa di qu gc dg dp dv dd (va_up ds d 3) dc td (stl ho (va_up ds d 3) dd dp td dc) ak se pr) ++ [(ob, .inl (cJ, 1, .inr (.inl (vp_updL f 0 (bL (decide (ho (dp d) = some d)))))))])) (r := bI (decide (bst (rdf dg da dh dt ms dd td (dg d) (da d) (dh d) (dt d)) dd dc = some d))) (va_runV (As := [.int (nI d)]) (rest := []) ⟨hx, hb, hml, hown, hts⟩ (kX1_reject l D h2 ad2 cI cJ cZ td gc ex mpa di mu dc dg da dh dt dv dd ms ak se mr th _ d hd hrd hex hz) (cwV 1 hts gL_law_X1_reject rfl rfl rfl (by decide +kernel) ⟨Nat.le_of_ble_eq_true rfl, Nat.le_of_ble_eq_true rfl⟩) ⟨wP_blind, va_recv hK (va_Pl hP) (ci := 1) (q0 := 0) rfl rfl, wP_pre (va_Pl hP) hK (va_Dl hD)⟩ rfl rfl hl.1 rfl (lv_room (Nat.le_of_ble_eq_true rfl)) dL_law_637 ⟨hrc0, hrs0⟩) hP hD hS hA rfl (fun H locs hP hD hS => ?_)
        refine lv_istore (lv' := [(6, .int (bI (decide (bst (rdf dg da dh dt ms dd td (dg d) (da d) (dh d) (dt d)) dd dc = some d)))), (5, .int (nI 0)), (4, .int (nI i)), (0, .ref b), (1, .ref h), (2, .ref h2), (3, .ref ob)]) hx hb dL_law_640 hl (by decide) rfl (fun ls hl => ?_)
        refine lv_aload_n hx hb dL_law_642 rfl (lv_at hl 5 rfl) ?_
        refine q_callI (r := nI 0) (va_runV (As := []) (rest := []) ⟨hx, hb, hml, hown, hts⟩ (kX1_thrown l D h2 ad2 cI cJ cZ td gc ex mpa di mu dc dg da dh dt dv dd (va_up ms d 2) ak se mr 0) (cwV 0 hts gL_law_X1_thrown rfl rfl rfl (by decide +kernel) ⟨Nat.le_of_ble_eq_true rfl, Nat.le_of_ble_eq_true rfl⟩) ⟨pP_blind, va_recv hK (va_Pl hP) (ci := 1) (q0 := 0) rfl rfl, pP_pre (va_Pl hP) hK⟩ rfl rfl hl.1 rfl (lv_room (Nat.le_of_ble_eq_true rfl)) dL_law_643 ⟨hrc0, hrs0⟩) ?_
        refine lv_iload hx hb dL_law_646 (lv_at hl 1 rfl) ?_
        refine lv_icmp_eq (tgt := 653) hx hb dL_law_648 (by decide) (fun _ => ?_) (fun z => absurd rfl z)
        refine lv_iload hx hb dL_law_653 (lv_at hl 1 rfl) ?_
        refine lv_if_ne (tgt := 677) hx hb dL_law_655 (by decide) (fun z => absurd (by decide) z) (fun _ => ?_)
        refine lv_aload_n hx hb dL_law_658 rfl (lv_at hl 6 rfl) ?_
        refine lv_iconst (v := nI 0) hx hb dL_law_659 (by decide) ?_
        refine va_lald hx hb hK (va_Pr hP) 14 2 rfl rfl (vp_in_nI (by decide) (by decide)) dL_law_660 ?_
        refine q_topL (y := (bL (decide (ho (dp d) = some d)))) vpU ?_
        refine lv_iload hx hb dL_law_661 (lv_at hl 0 rfl) ?_
        have heq : (bL (decide (ho (dp d) = some d))) = bL (decide (bst (rdf dg da dh dt ms dd td (dg d) (da d) (dh d) (dt d)) dd dc = some d)) := by rw [hRH (dg d) (da d) (dh d) (dt d) (hdg d hd) hex (hda d hd) (hdh d hd) (hdt d hd), ← hDR.1 d hd]
        refine q_ifB_eq (b := decide (bst (rdf dg da dh dt ms dd td (dg d) (da d) (dh d) (dt d)) dd dc = some d)) (tgt := 670) hx hb dL_law_663 (by decide) (fun k1 => ?_) (fun k1 => ?_)
        · refine lv_lconst (v := 0) hx hb dL_law_670 (by decide) ?_
          refine q_topL (y := (bL (decide (ho (dp d) = some d)))) (by rw [heq, k1]; decide) ?_
          refine W.lcmp hx hb dL_law_671 ?_
          refine lv_if_eq (tgt := 677) hx hb dL_law_672 (by decide) (fun _ => ?_) (fun z => absurd ((lg_cmp_eq _ _).mpr rfl) z)
          have hP := va_Psw hP
          have hD := va_Dsw hD
          refine lv_goto (tgt := 1367) hx hb dL_law_677 (by decide) ?_
          refine W.widen (k := cells + 1) (n := slots + 6) (by omega) (by omega) ?_
          exact K (vp_updL f 0 (bL (decide (ho (dp d) = some d)))) lev ex pa mpa di qu mu gc dg dp da dh dt dv dd (va_up ds d 3) (va_up ms d 2) dc td (stl ho (va_up ds d 3) dd dp td dc) ak se pr mr 0 H locs ls ⟨hT, hQ, hB', hSR, hPP, hPM, by omega, fun k hk => by rw [up_ne _ _ (show k ≠ d by omega)]; exact hmz k hk⟩ hP hD hS (lv_sub hl [2, 3, 4, 5, 6] rfl)
        · refine lv_lconst (v := 1) hx hb dL_law_666 (by decide) ?_
          refine q_topL (y := (bL (decide (ho (dp d) = some d)))) (by rw [heq, k1]; decide) ?_
          refine lv_goto (tgt := 671) hx hb dL_law_667 (by decide) ?_
          refine W.lcmp hx hb dL_law_671 ?_
          refine lv_if_eq (tgt := 677) hx hb dL_law_672 (by decide) (fun _ => ?_) (fun z => absurd ((lg_cmp_eq _ _).mpr rfl) z)
          have hP := va_Psw hP
          have hD := va_Dsw hD
          refine lv_goto (tgt := 1367) hx hb dL_law_677 (by decide) ?_
          refine W.widen (k := cells + 1) (n := slots + 6) (by omega) (by omega) ?_
          exact K (vp_updL f 0 (bL (decide (ho (dp d) = some d)))) lev ex pa mpa di qu mu gc dg dp da dh dt dv dd (va_up ds d 3) (va_up ms d 2) dc td (stl ho (va_up ds d 3) dd dp td dc) ak se pr mr 0 H locs ls ⟨hT, hQ, hB', hSR, hPP, hPM, by omega, fun k hk => by rw [up_ne _ _ (show k ≠ d by omega)]; exact hmz k hk⟩ hP hD hS (lv_sub hl [2, 3, 4, 5, 6] rfl)
      · refine lv_aload_n hx hb dL_law_617 rfl (lv_at hl 2 rfl) ?_
        refine lq_arg (k := 1) (y := nI d) hx hb hX hbl hbA hS hl 1 0 rfl rfl (show i + 1 < L by omega) (by omega) (by decide) (e1) dL_law_618 dL_law_619 dL_law_621 dL_law_622 dL_law_623 ?_
        refine lv_aload_n hx hb dL_law_624 rfl (lv_at hl 4 rfl) ?_
        refine q_ecall (k := 2) (vx_runSW (As := [.ref h, .int (nI d), .ref ob]) (rest := []) ⟨hx, hb, hml, hown, hts⟩ (kL_rejectXS l D h ad cI cZ ex pa di qu gc dg dp dv dd ds dc td ho ak se pr hlf ob d hd hdc (by omega)) (vx_cwSW 3 hts gL_law_L_reject rfl rfl rfl (by decide +kernel) ⟨Nat.le_of_ble_eq_true rfl, Nat.le_of_ble_eq_true rfl⟩) ⟨tN_blind, tN_pre (va_Pl (va_Pl hP)) (hK.sub [0, 1] rfl) (tEA_at hE hS) hN⟩ rfl rfl hl.1 rfl (lv_room (Nat.le_of_ble_eq_true rfl)) dL_law_625 ⟨hrc, hrs⟩) hP hS (fun H hP hS => ?_)
        refine lv_istore (lv' := [(5, .int (nI 2)), (4, .int (nI i)), (0, .ref b), (1, .ref h), (2, .ref h2), (3, .ref ob)]) hx hb dL_law_628 hl (by decide) rfl (fun ls hl => ?_)
        refine lv_aload_n hx hb dL_law_630 rfl (lv_at hl 4 rfl) ?_
        refine lq_arg (k := 1) (y := nI d) hx hb hX hbl hbA hS hl 2 1 rfl rfl (show i + 1 < L by omega) (by omega) (by decide) (e1) dL_law_631 dL_law_632 dL_law_634 dL_law_635 dL_law_636 ?_
        have hP := va_Psw hP
        have hD := va_Dsw hD
        refine q_wcallFI (wa' := (mW h2 ad2 cI cJ cZ td gc ex mpa di mu dc dg da dh dt dv dd ms ak se mr 2)) (wb := ((hW h ad cI cZ ex pa di qu gc dg dp dv dd ds dc td ho ak se pr) ++ [(ob, .inl (cJ, 1, .inr (.inl f)))])) (r := bI false) (va_runV (As := [.int (nI d)]) (rest := []) ⟨hx, hb, hml, hown, hts⟩ (kX1_reject2 l D h2 ad2 cI cJ cZ td gc ex mpa di mu dc dg da dh dt dv dd ms ak se mr th _ d hd hrd hex (by omega)) (cwV 1 hts gL_law_X1_reject rfl rfl rfl (by decide +kernel) ⟨Nat.le_of_ble_eq_true rfl, Nat.le_of_ble_eq_true rfl⟩) ⟨wP_blind, va_recv hK (va_Pl hP) (ci := 1) (q0 := 0) rfl rfl, wP_pre (va_Pl hP) hK (va_Dl hD)⟩ rfl rfl hl.1 rfl (lv_room (Nat.le_of_ble_eq_true rfl)) dL_law_637 ⟨hrc, hrs⟩) hP hD hS hA rfl (fun H locs hP hD hS => ?_)
        refine lv_istore (lv' := [(6, .int (bI false)), (5, .int (nI 2)), (4, .int (nI i)), (0, .ref b), (1, .ref h), (2, .ref h2), (3, .ref ob)]) hx hb dL_law_640 hl (by decide) rfl (fun ls hl => ?_)
        refine lv_aload_n hx hb dL_law_642 rfl (lv_at hl 5 rfl) ?_
        refine q_callI (r := nI 2) (va_runV (As := []) (rest := []) ⟨hx, hb, hml, hown, hts⟩ (kX1_thrown l D h2 ad2 cI cJ cZ td gc ex mpa di mu dc dg da dh dt dv dd ms ak se mr 2) (cwV 0 hts gL_law_X1_thrown rfl rfl rfl (by decide +kernel) ⟨Nat.le_of_ble_eq_true rfl, Nat.le_of_ble_eq_true rfl⟩) ⟨pP_blind, va_recv hK (va_Pl hP) (ci := 1) (q0 := 0) rfl rfl, pP_pre (va_Pl hP) hK⟩ rfl rfl hl.1 rfl (lv_room (Nat.le_of_ble_eq_true rfl)) dL_law_643 ⟨hrc, hrs⟩) ?_
        refine lv_iload hx hb dL_law_646 (lv_at hl 1 rfl) ?_
        refine lv_icmp_eq (tgt := 653) hx hb dL_law_648 (by decide) (fun _ => ?_) (fun z => absurd rfl z)
        refine lv_iload hx hb dL_law_653 (lv_at hl 1 rfl) ?_
        refine lv_if_ne (tgt := 677) hx hb dL_law_655 (by decide) (fun _ => ?_) (fun z => absurd z (by decide))
        have hP := va_Psw hP
        have hD := va_Dsw hD
        refine lv_goto (tgt := 1367) hx hb dL_law_677 (by decide) ?_
        exact K f lev ex pa mpa di qu mu gc dg dp da dh dt dv dd ds ms dc td ho ak se pr mr 2 H locs ls ⟨hT, hQ, hB, hSR, hPP, hPM, by omega, hmz⟩ hP hD hS (lv_sub hl [2, 3, 4, 5, 6] rfl)

set_option maxHeartbeats 8000000 in
set_option maxRecDepth 100000 in
theorem lc_pass {p : Program} {l : Launch} {e : Env} {s : State} {m : MethodId} {below : List Frame} {meth : Method} {c : Code} {b L : Nat} {xs : Nat → Int32} {D : va_G} {cI cJ cZ : ClassId} {h : Nat} {ad : Nat → Nat} {h2 : Nat} {ad2 : Nat → Nat} {ob : Nat} (X0 : LCX p s m meth c b L xs D cI cJ cZ) (hlf : l.stackTraces = false) {i n cells slots : Nat} (hi : i + 7 ≤ L) (hL : L ≤ 3584) (hn : n ≤ 512) (hrc : cells + 1 ≤ 1078) (hrs : slots + 6 ≤ 14711) (K : LK p l e s m below meth c b D cI cJ cZ h ad h2 ad2 ob i (cells + 1) (slots + 6) (n + 1))
    (f : Nat → Int64) (lev : Nat → Nat) (ex : Nat → Bool) (pa mpa : Nat → Option Nat) (di qu mu : Nat → Nat) (gc : Nat) (dg dp da : Nat → Nat) (dh dt dv : Nat → Option Nat) (dd ds ms : Nat → Nat) (dc td : Nat) (ho : Nat → Option Nat) (ak : Nat → Bool) (se pr mr : Nat → Option Nat) (th : Nat) (hI : LI n lev ex pa mpa di qu mu gc dg dp da dh dt dv dd ds ms dc td ho se pr mr) (H : Heap) (locs : List Loc) (hP : va_P D vwCl (((hW h ad cI cZ ex pa di qu gc dg dp dv dd ds dc td ho ak se pr) ++ [(ob, .inl (cJ, 1, .inr (.inl f)))]) ++ (mW h2 ad2 cI cJ cZ td gc ex mpa di mu dc dg da dh dt dv dd ms ak se mr th)) H) (hD : va_D (fun q : Nat => s.heap.size ≤ q) (((hW h ad cI cZ ex pa di qu gc dg dp dv dd ds dc td ho ak se pr) ++ [(ob, .inl (cJ, 1, .inr (.inl f)))]) ++ (mW h2 ad2 cI cJ cZ td gc ex mpa di mu dc dg da dh dt dv dd ms ak se mr th))) (hS : va_S (fun q : Nat => s.heap.size ≤ q) s.heap H locs) (ls : Array Slot) (hl : lv_has ls 7 [(4, .int (nI i)), (0, .ref b), (1, .ref h), (2, .ref h2), (3, .ref ob)]) : W p l e room_1 s m #[Value.ref b] below meth c H locs cells slots (lw_Z below #[Value.ref b] s) (F0 m 680 ls []) := by
  obtain ⟨C0, hK, hE, hN⟩ := X0
  obtain ⟨hx, hb, hr, hml, hown, hts0, hX, hbl, hlocks, -⟩ := id C0
  have hts : ∀ w ∈ wsL_law, w.before #[Value.ref b] s = true := fun w hw => hts0 w (wsL_law_in w hw)
  have hA : ∀ q : Nat, s.heap.size ≤ q → (fun q : Nat => s.heap.size ≤ q) q := fun _ h => h
  have hbA : ¬ (fun q : Nat => s.heap.size ≤ q) b := Nat.not_le.mpr hbl
  have hrc0 : cells ≤ 1078 := by omega
  have hrs0 : slots ≤ 14711 := by omega
  obtain ⟨hT, hQ, hB, hSR, hPP, hPM, htd, hmz⟩ := hI
  obtain ⟨hti, hme, hpr, hmpr, hpn, hgc, hxg⟩ := id hT
  have htim : TI ex mpa lev := TI_cong hme hti
  obtain ⟨hdi, hqu, hmu, hPT, hmu0⟩ := id hQ
  obtain ⟨hrd, hDR, hds, hho, hdv, hdgc⟩ := id hB
  have hHO := BR_HO hB
  have hRH := BR_RH hB
  have hdp := BR_dp hB
  obtain ⟨hdc, htdl, hdg, hda, hdh, hdt, hdd, hms2⟩ := id hrd
  rcases k_rng 1 100 (by decide) (by decide) (xs (i + 1)) with hw | ⟨w, hw1, hw2, e1⟩
  · refine lv_aload_n hx hb dL_law_680 rfl (lv_at hl 2 rfl) ?_
    refine lq_arg (k := 1) (y := xs (i + 1)) hx hb hX hbl hbA hS hl 1 0 rfl rfl (show i + 1 < L by omega) (by omega) (by decide) (rfl) dL_law_681 dL_law_682 dL_law_684 dL_law_685 dL_law_686 ?_
    refine lv_aload_n hx hb dL_law_687 rfl (lv_at hl 4 rfl) ?_
    refine q_ecall (k := 1) (vx_runSW (As := [.ref h, .int (xs (i + 1)), .ref ob]) (rest := []) ⟨hx, hb, hml, hown, hts⟩ (kL_passXA l D h ad cI cZ ex pa di qu gc dg dp dv dd ds dc td ho ak se pr hlf ob (xs (i + 1)) hw) (vx_cwSW 3 hts gL_law_L_pass rfl rfl rfl (by decide +kernel) ⟨Nat.le_of_ble_eq_true rfl, Nat.le_of_ble_eq_true rfl⟩) ⟨tN_blind, tN_pre (va_Pl (va_Pl hP)) (hK.sub [0, 1] rfl) (tEA_at hE hS) hN⟩ rfl rfl hl.1 rfl (lv_room (Nat.le_of_ble_eq_true rfl)) dL_law_688 ⟨hrc, hrs⟩) hP hS (fun H hP hS => ?_)
    refine lv_istore (lv' := [(5, .int (nI 1)), (4, .int (nI i)), (0, .ref b), (1, .ref h), (2, .ref h2), (3, .ref ob)]) hx hb dL_law_691 hl (by decide) rfl (fun ls hl => ?_)
    refine lv_aload_n hx hb dL_law_693 rfl (lv_at hl 4 rfl) ?_
    refine lq_arg (k := 1) (y := xs (i + 1)) hx hb hX hbl hbA hS hl 2 1 rfl rfl (show i + 1 < L by omega) (by omega) (by decide) (rfl) dL_law_694 dL_law_695 dL_law_697 dL_law_698 dL_law_699 ?_
    have hP := va_Psw hP
    have hD := va_Dsw hD
    refine q_wcallFI (wa' := (mW h2 ad2 cI cJ cZ td gc ex mpa di mu dc dg da dh dt dv dd ms ak se mr 1)) (wb := ((hW h ad cI cZ ex pa di qu gc dg dp dv dd ds dc td ho ak se pr) ++ [(ob, .inl (cJ, 1, .inr (.inl f)))])) (r := nI 0) (va_runV (As := [.int (xs (i + 1))]) (rest := []) ⟨hx, hb, hml, hown, hts⟩ (kX1_pass1 l D h2 ad2 cI cJ cZ td gc ex mpa di mu dc dg da dh dt dv dd ms ak se mr th _ (xs (i + 1)) hw) (cwV 1 hts gL_law_X1_pass rfl rfl rfl (by decide +kernel) ⟨Nat.le_of_ble_eq_true rfl, Nat.le_of_ble_eq_true rfl⟩) ⟨wP_blind, va_recv hK (va_Pl hP) (ci := 1) (q0 := 0) rfl rfl, wP_pre (va_Pl hP) hK (va_Dl hD)⟩ rfl rfl hl.1 rfl (lv_room (Nat.le_of_ble_eq_true rfl)) dL_law_700 ⟨hrc, hrs⟩) hP hD hS hA rfl (fun H locs hP hD hS => ?_)
    refine lv_istore (lv' := [(6, .int (nI 0)), (5, .int (nI 1)), (4, .int (nI i)), (0, .ref b), (1, .ref h), (2, .ref h2), (3, .ref ob)]) hx hb dL_law_703 hl (by decide) rfl (fun ls hl => ?_)
    refine lv_aload_n hx hb dL_law_705 rfl (lv_at hl 5 rfl) ?_
    refine q_callI (r := nI 1) (va_runV (As := []) (rest := []) ⟨hx, hb, hml, hown, hts⟩ (kX1_thrown l D h2 ad2 cI cJ cZ td gc ex mpa di mu dc dg da dh dt dv dd ms ak se mr 1) (cwV 0 hts gL_law_X1_thrown rfl rfl rfl (by decide +kernel) ⟨Nat.le_of_ble_eq_true rfl, Nat.le_of_ble_eq_true rfl⟩) ⟨pP_blind, va_recv hK (va_Pl hP) (ci := 1) (q0 := 0) rfl rfl, pP_pre (va_Pl hP) hK⟩ rfl rfl hl.1 rfl (lv_room (Nat.le_of_ble_eq_true rfl)) dL_law_706 ⟨hrc, hrs⟩) ?_
    refine lv_iload hx hb dL_law_709 (lv_at hl 1 rfl) ?_
    refine lv_icmp_eq (tgt := 716) hx hb dL_law_711 (by decide) (fun _ => ?_) (fun z => absurd rfl z)
    refine lv_iload hx hb dL_law_716 (lv_at hl 1 rfl) ?_
    refine lv_if_ne (tgt := 733) hx hb dL_law_718 (by decide) (fun _ => ?_) (fun z => absurd z (by decide))
    have hP := va_Psw hP
    have hD := va_Dsw hD
    refine lv_goto (tgt := 1367) hx hb dL_law_733 (by decide) ?_
    exact K f lev ex pa mpa di qu mu gc dg dp da dh dt dv dd ds ms dc td ho ak se pr mr 1 H locs ls ⟨hT, hQ, hB, hSR, hPP, hPM, by omega, hmz⟩ hP hD hS (lv_sub hl [2, 3, 4, 5, 6] rfl)
  · have htw : td + w < 2147483648 := by omega
    refine lv_aload_n hx hb dL_law_680 rfl (lv_at hl 2 rfl) ?_
    refine lq_arg (k := 1) (y := nI w) hx hb hX hbl hbA hS hl 1 0 rfl rfl (show i + 1 < L by omega) (by omega) (by decide) (e1) dL_law_681 dL_law_682 dL_law_684 dL_law_685 dL_law_686 ?_
    refine lv_aload_n hx hb dL_law_687 rfl (lv_at hl 4 rfl) ?_
    refine q_wcallFI (wa' := ((hW h ad cI cZ ex pa di qu gc dg dp dv dd ds dc (td + w) (stl ho ds dd dp (td + w) dc) ak se pr) ++ [(ob, .inl (cJ, 1, .inr (.inl (vp_updL f 0 (lN (td + w))))))])) (wb := (mW h2 ad2 cI cJ cZ td gc ex mpa di mu dc dg da dh dt dv dd ms ak se mr th)) (r := nI 0) (vx_runSW (As := [.ref h, .int (nI w), .ref ob]) (rest := []) ⟨hx, hb, hml, hown, hts⟩ (kL_pass l D h ad cI cZ ex pa di qu gc dg dp dv dd ds dc td ho ak se pr cJ ob f _ w hw1 hw2 htw hdc htdl hdp hdd hds htw) (vx_cwSW 3 hts gL_law_L_pass rfl rfl rfl (by decide +kernel) ⟨Nat.le_of_ble_eq_true rfl, Nat.le_of_ble_eq_true rfl⟩) ⟨wP_blind, wP_pre (va_Pl hP) hK (va_Dl hD)⟩ rfl rfl hl.1 rfl (lv_room (Nat.le_of_ble_eq_true rfl)) dL_law_688 ⟨hrc0, hrs0⟩) hP hD hS hA rfl (fun H locs hP hD hS => ?_)
    refine lv_istore (lv' := [(5, .int (nI 0)), (4, .int (nI i)), (0, .ref b), (1, .ref h), (2, .ref h2), (3, .ref ob)]) hx hb dL_law_691 hl (by decide) rfl (fun ls hl => ?_)
    refine lv_aload_n hx hb dL_law_693 rfl (lv_at hl 4 rfl) ?_
    refine lq_arg (k := 1) (y := nI w) hx hb hX hbl hbA hS hl 2 1 rfl rfl (show i + 1 < L by omega) (by omega) (by decide) (e1) dL_law_694 dL_law_695 dL_law_697 dL_law_698 dL_law_699 ?_
    have hP := va_Psw hP
    have hD := va_Dsw hD
    refine q_wcallFI (wa' := (mW h2 ad2 cI cJ cZ (td + w) gc ex mpa di mu dc dg da dh dt dv dd ms ak se mr 0)) (wb := ((hW h ad cI cZ ex pa di qu gc dg dp dv dd ds dc (td + w) (stl ho ds dd dp (td + w) dc) ak se pr) ++ [(ob, .inl (cJ, 1, .inr (.inl (vp_updL f 0 (lN (td + w))))))])) (r := nI (td + w)) (va_runV (As := [.int (nI w)]) (rest := []) ⟨hx, hb, hml, hown, hts⟩ (kX1_pass l D h2 ad2 cI cJ cZ td gc ex mpa di mu dc dg da dh dt dv dd ms ak se mr th _ w hw1 hw2) (cwV 1 hts gL_law_X1_pass rfl rfl rfl (by decide +kernel) ⟨Nat.le_of_ble_eq_true rfl, Nat.le_of_ble_eq_true rfl⟩) ⟨wP_blind, va_recv hK (va_Pl hP) (ci := 1) (q0 := 0) rfl rfl, wP_pre (va_Pl hP) hK (va_Dl hD)⟩ rfl rfl hl.1 rfl (lv_room (Nat.le_of_ble_eq_true rfl)) dL_law_700 ⟨hrc0, hrs0⟩) hP hD hS hA rfl (fun H locs hP hD hS => ?_)
    refine lv_istore (lv' := [(6, .int (nI (td + w))), (5, .int (nI 0)), (4, .int (nI i)), (0, .ref b), (1, .ref h), (2, .ref h2), (3, .ref ob)]) hx hb dL_law_703 hl (by decide) rfl (fun ls hl => ?_)
    refine lv_aload_n hx hb dL_law_705 rfl (lv_at hl 5 rfl) ?_
    refine q_callI (r := nI 0) (va_runV (As := []) (rest := []) ⟨hx, hb, hml, hown, hts⟩ (kX1_thrown l D h2 ad2 cI cJ cZ (td + w) gc ex mpa di mu dc dg da dh dt dv dd ms ak se mr 0) (cwV 0 hts gL_law_X1_thrown rfl rfl rfl (by decide +kernel) ⟨Nat.le_of_ble_eq_true rfl, Nat.le_of_ble_eq_true rfl⟩) ⟨pP_blind, va_recv hK (va_Pl hP) (ci := 1) (q0 := 0) rfl rfl, pP_pre (va_Pl hP) hK⟩ rfl rfl hl.1 rfl (lv_room (Nat.le_of_ble_eq_true rfl)) dL_law_706 ⟨hrc0, hrs0⟩) ?_
    refine lv_iload hx hb dL_law_709 (lv_at hl 1 rfl) ?_
    refine lv_icmp_eq (tgt := 716) hx hb dL_law_711 (by decide) (fun _ => ?_) (fun z => absurd rfl z)
    refine lv_iload hx hb dL_law_716 (lv_at hl 1 rfl) ?_
    refine lv_if_ne (tgt := 733) hx hb dL_law_718 (by decide) (fun z => absurd (by decide) z) (fun _ => ?_)
    refine lv_aload_n hx hb dL_law_721 rfl (lv_at hl 6 rfl) ?_
    refine lv_iconst (v := nI 0) hx hb dL_law_722 (by decide) ?_
    refine va_lald hx hb hK (va_Pr hP) 14 2 rfl rfl (vp_in_nI (by decide) (by decide)) dL_law_723 ?_
    refine q_topL (y := (lN (td + w))) vpU ?_
    refine lv_iload hx hb dL_law_724 (lv_at hl 0 rfl) ?_
    refine lv_i2l (v := (lN (td + w))) hx hb dL_law_726 (nI_l htw) ?_
    refine W.lcmp hx hb dL_law_727 ?_
    refine lv_if_eq (tgt := 733) hx hb dL_law_728 (by decide) (fun _ => ?_) (fun z => absurd ((lg_cmp_eq _ _).mpr rfl) z)
    have hP := va_Psw hP
    have hD := va_Dsw hD
    refine lv_goto (tgt := 1367) hx hb dL_law_733 (by decide) ?_
    refine W.widen (k := cells + 1) (n := slots + 6) (by omega) (by omega) ?_
    exact K (vp_updL f 0 (lN (td + w))) lev ex pa mpa di qu mu gc dg dp da dh dt dv dd ds ms dc (td + w) (stl ho ds dd dp (td + w) dc) ak se pr mr 0 H locs ls ⟨hT, hQ, BR_pas hB htw, hSR, hPP, hPM, by omega, hmz⟩ hP hD hS (lv_sub hl [2, 3, 4, 5, 6] rfl)

set_option maxHeartbeats 8000000 in
set_option maxRecDepth 100000 in
theorem lc_value {p : Program} {l : Launch} {e : Env} {s : State} {m : MethodId} {below : List Frame} {meth : Method} {c : Code} {b L : Nat} {xs : Nat → Int32} {D : va_G} {cI cJ cZ : ClassId} {h : Nat} {ad : Nat → Nat} {h2 : Nat} {ad2 : Nat → Nat} {ob : Nat} (X0 : LCX p s m meth c b L xs D cI cJ cZ) (hlf : l.stackTraces = false) {i n cells slots : Nat} (hi : i + 7 ≤ L) (hL : L ≤ 3584) (hn : n ≤ 512) (hrc : cells + 1 ≤ 1078) (hrs : slots + 6 ≤ 14711) (K : LK p l e s m below meth c b D cI cJ cZ h ad h2 ad2 ob i (cells + 1) (slots + 6) (n + 1))
    (f : Nat → Int64) (lev : Nat → Nat) (ex : Nat → Bool) (pa mpa : Nat → Option Nat) (di qu mu : Nat → Nat) (gc : Nat) (dg dp da : Nat → Nat) (dh dt dv : Nat → Option Nat) (dd ds ms : Nat → Nat) (dc td : Nat) (ho : Nat → Option Nat) (ak : Nat → Bool) (se pr mr : Nat → Option Nat) (th : Nat) (hI : LI n lev ex pa mpa di qu mu gc dg dp da dh dt dv dd ds ms dc td ho se pr mr) (H : Heap) (locs : List Loc) (hP : va_P D vwCl (((hW h ad cI cZ ex pa di qu gc dg dp dv dd ds dc td ho ak se pr) ++ [(ob, .inl (cJ, 1, .inr (.inl f)))]) ++ (mW h2 ad2 cI cJ cZ td gc ex mpa di mu dc dg da dh dt dv dd ms ak se mr th)) H) (hD : va_D (fun q : Nat => s.heap.size ≤ q) (((hW h ad cI cZ ex pa di qu gc dg dp dv dd ds dc td ho ak se pr) ++ [(ob, .inl (cJ, 1, .inr (.inl f)))]) ++ (mW h2 ad2 cI cJ cZ td gc ex mpa di mu dc dg da dh dt dv dd ms ak se mr th))) (hS : va_S (fun q : Nat => s.heap.size ≤ q) s.heap H locs) (ls : Array Slot) (hl : lv_has ls 7 [(4, .int (nI i)), (0, .ref b), (1, .ref h), (2, .ref h2), (3, .ref ob)]) : W p l e room_1 s m #[Value.ref b] below meth c H locs cells slots (lw_Z below #[Value.ref b] s) (F0 m 736 ls []) := by
  obtain ⟨C0, hK, hE, hN⟩ := X0
  obtain ⟨hx, hb, hr, hml, hown, hts0, hX, hbl, hlocks, -⟩ := id C0
  have hts : ∀ w ∈ wsL_law, w.before #[Value.ref b] s = true := fun w hw => hts0 w (wsL_law_in w hw)
  have hA : ∀ q : Nat, s.heap.size ≤ q → (fun q : Nat => s.heap.size ≤ q) q := fun _ h => h
  have hbA : ¬ (fun q : Nat => s.heap.size ≤ q) b := Nat.not_le.mpr hbl
  have hrc0 : cells ≤ 1078 := by omega
  have hrs0 : slots ≤ 14711 := by omega
  obtain ⟨hT, hQ, hB, hSR, hPP, hPM, htd, hmz⟩ := hI
  obtain ⟨hti, hme, hpr, hmpr, hpn, hgc, hxg⟩ := id hT
  have htim : TI ex mpa lev := TI_cong hme hti
  obtain ⟨hdi, hqu, hmu, hPT, hmu0⟩ := id hQ
  obtain ⟨hrd, hDR, hds, hho, hdv, hdgc⟩ := id hB
  have hHO := BR_HO hB
  have hRH := BR_RH hB
  have hdp := BR_dp hB
  obtain ⟨hdc, htdl, hdg, hda, hdh, hdt, hdd, hms2⟩ := id hrd
  rcases k_good ex (xs (i + 1)) with hg | ⟨g, hg, e1, he⟩
  · refine lv_aload_n hx hb dL_law_736 rfl (lv_at hl 2 rfl) ?_
    refine lq_arg (k := 1) (y := xs (i + 1)) hx hb hX hbl hbA hS hl 1 0 rfl rfl (show i + 1 < L by omega) (by omega) (by decide) (rfl) dL_law_737 dL_law_738 dL_law_740 dL_law_741 dL_law_742 ?_
    refine lq_arg (k := 2) (y := xs (i + 2)) hx hb hX hbl hbA hS hl 1 0 rfl rfl (show i + 2 < L by omega) (by omega) (by decide) (rfl) dL_law_743 dL_law_744 dL_law_746 dL_law_747 dL_law_748 ?_
    refine lq_arg (k := 3) (y := xs (i + 3)) hx hb hX hbl hbA hS hl 1 0 rfl rfl (show i + 3 < L by omega) (by omega) (by decide) (rfl) dL_law_749 dL_law_750 dL_law_752 dL_law_753 dL_law_754 ?_
    refine lq_arg (k := 4) (y := xs (i + 4)) hx hb hX hbl hbA hS hl 1 0 rfl rfl (show i + 4 < L by omega) (by omega) (by decide) (rfl) dL_law_755 dL_law_756 dL_law_758 dL_law_759 dL_law_760 ?_
    refine lv_aload_n hx hb dL_law_761 rfl (lv_at hl 4 rfl) ?_
    refine q_ecall (k := 1) (vx_runSW (As := [.ref h, .int (xs (i + 1)), .int (xs (i + 2)), .int (xs (i + 3)), .int (xs (i + 4)), .ref ob]) (rest := []) ⟨hx, hb, hml, hown, hts⟩ (kL_valueXI l D h ad cI cZ ex pa di qu gc dg dp dv dd ds dc td ho ak se pr hlf ob (xs (i + 1)) (xs (i + 2)) (xs (i + 3)) (xs (i + 4)) (Or.inl hg)) (vx_cwSW 6 hts gL_law_L_value rfl rfl rfl (by decide +kernel) ⟨Nat.le_of_ble_eq_true rfl, Nat.le_of_ble_eq_true rfl⟩) ⟨tN_blind, tN_pre (va_Pl (va_Pl hP)) (hK.sub [0, 1] rfl) (tEA_at hE hS) hN⟩ rfl rfl hl.1 rfl (lv_room (Nat.le_of_ble_eq_true rfl)) dL_law_762 ⟨hrc, hrs⟩) hP hS (fun H hP hS => ?_)
    refine lv_istore (lv' := [(5, .int (nI 1)), (4, .int (nI i)), (0, .ref b), (1, .ref h), (2, .ref h2), (3, .ref ob)]) hx hb dL_law_765 hl (by decide) rfl (fun ls hl => ?_)
    refine lv_aload_n hx hb dL_law_767 rfl (lv_at hl 4 rfl) ?_
    refine lq_arg (k := 1) (y := xs (i + 1)) hx hb hX hbl hbA hS hl 2 1 rfl rfl (show i + 1 < L by omega) (by omega) (by decide) (rfl) dL_law_768 dL_law_769 dL_law_771 dL_law_772 dL_law_773 ?_
    refine lq_arg (k := 2) (y := xs (i + 2)) hx hb hX hbl hbA hS hl 2 1 rfl rfl (show i + 2 < L by omega) (by omega) (by decide) (rfl) dL_law_774 dL_law_775 dL_law_777 dL_law_778 dL_law_779 ?_
    refine lq_arg (k := 3) (y := xs (i + 3)) hx hb hX hbl hbA hS hl 2 1 rfl rfl (show i + 3 < L by omega) (by omega) (by decide) (rfl) dL_law_780 dL_law_781 dL_law_783 dL_law_784 dL_law_785 ?_
    refine lq_arg (k := 4) (y := xs (i + 4)) hx hb hX hbl hbA hS hl 2 1 rfl rfl (show i + 4 < L by omega) (by omega) (by decide) (rfl) dL_law_786 dL_law_787 dL_law_789 dL_law_790 dL_law_791 ?_
    have hP := va_Psw hP
    have hD := va_Dsw hD
    refine q_wcallFI (wa' := (mW h2 ad2 cI cJ cZ td gc ex mpa di mu dc dg da dh dt dv dd ms ak se mr 1)) (wb := ((hW h ad cI cZ ex pa di qu gc dg dp dv dd ds dc td ho ak se pr) ++ [(ob, .inl (cJ, 1, .inr (.inl f)))])) (r := nI 0) (va_runV (As := [.int (xs (i + 1)), .int (xs (i + 2)), .int (xs (i + 3)), .int (xs (i + 4))]) (rest := []) ⟨hx, hb, hml, hown, hts⟩ (kX1_value1 l D h2 ad2 cI cJ cZ td gc ex mpa di mu dc dg da dh dt dv dd ms ak se mr th _ (xs (i + 1)) (xs (i + 2)) (xs (i + 3)) (xs (i + 4)) hgc hxg (Or.inl hg)) (cwV 4 hts gL_law_X1_value rfl rfl rfl (by decide +kernel) ⟨Nat.le_of_ble_eq_true rfl, Nat.le_of_ble_eq_true rfl⟩) ⟨wP_blind, va_recv hK (va_Pl hP) (ci := 1) (q0 := 0) rfl rfl, wP_pre (va_Pl hP) hK (va_Dl hD)⟩ rfl rfl hl.1 rfl (lv_room (Nat.le_of_ble_eq_true rfl)) dL_law_792 ⟨hrc, hrs⟩) hP hD hS hA rfl (fun H locs hP hD hS => ?_)
    refine lv_istore (lv' := [(6, .int (nI 0)), (5, .int (nI 1)), (4, .int (nI i)), (0, .ref b), (1, .ref h), (2, .ref h2), (3, .ref ob)]) hx hb dL_law_795 hl (by decide) rfl (fun ls hl => ?_)
    refine lv_aload_n hx hb dL_law_797 rfl (lv_at hl 5 rfl) ?_
    refine q_callI (r := nI 1) (va_runV (As := []) (rest := []) ⟨hx, hb, hml, hown, hts⟩ (kX1_thrown l D h2 ad2 cI cJ cZ td gc ex mpa di mu dc dg da dh dt dv dd ms ak se mr 1) (cwV 0 hts gL_law_X1_thrown rfl rfl rfl (by decide +kernel) ⟨Nat.le_of_ble_eq_true rfl, Nat.le_of_ble_eq_true rfl⟩) ⟨pP_blind, va_recv hK (va_Pl hP) (ci := 1) (q0 := 0) rfl rfl, pP_pre (va_Pl hP) hK⟩ rfl rfl hl.1 rfl (lv_room (Nat.le_of_ble_eq_true rfl)) dL_law_798 ⟨hrc, hrs⟩) ?_
    refine lv_iload hx hb dL_law_801 (lv_at hl 1 rfl) ?_
    refine lv_icmp_eq (tgt := 808) hx hb dL_law_803 (by decide) (fun _ => ?_) (fun z => absurd rfl z)
    refine lv_iload hx hb dL_law_808 (lv_at hl 1 rfl) ?_
    refine lv_if_ne (tgt := 825) hx hb dL_law_810 (by decide) (fun _ => ?_) (fun z => absurd z (by decide))
    have hP := va_Psw hP
    have hD := va_Dsw hD
    refine lv_goto (tgt := 1367) hx hb dL_law_825 (by decide) ?_
    exact K f lev ex pa mpa di qu mu gc dg dp da dh dt dv dd ds ms dc td ho ak se pr mr 1 H locs ls ⟨hT, hQ, hB, hSR, hPP, hPM, by omega, hmz⟩ hP hD hS (lv_sub hl [2, 3, 4, 5, 6] rfl)
  · rcases k_ix 6 (by decide) (xs (i + 2)) with ha | ⟨a, ha, e2⟩
    · refine lv_aload_n hx hb dL_law_736 rfl (lv_at hl 2 rfl) ?_
      refine lq_arg (k := 1) (y := xs (i + 1)) hx hb hX hbl hbA hS hl 1 0 rfl rfl (show i + 1 < L by omega) (by omega) (by decide) (rfl) dL_law_737 dL_law_738 dL_law_740 dL_law_741 dL_law_742 ?_
      refine lq_arg (k := 2) (y := xs (i + 2)) hx hb hX hbl hbA hS hl 1 0 rfl rfl (show i + 2 < L by omega) (by omega) (by decide) (rfl) dL_law_743 dL_law_744 dL_law_746 dL_law_747 dL_law_748 ?_
      refine lq_arg (k := 3) (y := xs (i + 3)) hx hb hX hbl hbA hS hl 1 0 rfl rfl (show i + 3 < L by omega) (by omega) (by decide) (rfl) dL_law_749 dL_law_750 dL_law_752 dL_law_753 dL_law_754 ?_
      refine lq_arg (k := 4) (y := xs (i + 4)) hx hb hX hbl hbA hS hl 1 0 rfl rfl (show i + 4 < L by omega) (by omega) (by decide) (rfl) dL_law_755 dL_law_756 dL_law_758 dL_law_759 dL_law_760 ?_
      refine lv_aload_n hx hb dL_law_761 rfl (lv_at hl 4 rfl) ?_
      refine q_ecall (k := 1) (vx_runSW (As := [.ref h, .int (xs (i + 1)), .int (xs (i + 2)), .int (xs (i + 3)), .int (xs (i + 4)), .ref ob]) (rest := []) ⟨hx, hb, hml, hown, hts⟩ (kL_valueXI l D h ad cI cZ ex pa di qu gc dg dp dv dd ds dc td ho ak se pr hlf ob (xs (i + 1)) (xs (i + 2)) (xs (i + 3)) (xs (i + 4)) (Or.inr ⟨g, hg, e1, he, Or.inl ha⟩)) (vx_cwSW 6 hts gL_law_L_value rfl rfl rfl (by decide +kernel) ⟨Nat.le_of_ble_eq_true rfl, Nat.le_of_ble_eq_true rfl⟩) ⟨tN_blind, tN_pre (va_Pl (va_Pl hP)) (hK.sub [0, 1] rfl) (tEA_at hE hS) hN⟩ rfl rfl hl.1 rfl (lv_room (Nat.le_of_ble_eq_true rfl)) dL_law_762 ⟨hrc, hrs⟩) hP hS (fun H hP hS => ?_)
      refine lv_istore (lv' := [(5, .int (nI 1)), (4, .int (nI i)), (0, .ref b), (1, .ref h), (2, .ref h2), (3, .ref ob)]) hx hb dL_law_765 hl (by decide) rfl (fun ls hl => ?_)
      refine lv_aload_n hx hb dL_law_767 rfl (lv_at hl 4 rfl) ?_
      refine lq_arg (k := 1) (y := xs (i + 1)) hx hb hX hbl hbA hS hl 2 1 rfl rfl (show i + 1 < L by omega) (by omega) (by decide) (rfl) dL_law_768 dL_law_769 dL_law_771 dL_law_772 dL_law_773 ?_
      refine lq_arg (k := 2) (y := xs (i + 2)) hx hb hX hbl hbA hS hl 2 1 rfl rfl (show i + 2 < L by omega) (by omega) (by decide) (rfl) dL_law_774 dL_law_775 dL_law_777 dL_law_778 dL_law_779 ?_
      refine lq_arg (k := 3) (y := xs (i + 3)) hx hb hX hbl hbA hS hl 2 1 rfl rfl (show i + 3 < L by omega) (by omega) (by decide) (rfl) dL_law_780 dL_law_781 dL_law_783 dL_law_784 dL_law_785 ?_
      refine lq_arg (k := 4) (y := xs (i + 4)) hx hb hX hbl hbA hS hl 2 1 rfl rfl (show i + 4 < L by omega) (by omega) (by decide) (rfl) dL_law_786 dL_law_787 dL_law_789 dL_law_790 dL_law_791 ?_
      have hP := va_Psw hP
      have hD := va_Dsw hD
      refine q_wcallFI (wa' := (mW h2 ad2 cI cJ cZ td gc ex mpa di mu dc dg da dh dt dv dd ms ak se mr 1)) (wb := ((hW h ad cI cZ ex pa di qu gc dg dp dv dd ds dc td ho ak se pr) ++ [(ob, .inl (cJ, 1, .inr (.inl f)))])) (r := nI 0) (va_runV (As := [.int (xs (i + 1)), .int (xs (i + 2)), .int (xs (i + 3)), .int (xs (i + 4))]) (rest := []) ⟨hx, hb, hml, hown, hts⟩ (kX1_value1 l D h2 ad2 cI cJ cZ td gc ex mpa di mu dc dg da dh dt dv dd ms ak se mr th _ (xs (i + 1)) (xs (i + 2)) (xs (i + 3)) (xs (i + 4)) hgc hxg (Or.inr ⟨g, hg, e1, he, Or.inl ha⟩)) (cwV 4 hts gL_law_X1_value rfl rfl rfl (by decide +kernel) ⟨Nat.le_of_ble_eq_true rfl, Nat.le_of_ble_eq_true rfl⟩) ⟨wP_blind, va_recv hK (va_Pl hP) (ci := 1) (q0 := 0) rfl rfl, wP_pre (va_Pl hP) hK (va_Dl hD)⟩ rfl rfl hl.1 rfl (lv_room (Nat.le_of_ble_eq_true rfl)) dL_law_792 ⟨hrc, hrs⟩) hP hD hS hA rfl (fun H locs hP hD hS => ?_)
      refine lv_istore (lv' := [(6, .int (nI 0)), (5, .int (nI 1)), (4, .int (nI i)), (0, .ref b), (1, .ref h), (2, .ref h2), (3, .ref ob)]) hx hb dL_law_795 hl (by decide) rfl (fun ls hl => ?_)
      refine lv_aload_n hx hb dL_law_797 rfl (lv_at hl 5 rfl) ?_
      refine q_callI (r := nI 1) (va_runV (As := []) (rest := []) ⟨hx, hb, hml, hown, hts⟩ (kX1_thrown l D h2 ad2 cI cJ cZ td gc ex mpa di mu dc dg da dh dt dv dd ms ak se mr 1) (cwV 0 hts gL_law_X1_thrown rfl rfl rfl (by decide +kernel) ⟨Nat.le_of_ble_eq_true rfl, Nat.le_of_ble_eq_true rfl⟩) ⟨pP_blind, va_recv hK (va_Pl hP) (ci := 1) (q0 := 0) rfl rfl, pP_pre (va_Pl hP) hK⟩ rfl rfl hl.1 rfl (lv_room (Nat.le_of_ble_eq_true rfl)) dL_law_798 ⟨hrc, hrs⟩) ?_
      refine lv_iload hx hb dL_law_801 (lv_at hl 1 rfl) ?_
      refine lv_icmp_eq (tgt := 808) hx hb dL_law_803 (by decide) (fun _ => ?_) (fun z => absurd rfl z)
      refine lv_iload hx hb dL_law_808 (lv_at hl 1 rfl) ?_
      refine lv_if_ne (tgt := 825) hx hb dL_law_810 (by decide) (fun _ => ?_) (fun z => absurd z (by decide))
      have hP := va_Psw hP
      have hD := va_Dsw hD
      refine lv_goto (tgt := 1367) hx hb dL_law_825 (by decide) ?_
      exact K f lev ex pa mpa di qu mu gc dg dp da dh dt dv dd ds ms dc td ho ak se pr mr 1 H locs ls ⟨hT, hQ, hB, hSR, hPP, hPM, by omega, hmz⟩ hP hD hS (lv_sub hl [2, 3, 4, 5, 6] rfl)
    · rcases k_ix 3 (by decide) (xs (i + 3)) with hs | ⟨sp, hs, e3⟩
      · refine lv_aload_n hx hb dL_law_736 rfl (lv_at hl 2 rfl) ?_
        refine lq_arg (k := 1) (y := xs (i + 1)) hx hb hX hbl hbA hS hl 1 0 rfl rfl (show i + 1 < L by omega) (by omega) (by decide) (rfl) dL_law_737 dL_law_738 dL_law_740 dL_law_741 dL_law_742 ?_
        refine lq_arg (k := 2) (y := xs (i + 2)) hx hb hX hbl hbA hS hl 1 0 rfl rfl (show i + 2 < L by omega) (by omega) (by decide) (rfl) dL_law_743 dL_law_744 dL_law_746 dL_law_747 dL_law_748 ?_
        refine lq_arg (k := 3) (y := xs (i + 3)) hx hb hX hbl hbA hS hl 1 0 rfl rfl (show i + 3 < L by omega) (by omega) (by decide) (rfl) dL_law_749 dL_law_750 dL_law_752 dL_law_753 dL_law_754 ?_
        refine lq_arg (k := 4) (y := xs (i + 4)) hx hb hX hbl hbA hS hl 1 0 rfl rfl (show i + 4 < L by omega) (by omega) (by decide) (rfl) dL_law_755 dL_law_756 dL_law_758 dL_law_759 dL_law_760 ?_
        refine lv_aload_n hx hb dL_law_761 rfl (lv_at hl 4 rfl) ?_
        refine q_ecall (k := 1) (vx_runSW (As := [.ref h, .int (xs (i + 1)), .int (xs (i + 2)), .int (xs (i + 3)), .int (xs (i + 4)), .ref ob]) (rest := []) ⟨hx, hb, hml, hown, hts⟩ (kL_valueXI l D h ad cI cZ ex pa di qu gc dg dp dv dd ds dc td ho ak se pr hlf ob (xs (i + 1)) (xs (i + 2)) (xs (i + 3)) (xs (i + 4)) (Or.inr ⟨g, hg, e1, he, Or.inr ⟨a, ha, e2, Or.inl hs⟩⟩)) (vx_cwSW 6 hts gL_law_L_value rfl rfl rfl (by decide +kernel) ⟨Nat.le_of_ble_eq_true rfl, Nat.le_of_ble_eq_true rfl⟩) ⟨tN_blind, tN_pre (va_Pl (va_Pl hP)) (hK.sub [0, 1] rfl) (tEA_at hE hS) hN⟩ rfl rfl hl.1 rfl (lv_room (Nat.le_of_ble_eq_true rfl)) dL_law_762 ⟨hrc, hrs⟩) hP hS (fun H hP hS => ?_)
        refine lv_istore (lv' := [(5, .int (nI 1)), (4, .int (nI i)), (0, .ref b), (1, .ref h), (2, .ref h2), (3, .ref ob)]) hx hb dL_law_765 hl (by decide) rfl (fun ls hl => ?_)
        refine lv_aload_n hx hb dL_law_767 rfl (lv_at hl 4 rfl) ?_
        refine lq_arg (k := 1) (y := xs (i + 1)) hx hb hX hbl hbA hS hl 2 1 rfl rfl (show i + 1 < L by omega) (by omega) (by decide) (rfl) dL_law_768 dL_law_769 dL_law_771 dL_law_772 dL_law_773 ?_
        refine lq_arg (k := 2) (y := xs (i + 2)) hx hb hX hbl hbA hS hl 2 1 rfl rfl (show i + 2 < L by omega) (by omega) (by decide) (rfl) dL_law_774 dL_law_775 dL_law_777 dL_law_778 dL_law_779 ?_
        refine lq_arg (k := 3) (y := xs (i + 3)) hx hb hX hbl hbA hS hl 2 1 rfl rfl (show i + 3 < L by omega) (by omega) (by decide) (rfl) dL_law_780 dL_law_781 dL_law_783 dL_law_784 dL_law_785 ?_
        refine lq_arg (k := 4) (y := xs (i + 4)) hx hb hX hbl hbA hS hl 2 1 rfl rfl (show i + 4 < L by omega) (by omega) (by decide) (rfl) dL_law_786 dL_law_787 dL_law_789 dL_law_790 dL_law_791 ?_
        have hP := va_Psw hP
        have hD := va_Dsw hD
        refine q_wcallFI (wa' := (mW h2 ad2 cI cJ cZ td gc ex mpa di mu dc dg da dh dt dv dd ms ak se mr 1)) (wb := ((hW h ad cI cZ ex pa di qu gc dg dp dv dd ds dc td ho ak se pr) ++ [(ob, .inl (cJ, 1, .inr (.inl f)))])) (r := nI 0) (va_runV (As := [.int (xs (i + 1)), .int (xs (i + 2)), .int (xs (i + 3)), .int (xs (i + 4))]) (rest := []) ⟨hx, hb, hml, hown, hts⟩ (kX1_value1 l D h2 ad2 cI cJ cZ td gc ex mpa di mu dc dg da dh dt dv dd ms ak se mr th _ (xs (i + 1)) (xs (i + 2)) (xs (i + 3)) (xs (i + 4)) hgc hxg (Or.inr ⟨g, hg, e1, he, Or.inr ⟨a, ha, e2, Or.inl hs⟩⟩)) (cwV 4 hts gL_law_X1_value rfl rfl rfl (by decide +kernel) ⟨Nat.le_of_ble_eq_true rfl, Nat.le_of_ble_eq_true rfl⟩) ⟨wP_blind, va_recv hK (va_Pl hP) (ci := 1) (q0 := 0) rfl rfl, wP_pre (va_Pl hP) hK (va_Dl hD)⟩ rfl rfl hl.1 rfl (lv_room (Nat.le_of_ble_eq_true rfl)) dL_law_792 ⟨hrc, hrs⟩) hP hD hS hA rfl (fun H locs hP hD hS => ?_)
        refine lv_istore (lv' := [(6, .int (nI 0)), (5, .int (nI 1)), (4, .int (nI i)), (0, .ref b), (1, .ref h), (2, .ref h2), (3, .ref ob)]) hx hb dL_law_795 hl (by decide) rfl (fun ls hl => ?_)
        refine lv_aload_n hx hb dL_law_797 rfl (lv_at hl 5 rfl) ?_
        refine q_callI (r := nI 1) (va_runV (As := []) (rest := []) ⟨hx, hb, hml, hown, hts⟩ (kX1_thrown l D h2 ad2 cI cJ cZ td gc ex mpa di mu dc dg da dh dt dv dd ms ak se mr 1) (cwV 0 hts gL_law_X1_thrown rfl rfl rfl (by decide +kernel) ⟨Nat.le_of_ble_eq_true rfl, Nat.le_of_ble_eq_true rfl⟩) ⟨pP_blind, va_recv hK (va_Pl hP) (ci := 1) (q0 := 0) rfl rfl, pP_pre (va_Pl hP) hK⟩ rfl rfl hl.1 rfl (lv_room (Nat.le_of_ble_eq_true rfl)) dL_law_798 ⟨hrc, hrs⟩) ?_
        refine lv_iload hx hb dL_law_801 (lv_at hl 1 rfl) ?_
        refine lv_icmp_eq (tgt := 808) hx hb dL_law_803 (by decide) (fun _ => ?_) (fun z => absurd rfl z)
        refine lv_iload hx hb dL_law_808 (lv_at hl 1 rfl) ?_
        refine lv_if_ne (tgt := 825) hx hb dL_law_810 (by decide) (fun _ => ?_) (fun z => absurd z (by decide))
        have hP := va_Psw hP
        have hD := va_Dsw hD
        refine lv_goto (tgt := 1367) hx hb dL_law_825 (by decide) ?_
        exact K f lev ex pa mpa di qu mu gc dg dp da dh dt dv dd ds ms dc td ho ak se pr mr 1 H locs ls ⟨hT, hQ, hB, hSR, hPP, hPM, by omega, hmz⟩ hP hD hS (lv_sub hl [2, 3, 4, 5, 6] rfl)
      · rcases k_ix 3 (by decide) (xs (i + 4)) with ht | ⟨tp, ht, e4⟩
        · refine lv_aload_n hx hb dL_law_736 rfl (lv_at hl 2 rfl) ?_
          refine lq_arg (k := 1) (y := xs (i + 1)) hx hb hX hbl hbA hS hl 1 0 rfl rfl (show i + 1 < L by omega) (by omega) (by decide) (rfl) dL_law_737 dL_law_738 dL_law_740 dL_law_741 dL_law_742 ?_
          refine lq_arg (k := 2) (y := xs (i + 2)) hx hb hX hbl hbA hS hl 1 0 rfl rfl (show i + 2 < L by omega) (by omega) (by decide) (rfl) dL_law_743 dL_law_744 dL_law_746 dL_law_747 dL_law_748 ?_
          refine lq_arg (k := 3) (y := xs (i + 3)) hx hb hX hbl hbA hS hl 1 0 rfl rfl (show i + 3 < L by omega) (by omega) (by decide) (rfl) dL_law_749 dL_law_750 dL_law_752 dL_law_753 dL_law_754 ?_
          refine lq_arg (k := 4) (y := xs (i + 4)) hx hb hX hbl hbA hS hl 1 0 rfl rfl (show i + 4 < L by omega) (by omega) (by decide) (rfl) dL_law_755 dL_law_756 dL_law_758 dL_law_759 dL_law_760 ?_
          refine lv_aload_n hx hb dL_law_761 rfl (lv_at hl 4 rfl) ?_
          refine q_ecall (k := 1) (vx_runSW (As := [.ref h, .int (xs (i + 1)), .int (xs (i + 2)), .int (xs (i + 3)), .int (xs (i + 4)), .ref ob]) (rest := []) ⟨hx, hb, hml, hown, hts⟩ (kL_valueXI l D h ad cI cZ ex pa di qu gc dg dp dv dd ds dc td ho ak se pr hlf ob (xs (i + 1)) (xs (i + 2)) (xs (i + 3)) (xs (i + 4)) (Or.inr ⟨g, hg, e1, he, Or.inr ⟨a, ha, e2, Or.inr ⟨sp, hs, e3, ht⟩⟩⟩)) (vx_cwSW 6 hts gL_law_L_value rfl rfl rfl (by decide +kernel) ⟨Nat.le_of_ble_eq_true rfl, Nat.le_of_ble_eq_true rfl⟩) ⟨tN_blind, tN_pre (va_Pl (va_Pl hP)) (hK.sub [0, 1] rfl) (tEA_at hE hS) hN⟩ rfl rfl hl.1 rfl (lv_room (Nat.le_of_ble_eq_true rfl)) dL_law_762 ⟨hrc, hrs⟩) hP hS (fun H hP hS => ?_)
          refine lv_istore (lv' := [(5, .int (nI 1)), (4, .int (nI i)), (0, .ref b), (1, .ref h), (2, .ref h2), (3, .ref ob)]) hx hb dL_law_765 hl (by decide) rfl (fun ls hl => ?_)
          refine lv_aload_n hx hb dL_law_767 rfl (lv_at hl 4 rfl) ?_
          refine lq_arg (k := 1) (y := xs (i + 1)) hx hb hX hbl hbA hS hl 2 1 rfl rfl (show i + 1 < L by omega) (by omega) (by decide) (rfl) dL_law_768 dL_law_769 dL_law_771 dL_law_772 dL_law_773 ?_
          refine lq_arg (k := 2) (y := xs (i + 2)) hx hb hX hbl hbA hS hl 2 1 rfl rfl (show i + 2 < L by omega) (by omega) (by decide) (rfl) dL_law_774 dL_law_775 dL_law_777 dL_law_778 dL_law_779 ?_
          refine lq_arg (k := 3) (y := xs (i + 3)) hx hb hX hbl hbA hS hl 2 1 rfl rfl (show i + 3 < L by omega) (by omega) (by decide) (rfl) dL_law_780 dL_law_781 dL_law_783 dL_law_784 dL_law_785 ?_
          refine lq_arg (k := 4) (y := xs (i + 4)) hx hb hX hbl hbA hS hl 2 1 rfl rfl (show i + 4 < L by omega) (by omega) (by decide) (rfl) dL_law_786 dL_law_787 dL_law_789 dL_law_790 dL_law_791 ?_
          have hP := va_Psw hP
          have hD := va_Dsw hD
          refine q_wcallFI (wa' := (mW h2 ad2 cI cJ cZ td gc ex mpa di mu dc dg da dh dt dv dd ms ak se mr 1)) (wb := ((hW h ad cI cZ ex pa di qu gc dg dp dv dd ds dc td ho ak se pr) ++ [(ob, .inl (cJ, 1, .inr (.inl f)))])) (r := nI 0) (va_runV (As := [.int (xs (i + 1)), .int (xs (i + 2)), .int (xs (i + 3)), .int (xs (i + 4))]) (rest := []) ⟨hx, hb, hml, hown, hts⟩ (kX1_value1 l D h2 ad2 cI cJ cZ td gc ex mpa di mu dc dg da dh dt dv dd ms ak se mr th _ (xs (i + 1)) (xs (i + 2)) (xs (i + 3)) (xs (i + 4)) hgc hxg (Or.inr ⟨g, hg, e1, he, Or.inr ⟨a, ha, e2, Or.inr ⟨sp, hs, e3, ht⟩⟩⟩)) (cwV 4 hts gL_law_X1_value rfl rfl rfl (by decide +kernel) ⟨Nat.le_of_ble_eq_true rfl, Nat.le_of_ble_eq_true rfl⟩) ⟨wP_blind, va_recv hK (va_Pl hP) (ci := 1) (q0 := 0) rfl rfl, wP_pre (va_Pl hP) hK (va_Dl hD)⟩ rfl rfl hl.1 rfl (lv_room (Nat.le_of_ble_eq_true rfl)) dL_law_792 ⟨hrc, hrs⟩) hP hD hS hA rfl (fun H locs hP hD hS => ?_)
          refine lv_istore (lv' := [(6, .int (nI 0)), (5, .int (nI 1)), (4, .int (nI i)), (0, .ref b), (1, .ref h), (2, .ref h2), (3, .ref ob)]) hx hb dL_law_795 hl (by decide) rfl (fun ls hl => ?_)
          refine lv_aload_n hx hb dL_law_797 rfl (lv_at hl 5 rfl) ?_
          refine q_callI (r := nI 1) (va_runV (As := []) (rest := []) ⟨hx, hb, hml, hown, hts⟩ (kX1_thrown l D h2 ad2 cI cJ cZ td gc ex mpa di mu dc dg da dh dt dv dd ms ak se mr 1) (cwV 0 hts gL_law_X1_thrown rfl rfl rfl (by decide +kernel) ⟨Nat.le_of_ble_eq_true rfl, Nat.le_of_ble_eq_true rfl⟩) ⟨pP_blind, va_recv hK (va_Pl hP) (ci := 1) (q0 := 0) rfl rfl, pP_pre (va_Pl hP) hK⟩ rfl rfl hl.1 rfl (lv_room (Nat.le_of_ble_eq_true rfl)) dL_law_798 ⟨hrc, hrs⟩) ?_
          refine lv_iload hx hb dL_law_801 (lv_at hl 1 rfl) ?_
          refine lv_icmp_eq (tgt := 808) hx hb dL_law_803 (by decide) (fun _ => ?_) (fun z => absurd rfl z)
          refine lv_iload hx hb dL_law_808 (lv_at hl 1 rfl) ?_
          refine lv_if_ne (tgt := 825) hx hb dL_law_810 (by decide) (fun _ => ?_) (fun z => absurd z (by decide))
          have hP := va_Psw hP
          have hD := va_Dsw hD
          refine lv_goto (tgt := 1367) hx hb dL_law_825 (by decide) ?_
          exact K f lev ex pa mpa di qu mu gc dg dp da dh dt dv dd ds ms dc td ho ak se pr mr 1 H locs ls ⟨hT, hQ, hB, hSR, hPP, hPM, by omega, hmz⟩ hP hD hS (lv_sub hl [2, 3, 4, 5, 6] rfl)
        · have hvc : vlu ex mpa ho dv a (sp + 1) (tp + 1) g = vlu ex pa ho dv a (sp + 1) (tp + 1) g := vlu_cong hme hpr hg
          by_cases hnv : vlu ex pa ho dv a (sp + 1) (tp + 1) g = none
          · refine lv_aload_n hx hb dL_law_736 rfl (lv_at hl 2 rfl) ?_
            refine lq_arg (k := 1) (y := nI g) hx hb hX hbl hbA hS hl 1 0 rfl rfl (show i + 1 < L by omega) (by omega) (by decide) (e1) dL_law_737 dL_law_738 dL_law_740 dL_law_741 dL_law_742 ?_
            refine lq_arg (k := 2) (y := nI a) hx hb hX hbl hbA hS hl 1 0 rfl rfl (show i + 2 < L by omega) (by omega) (by decide) (e2) dL_law_743 dL_law_744 dL_law_746 dL_law_747 dL_law_748 ?_
            refine lq_arg (k := 3) (y := nI sp) hx hb hX hbl hbA hS hl 1 0 rfl rfl (show i + 3 < L by omega) (by omega) (by decide) (e3) dL_law_749 dL_law_750 dL_law_752 dL_law_753 dL_law_754 ?_
            refine lq_arg (k := 4) (y := nI tp) hx hb hX hbl hbA hS hl 1 0 rfl rfl (show i + 4 < L by omega) (by omega) (by decide) (e4) dL_law_755 dL_law_756 dL_law_758 dL_law_759 dL_law_760 ?_
            refine lv_aload_n hx hb dL_law_761 rfl (lv_at hl 4 rfl) ?_
            refine q_ecall (k := 2) (vx_runSW (As := [.ref h, .int (nI g), .int (nI a), .int (nI sp), .int (nI tp), .ref ob]) (rest := []) ⟨hx, hb, hml, hown, hts⟩ (kL_valueXS l D h ad cI cZ ex pa di qu gc dg dp dv dd ds dc td ho ak se pr hlf ob g a sp tp hg ha hs ht he hpr hHO hdc hdv hnv) (vx_cwSW 6 hts gL_law_L_value rfl rfl rfl (by decide +kernel) ⟨Nat.le_of_ble_eq_true rfl, Nat.le_of_ble_eq_true rfl⟩) ⟨tN_blind, tN_pre (va_Pl (va_Pl hP)) (hK.sub [0, 1] rfl) (tEA_at hE hS) hN⟩ rfl rfl hl.1 rfl (lv_room (Nat.le_of_ble_eq_true rfl)) dL_law_762 ⟨hrc, hrs⟩) hP hS (fun H hP hS => ?_)
            refine lv_istore (lv' := [(5, .int (nI 2)), (4, .int (nI i)), (0, .ref b), (1, .ref h), (2, .ref h2), (3, .ref ob)]) hx hb dL_law_765 hl (by decide) rfl (fun ls hl => ?_)
            refine lv_aload_n hx hb dL_law_767 rfl (lv_at hl 4 rfl) ?_
            refine lq_arg (k := 1) (y := nI g) hx hb hX hbl hbA hS hl 2 1 rfl rfl (show i + 1 < L by omega) (by omega) (by decide) (e1) dL_law_768 dL_law_769 dL_law_771 dL_law_772 dL_law_773 ?_
            refine lq_arg (k := 2) (y := nI a) hx hb hX hbl hbA hS hl 2 1 rfl rfl (show i + 2 < L by omega) (by omega) (by decide) (e2) dL_law_774 dL_law_775 dL_law_777 dL_law_778 dL_law_779 ?_
            refine lq_arg (k := 3) (y := nI sp) hx hb hX hbl hbA hS hl 2 1 rfl rfl (show i + 3 < L by omega) (by omega) (by decide) (e3) dL_law_780 dL_law_781 dL_law_783 dL_law_784 dL_law_785 ?_
            refine lq_arg (k := 4) (y := nI tp) hx hb hX hbl hbA hS hl 2 1 rfl rfl (show i + 4 < L by omega) (by omega) (by decide) (e4) dL_law_786 dL_law_787 dL_law_789 dL_law_790 dL_law_791 ?_
            have hP := va_Psw hP
            have hD := va_Dsw hD
            refine q_wcallFI (wa' := (mW h2 ad2 cI cJ cZ td gc ex mpa di mu dc dg da dh dt dv dd ms ak se mr 2)) (wb := ((hW h ad cI cZ ex pa di qu gc dg dp dv dd ds dc td ho ak se pr) ++ [(ob, .inl (cJ, 1, .inr (.inl f)))])) (r := nI 0) (va_runV (As := [.int (nI g), .int (nI a), .int (nI sp), .int (nI tp)]) (rest := []) ⟨hx, hb, hml, hown, hts⟩ (kX1_value2 l D h2 ad2 cI cJ cZ td gc ex mpa di mu dc dg da dh dt dv dd ms ak se mr th _ ho lev g a sp tp htim hg he ha hs ht hgc hxg hrd hRH hmpr hHO hdv (hvc.trans hnv)) (cwV 4 hts gL_law_X1_value rfl rfl rfl (by decide +kernel) ⟨Nat.le_of_ble_eq_true rfl, Nat.le_of_ble_eq_true rfl⟩) ⟨wP_blind, va_recv hK (va_Pl hP) (ci := 1) (q0 := 0) rfl rfl, wP_pre (va_Pl hP) hK (va_Dl hD)⟩ rfl rfl hl.1 rfl (lv_room (Nat.le_of_ble_eq_true rfl)) dL_law_792 ⟨hrc, hrs⟩) hP hD hS hA rfl (fun H locs hP hD hS => ?_)
            refine lv_istore (lv' := [(6, .int (nI 0)), (5, .int (nI 2)), (4, .int (nI i)), (0, .ref b), (1, .ref h), (2, .ref h2), (3, .ref ob)]) hx hb dL_law_795 hl (by decide) rfl (fun ls hl => ?_)
            refine lv_aload_n hx hb dL_law_797 rfl (lv_at hl 5 rfl) ?_
            refine q_callI (r := nI 2) (va_runV (As := []) (rest := []) ⟨hx, hb, hml, hown, hts⟩ (kX1_thrown l D h2 ad2 cI cJ cZ td gc ex mpa di mu dc dg da dh dt dv dd ms ak se mr 2) (cwV 0 hts gL_law_X1_thrown rfl rfl rfl (by decide +kernel) ⟨Nat.le_of_ble_eq_true rfl, Nat.le_of_ble_eq_true rfl⟩) ⟨pP_blind, va_recv hK (va_Pl hP) (ci := 1) (q0 := 0) rfl rfl, pP_pre (va_Pl hP) hK⟩ rfl rfl hl.1 rfl (lv_room (Nat.le_of_ble_eq_true rfl)) dL_law_798 ⟨hrc, hrs⟩) ?_
            refine lv_iload hx hb dL_law_801 (lv_at hl 1 rfl) ?_
            refine lv_icmp_eq (tgt := 808) hx hb dL_law_803 (by decide) (fun _ => ?_) (fun z => absurd rfl z)
            refine lv_iload hx hb dL_law_808 (lv_at hl 1 rfl) ?_
            refine lv_if_ne (tgt := 825) hx hb dL_law_810 (by decide) (fun _ => ?_) (fun z => absurd z (by decide))
            have hP := va_Psw hP
            have hD := va_Dsw hD
            refine lv_goto (tgt := 1367) hx hb dL_law_825 (by decide) ?_
            exact K f lev ex pa mpa di qu mu gc dg dp da dh dt dv dd ds ms dc td ho ak se pr mr 2 H locs ls ⟨hT, hQ, hB, hSR, hPP, hPM, by omega, hmz⟩ hP hD hS (lv_sub hl [2, 3, 4, 5, 6] rfl)
          · refine lv_aload_n hx hb dL_law_736 rfl (lv_at hl 2 rfl) ?_
            refine lq_arg (k := 1) (y := nI g) hx hb hX hbl hbA hS hl 1 0 rfl rfl (show i + 1 < L by omega) (by omega) (by decide) (e1) dL_law_737 dL_law_738 dL_law_740 dL_law_741 dL_law_742 ?_
            refine lq_arg (k := 2) (y := nI a) hx hb hX hbl hbA hS hl 1 0 rfl rfl (show i + 2 < L by omega) (by omega) (by decide) (e2) dL_law_743 dL_law_744 dL_law_746 dL_law_747 dL_law_748 ?_
            refine lq_arg (k := 3) (y := nI sp) hx hb hX hbl hbA hS hl 1 0 rfl rfl (show i + 3 < L by omega) (by omega) (by decide) (e3) dL_law_749 dL_law_750 dL_law_752 dL_law_753 dL_law_754 ?_
            refine lq_arg (k := 4) (y := nI tp) hx hb hX hbl hbA hS hl 1 0 rfl rfl (show i + 4 < L by omega) (by omega) (by decide) (e4) dL_law_755 dL_law_756 dL_law_758 dL_law_759 dL_law_760 ?_
            refine lv_aload_n hx hb dL_law_761 rfl (lv_at hl 4 rfl) ?_
            refine q_wcallFI (wa' := ((hW h ad cI cZ ex pa di qu gc dg dp dv dd ds dc td ho ak se pr) ++ [(ob, .inl (cJ, 1, .inr (.inl (vp_updL f 0 (oL (vlu ex pa ho dv a (sp + 1) (tp + 1) g))))))])) (wb := (mW h2 ad2 cI cJ cZ td gc ex mpa di mu dc dg da dh dt dv dd ms ak se mr th)) (r := nI 0) (vx_runSW (As := [.ref h, .int (nI g), .int (nI a), .int (nI sp), .int (nI tp), .ref ob]) (rest := []) ⟨hx, hb, hml, hown, hts⟩ (kL_value l D h ad cI cZ ex pa di qu gc dg dp dv dd ds dc td ho ak se pr cJ ob f _ g a sp tp hg ha hs ht he hpr hHO hdc hdv hnv (fun k e => by have := vlu_in hHO hpr hdv hg ha (show sp + 1 < 4 by omega) (show tp + 1 < 4 by omega) k e; omega)) (vx_cwSW 6 hts gL_law_L_value rfl rfl rfl (by decide +kernel) ⟨Nat.le_of_ble_eq_true rfl, Nat.le_of_ble_eq_true rfl⟩) ⟨wP_blind, wP_pre (va_Pl hP) hK (va_Dl hD)⟩ rfl rfl hl.1 rfl (lv_room (Nat.le_of_ble_eq_true rfl)) dL_law_762 ⟨hrc0, hrs0⟩) hP hD hS hA rfl (fun H locs hP hD hS => ?_)
            refine lv_istore (lv' := [(5, .int (nI 0)), (4, .int (nI i)), (0, .ref b), (1, .ref h), (2, .ref h2), (3, .ref ob)]) hx hb dL_law_765 hl (by decide) rfl (fun ls hl => ?_)
            refine lv_aload_n hx hb dL_law_767 rfl (lv_at hl 4 rfl) ?_
            refine lq_arg (k := 1) (y := nI g) hx hb hX hbl hbA hS hl 2 1 rfl rfl (show i + 1 < L by omega) (by omega) (by decide) (e1) dL_law_768 dL_law_769 dL_law_771 dL_law_772 dL_law_773 ?_
            refine lq_arg (k := 2) (y := nI a) hx hb hX hbl hbA hS hl 2 1 rfl rfl (show i + 2 < L by omega) (by omega) (by decide) (e2) dL_law_774 dL_law_775 dL_law_777 dL_law_778 dL_law_779 ?_
            refine lq_arg (k := 3) (y := nI sp) hx hb hX hbl hbA hS hl 2 1 rfl rfl (show i + 3 < L by omega) (by omega) (by decide) (e3) dL_law_780 dL_law_781 dL_law_783 dL_law_784 dL_law_785 ?_
            refine lq_arg (k := 4) (y := nI tp) hx hb hX hbl hbA hS hl 2 1 rfl rfl (show i + 4 < L by omega) (by omega) (by decide) (e4) dL_law_786 dL_law_787 dL_law_789 dL_law_790 dL_law_791 ?_
            have hP := va_Psw hP
            have hD := va_Dsw hD
            refine q_wcallFI (wa' := (mW h2 ad2 cI cJ cZ td gc ex mpa di mu dc dg da dh dt dv dd ms ak se mr 0)) (wb := ((hW h ad cI cZ ex pa di qu gc dg dp dv dd ds dc td ho ak se pr) ++ [(ob, .inl (cJ, 1, .inr (.inl (vp_updL f 0 (oL (vlu ex pa ho dv a (sp + 1) (tp + 1) g))))))])) (r := oI (vlu ex mpa ho dv a (sp + 1) (tp + 1) g)) (va_runV (As := [.int (nI g), .int (nI a), .int (nI sp), .int (nI tp)]) (rest := []) ⟨hx, hb, hml, hown, hts⟩ (kX1_value l D h2 ad2 cI cJ cZ td gc ex mpa di mu dc dg da dh dt dv dd ms ak se mr th _ ho lev g a sp tp htim hg he ha hs ht hgc hxg hrd hRH hmpr hHO hdv (by rw [hvc]; exact hnv)) (cwV 4 hts gL_law_X1_value rfl rfl rfl (by decide +kernel) ⟨Nat.le_of_ble_eq_true rfl, Nat.le_of_ble_eq_true rfl⟩) ⟨wP_blind, va_recv hK (va_Pl hP) (ci := 1) (q0 := 0) rfl rfl, wP_pre (va_Pl hP) hK (va_Dl hD)⟩ rfl rfl hl.1 rfl (lv_room (Nat.le_of_ble_eq_true rfl)) dL_law_792 ⟨hrc0, hrs0⟩) hP hD hS hA rfl (fun H locs hP hD hS => ?_)
            refine lv_istore (lv' := [(6, .int (oI (vlu ex mpa ho dv a (sp + 1) (tp + 1) g))), (5, .int (nI 0)), (4, .int (nI i)), (0, .ref b), (1, .ref h), (2, .ref h2), (3, .ref ob)]) hx hb dL_law_795 hl (by decide) rfl (fun ls hl => ?_)
            refine lv_aload_n hx hb dL_law_797 rfl (lv_at hl 5 rfl) ?_
            refine q_callI (r := nI 0) (va_runV (As := []) (rest := []) ⟨hx, hb, hml, hown, hts⟩ (kX1_thrown l D h2 ad2 cI cJ cZ td gc ex mpa di mu dc dg da dh dt dv dd ms ak se mr 0) (cwV 0 hts gL_law_X1_thrown rfl rfl rfl (by decide +kernel) ⟨Nat.le_of_ble_eq_true rfl, Nat.le_of_ble_eq_true rfl⟩) ⟨pP_blind, va_recv hK (va_Pl hP) (ci := 1) (q0 := 0) rfl rfl, pP_pre (va_Pl hP) hK⟩ rfl rfl hl.1 rfl (lv_room (Nat.le_of_ble_eq_true rfl)) dL_law_798 ⟨hrc0, hrs0⟩) ?_
            refine lv_iload hx hb dL_law_801 (lv_at hl 1 rfl) ?_
            refine lv_icmp_eq (tgt := 808) hx hb dL_law_803 (by decide) (fun _ => ?_) (fun z => absurd rfl z)
            refine lv_iload hx hb dL_law_808 (lv_at hl 1 rfl) ?_
            refine lv_if_ne (tgt := 825) hx hb dL_law_810 (by decide) (fun z => absurd (by decide) z) (fun _ => ?_)
            refine lv_aload_n hx hb dL_law_813 rfl (lv_at hl 6 rfl) ?_
            refine lv_iconst (v := nI 0) hx hb dL_law_814 (by decide) ?_
            refine va_lald hx hb hK (va_Pr hP) 14 2 rfl rfl (vp_in_nI (by decide) (by decide)) dL_law_815 ?_
            refine q_topL (y := (oL (vlu ex pa ho dv a (sp + 1) (tp + 1) g))) vpU ?_
            refine lv_iload hx hb dL_law_816 (lv_at hl 0 rfl) ?_
            refine lv_i2l (v := (oL (vlu ex pa ho dv a (sp + 1) (tp + 1) g))) hx hb dL_law_818 (by rw [hvc]; exact oI_l (fun k e => by have := vlu_in hHO hpr hdv hg ha (show sp + 1 < 4 by omega) (show tp + 1 < 4 by omega) k e; omega)) ?_
            refine W.lcmp hx hb dL_law_819 ?_
            refine lv_if_eq (tgt := 825) hx hb dL_law_820 (by decide) (fun _ => ?_) (fun z => absurd ((lg_cmp_eq _ _).mpr rfl) z)
            have hP := va_Psw hP
            have hD := va_Dsw hD
            refine lv_goto (tgt := 1367) hx hb dL_law_825 (by decide) ?_
            refine W.widen (k := cells + 1) (n := slots + 6) (by omega) (by omega) ?_
            exact K (vp_updL f 0 (oL (vlu ex pa ho dv a (sp + 1) (tp + 1) g))) lev ex pa mpa di qu mu gc dg dp da dh dt dv dd ds ms dc td ho ak se pr mr 0 H locs ls ⟨hT, hQ, hB, hSR, hPP, hPM, by omega, hmz⟩ hP hD hS (lv_sub hl [2, 3, 4, 5, 6] rfl)
