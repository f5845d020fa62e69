set_option maxHeartbeats 8000000 in
set_option maxRecDepth 100000 in
theorem lc_addPart {p : Program} {l : Launch} {e : Env} {s : State} {m : MethodId} {below : List Frame} {meth : Method} {c : Code} {b L : Nat} {xs : Nat → Int32} {D : va_G} {cI cJ cZ : ClassId} {h : Nat} {ad : Nat → Nat} {h2 : Nat} {ad2 : Nat → Nat} {ob : Nat} (X0 : LCX p s m meth c b L xs D cI cJ cZ) (hlf : l.stackTraces = false) {i n cells slots : Nat} (hi : i + 7 ≤ L) (hL : L ≤ 3584) (hn : n ≤ 512) (hrc : cells + 1 ≤ 1078) (hrs : slots + 6 ≤ 14711) (K : LK p l e s m below meth c b D cI cJ cZ h ad h2 ad2 ob i (cells + 1) (slots + 6) (n + 1))
    (f : Nat → Int64) (lev : Nat → Nat) (ex : Nat → Bool) (pa mpa : Nat → Option Nat) (di qu mu : Nat → Nat) (gc : Nat) (dg dp da : Nat → Nat) (dh dt dv : Nat → Option Nat) (dd ds ms : Nat → Nat) (dc td : Nat) (ho : Nat → Option Nat) (ak : Nat → Bool) (se pr mr : Nat → Option Nat) (th : Nat) (hI : LI n lev ex pa mpa di qu mu gc dg dp da dh dt dv dd ds ms dc td ho se pr mr) (H : Heap) (locs : List Loc) (hP : va_P D vwCl (((hW h ad cI cZ ex pa di qu gc dg dp dv dd ds dc td ho ak se pr) ++ [(ob, .inl (cJ, 1, .inr (.inl f)))]) ++ (mW h2 ad2 cI cJ cZ td gc ex mpa di mu dc dg da dh dt dv dd ms ak se mr th)) H) (hD : va_D (fun q : Nat => s.heap.size ≤ q) (((hW h ad cI cZ ex pa di qu gc dg dp dv dd ds dc td ho ak se pr) ++ [(ob, .inl (cJ, 1, .inr (.inl f)))]) ++ (mW h2 ad2 cI cJ cZ td gc ex mpa di mu dc dg da dh dt dv dd ms ak se mr th))) (hS : va_S (fun q : Nat => s.heap.size ≤ q) s.heap H locs) (ls : Array Slot) (hl : lv_has ls 7 [(4, .int (nI i)), (0, .ref b), (1, .ref h), (2, .ref h2), (3, .ref ob)]) : W p l e room_1 s m #[Value.ref b] below meth c H locs cells slots (lw_Z below #[Value.ref b] s) (F0 m 288 ls []) := by
  obtain ⟨C0, hK, hE, hN⟩ := X0
  obtain ⟨hx, hb, hr, hml, hown, hts0, hX, hbl, hlocks, -⟩ := id C0
  have hts : ∀ w ∈ wsL_law, w.before #[Value.ref b] s = true := fun w hw => hts0 w (wsL_law_in w hw)
  have hA : ∀ q : Nat, s.heap.size ≤ q → (fun q : Nat => s.heap.size ≤ q) q := fun _ h => h
  have hbA : ¬ (fun q : Nat => s.heap.size ≤ q) b := Nat.not_le.mpr hbl
  have hrc0 : cells ≤ 1078 := by omega
  have hrs0 : slots ≤ 14711 := by omega
  obtain ⟨hT, hQ, hB, hSR, hPP, hPM, htd, hmz⟩ := hI
  obtain ⟨hti, hme, hpr, hmpr, hpn, hgc, hxg⟩ := id hT
  have htim : TI ex mpa lev := TI_cong hme hti
  obtain ⟨hdi, hqu, hmu, hPT, hmu0⟩ := id hQ
  obtain ⟨hrd, hDR, hds, hho, hdv, hdgc⟩ := id hB
  have hHO := BR_HO hB
  have hRH := BR_RH hB
  have hdp := BR_dp hB
  obtain ⟨hdc, htdl, hdg, hda, hdh, hdt, hdd, hms2⟩ := id hrd
  rcases k_good ex (xs (i + 1)) with hg | ⟨g, hg, e1, he⟩
  · refine lv_aload_n hx hb dL_law_288 rfl (lv_at hl 2 rfl) ?_
    refine lq_arg (k := 1) (y := xs (i + 1)) hx hb hX hbl hbA hS hl 1 0 rfl rfl (show i + 1 < L by omega) (by omega) (by decide) (rfl) dL_law_289 dL_law_290 dL_law_292 dL_law_293 dL_law_294 ?_
    refine lq_arg (k := 2) (y := xs (i + 2)) hx hb hX hbl hbA hS hl 1 0 rfl rfl (show i + 2 < L by omega) (by omega) (by decide) (rfl) dL_law_295 dL_law_296 dL_law_298 dL_law_299 dL_law_300 ?_
    refine lq_arg (k := 3) (y := xs (i + 3)) hx hb hX hbl hbA hS hl 1 0 rfl rfl (show i + 3 < L by omega) (by omega) (by decide) (rfl) dL_law_301 dL_law_302 dL_law_304 dL_law_305 dL_law_306 ?_
    refine lv_aload_n hx hb dL_law_307 rfl (lv_at hl 4 rfl) ?_
    refine q_ecall (k := 1) (vx_runSW (As := [.ref h, .int (xs (i + 1)), .int (xs (i + 2)), .int (xs (i + 3)), .ref ob]) (rest := []) ⟨hx, hb, hml, hown, hts⟩ (kL_addPartXI l D h ad cI cZ ex pa di qu gc dg dp dv dd ds dc td ho ak se pr hlf ob (xs (i + 1)) (xs (i + 2)) (xs (i + 3)) (Or.inl hg)) (vx_cwSW 5 hts gL_law_L_addPart rfl rfl rfl (by decide +kernel) ⟨Nat.le_of_ble_eq_true rfl, Nat.le_of_ble_eq_true rfl⟩) ⟨tN_blind, tN_pre (va_Pl (va_Pl hP)) (hK.sub [0, 1] rfl) (tEA_at hE hS) hN⟩ rfl rfl hl.1 rfl (lv_room (Nat.le_of_ble_eq_true rfl)) dL_law_308 ⟨hrc, hrs⟩) hP hS (fun H hP hS => ?_)
    refine lv_istore (lv' := [(5, .int (nI 1)), (4, .int (nI i)), (0, .ref b), (1, .ref h), (2, .ref h2), (3, .ref ob)]) hx hb dL_law_311 hl (by decide) rfl (fun ls hl => ?_)
    refine lv_aload_n hx hb dL_law_313 rfl (lv_at hl 4 rfl) ?_
    refine lq_arg (k := 1) (y := xs (i + 1)) hx hb hX hbl hbA hS hl 2 1 rfl rfl (show i + 1 < L by omega) (by omega) (by decide) (rfl) dL_law_314 dL_law_315 dL_law_317 dL_law_318 dL_law_319 ?_
    refine lq_arg (k := 2) (y := xs (i + 2)) hx hb hX hbl hbA hS hl 2 1 rfl rfl (show i + 2 < L by omega) (by omega) (by decide) (rfl) dL_law_320 dL_law_321 dL_law_323 dL_law_324 dL_law_325 ?_
    refine lq_arg (k := 3) (y := xs (i + 3)) hx hb hX hbl hbA hS hl 2 1 rfl rfl (show i + 3 < L by omega) (by omega) (by decide) (rfl) dL_law_326 dL_law_327 dL_law_329 dL_law_330 dL_law_331 ?_
    have hP := va_Psw hP
    have hD := va_Dsw hD
    refine q_wcallFI (wa' := (mW h2 ad2 cI cJ cZ td gc ex mpa di mu dc dg da dh dt dv dd ms ak se mr 1)) (wb := ((hW h ad cI cZ ex pa di qu gc dg dp dv dd ds dc td ho ak se pr) ++ [(ob, .inl (cJ, 1, .inr (.inl f)))])) (r := nI 0) (va_runV (As := [.int (xs (i + 1)), .int (xs (i + 2)), .int (xs (i + 3))]) (rest := []) ⟨hx, hb, hml, hown, hts⟩ (kX1_addPart1 l D h2 ad2 cI cJ cZ td gc ex mpa di mu dc dg da dh dt dv dd ms ak se mr th _ (xs (i + 1)) (xs (i + 2)) (xs (i + 3)) hgc hxg (Or.inl hg)) (cwV 3 hts gL_law_X1_addPart rfl rfl rfl (by decide +kernel) ⟨Nat.le_of_ble_eq_true rfl, Nat.le_of_ble_eq_true rfl⟩) ⟨wP_blind, va_recv hK (va_Pl hP) (ci := 1) (q0 := 0) rfl rfl, wP_pre (va_Pl hP) hK (va_Dl hD)⟩ rfl rfl hl.1 rfl (lv_room (Nat.le_of_ble_eq_true rfl)) dL_law_332 ⟨hrc, hrs⟩) hP hD hS hA rfl (fun H locs hP hD hS => ?_)
    refine lv_istore (lv' := [(6, .int (nI 0)), (5, .int (nI 1)), (4, .int (nI i)), (0, .ref b), (1, .ref h), (2, .ref h2), (3, .ref ob)]) hx hb dL_law_335 hl (by decide) rfl (fun ls hl => ?_)
    refine lv_aload_n hx hb dL_law_337 rfl (lv_at hl 5 rfl) ?_
    refine q_callI (r := nI 1) (va_runV (As := []) (rest := []) ⟨hx, hb, hml, hown, hts⟩ (kX1_thrown l D h2 ad2 cI cJ cZ td gc ex mpa di mu dc dg da dh dt dv dd ms ak se mr 1) (cwV 0 hts gL_law_X1_thrown rfl rfl rfl (by decide +kernel) ⟨Nat.le_of_ble_eq_true rfl, Nat.le_of_ble_eq_true rfl⟩) ⟨pP_blind, va_recv hK (va_Pl hP) (ci := 1) (q0 := 0) rfl rfl, pP_pre (va_Pl hP) hK⟩ rfl rfl hl.1 rfl (lv_room (Nat.le_of_ble_eq_true rfl)) dL_law_338 ⟨hrc, hrs⟩) ?_
    refine lv_iload hx hb dL_law_341 (lv_at hl 1 rfl) ?_
    refine lv_icmp_eq (tgt := 348) hx hb dL_law_343 (by decide) (fun _ => ?_) (fun z => absurd rfl z)
    refine lv_iload hx hb dL_law_348 (lv_at hl 1 rfl) ?_
    refine lv_if_ne (tgt := 365) hx hb dL_law_350 (by decide) (fun _ => ?_) (fun z => absurd z (by decide))
    have hP := va_Psw hP
    have hD := va_Dsw hD
    refine lv_goto (tgt := 1367) hx hb dL_law_365 (by decide) ?_
    exact K f lev ex pa mpa di qu mu gc dg dp da dh dt dv dd ds ms dc td ho ak se pr mr 1 H locs ls ⟨hT, hQ, hB, hSR, hPP, hPM, by omega, hmz⟩ hP hD hS (lv_sub hl [2, 3, 4, 5, 6] rfl)
  · rcases k_good ex (xs (i + 2)) with hq | ⟨q, hq, e2, he2⟩
    · refine lv_aload_n hx hb dL_law_288 rfl (lv_at hl 2 rfl) ?_
      refine lq_arg (k := 1) (y := xs (i + 1)) hx hb hX hbl hbA hS hl 1 0 rfl rfl (show i + 1 < L by omega) (by omega) (by decide) (rfl) dL_law_289 dL_law_290 dL_law_292 dL_law_293 dL_law_294 ?_
      refine lq_arg (k := 2) (y := xs (i + 2)) hx hb hX hbl hbA hS hl 1 0 rfl rfl (show i + 2 < L by omega) (by omega) (by decide) (rfl) dL_law_295 dL_law_296 dL_law_298 dL_law_299 dL_law_300 ?_
      refine lq_arg (k := 3) (y := xs (i + 3)) hx hb hX hbl hbA hS hl 1 0 rfl rfl (show i + 3 < L by omega) (by omega) (by decide) (rfl) dL_law_301 dL_law_302 dL_law_304 dL_law_305 dL_law_306 ?_
      refine lv_aload_n hx hb dL_law_307 rfl (lv_at hl 4 rfl) ?_
      refine q_ecall (k := 1) (vx_runSW (As := [.ref h, .int (xs (i + 1)), .int (xs (i + 2)), .int (xs (i + 3)), .ref ob]) (rest := []) ⟨hx, hb, hml, hown, hts⟩ (kL_addPartXI l D h ad cI cZ ex pa di qu gc dg dp dv dd ds dc td ho ak se pr hlf ob (xs (i + 1)) (xs (i + 2)) (xs (i + 3)) (Or.inr ⟨g, hg, e1, he, hq⟩)) (vx_cwSW 5 hts gL_law_L_addPart rfl rfl rfl (by decide +kernel) ⟨Nat.le_of_ble_eq_true rfl, Nat.le_of_ble_eq_true rfl⟩) ⟨tN_blind, tN_pre (va_Pl (va_Pl hP)) (hK.sub [0, 1] rfl) (tEA_at hE hS) hN⟩ rfl rfl hl.1 rfl (lv_room (Nat.le_of_ble_eq_true rfl)) dL_law_308 ⟨hrc, hrs⟩) hP hS (fun H hP hS => ?_)
      refine lv_istore (lv' := [(5, .int (nI 1)), (4, .int (nI i)), (0, .ref b), (1, .ref h), (2, .ref h2), (3, .ref ob)]) hx hb dL_law_311 hl (by decide) rfl (fun ls hl => ?_)
      refine lv_aload_n hx hb dL_law_313 rfl (lv_at hl 4 rfl) ?_
      refine lq_arg (k := 1) (y := xs (i + 1)) hx hb hX hbl hbA hS hl 2 1 rfl rfl (show i + 1 < L by omega) (by omega) (by decide) (rfl) dL_law_314 dL_law_315 dL_law_317 dL_law_318 dL_law_319 ?_
      refine lq_arg (k := 2) (y := xs (i + 2)) hx hb hX hbl hbA hS hl 2 1 rfl rfl (show i + 2 < L by omega) (by omega) (by decide) (rfl) dL_law_320 dL_law_321 dL_law_323 dL_law_324 dL_law_325 ?_
      refine lq_arg (k := 3) (y := xs (i + 3)) hx hb hX hbl hbA hS hl 2 1 rfl rfl (show i + 3 < L by omega) (by omega) (by decide) (rfl) dL_law_326 dL_law_327 dL_law_329 dL_law_330 dL_law_331 ?_
      have hP := va_Psw hP
      have hD := va_Dsw hD
      refine q_wcallFI (wa' := (mW h2 ad2 cI cJ cZ td gc ex mpa di mu dc dg da dh dt dv dd ms ak se mr 1)) (wb := ((hW h ad cI cZ ex pa di qu gc dg dp dv dd ds dc td ho ak se pr) ++ [(ob, .inl (cJ, 1, .inr (.inl f)))])) (r := nI 0) (va_runV (As := [.int (xs (i + 1)), .int (xs (i + 2)), .int (xs (i + 3))]) (rest := []) ⟨hx, hb, hml, hown, hts⟩ (kX1_addPart1 l D h2 ad2 cI cJ cZ td gc ex mpa di mu dc dg da dh dt dv dd ms ak se mr th _ (xs (i + 1)) (xs (i + 2)) (xs (i + 3)) hgc hxg (Or.inr ⟨g, hg, e1, he, hq⟩)) (cwV 3 hts gL_law_X1_addPart rfl rfl rfl (by decide +kernel) ⟨Nat.le_of_ble_eq_true rfl, Nat.le_of_ble_eq_true rfl⟩) ⟨wP_blind, va_recv hK (va_Pl hP) (ci := 1) (q0 := 0) rfl rfl, wP_pre (va_Pl hP) hK (va_Dl hD)⟩ rfl rfl hl.1 rfl (lv_room (Nat.le_of_ble_eq_true rfl)) dL_law_332 ⟨hrc, hrs⟩) hP hD hS hA rfl (fun H locs hP hD hS => ?_)
      refine lv_istore (lv' := [(6, .int (nI 0)), (5, .int (nI 1)), (4, .int (nI i)), (0, .ref b), (1, .ref h), (2, .ref h2), (3, .ref ob)]) hx hb dL_law_335 hl (by decide) rfl (fun ls hl => ?_)
      refine lv_aload_n hx hb dL_law_337 rfl (lv_at hl 5 rfl) ?_
      refine q_callI (r := nI 1) (va_runV (As := []) (rest := []) ⟨hx, hb, hml, hown, hts⟩ (kX1_thrown l D h2 ad2 cI cJ cZ td gc ex mpa di mu dc dg da dh dt dv dd ms ak se mr 1) (cwV 0 hts gL_law_X1_thrown rfl rfl rfl (by decide +kernel) ⟨Nat.le_of_ble_eq_true rfl, Nat.le_of_ble_eq_true rfl⟩) ⟨pP_blind, va_recv hK (va_Pl hP) (ci := 1) (q0 := 0) rfl rfl, pP_pre (va_Pl hP) hK⟩ rfl rfl hl.1 rfl (lv_room (Nat.le_of_ble_eq_true rfl)) dL_law_338 ⟨hrc, hrs⟩) ?_
      refine lv_iload hx hb dL_law_341 (lv_at hl 1 rfl) ?_
      refine lv_icmp_eq (tgt := 348) hx hb dL_law_343 (by decide) (fun _ => ?_) (fun z => absurd rfl z)
      refine lv_iload hx hb dL_law_348 (lv_at hl 1 rfl) ?_
      refine lv_if_ne (tgt := 365) hx hb dL_law_350 (by decide) (fun _ => ?_) (fun z => absurd z (by decide))
      have hP := va_Psw hP
      have hD := va_Dsw hD
      refine lv_goto (tgt := 1367) hx hb dL_law_365 (by decide) ?_
      exact K f lev ex pa mpa di qu mu gc dg dp da dh dt dv dd ds ms dc td ho ak se pr mr 1 H locs ls ⟨hT, hQ, hB, hSR, hPP, hPM, by omega, hmz⟩ hP hD hS (lv_sub hl [2, 3, 4, 5, 6] rfl)
    · by_cases hlt : q < g
      · rcases k_rng 1 20 (by decide) (by decide) (xs (i + 3)) with hw | ⟨w, hw1, hw2, e3⟩
        · refine lv_aload_n hx hb dL_law_288 rfl (lv_at hl 2 rfl) ?_
          refine lq_arg (k := 1) (y := nI g) hx hb hX hbl hbA hS hl 1 0 rfl rfl (show i + 1 < L by omega) (by omega) (by decide) (e1) dL_law_289 dL_law_290 dL_law_292 dL_law_293 dL_law_294 ?_
          refine lq_arg (k := 2) (y := nI q) hx hb hX hbl hbA hS hl 1 0 rfl rfl (show i + 2 < L by omega) (by omega) (by decide) (e2) dL_law_295 dL_law_296 dL_law_298 dL_law_299 dL_law_300 ?_
          refine lq_arg (k := 3) (y := xs (i + 3)) hx hb hX hbl hbA hS hl 1 0 rfl rfl (show i + 3 < L by omega) (by omega) (by decide) (rfl) dL_law_301 dL_law_302 dL_law_304 dL_law_305 dL_law_306 ?_
          refine lv_aload_n hx hb dL_law_307 rfl (lv_at hl 4 rfl) ?_
          refine q_ecall (k := 2) (vx_runSW (As := [.ref h, .int (nI g), .int (nI q), .int (xs (i + 3)), .ref ob]) (rest := []) ⟨hx, hb, hml, hown, hts⟩ (kL_addPartXA l D h ad cI cZ ex pa di qu gc dg dp dv dd ds dc td ho ak se pr hlf ob g q (xs (i + 3)) hg he hq he2 (Or.inr hw)) (vx_cwSW 5 hts gL_law_L_addPart rfl rfl rfl (by decide +kernel) ⟨Nat.le_of_ble_eq_true rfl, Nat.le_of_ble_eq_true rfl⟩) ⟨tN_blind, tN_pre (va_Pl (va_Pl hP)) (hK.sub [0, 1] rfl) (tEA_at hE hS) hN⟩ rfl rfl hl.1 rfl (lv_room (Nat.le_of_ble_eq_true rfl)) dL_law_308 ⟨hrc, hrs⟩) hP hS (fun H hP hS => ?_)
          refine lv_istore (lv' := [(5, .int (nI 2)), (4, .int (nI i)), (0, .ref b), (1, .ref h), (2, .ref h2), (3, .ref ob)]) hx hb dL_law_311 hl (by decide) rfl (fun ls hl => ?_)
          refine lv_aload_n hx hb dL_law_313 rfl (lv_at hl 4 rfl) ?_
          refine lq_arg (k := 1) (y := nI g) hx hb hX hbl hbA hS hl 2 1 rfl rfl (show i + 1 < L by omega) (by omega) (by decide) (e1) dL_law_314 dL_law_315 dL_law_317 dL_law_318 dL_law_319 ?_
          refine lq_arg (k := 2) (y := nI q) hx hb hX hbl hbA hS hl 2 1 rfl rfl (show i + 2 < L by omega) (by omega) (by decide) (e2) dL_law_320 dL_law_321 dL_law_323 dL_law_324 dL_law_325 ?_
          refine lq_arg (k := 3) (y := xs (i + 3)) hx hb hX hbl hbA hS hl 2 1 rfl rfl (show i + 3 < L by omega) (by omega) (by decide) (rfl) dL_law_326 dL_law_327 dL_law_329 dL_law_330 dL_law_331 ?_
          have hP := va_Psw hP
          have hD := va_Dsw hD
          refine q_wcallFI (wa' := (mW h2 ad2 cI cJ cZ td gc ex mpa di mu dc dg da dh dt dv dd ms ak se mr 2)) (wb := ((hW h ad cI cZ ex pa di qu gc dg dp dv dd ds dc td ho ak se pr) ++ [(ob, .inl (cJ, 1, .inr (.inl f)))])) (r := nI 0) (va_runV (As := [.int (nI g), .int (nI q), .int (xs (i + 3))]) (rest := []) ⟨hx, hb, hml, hown, hts⟩ (kX1_addPart2 l D h2 ad2 cI cJ cZ td gc ex mpa di mu dc dg da dh dt dv dd ms ak se mr th _ g q (xs (i + 3)) hg he hq he2 hgc hxg (Or.inr hw)) (cwV 3 hts gL_law_X1_addPart rfl rfl rfl (by decide +kernel) ⟨Nat.le_of_ble_eq_true rfl, Nat.le_of_ble_eq_true rfl⟩) ⟨wP_blind, va_recv hK (va_Pl hP) (ci := 1) (q0 := 0) rfl rfl, wP_pre (va_Pl hP) hK (va_Dl hD)⟩ rfl rfl hl.1 rfl (lv_room (Nat.le_of_ble_eq_true rfl)) dL_law_332 ⟨hrc, hrs⟩) hP hD hS hA rfl (fun H locs hP hD hS => ?_)
          refine lv_istore (lv' := [(6, .int (nI 0)), (5, .int (nI 2)), (4, .int (nI i)), (0, .ref b), (1, .ref h), (2, .ref h2), (3, .ref ob)]) hx hb dL_law_335 hl (by decide) rfl (fun ls hl => ?_)
          refine lv_aload_n hx hb dL_law_337 rfl (lv_at hl 5 rfl) ?_
          refine q_callI (r := nI 2) (va_runV (As := []) (rest := []) ⟨hx, hb, hml, hown, hts⟩ (kX1_thrown l D h2 ad2 cI cJ cZ td gc ex mpa di mu dc dg da dh dt dv dd ms ak se mr 2) (cwV 0 hts gL_law_X1_thrown rfl rfl rfl (by decide +kernel) ⟨Nat.le_of_ble_eq_true rfl, Nat.le_of_ble_eq_true rfl⟩) ⟨pP_blind, va_recv hK (va_Pl hP) (ci := 1) (q0 := 0) rfl rfl, pP_pre (va_Pl hP) hK⟩ rfl rfl hl.1 rfl (lv_room (Nat.le_of_ble_eq_true rfl)) dL_law_338 ⟨hrc, hrs⟩) ?_
          refine lv_iload hx hb dL_law_341 (lv_at hl 1 rfl) ?_
          refine lv_icmp_eq (tgt := 348) hx hb dL_law_343 (by decide) (fun _ => ?_) (fun z => absurd rfl z)
          refine lv_iload hx hb dL_law_348 (lv_at hl 1 rfl) ?_
          refine lv_if_ne (tgt := 365) hx hb dL_law_350 (by decide) (fun _ => ?_) (fun z => absurd z (by decide))
          have hP := va_Psw hP
          have hD := va_Dsw hD
          refine lv_goto (tgt := 1367) hx hb dL_law_365 (by decide) ?_
          exact K f lev ex pa mpa di qu mu gc dg dp da dh dt dv dd ds ms dc td ho ak se pr mr 2 H locs ls ⟨hT, hQ, hB, hSR, hPP, hPM, by omega, hmz⟩ hP hD hS (lv_sub hl [2, 3, 4, 5, 6] rfl)
        · have hmq : mu (g * 16 + q) = qu (g * 16 + q) := hPT.1 g q hg hq he
          by_cases hsm : qu (g * 16 + q) + w ≤ 20
          · refine lv_aload_n hx hb dL_law_288 rfl (lv_at hl 2 rfl) ?_
            refine lq_arg (k := 1) (y := nI g) hx hb hX hbl hbA hS hl 1 0 rfl rfl (show i + 1 < L by omega) (by omega) (by decide) (e1) dL_law_289 dL_law_290 dL_law_292 dL_law_293 dL_law_294 ?_
            refine lq_arg (k := 2) (y := nI q) hx hb hX hbl hbA hS hl 1 0 rfl rfl (show i + 2 < L by omega) (by omega) (by decide) (e2) dL_law_295 dL_law_296 dL_law_298 dL_law_299 dL_law_300 ?_
            refine lq_arg (k := 3) (y := nI w) hx hb hX hbl hbA hS hl 1 0 rfl rfl (show i + 3 < L by omega) (by omega) (by decide) (e3) dL_law_301 dL_law_302 dL_law_304 dL_law_305 dL_law_306 ?_
            refine lv_aload_n hx hb dL_law_307 rfl (lv_at hl 4 rfl) ?_
            refine q_wcallFI (wa' := ((hW h ad cI cZ ex pa di (va_up qu (g * 16 + q) (qu (g * 16 + q) + w)) gc dg dp dv dd ds dc td ho ak se pr) ++ [(ob, .inl (cJ, 1, .inr (.inl (vp_updL f 0 (lN (qu (g * 16 + q) + w))))))])) (wb := (mW h2 ad2 cI cJ cZ td gc ex mpa di mu dc dg da dh dt dv dd ms ak se mr th)) (r := nI 0) (vx_runSW (As := [.ref h, .int (nI g), .int (nI q), .int (nI w), .ref ob]) (rest := []) ⟨hx, hb, hml, hown, hts⟩ (kL_addPart l D h ad cI cZ ex pa di qu gc dg dp dv dd ds dc td ho ak se pr cJ ob f _ g q w hg he hq he2 hlt hw1 hw2 hqu hsm (by omega)) (vx_cwSW 5 hts gL_law_L_addPart rfl rfl rfl (by decide +kernel) ⟨Nat.le_of_ble_eq_true rfl, Nat.le_of_ble_eq_true rfl⟩) ⟨wP_blind, wP_pre (va_Pl hP) hK (va_Dl hD)⟩ rfl rfl hl.1 rfl (lv_room (Nat.le_of_ble_eq_true rfl)) dL_law_308 ⟨hrc0, hrs0⟩) hP hD hS hA rfl (fun H locs hP hD hS => ?_)
            refine lv_istore (lv' := [(5, .int (nI 0)), (4, .int (nI i)), (0, .ref b), (1, .ref h), (2, .ref h2), (3, .ref ob)]) hx hb dL_law_311 hl (by decide) rfl (fun ls hl => ?_)
            refine lv_aload_n hx hb dL_law_313 rfl (lv_at hl 4 rfl) ?_
            refine lq_arg (k := 1) (y := nI g) hx hb hX hbl hbA hS hl 2 1 rfl rfl (show i + 1 < L by omega) (by omega) (by decide) (e1) dL_law_314 dL_law_315 dL_law_317 dL_law_318 dL_law_319 ?_
            refine lq_arg (k := 2) (y := nI q) hx hb hX hbl hbA hS hl 2 1 rfl rfl (show i + 2 < L by omega) (by omega) (by decide) (e2) dL_law_320 dL_law_321 dL_law_323 dL_law_324 dL_law_325 ?_
            refine lq_arg (k := 3) (y := nI w) hx hb hX hbl hbA hS hl 2 1 rfl rfl (show i + 3 < L by omega) (by omega) (by decide) (e3) dL_law_326 dL_law_327 dL_law_329 dL_law_330 dL_law_331 ?_
            have hP := va_Psw hP
            have hD := va_Dsw hD
            refine q_wcallFI (wa' := (mW h2 ad2 cI cJ cZ td gc ex mpa di (va_up mu (g * 16 + q) (mu (g * 16 + q) + w)) dc dg da dh dt dv dd ms ak se mr 0)) (wb := ((hW h ad cI cZ ex pa di (va_up qu (g * 16 + q) (qu (g * 16 + q) + w)) gc dg dp dv dd ds dc td ho ak se pr) ++ [(ob, .inl (cJ, 1, .inr (.inl (vp_updL f 0 (lN (qu (g * 16 + q) + w))))))])) (r := nI (mu (g * 16 + q) + w)) (va_runV (As := [.int (nI g), .int (nI q), .int (nI w)]) (rest := []) ⟨hx, hb, hml, hown, hts⟩ (kX1_addPart l D h2 ad2 cI cJ cZ td gc ex mpa di mu dc dg da dh dt dv dd ms ak se mr th _ g q w hg he hq he2 hgc hxg hlt hw1 hw2 (by rw [hmq]; exact hsm)) (cwV 3 hts gL_law_X1_addPart rfl rfl rfl (by decide +kernel) ⟨Nat.le_of_ble_eq_true rfl, Nat.le_of_ble_eq_true rfl⟩) ⟨wP_blind, va_recv hK (va_Pl hP) (ci := 1) (q0 := 0) rfl rfl, wP_pre (va_Pl hP) hK (va_Dl hD)⟩ rfl rfl hl.1 rfl (lv_room (Nat.le_of_ble_eq_true rfl)) dL_law_332 ⟨hrc0, hrs0⟩) hP hD hS hA rfl (fun H locs hP hD hS => ?_)
            refine lv_istore (lv' := [(6, .int (nI (mu (g * 16 + q) + w))), (5, .int (nI 0)), (4, .int (nI i)), (0, .ref b), (1, .ref h), (2, .ref h2), (3, .ref ob)]) hx hb dL_law_335 hl (by decide) rfl (fun ls hl => ?_)
            refine lv_aload_n hx hb dL_law_337 rfl (lv_at hl 5 rfl) ?_
            refine q_callI (r := nI 0) (va_runV (As := []) (rest := []) ⟨hx, hb, hml, hown, hts⟩ (kX1_thrown l D h2 ad2 cI cJ cZ td gc ex mpa di (va_up mu (g * 16 + q) (mu (g * 16 + q) + w)) dc dg da dh dt dv dd ms ak se mr 0) (cwV 0 hts gL_law_X1_thrown rfl rfl rfl (by decide +kernel) ⟨Nat.le_of_ble_eq_true rfl, Nat.le_of_ble_eq_true rfl⟩) ⟨pP_blind, va_recv hK (va_Pl hP) (ci := 1) (q0 := 0) rfl rfl, pP_pre (va_Pl hP) hK⟩ rfl rfl hl.1 rfl (lv_room (Nat.le_of_ble_eq_true rfl)) dL_law_338 ⟨hrc0, hrs0⟩) ?_
            refine lv_iload hx hb dL_law_341 (lv_at hl 1 rfl) ?_
            refine lv_icmp_eq (tgt := 348) hx hb dL_law_343 (by decide) (fun _ => ?_) (fun z => absurd rfl z)
            refine lv_iload hx hb dL_law_348 (lv_at hl 1 rfl) ?_
            refine lv_if_ne (tgt := 365) hx hb dL_law_350 (by decide) (fun z => absurd (by decide) z) (fun _ => ?_)
            refine lv_aload_n hx hb dL_law_353 rfl (lv_at hl 6 rfl) ?_
            refine lv_iconst (v := nI 0) hx hb dL_law_354 (by decide) ?_
            refine va_lald hx hb hK (va_Pr hP) 14 2 rfl rfl (vp_in_nI (by decide) (by decide)) dL_law_355 ?_
            refine q_topL (y := (lN (qu (g * 16 + q) + w))) vpU ?_
            refine lv_iload hx hb dL_law_356 (lv_at hl 0 rfl) ?_
            refine lv_i2l (v := (lN (qu (g * 16 + q) + w))) hx hb dL_law_358 (by rw [hmq]; exact nI_l (by omega)) ?_
            refine W.lcmp hx hb dL_law_359 ?_
            refine lv_if_eq (tgt := 365) hx hb dL_law_360 (by decide) (fun _ => ?_) (fun z => absurd ((lg_cmp_eq _ _).mpr rfl) z)
            have hP := va_Psw hP
            have hD := va_Dsw hD
            refine lv_goto (tgt := 1367) hx hb dL_law_365 (by decide) ?_
            refine W.widen (k := cells + 1) (n := slots + 6) (by omega) (by omega) ?_
            exact K (vp_updL f 0 (lN (qu (g * 16 + q) + w))) lev ex pa mpa di (va_up qu (g * 16 + q) (qu (g * 16 + q) + w)) (va_up mu (g * 16 + q) (mu (g * 16 + q) + w)) gc dg dp da dh dt dv dd ds ms dc td ho ak se pr mr 0 H locs ls ⟨hT, QR_prt hQ hg he (hxg g hg he) hq he2 hlt hsm, hB, hSR, hPP, hPM, by omega, hmz⟩ hP hD hS (lv_sub hl [2, 3, 4, 5, 6] rfl)
          · have hsm : 20 < qu (g * 16 + q) + w := by omega
            refine lv_aload_n hx hb dL_law_288 rfl (lv_at hl 2 rfl) ?_
            refine lq_arg (k := 1) (y := nI g) hx hb hX hbl hbA hS hl 1 0 rfl rfl (show i + 1 < L by omega) (by omega) (by decide) (e1) dL_law_289 dL_law_290 dL_law_292 dL_law_293 dL_law_294 ?_
            refine lq_arg (k := 2) (y := nI q) hx hb hX hbl hbA hS hl 1 0 rfl rfl (show i + 2 < L by omega) (by omega) (by decide) (e2) dL_law_295 dL_law_296 dL_law_298 dL_law_299 dL_law_300 ?_
            refine lq_arg (k := 3) (y := nI w) hx hb hX hbl hbA hS hl 1 0 rfl rfl (show i + 3 < L by omega) (by omega) (by decide) (e3) dL_law_301 dL_law_302 dL_law_304 dL_law_305 dL_law_306 ?_
            refine lv_aload_n hx hb dL_law_307 rfl (lv_at hl 4 rfl) ?_
            refine q_ecall (k := 3) (vx_runSW (As := [.ref h, .int (nI g), .int (nI q), .int (nI w), .ref ob]) (rest := []) ⟨hx, hb, hml, hown, hts⟩ (kL_addPartXS l D h ad cI cZ ex pa di qu gc dg dp dv dd ds dc td ho ak se pr hlf ob g q w hg he hq he2 hlt hw1 hw2 hqu hsm) (vx_cwSW 5 hts gL_law_L_addPart rfl rfl rfl (by decide +kernel) ⟨Nat.le_of_ble_eq_true rfl, Nat.le_of_ble_eq_true rfl⟩) ⟨tN_blind, tN_pre (va_Pl (va_Pl hP)) (hK.sub [0, 1] rfl) (tEA_at hE hS) hN⟩ rfl rfl hl.1 rfl (lv_room (Nat.le_of_ble_eq_true rfl)) dL_law_308 ⟨hrc, hrs⟩) hP hS (fun H hP hS => ?_)
            refine lv_istore (lv' := [(5, .int (nI 3)), (4, .int (nI i)), (0, .ref b), (1, .ref h), (2, .ref h2), (3, .ref ob)]) hx hb dL_law_311 hl (by decide) rfl (fun ls hl => ?_)
            refine lv_aload_n hx hb dL_law_313 rfl (lv_at hl 4 rfl) ?_
            refine lq_arg (k := 1) (y := nI g) hx hb hX hbl hbA hS hl 2 1 rfl rfl (show i + 1 < L by omega) (by omega) (by decide) (e1) dL_law_314 dL_law_315 dL_law_317 dL_law_318 dL_law_319 ?_
            refine lq_arg (k := 2) (y := nI q) hx hb hX hbl hbA hS hl 2 1 rfl rfl (show i + 2 < L by omega) (by omega) (by decide) (e2) dL_law_320 dL_law_321 dL_law_323 dL_law_324 dL_law_325 ?_
            refine lq_arg (k := 3) (y := nI w) hx hb hX hbl hbA hS hl 2 1 rfl rfl (show i + 3 < L by omega) (by omega) (by decide) (e3) dL_law_326 dL_law_327 dL_law_329 dL_law_330 dL_law_331 ?_
            have hP := va_Psw hP
            have hD := va_Dsw hD
            refine q_wcallFI (wa' := (mW h2 ad2 cI cJ cZ td gc ex mpa di mu dc dg da dh dt dv dd ms ak se mr 3)) (wb := ((hW h ad cI cZ ex pa di qu gc dg dp dv dd ds dc td ho ak se pr) ++ [(ob, .inl (cJ, 1, .inr (.inl f)))])) (r := nI 0) (va_runV (As := [.int (nI g), .int (nI q), .int (nI w)]) (rest := []) ⟨hx, hb, hml, hown, hts⟩ (kX1_addPart3 l D h2 ad2 cI cJ cZ td gc ex mpa di mu dc dg da dh dt dv dd ms ak se mr th _ g q w hg he hq he2 hgc hxg hlt hw1 hw2 hmu (by rw [hmq]; exact hsm)) (cwV 3 hts gL_law_X1_addPart rfl rfl rfl (by decide +kernel) ⟨Nat.le_of_ble_eq_true rfl, Nat.le_of_ble_eq_true rfl⟩) ⟨wP_blind, va_recv hK (va_Pl hP) (ci := 1) (q0 := 0) rfl rfl, wP_pre (va_Pl hP) hK (va_Dl hD)⟩ rfl rfl hl.1 rfl (lv_room (Nat.le_of_ble_eq_true rfl)) dL_law_332 ⟨hrc, hrs⟩) hP hD hS hA rfl (fun H locs hP hD hS => ?_)
            refine lv_istore (lv' := [(6, .int (nI 0)), (5, .int (nI 3)), (4, .int (nI i)), (0, .ref b), (1, .ref h), (2, .ref h2), (3, .ref ob)]) hx hb dL_law_335 hl (by decide) rfl (fun ls hl => ?_)
            refine lv_aload_n hx hb dL_law_337 rfl (lv_at hl 5 rfl) ?_
            refine q_callI (r := nI 3) (va_runV (As := []) (rest := []) ⟨hx, hb, hml, hown, hts⟩ (kX1_thrown l D h2 ad2 cI cJ cZ td gc ex mpa di mu dc dg da dh dt dv dd ms ak se mr 3) (cwV 0 hts gL_law_X1_thrown rfl rfl rfl (by decide +kernel) ⟨Nat.le_of_ble_eq_true rfl, Nat.le_of_ble_eq_true rfl⟩) ⟨pP_blind, va_recv hK (va_Pl hP) (ci := 1) (q0 := 0) rfl rfl, pP_pre (va_Pl hP) hK⟩ rfl rfl hl.1 rfl (lv_room (Nat.le_of_ble_eq_true rfl)) dL_law_338 ⟨hrc, hrs⟩) ?_
            refine lv_iload hx hb dL_law_341 (lv_at hl 1 rfl) ?_
            refine lv_icmp_eq (tgt := 348) hx hb dL_law_343 (by decide) (fun _ => ?_) (fun z => absurd rfl z)
            refine lv_iload hx hb dL_law_348 (lv_at hl 1 rfl) ?_
            refine lv_if_ne (tgt := 365) hx hb dL_law_350 (by decide) (fun _ => ?_) (fun z => absurd z (by decide))
            have hP := va_Psw hP
            have hD := va_Dsw hD
            refine lv_goto (tgt := 1367) hx hb dL_law_365 (by decide) ?_
            exact K f lev ex pa mpa di qu mu gc dg dp da dh dt dv dd ds ms dc td ho ak se pr mr 3 H locs ls ⟨hT, hQ, hB, hSR, hPP, hPM, by omega, hmz⟩ hP hD hS (lv_sub hl [2, 3, 4, 5, 6] rfl)
      · refine lv_aload_n hx hb dL_law_288 rfl (lv_at hl 2 rfl) ?_
        refine lq_arg (k := 1) (y := nI g) hx hb hX hbl hbA hS hl 1 0 rfl rfl (show i + 1 < L by omega) (by omega) (by decide) (e1) dL_law_289 dL_law_290 dL_law_292 dL_law_293 dL_law_294 ?_
        refine lq_arg (k := 2) (y := nI q) hx hb hX hbl hbA hS hl 1 0 rfl rfl (show i + 2 < L by omega) (by omega) (by decide) (e2) dL_law_295 dL_law_296 dL_law_298 dL_law_299 dL_law_300 ?_
        refine lq_arg (k := 3) (y := xs (i + 3)) hx hb hX hbl hbA hS hl 1 0 rfl rfl (show i + 3 < L by omega) (by omega) (by decide) (rfl) dL_law_301 dL_law_302 dL_law_304 dL_law_305 dL_law_306 ?_
        refine lv_aload_n hx hb dL_law_307 rfl (lv_at hl 4 rfl) ?_
        refine q_ecall (k := 2) (vx_runSW (As := [.ref h, .int (nI g), .int (nI q), .int (xs (i + 3)), .ref ob]) (rest := []) ⟨hx, hb, hml, hown, hts⟩ (kL_addPartXA l D h ad cI cZ ex pa di qu gc dg dp dv dd ds dc td ho ak se pr hlf ob g q (xs (i + 3)) hg he hq he2 (Or.inl (by omega))) (vx_cwSW 5 hts gL_law_L_addPart rfl rfl rfl (by decide +kernel) ⟨Nat.le_of_ble_eq_true rfl, Nat.le_of_ble_eq_true rfl⟩) ⟨tN_blind, tN_pre (va_Pl (va_Pl hP)) (hK.sub [0, 1] rfl) (tEA_at hE hS) hN⟩ rfl rfl hl.1 rfl (lv_room (Nat.le_of_ble_eq_true rfl)) dL_law_308 ⟨hrc, hrs⟩) hP hS (fun H hP hS => ?_)
        refine lv_istore (lv' := [(5, .int (nI 2)), (4, .int (nI i)), (0, .ref b), (1, .ref h), (2, .ref h2), (3, .ref ob)]) hx hb dL_law_311 hl (by decide) rfl (fun ls hl => ?_)
        refine lv_aload_n hx hb dL_law_313 rfl (lv_at hl 4 rfl) ?_
        refine lq_arg (k := 1) (y := nI g) hx hb hX hbl hbA hS hl 2 1 rfl rfl (show i + 1 < L by omega) (by omega) (by decide) (e1) dL_law_314 dL_law_315 dL_law_317 dL_law_318 dL_law_319 ?_
        refine lq_arg (k := 2) (y := nI q) hx hb hX hbl hbA hS hl 2 1 rfl rfl (show i + 2 < L by omega) (by omega) (by decide) (e2) dL_law_320 dL_law_321 dL_law_323 dL_law_324 dL_law_325 ?_
        refine lq_arg (k := 3) (y := xs (i + 3)) hx hb hX hbl hbA hS hl 2 1 rfl rfl (show i + 3 < L by omega) (by omega) (by decide) (rfl) dL_law_326 dL_law_327 dL_law_329 dL_law_330 dL_law_331 ?_
        have hP := va_Psw hP
        have hD := va_Dsw hD
        refine q_wcallFI (wa' := (mW h2 ad2 cI cJ cZ td gc ex mpa di mu dc dg da dh dt dv dd ms ak se mr 2)) (wb := ((hW h ad cI cZ ex pa di qu gc dg dp dv dd ds dc td ho ak se pr) ++ [(ob, .inl (cJ, 1, .inr (.inl f)))])) (r := nI 0) (va_runV (As := [.int (nI g), .int (nI q), .int (xs (i + 3))]) (rest := []) ⟨hx, hb, hml, hown, hts⟩ (kX1_addPart2 l D h2 ad2 cI cJ cZ td gc ex mpa di mu dc dg da dh dt dv dd ms ak se mr th _ g q (xs (i + 3)) hg he hq he2 hgc hxg (Or.inl (by omega))) (cwV 3 hts gL_law_X1_addPart rfl rfl rfl (by decide +kernel) ⟨Nat.le_of_ble_eq_true rfl, Nat.le_of_ble_eq_true rfl⟩) ⟨wP_blind, va_recv hK (va_Pl hP) (ci := 1) (q0 := 0) rfl rfl, wP_pre (va_Pl hP) hK (va_Dl hD)⟩ rfl rfl hl.1 rfl (lv_room (Nat.le_of_ble_eq_true rfl)) dL_law_332 ⟨hrc, hrs⟩) hP hD hS hA rfl (fun H locs hP hD hS => ?_)
        refine lv_istore (lv' := [(6, .int (nI 0)), (5, .int (nI 2)), (4, .int (nI i)), (0, .ref b), (1, .ref h), (2, .ref h2), (3, .ref ob)]) hx hb dL_law_335 hl (by decide) rfl (fun ls hl => ?_)
        refine lv_aload_n hx hb dL_law_337 rfl (lv_at hl 5 rfl) ?_
        refine q_callI (r := nI 2) (va_runV (As := []) (rest := []) ⟨hx, hb, hml, hown, hts⟩ (kX1_thrown l D h2 ad2 cI cJ cZ td gc ex mpa di mu dc dg da dh dt dv dd ms ak se mr 2) (cwV 0 hts gL_law_X1_thrown rfl rfl rfl (by decide +kernel) ⟨Nat.le_of_ble_eq_true rfl, Nat.le_of_ble_eq_true rfl⟩) ⟨pP_blind, va_recv hK (va_Pl hP) (ci := 1) (q0 := 0) rfl rfl, pP_pre (va_Pl hP) hK⟩ rfl rfl hl.1 rfl (lv_room (Nat.le_of_ble_eq_true rfl)) dL_law_338 ⟨hrc, hrs⟩) ?_
        refine lv_iload hx hb dL_law_341 (lv_at hl 1 rfl) ?_
        refine lv_icmp_eq (tgt := 348) hx hb dL_law_343 (by decide) (fun _ => ?_) (fun z => absurd rfl z)
        refine lv_iload hx hb dL_law_348 (lv_at hl 1 rfl) ?_
        refine lv_if_ne (tgt := 365) hx hb dL_law_350 (by decide) (fun _ => ?_) (fun z => absurd z (by decide))
        have hP := va_Psw hP
        have hD := va_Dsw hD
        refine lv_goto (tgt := 1367) hx hb dL_law_365 (by decide) ?_
        exact K f lev ex pa mpa di qu mu gc dg dp da dh dt dv dd ds ms dc td ho ak se pr mr 2 H locs ls ⟨hT, hQ, hB, hSR, hPP, hPM, by omega, hmz⟩ hP hD hS (lv_sub hl [2, 3, 4, 5, 6] rfl)

set_option maxHeartbeats 8000000 in
set_option maxRecDepth 100000 in
theorem lc_setDiscount {p : Program} {l : Launch} {e : Env} {s : State} {m : MethodId} {below : List Frame} {meth : Method} {c : Code} {b L : Nat} {xs : Nat → Int32} {D : va_G} {cI cJ cZ : ClassId} {h : Nat} {ad : Nat → Nat} {h2 : Nat} {ad2 : Nat → Nat} {ob : Nat} (X0 : LCX p s m meth c b L xs D cI cJ cZ) (hlf : l.stackTraces = false) {i n cells slots : Nat} (hi : i + 7 ≤ L) (hL : L ≤ 3584) (hn : n ≤ 512) (hrc : cells + 1 ≤ 1078) (hrs : slots + 6 ≤ 14711) (K : LK p l e s m below meth c b D cI cJ cZ h ad h2 ad2 ob i (cells + 1) (slots + 6) (n + 1))
    (f : Nat → Int64) (lev : Nat → Nat) (ex : Nat → Bool) (pa mpa : Nat → Option Nat) (di qu mu : Nat → Nat) (gc : Nat) (dg dp da : Nat → Nat) (dh dt dv : Nat → Option Nat) (dd ds ms : Nat → Nat) (dc td : Nat) (ho : Nat → Option Nat) (ak : Nat → Bool) (se pr mr : Nat → Option Nat) (th : Nat) (hI : LI n lev ex pa mpa di qu mu gc dg dp da dh dt dv dd ds ms dc td ho se pr mr) (H : Heap) (locs : List Loc) (hP : va_P D vwCl (((hW h ad cI cZ ex pa di qu gc dg dp dv dd ds dc td ho ak se pr) ++ [(ob, .inl (cJ, 1, .inr (.inl f)))]) ++ (mW h2 ad2 cI cJ cZ td gc ex mpa di mu dc dg da dh dt dv dd ms ak se mr th)) H) (hD : va_D (fun q : Nat => s.heap.size ≤ q) (((hW h ad cI cZ ex pa di qu gc dg dp dv dd ds dc td ho ak se pr) ++ [(ob, .inl (cJ, 1, .inr (.inl f)))]) ++ (mW h2 ad2 cI cJ cZ td gc ex mpa di mu dc dg da dh dt dv dd ms ak se mr th))) (hS : va_S (fun q : Nat => s.heap.size ≤ q) s.heap H locs) (ls : Array Slot) (hl : lv_has ls 7 [(4, .int (nI i)), (0, .ref b), (1, .ref h), (2, .ref h2), (3, .ref ob)]) : W p l e room_1 s m #[Value.ref b] below meth c H locs cells slots (lw_Z below #[Value.ref b] s) (F0 m 368 ls []) := by
  obtain ⟨C0, hK, hE, hN⟩ := X0
  obtain ⟨hx, hb, hr, hml, hown, hts0, hX, hbl, hlocks, -⟩ := id C0
  have hts : ∀ w ∈ wsL_law, w.before #[Value.ref b] s = true := fun w hw => hts0 w (wsL_law_in w hw)
  have hA : ∀ q : Nat, s.heap.size ≤ q → (fun q : Nat => s.heap.size ≤ q) q := fun _ h => h
  have hbA : ¬ (fun q : Nat => s.heap.size ≤ q) b := Nat.not_le.mpr hbl
  have hrc0 : cells ≤ 1078 := by omega
  have hrs0 : slots ≤ 14711 := by omega
  obtain ⟨hT, hQ, hB, hSR, hPP, hPM, htd, hmz⟩ := hI
  obtain ⟨hti, hme, hpr, hmpr, hpn, hgc, hxg⟩ := id hT
  have htim : TI ex mpa lev := TI_cong hme hti
  obtain ⟨hdi, hqu, hmu, hPT, hmu0⟩ := id hQ
  obtain ⟨hrd, hDR, hds, hho, hdv, hdgc⟩ := id hB
  have hHO := BR_HO hB
  have hRH := BR_RH hB
  have hdp := BR_dp hB
  obtain ⟨hdc, htdl, hdg, hda, hdh, hdt, hdd, hms2⟩ := id hrd
  rcases k_good ex (xs (i + 1)) with hg | ⟨g, hg, e1, he⟩
  · refine lv_aload_n hx hb dL_law_368 rfl (lv_at hl 2 rfl) ?_
    refine lq_arg (k := 1) (y := xs (i + 1)) hx hb hX hbl hbA hS hl 1 0 rfl rfl (show i + 1 < L by omega) (by omega) (by decide) (rfl) dL_law_369 dL_law_370 dL_law_372 dL_law_373 dL_law_374 ?_
    refine lq_arg (k := 2) (y := xs (i + 2)) hx hb hX hbl hbA hS hl 1 0 rfl rfl (show i + 2 < L by omega) (by omega) (by decide) (rfl) dL_law_375 dL_law_376 dL_law_378 dL_law_379 dL_law_380 ?_
    refine lv_aload_n hx hb dL_law_381 rfl (lv_at hl 4 rfl) ?_
    refine q_ecall (k := 1) (vx_runSW (As := [.ref h, .int (xs (i + 1)), .int (xs (i + 2)), .ref ob]) (rest := []) ⟨hx, hb, hml, hown, hts⟩ (kL_setDiscountXI l D h ad cI cZ ex pa di qu gc dg dp dv dd ds dc td ho ak se pr hlf ob (xs (i + 1)) (xs (i + 2)) hg) (vx_cwSW 4 hts gL_law_L_setDiscount rfl rfl rfl (by decide +kernel) ⟨Nat.le_of_ble_eq_true rfl, Nat.le_of_ble_eq_true rfl⟩) ⟨tN_blind, tN_pre (va_Pl (va_Pl hP)) (hK.sub [0, 1] rfl) (tEA_at hE hS) hN⟩ rfl rfl hl.1 rfl (lv_room (Nat.le_of_ble_eq_true rfl)) dL_law_382 ⟨hrc, hrs⟩) hP hS (fun H hP hS => ?_)
    refine lv_istore (lv' := [(5, .int (nI 1)), (4, .int (nI i)), (0, .ref b), (1, .ref h), (2, .ref h2), (3, .ref ob)]) hx hb dL_law_385 hl (by decide) rfl (fun ls hl => ?_)
    refine lv_aload_n hx hb dL_law_387 rfl (lv_at hl 4 rfl) ?_
    refine lq_arg (k := 1) (y := xs (i + 1)) hx hb hX hbl hbA hS hl 2 1 rfl rfl (show i + 1 < L by omega) (by omega) (by decide) (rfl) dL_law_388 dL_law_389 dL_law_391 dL_law_392 dL_law_393 ?_
    refine lq_arg (k := 2) (y := xs (i + 2)) hx hb hX hbl hbA hS hl 2 1 rfl rfl (show i + 2 < L by omega) (by omega) (by decide) (rfl) dL_law_394 dL_law_395 dL_law_397 dL_law_398 dL_law_399 ?_
    have hP := va_Psw hP
    have hD := va_Dsw hD
    refine q_wcallFI (wa' := (mW h2 ad2 cI cJ cZ td gc ex mpa di mu dc dg da dh dt dv dd ms ak se mr 1)) (wb := ((hW h ad cI cZ ex pa di qu gc dg dp dv dd ds dc td ho ak se pr) ++ [(ob, .inl (cJ, 1, .inr (.inl f)))])) (r := nI 0) (va_runV (As := [.int (xs (i + 1)), .int (xs (i + 2))]) (rest := []) ⟨hx, hb, hml, hown, hts⟩ (kX1_setDiscount1 l D h2 ad2 cI cJ cZ td gc ex mpa di mu dc dg da dh dt dv dd ms ak se mr th _ (xs (i + 1)) (xs (i + 2)) hgc hxg hg) (cwV 2 hts gL_law_X1_setDiscount rfl rfl rfl (by decide +kernel) ⟨Nat.le_of_ble_eq_true rfl, Nat.le_of_ble_eq_true rfl⟩) ⟨wP_blind, va_recv hK (va_Pl hP) (ci := 1) (q0 := 0) rfl rfl, wP_pre (va_Pl hP) hK (va_Dl hD)⟩ rfl rfl hl.1 rfl (lv_room (Nat.le_of_ble_eq_true rfl)) dL_law_400 ⟨hrc, hrs⟩) hP hD hS hA rfl (fun H locs hP hD hS => ?_)
    refine lv_istore (lv' := [(6, .int (nI 0)), (5, .int (nI 1)), (4, .int (nI i)), (0, .ref b), (1, .ref h), (2, .ref h2), (3, .ref ob)]) hx hb dL_law_403 hl (by decide) rfl (fun ls hl => ?_)
    refine lv_aload_n hx hb dL_law_405 rfl (lv_at hl 5 rfl) ?_
    refine q_callI (r := nI 1) (va_runV (As := []) (rest := []) ⟨hx, hb, hml, hown, hts⟩ (kX1_thrown l D h2 ad2 cI cJ cZ td gc ex mpa di mu dc dg da dh dt dv dd ms ak se mr 1) (cwV 0 hts gL_law_X1_thrown rfl rfl rfl (by decide +kernel) ⟨Nat.le_of_ble_eq_true rfl, Nat.le_of_ble_eq_true rfl⟩) ⟨pP_blind, va_recv hK (va_Pl hP) (ci := 1) (q0 := 0) rfl rfl, pP_pre (va_Pl hP) hK⟩ rfl rfl hl.1 rfl (lv_room (Nat.le_of_ble_eq_true rfl)) dL_law_406 ⟨hrc, hrs⟩) ?_
    refine lv_iload hx hb dL_law_409 (lv_at hl 1 rfl) ?_
    refine lv_icmp_eq (tgt := 416) hx hb dL_law_411 (by decide) (fun _ => ?_) (fun z => absurd rfl z)
    refine lv_iload hx hb dL_law_416 (lv_at hl 1 rfl) ?_
    refine lv_if_ne (tgt := 433) hx hb dL_law_418 (by decide) (fun _ => ?_) (fun z => absurd z (by decide))
    have hP := va_Psw hP
    have hD := va_Dsw hD
    refine lv_goto (tgt := 1367) hx hb dL_law_433 (by decide) ?_
    exact K f lev ex pa mpa di qu mu gc dg dp da dh dt dv dd ds ms dc td ho ak se pr mr 1 H locs ls ⟨hT, hQ, hB, hSR, hPP, hPM, by omega, hmz⟩ hP hD hS (lv_sub hl [2, 3, 4, 5, 6] rfl)
  · rcases k_rn0 100 (by decide) (xs (i + 2)) with hw | ⟨w, hw2, e2⟩
    · refine lv_aload_n hx hb dL_law_368 rfl (lv_at hl 2 rfl) ?_
      refine lq_arg (k := 1) (y := nI g) hx hb hX hbl hbA hS hl 1 0 rfl rfl (show i + 1 < L by omega) (by omega) (by decide) (e1) dL_law_369 dL_law_370 dL_law_372 dL_law_373 dL_law_374 ?_
      refine lq_arg (k := 2) (y := xs (i + 2)) hx hb hX hbl hbA hS hl 1 0 rfl rfl (show i + 2 < L by omega) (by omega) (by decide) (rfl) dL_law_375 dL_law_376 dL_law_378 dL_law_379 dL_law_380 ?_
      refine lv_aload_n hx hb dL_law_381 rfl (lv_at hl 4 rfl) ?_
      refine q_ecall (k := 2) (vx_runSW (As := [.ref h, .int (nI g), .int (xs (i + 2)), .ref ob]) (rest := []) ⟨hx, hb, hml, hown, hts⟩ (kL_setDiscountXA l D h ad cI cZ ex pa di qu gc dg dp dv dd ds dc td ho ak se pr hlf ob g (xs (i + 2)) hg he hw) (vx_cwSW 4 hts gL_law_L_setDiscount rfl rfl rfl (by decide +kernel) ⟨Nat.le_of_ble_eq_true rfl, Nat.le_of_ble_eq_true rfl⟩) ⟨tN_blind, tN_pre (va_Pl (va_Pl hP)) (hK.sub [0, 1] rfl) (tEA_at hE hS) hN⟩ rfl rfl hl.1 rfl (lv_room (Nat.le_of_ble_eq_true rfl)) dL_law_382 ⟨hrc, hrs⟩) hP hS (fun H hP hS => ?_)
      refine lv_istore (lv' := [(5, .int (nI 2)), (4, .int (nI i)), (0, .ref b), (1, .ref h), (2, .ref h2), (3, .ref ob)]) hx hb dL_law_385 hl (by decide) rfl (fun ls hl => ?_)
      refine lv_aload_n hx hb dL_law_387 rfl (lv_at hl 4 rfl) ?_
      refine lq_arg (k := 1) (y := nI g) hx hb hX hbl hbA hS hl 2 1 rfl rfl (show i + 1 < L by omega) (by omega) (by decide) (e1) dL_law_388 dL_law_389 dL_law_391 dL_law_392 dL_law_393 ?_
      refine lq_arg (k := 2) (y := xs (i + 2)) hx hb hX hbl hbA hS hl 2 1 rfl rfl (show i + 2 < L by omega) (by omega) (by decide) (rfl) dL_law_394 dL_law_395 dL_law_397 dL_law_398 dL_law_399 ?_
      have hP := va_Psw hP
      have hD := va_Dsw hD
      refine q_wcallFI (wa' := (mW h2 ad2 cI cJ cZ td gc ex mpa di mu dc dg da dh dt dv dd ms ak se mr 2)) (wb := ((hW h ad cI cZ ex pa di qu gc dg dp dv dd ds dc td ho ak se pr) ++ [(ob, .inl (cJ, 1, .inr (.inl f)))])) (r := nI 0) (va_runV (As := [.int (nI g), .int (xs (i + 2))]) (rest := []) ⟨hx, hb, hml, hown, hts⟩ (kX1_setDiscount2 l D h2 ad2 cI cJ cZ td gc ex mpa di mu dc dg da dh dt dv dd ms ak se mr th _ g (xs (i + 2)) hg he hgc hxg hw) (cwV 2 hts gL_law_X1_setDiscount rfl rfl rfl (by decide +kernel) ⟨Nat.le_of_ble_eq_true rfl, Nat.le_of_ble_eq_true rfl⟩) ⟨wP_blind, va_recv hK (va_Pl hP) (ci := 1) (q0 := 0) rfl rfl, wP_pre (va_Pl hP) hK (va_Dl hD)⟩ rfl rfl hl.1 rfl (lv_room (Nat.le_of_ble_eq_true rfl)) dL_law_400 ⟨hrc, hrs⟩) hP hD hS hA rfl (fun H locs hP hD hS => ?_)
      refine lv_istore (lv' := [(6, .int (nI 0)), (5, .int (nI 2)), (4, .int (nI i)), (0, .ref b), (1, .ref h), (2, .ref h2), (3, .ref ob)]) hx hb dL_law_403 hl (by decide) rfl (fun ls hl => ?_)
      refine lv_aload_n hx hb dL_law_405 rfl (lv_at hl 5 rfl) ?_
      refine q_callI (r := nI 2) (va_runV (As := []) (rest := []) ⟨hx, hb, hml, hown, hts⟩ (kX1_thrown l D h2 ad2 cI cJ cZ td gc ex mpa di mu dc dg da dh dt dv dd ms ak se mr 2) (cwV 0 hts gL_law_X1_thrown rfl rfl rfl (by decide +kernel) ⟨Nat.le_of_ble_eq_true rfl, Nat.le_of_ble_eq_true rfl⟩) ⟨pP_blind, va_recv hK (va_Pl hP) (ci := 1) (q0 := 0) rfl rfl, pP_pre (va_Pl hP) hK⟩ rfl rfl hl.1 rfl (lv_room (Nat.le_of_ble_eq_true rfl)) dL_law_406 ⟨hrc, hrs⟩) ?_
      refine lv_iload hx hb dL_law_409 (lv_at hl 1 rfl) ?_
      refine lv_icmp_eq (tgt := 416) hx hb dL_law_411 (by decide) (fun _ => ?_) (fun z => absurd rfl z)
      refine lv_iload hx hb dL_law_416 (lv_at hl 1 rfl) ?_
      refine lv_if_ne (tgt := 433) hx hb dL_law_418 (by decide) (fun _ => ?_) (fun z => absurd z (by decide))
      have hP := va_Psw hP
      have hD := va_Dsw hD
      refine lv_goto (tgt := 1367) hx hb dL_law_433 (by decide) ?_
      exact K f lev ex pa mpa di qu mu gc dg dp da dh dt dv dd ds ms dc td ho ak se pr mr 2 H locs ls ⟨hT, hQ, hB, hSR, hPP, hPM, by omega, hmz⟩ hP hD hS (lv_sub hl [2, 3, 4, 5, 6] rfl)
    · refine lv_aload_n hx hb dL_law_368 rfl (lv_at hl 2 rfl) ?_
      refine lq_arg (k := 1) (y := nI g) hx hb hX hbl hbA hS hl 1 0 rfl rfl (show i + 1 < L by omega) (by omega) (by decide) (e1) dL_law_369 dL_law_370 dL_law_372 dL_law_373 dL_law_374 ?_
      refine lq_arg (k := 2) (y := nI w) hx hb hX hbl hbA hS hl 1 0 rfl rfl (show i + 2 < L by omega) (by omega) (by decide) (e2) dL_law_375 dL_law_376 dL_law_378 dL_law_379 dL_law_380 ?_
      refine lv_aload_n hx hb dL_law_381 rfl (lv_at hl 4 rfl) ?_
      refine q_wcallFI (wa' := ((hW h ad cI cZ ex pa (va_up di g w) qu gc dg dp dv dd ds dc td ho ak se pr) ++ [(ob, .inl (cJ, 1, .inr (.inl (vp_updL f 0 (lN (di g))))))])) (wb := (mW h2 ad2 cI cJ cZ td gc ex mpa di mu dc dg da dh dt dv dd ms ak se mr th)) (r := nI 0) (vx_runSW (As := [.ref h, .int (nI g), .int (nI w), .ref ob]) (rest := []) ⟨hx, hb, hml, hown, hts⟩ (kL_setDiscount l D h ad cI cZ ex pa di qu gc dg dp dv dd ds dc td ho ak se pr cJ ob f _ g w hg he hw2 (by have := hdi g hg; omega)) (vx_cwSW 4 hts gL_law_L_setDiscount rfl rfl rfl (by decide +kernel) ⟨Nat.le_of_ble_eq_true rfl, Nat.le_of_ble_eq_true rfl⟩) ⟨wP_blind, wP_pre (va_Pl hP) hK (va_Dl hD)⟩ rfl rfl hl.1 rfl (lv_room (Nat.le_of_ble_eq_true rfl)) dL_law_382 ⟨hrc0, hrs0⟩) hP hD hS hA rfl (fun H locs hP hD hS => ?_)
      refine lv_istore (lv' := [(5, .int (nI 0)), (4, .int (nI i)), (0, .ref b), (1, .ref h), (2, .ref h2), (3, .ref ob)]) hx hb dL_law_385 hl (by decide) rfl (fun ls hl => ?_)
      refine lv_aload_n hx hb dL_law_387 rfl (lv_at hl 4 rfl) ?_
      refine lq_arg (k := 1) (y := nI g) hx hb hX hbl hbA hS hl 2 1 rfl rfl (show i + 1 < L by omega) (by omega) (by decide) (e1) dL_law_388 dL_law_389 dL_law_391 dL_law_392 dL_law_393 ?_
      refine lq_arg (k := 2) (y := nI w) hx hb hX hbl hbA hS hl 2 1 rfl rfl (show i + 2 < L by omega) (by omega) (by decide) (e2) dL_law_394 dL_law_395 dL_law_397 dL_law_398 dL_law_399 ?_
      have hP := va_Psw hP
      have hD := va_Dsw hD
      refine q_wcallFI (wa' := (mW h2 ad2 cI cJ cZ td gc ex mpa (va_up di g w) mu dc dg da dh dt dv dd ms ak se mr 0)) (wb := ((hW h ad cI cZ ex pa (va_up di g w) qu gc dg dp dv dd ds dc td ho ak se pr) ++ [(ob, .inl (cJ, 1, .inr (.inl (vp_updL f 0 (lN (di g))))))])) (r := nI (di g)) (va_runV (As := [.int (nI g), .int (nI w)]) (rest := []) ⟨hx, hb, hml, hown, hts⟩ (kX1_setDiscount l D h2 ad2 cI cJ cZ td gc ex mpa di mu dc dg da dh dt dv dd ms ak se mr th _ g w hg he hgc hxg hw2) (cwV 2 hts gL_law_X1_setDiscount rfl rfl rfl (by decide +kernel) ⟨Nat.le_of_ble_eq_true rfl, Nat.le_of_ble_eq_true rfl⟩) ⟨wP_blind, va_recv hK (va_Pl hP) (ci := 1) (q0 := 0) rfl rfl, wP_pre (va_Pl hP) hK (va_Dl hD)⟩ rfl rfl hl.1 rfl (lv_room (Nat.le_of_ble_eq_true rfl)) dL_law_400 ⟨hrc0, hrs0⟩) hP hD hS hA rfl (fun H locs hP hD hS => ?_)
      refine lv_istore (lv' := [(6, .int (nI (di g))), (5, .int (nI 0)), (4, .int (nI i)), (0, .ref b), (1, .ref h), (2, .ref h2), (3, .ref ob)]) hx hb dL_law_403 hl (by decide) rfl (fun ls hl => ?_)
      refine lv_aload_n hx hb dL_law_405 rfl (lv_at hl 5 rfl) ?_
      refine q_callI (r := nI 0) (va_runV (As := []) (rest := []) ⟨hx, hb, hml, hown, hts⟩ (kX1_thrown l D h2 ad2 cI cJ cZ td gc ex mpa (va_up di g w) mu dc dg da dh dt dv dd ms ak se mr 0) (cwV 0 hts gL_law_X1_thrown rfl rfl rfl (by decide +kernel) ⟨Nat.le_of_ble_eq_true rfl, Nat.le_of_ble_eq_true rfl⟩) ⟨pP_blind, va_recv hK (va_Pl hP) (ci := 1) (q0 := 0) rfl rfl, pP_pre (va_Pl hP) hK⟩ rfl rfl hl.1 rfl (lv_room (Nat.le_of_ble_eq_true rfl)) dL_law_406 ⟨hrc0, hrs0⟩) ?_
      refine lv_iload hx hb dL_law_409 (lv_at hl 1 rfl) ?_
      refine lv_icmp_eq (tgt := 416) hx hb dL_law_411 (by decide) (fun _ => ?_) (fun z => absurd rfl z)
      refine lv_iload hx hb dL_law_416 (lv_at hl 1 rfl) ?_
      refine lv_if_ne (tgt := 433) hx hb dL_law_418 (by decide) (fun z => absurd (by decide) z) (fun _ => ?_)
      refine lv_aload_n hx hb dL_law_421 rfl (lv_at hl 6 rfl) ?_
      refine lv_iconst (v := nI 0) hx hb dL_law_422 (by decide) ?_
      refine va_lald hx hb hK (va_Pr hP) 14 2 rfl rfl (vp_in_nI (by decide) (by decide)) dL_law_423 ?_
      refine q_topL (y := (lN (di g))) vpU ?_
      refine lv_iload hx hb dL_law_424 (lv_at hl 0 rfl) ?_
      refine lv_i2l (v := (lN (di g))) hx hb dL_law_426 (nI_l (by have := hdi g hg; omega)) ?_
      refine W.lcmp hx hb dL_law_427 ?_
      refine lv_if_eq (tgt := 433) hx hb dL_law_428 (by decide) (fun _ => ?_) (fun z => absurd ((lg_cmp_eq _ _).mpr rfl) z)
      have hP := va_Psw hP
      have hD := va_Dsw hD
      refine lv_goto (tgt := 1367) hx hb dL_law_433 (by decide) ?_
      refine W.widen (k := cells + 1) (n := slots + 6) (by omega) (by omega) ?_
      exact K (vp_updL f 0 (lN (di g))) lev ex pa mpa (va_up di g w) qu mu gc dg dp da dh dt dv dd ds ms dc td ho ak se pr mr 0 H locs ls ⟨hT, QR_dis hQ hw2, hB, hSR, hPP, hPM, by omega, hmz⟩ hP hD hS (lv_sub hl [2, 3, 4, 5, 6] rfl)

set_option maxHeartbeats 8000000 in
set_option maxRecDepth 100000 in
theorem lc_draft {p : Program} {l : Launch} {e : Env} {s : State} {m : MethodId} {below : List Frame} {meth : Method} {c : Code} {b L : Nat} {xs : Nat → Int32} {D : va_G} {cI cJ cZ : ClassId} {h : Nat} {ad : Nat → Nat} {h2 : Nat} {ad2 : Nat → Nat} {ob : Nat} (X0 : LCX p s m meth c b L xs D cI cJ cZ) (hlf : l.stackTraces = false) {i n cells slots : Nat} (hi : i + 7 ≤ L) (hL : L ≤ 3584) (hn : n ≤ 512) (hrc : cells + 1 ≤ 1078) (hrs : slots + 6 ≤ 14711) (K : LK p l e s m below meth c b D cI cJ cZ h ad h2 ad2 ob i (cells + 1) (slots + 6) (n + 1))
    (f : Nat → Int64) (lev : Nat → Nat) (ex : Nat → Bool) (pa mpa : Nat → Option Nat) (di qu mu : Nat → Nat) (gc : Nat) (dg dp da : Nat → Nat) (dh dt dv : Nat → Option Nat) (dd ds ms : Nat → Nat) (dc td : Nat) (ho : Nat → Option Nat) (ak : Nat → Bool) (se pr mr : Nat → Option Nat) (th : Nat) (hI : LI n lev ex pa mpa di qu mu gc dg dp da dh dt dv dd ds ms dc td ho se pr mr) (H : Heap) (locs : List Loc) (hP : va_P D vwCl (((hW h ad cI cZ ex pa di qu gc dg dp dv dd ds dc td ho ak se pr) ++ [(ob, .inl (cJ, 1, .inr (.inl f)))]) ++ (mW h2 ad2 cI cJ cZ td gc ex mpa di mu dc dg da dh dt dv dd ms ak se mr th)) H) (hD : va_D (fun q : Nat => s.heap.size ≤ q) (((hW h ad cI cZ ex pa di qu gc dg dp dv dd ds dc td ho ak se pr) ++ [(ob, .inl (cJ, 1, .inr (.inl f)))]) ++ (mW h2 ad2 cI cJ cZ td gc ex mpa di mu dc dg da dh dt dv dd ms ak se mr th))) (hS : va_S (fun q : Nat => s.heap.size ≤ q) s.heap H locs) (ls : Array Slot) (hl : lv_has ls 7 [(4, .int (nI i)), (0, .ref b), (1, .ref h), (2, .ref h2), (3, .ref ob)]) : W p l e room_1 s m #[Value.ref b] below meth c H locs cells slots (lw_Z below #[Value.ref b] s) (F0 m 436 ls []) := by
  obtain ⟨C0, hK, hE, hN⟩ := X0
  obtain ⟨hx, hb, hr, hml, hown, hts0, hX, hbl, hlocks, -⟩ := id C0
  have hts : ∀ w ∈ wsL_law, w.before #[Value.ref b] s = true := fun w hw => hts0 w (wsL_law_in w hw)
  have hA : ∀ q : Nat, s.heap.size ≤ q → (fun q : Nat => s.heap.size ≤ q) q := fun _ h => h
  have hbA : ¬ (fun q : Nat => s.heap.size ≤ q) b := Nat.not_le.mpr hbl
  have hrc0 : cells ≤ 1078 := by omega
  have hrs0 : slots ≤ 14711 := by omega
  obtain ⟨hT, hQ, hB, hSR, hPP, hPM, htd, hmz⟩ := hI
  obtain ⟨hti, hme, hpr, hmpr, hpn, hgc, hxg⟩ := id hT
  have htim : TI ex mpa lev := TI_cong hme hti
  obtain ⟨hdi, hqu, hmu, hPT, hmu0⟩ := id hQ
  obtain ⟨hrd, hDR, hds, hho, hdv, hdgc⟩ := id hB
  have hHO := BR_HO hB
  have hRH := BR_RH hB
  have hdp := BR_dp hB
  obtain ⟨hdc, htdl, hdg, hda, hdh, hdt, hdd, hms2⟩ := id hrd
  rcases k_good ex (xs (i + 1)) with hg | ⟨g, hg, e1, he⟩
  · refine lv_aload_n hx hb dL_law_436 rfl (lv_at hl 2 rfl) ?_
    refine lq_arg (k := 1) (y := xs (i + 1)) hx hb hX hbl hbA hS hl 1 0 rfl rfl (show i + 1 < L by omega) (by omega) (by decide) (rfl) dL_law_437 dL_law_438 dL_law_440 dL_law_441 dL_law_442 ?_
    refine lq_arg (k := 2) (y := xs (i + 2)) hx hb hX hbl hbA hS hl 1 0 rfl rfl (show i + 2 < L by omega) (by omega) (by decide) (rfl) dL_law_443 dL_law_444 dL_law_446 dL_law_447 dL_law_448 ?_
    refine lq_arg (k := 3) (y := xs (i + 3)) hx hb hX hbl hbA hS hl 1 0 rfl rfl (show i + 3 < L by omega) (by omega) (by decide) (rfl) dL_law_449 dL_law_450 dL_law_452 dL_law_453 dL_law_454 ?_
    refine lq_arg (k := 4) (y := xs (i + 4)) hx hb hX hbl hbA hS hl 1 0 rfl rfl (show i + 4 < L by omega) (by omega) (by decide) (rfl) dL_law_455 dL_law_456 dL_law_458 dL_law_459 dL_law_460 ?_
    refine lq_arg (k := 5) (y := xs (i + 5)) hx hb hX hbl hbA hS hl 1 0 rfl rfl (show i + 5 < L by omega) (by omega) (by decide) (rfl) dL_law_461 dL_law_462 dL_law_464 dL_law_465 dL_law_466 ?_
    refine lq_ar6 (k := 6) (y := xs (i + 6)) hx hb hX hbl hbA hS hl 1 0 rfl rfl (show i + 6 < L by omega) (by omega) (by decide) (rfl) dL_law_467 dL_law_468 dL_law_470 dL_law_472 dL_law_473 ?_
    refine lv_aload_n hx hb dL_law_474 rfl (lv_at hl 4 rfl) ?_
    refine q_ecall (k := 1) (vx_runSW (As := [.ref h, .int (xs (i + 1)), .int (xs (i + 2)), .int (xs (i + 3)), .int (xs (i + 4)), .int (xs (i + 5)), .int (xs (i + 6)), .ref ob]) (rest := []) ⟨hx, hb, hml, hown, hts⟩ (kL_draftXI l D h ad cI cZ ex pa di qu gc dg dp dv dd ds dc td ho ak se pr hlf ob (xs (i + 1)) (xs (i + 2)) (xs (i + 3)) (xs (i + 4)) (xs (i + 5)) (xs (i + 6)) (Or.inl hg)) (vx_cwSW 8 hts gL_law_L_draft rfl rfl rfl (by decide +kernel) ⟨Nat.le_of_ble_eq_true rfl, Nat.le_of_ble_eq_true rfl⟩) ⟨tN_blind, tN_pre (va_Pl (va_Pl hP)) (hK.sub [0, 1] rfl) (tEA_at hE hS) hN⟩ rfl rfl hl.1 rfl (lv_room (Nat.le_of_ble_eq_true rfl)) dL_law_475 ⟨hrc, hrs⟩) hP hS (fun H hP hS => ?_)
    refine lv_istore (lv' := [(5, .int (nI 1)), (4, .int (nI i)), (0, .ref b), (1, .ref h), (2, .ref h2), (3, .ref ob)]) hx hb dL_law_478 hl (by decide) rfl (fun ls hl => ?_)
    refine lv_aload_n hx hb dL_law_480 rfl (lv_at hl 4 rfl) ?_
    refine lq_arg (k := 1) (y := xs (i + 1)) hx hb hX hbl hbA hS hl 2 1 rfl rfl (show i + 1 < L by omega) (by omega) (by decide) (rfl) dL_law_481 dL_law_482 dL_law_484 dL_law_485 dL_law_486 ?_
    refine lq_arg (k := 2) (y := xs (i + 2)) hx hb hX hbl hbA hS hl 2 1 rfl rfl (show i + 2 < L by omega) (by omega) (by decide) (rfl) dL_law_487 dL_law_488 dL_law_490 dL_law_491 dL_law_492 ?_
    refine lq_arg (k := 3) (y := xs (i + 3)) hx hb hX hbl hbA hS hl 2 1 rfl rfl (show i + 3 < L by omega) (by omega) (by decide) (rfl) dL_law_493 dL_law_494 dL_law_496 dL_law_497 dL_law_498 ?_
    refine lq_arg (k := 4) (y := xs (i + 4)) hx hb hX hbl hbA hS hl 2 1 rfl rfl (show i + 4 < L by omega) (by omega) (by decide) (rfl) dL_law_499 dL_law_500 dL_law_502 dL_law_503 dL_law_504 ?_
    refine lq_arg (k := 5) (y := xs (i + 5)) hx hb hX hbl hbA hS hl 2 1 rfl rfl (show i + 5 < L by omega) (by omega) (by decide) (rfl) dL_law_505 dL_law_506 dL_law_508 dL_law_509 dL_law_510 ?_
    refine lq_ar6 (k := 6) (y := xs (i + 6)) hx hb hX hbl hbA hS hl 2 1 rfl rfl (show i + 6 < L by omega) (by omega) (by decide) (rfl) dL_law_511 dL_law_512 dL_law_514 dL_law_516 dL_law_517 ?_
    have hP := va_Psw hP
    have hD := va_Dsw hD
    refine q_wcallFI (wa' := (mW h2 ad2 cI cJ cZ td gc ex mpa di mu dc dg da dh dt dv dd ms ak se mr 1)) (wb := ((hW h ad cI cZ ex pa di qu gc dg dp dv dd ds dc td ho ak se pr) ++ [(ob, .inl (cJ, 1, .inr (.inl f)))])) (r := nI 0) (va_runV (As := [.int (xs (i + 1)), .int (xs (i + 2)), .int (xs (i + 3)), .int (xs (i + 4)), .int (xs (i + 5)), .int (xs (i + 6))]) (rest := []) ⟨hx, hb, hml, hown, hts⟩ (kX1_draft1 l D h2 ad2 cI cJ cZ td gc ex mpa di mu dc dg da dh dt dv dd ms ak se mr th _ (xs (i + 1)) (xs (i + 2)) (xs (i + 3)) (xs (i + 4)) (xs (i + 5)) (xs (i + 6)) hgc hxg (Or.inl hg)) (cwV 6 hts gL_law_X1_draft rfl rfl rfl (by decide +kernel) ⟨Nat.le_of_ble_eq_true rfl, Nat.le_of_ble_eq_true rfl⟩) ⟨wP_blind, va_recv hK (va_Pl hP) (ci := 1) (q0 := 0) rfl rfl, wP_pre (va_Pl hP) hK (va_Dl hD)⟩ rfl rfl hl.1 rfl (lv_room (Nat.le_of_ble_eq_true rfl)) dL_law_518 ⟨hrc, hrs⟩) hP hD hS hA rfl (fun H locs hP hD hS => ?_)
    refine lv_istore (lv' := [(6, .int (nI 0)), (5, .int (nI 1)), (4, .int (nI i)), (0, .ref b), (1, .ref h), (2, .ref h2), (3, .ref ob)]) hx hb dL_law_521 hl (by decide) rfl (fun ls hl => ?_)
    refine lv_aload_n hx hb dL_law_523 rfl (lv_at hl 5 rfl) ?_
    refine q_callI (r := nI 1) (va_runV (As := []) (rest := []) ⟨hx, hb, hml, hown, hts⟩ (kX1_thrown l D h2 ad2 cI cJ cZ td gc ex mpa di mu dc dg da dh dt dv dd ms ak se mr 1) (cwV 0 hts gL_law_X1_thrown rfl rfl rfl (by decide +kernel) ⟨Nat.le_of_ble_eq_true rfl, Nat.le_of_ble_eq_true rfl⟩) ⟨pP_blind, va_recv hK (va_Pl hP) (ci := 1) (q0 := 0) rfl rfl, pP_pre (va_Pl hP) hK⟩ rfl rfl hl.1 rfl (lv_room (Nat.le_of_ble_eq_true rfl)) dL_law_524 ⟨hrc, hrs⟩) ?_
    refine lv_iload hx hb dL_law_527 (lv_at hl 1 rfl) ?_
    refine lv_icmp_eq (tgt := 534) hx hb dL_law_529 (by decide) (fun _ => ?_) (fun z => absurd rfl z)
    refine lv_iload hx hb dL_law_534 (lv_at hl 1 rfl) ?_
    refine lv_if_ne (tgt := 551) hx hb dL_law_536 (by decide) (fun _ => ?_) (fun z => absurd z (by decide))
    have hP := va_Psw hP
    have hD := va_Dsw hD
    refine lv_goto (tgt := 1367) hx hb dL_law_551 (by decide) ?_
    exact K f lev ex pa mpa di qu mu gc dg dp da dh dt dv dd ds ms dc td ho ak se pr mr 1 H locs ls ⟨hT, hQ, hB, hSR, hPP, hPM, by omega, hmz⟩ hP hD hS (lv_sub hl [2, 3, 4, 5, 6] rfl)
  · rcases k_ix 6 (by decide) (xs (i + 2)) with ha | ⟨a, ha, e2⟩
    · refine lv_aload_n hx hb dL_law_436 rfl (lv_at hl 2 rfl) ?_
      refine lq_arg (k := 1) (y := xs (i + 1)) hx hb hX hbl hbA hS hl 1 0 rfl rfl (show i + 1 < L by omega) (by omega) (by decide) (rfl) dL_law_437 dL_law_438 dL_law_440 dL_law_441 dL_law_442 ?_
      refine lq_arg (k := 2) (y := xs (i + 2)) hx hb hX hbl hbA hS hl 1 0 rfl rfl (show i + 2 < L by omega) (by omega) (by decide) (rfl) dL_law_443 dL_law_444 dL_law_446 dL_law_447 dL_law_448 ?_
      refine lq_arg (k := 3) (y := xs (i + 3)) hx hb hX hbl hbA hS hl 1 0 rfl rfl (show i + 3 < L by omega) (by omega) (by decide) (rfl) dL_law_449 dL_law_450 dL_law_452 dL_law_453 dL_law_454 ?_
      refine lq_arg (k := 4) (y := xs (i + 4)) hx hb hX hbl hbA hS hl 1 0 rfl rfl (show i + 4 < L by omega) (by omega) (by decide) (rfl) dL_law_455 dL_law_456 dL_law_458 dL_law_459 dL_law_460 ?_
      refine lq_arg (k := 5) (y := xs (i + 5)) hx hb hX hbl hbA hS hl 1 0 rfl rfl (show i + 5 < L by omega) (by omega) (by decide) (rfl) dL_law_461 dL_law_462 dL_law_464 dL_law_465 dL_law_466 ?_
      refine lq_ar6 (k := 6) (y := xs (i + 6)) hx hb hX hbl hbA hS hl 1 0 rfl rfl (show i + 6 < L by omega) (by omega) (by decide) (rfl) dL_law_467 dL_law_468 dL_law_470 dL_law_472 dL_law_473 ?_
      refine lv_aload_n hx hb dL_law_474 rfl (lv_at hl 4 rfl) ?_
      refine q_ecall (k := 1) (vx_runSW (As := [.ref h, .int (xs (i + 1)), .int (xs (i + 2)), .int (xs (i + 3)), .int (xs (i + 4)), .int (xs (i + 5)), .int (xs (i + 6)), .ref ob]) (rest := []) ⟨hx, hb, hml, hown, hts⟩ (kL_draftXI l D h ad cI cZ ex pa di qu gc dg dp dv dd ds dc td ho ak se pr hlf ob (xs (i + 1)) (xs (i + 2)) (xs (i + 3)) (xs (i + 4)) (xs (i + 5)) (xs (i + 6)) (Or.inr ⟨g, hg, e1, he, Or.inl ha⟩)) (vx_cwSW 8 hts gL_law_L_draft rfl rfl rfl (by decide +kernel) ⟨Nat.le_of_ble_eq_true rfl, Nat.le_of_ble_eq_true rfl⟩) ⟨tN_blind, tN_pre (va_Pl (va_Pl hP)) (hK.sub [0, 1] rfl) (tEA_at hE hS) hN⟩ rfl rfl hl.1 rfl (lv_room (Nat.le_of_ble_eq_true rfl)) dL_law_475 ⟨hrc, hrs⟩) hP hS (fun H hP hS => ?_)
      refine lv_istore (lv' := [(5, .int (nI 1)), (4, .int (nI i)), (0, .ref b), (1, .ref h), (2, .ref h2), (3, .ref ob)]) hx hb dL_law_478 hl (by decide) rfl (fun ls hl => ?_)
      refine lv_aload_n hx hb dL_law_480 rfl (lv_at hl 4 rfl) ?_
      refine lq_arg (k := 1) (y := xs (i + 1)) hx hb hX hbl hbA hS hl 2 1 rfl rfl (show i + 1 < L by omega) (by omega) (by decide) (rfl) dL_law_481 dL_law_482 dL_law_484 dL_law_485 dL_law_486 ?_
      refine lq_arg (k := 2) (y := xs (i + 2)) hx hb hX hbl hbA hS hl 2 1 rfl rfl (show i + 2 < L by omega) (by omega) (by decide) (rfl) dL_law_487 dL_law_488 dL_law_490 dL_law_491 dL_law_492 ?_
      refine lq_arg (k := 3) (y := xs (i + 3)) hx hb hX hbl hbA hS hl 2 1 rfl rfl (show i + 3 < L by omega) (by omega) (by decide) (rfl) dL_law_493 dL_law_494 dL_law_496 dL_law_497 dL_law_498 ?_
      refine lq_arg (k := 4) (y := xs (i + 4)) hx hb hX hbl hbA hS hl 2 1 rfl rfl (show i + 4 < L by omega) (by omega) (by decide) (rfl) dL_law_499 dL_law_500 dL_law_502 dL_law_503 dL_law_504 ?_
      refine lq_arg (k := 5) (y := xs (i + 5)) hx hb hX hbl hbA hS hl 2 1 rfl rfl (show i + 5 < L by omega) (by omega) (by decide) (rfl) dL_law_505 dL_law_506 dL_law_508 dL_law_509 dL_law_510 ?_
      refine lq_ar6 (k := 6) (y := xs (i + 6)) hx hb hX hbl hbA hS hl 2 1 rfl rfl (show i + 6 < L by omega) (by omega) (by decide) (rfl) dL_law_511 dL_law_512 dL_law_514 dL_law_516 dL_law_517 ?_
      have hP := va_Psw hP
      have hD := va_Dsw hD
      refine q_wcallFI (wa' := (mW h2 ad2 cI cJ cZ td gc ex mpa di mu dc dg da dh dt dv dd ms ak se mr 1)) (wb := ((hW h ad cI cZ ex pa di qu gc dg dp dv dd ds dc td ho ak se pr) ++ [(ob, .inl (cJ, 1, .inr (.inl f)))])) (r := nI 0) (va_runV (As := [.int (xs (i + 1)), .int (xs (i + 2)), .int (xs (i + 3)), .int (xs (i + 4)), .int (xs (i + 5)), .int (xs (i + 6))]) (rest := []) ⟨hx, hb, hml, hown, hts⟩ (kX1_draft1 l D h2 ad2 cI cJ cZ td gc ex mpa di mu dc dg da dh dt dv dd ms ak se mr th _ (xs (i + 1)) (xs (i + 2)) (xs (i + 3)) (xs (i + 4)) (xs (i + 5)) (xs (i + 6)) hgc hxg (Or.inr ⟨g, hg, e1, he, Or.inl ha⟩)) (cwV 6 hts gL_law_X1_draft rfl rfl rfl (by decide +kernel) ⟨Nat.le_of_ble_eq_true rfl, Nat.le_of_ble_eq_true rfl⟩) ⟨wP_blind, va_recv hK (va_Pl hP) (ci := 1) (q0 := 0) rfl rfl, wP_pre (va_Pl hP) hK (va_Dl hD)⟩ rfl rfl hl.1 rfl (lv_room (Nat.le_of_ble_eq_true rfl)) dL_law_518 ⟨hrc, hrs⟩) hP hD hS hA rfl (fun H locs hP hD hS => ?_)
      refine lv_istore (lv' := [(6, .int (nI 0)), (5, .int (nI 1)), (4, .int (nI i)), (0, .ref b), (1, .ref h), (2, .ref h2), (3, .ref ob)]) hx hb dL_law_521 hl (by decide) rfl (fun ls hl => ?_)
      refine lv_aload_n hx hb dL_law_523 rfl (lv_at hl 5 rfl) ?_
      refine q_callI (r := nI 1) (va_runV (As := []) (rest := []) ⟨hx, hb, hml, hown, hts⟩ (kX1_thrown l D h2 ad2 cI cJ cZ td gc ex mpa di mu dc dg da dh dt dv dd ms ak se mr 1) (cwV 0 hts gL_law_X1_thrown rfl rfl rfl (by decide +kernel) ⟨Nat.le_of_ble_eq_true rfl, Nat.le_of_ble_eq_true rfl⟩) ⟨pP_blind, va_recv hK (va_Pl hP) (ci := 1) (q0 := 0) rfl rfl, pP_pre (va_Pl hP) hK⟩ rfl rfl hl.1 rfl (lv_room (Nat.le_of_ble_eq_true rfl)) dL_law_524 ⟨hrc, hrs⟩) ?_
      refine lv_iload hx hb dL_law_527 (lv_at hl 1 rfl) ?_
      refine lv_icmp_eq (tgt := 534) hx hb dL_law_529 (by decide) (fun _ => ?_) (fun z => absurd rfl z)
      refine lv_iload hx hb dL_law_534 (lv_at hl 1 rfl) ?_
      refine lv_if_ne (tgt := 551) hx hb dL_law_536 (by decide) (fun _ => ?_) (fun z => absurd z (by decide))
      have hP := va_Psw hP
      have hD := va_Dsw hD
      refine lv_goto (tgt := 1367) hx hb dL_law_551 (by decide) ?_
      exact K f lev ex pa mpa di qu mu gc dg dp da dh dt dv dd ds ms dc td ho ak se pr mr 1 H locs ls ⟨hT, hQ, hB, hSR, hPP, hPM, by omega, hmz⟩ hP hD hS (lv_sub hl [2, 3, 4, 5, 6] rfl)
    · rcases k_opt (xs (i + 3)) with hxb | ⟨x, e3, hxr⟩
      · refine lv_aload_n hx hb dL_law_436 rfl (lv_at hl 2 rfl) ?_
        refine lq_arg (k := 1) (y := xs (i + 1)) hx hb hX hbl hbA hS hl 1 0 rfl rfl (show i + 1 < L by omega) (by omega) (by decide) (rfl) dL_law_437 dL_law_438 dL_law_440 dL_law_441 dL_law_442 ?_
        refine lq_arg (k := 2) (y := xs (i + 2)) hx hb hX hbl hbA hS hl 1 0 rfl rfl (show i + 2 < L by omega) (by omega) (by decide) (rfl) dL_law_443 dL_law_444 dL_law_446 dL_law_447 dL_law_448 ?_
        refine lq_arg (k := 3) (y := xs (i + 3)) hx hb hX hbl hbA hS hl 1 0 rfl rfl (show i + 3 < L by omega) (by omega) (by decide) (rfl) dL_law_449 dL_law_450 dL_law_452 dL_law_453 dL_law_454 ?_
        refine lq_arg (k := 4) (y := xs (i + 4)) hx hb hX hbl hbA hS hl 1 0 rfl rfl (show i + 4 < L by omega) (by omega) (by decide) (rfl) dL_law_455 dL_law_456 dL_law_458 dL_law_459 dL_law_460 ?_
        refine lq_arg (k := 5) (y := xs (i + 5)) hx hb hX hbl hbA hS hl 1 0 rfl rfl (show i + 5 < L by omega) (by omega) (by decide) (rfl) dL_law_461 dL_law_462 dL_law_464 dL_law_465 dL_law_466 ?_
        refine lq_ar6 (k := 6) (y := xs (i + 6)) hx hb hX hbl hbA hS hl 1 0 rfl rfl (show i + 6 < L by omega) (by omega) (by decide) (rfl) dL_law_467 dL_law_468 dL_law_470 dL_law_472 dL_law_473 ?_
        refine lv_aload_n hx hb dL_law_474 rfl (lv_at hl 4 rfl) ?_
        refine q_ecall (k := 1) (vx_runSW (As := [.ref h, .int (xs (i + 1)), .int (xs (i + 2)), .int (xs (i + 3)), .int (xs (i + 4)), .int (xs (i + 5)), .int (xs (i + 6)), .ref ob]) (rest := []) ⟨hx, hb, hml, hown, hts⟩ (kL_draftXI l D h ad cI cZ ex pa di qu gc dg dp dv dd ds dc td ho ak se pr hlf ob (xs (i + 1)) (xs (i + 2)) (xs (i + 3)) (xs (i + 4)) (xs (i + 5)) (xs (i + 6)) (Or.inr ⟨g, hg, e1, he, Or.inr ⟨a, ha, e2, Or.inl hxb⟩⟩)) (vx_cwSW 8 hts gL_law_L_draft rfl rfl rfl (by decide +kernel) ⟨Nat.le_of_ble_eq_true rfl, Nat.le_of_ble_eq_true rfl⟩) ⟨tN_blind, tN_pre (va_Pl (va_Pl hP)) (hK.sub [0, 1] rfl) (tEA_at hE hS) hN⟩ rfl rfl hl.1 rfl (lv_room (Nat.le_of_ble_eq_true rfl)) dL_law_475 ⟨hrc, hrs⟩) hP hS (fun H hP hS => ?_)
        refine lv_istore (lv' := [(5, .int (nI 1)), (4, .int (nI i)), (0, .ref b), (1, .ref h), (2, .ref h2), (3, .ref ob)]) hx hb dL_law_478 hl (by decide) rfl (fun ls hl => ?_)
        refine lv_aload_n hx hb dL_law_480 rfl (lv_at hl 4 rfl) ?_
        refine lq_arg (k := 1) (y := xs (i + 1)) hx hb hX hbl hbA hS hl 2 1 rfl rfl (show i + 1 < L by omega) (by omega) (by decide) (rfl) dL_law_481 dL_law_482 dL_law_484 dL_law_485 dL_law_486 ?_
        refine lq_arg (k := 2) (y := xs (i + 2)) hx hb hX hbl hbA hS hl 2 1 rfl rfl (show i + 2 < L by omega) (by omega) (by decide) (rfl) dL_law_487 dL_law_488 dL_law_490 dL_law_491 dL_law_492 ?_
        refine lq_arg (k := 3) (y := xs (i + 3)) hx hb hX hbl hbA hS hl 2 1 rfl rfl (show i + 3 < L by omega) (by omega) (by decide) (rfl) dL_law_493 dL_law_494 dL_law_496 dL_law_497 dL_law_498 ?_
        refine lq_arg (k := 4) (y := xs (i + 4)) hx hb hX hbl hbA hS hl 2 1 rfl rfl (show i + 4 < L by omega) (by omega) (by decide) (rfl) dL_law_499 dL_law_500 dL_law_502 dL_law_503 dL_law_504 ?_
        refine lq_arg (k := 5) (y := xs (i + 5)) hx hb hX hbl hbA hS hl 2 1 rfl rfl (show i + 5 < L by omega) (by omega) (by decide) (rfl) dL_law_505 dL_law_506 dL_law_508 dL_law_509 dL_law_510 ?_
        refine lq_ar6 (k := 6) (y := xs (i + 6)) hx hb hX hbl hbA hS hl 2 1 rfl rfl (show i + 6 < L by omega) (by omega) (by decide) (rfl) dL_law_511 dL_law_512 dL_law_514 dL_law_516 dL_law_517 ?_
        have hP := va_Psw hP
        have hD := va_Dsw hD
        refine q_wcallFI (wa' := (mW h2 ad2 cI cJ cZ td gc ex mpa di mu dc dg da dh dt dv dd ms ak se mr 1)) (wb := ((hW h ad cI cZ ex pa di qu gc dg dp dv dd ds dc td ho ak se pr) ++ [(ob, .inl (cJ, 1, .inr (.inl f)))])) (r := nI 0) (va_runV (As := [.int (xs (i + 1)), .int (xs (i + 2)), .int (xs (i + 3)), .int (xs (i + 4)), .int (xs (i + 5)), .int (xs (i + 6))]) (rest := []) ⟨hx, hb, hml, hown, hts⟩ (kX1_draft1 l D h2 ad2 cI cJ cZ td gc ex mpa di mu dc dg da dh dt dv dd ms ak se mr th _ (xs (i + 1)) (xs (i + 2)) (xs (i + 3)) (xs (i + 4)) (xs (i + 5)) (xs (i + 6)) hgc hxg (Or.inr ⟨g, hg, e1, he, Or.inr ⟨a, ha, e2, Or.inl hxb⟩⟩)) (cwV 6 hts gL_law_X1_draft rfl rfl rfl (by decide +kernel) ⟨Nat.le_of_ble_eq_true rfl, Nat.le_of_ble_eq_true rfl⟩) ⟨wP_blind, va_recv hK (va_Pl hP) (ci := 1) (q0 := 0) rfl rfl, wP_pre (va_Pl hP) hK (va_Dl hD)⟩ rfl rfl hl.1 rfl (lv_room (Nat.le_of_ble_eq_true rfl)) dL_law_518 ⟨hrc, hrs⟩) hP hD hS hA rfl (fun H locs hP hD hS => ?_)
        refine lv_istore (lv' := [(6, .int (nI 0)), (5, .int (nI 1)), (4, .int (nI i)), (0, .ref b), (1, .ref h), (2, .ref h2), (3, .ref ob)]) hx hb dL_law_521 hl (by decide) rfl (fun ls hl => ?_)
        refine lv_aload_n hx hb dL_law_523 rfl (lv_at hl 5 rfl) ?_
        refine q_callI (r := nI 1) (va_runV (As := []) (rest := []) ⟨hx, hb, hml, hown, hts⟩ (kX1_thrown l D h2 ad2 cI cJ cZ td gc ex mpa di mu dc dg da dh dt dv dd ms ak se mr 1) (cwV 0 hts gL_law_X1_thrown rfl rfl rfl (by decide +kernel) ⟨Nat.le_of_ble_eq_true rfl, Nat.le_of_ble_eq_true rfl⟩) ⟨pP_blind, va_recv hK (va_Pl hP) (ci := 1) (q0 := 0) rfl rfl, pP_pre (va_Pl hP) hK⟩ rfl rfl hl.1 rfl (lv_room (Nat.le_of_ble_eq_true rfl)) dL_law_524 ⟨hrc, hrs⟩) ?_
        refine lv_iload hx hb dL_law_527 (lv_at hl 1 rfl) ?_
        refine lv_icmp_eq (tgt := 534) hx hb dL_law_529 (by decide) (fun _ => ?_) (fun z => absurd rfl z)
        refine lv_iload hx hb dL_law_534 (lv_at hl 1 rfl) ?_
        refine lv_if_ne (tgt := 551) hx hb dL_law_536 (by decide) (fun _ => ?_) (fun z => absurd z (by decide))
        have hP := va_Psw hP
        have hD := va_Dsw hD
        refine lv_goto (tgt := 1367) hx hb dL_law_551 (by decide) ?_
        exact K f lev ex pa mpa di qu mu gc dg dp da dh dt dv dd ds ms dc td ho ak se pr mr 1 H locs ls ⟨hT, hQ, hB, hSR, hPP, hPM, by omega, hmz⟩ hP hD hS (lv_sub hl [2, 3, 4, 5, 6] rfl)
      · rcases k_opt (xs (i + 4)) with hyb | ⟨y, e4, hyr⟩
        · refine lv_aload_n hx hb dL_law_436 rfl (lv_at hl 2 rfl) ?_
          refine lq_arg (k := 1) (y := xs (i + 1)) hx hb hX hbl hbA hS hl 1 0 rfl rfl (show i + 1 < L by omega) (by omega) (by decide) (rfl) dL_law_437 dL_law_438 dL_law_440 dL_law_441 dL_law_442 ?_
          refine lq_arg (k := 2) (y := xs (i + 2)) hx hb hX hbl hbA hS hl 1 0 rfl rfl (show i + 2 < L by omega) (by omega) (by decide) (rfl) dL_law_443 dL_law_444 dL_law_446 dL_law_447 dL_law_448 ?_
          refine lq_arg (k := 3) (y := xs (i + 3)) hx hb hX hbl hbA hS hl 1 0 rfl rfl (show i + 3 < L by omega) (by omega) (by decide) (rfl) dL_law_449 dL_law_450 dL_law_452 dL_law_453 dL_law_454 ?_
          refine lq_arg (k := 4) (y := xs (i + 4)) hx hb hX hbl hbA hS hl 1 0 rfl rfl (show i + 4 < L by omega) (by omega) (by decide) (rfl) dL_law_455 dL_law_456 dL_law_458 dL_law_459 dL_law_460 ?_
          refine lq_arg (k := 5) (y := xs (i + 5)) hx hb hX hbl hbA hS hl 1 0 rfl rfl (show i + 5 < L by omega) (by omega) (by decide) (rfl) dL_law_461 dL_law_462 dL_law_464 dL_law_465 dL_law_466 ?_
          refine lq_ar6 (k := 6) (y := xs (i + 6)) hx hb hX hbl hbA hS hl 1 0 rfl rfl (show i + 6 < L by omega) (by omega) (by decide) (rfl) dL_law_467 dL_law_468 dL_law_470 dL_law_472 dL_law_473 ?_
          refine lv_aload_n hx hb dL_law_474 rfl (lv_at hl 4 rfl) ?_
          refine q_ecall (k := 1) (vx_runSW (As := [.ref h, .int (xs (i + 1)), .int (xs (i + 2)), .int (xs (i + 3)), .int (xs (i + 4)), .int (xs (i + 5)), .int (xs (i + 6)), .ref ob]) (rest := []) ⟨hx, hb, hml, hown, hts⟩ (kL_draftXI l D h ad cI cZ ex pa di qu gc dg dp dv dd ds dc td ho ak se pr hlf ob (xs (i + 1)) (xs (i + 2)) (xs (i + 3)) (xs (i + 4)) (xs (i + 5)) (xs (i + 6)) (Or.inr ⟨g, hg, e1, he, Or.inr ⟨a, ha, e2, Or.inr ⟨k_ox e3 hxr, hyb⟩⟩⟩)) (vx_cwSW 8 hts gL_law_L_draft rfl rfl rfl (by decide +kernel) ⟨Nat.le_of_ble_eq_true rfl, Nat.le_of_ble_eq_true rfl⟩) ⟨tN_blind, tN_pre (va_Pl (va_Pl hP)) (hK.sub [0, 1] rfl) (tEA_at hE hS) hN⟩ rfl rfl hl.1 rfl (lv_room (Nat.le_of_ble_eq_true rfl)) dL_law_475 ⟨hrc, hrs⟩) hP hS (fun H hP hS => ?_)
          refine lv_istore (lv' := [(5, .int (nI 1)), (4, .int (nI i)), (0, .ref b), (1, .ref h), (2, .ref h2), (3, .ref ob)]) hx hb dL_law_478 hl (by decide) rfl (fun ls hl => ?_)
          refine lv_aload_n hx hb dL_law_480 rfl (lv_at hl 4 rfl) ?_
          refine lq_arg (k := 1) (y := xs (i + 1)) hx hb hX hbl hbA hS hl 2 1 rfl rfl (show i + 1 < L by omega) (by omega) (by decide) (rfl) dL_law_481 dL_law_482 dL_law_484 dL_law_485 dL_law_486 ?_
          refine lq_arg (k := 2) (y := xs (i + 2)) hx hb hX hbl hbA hS hl 2 1 rfl rfl (show i + 2 < L by omega) (by omega) (by decide) (rfl) dL_law_487 dL_law_488 dL_law_490 dL_law_491 dL_law_492 ?_
          refine lq_arg (k := 3) (y := xs (i + 3)) hx hb hX hbl hbA hS hl 2 1 rfl rfl (show i + 3 < L by omega) (by omega) (by decide) (rfl) dL_law_493 dL_law_494 dL_law_496 dL_law_497 dL_law_498 ?_
          refine lq_arg (k := 4) (y := xs (i + 4)) hx hb hX hbl hbA hS hl 2 1 rfl rfl (show i + 4 < L by omega) (by omega) (by decide) (rfl) dL_law_499 dL_law_500 dL_law_502 dL_law_503 dL_law_504 ?_
          refine lq_arg (k := 5) (y := xs (i + 5)) hx hb hX hbl hbA hS hl 2 1 rfl rfl (show i + 5 < L by omega) (by omega) (by decide) (rfl) dL_law_505 dL_law_506 dL_law_508 dL_law_509 dL_law_510 ?_
          refine lq_ar6 (k := 6) (y := xs (i + 6)) hx hb hX hbl hbA hS hl 2 1 rfl rfl (show i + 6 < L by omega) (by omega) (by decide) (rfl) dL_law_511 dL_law_512 dL_law_514 dL_law_516 dL_law_517 ?_
          have hP := va_Psw hP
          have hD := va_Dsw hD
          refine q_wcallFI (wa' := (mW h2 ad2 cI cJ cZ td gc ex mpa di mu dc dg da dh dt dv dd ms ak se mr 1)) (wb := ((hW h ad cI cZ ex pa di qu gc dg dp dv dd ds dc td ho ak se pr) ++ [(ob, .inl (cJ, 1, .inr (.inl f)))])) (r := nI 0) (va_runV (As := [.int (xs (i + 1)), .int (xs (i + 2)), .int (xs (i + 3)), .int (xs (i + 4)), .int (xs (i + 5)), .int (xs (i + 6))]) (rest := []) ⟨hx, hb, hml, hown, hts⟩ (kX1_draft1 l D h2 ad2 cI cJ cZ td gc ex mpa di mu dc dg da dh dt dv dd ms ak se mr th _ (xs (i + 1)) (xs (i + 2)) (xs (i + 3)) (xs (i + 4)) (xs (i + 5)) (xs (i + 6)) hgc hxg (Or.inr ⟨g, hg, e1, he, Or.inr ⟨a, ha, e2, Or.inr ⟨k_ox e3 hxr, hyb⟩⟩⟩)) (cwV 6 hts gL_law_X1_draft rfl rfl rfl (by decide +kernel) ⟨Nat.le_of_ble_eq_true rfl, Nat.le_of_ble_eq_true rfl⟩) ⟨wP_blind, va_recv hK (va_Pl hP) (ci := 1) (q0 := 0) rfl rfl, wP_pre (va_Pl hP) hK (va_Dl hD)⟩ rfl rfl hl.1 rfl (lv_room (Nat.le_of_ble_eq_true rfl)) dL_law_518 ⟨hrc, hrs⟩) hP hD hS hA rfl (fun H locs hP hD hS => ?_)
          refine lv_istore (lv' := [(6, .int (nI 0)), (5, .int (nI 1)), (4, .int (nI i)), (0, .ref b), (1, .ref h), (2, .ref h2), (3, .ref ob)]) hx hb dL_law_521 hl (by decide) rfl (fun ls hl => ?_)
          refine lv_aload_n hx hb dL_law_523 rfl (lv_at hl 5 rfl) ?_
          refine q_callI (r := nI 1) (va_runV (As := []) (rest := []) ⟨hx, hb, hml, hown, hts⟩ (kX1_thrown l D h2 ad2 cI cJ cZ td gc ex mpa di mu dc dg da dh dt dv dd ms ak se mr 1) (cwV 0 hts gL_law_X1_thrown rfl rfl rfl (by decide +kernel) ⟨Nat.le_of_ble_eq_true rfl, Nat.le_of_ble_eq_true rfl⟩) ⟨pP_blind, va_recv hK (va_Pl hP) (ci := 1) (q0 := 0) rfl rfl, pP_pre (va_Pl hP) hK⟩ rfl rfl hl.1 rfl (lv_room (Nat.le_of_ble_eq_true rfl)) dL_law_524 ⟨hrc, hrs⟩) ?_
          refine lv_iload hx hb dL_law_527 (lv_at hl 1 rfl) ?_
          refine lv_icmp_eq (tgt := 534) hx hb dL_law_529 (by decide) (fun _ => ?_) (fun z => absurd rfl z)
          refine lv_iload hx hb dL_law_534 (lv_at hl 1 rfl) ?_
          refine lv_if_ne (tgt := 551) hx hb dL_law_536 (by decide) (fun _ => ?_) (fun z => absurd z (by decide))
          have hP := va_Psw hP
          have hD := va_Dsw hD
          refine lv_goto (tgt := 1367) hx hb dL_law_551 (by decide) ?_
          exact K f lev ex pa mpa di qu mu gc dg dp da dh dt dv dd ds ms dc td ho ak se pr mr 1 H locs ls ⟨hT, hQ, hB, hSR, hPP, hPM, by omega, hmz⟩ hP hD hS (lv_sub hl [2, 3, 4, 5, 6] rfl)
        · rcases k_val (xs (i + 5)) with hvb | ⟨v, e5, hvr⟩
          · refine lv_aload_n hx hb dL_law_436 rfl (lv_at hl 2 rfl) ?_
            refine lq_arg (k := 1) (y := nI g) hx hb hX hbl hbA hS hl 1 0 rfl rfl (show i + 1 < L by omega) (by omega) (by decide) (e1) dL_law_437 dL_law_438 dL_law_440 dL_law_441 dL_law_442 ?_
            refine lq_arg (k := 2) (y := nI a) hx hb hX hbl hbA hS hl 1 0 rfl rfl (show i + 2 < L by omega) (by omega) (by decide) (e2) dL_law_443 dL_law_444 dL_law_446 dL_law_447 dL_law_448 ?_
            refine lq_arg (k := 3) (y := oI x) hx hb hX hbl hbA hS hl 1 0 rfl rfl (show i + 3 < L by omega) (by omega) (by decide) (e3) dL_law_449 dL_law_450 dL_law_452 dL_law_453 dL_law_454 ?_
            refine lq_arg (k := 4) (y := oI y) hx hb hX hbl hbA hS hl 1 0 rfl rfl (show i + 4 < L by omega) (by omega) (by decide) (e4) dL_law_455 dL_law_456 dL_law_458 dL_law_459 dL_law_460 ?_
            refine lq_arg (k := 5) (y := xs (i + 5)) hx hb hX hbl hbA hS hl 1 0 rfl rfl (show i + 5 < L by omega) (by omega) (by decide) (rfl) dL_law_461 dL_law_462 dL_law_464 dL_law_465 dL_law_466 ?_
            refine lq_ar6 (k := 6) (y := xs (i + 6)) hx hb hX hbl hbA hS hl 1 0 rfl rfl (show i + 6 < L by omega) (by omega) (by decide) (rfl) dL_law_467 dL_law_468 dL_law_470 dL_law_472 dL_law_473 ?_
            refine lv_aload_n hx hb dL_law_474 rfl (lv_at hl 4 rfl) ?_
            refine q_ecall (k := 2) (vx_runSW (As := [.ref h, .int (nI g), .int (nI a), .int (oI x), .int (oI y), .int (xs (i + 5)), .int (xs (i + 6)), .ref ob]) (rest := []) ⟨hx, hb, hml, hown, hts⟩ (kL_draftXA l D h ad cI cZ ex pa di qu gc dg dp dv dd ds dc td ho ak se pr hlf ob g a x y (xs (i + 5)) (xs (i + 6)) hg he ha hxr hyr (Or.inl hvb)) (vx_cwSW 8 hts gL_law_L_draft rfl rfl rfl (by decide +kernel) ⟨Nat.le_of_ble_eq_true rfl, Nat.le_of_ble_eq_true rfl⟩) ⟨tN_blind, tN_pre (va_Pl (va_Pl hP)) (hK.sub [0, 1] rfl) (tEA_at hE hS) hN⟩ rfl rfl hl.1 rfl (lv_room (Nat.le_of_ble_eq_true rfl)) dL_law_475 ⟨hrc, hrs⟩) hP hS (fun H hP hS => ?_)
            refine lv_istore (lv' := [(5, .int (nI 2)), (4, .int (nI i)), (0, .ref b), (1, .ref h), (2, .ref h2), (3, .ref ob)]) hx hb dL_law_478 hl (by decide) rfl (fun ls hl => ?_)
            refine lv_aload_n hx hb dL_law_480 rfl (lv_at hl 4 rfl) ?_
            refine lq_arg (k := 1) (y := nI g) hx hb hX hbl hbA hS hl 2 1 rfl rfl (show i + 1 < L by omega) (by omega) (by decide) (e1) dL_law_481 dL_law_482 dL_law_484 dL_law_485 dL_law_486 ?_
            refine lq_arg (k := 2) (y := nI a) hx hb hX hbl hbA hS hl 2 1 rfl rfl (show i + 2 < L by omega) (by omega) (by decide) (e2) dL_law_487 dL_law_488 dL_law_490 dL_law_491 dL_law_492 ?_
            refine lq_arg (k := 3) (y := oI x) hx hb hX hbl hbA hS hl 2 1 rfl rfl (show i + 3 < L by omega) (by omega) (by decide) (e3) dL_law_493 dL_law_494 dL_law_496 dL_law_497 dL_law_498 ?_
            refine lq_arg (k := 4) (y := oI y) hx hb hX hbl hbA hS hl 2 1 rfl rfl (show i + 4 < L by omega) (by omega) (by decide) (e4) dL_law_499 dL_law_500 dL_law_502 dL_law_503 dL_law_504 ?_
            refine lq_arg (k := 5) (y := xs (i + 5)) hx hb hX hbl hbA hS hl 2 1 rfl rfl (show i + 5 < L by omega) (by omega) (by decide) (rfl) dL_law_505 dL_law_506 dL_law_508 dL_law_509 dL_law_510 ?_
            refine lq_ar6 (k := 6) (y := xs (i + 6)) hx hb hX hbl hbA hS hl 2 1 rfl rfl (show i + 6 < L by omega) (by omega) (by decide) (rfl) dL_law_511 dL_law_512 dL_law_514 dL_law_516 dL_law_517 ?_
            have hP := va_Psw hP
            have hD := va_Dsw hD
            refine q_wcallFI (wa' := (mW h2 ad2 cI cJ cZ td gc ex mpa di mu dc dg da dh dt dv dd ms ak se mr 2)) (wb := ((hW h ad cI cZ ex pa di qu gc dg dp dv dd ds dc td ho ak se pr) ++ [(ob, .inl (cJ, 1, .inr (.inl f)))])) (r := nI 0) (va_runV (As := [.int (nI g), .int (nI a), .int (oI x), .int (oI y), .int (xs (i + 5)), .int (xs (i + 6))]) (rest := []) ⟨hx, hb, hml, hown, hts⟩ (kX1_draft2 l D h2 ad2 cI cJ cZ td gc ex mpa di mu dc dg da dh dt dv dd ms ak se mr th _ g a x y (xs (i + 5)) (xs (i + 6)) hg he ha hxr hyr hgc hxg (Or.inl hvb)) (cwV 6 hts gL_law_X1_draft rfl rfl rfl (by decide +kernel) ⟨Nat.le_of_ble_eq_true rfl, Nat.le_of_ble_eq_true rfl⟩) ⟨wP_blind, va_recv hK (va_Pl hP) (ci := 1) (q0 := 0) rfl rfl, wP_pre (va_Pl hP) hK (va_Dl hD)⟩ rfl rfl hl.1 rfl (lv_room (Nat.le_of_ble_eq_true rfl)) dL_law_518 ⟨hrc, hrs⟩) hP hD hS hA rfl (fun H locs hP hD hS => ?_)
            refine lv_istore (lv' := [(6, .int (nI 0)), (5, .int (nI 2)), (4, .int (nI i)), (0, .ref b), (1, .ref h), (2, .ref h2), (3, .ref ob)]) hx hb dL_law_521 hl (by decide) rfl (fun ls hl => ?_)
            refine lv_aload_n hx hb dL_law_523 rfl (lv_at hl 5 rfl) ?_
            refine q_callI (r := nI 2) (va_runV (As := []) (rest := []) ⟨hx, hb, hml, hown, hts⟩ (kX1_thrown l D h2 ad2 cI cJ cZ td gc ex mpa di mu dc dg da dh dt dv dd ms ak se mr 2) (cwV 0 hts gL_law_X1_thrown rfl rfl rfl (by decide +kernel) ⟨Nat.le_of_ble_eq_true rfl, Nat.le_of_ble_eq_true rfl⟩) ⟨pP_blind, va_recv hK (va_Pl hP) (ci := 1) (q0 := 0) rfl rfl, pP_pre (va_Pl hP) hK⟩ rfl rfl hl.1 rfl (lv_room (Nat.le_of_ble_eq_true rfl)) dL_law_524 ⟨hrc, hrs⟩) ?_
            refine lv_iload hx hb dL_law_527 (lv_at hl 1 rfl) ?_
            refine lv_icmp_eq (tgt := 534) hx hb dL_law_529 (by decide) (fun _ => ?_) (fun z => absurd rfl z)
            refine lv_iload hx hb dL_law_534 (lv_at hl 1 rfl) ?_
            refine lv_if_ne (tgt := 551) hx hb dL_law_536 (by decide) (fun _ => ?_) (fun z => absurd z (by decide))
            have hP := va_Psw hP
            have hD := va_Dsw hD
            refine lv_goto (tgt := 1367) hx hb dL_law_551 (by decide) ?_
            exact K f lev ex pa mpa di qu mu gc dg dp da dh dt dv dd ds ms dc td ho ak se pr mr 2 H locs ls ⟨hT, hQ, hB, hSR, hPP, hPM, by omega, hmz⟩ hP hD hS (lv_sub hl [2, 3, 4, 5, 6] rfl)
          · rcases k_rn0 1000 (by decide) (xs (i + 6)) with hwb | ⟨w, hw2, e6⟩
            · refine lv_aload_n hx hb dL_law_436 rfl (lv_at hl 2 rfl) ?_
              refine lq_arg (k := 1) (y := nI g) hx hb hX hbl hbA hS hl 1 0 rfl rfl (show i + 1 < L by omega) (by omega) (by decide) (e1) dL_law_437 dL_law_438 dL_law_440 dL_law_441 dL_law_442 ?_
              refine lq_arg (k := 2) (y := nI a) hx hb hX hbl hbA hS hl 1 0 rfl rfl (show i + 2 < L by omega) (by omega) (by decide) (e2) dL_law_443 dL_law_444 dL_law_446 dL_law_447 dL_law_448 ?_
              refine lq_arg (k := 3) (y := oI x) hx hb hX hbl hbA hS hl 1 0 rfl rfl (show i + 3 < L by omega) (by omega) (by decide) (e3) dL_law_449 dL_law_450 dL_law_452 dL_law_453 dL_law_454 ?_
              refine lq_arg (k := 4) (y := oI y) hx hb hX hbl hbA hS hl 1 0 rfl rfl (show i + 4 < L by omega) (by omega) (by decide) (e4) dL_law_455 dL_law_456 dL_law_458 dL_law_459 dL_law_460 ?_
              refine lq_arg (k := 5) (y := xs (i + 5)) hx hb hX hbl hbA hS hl 1 0 rfl rfl (show i + 5 < L by omega) (by omega) (by decide) (rfl) dL_law_461 dL_law_462 dL_law_464 dL_law_465 dL_law_466 ?_
              refine lq_ar6 (k := 6) (y := xs (i + 6)) hx hb hX hbl hbA hS hl 1 0 rfl rfl (show i + 6 < L by omega) (by omega) (by decide) (rfl) dL_law_467 dL_law_468 dL_law_470 dL_law_472 dL_law_473 ?_
              refine lv_aload_n hx hb dL_law_474 rfl (lv_at hl 4 rfl) ?_
              refine q_ecall (k := 2) (vx_runSW (As := [.ref h, .int (nI g), .int (nI a), .int (oI x), .int (oI y), .int (xs (i + 5)), .int (xs (i + 6)), .ref ob]) (rest := []) ⟨hx, hb, hml, hown, hts⟩ (kL_draftXA l D h ad cI cZ ex pa di qu gc dg dp dv dd ds dc td ho ak se pr hlf ob g a x y (xs (i + 5)) (xs (i + 6)) hg he ha hxr hyr (Or.inr ⟨⟨v, e5, hvr⟩, hwb⟩)) (vx_cwSW 8 hts gL_law_L_draft rfl rfl rfl (by decide +kernel) ⟨Nat.le_of_ble_eq_true rfl, Nat.le_of_ble_eq_true rfl⟩) ⟨tN_blind, tN_pre (va_Pl (va_Pl hP)) (hK.sub [0, 1] rfl) (tEA_at hE hS) hN⟩ rfl rfl hl.1 rfl (lv_room (Nat.le_of_ble_eq_true rfl)) dL_law_475 ⟨hrc, hrs⟩) hP hS (fun H hP hS => ?_)
              refine lv_istore (lv' := [(5, .int (nI 2)), (4, .int (nI i)), (0, .ref b), (1, .ref h), (2, .ref h2), (3, .ref ob)]) hx hb dL_law_478 hl (by decide) rfl (fun ls hl => ?_)
              refine lv_aload_n hx hb dL_law_480 rfl (lv_at hl 4 rfl) ?_
              refine lq_arg (k := 1) (y := nI g) hx hb hX hbl hbA hS hl 2 1 rfl rfl (show i + 1 < L by omega) (by omega) (by decide) (e1) dL_law_481 dL_law_482 dL_law_484 dL_law_485 dL_law_486 ?_
              refine lq_arg (k := 2) (y := nI a) hx hb hX hbl hbA hS hl 2 1 rfl rfl (show i + 2 < L by omega) (by omega) (by decide) (e2) dL_law_487 dL_law_488 dL_law_490 dL_law_491 dL_law_492 ?_
              refine lq_arg (k := 3) (y := oI x) hx hb hX hbl hbA hS hl 2 1 rfl rfl (show i + 3 < L by omega) (by omega) (by decide) (e3) dL_law_493 dL_law_494 dL_law_496 dL_law_497 dL_law_498 ?_
              refine lq_arg (k := 4) (y := oI y) hx hb hX hbl hbA hS hl 2 1 rfl rfl (show i + 4 < L by omega) (by omega) (by decide) (e4) dL_law_499 dL_law_500 dL_law_502 dL_law_503 dL_law_504 ?_
              refine lq_arg (k := 5) (y := xs (i + 5)) hx hb hX hbl hbA hS hl 2 1 rfl rfl (show i + 5 < L by omega) (by omega) (by decide) (rfl) dL_law_505 dL_law_506 dL_law_508 dL_law_509 dL_law_510 ?_
              refine lq_ar6 (k := 6) (y := xs (i + 6)) hx hb hX hbl hbA hS hl 2 1 rfl rfl (show i + 6 < L by omega) (by omega) (by decide) (rfl) dL_law_511 dL_law_512 dL_law_514 dL_law_516 dL_law_517 ?_
              have hP := va_Psw hP
              have hD := va_Dsw hD
              refine q_wcallFI (wa' := (mW h2 ad2 cI cJ cZ td gc ex mpa di mu dc dg da dh dt dv dd ms ak se mr 2)) (wb := ((hW h ad cI cZ ex pa di qu gc dg dp dv dd ds dc td ho ak se pr) ++ [(ob, .inl (cJ, 1, .inr (.inl f)))])) (r := nI 0) (va_runV (As := [.int (nI g), .int (nI a), .int (oI x), .int (oI y), .int (xs (i + 5)), .int (xs (i + 6))]) (rest := []) ⟨hx, hb, hml, hown, hts⟩ (kX1_draft2 l D h2 ad2 cI cJ cZ td gc ex mpa di mu dc dg da dh dt dv dd ms ak se mr th _ g a x y (xs (i + 5)) (xs (i + 6)) hg he ha hxr hyr hgc hxg (Or.inr ⟨⟨v, e5, hvr⟩, hwb⟩)) (cwV 6 hts gL_law_X1_draft rfl rfl rfl (by decide +kernel) ⟨Nat.le_of_ble_eq_true rfl, Nat.le_of_ble_eq_true rfl⟩) ⟨wP_blind, va_recv hK (va_Pl hP) (ci := 1) (q0 := 0) rfl rfl, wP_pre (va_Pl hP) hK (va_Dl hD)⟩ rfl rfl hl.1 rfl (lv_room (Nat.le_of_ble_eq_true rfl)) dL_law_518 ⟨hrc, hrs⟩) hP hD hS hA rfl (fun H locs hP hD hS => ?_)
              refine lv_istore (lv' := [(6, .int (nI 0)), (5, .int (nI 2)), (4, .int (nI i)), (0, .ref b), (1, .ref h), (2, .ref h2), (3, .ref ob)]) hx hb dL_law_521 hl (by decide) rfl (fun ls hl => ?_)
              refine lv_aload_n hx hb dL_law_523 rfl (lv_at hl 5 rfl) ?_
              refine q_callI (r := nI 2) (va_runV (As := []) (rest := []) ⟨hx, hb, hml, hown, hts⟩ (kX1_thrown l D h2 ad2 cI cJ cZ td gc ex mpa di mu dc dg da dh dt dv dd ms ak se mr 2) (cwV 0 hts gL_law_X1_thrown rfl rfl rfl (by decide +kernel) ⟨Nat.le_of_ble_eq_true rfl, Nat.le_of_ble_eq_true rfl⟩) ⟨pP_blind, va_recv hK (va_Pl hP) (ci := 1) (q0 := 0) rfl rfl, pP_pre (va_Pl hP) hK⟩ rfl rfl hl.1 rfl (lv_room (Nat.le_of_ble_eq_true rfl)) dL_law_524 ⟨hrc, hrs⟩) ?_
              refine lv_iload hx hb dL_law_527 (lv_at hl 1 rfl) ?_
              refine lv_icmp_eq (tgt := 534) hx hb dL_law_529 (by decide) (fun _ => ?_) (fun z => absurd rfl z)
              refine lv_iload hx hb dL_law_534 (lv_at hl 1 rfl) ?_
              refine lv_if_ne (tgt := 551) hx hb dL_law_536 (by decide) (fun _ => ?_) (fun z => absurd z (by decide))
              have hP := va_Psw hP
              have hD := va_Dsw hD
              refine lv_goto (tgt := 1367) hx hb dL_law_551 (by decide) ?_
              exact K f lev ex pa mpa di qu mu gc dg dp da dh dt dv dd ds ms dc td ho ak se pr mr 2 H locs ls ⟨hT, hQ, hB, hSR, hPP, hPM, by omega, hmz⟩ hP hD hS (lv_sub hl [2, 3, 4, 5, 6] rfl)
            · by_cases hdc2 : dc < 200
              · refine lv_aload_n hx hb dL_law_436 rfl (lv_at hl 2 rfl) ?_
                refine lq_arg (k := 1) (y := nI g) hx hb hX hbl hbA hS hl 1 0 rfl rfl (show i + 1 < L by omega) (by omega) (by decide) (e1) dL_law_437 dL_law_438 dL_law_440 dL_law_441 dL_law_442 ?_
                refine lq_arg (k := 2) (y := nI a) hx hb hX hbl hbA hS hl 1 0 rfl rfl (show i + 2 < L by omega) (by omega) (by decide) (e2) dL_law_443 dL_law_444 dL_law_446 dL_law_447 dL_law_448 ?_
                refine lq_arg (k := 3) (y := oI x) hx hb hX hbl hbA hS hl 1 0 rfl rfl (show i + 3 < L by omega) (by omega) (by decide) (e3) dL_law_449 dL_law_450 dL_law_452 dL_law_453 dL_law_454 ?_
                refine lq_arg (k := 4) (y := oI y) hx hb hX hbl hbA hS hl 1 0 rfl rfl (show i + 4 < L by omega) (by omega) (by decide) (e4) dL_law_455 dL_law_456 dL_law_458 dL_law_459 dL_law_460 ?_
                refine lq_arg (k := 5) (y := oI v) hx hb hX hbl hbA hS hl 1 0 rfl rfl (show i + 5 < L by omega) (by omega) (by decide) (e5) dL_law_461 dL_law_462 dL_law_464 dL_law_465 dL_law_466 ?_
                refine lq_ar6 (k := 6) (y := nI w) hx hb hX hbl hbA hS hl 1 0 rfl rfl (show i + 6 < L by omega) (by omega) (by decide) (e6) dL_law_467 dL_law_468 dL_law_470 dL_law_472 dL_law_473 ?_
                refine lv_aload_n hx hb dL_law_474 rfl (lv_at hl 4 rfl) ?_
                refine q_wcallFI (wa' := ((hW h ad cI cZ ex pa di qu gc (va_up dg dc g) (va_up dp dc (plc g a (sx x) (sx y))) (va_up dv dc v) (va_up dd dc w) (va_up ds dc 1) (dc + 1) td ho ak se pr) ++ [(ob, .inl (cJ, 1, .inr (.inl (vp_updL f 0 (lN dc)))))])) (wb := (mW h2 ad2 cI cJ cZ td gc ex mpa di mu dc dg da dh dt dv dd ms ak se mr th)) (r := nI 0) (vx_runSW (As := [.ref h, .int (nI g), .int (nI a), .int (oI x), .int (oI y), .int (oI v), .int (nI w), .ref ob]) (rest := []) ⟨hx, hb, hml, hown, hts⟩ (kL_draft l D h ad cI cZ ex pa di qu gc dg dp dv dd ds dc td ho ak se pr cJ ob f _ g a x y v w hg he ha hxr hyr hvr hw2 hdc2 (by omega)) (vx_cwSW 8 hts gL_law_L_draft rfl rfl rfl (by decide +kernel) ⟨Nat.le_of_ble_eq_true rfl, Nat.le_of_ble_eq_true rfl⟩) ⟨wP_blind, wP_pre (va_Pl hP) hK (va_Dl hD)⟩ rfl rfl hl.1 rfl (lv_room (Nat.le_of_ble_eq_true rfl)) dL_law_475 ⟨hrc0, hrs0⟩) hP hD hS hA rfl (fun H locs hP hD hS => ?_)
                refine lv_istore (lv' := [(5, .int (nI 0)), (4, .int (nI i)), (0, .ref b), (1, .ref h), (2, .ref h2), (3, .ref ob)]) hx hb dL_law_478 hl (by decide) rfl (fun ls hl => ?_)
                refine lv_aload_n hx hb dL_law_480 rfl (lv_at hl 4 rfl) ?_
                refine lq_arg (k := 1) (y := nI g) hx hb hX hbl hbA hS hl 2 1 rfl rfl (show i + 1 < L by omega) (by omega) (by decide) (e1) dL_law_481 dL_law_482 dL_law_484 dL_law_485 dL_law_486 ?_
                refine lq_arg (k := 2) (y := nI a) hx hb hX hbl hbA hS hl 2 1 rfl rfl (show i + 2 < L by omega) (by omega) (by decide) (e2) dL_law_487 dL_law_488 dL_law_490 dL_law_491 dL_law_492 ?_
                refine lq_arg (k := 3) (y := oI x) hx hb hX hbl hbA hS hl 2 1 rfl rfl (show i + 3 < L by omega) (by omega) (by decide) (e3) dL_law_493 dL_law_494 dL_law_496 dL_law_497 dL_law_498 ?_
                refine lq_arg (k := 4) (y := oI y) hx hb hX hbl hbA hS hl 2 1 rfl rfl (show i + 4 < L by omega) (by omega) (by decide) (e4) dL_law_499 dL_law_500 dL_law_502 dL_law_503 dL_law_504 ?_
                refine lq_arg (k := 5) (y := oI v) hx hb hX hbl hbA hS hl 2 1 rfl rfl (show i + 5 < L by omega) (by omega) (by decide) (e5) dL_law_505 dL_law_506 dL_law_508 dL_law_509 dL_law_510 ?_
                refine lq_ar6 (k := 6) (y := nI w) hx hb hX hbl hbA hS hl 2 1 rfl rfl (show i + 6 < L by omega) (by omega) (by decide) (e6) dL_law_511 dL_law_512 dL_law_514 dL_law_516 dL_law_517 ?_
                have hP := va_Psw hP
                have hD := va_Dsw hD
                refine q_wcallFI (wa' := (mW h2 ad2 cI cJ cZ td gc ex mpa di mu (dc + 1) (va_up dg dc g) (va_up da dc a) (va_up dh dc x) (va_up dt dc y) (va_up dv dc v) (va_up dd dc w) ms ak se mr 0)) (wb := ((hW h ad cI cZ ex pa di qu gc (va_up dg dc g) (va_up dp dc (plc g a (sx x) (sx y))) (va_up dv dc v) (va_up dd dc w) (va_up ds dc 1) (dc + 1) td ho ak se pr) ++ [(ob, .inl (cJ, 1, .inr (.inl (vp_updL f 0 (lN dc)))))])) (r := nI dc) (va_runV (As := [.int (nI g), .int (nI a), .int (oI x), .int (oI y), .int (oI v), .int (nI w)]) (rest := []) ⟨hx, hb, hml, hown, hts⟩ (kX1_draft l D h2 ad2 cI cJ cZ td gc ex mpa di mu dc dg da dh dt dv dd ms ak se mr th _ g a x y v w hg he ha hxr hyr hgc hxg hvr hw2 hdc2) (cwV 6 hts gL_law_X1_draft rfl rfl rfl (by decide +kernel) ⟨Nat.le_of_ble_eq_true rfl, Nat.le_of_ble_eq_true rfl⟩) ⟨wP_blind, va_recv hK (va_Pl hP) (ci := 1) (q0 := 0) rfl rfl, wP_pre (va_Pl hP) hK (va_Dl hD)⟩ rfl rfl hl.1 rfl (lv_room (Nat.le_of_ble_eq_true rfl)) dL_law_518 ⟨hrc0, hrs0⟩) hP hD hS hA rfl (fun H locs hP hD hS => ?_)
                refine lv_istore (lv' := [(6, .int (nI dc)), (5, .int (nI 0)), (4, .int (nI i)), (0, .ref b), (1, .ref h), (2, .ref h2), (3, .ref ob)]) hx hb dL_law_521 hl (by decide) rfl (fun ls hl => ?_)
                refine lv_aload_n hx hb dL_law_523 rfl (lv_at hl 5 rfl) ?_
                refine q_callI (r := nI 0) (va_runV (As := []) (rest := []) ⟨hx, hb, hml, hown, hts⟩ (kX1_thrown l D h2 ad2 cI cJ cZ td gc ex mpa di mu (dc + 1) (va_up dg dc g) (va_up da dc a) (va_up dh dc x) (va_up dt dc y) (va_up dv dc v) (va_up dd dc w) ms ak se mr 0) (cwV 0 hts gL_law_X1_thrown rfl rfl rfl (by decide +kernel) ⟨Nat.le_of_ble_eq_true rfl, Nat.le_of_ble_eq_true rfl⟩) ⟨pP_blind, va_recv hK (va_Pl hP) (ci := 1) (q0 := 0) rfl rfl, pP_pre (va_Pl hP) hK⟩ rfl rfl hl.1 rfl (lv_room (Nat.le_of_ble_eq_true rfl)) dL_law_524 ⟨hrc0, hrs0⟩) ?_
                refine lv_iload hx hb dL_law_527 (lv_at hl 1 rfl) ?_
                refine lv_icmp_eq (tgt := 534) hx hb dL_law_529 (by decide) (fun _ => ?_) (fun z => absurd rfl z)
                refine lv_iload hx hb dL_law_534 (lv_at hl 1 rfl) ?_
                refine lv_if_ne (tgt := 551) hx hb dL_law_536 (by decide) (fun z => absurd (by decide) z) (fun _ => ?_)
                refine lv_aload_n hx hb dL_law_539 rfl (lv_at hl 6 rfl) ?_
                refine lv_iconst (v := nI 0) hx hb dL_law_540 (by decide) ?_
                refine va_lald hx hb hK (va_Pr hP) 14 2 rfl rfl (vp_in_nI (by decide) (by decide)) dL_law_541 ?_
                refine q_topL (y := (lN dc)) vpU ?_
                refine lv_iload hx hb dL_law_542 (lv_at hl 0 rfl) ?_
                refine lv_i2l (v := (lN dc)) hx hb dL_law_544 (nI_l (by omega)) ?_
                refine W.lcmp hx hb dL_law_545 ?_
                refine lv_if_eq (tgt := 551) hx hb dL_law_546 (by decide) (fun _ => ?_) (fun z => absurd ((lg_cmp_eq _ _).mpr rfl) z)
                have hP := va_Psw hP
                have hD := va_Dsw hD
                refine lv_goto (tgt := 1367) hx hb dL_law_551 (by decide) ?_
                refine W.widen (k := cells + 1) (n := slots + 6) (by omega) (by omega) ?_
                exact K (vp_updL f 0 (lN dc)) lev ex pa mpa di qu mu gc (va_up dg dc g) (va_up dp dc (plc g a (sx x) (sx y))) (va_up da dc a) (va_up dh dc x) (va_up dt dc y) (va_up dv dc v) (va_up dd dc w) (va_up ds dc 1) ms (dc + 1) td ho ak se pr mr 0 H locs ls ⟨hT, hQ, BR_dra hB hmz hg (hxg g hg he) he ha hxr hyr hvr hw2 hdc2, hSR, hPP, hPM, by omega, fun k hk => hmz k (by omega)⟩ hP hD hS (lv_sub hl [2, 3, 4, 5, 6] rfl)
              · have hdc3 : dc = 200 := by omega
                refine lv_aload_n hx hb dL_law_436 rfl (lv_at hl 2 rfl) ?_
                refine lq_arg (k := 1) (y := nI g) hx hb hX hbl hbA hS hl 1 0 rfl rfl (show i + 1 < L by omega) (by omega) (by decide) (e1) dL_law_437 dL_law_438 dL_law_440 dL_law_441 dL_law_442 ?_
                refine lq_arg (k := 2) (y := nI a) hx hb hX hbl hbA hS hl 1 0 rfl rfl (show i + 2 < L by omega) (by omega) (by decide) (e2) dL_law_443 dL_law_444 dL_law_446 dL_law_447 dL_law_448 ?_
                refine lq_arg (k := 3) (y := oI x) hx hb hX hbl hbA hS hl 1 0 rfl rfl (show i + 3 < L by omega) (by omega) (by decide) (e3) dL_law_449 dL_law_450 dL_law_452 dL_law_453 dL_law_454 ?_
                refine lq_arg (k := 4) (y := oI y) hx hb hX hbl hbA hS hl 1 0 rfl rfl (show i + 4 < L by omega) (by omega) (by decide) (e4) dL_law_455 dL_law_456 dL_law_458 dL_law_459 dL_law_460 ?_
                refine lq_arg (k := 5) (y := oI v) hx hb hX hbl hbA hS hl 1 0 rfl rfl (show i + 5 < L by omega) (by omega) (by decide) (e5) dL_law_461 dL_law_462 dL_law_464 dL_law_465 dL_law_466 ?_
                refine lq_ar6 (k := 6) (y := nI w) hx hb hX hbl hbA hS hl 1 0 rfl rfl (show i + 6 < L by omega) (by omega) (by decide) (e6) dL_law_467 dL_law_468 dL_law_470 dL_law_472 dL_law_473 ?_
                refine lv_aload_n hx hb dL_law_474 rfl (lv_at hl 4 rfl) ?_
                refine q_ecall (k := 3) (vx_runSW (As := [.ref h, .int (nI g), .int (nI a), .int (oI x), .int (oI y), .int (oI v), .int (nI w), .ref ob]) (rest := []) ⟨hx, hb, hml, hown, hts⟩ (kL_draftXS l D h ad cI cZ ex pa di qu gc dg dp dv dd ds dc td ho ak se pr hlf ob g a x y v w hg he ha hxr hyr hvr hw2 hdc3) (vx_cwSW 8 hts gL_law_L_draft rfl rfl rfl (by decide +kernel) ⟨Nat.le_of_ble_eq_true rfl, Nat.le_of_ble_eq_true rfl⟩) ⟨tN_blind, tN_pre (va_Pl (va_Pl hP)) (hK.sub [0, 1] rfl) (tEA_at hE hS) hN⟩ rfl rfl hl.1 rfl (lv_room (Nat.le_of_ble_eq_true rfl)) dL_law_475 ⟨hrc, hrs⟩) hP hS (fun H hP hS => ?_)
                refine lv_istore (lv' := [(5, .int (nI 3)), (4, .int (nI i)), (0, .ref b), (1, .ref h), (2, .ref h2), (3, .ref ob)]) hx hb dL_law_478 hl (by decide) rfl (fun ls hl => ?_)
                refine lv_aload_n hx hb dL_law_480 rfl (lv_at hl 4 rfl) ?_
                refine lq_arg (k := 1) (y := nI g) hx hb hX hbl hbA hS hl 2 1 rfl rfl (show i + 1 < L by omega) (by omega) (by decide) (e1) dL_law_481 dL_law_482 dL_law_484 dL_law_485 dL_law_486 ?_
                refine lq_arg (k := 2) (y := nI a) hx hb hX hbl hbA hS hl 2 1 rfl rfl (show i + 2 < L by omega) (by omega) (by decide) (e2) dL_law_487 dL_law_488 dL_law_490 dL_law_491 dL_law_492 ?_
                refine lq_arg (k := 3) (y := oI x) hx hb hX hbl hbA hS hl 2 1 rfl rfl (show i + 3 < L by omega) (by omega) (by decide) (e3) dL_law_493 dL_law_494 dL_law_496 dL_law_497 dL_law_498 ?_
                refine lq_arg (k := 4) (y := oI y) hx hb hX hbl hbA hS hl 2 1 rfl rfl (show i + 4 < L by omega) (by omega) (by decide) (e4) dL_law_499 dL_law_500 dL_law_502 dL_law_503 dL_law_504 ?_
                refine lq_arg (k := 5) (y := oI v) hx hb hX hbl hbA hS hl 2 1 rfl rfl (show i + 5 < L by omega) (by omega) (by decide) (e5) dL_law_505 dL_law_506 dL_law_508 dL_law_509 dL_law_510 ?_
                refine lq_ar6 (k := 6) (y := nI w) hx hb hX hbl hbA hS hl 2 1 rfl rfl (show i + 6 < L by omega) (by omega) (by decide) (e6) dL_law_511 dL_law_512 dL_law_514 dL_law_516 dL_law_517 ?_
                have hP := va_Psw hP
                have hD := va_Dsw hD
                refine q_wcallFI (wa' := (mW h2 ad2 cI cJ cZ td gc ex mpa di mu dc dg da dh dt dv dd ms ak se mr 3)) (wb := ((hW h ad cI cZ ex pa di qu gc dg dp dv dd ds dc td ho ak se pr) ++ [(ob, .inl (cJ, 1, .inr (.inl f)))])) (r := nI 0) (va_runV (As := [.int (nI g), .int (nI a), .int (oI x), .int (oI y), .int (oI v), .int (nI w)]) (rest := []) ⟨hx, hb, hml, hown, hts⟩ (kX1_draft3 l D h2 ad2 cI cJ cZ td gc ex mpa di mu dc dg da dh dt dv dd ms ak se mr th _ g a x y v w hg he ha hxr hyr hgc hxg hvr hw2 hdc3) (cwV 6 hts gL_law_X1_draft rfl rfl rfl (by decide +kernel) ⟨Nat.le_of_ble_eq_true rfl, Nat.le_of_ble_eq_true rfl⟩) ⟨wP_blind, va_recv hK (va_Pl hP) (ci := 1) (q0 := 0) rfl rfl, wP_pre (va_Pl hP) hK (va_Dl hD)⟩ rfl rfl hl.1 rfl (lv_room (Nat.le_of_ble_eq_true rfl)) dL_law_518 ⟨hrc, hrs⟩) hP hD hS hA rfl (fun H locs hP hD hS => ?_)
                refine lv_istore (lv' := [(6, .int (nI 0)), (5, .int (nI 3)), (4, .int (nI i)), (0, .ref b), (1, .ref h), (2, .ref h2), (3, .ref ob)]) hx hb dL_law_521 hl (by decide) rfl (fun ls hl => ?_)
                refine lv_aload_n hx hb dL_law_523 rfl (lv_at hl 5 rfl) ?_
                refine q_callI (r := nI 3) (va_runV (As := []) (rest := []) ⟨hx, hb, hml, hown, hts⟩ (kX1_thrown l D h2 ad2 cI cJ cZ td gc ex mpa di mu dc dg da dh dt dv dd ms ak se mr 3) (cwV 0 hts gL_law_X1_thrown rfl rfl rfl (by decide +kernel) ⟨Nat.le_of_ble_eq_true rfl, Nat.le_of_ble_eq_true rfl⟩) ⟨pP_blind, va_recv hK (va_Pl hP) (ci := 1) (q0 := 0) rfl rfl, pP_pre (va_Pl hP) hK⟩ rfl rfl hl.1 rfl (lv_room (Nat.le_of_ble_eq_true rfl)) dL_law_524 ⟨hrc, hrs⟩) ?_
                refine lv_iload hx hb dL_law_527 (lv_at hl 1 rfl) ?_
                refine lv_icmp_eq (tgt := 534) hx hb dL_law_529 (by decide) (fun _ => ?_) (fun z => absurd rfl z)
                refine lv_iload hx hb dL_law_534 (lv_at hl 1 rfl) ?_
                refine lv_if_ne (tgt := 551) hx hb dL_law_536 (by decide) (fun _ => ?_) (fun z => absurd z (by decide))
                have hP := va_Psw hP
                have hD := va_Dsw hD
                refine lv_goto (tgt := 1367) hx hb dL_law_551 (by decide) ?_
                exact K f lev ex pa mpa di qu mu gc dg dp da dh dt dv dd ds ms dc td ho ak se pr mr 3 H locs ls ⟨hT, hQ, hB, hSR, hPP, hPM, by omega, hmz⟩ hP hD hS (lv_sub hl [2, 3, 4, 5, 6] rfl)
