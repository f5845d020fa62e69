set_option maxHeartbeats 8000000 in
set_option maxRecDepth 100000 in
theorem lc_price {p : Program} {l : Launch} {e : Env} {s : State} {m : MethodId} {below : List Frame} {meth : Method} {c : Code} {b L : Nat} {xs : Nat → Int32} {D : va_G} {cI cJ cZ : ClassId} {h : Nat} {ad : Nat → Nat} {h2 : Nat} {ad2 : Nat → Nat} {ob : Nat} (X0 : LCX p s m meth c b L xs D cI cJ cZ) (hlf : l.stackTraces = false) {i n cells slots : Nat} (hi : i + 7 ≤ L) (hL : L ≤ 3584) (hn : n ≤ 512) (hrc : cells + 1 ≤ 1078) (hrs : slots + 6 ≤ 14711) (K : LK p l e s m below meth c b D cI cJ cZ h ad h2 ad2 ob i (cells + 1) (slots + 6) (n + 1))
    (f : Nat → Int64) (lev : Nat → Nat) (ex : Nat → Bool) (pa mpa : Nat → Option Nat) (di qu mu : Nat → Nat) (gc : Nat) (dg dp da : Nat → Nat) (dh dt dv : Nat → Option Nat) (dd ds ms : Nat → Nat) (dc td : Nat) (ho : Nat → Option Nat) (ak : Nat → Bool) (se pr mr : Nat → Option Nat) (th : Nat) (hI : LI n lev ex pa mpa di qu mu gc dg dp da dh dt dv dd ds ms dc td ho se pr mr) (H : Heap) (locs : List Loc) (hP : va_P D vwCl (((hW h ad cI cZ ex pa di qu gc dg dp dv dd ds dc td ho ak se pr) ++ [(ob, .inl (cJ, 1, .inr (.inl f)))]) ++ (mW h2 ad2 cI cJ cZ td gc ex mpa di mu dc dg da dh dt dv dd ms ak se mr th)) H) (hD : va_D (fun q : Nat => s.heap.size ≤ q) (((hW h ad cI cZ ex pa di qu gc dg dp dv dd ds dc td ho ak se pr) ++ [(ob, .inl (cJ, 1, .inr (.inl f)))]) ++ (mW h2 ad2 cI cJ cZ td gc ex mpa di mu dc dg da dh dt dv dd ms ak se mr th))) (hS : va_S (fun q : Nat => s.heap.size ≤ q) s.heap H locs) (ls : Array Slot) (hl : lv_has ls 7 [(4, .int (nI i)), (0, .ref b), (1, .ref h), (2, .ref h2), (3, .ref ob)]) : W p l e room_1 s m #[Value.ref b] below meth c H locs cells slots (lw_Z below #[Value.ref b] s) (F0 m 1187 ls []) := by
  obtain ⟨C0, hK, hE, hN⟩ := X0
  obtain ⟨hx, hb, hr, hml, hown, hts0, hX, hbl, hlocks, -⟩ := id C0
  have hts : ∀ w ∈ wsL_law, w.before #[Value.ref b] s = true := fun w hw => hts0 w (wsL_law_in w hw)
  have hA : ∀ q : Nat, s.heap.size ≤ q → (fun q : Nat => s.heap.size ≤ q) q := fun _ h => h
  have hbA : ¬ (fun q : Nat => s.heap.size ≤ q) b := Nat.not_le.mpr hbl
  have hrc0 : cells ≤ 1078 := by omega
  have hrs0 : slots ≤ 14711 := by omega
  obtain ⟨hT, hQ, hB, hSR, hPP, hPM, htd, hmz⟩ := hI
  obtain ⟨hti, hme, hpr, hmpr, hpn, hgc, hxg⟩ := id hT
  have htim : TI ex mpa lev := TI_cong hme hti
  obtain ⟨hdi, hqu, hmu, hPT, hmu0⟩ := id hQ
  obtain ⟨hrd, hDR, hds, hho, hdv, hdgc⟩ := id hB
  have hHO := BR_HO hB
  have hRH := BR_RH hB
  have hdp := BR_dp hB
  obtain ⟨hdc, htdl, hdg, hda, hdh, hdt, hdd, hms2⟩ := id hrd
  rcases k_good ex (xs (i + 1)) with hg | ⟨g, hg, e1, he⟩
  · refine lv_aload_n hx hb dL_law_1187 rfl (lv_at hl 2 rfl) ?_
    refine lq_arg (k := 1) (y := xs (i + 1)) hx hb hX hbl hbA hS hl 1 0 rfl rfl (show i + 1 < L by omega) (by omega) (by decide) (rfl) dL_law_1188 dL_law_1189 dL_law_1191 dL_law_1192 dL_law_1193 ?_
    refine lq_arg (k := 2) (y := xs (i + 2)) hx hb hX hbl hbA hS hl 1 0 rfl rfl (show i + 2 < L by omega) (by omega) (by decide) (rfl) dL_law_1194 dL_law_1195 dL_law_1197 dL_law_1198 dL_law_1199 ?_
    refine lv_aload_n hx hb dL_law_1200 rfl (lv_at hl 4 rfl) ?_
    refine q_ecall (k := 1) (vx_runSW (As := [.ref h, .int (xs (i + 1)), .int (xs (i + 2)), .ref ob]) (rest := []) ⟨hx, hb, hml, hown, hts⟩ (kL_priceXI l D h ad cI cZ ex pa di qu gc dg dp dv dd ds dc td ho ak se pr hlf ob (xs (i + 1)) (xs (i + 2)) (Or.inl hg)) (vx_cwSW 4 hts gL_law_L_price rfl rfl rfl (by decide +kernel) ⟨Nat.le_of_ble_eq_true rfl, Nat.le_of_ble_eq_true rfl⟩) ⟨tN_blind, tN_pre (va_Pl (va_Pl hP)) (hK.sub [0, 1] rfl) (tEA_at hE hS) hN⟩ rfl rfl hl.1 rfl (lv_room (Nat.le_of_ble_eq_true rfl)) dL_law_1201 ⟨hrc, hrs⟩) hP hS (fun H hP hS => ?_)
    refine lv_istore (lv' := [(5, .int (nI 1)), (4, .int (nI i)), (0, .ref b), (1, .ref h), (2, .ref h2), (3, .ref ob)]) hx hb dL_law_1204 hl (by decide) rfl (fun ls hl => ?_)
    refine lv_aload_n hx hb dL_law_1206 rfl (lv_at hl 4 rfl) ?_
    refine lq_arg (k := 1) (y := xs (i + 1)) hx hb hX hbl hbA hS hl 2 1 rfl rfl (show i + 1 < L by omega) (by omega) (by decide) (rfl) dL_law_1207 dL_law_1208 dL_law_1210 dL_law_1211 dL_law_1212 ?_
    refine lq_arg (k := 2) (y := xs (i + 2)) hx hb hX hbl hbA hS hl 2 1 rfl rfl (show i + 2 < L by omega) (by omega) (by decide) (rfl) dL_law_1213 dL_law_1214 dL_law_1216 dL_law_1217 dL_law_1218 ?_
    have hP := va_Psw hP
    have hD := va_Dsw hD
    refine q_wcallFI (wa' := (mW h2 ad2 cI cJ cZ td gc ex mpa di mu dc dg da dh dt dv dd ms ak se mr 1)) (wb := ((hW h ad cI cZ ex pa di qu gc dg dp dv dd ds dc td ho ak se pr) ++ [(ob, .inl (cJ, 1, .inr (.inl f)))])) (r := nI 0) (va_runV (As := [.int (xs (i + 1)), .int (xs (i + 2))]) (rest := []) ⟨hx, hb, hml, hown, hts⟩ (kX1_price1 l D h2 ad2 cI cJ cZ td gc ex mpa di mu dc dg da dh dt dv dd ms ak se mr th _ (xs (i + 1)) (xs (i + 2)) hgc hxg (Or.inl hg)) (cwV 2 hts gL_law_X1_price rfl rfl rfl (by decide +kernel) ⟨Nat.le_of_ble_eq_true rfl, Nat.le_of_ble_eq_true rfl⟩) ⟨wP_blind, va_recv hK (va_Pl hP) (ci := 1) (q0 := 0) rfl rfl, wP_pre (va_Pl hP) hK (va_Dl hD)⟩ rfl rfl hl.1 rfl (lv_room (Nat.le_of_ble_eq_true rfl)) dL_law_1219 ⟨hrc, hrs⟩) hP hD hS hA rfl (fun H locs hP hD hS => ?_)
    refine lv_istore (lv' := [(6, .int (nI 0)), (5, .int (nI 1)), (4, .int (nI i)), (0, .ref b), (1, .ref h), (2, .ref h2), (3, .ref ob)]) hx hb dL_law_1222 hl (by decide) rfl (fun ls hl => ?_)
    refine lv_aload_n hx hb dL_law_1224 rfl (lv_at hl 5 rfl) ?_
    refine q_callI (r := nI 1) (va_runV (As := []) (rest := []) ⟨hx, hb, hml, hown, hts⟩ (kX1_thrown l D h2 ad2 cI cJ cZ td gc ex mpa di mu dc dg da dh dt dv dd ms ak se mr 1) (cwV 0 hts gL_law_X1_thrown rfl rfl rfl (by decide +kernel) ⟨Nat.le_of_ble_eq_true rfl, Nat.le_of_ble_eq_true rfl⟩) ⟨pP_blind, va_recv hK (va_Pl hP) (ci := 1) (q0 := 0) rfl rfl, pP_pre (va_Pl hP) hK⟩ rfl rfl hl.1 rfl (lv_room (Nat.le_of_ble_eq_true rfl)) dL_law_1225 ⟨hrc, hrs⟩) ?_
    refine lv_iload hx hb dL_law_1228 (lv_at hl 1 rfl) ?_
    refine lv_icmp_eq (tgt := 1235) hx hb dL_law_1230 (by decide) (fun _ => ?_) (fun z => absurd rfl z)
    refine lv_iload hx hb dL_law_1235 (lv_at hl 1 rfl) ?_
    refine lv_if_ne (tgt := 1252) hx hb dL_law_1237 (by decide) (fun _ => ?_) (fun z => absurd z (by decide))
    have hP := va_Psw hP
    have hD := va_Dsw hD
    refine lv_goto (tgt := 1367) hx hb dL_law_1252 (by decide) ?_
    exact K f lev ex pa mpa di qu mu gc dg dp da dh dt dv dd ds ms dc td ho ak se pr mr 1 H locs ls ⟨hT, hQ, hB, hSR, hPP, hPM, by omega, hmz⟩ hP hD hS (lv_sub hl [2, 3, 4, 5, 6] rfl)
  · rcases k_ix 3 (by decide) (xs (i + 2)) with hs | ⟨sp, hs, e2⟩
    · refine lv_aload_n hx hb dL_law_1187 rfl (lv_at hl 2 rfl) ?_
      refine lq_arg (k := 1) (y := xs (i + 1)) hx hb hX hbl hbA hS hl 1 0 rfl rfl (show i + 1 < L by omega) (by omega) (by decide) (rfl) dL_law_1188 dL_law_1189 dL_law_1191 dL_law_1192 dL_law_1193 ?_
      refine lq_arg (k := 2) (y := xs (i + 2)) hx hb hX hbl hbA hS hl 1 0 rfl rfl (show i + 2 < L by omega) (by omega) (by decide) (rfl) dL_law_1194 dL_law_1195 dL_law_1197 dL_law_1198 dL_law_1199 ?_
      refine lv_aload_n hx hb dL_law_1200 rfl (lv_at hl 4 rfl) ?_
      refine q_ecall (k := 1) (vx_runSW (As := [.ref h, .int (xs (i + 1)), .int (xs (i + 2)), .ref ob]) (rest := []) ⟨hx, hb, hml, hown, hts⟩ (kL_priceXI l D h ad cI cZ ex pa di qu gc dg dp dv dd ds dc td ho ak se pr hlf ob (xs (i + 1)) (xs (i + 2)) (Or.inr ⟨g, hg, e1, he, hs⟩)) (vx_cwSW 4 hts gL_law_L_price rfl rfl rfl (by decide +kernel) ⟨Nat.le_of_ble_eq_true rfl, Nat.le_of_ble_eq_true rfl⟩) ⟨tN_blind, tN_pre (va_Pl (va_Pl hP)) (hK.sub [0, 1] rfl) (tEA_at hE hS) hN⟩ rfl rfl hl.1 rfl (lv_room (Nat.le_of_ble_eq_true rfl)) dL_law_1201 ⟨hrc, hrs⟩) hP hS (fun H hP hS => ?_)
      refine lv_istore (lv' := [(5, .int (nI 1)), (4, .int (nI i)), (0, .ref b), (1, .ref h), (2, .ref h2), (3, .ref ob)]) hx hb dL_law_1204 hl (by decide) rfl (fun ls hl => ?_)
      refine lv_aload_n hx hb dL_law_1206 rfl (lv_at hl 4 rfl) ?_
      refine lq_arg (k := 1) (y := xs (i + 1)) hx hb hX hbl hbA hS hl 2 1 rfl rfl (show i + 1 < L by omega) (by omega) (by decide) (rfl) dL_law_1207 dL_law_1208 dL_law_1210 dL_law_1211 dL_law_1212 ?_
      refine lq_arg (k := 2) (y := xs (i + 2)) hx hb hX hbl hbA hS hl 2 1 rfl rfl (show i + 2 < L by omega) (by omega) (by decide) (rfl) dL_law_1213 dL_law_1214 dL_law_1216 dL_law_1217 dL_law_1218 ?_
      have hP := va_Psw hP
      have hD := va_Dsw hD
      refine q_wcallFI (wa' := (mW h2 ad2 cI cJ cZ td gc ex mpa di mu dc dg da dh dt dv dd ms ak se mr 1)) (wb := ((hW h ad cI cZ ex pa di qu gc dg dp dv dd ds dc td ho ak se pr) ++ [(ob, .inl (cJ, 1, .inr (.inl f)))])) (r := nI 0) (va_runV (As := [.int (xs (i + 1)), .int (xs (i + 2))]) (rest := []) ⟨hx, hb, hml, hown, hts⟩ (kX1_price1 l D h2 ad2 cI cJ cZ td gc ex mpa di mu dc dg da dh dt dv dd ms ak se mr th _ (xs (i + 1)) (xs (i + 2)) hgc hxg (Or.inr ⟨g, hg, e1, he, hs⟩)) (cwV 2 hts gL_law_X1_price rfl rfl rfl (by decide +kernel) ⟨Nat.le_of_ble_eq_true rfl, Nat.le_of_ble_eq_true rfl⟩) ⟨wP_blind, va_recv hK (va_Pl hP) (ci := 1) (q0 := 0) rfl rfl, wP_pre (va_Pl hP) hK (va_Dl hD)⟩ rfl rfl hl.1 rfl (lv_room (Nat.le_of_ble_eq_true rfl)) dL_law_1219 ⟨hrc, hrs⟩) hP hD hS hA rfl (fun H locs hP hD hS => ?_)
      refine lv_istore (lv' := [(6, .int (nI 0)), (5, .int (nI 1)), (4, .int (nI i)), (0, .ref b), (1, .ref h), (2, .ref h2), (3, .ref ob)]) hx hb dL_law_1222 hl (by decide) rfl (fun ls hl => ?_)
      refine lv_aload_n hx hb dL_law_1224 rfl (lv_at hl 5 rfl) ?_
      refine q_callI (r := nI 1) (va_runV (As := []) (rest := []) ⟨hx, hb, hml, hown, hts⟩ (kX1_thrown l D h2 ad2 cI cJ cZ td gc ex mpa di mu dc dg da dh dt dv dd ms ak se mr 1) (cwV 0 hts gL_law_X1_thrown rfl rfl rfl (by decide +kernel) ⟨Nat.le_of_ble_eq_true rfl, Nat.le_of_ble_eq_true rfl⟩) ⟨pP_blind, va_recv hK (va_Pl hP) (ci := 1) (q0 := 0) rfl rfl, pP_pre (va_Pl hP) hK⟩ rfl rfl hl.1 rfl (lv_room (Nat.le_of_ble_eq_true rfl)) dL_law_1225 ⟨hrc, hrs⟩) ?_
      refine lv_iload hx hb dL_law_1228 (lv_at hl 1 rfl) ?_
      refine lv_icmp_eq (tgt := 1235) hx hb dL_law_1230 (by decide) (fun _ => ?_) (fun z => absurd rfl z)
      refine lv_iload hx hb dL_law_1235 (lv_at hl 1 rfl) ?_
      refine lv_if_ne (tgt := 1252) hx hb dL_law_1237 (by decide) (fun _ => ?_) (fun z => absurd z (by decide))
      have hP := va_Psw hP
      have hD := va_Dsw hD
      refine lv_goto (tgt := 1367) hx hb dL_law_1252 (by decide) ?_
      exact K f lev ex pa mpa di qu mu gc dg dp da dh dt dv dd ds ms dc td ho ak se pr mr 1 H locs ls ⟨hT, hQ, hB, hSR, hPP, hPM, by omega, hmz⟩ hP hD hS (lv_sub hl [2, 3, 4, 5, 6] rfl)
    · have hpm : prs (vlu ex mpa ho dv 0 (sp + 1) (0 + 1)) mu di mr (g + 1) g = prs (vlu ex pa ho dv 0 (sp + 1) (0 + 1)) qu di pr (g + 1) g := prs_m hT hPT hg he
      have hp1 : PP (prs (vlu ex pa ho dv 0 (sp + 1) (0 + 1)) qu di pr (g + 1)) := prs_in (fun k hk => vlu_in hHO hpr hdv hk (by omega) (show sp + 1 < 4 by omega) (by omega)) hPP (g + 1) (by omega)
      have hp2 : PP (prs (vlu ex mpa ho dv 0 (sp + 1) (0 + 1)) mu di mr (g + 1)) := prs_in (fun k hk => vlu_in hHO hmpr hdv hk (by omega) (show sp + 1 < 4 by omega) (by omega)) hPM (g + 1) (by omega)
      by_cases hnv : prs (vlu ex pa ho dv 0 (sp + 1) (0 + 1)) qu di pr (g + 1) g = none
      · refine lv_aload_n hx hb dL_law_1187 rfl (lv_at hl 2 rfl) ?_
        refine lq_arg (k := 1) (y := nI g) hx hb hX hbl hbA hS hl 1 0 rfl rfl (show i + 1 < L by omega) (by omega) (by decide) (e1) dL_law_1188 dL_law_1189 dL_law_1191 dL_law_1192 dL_law_1193 ?_
        refine lq_arg (k := 2) (y := nI sp) hx hb hX hbl hbA hS hl 1 0 rfl rfl (show i + 2 < L by omega) (by omega) (by decide) (e2) dL_law_1194 dL_law_1195 dL_law_1197 dL_law_1198 dL_law_1199 ?_
        refine lv_aload_n hx hb dL_law_1200 rfl (lv_at hl 4 rfl) ?_
        rw [List.append_assoc] at hP hD
        refine q_wcallGI (wa' := (hW h ad cI cZ ex pa di qu gc dg dp dv dd ds dc td ho ak se (prs (vlu ex pa ho dv 0 (sp + 1) (0 + 1)) qu di pr (g + 1)))) (wb := ([(ob, .inl (cJ, 1, .inr (.inl f)))] ++ (mW h2 ad2 cI cJ cZ td gc ex mpa di mu dc dg da dh dt dv dd ms ak se mr th))) (r := nI 2) (vx_runSW (As := [.ref h, .int (nI g), .int (nI sp), .ref ob]) (rest := []) ⟨hx, hb, hml, hown, hts⟩ (kL_priceXS l D h ad cI cZ ex pa di qu gc dg dp dv dd ds dc td ho ak se pr _ hlf ob g sp hg hs he hpr hHO hdc hdv hqu hdi hPP hnv) (vx_cwSW 4 hts gL_law_L_price rfl rfl rfl (by decide +kernel) ⟨Nat.le_of_ble_eq_true rfl, Nat.le_of_ble_eq_true rfl⟩) ⟨xN_blind, xN_pre (va_Pl hP) (hK.sub [0, 1] rfl) (va_Dl hD) (tEA_na (tEA_at hE hS) (lq_sub (va_Dl hD) hS)) hN⟩ rfl rfl hl.1 rfl (lv_room (Nat.le_of_ble_eq_true rfl)) dL_law_1201 ⟨hrc, hrs⟩) hP hD hS hA rfl (fun H locs hP hD hS => ?_)
        rw [← List.append_assoc] at hP hD
        refine lv_istore (lv' := [(5, .int (nI 2)), (4, .int (nI i)), (0, .ref b), (1, .ref h), (2, .ref h2), (3, .ref ob)]) hx hb dL_law_1204 hl (by decide) rfl (fun ls hl => ?_)
        refine lv_aload_n hx hb dL_law_1206 rfl (lv_at hl 4 rfl) ?_
        refine lq_arg (k := 1) (y := nI g) hx hb hX hbl hbA hS hl 2 1 rfl rfl (show i + 1 < L by omega) (by omega) (by decide) (e1) dL_law_1207 dL_law_1208 dL_law_1210 dL_law_1211 dL_law_1212 ?_
        refine lq_arg (k := 2) (y := nI sp) hx hb hX hbl hbA hS hl 2 1 rfl rfl (show i + 2 < L by omega) (by omega) (by decide) (e2) dL_law_1213 dL_law_1214 dL_law_1216 dL_law_1217 dL_law_1218 ?_
        have hP := va_Psw hP
        have hD := va_Dsw hD
        refine q_wcallFI (wa' := (mW h2 ad2 cI cJ cZ td gc ex mpa di mu dc dg da dh dt dv dd ms ak se (prs (vlu ex mpa ho dv 0 (sp + 1) (0 + 1)) mu di mr (g + 1)) 2)) (wb := ((hW h ad cI cZ ex pa di qu gc dg dp dv dd ds dc td ho ak se (prs (vlu ex pa ho dv 0 (sp + 1) (0 + 1)) qu di pr (g + 1))) ++ [(ob, .inl (cJ, 1, .inr (.inl f)))])) (r := nI 0) (va_runV (As := [.int (nI g), .int (nI sp)]) (rest := []) ⟨hx, hb, hml, hown, hts⟩ (kX1_price2 l D h2 ad2 cI cJ cZ td gc ex mpa di mu dc dg da dh dt dv dd ms ak se mr th _ ho lev g sp htim hg he hs hgc hxg hrd hRH hmpr hHO hdv hmu hdi hPM (hpm.trans hnv)) (cwV 2 hts gL_law_X1_price rfl rfl rfl (by decide +kernel) ⟨Nat.le_of_ble_eq_true rfl, Nat.le_of_ble_eq_true rfl⟩) ⟨wP_blind, va_recv hK (va_Pl hP) (ci := 1) (q0 := 0) rfl rfl, wP_pre (va_Pl hP) hK (va_Dl hD)⟩ rfl rfl hl.1 rfl (lv_room (Nat.le_of_ble_eq_true rfl)) dL_law_1219 ⟨hrc, hrs⟩) hP hD hS hA rfl (fun H locs hP hD hS => ?_)
        refine lv_istore (lv' := [(6, .int (nI 0)), (5, .int (nI 2)), (4, .int (nI i)), (0, .ref b), (1, .ref h), (2, .ref h2), (3, .ref ob)]) hx hb dL_law_1222 hl (by decide) rfl (fun ls hl => ?_)
        refine lv_aload_n hx hb dL_law_1224 rfl (lv_at hl 5 rfl) ?_
        refine q_callI (r := nI 2) (va_runV (As := []) (rest := []) ⟨hx, hb, hml, hown, hts⟩ (kX1_thrown l D h2 ad2 cI cJ cZ td gc ex mpa di mu dc dg da dh dt dv dd ms ak se (prs (vlu ex mpa ho dv 0 (sp + 1) (0 + 1)) mu di mr (g + 1)) 2) (cwV 0 hts gL_law_X1_thrown rfl rfl rfl (by decide +kernel) ⟨Nat.le_of_ble_eq_true rfl, Nat.le_of_ble_eq_true rfl⟩) ⟨pP_blind, va_recv hK (va_Pl hP) (ci := 1) (q0 := 0) rfl rfl, pP_pre (va_Pl hP) hK⟩ rfl rfl hl.1 rfl (lv_room (Nat.le_of_ble_eq_true rfl)) dL_law_1225 ⟨hrc, hrs⟩) ?_
        refine lv_iload hx hb dL_law_1228 (lv_at hl 1 rfl) ?_
        refine lv_icmp_eq (tgt := 1235) hx hb dL_law_1230 (by decide) (fun _ => ?_) (fun z => absurd rfl z)
        refine lv_iload hx hb dL_law_1235 (lv_at hl 1 rfl) ?_
        refine lv_if_ne (tgt := 1252) hx hb dL_law_1237 (by decide) (fun _ => ?_) (fun z => absurd z (by decide))
        have hP := va_Psw hP
        have hD := va_Dsw hD
        refine lv_goto (tgt := 1367) hx hb dL_law_1252 (by decide) ?_
        exact K f lev ex pa mpa di qu mu gc dg dp da dh dt dv dd ds ms dc td ho ak se (prs (vlu ex pa ho dv 0 (sp + 1) (0 + 1)) qu di pr (g + 1)) (prs (vlu ex mpa ho dv 0 (sp + 1) (0 + 1)) mu di mr (g + 1)) 2 H locs ls ⟨hT, hQ, hB, hSR, hp1, hp2, by omega, hmz⟩ hP hD hS (lv_sub hl [2, 3, 4, 5, 6] rfl)
      · refine lv_aload_n hx hb dL_law_1187 rfl (lv_at hl 2 rfl) ?_
        refine lq_arg (k := 1) (y := nI g) hx hb hX hbl hbA hS hl 1 0 rfl rfl (show i + 1 < L by omega) (by omega) (by decide) (e1) dL_law_1188 dL_law_1189 dL_law_1191 dL_law_1192 dL_law_1193 ?_
        refine lq_arg (k := 2) (y := nI sp) hx hb hX hbl hbA hS hl 1 0 rfl rfl (show i + 2 < L by omega) (by omega) (by decide) (e2) dL_law_1194 dL_law_1195 dL_law_1197 dL_law_1198 dL_law_1199 ?_
        refine lv_aload_n hx hb dL_law_1200 rfl (lv_at hl 4 rfl) ?_
        refine q_wcallFI (wa' := ((hW h ad cI cZ ex pa di qu gc dg dp dv dd ds dc td ho ak se (prs (vlu ex pa ho dv 0 (sp + 1) (0 + 1)) qu di pr (g + 1))) ++ [(ob, .inl (cJ, 1, .inr (.inl (vp_updL f 0 (oL (prs (vlu ex pa ho dv 0 (sp + 1) (0 + 1)) qu di pr (g + 1) g))))))])) (wb := (mW h2 ad2 cI cJ cZ td gc ex mpa di mu dc dg da dh dt dv dd ms ak se mr th)) (r := nI 0) (vx_runSW (As := [.ref h, .int (nI g), .int (nI sp), .ref ob]) (rest := []) ⟨hx, hb, hml, hown, hts⟩ (kL_price l D h ad cI cZ ex pa di qu gc dg dp dv dd ds dc td ho ak se pr cJ ob f _ g sp hg hs he hpr hHO hdc hdv hqu hdi hPP hnv (fun k e => by have := hp1 g hg k e; omega)) (vx_cwSW 4 hts gL_law_L_price rfl rfl rfl (by decide +kernel) ⟨Nat.le_of_ble_eq_true rfl, Nat.le_of_ble_eq_true rfl⟩) ⟨wP_blind, wP_pre (va_Pl hP) hK (va_Dl hD)⟩ rfl rfl hl.1 rfl (lv_room (Nat.le_of_ble_eq_true rfl)) dL_law_1201 ⟨hrc0, hrs0⟩) hP hD hS hA rfl (fun H locs hP hD hS => ?_)
        refine lv_istore (lv' := [(5, .int (nI 0)), (4, .int (nI i)), (0, .ref b), (1, .ref h), (2, .ref h2), (3, .ref ob)]) hx hb dL_law_1204 hl (by decide) rfl (fun ls hl => ?_)
        refine lv_aload_n hx hb dL_law_1206 rfl (lv_at hl 4 rfl) ?_
        refine lq_arg (k := 1) (y := nI g) hx hb hX hbl hbA hS hl 2 1 rfl rfl (show i + 1 < L by omega) (by omega) (by decide) (e1) dL_law_1207 dL_law_1208 dL_law_1210 dL_law_1211 dL_law_1212 ?_
        refine lq_arg (k := 2) (y := nI sp) hx hb hX hbl hbA hS hl 2 1 rfl rfl (show i + 2 < L by omega) (by omega) (by decide) (e2) dL_law_1213 dL_law_1214 dL_law_1216 dL_law_1217 dL_law_1218 ?_
        have hP := va_Psw hP
        have hD := va_Dsw hD
        refine q_wcallFI (wa' := (mW h2 ad2 cI cJ cZ td gc ex mpa di mu dc dg da dh dt dv dd ms ak se (prs (vlu ex mpa ho dv 0 (sp + 1) (0 + 1)) mu di mr (g + 1)) 0)) (wb := ((hW h ad cI cZ ex pa di qu gc dg dp dv dd ds dc td ho ak se (prs (vlu ex pa ho dv 0 (sp + 1) (0 + 1)) qu di pr (g + 1))) ++ [(ob, .inl (cJ, 1, .inr (.inl (vp_updL f 0 (oL (prs (vlu ex pa ho dv 0 (sp + 1) (0 + 1)) qu di pr (g + 1) g))))))])) (r := oI (prs (vlu ex mpa ho dv 0 (sp + 1) (0 + 1)) mu di mr (g + 1) g)) (va_runV (As := [.int (nI g), .int (nI sp)]) (rest := []) ⟨hx, hb, hml, hown, hts⟩ (kX1_price l D h2 ad2 cI cJ cZ td gc ex mpa di mu dc dg da dh dt dv dd ms ak se mr th _ ho lev g sp htim hg he hs hgc hxg hrd hRH hmpr hHO hdv hmu hdi hPM (by rw [hpm]; exact hnv)) (cwV 2 hts gL_law_X1_price rfl rfl rfl (by decide +kernel) ⟨Nat.le_of_ble_eq_true rfl, Nat.le_of_ble_eq_true rfl⟩) ⟨wP_blind, va_recv hK (va_Pl hP) (ci := 1) (q0 := 0) rfl rfl, wP_pre (va_Pl hP) hK (va_Dl hD)⟩ rfl rfl hl.1 rfl (lv_room (Nat.le_of_ble_eq_true rfl)) dL_law_1219 ⟨hrc0, hrs0⟩) hP hD hS hA rfl (fun H locs hP hD hS => ?_)
        refine lv_istore (lv' := [(6, .int (oI (prs (vlu ex mpa ho dv 0 (sp + 1) (0 + 1)) mu di mr (g + 1) g))), (5, .int (nI 0)), (4, .int (nI i)), (0, .ref b), (1, .ref h), (2, .ref h2), (3, .ref ob)]) hx hb dL_law_1222 hl (by decide) rfl (fun ls hl => ?_)
        refine lv_aload_n hx hb dL_law_1224 rfl (lv_at hl 5 rfl) ?_
        refine q_callI (r := nI 0) (va_runV (As := []) (rest := []) ⟨hx, hb, hml, hown, hts⟩ (kX1_thrown l D h2 ad2 cI cJ cZ td gc ex mpa di mu dc dg da dh dt dv dd ms ak se (prs (vlu ex mpa ho dv 0 (sp + 1) (0 + 1)) mu di mr (g + 1)) 0) (cwV 0 hts gL_law_X1_thrown rfl rfl rfl (by decide +kernel) ⟨Nat.le_of_ble_eq_true rfl, Nat.le_of_ble_eq_true rfl⟩) ⟨pP_blind, va_recv hK (va_Pl hP) (ci := 1) (q0 := 0) rfl rfl, pP_pre (va_Pl hP) hK⟩ rfl rfl hl.1 rfl (lv_room (Nat.le_of_ble_eq_true rfl)) dL_law_1225 ⟨hrc0, hrs0⟩) ?_
        refine lv_iload hx hb dL_law_1228 (lv_at hl 1 rfl) ?_
        refine lv_icmp_eq (tgt := 1235) hx hb dL_law_1230 (by decide) (fun _ => ?_) (fun z => absurd rfl z)
        refine lv_iload hx hb dL_law_1235 (lv_at hl 1 rfl) ?_
        refine lv_if_ne (tgt := 1252) hx hb dL_law_1237 (by decide) (fun z => absurd (by decide) z) (fun _ => ?_)
        refine lv_aload_n hx hb dL_law_1240 rfl (lv_at hl 6 rfl) ?_
        refine lv_iconst (v := nI 0) hx hb dL_law_1241 (by decide) ?_
        refine va_lald hx hb hK (va_Pr hP) 14 2 rfl rfl (vp_in_nI (by decide) (by decide)) dL_law_1242 ?_
        refine q_topL (y := (oL (prs (vlu ex pa ho dv 0 (sp + 1) (0 + 1)) qu di pr (g + 1) g))) vpU ?_
        refine lv_iload hx hb dL_law_1243 (lv_at hl 0 rfl) ?_
        refine lv_i2l (v := (oL (prs (vlu ex pa ho dv 0 (sp + 1) (0 + 1)) qu di pr (g + 1) g))) hx hb dL_law_1245 (by rw [hpm]; exact oI_l (fun k e => by have := hp1 g hg k e; omega)) ?_
        refine W.lcmp hx hb dL_law_1246 ?_
        refine lv_if_eq (tgt := 1252) hx hb dL_law_1247 (by decide) (fun _ => ?_) (fun z => absurd ((lg_cmp_eq _ _).mpr rfl) z)
        have hP := va_Psw hP
        have hD := va_Dsw hD
        refine lv_goto (tgt := 1367) hx hb dL_law_1252 (by decide) ?_
        refine W.widen (k := cells + 1) (n := slots + 6) (by omega) (by omega) ?_
        exact K (vp_updL f 0 (oL (prs (vlu ex pa ho dv 0 (sp + 1) (0 + 1)) qu di pr (g + 1) g))) lev ex pa mpa di qu mu gc dg dp da dh dt dv dd ds ms dc td ho ak se (prs (vlu ex pa ho dv 0 (sp + 1) (0 + 1)) qu di pr (g + 1)) (prs (vlu ex mpa ho dv 0 (sp + 1) (0 + 1)) mu di mr (g + 1)) 0 H locs ls ⟨hT, hQ, hB, hSR, hp1, hp2, by omega, hmz⟩ hP hD hS (lv_sub hl [2, 3, 4, 5, 6] rfl)

set_option maxHeartbeats 8000000 in
set_option maxRecDepth 100000 in
theorem lc_changed {p : Program} {l : Launch} {e : Env} {s : State} {m : MethodId} {below : List Frame} {meth : Method} {c : Code} {b L : Nat} {xs : Nat → Int32} {D : va_G} {cI cJ cZ : ClassId} {h : Nat} {ad : Nat → Nat} {h2 : Nat} {ad2 : Nat → Nat} {ob : Nat} (X0 : LCX p s m meth c b L xs D cI cJ cZ) (hlf : l.stackTraces = false) {i n cells slots : Nat} (hi : i + 7 ≤ L) (hL : L ≤ 3584) (hn : n ≤ 512) (hrc : cells + 1 ≤ 1078) (hrs : slots + 6 ≤ 14711) (K : LK p l e s m below meth c b D cI cJ cZ h ad h2 ad2 ob i (cells + 1) (slots + 6) (n + 1))
    (f : Nat → Int64) (lev : Nat → Nat) (ex : Nat → Bool) (pa mpa : Nat → Option Nat) (di qu mu : Nat → Nat) (gc : Nat) (dg dp da : Nat → Nat) (dh dt dv : Nat → Option Nat) (dd ds ms : Nat → Nat) (dc td : Nat) (ho : Nat → Option Nat) (ak : Nat → Bool) (se pr mr : Nat → Option Nat) (th : Nat) (hI : LI n lev ex pa mpa di qu mu gc dg dp da dh dt dv dd ds ms dc td ho se pr mr) (H : Heap) (locs : List Loc) (hP : va_P D vwCl (((hW h ad cI cZ ex pa di qu gc dg dp dv dd ds dc td ho ak se pr) ++ [(ob, .inl (cJ, 1, .inr (.inl f)))]) ++ (mW h2 ad2 cI cJ cZ td gc ex mpa di mu dc dg da dh dt dv dd ms ak se mr th)) H) (hD : va_D (fun q : Nat => s.heap.size ≤ q) (((hW h ad cI cZ ex pa di qu gc dg dp dv dd ds dc td ho ak se pr) ++ [(ob, .inl (cJ, 1, .inr (.inl f)))]) ++ (mW h2 ad2 cI cJ cZ td gc ex mpa di mu dc dg da dh dt dv dd ms ak se mr th))) (hS : va_S (fun q : Nat => s.heap.size ≤ q) s.heap H locs) (ls : Array Slot) (hl : lv_has ls 7 [(4, .int (nI i)), (0, .ref b), (1, .ref h), (2, .ref h2), (3, .ref ob)]) : W p l e room_1 s m #[Value.ref b] below meth c H locs cells slots (lw_Z below #[Value.ref b] s) (F0 m 1255 ls []) := by
  obtain ⟨C0, hK, hE, hN⟩ := X0
  obtain ⟨hx, hb, hr, hml, hown, hts0, hX, hbl, hlocks, -⟩ := id C0
  have hts : ∀ w ∈ wsL_law, w.before #[Value.ref b] s = true := fun w hw => hts0 w (wsL_law_in w hw)
  have hA : ∀ q : Nat, s.heap.size ≤ q → (fun q : Nat => s.heap.size ≤ q) q := fun _ h => h
  have hbA : ¬ (fun q : Nat => s.heap.size ≤ q) b := Nat.not_le.mpr hbl
  have hrc0 : cells ≤ 1078 := by omega
  have hrs0 : slots ≤ 14711 := by omega
  obtain ⟨hT, hQ, hB, hSR, hPP, hPM, htd, hmz⟩ := hI
  obtain ⟨hti, hme, hpr, hmpr, hpn, hgc, hxg⟩ := id hT
  have htim : TI ex mpa lev := TI_cong hme hti
  obtain ⟨hdi, hqu, hmu, hPT, hmu0⟩ := id hQ
  obtain ⟨hrd, hDR, hds, hho, hdv, hdgc⟩ := id hB
  have hHO := BR_HO hB
  have hRH := BR_RH hB
  have hdp := BR_dp hB
  obtain ⟨hdc, htdl, hdg, hda, hdh, hdt, hdd, hms2⟩ := id hrd
  rcases k_ix 3 (by decide) (xs (i + 1)) with hs | ⟨sp, hs, e1⟩
  · refine lv_aload_n hx hb dL_law_1255 rfl (lv_at hl 2 rfl) ?_
    refine lq_arg (k := 1) (y := xs (i + 1)) hx hb hX hbl hbA hS hl 1 0 rfl rfl (show i + 1 < L by omega) (by omega) (by decide) (rfl) dL_law_1256 dL_law_1257 dL_law_1259 dL_law_1260 dL_law_1261 ?_
    refine lv_aload_n hx hb dL_law_1262 rfl (lv_at hl 4 rfl) ?_
    refine q_ecall (k := 1) (vx_runSW (As := [.ref h, .int (xs (i + 1)), .ref ob]) (rest := []) ⟨hx, hb, hml, hown, hts⟩ (kL_changedXI l D h ad cI cZ ex pa di qu gc dg dp dv dd ds dc td ho ak se pr hlf ob (xs (i + 1)) hs) (vx_cwSW 3 hts gL_law_L_changed rfl rfl rfl (by decide +kernel) ⟨Nat.le_of_ble_eq_true rfl, Nat.le_of_ble_eq_true rfl⟩) ⟨tN_blind, tN_pre (va_Pl (va_Pl hP)) (hK.sub [0, 1] rfl) (tEA_at hE hS) hN⟩ rfl rfl hl.1 rfl (lv_room (Nat.le_of_ble_eq_true rfl)) dL_law_1263 ⟨hrc, hrs⟩) hP hS (fun H hP hS => ?_)
    refine lv_istore (lv' := [(5, .int (nI 1)), (4, .int (nI i)), (0, .ref b), (1, .ref h), (2, .ref h2), (3, .ref ob)]) hx hb dL_law_1266 hl (by decide) rfl (fun ls hl => ?_)
    refine lv_aload_n hx hb dL_law_1268 rfl (lv_at hl 4 rfl) ?_
    refine lq_arg (k := 1) (y := xs (i + 1)) hx hb hX hbl hbA hS hl 2 1 rfl rfl (show i + 1 < L by omega) (by omega) (by decide) (rfl) dL_law_1269 dL_law_1270 dL_law_1272 dL_law_1273 dL_law_1274 ?_
    have hP := va_Psw hP
    have hD := va_Dsw hD
    refine q_wcallFI (wa' := (mW h2 ad2 cI cJ cZ td gc ex mpa di mu dc dg da dh dt dv dd ms ak se mr 1)) (wb := ((hW h ad cI cZ ex pa di qu gc dg dp dv dd ds dc td ho ak se pr) ++ [(ob, .inl (cJ, 1, .inr (.inl f)))])) (r := nI 0) (va_runV (As := [.int (xs (i + 1))]) (rest := []) ⟨hx, hb, hml, hown, hts⟩ (kX1_changed1 l D h2 ad2 cI cJ cZ td gc ex mpa di mu dc dg da dh dt dv dd ms ak se mr th _ (xs (i + 1)) hs) (cwV 1 hts gL_law_X1_changed rfl rfl rfl (by decide +kernel) ⟨Nat.le_of_ble_eq_true rfl, Nat.le_of_ble_eq_true rfl⟩) ⟨wP_blind, va_recv hK (va_Pl hP) (ci := 1) (q0 := 0) rfl rfl, wP_pre (va_Pl hP) hK (va_Dl hD)⟩ rfl rfl hl.1 rfl (lv_room (Nat.le_of_ble_eq_true rfl)) dL_law_1275 ⟨hrc, hrs⟩) hP hD hS hA rfl (fun H locs hP hD hS => ?_)
    refine lv_istore (lv' := [(6, .int (nI 0)), (5, .int (nI 1)), (4, .int (nI i)), (0, .ref b), (1, .ref h), (2, .ref h2), (3, .ref ob)]) hx hb dL_law_1278 hl (by decide) rfl (fun ls hl => ?_)
    refine lv_aload_n hx hb dL_law_1280 rfl (lv_at hl 5 rfl) ?_
    refine q_callI (r := nI 1) (va_runV (As := []) (rest := []) ⟨hx, hb, hml, hown, hts⟩ (kX1_thrown l D h2 ad2 cI cJ cZ td gc ex mpa di mu dc dg da dh dt dv dd ms ak se mr 1) (cwV 0 hts gL_law_X1_thrown rfl rfl rfl (by decide +kernel) ⟨Nat.le_of_ble_eq_true rfl, Nat.le_of_ble_eq_true rfl⟩) ⟨pP_blind, va_recv hK (va_Pl hP) (ci := 1) (q0 := 0) rfl rfl, pP_pre (va_Pl hP) hK⟩ rfl rfl hl.1 rfl (lv_room (Nat.le_of_ble_eq_true rfl)) dL_law_1281 ⟨hrc, hrs⟩) ?_
    refine lv_iload hx hb dL_law_1284 (lv_at hl 1 rfl) ?_
    refine lv_icmp_eq (tgt := 1291) hx hb dL_law_1286 (by decide) (fun _ => ?_) (fun z => absurd rfl z)
    refine lv_iload hx hb dL_law_1291 (lv_at hl 1 rfl) ?_
    refine lv_if_ne (tgt := 1308) hx hb dL_law_1293 (by decide) (fun _ => ?_) (fun z => absurd z (by decide))
    have hP := va_Psw hP
    have hD := va_Dsw hD
    refine lv_goto (tgt := 1367) hx hb dL_law_1308 (by decide) ?_
    exact K f lev ex pa mpa di qu mu gc dg dp da dh dt dv dd ds ms dc td ho ak se pr mr 1 H locs ls ⟨hT, hQ, hB, hSR, hPP, hPM, by omega, hmz⟩ hP hD hS (lv_sub hl [2, 3, 4, 5, 6] rfl)
  · have hb2 : bset (lkd ex pa ho dv se sp) 16 < 2147483648 := Nat.lt_trans (bset_lt _ 16) (by decide)
    refine lv_aload_n hx hb dL_law_1255 rfl (lv_at hl 2 rfl) ?_
    refine lq_arg (k := 1) (y := nI sp) hx hb hX hbl hbA hS hl 1 0 rfl rfl (show i + 1 < L by omega) (by omega) (by decide) (e1) dL_law_1256 dL_law_1257 dL_law_1259 dL_law_1260 dL_law_1261 ?_
    refine lv_aload_n hx hb dL_law_1262 rfl (lv_at hl 4 rfl) ?_
    refine q_wcallFI (wa' := ((hW h ad cI cZ ex pa di qu gc dg dp dv dd ds dc td ho ak se pr) ++ [(ob, .inl (cJ, 1, .inr (.inl (vp_updL f 0 (lN (bset (lkd ex pa ho dv se sp) 16))))))])) (wb := (mW h2 ad2 cI cJ cZ td gc ex mpa di mu dc dg da dh dt dv dd ms ak se mr th)) (r := nI 0) (vx_runSW (As := [.ref h, .int (nI sp), .ref ob]) (rest := []) ⟨hx, hb, hml, hown, hts⟩ (kL_changed l D h ad cI cZ ex pa di qu gc dg dp dv dd ds dc td ho ak se pr cJ ob f _ sp hs hpr hHO hdc hdv hSR.1 hb2) (vx_cwSW 3 hts gL_law_L_changed rfl rfl rfl (by decide +kernel) ⟨Nat.le_of_ble_eq_true rfl, Nat.le_of_ble_eq_true rfl⟩) ⟨wP_blind, wP_pre (va_Pl hP) hK (va_Dl hD)⟩ rfl rfl hl.1 rfl (lv_room (Nat.le_of_ble_eq_true rfl)) dL_law_1263 ⟨hrc0, hrs0⟩) hP hD hS hA rfl (fun H locs hP hD hS => ?_)
    refine lv_istore (lv' := [(5, .int (nI 0)), (4, .int (nI i)), (0, .ref b), (1, .ref h), (2, .ref h2), (3, .ref ob)]) hx hb dL_law_1266 hl (by decide) rfl (fun ls hl => ?_)
    refine lv_aload_n hx hb dL_law_1268 rfl (lv_at hl 4 rfl) ?_
    refine lq_arg (k := 1) (y := nI sp) hx hb hX hbl hbA hS hl 2 1 rfl rfl (show i + 1 < L by omega) (by omega) (by decide) (e1) dL_law_1269 dL_law_1270 dL_law_1272 dL_law_1273 dL_law_1274 ?_
    have hP := va_Psw hP
    have hD := va_Dsw hD
    refine q_wcallFI (wa' := (mW h2 ad2 cI cJ cZ td gc ex mpa di mu dc dg da dh dt dv dd ms ak se mr 0)) (wb := ((hW h ad cI cZ ex pa di qu gc dg dp dv dd ds dc td ho ak se pr) ++ [(ob, .inl (cJ, 1, .inr (.inl (vp_updL f 0 (lN (bset (lkd ex pa ho dv se sp) 16))))))])) (r := nI (bset (lkd ex mpa ho dv se sp) gc)) (va_runV (As := [.int (nI sp)]) (rest := []) ⟨hx, hb, hml, hown, hts⟩ (kX1_changed l D h2 ad2 cI cJ cZ td gc ex mpa di mu dc dg da dh dt dv dd ms ak se mr th _ ho lev sp htim hs hgc hrd hRH hmpr hHO hdv hSR.1) (cwV 1 hts gL_law_X1_changed rfl rfl rfl (by decide +kernel) ⟨Nat.le_of_ble_eq_true rfl, Nat.le_of_ble_eq_true rfl⟩) ⟨wP_blind, va_recv hK (va_Pl hP) (ci := 1) (q0 := 0) rfl rfl, wP_pre (va_Pl hP) hK (va_Dl hD)⟩ rfl rfl hl.1 rfl (lv_room (Nat.le_of_ble_eq_true rfl)) dL_law_1275 ⟨hrc0, hrs0⟩) hP hD hS hA rfl (fun H locs hP hD hS => ?_)
    refine lv_istore (lv' := [(6, .int (nI (bset (lkd ex mpa ho dv se sp) gc))), (5, .int (nI 0)), (4, .int (nI i)), (0, .ref b), (1, .ref h), (2, .ref h2), (3, .ref ob)]) hx hb dL_law_1278 hl (by decide) rfl (fun ls hl => ?_)
    refine lv_aload_n hx hb dL_law_1280 rfl (lv_at hl 5 rfl) ?_
    refine q_callI (r := nI 0) (va_runV (As := []) (rest := []) ⟨hx, hb, hml, hown, hts⟩ (kX1_thrown l D h2 ad2 cI cJ cZ td gc ex mpa di mu dc dg da dh dt dv dd ms ak se mr 0) (cwV 0 hts gL_law_X1_thrown rfl rfl rfl (by decide +kernel) ⟨Nat.le_of_ble_eq_true rfl, Nat.le_of_ble_eq_true rfl⟩) ⟨pP_blind, va_recv hK (va_Pl hP) (ci := 1) (q0 := 0) rfl rfl, pP_pre (va_Pl hP) hK⟩ rfl rfl hl.1 rfl (lv_room (Nat.le_of_ble_eq_true rfl)) dL_law_1281 ⟨hrc0, hrs0⟩) ?_
    refine lv_iload hx hb dL_law_1284 (lv_at hl 1 rfl) ?_
    refine lv_icmp_eq (tgt := 1291) hx hb dL_law_1286 (by decide) (fun _ => ?_) (fun z => absurd rfl z)
    refine lv_iload hx hb dL_law_1291 (lv_at hl 1 rfl) ?_
    refine lv_if_ne (tgt := 1308) hx hb dL_law_1293 (by decide) (fun z => absurd (by decide) z) (fun _ => ?_)
    refine lv_aload_n hx hb dL_law_1296 rfl (lv_at hl 6 rfl) ?_
    refine lv_iconst (v := nI 0) hx hb dL_law_1297 (by decide) ?_
    refine va_lald hx hb hK (va_Pr hP) 14 2 rfl rfl (vp_in_nI (by decide) (by decide)) dL_law_1298 ?_
    refine q_topL (y := (lN (bset (lkd ex pa ho dv se sp) 16))) vpU ?_
    refine lv_iload hx hb dL_law_1299 (lv_at hl 0 rfl) ?_
    refine lv_i2l (v := (lN (bset (lkd ex pa ho dv se sp) 16))) hx hb dL_law_1301 (by rw [chg_eq hT hSR hs]; exact nI_l hb2) ?_
    refine W.lcmp hx hb dL_law_1302 ?_
    refine lv_if_eq (tgt := 1308) hx hb dL_law_1303 (by decide) (fun _ => ?_) (fun z => absurd ((lg_cmp_eq _ _).mpr rfl) z)
    have hP := va_Psw hP
    have hD := va_Dsw hD
    refine lv_goto (tgt := 1367) hx hb dL_law_1308 (by decide) ?_
    refine W.widen (k := cells + 1) (n := slots + 6) (by omega) (by omega) ?_
    exact K (vp_updL f 0 (lN (bset (lkd ex pa ho dv se sp) 16))) lev ex pa mpa di qu mu gc dg dp da dh dt dv dd ds ms dc td ho ak se pr mr 0 H locs ls ⟨hT, hQ, hB, hSR, hPP, hPM, by omega, hmz⟩ hP hD hS (lv_sub hl [2, 3, 4, 5, 6] rfl)

set_option maxHeartbeats 8000000 in
set_option maxRecDepth 100000 in
theorem lc_feed {p : Program} {l : Launch} {e : Env} {s : State} {m : MethodId} {below : List Frame} {meth : Method} {c : Code} {b L : Nat} {xs : Nat → Int32} {D : va_G} {cI cJ cZ : ClassId} {h : Nat} {ad : Nat → Nat} {h2 : Nat} {ad2 : Nat → Nat} {ob : Nat} (X0 : LCX p s m meth c b L xs D cI cJ cZ) (hlf : l.stackTraces = false) {i n cells slots : Nat} (hi : i + 7 ≤ L) (hL : L ≤ 3584) (hn : n ≤ 512) (hrc : cells + 1 ≤ 1078) (hrs : slots + 6 ≤ 14711) (K : LK p l e s m below meth c b D cI cJ cZ h ad h2 ad2 ob i (cells + 1) (slots + 6) (n + 1))
    (f : Nat → Int64) (lev : Nat → Nat) (ex : Nat → Bool) (pa mpa : Nat → Option Nat) (di qu mu : Nat → Nat) (gc : Nat) (dg dp da : Nat → Nat) (dh dt dv : Nat → Option Nat) (dd ds ms : Nat → Nat) (dc td : Nat) (ho : Nat → Option Nat) (ak : Nat → Bool) (se pr mr : Nat → Option Nat) (th : Nat) (hI : LI n lev ex pa mpa di qu mu gc dg dp da dh dt dv dd ds ms dc td ho se pr mr) (H : Heap) (locs : List Loc) (hP : va_P D vwCl (((hW h ad cI cZ ex pa di qu gc dg dp dv dd ds dc td ho ak se pr) ++ [(ob, .inl (cJ, 1, .inr (.inl f)))]) ++ (mW h2 ad2 cI cJ cZ td gc ex mpa di mu dc dg da dh dt dv dd ms ak se mr th)) H) (hD : va_D (fun q : Nat => s.heap.size ≤ q) (((hW h ad cI cZ ex pa di qu gc dg dp dv dd ds dc td ho ak se pr) ++ [(ob, .inl (cJ, 1, .inr (.inl f)))]) ++ (mW h2 ad2 cI cJ cZ td gc ex mpa di mu dc dg da dh dt dv dd ms ak se mr th))) (hS : va_S (fun q : Nat => s.heap.size ≤ q) s.heap H locs) (ls : Array Slot) (hl : lv_has ls 7 [(4, .int (nI i)), (0, .ref b), (1, .ref h), (2, .ref h2), (3, .ref ob)]) : W p l e room_1 s m #[Value.ref b] below meth c H locs cells slots (lw_Z below #[Value.ref b] s) (F0 m 1311 ls []) := by
  obtain ⟨C0, hK, hE, hN⟩ := X0
  obtain ⟨hx, hb, hr, hml, hown, hts0, hX, hbl, hlocks, -⟩ := id C0
  have hts : ∀ w ∈ wsL_law, w.before #[Value.ref b] s = true := fun w hw => hts0 w (wsL_law_in w hw)
  have hA : ∀ q : Nat, s.heap.size ≤ q → (fun q : Nat => s.heap.size ≤ q) q := fun _ h => h
  have hbA : ¬ (fun q : Nat => s.heap.size ≤ q) b := Nat.not_le.mpr hbl
  have hrc0 : cells ≤ 1078 := by omega
  have hrs0 : slots ≤ 14711 := by omega
  obtain ⟨hT, hQ, hB, hSR, hPP, hPM, htd, hmz⟩ := hI
  obtain ⟨hti, hme, hpr, hmpr, hpn, hgc, hxg⟩ := id hT
  have htim : TI ex mpa lev := TI_cong hme hti
  obtain ⟨hdi, hqu, hmu, hPT, hmu0⟩ := id hQ
  obtain ⟨hrd, hDR, hds, hho, hdv, hdgc⟩ := id hB
  have hHO := BR_HO hB
  have hRH := BR_RH hB
  have hdp := BR_dp hB
  obtain ⟨hdc, htdl, hdg, hda, hdh, hdt, hdd, hms2⟩ := id hrd
  rcases k_ix 3 (by decide) (xs (i + 1)) with hs | ⟨sp, hs, e1⟩
  · refine lv_aload_n hx hb dL_law_1311 rfl (lv_at hl 2 rfl) ?_
    refine lq_arg (k := 1) (y := xs (i + 1)) hx hb hX hbl hbA hS hl 1 0 rfl rfl (show i + 1 < L by omega) (by omega) (by decide) (rfl) dL_law_1312 dL_law_1313 dL_law_1315 dL_law_1316 dL_law_1317 ?_
    refine lv_aload_n hx hb dL_law_1318 rfl (lv_at hl 4 rfl) ?_
    refine q_ecall (k := 1) (vx_runSW (As := [.ref h, .int (xs (i + 1)), .ref ob]) (rest := []) ⟨hx, hb, hml, hown, hts⟩ (kL_feedXI l D h ad cI cZ ex pa di qu gc dg dp dv dd ds dc td ho ak se pr hlf ob (xs (i + 1)) hs) (vx_cwSW 3 hts gL_law_L_feed rfl rfl rfl (by decide +kernel) ⟨Nat.le_of_ble_eq_true rfl, Nat.le_of_ble_eq_true rfl⟩) ⟨tN_blind, tN_pre (va_Pl (va_Pl hP)) (hK.sub [0, 1] rfl) (tEA_at hE hS) hN⟩ rfl rfl hl.1 rfl (lv_room (Nat.le_of_ble_eq_true rfl)) dL_law_1319 ⟨hrc, hrs⟩) hP hS (fun H hP hS => ?_)
    refine lv_istore (lv' := [(5, .int (nI 1)), (4, .int (nI i)), (0, .ref b), (1, .ref h), (2, .ref h2), (3, .ref ob)]) hx hb dL_law_1322 hl (by decide) rfl (fun ls hl => ?_)
    refine lv_aload_n hx hb dL_law_1324 rfl (lv_at hl 4 rfl) ?_
    refine lq_arg (k := 1) (y := xs (i + 1)) hx hb hX hbl hbA hS hl 2 1 rfl rfl (show i + 1 < L by omega) (by omega) (by decide) (rfl) dL_law_1325 dL_law_1326 dL_law_1328 dL_law_1329 dL_law_1330 ?_
    have hP := va_Psw hP
    have hD := va_Dsw hD
    refine q_wcallFI (wa' := (mW h2 ad2 cI cJ cZ td gc ex mpa di mu dc dg da dh dt dv dd ms ak se mr 1)) (wb := ((hW h ad cI cZ ex pa di qu gc dg dp dv dd ds dc td ho ak se pr) ++ [(ob, .inl (cJ, 1, .inr (.inl f)))])) (r := nI 0) (va_runV (As := [.int (xs (i + 1))]) (rest := []) ⟨hx, hb, hml, hown, hts⟩ (kX1_feed1 l D h2 ad2 cI cJ cZ td gc ex mpa di mu dc dg da dh dt dv dd ms ak se mr th _ (xs (i + 1)) hs) (cwV 1 hts gL_law_X1_feed rfl rfl rfl (by decide +kernel) ⟨Nat.le_of_ble_eq_true rfl, Nat.le_of_ble_eq_true rfl⟩) ⟨wP_blind, va_recv hK (va_Pl hP) (ci := 1) (q0 := 0) rfl rfl, wP_pre (va_Pl hP) hK (va_Dl hD)⟩ rfl rfl hl.1 rfl (lv_room (Nat.le_of_ble_eq_true rfl)) dL_law_1331 ⟨hrc, hrs⟩) hP hD hS hA rfl (fun H locs hP hD hS => ?_)
    refine lv_istore (lv' := [(6, .int (nI 0)), (5, .int (nI 1)), (4, .int (nI i)), (0, .ref b), (1, .ref h), (2, .ref h2), (3, .ref ob)]) hx hb dL_law_1334 hl (by decide) rfl (fun ls hl => ?_)
    refine lv_aload_n hx hb dL_law_1336 rfl (lv_at hl 5 rfl) ?_
    refine q_callI (r := nI 1) (va_runV (As := []) (rest := []) ⟨hx, hb, hml, hown, hts⟩ (kX1_thrown l D h2 ad2 cI cJ cZ td gc ex mpa di mu dc dg da dh dt dv dd ms ak se mr 1) (cwV 0 hts gL_law_X1_thrown rfl rfl rfl (by decide +kernel) ⟨Nat.le_of_ble_eq_true rfl, Nat.le_of_ble_eq_true rfl⟩) ⟨pP_blind, va_recv hK (va_Pl hP) (ci := 1) (q0 := 0) rfl rfl, pP_pre (va_Pl hP) hK⟩ rfl rfl hl.1 rfl (lv_room (Nat.le_of_ble_eq_true rfl)) dL_law_1337 ⟨hrc, hrs⟩) ?_
    refine lv_iload hx hb dL_law_1340 (lv_at hl 1 rfl) ?_
    refine lv_icmp_eq (tgt := 1347) hx hb dL_law_1342 (by decide) (fun _ => ?_) (fun z => absurd rfl z)
    refine lv_iload hx hb dL_law_1347 (lv_at hl 1 rfl) ?_
    refine lv_if_ne (tgt := 1364) hx hb dL_law_1349 (by decide) (fun _ => ?_) (fun z => absurd z (by decide))
    have hP := va_Psw hP
    have hD := va_Dsw hD
    refine lv_goto (tgt := 1367) hx hb dL_law_1364 (by decide) ?_
    exact K f lev ex pa mpa di qu mu gc dg dp da dh dt dv dd ds ms dc td ho ak se pr mr 1 H locs ls ⟨hT, hQ, hB, hSR, hPP, hPM, by omega, hmz⟩ hP hD hS (lv_sub hl [2, 3, 4, 5, 6] rfl)
  · have hb2 : pcn (bset (lkd ex pa ho dv se sp) 16) 16 < 2147483648 := Nat.lt_of_le_of_lt (pcn_le _ _) (by decide)
    have hfe : fed ex mpa ho dv sp se gc = fed ex pa ho dv sp se 16 := fed_eq hT hSR hs
    refine lv_aload_n hx hb dL_law_1311 rfl (lv_at hl 2 rfl) ?_
    refine lq_arg (k := 1) (y := nI sp) hx hb hX hbl hbA hS hl 1 0 rfl rfl (show i + 1 < L by omega) (by omega) (by decide) (e1) dL_law_1312 dL_law_1313 dL_law_1315 dL_law_1316 dL_law_1317 ?_
    refine lv_aload_n hx hb dL_law_1318 rfl (lv_at hl 4 rfl) ?_
    refine q_wcallFI (wa' := ((hW h ad cI cZ ex pa di qu gc dg dp dv dd ds dc td ho ak (fed ex pa ho dv sp se 16) pr) ++ [(ob, .inl (cJ, 1, .inr (.inl (vp_updL f 0 (lN (pcn (bset (lkd ex pa ho dv se sp) 16) 16))))))])) (wb := (mW h2 ad2 cI cJ cZ td gc ex mpa di mu dc dg da dh dt dv dd ms ak se mr th)) (r := nI 0) (vx_runSW (As := [.ref h, .int (nI sp), .ref ob]) (rest := []) ⟨hx, hb, hml, hown, hts⟩ (kL_feed l D h ad cI cZ ex pa di qu gc dg dp dv dd ds dc td ho ak se pr cJ ob f _ sp hs hpr hHO hdc hdv hSR.1 hb2) (vx_cwSW 3 hts gL_law_L_feed rfl rfl rfl (by decide +kernel) ⟨Nat.le_of_ble_eq_true rfl, Nat.le_of_ble_eq_true rfl⟩) ⟨wP_blind, wP_pre (va_Pl hP) hK (va_Dl hD)⟩ rfl rfl hl.1 rfl (lv_room (Nat.le_of_ble_eq_true rfl)) dL_law_1319 ⟨hrc0, hrs0⟩) hP hD hS hA rfl (fun H locs hP hD hS => ?_)
    refine lv_istore (lv' := [(5, .int (nI 0)), (4, .int (nI i)), (0, .ref b), (1, .ref h), (2, .ref h2), (3, .ref ob)]) hx hb dL_law_1322 hl (by decide) rfl (fun ls hl => ?_)
    refine lv_aload_n hx hb dL_law_1324 rfl (lv_at hl 4 rfl) ?_
    refine lq_arg (k := 1) (y := nI sp) hx hb hX hbl hbA hS hl 2 1 rfl rfl (show i + 1 < L by omega) (by omega) (by decide) (e1) dL_law_1325 dL_law_1326 dL_law_1328 dL_law_1329 dL_law_1330 ?_
    have hP := va_Psw hP
    have hD := va_Dsw hD
    refine q_wcallFI (wa' := (mW h2 ad2 cI cJ cZ td gc ex mpa di mu dc dg da dh dt dv dd ms ak (fed ex mpa ho dv sp se gc) mr 0)) (wb := ((hW h ad cI cZ ex pa di qu gc dg dp dv dd ds dc td ho ak (fed ex pa ho dv sp se 16) pr) ++ [(ob, .inl (cJ, 1, .inr (.inl (vp_updL f 0 (lN (pcn (bset (lkd ex pa ho dv se sp) 16) 16))))))])) (r := nI (pcn (bset (lkd ex mpa ho dv se sp) gc) gc)) (va_runV (As := [.int (nI sp)]) (rest := []) ⟨hx, hb, hml, hown, hts⟩ (kX1_feed l D h2 ad2 cI cJ cZ td gc ex mpa di mu dc dg da dh dt dv dd ms ak se mr th _ ho lev sp htim hs hgc hrd hRH hmpr hHO hdv hSR.1) (cwV 1 hts gL_law_X1_feed rfl rfl rfl (by decide +kernel) ⟨Nat.le_of_ble_eq_true rfl, Nat.le_of_ble_eq_true rfl⟩) ⟨wP_blind, va_recv hK (va_Pl hP) (ci := 1) (q0 := 0) rfl rfl, wP_pre (va_Pl hP) hK (va_Dl hD)⟩ rfl rfl hl.1 rfl (lv_room (Nat.le_of_ble_eq_true rfl)) dL_law_1331 ⟨hrc0, hrs0⟩) hP hD hS hA rfl (fun H locs hP hD hS => ?_)
    refine lv_istore (lv' := [(6, .int (nI (pcn (bset (lkd ex mpa ho dv se sp) gc) gc))), (5, .int (nI 0)), (4, .int (nI i)), (0, .ref b), (1, .ref h), (2, .ref h2), (3, .ref ob)]) hx hb dL_law_1334 hl (by decide) rfl (fun ls hl => ?_)
    rw [hfe] at hP hD
    refine lv_aload_n hx hb dL_law_1336 rfl (lv_at hl 5 rfl) ?_
    refine q_callI (r := nI 0) (va_runV (As := []) (rest := []) ⟨hx, hb, hml, hown, hts⟩ (kX1_thrown l D h2 ad2 cI cJ cZ td gc ex mpa di mu dc dg da dh dt dv dd ms ak (fed ex pa ho dv sp se 16) mr 0) (cwV 0 hts gL_law_X1_thrown rfl rfl rfl (by decide +kernel) ⟨Nat.le_of_ble_eq_true rfl, Nat.le_of_ble_eq_true rfl⟩) ⟨pP_blind, va_recv hK (va_Pl hP) (ci := 1) (q0 := 0) rfl rfl, pP_pre (va_Pl hP) hK⟩ rfl rfl hl.1 rfl (lv_room (Nat.le_of_ble_eq_true rfl)) dL_law_1337 ⟨hrc0, hrs0⟩) ?_
    refine lv_iload hx hb dL_law_1340 (lv_at hl 1 rfl) ?_
    refine lv_icmp_eq (tgt := 1347) hx hb dL_law_1342 (by decide) (fun _ => ?_) (fun z => absurd rfl z)
    refine lv_iload hx hb dL_law_1347 (lv_at hl 1 rfl) ?_
    refine lv_if_ne (tgt := 1364) hx hb dL_law_1349 (by decide) (fun z => absurd (by decide) z) (fun _ => ?_)
    refine lv_aload_n hx hb dL_law_1352 rfl (lv_at hl 6 rfl) ?_
    refine lv_iconst (v := nI 0) hx hb dL_law_1353 (by decide) ?_
    refine va_lald hx hb hK (va_Pr hP) 14 2 rfl rfl (vp_in_nI (by decide) (by decide)) dL_law_1354 ?_
    refine q_topL (y := (lN (pcn (bset (lkd ex pa ho dv se sp) 16) 16))) vpU ?_
    refine lv_iload hx hb dL_law_1355 (lv_at hl 0 rfl) ?_
    refine lv_i2l (v := (lN (pcn (bset (lkd ex pa ho dv se sp) 16) 16))) hx hb dL_law_1357 (by rw [fed_n hT hSR hs]; exact nI_l hb2) ?_
    refine W.lcmp hx hb dL_law_1358 ?_
    refine lv_if_eq (tgt := 1364) hx hb dL_law_1359 (by decide) (fun _ => ?_) (fun z => absurd ((lg_cmp_eq _ _).mpr rfl) z)
    have hP := va_Psw hP
    have hD := va_Dsw hD
    refine lv_goto (tgt := 1367) hx hb dL_law_1364 (by decide) ?_
    refine W.widen (k := cells + 1) (n := slots + 6) (by omega) (by omega) ?_
    exact K (vp_updL f 0 (lN (pcn (bset (lkd ex pa ho dv se sp) 16) 16))) lev ex pa mpa di qu mu gc dg dp da dh dt dv dd ds ms dc td ho ak (fed ex pa ho dv sp se 16) pr mr 0 H locs ls ⟨hT, hQ, hB, SR_fed hT hSR hs hHO hdv, hPP, hPM, by omega, hmz⟩ hP hD hS (lv_sub hl [2, 3, 4, 5, 6] rfl)
