/-- cells of a part of the world came after the start -/
theorem lq_sub {s : State} {w : va_W} {H : Heap} {locs : List Loc} (hD : va_D (fun q : Nat => s.heap.size ≤ q) w) (hS : va_S (fun q : Nat => s.heap.size ≤ q) s.heap H locs) : ∀ q, va_A w H.size q → (fun q : Nat => s.heap.size ≤ q) q := by
  intro q h
  rcases h with ⟨k, e0, h⟩ | h
  · exact hD.2 k (q, e0) h
  · exact Nat.le_trans hS.1 h
set_option maxHeartbeats 8000000 in
set_option maxRecDepth 100000 in
theorem lc_addGood {p : Program} {l : Launch} {e : Env} {s : State} {m : MethodId} {below : List Frame} {meth : Method} {c : Code} {b L : Nat} {xs : Nat → Int32} {D : va_G} {cI cJ cZ : ClassId} {h : Nat} {ad : Nat → Nat} {h2 : Nat} {ad2 : Nat → Nat} {ob : Nat} (X0 : LCX p s m meth c b L xs D cI cJ cZ) (hlf : l.stackTraces = false) {i n cells slots : Nat} (hi : i + 7 ≤ L) (hL : L ≤ 3584) (hn : n ≤ 512) (hrc : cells + 1 ≤ 1078) (hrs : slots + 6 ≤ 14711) (K : LK p l e s m below meth c b D cI cJ cZ h ad h2 ad2 ob i (cells + 1) (slots + 6) (n + 1))
    (f : Nat → Int64) (lev : Nat → Nat) (ex : Nat → Bool) (pa mpa : Nat → Option Nat) (di qu mu : Nat → Nat) (gc : Nat) (dg dp da : Nat → Nat) (dh dt dv : Nat → Option Nat) (dd ds ms : Nat → Nat) (dc td : Nat) (ho : Nat → Option Nat) (ak : Nat → Bool) (se pr mr : Nat → Option Nat) (th : Nat) (hI : LI n lev ex pa mpa di qu mu gc dg dp da dh dt dv dd ds ms dc td ho se pr mr) (H : Heap) (locs : List Loc) (hP : va_P D vwCl (((hW h ad cI cZ ex pa di qu gc dg dp dv dd ds dc td ho ak se pr) ++ [(ob, .inl (cJ, 1, .inr (.inl f)))]) ++ (mW h2 ad2 cI cJ cZ td gc ex mpa di mu dc dg da dh dt dv dd ms ak se mr th)) H) (hD : va_D (fun q : Nat => s.heap.size ≤ q) (((hW h ad cI cZ ex pa di qu gc dg dp dv dd ds dc td ho ak se pr) ++ [(ob, .inl (cJ, 1, .inr (.inl f)))]) ++ (mW h2 ad2 cI cJ cZ td gc ex mpa di mu dc dg da dh dt dv dd ms ak se mr th))) (hS : va_S (fun q : Nat => s.heap.size ≤ q) s.heap H locs) (ls : Array Slot) (hl : lv_has ls 7 [(4, .int (nI i)), (0, .ref b), (1, .ref h), (2, .ref h2), (3, .ref ob)]) : W p l e room_1 s m #[Value.ref b] below meth c H locs cells slots (lw_Z below #[Value.ref b] s) (F0 m 128 ls []) := by
  obtain ⟨C0, hK, hE, hN⟩ := X0
  obtain ⟨hx, hb, hr, hml, hown, hts0, hX, hbl, hlocks, -⟩ := id C0
  have hts : ∀ w ∈ wsL_law, w.before #[Value.ref b] s = true := fun w hw => hts0 w (wsL_law_in w hw)
  have hA : ∀ q : Nat, s.heap.size ≤ q → (fun q : Nat => s.heap.size ≤ q) q := fun _ h => h
  have hbA : ¬ (fun q : Nat => s.heap.size ≤ q) b := Nat.not_le.mpr hbl
  have hrc0 : cells ≤ 1078 := by omega
  have hrs0 : slots ≤ 14711 := by omega
  obtain ⟨hT, hQ, hB, hSR, hPP, hPM, htd, hmz⟩ := hI
  obtain ⟨hti, hme, hpr, hmpr, hpn, hgc, hxg⟩ := id hT
  have htim : TI ex mpa lev := TI_cong hme hti
  obtain ⟨hdi, hqu, hmu, hPT, hmu0⟩ := id hQ
  obtain ⟨hrd, hDR, hds, hho, hdv, hdgc⟩ := id hB
  have hHO := BR_HO hB
  have hRH := BR_RH hB
  have hdp := BR_dp hB
  obtain ⟨hdc, htdl, hdg, hda, hdh, hdt, hdd, hms2⟩ := id hrd
  rcases k_par ex (xs (i + 1)) with ⟨hg, hne⟩ | ⟨o, e1, ho2⟩
  · refine lv_aload_n hx hb dL_law_128 rfl (lv_at hl 2 rfl) ?_
    refine lq_arg (k := 1) (y := xs (i + 1)) hx hb hX hbl hbA hS hl 1 0 rfl rfl (show i + 1 < L by omega) (by omega) (by decide) (rfl) dL_law_129 dL_law_130 dL_law_132 dL_law_133 dL_law_134 ?_
    refine lv_aload_n hx hb dL_law_135 rfl (lv_at hl 4 rfl) ?_
    refine q_ecall (k := 1) (vx_runSW (As := [.ref h, .int (xs (i + 1)), .ref ob]) (rest := []) ⟨hx, hb, hml, hown, hts⟩ (kL_addGoodXI l D h ad cI cZ ex pa di qu gc dg dp dv dd ds dc td ho ak se pr hlf ob (xs (i + 1)) hg hne) (vx_cwSW 3 hts gL_law_L_addGood rfl rfl rfl (by decide +kernel) ⟨Nat.le_of_ble_eq_true rfl, Nat.le_of_ble_eq_true rfl⟩) ⟨tN_blind, tN_pre (va_Pl (va_Pl hP)) (hK.sub [0, 1] rfl) (tEA_at hE hS) hN⟩ rfl rfl hl.1 rfl (lv_room (Nat.le_of_ble_eq_true rfl)) dL_law_136 ⟨hrc, hrs⟩) hP hS (fun H hP hS => ?_)
    refine lv_istore (lv' := [(5, .int (nI 1)), (4, .int (nI i)), (0, .ref b), (1, .ref h), (2, .ref h2), (3, .ref ob)]) hx hb dL_law_139 hl (by decide) rfl (fun ls hl => ?_)
    refine lv_aload_n hx hb dL_law_141 rfl (lv_at hl 4 rfl) ?_
    refine lq_arg (k := 1) (y := xs (i + 1)) hx hb hX hbl hbA hS hl 2 1 rfl rfl (show i + 1 < L by omega) (by omega) (by decide) (rfl) dL_law_142 dL_law_143 dL_law_145 dL_law_146 dL_law_147 ?_
    have hP := va_Psw hP
    have hD := va_Dsw hD
    refine q_wcallFI (wa' := (mW h2 ad2 cI cJ cZ td gc ex mpa di mu dc dg da dh dt dv dd ms ak se mr 1)) (wb := ((hW h ad cI cZ ex pa di qu gc dg dp dv dd ds dc td ho ak se pr) ++ [(ob, .inl (cJ, 1, .inr (.inl f)))])) (r := nI 0) (va_runV (As := [.int (xs (i + 1))]) (rest := []) ⟨hx, hb, hml, hown, hts⟩ (kX1_addGood1 l D h2 ad2 cI cJ cZ td gc ex mpa di mu dc dg da dh dt dv dd ms ak se mr th _ (xs (i + 1)) hgc hxg hg hne) (cwV 1 hts gL_law_X1_addGood rfl rfl rfl (by decide +kernel) ⟨Nat.le_of_ble_eq_true rfl, Nat.le_of_ble_eq_true rfl⟩) ⟨wP_blind, va_recv hK (va_Pl hP) (ci := 1) (q0 := 0) rfl rfl, wP_pre (va_Pl hP) hK (va_Dl hD)⟩ rfl rfl hl.1 rfl (lv_room (Nat.le_of_ble_eq_true rfl)) dL_law_148 ⟨hrc, hrs⟩) hP hD hS hA rfl (fun H locs hP hD hS => ?_)
    refine lv_istore (lv' := [(6, .int (nI 0)), (5, .int (nI 1)), (4, .int (nI i)), (0, .ref b), (1, .ref h), (2, .ref h2), (3, .ref ob)]) hx hb dL_law_151 hl (by decide) rfl (fun ls hl => ?_)
    refine lv_aload_n hx hb dL_law_153 rfl (lv_at hl 5 rfl) ?_
    refine q_callI (r := nI 1) (va_runV (As := []) (rest := []) ⟨hx, hb, hml, hown, hts⟩ (kX1_thrown l D h2 ad2 cI cJ cZ td gc ex mpa di mu dc dg da dh dt dv dd ms ak se mr 1) (cwV 0 hts gL_law_X1_thrown rfl rfl rfl (by decide +kernel) ⟨Nat.le_of_ble_eq_true rfl, Nat.le_of_ble_eq_true rfl⟩) ⟨pP_blind, va_recv hK (va_Pl hP) (ci := 1) (q0 := 0) rfl rfl, pP_pre (va_Pl hP) hK⟩ rfl rfl hl.1 rfl (lv_room (Nat.le_of_ble_eq_true rfl)) dL_law_154 ⟨hrc, hrs⟩) ?_
    refine lv_iload hx hb dL_law_157 (lv_at hl 1 rfl) ?_
    refine lv_icmp_eq (tgt := 164) hx hb dL_law_159 (by decide) (fun _ => ?_) (fun z => absurd rfl z)
    refine lv_iload hx hb dL_law_164 (lv_at hl 1 rfl) ?_
    refine lv_if_ne (tgt := 181) hx hb dL_law_166 (by decide) (fun _ => ?_) (fun z => absurd z (by decide))
    have hP := va_Psw hP
    have hD := va_Dsw hD
    refine lv_goto (tgt := 1367) hx hb dL_law_181 (by decide) ?_
    exact K f lev ex pa mpa di qu mu gc dg dp da dh dt dv dd ds ms dc td ho ak se pr mr 1 H locs ls ⟨hT, hQ, hB, hSR, hPP, hPM, by omega, hmz⟩ hP hD hS (lv_sub hl [2, 3, 4, 5, 6] rfl)
  · have hl2 := lvZ_le hti ho2
    by_cases hok : lvZ lev o ≤ 1 ∧ gc < 16
    · obtain ⟨hlv, hgc2⟩ := hok
      refine lv_aload_n hx hb dL_law_128 rfl (lv_at hl 2 rfl) ?_
      refine lq_arg (k := 1) (y := oI o) hx hb hX hbl hbA hS hl 1 0 rfl rfl (show i + 1 < L by omega) (by omega) (by decide) (e1) dL_law_129 dL_law_130 dL_law_132 dL_law_133 dL_law_134 ?_
      refine lv_aload_n hx hb dL_law_135 rfl (lv_at hl 4 rfl) ?_
      refine q_wcallFI (wa' := ((hW h ad cI cZ (va_up ex gc true) (va_up pa gc o) di qu (gc + 1) dg dp dv dd ds dc td ho ak se pr) ++ [(ob, .inl (cJ, 1, .inr (.inl (vp_updL f 0 (lN gc)))))])) (wb := (mW h2 ad2 cI cJ cZ td gc ex mpa di mu dc dg da dh dt dv dd ms ak se mr th)) (r := nI 0) (vx_runSW (As := [.ref h, .int (oI o), .ref ob]) (rest := []) ⟨hx, hb, hml, hown, hts⟩ (kL_addGood l D h ad cI cZ ex pa di qu gc dg dp dv dd ds dc td ho ak se pr cJ ob f _ o lev hti ho2 hlv hgc2 (by omega)) (vx_cwSW 3 hts gL_law_L_addGood rfl rfl rfl (by decide +kernel) ⟨Nat.le_of_ble_eq_true rfl, Nat.le_of_ble_eq_true rfl⟩) ⟨wP_blind, wP_pre (va_Pl hP) hK (va_Dl hD)⟩ rfl rfl hl.1 rfl (lv_room (Nat.le_of_ble_eq_true rfl)) dL_law_136 ⟨hrc0, hrs0⟩) hP hD hS hA rfl (fun H locs hP hD hS => ?_)
      refine lv_istore (lv' := [(5, .int (nI 0)), (4, .int (nI i)), (0, .ref b), (1, .ref h), (2, .ref h2), (3, .ref ob)]) hx hb dL_law_139 hl (by decide) rfl (fun ls hl => ?_)
      refine lv_aload_n hx hb dL_law_141 rfl (lv_at hl 4 rfl) ?_
      refine lq_arg (k := 1) (y := oI o) hx hb hX hbl hbA hS hl 2 1 rfl rfl (show i + 1 < L by omega) (by omega) (by decide) (e1) dL_law_142 dL_law_143 dL_law_145 dL_law_146 dL_law_147 ?_
      have hP := va_Psw hP
      have hD := va_Dsw hD
      refine q_wcallFI (wa' := (mW h2 ad2 cI cJ cZ td (gc + 1) (va_up ex gc true) (va_up mpa gc o) di mu dc dg da dh dt dv dd ms ak se mr 0)) (wb := ((hW h ad cI cZ (va_up ex gc true) (va_up pa gc o) di qu (gc + 1) dg dp dv dd ds dc td ho ak se pr) ++ [(ob, .inl (cJ, 1, .inr (.inl (vp_updL f 0 (lN gc)))))])) (r := nI gc) (va_runV (As := [.int (oI o)]) (rest := []) ⟨hx, hb, hml, hown, hts⟩ (kX1_addGood l D h2 ad2 cI cJ cZ td gc ex mpa di mu dc dg da dh dt dv dd ms ak se mr th _ o lev htim ho2 hgc hxg hlv hgc2) (cwV 1 hts gL_law_X1_addGood rfl rfl rfl (by decide +kernel) ⟨Nat.le_of_ble_eq_true rfl, Nat.le_of_ble_eq_true rfl⟩) ⟨wP_blind, va_recv hK (va_Pl hP) (ci := 1) (q0 := 0) rfl rfl, wP_pre (va_Pl hP) hK (va_Dl hD)⟩ rfl rfl hl.1 rfl (lv_room (Nat.le_of_ble_eq_true rfl)) dL_law_148 ⟨hrc0, hrs0⟩) hP hD hS hA rfl (fun H locs hP hD hS => ?_)
      refine lv_istore (lv' := [(6, .int (nI gc)), (5, .int (nI 0)), (4, .int (nI i)), (0, .ref b), (1, .ref h), (2, .ref h2), (3, .ref ob)]) hx hb dL_law_151 hl (by decide) rfl (fun ls hl => ?_)
      refine lv_aload_n hx hb dL_law_153 rfl (lv_at hl 5 rfl) ?_
      refine q_callI (r := nI 0) (va_runV (As := []) (rest := []) ⟨hx, hb, hml, hown, hts⟩ (kX1_thrown l D h2 ad2 cI cJ cZ td (gc + 1) (va_up ex gc true) (va_up mpa gc o) di mu dc dg da dh dt dv dd ms ak se mr 0) (cwV 0 hts gL_law_X1_thrown rfl rfl rfl (by decide +kernel) ⟨Nat.le_of_ble_eq_true rfl, Nat.le_of_ble_eq_true rfl⟩) ⟨pP_blind, va_recv hK (va_Pl hP) (ci := 1) (q0 := 0) rfl rfl, pP_pre (va_Pl hP) hK⟩ rfl rfl hl.1 rfl (lv_room (Nat.le_of_ble_eq_true rfl)) dL_law_154 ⟨hrc0, hrs0⟩) ?_
      refine lv_iload hx hb dL_law_157 (lv_at hl 1 rfl) ?_
      refine lv_icmp_eq (tgt := 164) hx hb dL_law_159 (by decide) (fun _ => ?_) (fun z => absurd rfl z)
      refine lv_iload hx hb dL_law_164 (lv_at hl 1 rfl) ?_
      refine lv_if_ne (tgt := 181) hx hb dL_law_166 (by decide) (fun z => absurd (by decide) z) (fun _ => ?_)
      refine lv_aload_n hx hb dL_law_169 rfl (lv_at hl 6 rfl) ?_
      refine lv_iconst (v := nI 0) hx hb dL_law_170 (by decide) ?_
      refine va_lald hx hb hK (va_Pr hP) 14 2 rfl rfl (vp_in_nI (by decide) (by decide)) dL_law_171 ?_
      refine q_topL (y := (lN gc)) vpU ?_
      refine lv_iload hx hb dL_law_172 (lv_at hl 0 rfl) ?_
      refine lv_i2l (v := (lN gc)) hx hb dL_law_174 (nI_l (by omega)) ?_
      refine W.lcmp hx hb dL_law_175 ?_
      refine lv_if_eq (tgt := 181) hx hb dL_law_176 (by decide) (fun _ => ?_) (fun z => absurd ((lg_cmp_eq _ _).mpr rfl) z)
      have hP := va_Psw hP
      have hD := va_Dsw hD
      refine lv_goto (tgt := 1367) hx hb dL_law_181 (by decide) ?_
      refine W.widen (k := cells + 1) (n := slots + 6) (by omega) (by omega) ?_
      exact K (vp_updL f 0 (lN gc)) (va_up lev gc (tpl lev o)) (va_up ex gc true) (va_up pa gc o) (va_up mpa gc o) di qu mu (gc + 1) dg dp da dh dt dv dd ds ms dc td ho ak se pr mr 0 H locs ls ⟨TR_add hT hgc2 ho2 hlv, QR_add hT hQ hgc2, BR_add hB, SR_add hSR, hPP, hPM, by omega, hmz⟩ hP hD hS (lv_sub hl [2, 3, 4, 5, 6] rfl)
    · have hbad : lvZ lev o = 2 ∨ gc = 16 := by omega
      refine lv_aload_n hx hb dL_law_128 rfl (lv_at hl 2 rfl) ?_
      refine lq_arg (k := 1) (y := oI o) hx hb hX hbl hbA hS hl 1 0 rfl rfl (show i + 1 < L by omega) (by omega) (by decide) (e1) dL_law_129 dL_law_130 dL_law_132 dL_law_133 dL_law_134 ?_
      refine lv_aload_n hx hb dL_law_135 rfl (lv_at hl 4 rfl) ?_
      refine q_ecall (k := 2) (vx_runSW (As := [.ref h, .int (oI o), .ref ob]) (rest := []) ⟨hx, hb, hml, hown, hts⟩ (kL_addGoodXS l D h ad cI cZ ex pa di qu gc dg dp dv dd ds dc td ho ak se pr hlf ob o lev hti ho2 hgc hbad) (vx_cwSW 3 hts gL_law_L_addGood rfl rfl rfl (by decide +kernel) ⟨Nat.le_of_ble_eq_true rfl, Nat.le_of_ble_eq_true rfl⟩) ⟨tN_blind, tN_pre (va_Pl (va_Pl hP)) (hK.sub [0, 1] rfl) (tEA_at hE hS) hN⟩ rfl rfl hl.1 rfl (lv_room (Nat.le_of_ble_eq_true rfl)) dL_law_136 ⟨hrc, hrs⟩) hP hS (fun H hP hS => ?_)
      refine lv_istore (lv' := [(5, .int (nI 2)), (4, .int (nI i)), (0, .ref b), (1, .ref h), (2, .ref h2), (3, .ref ob)]) hx hb dL_law_139 hl (by decide) rfl (fun ls hl => ?_)
      refine lv_aload_n hx hb dL_law_141 rfl (lv_at hl 4 rfl) ?_
      refine lq_arg (k := 1) (y := oI o) hx hb hX hbl hbA hS hl 2 1 rfl rfl (show i + 1 < L by omega) (by omega) (by decide) (e1) dL_law_142 dL_law_143 dL_law_145 dL_law_146 dL_law_147 ?_
      have hP := va_Psw hP
      have hD := va_Dsw hD
      refine q_wcallFI (wa' := (mW h2 ad2 cI cJ cZ td gc ex mpa di mu dc dg da dh dt dv dd ms ak se mr 2)) (wb := ((hW h ad cI cZ ex pa di qu gc dg dp dv dd ds dc td ho ak se pr) ++ [(ob, .inl (cJ, 1, .inr (.inl f)))])) (r := nI 0) (va_runV (As := [.int (oI o)]) (rest := []) ⟨hx, hb, hml, hown, hts⟩ (kX1_addGood2 l D h2 ad2 cI cJ cZ td gc ex mpa di mu dc dg da dh dt dv dd ms ak se mr th _ o lev htim ho2 hgc hxg hbad) (cwV 1 hts gL_law_X1_addGood rfl rfl rfl (by decide +kernel) ⟨Nat.le_of_ble_eq_true rfl, Nat.le_of_ble_eq_true rfl⟩) ⟨wP_blind, va_recv hK (va_Pl hP) (ci := 1) (q0 := 0) rfl rfl, wP_pre (va_Pl hP) hK (va_Dl hD)⟩ rfl rfl hl.1 rfl (lv_room (Nat.le_of_ble_eq_true rfl)) dL_law_148 ⟨hrc, hrs⟩) hP hD hS hA rfl (fun H locs hP hD hS => ?_)
      refine lv_istore (lv' := [(6, .int (nI 0)), (5, .int (nI 2)), (4, .int (nI i)), (0, .ref b), (1, .ref h), (2, .ref h2), (3, .ref ob)]) hx hb dL_law_151 hl (by decide) rfl (fun ls hl => ?_)
      refine lv_aload_n hx hb dL_law_153 rfl (lv_at hl 5 rfl) ?_
      refine q_callI (r := nI 2) (va_runV (As := []) (rest := []) ⟨hx, hb, hml, hown, hts⟩ (kX1_thrown l D h2 ad2 cI cJ cZ td gc ex mpa di mu dc dg da dh dt dv dd ms ak se mr 2) (cwV 0 hts gL_law_X1_thrown rfl rfl rfl (by decide +kernel) ⟨Nat.le_of_ble_eq_true rfl, Nat.le_of_ble_eq_true rfl⟩) ⟨pP_blind, va_recv hK (va_Pl hP) (ci := 1) (q0 := 0) rfl rfl, pP_pre (va_Pl hP) hK⟩ rfl rfl hl.1 rfl (lv_room (Nat.le_of_ble_eq_true rfl)) dL_law_154 ⟨hrc, hrs⟩) ?_
      refine lv_iload hx hb dL_law_157 (lv_at hl 1 rfl) ?_
      refine lv_icmp_eq (tgt := 164) hx hb dL_law_159 (by decide) (fun _ => ?_) (fun z => absurd rfl z)
      refine lv_iload hx hb dL_law_164 (lv_at hl 1 rfl) ?_
      refine lv_if_ne (tgt := 181) hx hb dL_law_166 (by decide) (fun _ => ?_) (fun z => absurd z (by decide))
      have hP := va_Psw hP
      have hD := va_Dsw hD
      refine lv_goto (tgt := 1367) hx hb dL_law_181 (by decide) ?_
      exact K f lev ex pa mpa di qu mu gc dg dp da dh dt dv dd ds ms dc td ho ak se pr mr 2 H locs ls ⟨hT, hQ, hB, hSR, hPP, hPM, by omega, hmz⟩ hP hD hS (lv_sub hl [2, 3, 4, 5, 6] rfl)

set_option maxHeartbeats 8000000 in
set_option maxRecDepth 100000 in
theorem lc_move {p : Program} {l : Launch} {e : Env} {s : State} {m : MethodId} {below : List Frame} {meth : Method} {c : Code} {b L : Nat} {xs : Nat → Int32} {D : va_G} {cI cJ cZ : ClassId} {h : Nat} {ad : Nat → Nat} {h2 : Nat} {ad2 : Nat → Nat} {ob : Nat} (X0 : LCX p s m meth c b L xs D cI cJ cZ) (hlf : l.stackTraces = false) {i n cells slots : Nat} (hi : i + 7 ≤ L) (hL : L ≤ 3584) (hn : n ≤ 512) (hrc : cells + 1 ≤ 1078) (hrs : slots + 6 ≤ 14711) (K : LK p l e s m below meth c b D cI cJ cZ h ad h2 ad2 ob i (cells + 1) (slots + 6) (n + 1))
    (f : Nat → Int64) (lev : Nat → Nat) (ex : Nat → Bool) (pa mpa : Nat → Option Nat) (di qu mu : Nat → Nat) (gc : Nat) (dg dp da : Nat → Nat) (dh dt dv : Nat → Option Nat) (dd ds ms : Nat → Nat) (dc td : Nat) (ho : Nat → Option Nat) (ak : Nat → Bool) (se pr mr : Nat → Option Nat) (th : Nat) (hI : LI n lev ex pa mpa di qu mu gc dg dp da dh dt dv dd ds ms dc td ho se pr mr) (H : Heap) (locs : List Loc) (hP : va_P D vwCl (((hW h ad cI cZ ex pa di qu gc dg dp dv dd ds dc td ho ak se pr) ++ [(ob, .inl (cJ, 1, .inr (.inl f)))]) ++ (mW h2 ad2 cI cJ cZ td gc ex mpa di mu dc dg da dh dt dv dd ms ak se mr th)) H) (hD : va_D (fun q : Nat => s.heap.size ≤ q) (((hW h ad cI cZ ex pa di qu gc dg dp dv dd ds dc td ho ak se pr) ++ [(ob, .inl (cJ, 1, .inr (.inl f)))]) ++ (mW h2 ad2 cI cJ cZ td gc ex mpa di mu dc dg da dh dt dv dd ms ak se mr th))) (hS : va_S (fun q : Nat => s.heap.size ≤ q) s.heap H locs) (ls : Array Slot) (hl : lv_has ls 7 [(4, .int (nI i)), (0, .ref b), (1, .ref h), (2, .ref h2), (3, .ref ob)]) : W p l e room_1 s m #[Value.ref b] below meth c H locs cells slots (lw_Z below #[Value.ref b] s) (F0 m 184 ls []) := by
  obtain ⟨C0, hK, hE, hN⟩ := X0
  obtain ⟨hx, hb, hr, hml, hown, hts0, hX, hbl, hlocks, -⟩ := id C0
  have hts : ∀ w ∈ wsL_law, w.before #[Value.ref b] s = true := fun w hw => hts0 w (wsL_law_in w hw)
  have hA : ∀ q : Nat, s.heap.size ≤ q → (fun q : Nat => s.heap.size ≤ q) q := fun _ h => h
  have hbA : ¬ (fun q : Nat => s.heap.size ≤ q) b := Nat.not_le.mpr hbl
  have hrc0 : cells ≤ 1078 := by omega
  have hrs0 : slots ≤ 14711 := by omega
  obtain ⟨hT, hQ, hB, hSR, hPP, hPM, htd, hmz⟩ := hI
  obtain ⟨hti, hme, hpr, hmpr, hpn, hgc, hxg⟩ := id hT
  have htim : TI ex mpa lev := TI_cong hme hti
  obtain ⟨hdi, hqu, hmu, hPT, hmu0⟩ := id hQ
  obtain ⟨hrd, hDR, hds, hho, hdv, hdgc⟩ := id hB
  have hHO := BR_HO hB
  have hRH := BR_RH hB
  have hdp := BR_dp hB
  obtain ⟨hdc, htdl, hdg, hda, hdh, hdt, hdd, hms2⟩ := id hrd
  rcases k_good ex (xs (i + 1)) with hg | ⟨g, hg, e1, he⟩
  · refine lv_aload_n hx hb dL_law_184 rfl (lv_at hl 2 rfl) ?_
    refine lq_arg (k := 1) (y := xs (i + 1)) hx hb hX hbl hbA hS hl 1 0 rfl rfl (show i + 1 < L by omega) (by omega) (by decide) (rfl) dL_law_185 dL_law_186 dL_law_188 dL_law_189 dL_law_190 ?_
    refine lq_arg (k := 2) (y := xs (i + 2)) hx hb hX hbl hbA hS hl 1 0 rfl rfl (show i + 2 < L by omega) (by omega) (by decide) (rfl) dL_law_191 dL_law_192 dL_law_194 dL_law_195 dL_law_196 ?_
    refine lv_aload_n hx hb dL_law_197 rfl (lv_at hl 4 rfl) ?_
    refine q_ecall (k := 1) (vx_runSW (As := [.ref h, .int (xs (i + 1)), .int (xs (i + 2)), .ref ob]) (rest := []) ⟨hx, hb, hml, hown, hts⟩ (kL_moveXI l D h ad cI cZ ex pa di qu gc dg dp dv dd ds dc td ho ak se pr hlf ob (xs (i + 1)) (xs (i + 2)) (Or.inl hg)) (vx_cwSW 4 hts gL_law_L_move rfl rfl rfl (by decide +kernel) ⟨Nat.le_of_ble_eq_true rfl, Nat.le_of_ble_eq_true rfl⟩) ⟨tN_blind, tN_pre (va_Pl (va_Pl hP)) (hK.sub [0, 1] rfl) (tEA_at hE hS) hN⟩ rfl rfl hl.1 rfl (lv_room (Nat.le_of_ble_eq_true rfl)) dL_law_198 ⟨hrc, hrs⟩) hP hS (fun H hP hS => ?_)
    refine lv_istore (lv' := [(5, .int (nI 1)), (4, .int (nI i)), (0, .ref b), (1, .ref h), (2, .ref h2), (3, .ref ob)]) hx hb dL_law_201 hl (by decide) rfl (fun ls hl => ?_)
    refine lv_aload_n hx hb dL_law_203 rfl (lv_at hl 4 rfl) ?_
    refine lq_arg (k := 1) (y := xs (i + 1)) hx hb hX hbl hbA hS hl 2 1 rfl rfl (show i + 1 < L by omega) (by omega) (by decide) (rfl) dL_law_204 dL_law_205 dL_law_207 dL_law_208 dL_law_209 ?_
    refine lq_arg (k := 2) (y := xs (i + 2)) hx hb hX hbl hbA hS hl 2 1 rfl rfl (show i + 2 < L by omega) (by omega) (by decide) (rfl) dL_law_210 dL_law_211 dL_law_213 dL_law_214 dL_law_215 ?_
    have hP := va_Psw hP
    have hD := va_Dsw hD
    refine q_wcallFI (wa' := (mW h2 ad2 cI cJ cZ td gc ex mpa di mu dc dg da dh dt dv dd ms ak se mr 1)) (wb := ((hW h ad cI cZ ex pa di qu gc dg dp dv dd ds dc td ho ak se pr) ++ [(ob, .inl (cJ, 1, .inr (.inl f)))])) (r := nI 0) (va_runV (As := [.int (xs (i + 1)), .int (xs (i + 2))]) (rest := []) ⟨hx, hb, hml, hown, hts⟩ (kX1_move1 l D h2 ad2 cI cJ cZ td gc ex mpa di mu dc dg da dh dt dv dd ms ak se mr th _ (xs (i + 1)) (xs (i + 2)) hgc hxg (Or.inl hg)) (cwV 2 hts gL_law_X1_move rfl rfl rfl (by decide +kernel) ⟨Nat.le_of_ble_eq_true rfl, Nat.le_of_ble_eq_true rfl⟩) ⟨wP_blind, va_recv hK (va_Pl hP) (ci := 1) (q0 := 0) rfl rfl, wP_pre (va_Pl hP) hK (va_Dl hD)⟩ rfl rfl hl.1 rfl (lv_room (Nat.le_of_ble_eq_true rfl)) dL_law_216 ⟨hrc, hrs⟩) hP hD hS hA rfl (fun H locs hP hD hS => ?_)
    refine lv_istore (lv' := [(6, .int (nI 0)), (5, .int (nI 1)), (4, .int (nI i)), (0, .ref b), (1, .ref h), (2, .ref h2), (3, .ref ob)]) hx hb dL_law_219 hl (by decide) rfl (fun ls hl => ?_)
    refine lv_aload_n hx hb dL_law_221 rfl (lv_at hl 5 rfl) ?_
    refine q_callI (r := nI 1) (va_runV (As := []) (rest := []) ⟨hx, hb, hml, hown, hts⟩ (kX1_thrown l D h2 ad2 cI cJ cZ td gc ex mpa di mu dc dg da dh dt dv dd ms ak se mr 1) (cwV 0 hts gL_law_X1_thrown rfl rfl rfl (by decide +kernel) ⟨Nat.le_of_ble_eq_true rfl, Nat.le_of_ble_eq_true rfl⟩) ⟨pP_blind, va_recv hK (va_Pl hP) (ci := 1) (q0 := 0) rfl rfl, pP_pre (va_Pl hP) hK⟩ rfl rfl hl.1 rfl (lv_room (Nat.le_of_ble_eq_true rfl)) dL_law_222 ⟨hrc, hrs⟩) ?_
    refine lv_iload hx hb dL_law_225 (lv_at hl 1 rfl) ?_
    refine lv_icmp_eq (tgt := 232) hx hb dL_law_227 (by decide) (fun _ => ?_) (fun z => absurd rfl z)
    refine lv_iload hx hb dL_law_232 (lv_at hl 1 rfl) ?_
    refine lv_if_ne (tgt := 249) hx hb dL_law_234 (by decide) (fun _ => ?_) (fun z => absurd z (by decide))
    have hP := va_Psw hP
    have hD := va_Dsw hD
    refine lv_goto (tgt := 1367) hx hb dL_law_249 (by decide) ?_
    exact K f lev ex pa mpa di qu mu gc dg dp da dh dt dv dd ds ms dc td ho ak se pr mr 1 H locs ls ⟨hT, hQ, hB, hSR, hPP, hPM, by omega, hmz⟩ hP hD hS (lv_sub hl [2, 3, 4, 5, 6] rfl)
  · rcases k_par ex (xs (i + 2)) with ⟨hob, hne⟩ | ⟨o, e2, ho2⟩
    · refine lv_aload_n hx hb dL_law_184 rfl (lv_at hl 2 rfl) ?_
      refine lq_arg (k := 1) (y := xs (i + 1)) hx hb hX hbl hbA hS hl 1 0 rfl rfl (show i + 1 < L by omega) (by omega) (by decide) (rfl) dL_law_185 dL_law_186 dL_law_188 dL_law_189 dL_law_190 ?_
      refine lq_arg (k := 2) (y := xs (i + 2)) hx hb hX hbl hbA hS hl 1 0 rfl rfl (show i + 2 < L by omega) (by omega) (by decide) (rfl) dL_law_191 dL_law_192 dL_law_194 dL_law_195 dL_law_196 ?_
      refine lv_aload_n hx hb dL_law_197 rfl (lv_at hl 4 rfl) ?_
      refine q_ecall (k := 1) (vx_runSW (As := [.ref h, .int (xs (i + 1)), .int (xs (i + 2)), .ref ob]) (rest := []) ⟨hx, hb, hml, hown, hts⟩ (kL_moveXI l D h ad cI cZ ex pa di qu gc dg dp dv dd ds dc td ho ak se pr hlf ob (xs (i + 1)) (xs (i + 2)) (Or.inr ⟨g, hg, e1, he, hob, hne⟩)) (vx_cwSW 4 hts gL_law_L_move rfl rfl rfl (by decide +kernel) ⟨Nat.le_of_ble_eq_true rfl, Nat.le_of_ble_eq_true rfl⟩) ⟨tN_blind, tN_pre (va_Pl (va_Pl hP)) (hK.sub [0, 1] rfl) (tEA_at hE hS) hN⟩ rfl rfl hl.1 rfl (lv_room (Nat.le_of_ble_eq_true rfl)) dL_law_198 ⟨hrc, hrs⟩) hP hS (fun H hP hS => ?_)
      refine lv_istore (lv' := [(5, .int (nI 1)), (4, .int (nI i)), (0, .ref b), (1, .ref h), (2, .ref h2), (3, .ref ob)]) hx hb dL_law_201 hl (by decide) rfl (fun ls hl => ?_)
      refine lv_aload_n hx hb dL_law_203 rfl (lv_at hl 4 rfl) ?_
      refine lq_arg (k := 1) (y := xs (i + 1)) hx hb hX hbl hbA hS hl 2 1 rfl rfl (show i + 1 < L by omega) (by omega) (by decide) (rfl) dL_law_204 dL_law_205 dL_law_207 dL_law_208 dL_law_209 ?_
      refine lq_arg (k := 2) (y := xs (i + 2)) hx hb hX hbl hbA hS hl 2 1 rfl rfl (show i + 2 < L by omega) (by omega) (by decide) (rfl) dL_law_210 dL_law_211 dL_law_213 dL_law_214 dL_law_215 ?_
      have hP := va_Psw hP
      have hD := va_Dsw hD
      refine q_wcallFI (wa' := (mW h2 ad2 cI cJ cZ td gc ex mpa di mu dc dg da dh dt dv dd ms ak se mr 1)) (wb := ((hW h ad cI cZ ex pa di qu gc dg dp dv dd ds dc td ho ak se pr) ++ [(ob, .inl (cJ, 1, .inr (.inl f)))])) (r := nI 0) (va_runV (As := [.int (xs (i + 1)), .int (xs (i + 2))]) (rest := []) ⟨hx, hb, hml, hown, hts⟩ (kX1_move1 l D h2 ad2 cI cJ cZ td gc ex mpa di mu dc dg da dh dt dv dd ms ak se mr th _ (xs (i + 1)) (xs (i + 2)) hgc hxg (Or.inr ⟨g, hg, e1, he, hob, hne⟩)) (cwV 2 hts gL_law_X1_move rfl rfl rfl (by decide +kernel) ⟨Nat.le_of_ble_eq_true rfl, Nat.le_of_ble_eq_true rfl⟩) ⟨wP_blind, va_recv hK (va_Pl hP) (ci := 1) (q0 := 0) rfl rfl, wP_pre (va_Pl hP) hK (va_Dl hD)⟩ rfl rfl hl.1 rfl (lv_room (Nat.le_of_ble_eq_true rfl)) dL_law_216 ⟨hrc, hrs⟩) hP hD hS hA rfl (fun H locs hP hD hS => ?_)
      refine lv_istore (lv' := [(6, .int (nI 0)), (5, .int (nI 1)), (4, .int (nI i)), (0, .ref b), (1, .ref h), (2, .ref h2), (3, .ref ob)]) hx hb dL_law_219 hl (by decide) rfl (fun ls hl => ?_)
      refine lv_aload_n hx hb dL_law_221 rfl (lv_at hl 5 rfl) ?_
      refine q_callI (r := nI 1) (va_runV (As := []) (rest := []) ⟨hx, hb, hml, hown, hts⟩ (kX1_thrown l D h2 ad2 cI cJ cZ td gc ex mpa di mu dc dg da dh dt dv dd ms ak se mr 1) (cwV 0 hts gL_law_X1_thrown rfl rfl rfl (by decide +kernel) ⟨Nat.le_of_ble_eq_true rfl, Nat.le_of_ble_eq_true rfl⟩) ⟨pP_blind, va_recv hK (va_Pl hP) (ci := 1) (q0 := 0) rfl rfl, pP_pre (va_Pl hP) hK⟩ rfl rfl hl.1 rfl (lv_room (Nat.le_of_ble_eq_true rfl)) dL_law_222 ⟨hrc, hrs⟩) ?_
      refine lv_iload hx hb dL_law_225 (lv_at hl 1 rfl) ?_
      refine lv_icmp_eq (tgt := 232) hx hb dL_law_227 (by decide) (fun _ => ?_) (fun z => absurd rfl z)
      refine lv_iload hx hb dL_law_232 (lv_at hl 1 rfl) ?_
      refine lv_if_ne (tgt := 249) hx hb dL_law_234 (by decide) (fun _ => ?_) (fun z => absurd z (by decide))
      have hP := va_Psw hP
      have hD := va_Dsw hD
      refine lv_goto (tgt := 1367) hx hb dL_law_249 (by decide) ?_
      exact K f lev ex pa mpa di qu mu gc dg dp da dh dt dv dd ds ms dc td ho ak se pr mr 1 H locs ls ⟨hT, hQ, hB, hSR, hPP, hPM, by omega, hmz⟩ hP hD hS (lv_sub hl [2, 3, 4, 5, 6] rfl)
    · cases hw : wth ex pa g 3 o
      · have hw' := wth_m hme hpr ho2 hw
        have htz := tpl_Z lev o
        by_cases hl2 : mxd (fun k => wth ex pa g 3 (some k)) lev (lev g) 16 + tpl lev o < 3 + lev g
        · refine lv_aload_n hx hb dL_law_184 rfl (lv_at hl 2 rfl) ?_
          refine lq_arg (k := 1) (y := nI g) hx hb hX hbl hbA hS hl 1 0 rfl rfl (show i + 1 < L by omega) (by omega) (by decide) (e1) dL_law_185 dL_law_186 dL_law_188 dL_law_189 dL_law_190 ?_
          refine lq_arg (k := 2) (y := oI o) hx hb hX hbl hbA hS hl 1 0 rfl rfl (show i + 2 < L by omega) (by omega) (by decide) (e2) dL_law_191 dL_law_192 dL_law_194 dL_law_195 dL_law_196 ?_
          refine lv_aload_n hx hb dL_law_197 rfl (lv_at hl 4 rfl) ?_
          refine q_wcallFI (wa' := ((hW h ad cI cZ ex (va_up pa g o) di qu gc dg dp dv dd ds dc td ho ak se pr) ++ [(ob, .inl (cJ, 1, .inr (.inl (vp_updL f 0 (oL (pa g))))))])) (wb := (mW h2 ad2 cI cJ cZ td gc ex mpa di mu dc dg da dh dt dv dd ms ak se mr th)) (r := nI 0) (vx_runSW (As := [.ref h, .int (nI g), .int (oI o), .ref ob]) (rest := []) ⟨hx, hb, hml, hown, hts⟩ (kL_move l D h ad cI cZ ex pa di qu gc dg dp dv dd ds dc td ho ak se pr cJ ob f _ g o lev hti hpr hg he ho2 hw (by omega) (fun k e => by have := hpr g hg k e; omega)) (vx_cwSW 4 hts gL_law_L_move rfl rfl rfl (by decide +kernel) ⟨Nat.le_of_ble_eq_true rfl, Nat.le_of_ble_eq_true rfl⟩) ⟨wP_blind, wP_pre (va_Pl hP) hK (va_Dl hD)⟩ rfl rfl hl.1 rfl (lv_room (Nat.le_of_ble_eq_true rfl)) dL_law_198 ⟨hrc0, hrs0⟩) hP hD hS hA rfl (fun H locs hP hD hS => ?_)
          refine lv_istore (lv' := [(5, .int (nI 0)), (4, .int (nI i)), (0, .ref b), (1, .ref h), (2, .ref h2), (3, .ref ob)]) hx hb dL_law_201 hl (by decide) rfl (fun ls hl => ?_)
          refine lv_aload_n hx hb dL_law_203 rfl (lv_at hl 4 rfl) ?_
          refine lq_arg (k := 1) (y := nI g) hx hb hX hbl hbA hS hl 2 1 rfl rfl (show i + 1 < L by omega) (by omega) (by decide) (e1) dL_law_204 dL_law_205 dL_law_207 dL_law_208 dL_law_209 ?_
          refine lq_arg (k := 2) (y := oI o) hx hb hX hbl hbA hS hl 2 1 rfl rfl (show i + 2 < L by omega) (by omega) (by decide) (e2) dL_law_210 dL_law_211 dL_law_213 dL_law_214 dL_law_215 ?_
          have hP := va_Psw hP
          have hD := va_Dsw hD
          refine q_wcallFI (wa' := (mW h2 ad2 cI cJ cZ td gc ex (va_up mpa g o) di mu dc dg da dh dt dv dd ms ak se mr 0)) (wb := ((hW h ad cI cZ ex (va_up pa g o) di qu gc dg dp dv dd ds dc td ho ak se pr) ++ [(ob, .inl (cJ, 1, .inr (.inl (vp_updL f 0 (oL (pa g))))))])) (r := oI (mpa g)) (va_runV (As := [.int (nI g), .int (oI o)]) (rest := []) ⟨hx, hb, hml, hown, hts⟩ (kX1_move l D h2 ad2 cI cJ cZ td gc ex mpa di mu dc dg da dh dt dv dd ms ak se mr th _ g o lev htim hg he ho2 hgc hxg hmpr hw' (exU_no.mp ((bdf_eq hT hg he).trans (decide_eq_false (show ¬ 3 + lev g ≤ mxd (fun k => wth ex pa g 3 (some k)) lev (lev g) 16 + tpl lev o by omega))))) (cwV 2 hts gL_law_X1_move rfl rfl rfl (by decide +kernel) ⟨Nat.le_of_ble_eq_true rfl, Nat.le_of_ble_eq_true rfl⟩) ⟨wP_blind, va_recv hK (va_Pl hP) (ci := 1) (q0 := 0) rfl rfl, wP_pre (va_Pl hP) hK (va_Dl hD)⟩ rfl rfl hl.1 rfl (lv_room (Nat.le_of_ble_eq_true rfl)) dL_law_216 ⟨hrc0, hrs0⟩) hP hD hS hA rfl (fun H locs hP hD hS => ?_)
          refine lv_istore (lv' := [(6, .int (oI (mpa g))), (5, .int (nI 0)), (4, .int (nI i)), (0, .ref b), (1, .ref h), (2, .ref h2), (3, .ref ob)]) hx hb dL_law_219 hl (by decide) rfl (fun ls hl => ?_)
          refine lv_aload_n hx hb dL_law_221 rfl (lv_at hl 5 rfl) ?_
          refine q_callI (r := nI 0) (va_runV (As := []) (rest := []) ⟨hx, hb, hml, hown, hts⟩ (kX1_thrown l D h2 ad2 cI cJ cZ td gc ex (va_up mpa g o) di mu dc dg da dh dt dv dd ms ak se mr 0) (cwV 0 hts gL_law_X1_thrown rfl rfl rfl (by decide +kernel) ⟨Nat.le_of_ble_eq_true rfl, Nat.le_of_ble_eq_true rfl⟩) ⟨pP_blind, va_recv hK (va_Pl hP) (ci := 1) (q0 := 0) rfl rfl, pP_pre (va_Pl hP) hK⟩ rfl rfl hl.1 rfl (lv_room (Nat.le_of_ble_eq_true rfl)) dL_law_222 ⟨hrc0, hrs0⟩) ?_
          refine lv_iload hx hb dL_law_225 (lv_at hl 1 rfl) ?_
          refine lv_icmp_eq (tgt := 232) hx hb dL_law_227 (by decide) (fun _ => ?_) (fun z => absurd rfl z)
          refine lv_iload hx hb dL_law_232 (lv_at hl 1 rfl) ?_
          refine lv_if_ne (tgt := 249) hx hb dL_law_234 (by decide) (fun z => absurd (by decide) z) (fun _ => ?_)
          refine lv_aload_n hx hb dL_law_237 rfl (lv_at hl 6 rfl) ?_
          refine lv_iconst (v := nI 0) hx hb dL_law_238 (by decide) ?_
          refine va_lald hx hb hK (va_Pr hP) 14 2 rfl rfl (vp_in_nI (by decide) (by decide)) dL_law_239 ?_
          refine q_topL (y := (oL (pa g))) vpU ?_
          refine lv_iload hx hb dL_law_240 (lv_at hl 0 rfl) ?_
          refine lv_i2l (v := (oL (pa g))) hx hb dL_law_242 (by rw [hme g hg he]; exact oI_l (fun k e => by have := hpr g hg k e; omega)) ?_
          refine W.lcmp hx hb dL_law_243 ?_
          refine lv_if_eq (tgt := 249) hx hb dL_law_244 (by decide) (fun _ => ?_) (fun z => absurd ((lg_cmp_eq _ _).mpr rfl) z)
          have hP := va_Psw hP
          have hD := va_Dsw hD
          refine lv_goto (tgt := 1367) hx hb dL_law_249 (by decide) ?_
          refine W.widen (k := cells + 1) (n := slots + 6) (by omega) (by omega) ?_
          exact K (vp_updL f 0 (oL (pa g))) (mvl lev ex pa g (tpl lev o)) ex (va_up pa g o) (va_up mpa g o) di qu mu gc dg dp da dh dt dv dd ds ms dc td ho ak se pr mr 0 H locs ls ⟨TR_mov hT hg he ho2 hw hl2, hQ, hB, hSR, hPP, hPM, by omega, hmz⟩ hP hD hS (lv_sub hl [2, 3, 4, 5, 6] rfl)
        · refine lv_aload_n hx hb dL_law_184 rfl (lv_at hl 2 rfl) ?_
          refine lq_arg (k := 1) (y := nI g) hx hb hX hbl hbA hS hl 1 0 rfl rfl (show i + 1 < L by omega) (by omega) (by decide) (e1) dL_law_185 dL_law_186 dL_law_188 dL_law_189 dL_law_190 ?_
          refine lq_arg (k := 2) (y := oI o) hx hb hX hbl hbA hS hl 1 0 rfl rfl (show i + 2 < L by omega) (by omega) (by decide) (e2) dL_law_191 dL_law_192 dL_law_194 dL_law_195 dL_law_196 ?_
          refine lv_aload_n hx hb dL_law_197 rfl (lv_at hl 4 rfl) ?_
          refine q_ecall (k := 2) (vx_runSW (As := [.ref h, .int (nI g), .int (oI o), .ref ob]) (rest := []) ⟨hx, hb, hml, hown, hts⟩ (kL_moveXS l D h ad cI cZ ex pa di qu gc dg dp dv dd ds dc td ho ak se pr hlf ob g o lev hti hpr hg he ho2 (Or.inr ⟨hw, by omega⟩)) (vx_cwSW 4 hts gL_law_L_move rfl rfl rfl (by decide +kernel) ⟨Nat.le_of_ble_eq_true rfl, Nat.le_of_ble_eq_true rfl⟩) ⟨tN_blind, tN_pre (va_Pl (va_Pl hP)) (hK.sub [0, 1] rfl) (tEA_at hE hS) hN⟩ rfl rfl hl.1 rfl (lv_room (Nat.le_of_ble_eq_true rfl)) dL_law_198 ⟨hrc, hrs⟩) hP hS (fun H hP hS => ?_)
          refine lv_istore (lv' := [(5, .int (nI 2)), (4, .int (nI i)), (0, .ref b), (1, .ref h), (2, .ref h2), (3, .ref ob)]) hx hb dL_law_201 hl (by decide) rfl (fun ls hl => ?_)
          refine lv_aload_n hx hb dL_law_203 rfl (lv_at hl 4 rfl) ?_
          refine lq_arg (k := 1) (y := nI g) hx hb hX hbl hbA hS hl 2 1 rfl rfl (show i + 1 < L by omega) (by omega) (by decide) (e1) dL_law_204 dL_law_205 dL_law_207 dL_law_208 dL_law_209 ?_
          refine lq_arg (k := 2) (y := oI o) hx hb hX hbl hbA hS hl 2 1 rfl rfl (show i + 2 < L by omega) (by omega) (by decide) (e2) dL_law_210 dL_law_211 dL_law_213 dL_law_214 dL_law_215 ?_
          have hP := va_Psw hP
          have hD := va_Dsw hD
          refine q_wcallFI (wa' := (mW h2 ad2 cI cJ cZ td gc ex mpa di mu dc dg da dh dt dv dd ms ak se mr 2)) (wb := ((hW h ad cI cZ ex pa di qu gc dg dp dv dd ds dc td ho ak se pr) ++ [(ob, .inl (cJ, 1, .inr (.inl f)))])) (r := nI 0) (va_runV (As := [.int (nI g), .int (oI o)]) (rest := []) ⟨hx, hb, hml, hown, hts⟩ (kX1_move2b l D h2 ad2 cI cJ cZ td gc ex mpa di mu dc dg da dh dt dv dd ms ak se mr th _ g o lev htim hg he ho2 hgc hxg hw' ((bdf_eq hT hg he).trans (decide_eq_true (show 3 + lev g ≤ mxd (fun k => wth ex pa g 3 (some k)) lev (lev g) 16 + tpl lev o by omega)))) (cwV 2 hts gL_law_X1_move rfl rfl rfl (by decide +kernel) ⟨Nat.le_of_ble_eq_true rfl, Nat.le_of_ble_eq_true rfl⟩) ⟨wP_blind, va_recv hK (va_Pl hP) (ci := 1) (q0 := 0) rfl rfl, wP_pre (va_Pl hP) hK (va_Dl hD)⟩ rfl rfl hl.1 rfl (lv_room (Nat.le_of_ble_eq_true rfl)) dL_law_216 ⟨hrc, hrs⟩) hP hD hS hA rfl (fun H locs hP hD hS => ?_)
          refine lv_istore (lv' := [(6, .int (nI 0)), (5, .int (nI 2)), (4, .int (nI i)), (0, .ref b), (1, .ref h), (2, .ref h2), (3, .ref ob)]) hx hb dL_law_219 hl (by decide) rfl (fun ls hl => ?_)
          refine lv_aload_n hx hb dL_law_221 rfl (lv_at hl 5 rfl) ?_
          refine q_callI (r := nI 2) (va_runV (As := []) (rest := []) ⟨hx, hb, hml, hown, hts⟩ (kX1_thrown l D h2 ad2 cI cJ cZ td gc ex mpa di mu dc dg da dh dt dv dd ms ak se mr 2) (cwV 0 hts gL_law_X1_thrown rfl rfl rfl (by decide +kernel) ⟨Nat.le_of_ble_eq_true rfl, Nat.le_of_ble_eq_true rfl⟩) ⟨pP_blind, va_recv hK (va_Pl hP) (ci := 1) (q0 := 0) rfl rfl, pP_pre (va_Pl hP) hK⟩ rfl rfl hl.1 rfl (lv_room (Nat.le_of_ble_eq_true rfl)) dL_law_222 ⟨hrc, hrs⟩) ?_
          refine lv_iload hx hb dL_law_225 (lv_at hl 1 rfl) ?_
          refine lv_icmp_eq (tgt := 232) hx hb dL_law_227 (by decide) (fun _ => ?_) (fun z => absurd rfl z)
          refine lv_iload hx hb dL_law_232 (lv_at hl 1 rfl) ?_
          refine lv_if_ne (tgt := 249) hx hb dL_law_234 (by decide) (fun _ => ?_) (fun z => absurd z (by decide))
          have hP := va_Psw hP
          have hD := va_Dsw hD
          refine lv_goto (tgt := 1367) hx hb dL_law_249 (by decide) ?_
          exact K f lev ex pa mpa di qu mu gc dg dp da dh dt dv dd ds ms dc td ho ak se pr mr 2 H locs ls ⟨hT, hQ, hB, hSR, hPP, hPM, by omega, hmz⟩ hP hD hS (lv_sub hl [2, 3, 4, 5, 6] rfl)
      · have hw' := wth_m hme hpr ho2 hw
        refine lv_aload_n hx hb dL_law_184 rfl (lv_at hl 2 rfl) ?_
        refine lq_arg (k := 1) (y := nI g) hx hb hX hbl hbA hS hl 1 0 rfl rfl (show i + 1 < L by omega) (by omega) (by decide) (e1) dL_law_185 dL_law_186 dL_law_188 dL_law_189 dL_law_190 ?_
        refine lq_arg (k := 2) (y := oI o) hx hb hX hbl hbA hS hl 1 0 rfl rfl (show i + 2 < L by omega) (by omega) (by decide) (e2) dL_law_191 dL_law_192 dL_law_194 dL_law_195 dL_law_196 ?_
        refine lv_aload_n hx hb dL_law_197 rfl (lv_at hl 4 rfl) ?_
        refine q_ecall (k := 2) (vx_runSW (As := [.ref h, .int (nI g), .int (oI o), .ref ob]) (rest := []) ⟨hx, hb, hml, hown, hts⟩ (kL_moveXS l D h ad cI cZ ex pa di qu gc dg dp dv dd ds dc td ho ak se pr hlf ob g o lev hti hpr hg he ho2 (Or.inl hw)) (vx_cwSW 4 hts gL_law_L_move rfl rfl rfl (by decide +kernel) ⟨Nat.le_of_ble_eq_true rfl, Nat.le_of_ble_eq_true rfl⟩) ⟨tN_blind, tN_pre (va_Pl (va_Pl hP)) (hK.sub [0, 1] rfl) (tEA_at hE hS) hN⟩ rfl rfl hl.1 rfl (lv_room (Nat.le_of_ble_eq_true rfl)) dL_law_198 ⟨hrc, hrs⟩) hP hS (fun H hP hS => ?_)
        refine lv_istore (lv' := [(5, .int (nI 2)), (4, .int (nI i)), (0, .ref b), (1, .ref h), (2, .ref h2), (3, .ref ob)]) hx hb dL_law_201 hl (by decide) rfl (fun ls hl => ?_)
        refine lv_aload_n hx hb dL_law_203 rfl (lv_at hl 4 rfl) ?_
        refine lq_arg (k := 1) (y := nI g) hx hb hX hbl hbA hS hl 2 1 rfl rfl (show i + 1 < L by omega) (by omega) (by decide) (e1) dL_law_204 dL_law_205 dL_law_207 dL_law_208 dL_law_209 ?_
        refine lq_arg (k := 2) (y := oI o) hx hb hX hbl hbA hS hl 2 1 rfl rfl (show i + 2 < L by omega) (by omega) (by decide) (e2) dL_law_210 dL_law_211 dL_law_213 dL_law_214 dL_law_215 ?_
        have hP := va_Psw hP
        have hD := va_Dsw hD
        refine q_wcallFI (wa' := (mW h2 ad2 cI cJ cZ td gc ex mpa di mu dc dg da dh dt dv dd ms ak se mr 2)) (wb := ((hW h ad cI cZ ex pa di qu gc dg dp dv dd ds dc td ho ak se pr) ++ [(ob, .inl (cJ, 1, .inr (.inl f)))])) (r := nI 0) (va_runV (As := [.int (nI g), .int (oI o)]) (rest := []) ⟨hx, hb, hml, hown, hts⟩ (kX1_move2a l D h2 ad2 cI cJ cZ td gc ex mpa di mu dc dg da dh dt dv dd ms ak se mr th _ g o lev htim hg he ho2 hgc hxg hw') (cwV 2 hts gL_law_X1_move rfl rfl rfl (by decide +kernel) ⟨Nat.le_of_ble_eq_true rfl, Nat.le_of_ble_eq_true rfl⟩) ⟨wP_blind, va_recv hK (va_Pl hP) (ci := 1) (q0 := 0) rfl rfl, wP_pre (va_Pl hP) hK (va_Dl hD)⟩ rfl rfl hl.1 rfl (lv_room (Nat.le_of_ble_eq_true rfl)) dL_law_216 ⟨hrc, hrs⟩) hP hD hS hA rfl (fun H locs hP hD hS => ?_)
        refine lv_istore (lv' := [(6, .int (nI 0)), (5, .int (nI 2)), (4, .int (nI i)), (0, .ref b), (1, .ref h), (2, .ref h2), (3, .ref ob)]) hx hb dL_law_219 hl (by decide) rfl (fun ls hl => ?_)
        refine lv_aload_n hx hb dL_law_221 rfl (lv_at hl 5 rfl) ?_
        refine q_callI (r := nI 2) (va_runV (As := []) (rest := []) ⟨hx, hb, hml, hown, hts⟩ (kX1_thrown l D h2 ad2 cI cJ cZ td gc ex mpa di mu dc dg da dh dt dv dd ms ak se mr 2) (cwV 0 hts gL_law_X1_thrown rfl rfl rfl (by decide +kernel) ⟨Nat.le_of_ble_eq_true rfl, Nat.le_of_ble_eq_true rfl⟩) ⟨pP_blind, va_recv hK (va_Pl hP) (ci := 1) (q0 := 0) rfl rfl, pP_pre (va_Pl hP) hK⟩ rfl rfl hl.1 rfl (lv_room (Nat.le_of_ble_eq_true rfl)) dL_law_222 ⟨hrc, hrs⟩) ?_
        refine lv_iload hx hb dL_law_225 (lv_at hl 1 rfl) ?_
        refine lv_icmp_eq (tgt := 232) hx hb dL_law_227 (by decide) (fun _ => ?_) (fun z => absurd rfl z)
        refine lv_iload hx hb dL_law_232 (lv_at hl 1 rfl) ?_
        refine lv_if_ne (tgt := 249) hx hb dL_law_234 (by decide) (fun _ => ?_) (fun z => absurd z (by decide))
        have hP := va_Psw hP
        have hD := va_Dsw hD
        refine lv_goto (tgt := 1367) hx hb dL_law_249 (by decide) ?_
        exact K f lev ex pa mpa di qu mu gc dg dp da dh dt dv dd ds ms dc td ho ak se pr mr 2 H locs ls ⟨hT, hQ, hB, hSR, hPP, hPM, by omega, hmz⟩ hP hD hS (lv_sub hl [2, 3, 4, 5, 6] rfl)

set_option maxHeartbeats 8000000 in
set_option maxRecDepth 100000 in
theorem lc_delete {p : Program} {l : Launch} {e : Env} {s : State} {m : MethodId} {below : List Frame} {meth : Method} {c : Code} {b L : Nat} {xs : Nat → Int32} {D : va_G} {cI cJ cZ : ClassId} {h : Nat} {ad : Nat → Nat} {h2 : Nat} {ad2 : Nat → Nat} {ob : Nat} (X0 : LCX p s m meth c b L xs D cI cJ cZ) (hlf : l.stackTraces = false) {i n cells slots : Nat} (hi : i + 7 ≤ L) (hL : L ≤ 3584) (hn : n ≤ 512) (hrc : cells + 1 ≤ 1078) (hrs : slots + 6 ≤ 14711) (K : LK p l e s m below meth c b D cI cJ cZ h ad h2 ad2 ob i (cells + 1) (slots + 6) (n + 1))
    (f : Nat → Int64) (lev : Nat → Nat) (ex : Nat → Bool) (pa mpa : Nat → Option Nat) (di qu mu : Nat → Nat) (gc : Nat) (dg dp da : Nat → Nat) (dh dt dv : Nat → Option Nat) (dd ds ms : Nat → Nat) (dc td : Nat) (ho : Nat → Option Nat) (ak : Nat → Bool) (se pr mr : Nat → Option Nat) (th : Nat) (hI : LI n lev ex pa mpa di qu mu gc dg dp da dh dt dv dd ds ms dc td ho se pr mr) (H : Heap) (locs : List Loc) (hP : va_P D vwCl (((hW h ad cI cZ ex pa di qu gc dg dp dv dd ds dc td ho ak se pr) ++ [(ob, .inl (cJ, 1, .inr (.inl f)))]) ++ (mW h2 ad2 cI cJ cZ td gc ex mpa di mu dc dg da dh dt dv dd ms ak se mr th)) H) (hD : va_D (fun q : Nat => s.heap.size ≤ q) (((hW h ad cI cZ ex pa di qu gc dg dp dv dd ds dc td ho ak se pr) ++ [(ob, .inl (cJ, 1, .inr (.inl f)))]) ++ (mW h2 ad2 cI cJ cZ td gc ex mpa di mu dc dg da dh dt dv dd ms ak se mr th))) (hS : va_S (fun q : Nat => s.heap.size ≤ q) s.heap H locs) (ls : Array Slot) (hl : lv_has ls 7 [(4, .int (nI i)), (0, .ref b), (1, .ref h), (2, .ref h2), (3, .ref ob)]) : W p l e room_1 s m #[Value.ref b] below meth c H locs cells slots (lw_Z below #[Value.ref b] s) (F0 m 252 ls []) := by
  obtain ⟨C0, hK, hE, hN⟩ := X0
  obtain ⟨hx, hb, hr, hml, hown, hts0, hX, hbl, hlocks, -⟩ := id C0
  have hts : ∀ w ∈ wsL_law, w.before #[Value.ref b] s = true := fun w hw => hts0 w (wsL_law_in w hw)
  have hA : ∀ q : Nat, s.heap.size ≤ q → (fun q : Nat => s.heap.size ≤ q) q := fun _ h => h
  have hbA : ¬ (fun q : Nat => s.heap.size ≤ q) b := Nat.not_le.mpr hbl
  have hrc0 : cells ≤ 1078 := by omega
  have hrs0 : slots ≤ 14711 := by omega
  obtain ⟨hT, hQ, hB, hSR, hPP, hPM, htd, hmz⟩ := hI
  obtain ⟨hti, hme, hpr, hmpr, hpn, hgc, hxg⟩ := id hT
  have htim : TI ex mpa lev := TI_cong hme hti
  obtain ⟨hdi, hqu, hmu, hPT, hmu0⟩ := id hQ
  obtain ⟨hrd, hDR, hds, hho, hdv, hdgc⟩ := id hB
  have hHO := BR_HO hB
  have hRH := BR_RH hB
  have hdp := BR_dp hB
  obtain ⟨hdc, htdl, hdg, hda, hdh, hdt, hdd, hms2⟩ := id hrd
  rcases k_good ex (xs (i + 1)) with hg | ⟨g, hg, e1, he⟩
  · refine lv_aload_n hx hb dL_law_252 rfl (lv_at hl 2 rfl) ?_
    refine lq_arg (k := 1) (y := xs (i + 1)) hx hb hX hbl hbA hS hl 1 0 rfl rfl (show i + 1 < L by omega) (by omega) (by decide) (rfl) dL_law_253 dL_law_254 dL_law_256 dL_law_257 dL_law_258 ?_
    refine q_ecall (k := 1) (vx_runSW (As := [.ref h, .int (xs (i + 1))]) (rest := []) ⟨hx, hb, hml, hown, hts⟩ (kL_deleteXI l D h ad cI cZ ex pa di qu gc dg dp dv dd ds dc td ho ak se pr hlf (xs (i + 1)) hg) (vx_cwSW 2 hts gL_law_L_delete rfl rfl rfl (by decide +kernel) ⟨Nat.le_of_ble_eq_true rfl, Nat.le_of_ble_eq_true rfl⟩) ⟨tN_blind, tN_pre (va_Pl (va_Pl hP)) (hK.sub [0, 1] rfl) (tEA_at hE hS) hN⟩ rfl rfl hl.1 rfl (lv_room (Nat.le_of_ble_eq_true rfl)) dL_law_259 ⟨hrc, hrs⟩) hP hS (fun H hP hS => ?_)
    refine lv_istore (lv' := [(5, .int (nI 1)), (4, .int (nI i)), (0, .ref b), (1, .ref h), (2, .ref h2), (3, .ref ob)]) hx hb dL_law_262 hl (by decide) rfl (fun ls hl => ?_)
    refine lv_aload_n hx hb dL_law_264 rfl (lv_at hl 4 rfl) ?_
    refine lq_arg (k := 1) (y := xs (i + 1)) hx hb hX hbl hbA hS hl 2 1 rfl rfl (show i + 1 < L by omega) (by omega) (by decide) (rfl) dL_law_265 dL_law_266 dL_law_268 dL_law_269 dL_law_270 ?_
    have hP := va_Psw hP
    have hD := va_Dsw hD
    refine q_wcallFV (wa' := (mW h2 ad2 cI cJ cZ td gc ex mpa di mu dc dg da dh dt dv dd ms ak se mr 1)) (wb := ((hW h ad cI cZ ex pa di qu gc dg dp dv dd ds dc td ho ak se pr) ++ [(ob, .inl (cJ, 1, .inr (.inl f)))])) (va_runV (As := [.int (xs (i + 1))]) (rest := []) ⟨hx, hb, hml, hown, hts⟩ (kX1_delete1 l D h2 ad2 cI cJ cZ td gc ex mpa di mu dc dg da dh dt dv dd ms ak se mr th _ (xs (i + 1)) hgc hxg hg) (cwV 1 hts gL_law_X1_delete rfl rfl rfl (by decide +kernel) ⟨Nat.le_of_ble_eq_true rfl, Nat.le_of_ble_eq_true rfl⟩) ⟨wP_blind, va_recv hK (va_Pl hP) (ci := 1) (q0 := 0) rfl rfl, wP_pre (va_Pl hP) hK (va_Dl hD)⟩ rfl rfl hl.1 rfl (lv_room (Nat.le_of_ble_eq_true rfl)) dL_law_271 ⟨hrc, hrs⟩) hP hD hS hA rfl (fun H locs hP hD hS => ?_)
    refine lv_aload_n hx hb dL_law_274 rfl (lv_at hl 4 rfl) ?_
    refine q_callI (r := nI 1) (va_runV (As := []) (rest := []) ⟨hx, hb, hml, hown, hts⟩ (kX1_thrown l D h2 ad2 cI cJ cZ td gc ex mpa di mu dc dg da dh dt dv dd ms ak se mr 1) (cwV 0 hts gL_law_X1_thrown rfl rfl rfl (by decide +kernel) ⟨Nat.le_of_ble_eq_true rfl, Nat.le_of_ble_eq_true rfl⟩) ⟨pP_blind, va_recv hK (va_Pl hP) (ci := 1) (q0 := 0) rfl rfl, pP_pre (va_Pl hP) hK⟩ rfl rfl hl.1 rfl (lv_room (Nat.le_of_ble_eq_true rfl)) dL_law_275 ⟨hrc, hrs⟩) ?_
    refine lv_iload hx hb dL_law_278 (lv_at hl 0 rfl) ?_
    refine lv_icmp_eq (tgt := 285) hx hb dL_law_280 (by decide) (fun _ => ?_) (fun z => absurd rfl z)
    have hP := va_Psw hP
    have hD := va_Dsw hD
    refine lv_goto (tgt := 1367) hx hb dL_law_285 (by decide) ?_
    exact K f lev ex pa mpa di qu mu gc dg dp da dh dt dv dd ds ms dc td ho ak se pr mr 1 H locs ls ⟨hT, hQ, hB, hSR, hPP, hPM, by omega, hmz⟩ hP hD hS (lv_sub hl [1, 2, 3, 4, 5] rfl)
  · by_cases hb2 : exU (fun k => decide (pa k = some g)) 16 = true ∨ exU (fun k => decide (0 < qu (k * 16 + g))) 16 = true
    · refine lv_aload_n hx hb dL_law_252 rfl (lv_at hl 2 rfl) ?_
      refine lq_arg (k := 1) (y := nI g) hx hb hX hbl hbA hS hl 1 0 rfl rfl (show i + 1 < L by omega) (by omega) (by decide) (e1) dL_law_253 dL_law_254 dL_law_256 dL_law_257 dL_law_258 ?_
      refine q_ecall (k := 2) (vx_runSW (As := [.ref h, .int (nI g)]) (rest := []) ⟨hx, hb, hml, hown, hts⟩ (kL_deleteXS l D h ad cI cZ ex pa di qu gc dg dp dv dd ds dc td ho ak se pr hlf g hg he hpr hqu hb2) (vx_cwSW 2 hts gL_law_L_delete rfl rfl rfl (by decide +kernel) ⟨Nat.le_of_ble_eq_true rfl, Nat.le_of_ble_eq_true rfl⟩) ⟨tN_blind, tN_pre (va_Pl (va_Pl hP)) (hK.sub [0, 1] rfl) (tEA_at hE hS) hN⟩ rfl rfl hl.1 rfl (lv_room (Nat.le_of_ble_eq_true rfl)) dL_law_259 ⟨hrc, hrs⟩) hP hS (fun H hP hS => ?_)
      refine lv_istore (lv' := [(5, .int (nI 2)), (4, .int (nI i)), (0, .ref b), (1, .ref h), (2, .ref h2), (3, .ref ob)]) hx hb dL_law_262 hl (by decide) rfl (fun ls hl => ?_)
      refine lv_aload_n hx hb dL_law_264 rfl (lv_at hl 4 rfl) ?_
      refine lq_arg (k := 1) (y := nI g) hx hb hX hbl hbA hS hl 2 1 rfl rfl (show i + 1 < L by omega) (by omega) (by decide) (e1) dL_law_265 dL_law_266 dL_law_268 dL_law_269 dL_law_270 ?_
      have hP := va_Psw hP
      have hD := va_Dsw hD
      refine q_wcallFV (wa' := (mW h2 ad2 cI cJ cZ td gc ex mpa di mu dc dg da dh dt dv dd ms ak se mr 2)) (wb := ((hW h ad cI cZ ex pa di qu gc dg dp dv dd ds dc td ho ak se pr) ++ [(ob, .inl (cJ, 1, .inr (.inl f)))])) (va_runV (As := [.int (nI g)]) (rest := []) ⟨hx, hb, hml, hown, hts⟩ (kX1_delete2 l D h2 ad2 cI cJ cZ td gc ex mpa di mu dc dg da dh dt dv dd ms ak se mr th _ g hg he hmpr hmu hgc hxg (by rw [bdd_eq hT hQ hg]; rcases hb2 with hb2 | hb2 <;> rw [hb2] <;> simp)) (cwV 1 hts gL_law_X1_delete rfl rfl rfl (by decide +kernel) ⟨Nat.le_of_ble_eq_true rfl, Nat.le_of_ble_eq_true rfl⟩) ⟨wP_blind, va_recv hK (va_Pl hP) (ci := 1) (q0 := 0) rfl rfl, wP_pre (va_Pl hP) hK (va_Dl hD)⟩ rfl rfl hl.1 rfl (lv_room (Nat.le_of_ble_eq_true rfl)) dL_law_271 ⟨hrc, hrs⟩) hP hD hS hA rfl (fun H locs hP hD hS => ?_)
      refine lv_aload_n hx hb dL_law_274 rfl (lv_at hl 4 rfl) ?_
      refine q_callI (r := nI 2) (va_runV (As := []) (rest := []) ⟨hx, hb, hml, hown, hts⟩ (kX1_thrown l D h2 ad2 cI cJ cZ td gc ex mpa di mu dc dg da dh dt dv dd ms ak se mr 2) (cwV 0 hts gL_law_X1_thrown rfl rfl rfl (by decide +kernel) ⟨Nat.le_of_ble_eq_true rfl, Nat.le_of_ble_eq_true rfl⟩) ⟨pP_blind, va_recv hK (va_Pl hP) (ci := 1) (q0 := 0) rfl rfl, pP_pre (va_Pl hP) hK⟩ rfl rfl hl.1 rfl (lv_room (Nat.le_of_ble_eq_true rfl)) dL_law_275 ⟨hrc, hrs⟩) ?_
      refine lv_iload hx hb dL_law_278 (lv_at hl 0 rfl) ?_
      refine lv_icmp_eq (tgt := 285) hx hb dL_law_280 (by decide) (fun _ => ?_) (fun z => absurd rfl z)
      have hP := va_Psw hP
      have hD := va_Dsw hD
      refine lv_goto (tgt := 1367) hx hb dL_law_285 (by decide) ?_
      exact K f lev ex pa mpa di qu mu gc dg dp da dh dt dv dd ds ms dc td ho ak se pr mr 2 H locs ls ⟨hT, hQ, hB, hSR, hPP, hPM, by omega, hmz⟩ hP hD hS (lv_sub hl [1, 2, 3, 4, 5] rfl)
    · have hnp : exU (fun k => decide (pa k = some g)) 16 = false := Bool.eq_false_iff.mpr (fun z => hb2 (Or.inl z))
      have hnq : exU (fun k => decide (0 < qu (k * 16 + g))) 16 = false := Bool.eq_false_iff.mpr (fun z => hb2 (Or.inr z))
      refine lv_aload_n hx hb dL_law_252 rfl (lv_at hl 2 rfl) ?_
      refine lq_arg (k := 1) (y := nI g) hx hb hX hbl hbA hS hl 1 0 rfl rfl (show i + 1 < L by omega) (by omega) (by decide) (e1) dL_law_253 dL_law_254 dL_law_256 dL_law_257 dL_law_258 ?_
      rw [List.append_assoc] at hP hD
      refine q_wcallFI (wa' := (hW h ad cI cZ (va_up ex g false) (va_up pa g none) di (clr qu (g * 16) 16) gc dg dp dv dd (kil ds dg g dc) dc td (stl ho (kil ds dg g dc) dd dp td dc) ak se pr)) (wb := ([(ob, .inl (cJ, 1, .inr (.inl f)))] ++ (mW h2 ad2 cI cJ cZ td gc ex mpa di mu dc dg da dh dt dv dd ms ak se mr th))) (r := nI 0) (vx_runSW (As := [.ref h, .int (nI g)]) (rest := []) ⟨hx, hb, hml, hown, hts⟩ (kL_delete l D h ad cI cZ ex pa di qu gc dg dp dv dd ds dc td ho ak se pr _ g hg he hpr hqu hnp hnq hdg hdc htdl hdp hdd hds) (vx_cwSW 2 hts gL_law_L_delete rfl rfl rfl (by decide +kernel) ⟨Nat.le_of_ble_eq_true rfl, Nat.le_of_ble_eq_true rfl⟩) ⟨wP_blind, wP_pre (va_Pl hP) (hK.sub [0, 1] rfl) (va_Dl hD)⟩ rfl rfl hl.1 rfl (lv_room (Nat.le_of_ble_eq_true rfl)) dL_law_259 ⟨hrc0, hrs0⟩) hP hD hS hA rfl (fun H locs hP hD hS => ?_)
      rw [← List.append_assoc] at hP hD
      refine lv_istore (lv' := [(5, .int (nI 0)), (4, .int (nI i)), (0, .ref b), (1, .ref h), (2, .ref h2), (3, .ref ob)]) hx hb dL_law_262 hl (by decide) rfl (fun ls hl => ?_)
      refine lv_aload_n hx hb dL_law_264 rfl (lv_at hl 4 rfl) ?_
      refine lq_arg (k := 1) (y := nI g) hx hb hX hbl hbA hS hl 2 1 rfl rfl (show i + 1 < L by omega) (by omega) (by decide) (e1) dL_law_265 dL_law_266 dL_law_268 dL_law_269 dL_law_270 ?_
      have hP := va_Psw hP
      have hD := va_Dsw hD
      refine q_wcallFV (wa' := (mW h2 ad2 cI cJ cZ td gc (va_up ex g false) mpa di mu dc dg da dh dt dv dd ms ak se mr 0)) (wb := ((hW h ad cI cZ (va_up ex g false) (va_up pa g none) di (clr qu (g * 16) 16) gc dg dp dv dd (kil ds dg g dc) dc td (stl ho (kil ds dg g dc) dd dp td dc) ak se pr) ++ [(ob, .inl (cJ, 1, .inr (.inl f)))])) (va_runV (As := [.int (nI g)]) (rest := []) ⟨hx, hb, hml, hown, hts⟩ (kX1_delete l D h2 ad2 cI cJ cZ td gc ex mpa di mu dc dg da dh dt dv dd ms ak se mr th _ g hg he hmpr hmu hgc hxg (exU_no.mp (by rw [bdd_eq hT hQ hg, hnp, hnq]; rfl))) (cwV 1 hts gL_law_X1_delete rfl rfl rfl (by decide +kernel) ⟨Nat.le_of_ble_eq_true rfl, Nat.le_of_ble_eq_true rfl⟩) ⟨wP_blind, va_recv hK (va_Pl hP) (ci := 1) (q0 := 0) rfl rfl, wP_pre (va_Pl hP) hK (va_Dl hD)⟩ rfl rfl hl.1 rfl (lv_room (Nat.le_of_ble_eq_true rfl)) dL_law_271 ⟨hrc0, hrs0⟩) hP hD hS hA rfl (fun H locs hP hD hS => ?_)
      refine lv_aload_n hx hb dL_law_274 rfl (lv_at hl 4 rfl) ?_
      refine q_callI (r := nI 0) (va_runV (As := []) (rest := []) ⟨hx, hb, hml, hown, hts⟩ (kX1_thrown l D h2 ad2 cI cJ cZ td gc (va_up ex g false) mpa di mu dc dg da dh dt dv dd ms ak se mr 0) (cwV 0 hts gL_law_X1_thrown rfl rfl rfl (by decide +kernel) ⟨Nat.le_of_ble_eq_true rfl, Nat.le_of_ble_eq_true rfl⟩) ⟨pP_blind, va_recv hK (va_Pl hP) (ci := 1) (q0 := 0) rfl rfl, pP_pre (va_Pl hP) hK⟩ rfl rfl hl.1 rfl (lv_room (Nat.le_of_ble_eq_true rfl)) dL_law_275 ⟨hrc0, hrs0⟩) ?_
      refine lv_iload hx hb dL_law_278 (lv_at hl 0 rfl) ?_
      refine lv_icmp_eq (tgt := 285) hx hb dL_law_280 (by decide) (fun _ => ?_) (fun z => absurd rfl z)
      have hP := va_Psw hP
      have hD := va_Dsw hD
      refine lv_goto (tgt := 1367) hx hb dL_law_285 (by decide) ?_
      refine W.widen (k := cells + 1) (n := slots + 6) (by omega) (by omega) ?_
      exact K f lev (va_up ex g false) (va_up pa g none) mpa di (clr qu (g * 16) 16) mu gc dg dp da dh dt dv dd (kil ds dg g dc) ms dc td (stl ho (kil ds dg g dc) dd dp td dc) ak se pr mr 0 H locs ls ⟨TR_del hT (fun k hk => of_decide_eq_false (exU_no.mp hnp k hk)), QR_del hQ (fun k hk => by have := of_decide_eq_false (exU_no.mp hnq k hk); omega) hg, BR_del hB, hSR, hPP, hPM, by omega, hmz⟩ hP hD hS (lv_sub hl [1, 2, 3, 4, 5] rfl)
