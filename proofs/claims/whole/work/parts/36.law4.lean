set_option maxHeartbeats 8000000 in
set_option maxRecDepth 100000 in
theorem lc_origin {p : Program} {l : Launch} {e : Env} {s : State} {m : MethodId} {below : List Frame} {meth : Method} {c : Code} {b L : Nat} {xs : Nat → Int32} {D : va_G} {cI cJ cZ : ClassId} {h : Nat} {ad : Nat → Nat} {h2 : Nat} {ad2 : Nat → Nat} {ob : Nat} (X0 : LCX p s m meth c b L xs D cI cJ cZ) (hlf : l.stackTraces = false) {i n cells slots : Nat} (hi : i + 7 ≤ L) (hL : L ≤ 3584) (hn : n ≤ 512) (hrc : cells + 1 ≤ 1078) (hrs : slots + 6 ≤ 14711) (K : LK p l e s m below meth c b D cI cJ cZ h ad h2 ad2 ob i (cells + 1) (slots + 6) (n + 1))
    (f : Nat → Int64) (lev : Nat → Nat) (ex : Nat → Bool) (pa mpa : Nat → Option Nat) (di qu mu : Nat → Nat) (gc : Nat) (dg dp da : Nat → Nat) (dh dt dv : Nat → Option Nat) (dd ds ms : Nat → Nat) (dc td : Nat) (ho : Nat → Option Nat) (ak : Nat → Bool) (se pr mr : Nat → Option Nat) (th : Nat) (hI : LI n lev ex pa mpa di qu mu gc dg dp da dh dt dv dd ds ms dc td ho se pr mr) (H : Heap) (locs : List Loc) (hP : va_P D vwCl (((hW h ad cI cZ ex pa di qu gc dg dp dv dd ds dc td ho ak se pr) ++ [(ob, .inl (cJ, 1, .inr (.inl f)))]) ++ (mW h2 ad2 cI cJ cZ td gc ex mpa di mu dc dg da dh dt dv dd ms ak se mr th)) H) (hD : va_D (fun q : Nat => s.heap.size ≤ q) (((hW h ad cI cZ ex pa di qu gc dg dp dv dd ds dc td ho ak se pr) ++ [(ob, .inl (cJ, 1, .inr (.inl f)))]) ++ (mW h2 ad2 cI cJ cZ td gc ex mpa di mu dc dg da dh dt dv dd ms ak se mr th))) (hS : va_S (fun q : Nat => s.heap.size ≤ q) s.heap H locs) (ls : Array Slot) (hl : lv_has ls 7 [(4, .int (nI i)), (0, .ref b), (1, .ref h), (2, .ref h2), (3, .ref ob)]) : W p l e room_1 s m #[Value.ref b] below meth c H locs cells slots (lw_Z below #[Value.ref b] s) (F0 m 828 ls []) := by
  obtain ⟨C0, hK, hE, hN⟩ := X0
  obtain ⟨hx, hb, hr, hml, hown, hts0, hX, hbl, hlocks, -⟩ := id C0
  have hts : ∀ w ∈ wsL_law, w.before #[Value.ref b] s = true := fun w hw => hts0 w (wsL_law_in w hw)
  have hA : ∀ q : Nat, s.heap.size ≤ q → (fun q : Nat => s.heap.size ≤ q) q := fun _ h => h
  have hbA : ¬ (fun q : Nat => s.heap.size ≤ q) b := Nat.not_le.mpr hbl
  have hrc0 : cells ≤ 1078 := by omega
  have hrs0 : slots ≤ 14711 := by omega
  obtain ⟨hT, hQ, hB, hSR, hPP, hPM, htd, hmz⟩ := hI
  obtain ⟨hti, hme, hpr, hmpr, hpn, hgc, hxg⟩ := id hT
  have htim : TI ex mpa lev := TI_cong hme hti
  obtain ⟨hdi, hqu, hmu, hPT, hmu0⟩ := id hQ
  obtain ⟨hrd, hDR, hds, hho, hdv, hdgc⟩ := id hB
  have hHO := BR_HO hB
  have hRH := BR_RH hB
  have hdp := BR_dp hB
  obtain ⟨hdc, htdl, hdg, hda, hdh, hdt, hdd, hms2⟩ := id hrd
  rcases k_good ex (xs (i + 1)) with hg | ⟨g, hg, e1, he⟩
  · refine lv_aload_n hx hb dL_law_828 rfl (lv_at hl 2 rfl) ?_
    refine lq_arg (k := 1) (y := xs (i + 1)) hx hb hX hbl hbA hS hl 1 0 rfl rfl (show i + 1 < L by omega) (by omega) (by decide) (rfl) dL_law_829 dL_law_830 dL_law_832 dL_law_833 dL_law_834 ?_
    refine lq_arg (k := 2) (y := xs (i + 2)) hx hb hX hbl hbA hS hl 1 0 rfl rfl (show i + 2 < L by omega) (by omega) (by decide) (rfl) dL_law_835 dL_law_836 dL_law_838 dL_law_839 dL_law_840 ?_
    refine lq_arg (k := 3) (y := xs (i + 3)) hx hb hX hbl hbA hS hl 1 0 rfl rfl (show i + 3 < L by omega) (by omega) (by decide) (rfl) dL_law_841 dL_law_842 dL_law_844 dL_law_845 dL_law_846 ?_
    refine lq_arg (k := 4) (y := xs (i + 4)) hx hb hX hbl hbA hS hl 1 0 rfl rfl (show i + 4 < L by omega) (by omega) (by decide) (rfl) dL_law_847 dL_law_848 dL_law_850 dL_law_851 dL_law_852 ?_
    refine lv_aload_n hx hb dL_law_853 rfl (lv_at hl 4 rfl) ?_
    refine q_ecall (k := 1) (vx_runSW (As := [.ref h, .int (xs (i + 1)), .int (xs (i + 2)), .int (xs (i + 3)), .int (xs (i + 4)), .ref ob]) (rest := []) ⟨hx, hb, hml, hown, hts⟩ (kL_originXI l D h ad cI cZ ex pa di qu gc dg dp dv dd ds dc td ho ak se pr hlf ob (xs (i + 1)) (xs (i + 2)) (xs (i + 3)) (xs (i + 4)) (Or.inl hg)) (vx_cwSW 6 hts gL_law_L_origin rfl rfl rfl (by decide +kernel) ⟨Nat.le_of_ble_eq_true rfl, Nat.le_of_ble_eq_true rfl⟩) ⟨tN_blind, tN_pre (va_Pl (va_Pl hP)) (hK.sub [0, 1] rfl) (tEA_at hE hS) hN⟩ rfl rfl hl.1 rfl (lv_room (Nat.le_of_ble_eq_true rfl)) dL_law_854 ⟨hrc, hrs⟩) hP hS (fun H hP hS => ?_)
    refine lv_istore (lv' := [(5, .int (nI 1)), (4, .int (nI i)), (0, .ref b), (1, .ref h), (2, .ref h2), (3, .ref ob)]) hx hb dL_law_857 hl (by decide) rfl (fun ls hl => ?_)
    refine lv_aload_n hx hb dL_law_859 rfl (lv_at hl 4 rfl) ?_
    refine lq_arg (k := 1) (y := xs (i + 1)) hx hb hX hbl hbA hS hl 2 1 rfl rfl (show i + 1 < L by omega) (by omega) (by decide) (rfl) dL_law_860 dL_law_861 dL_law_863 dL_law_864 dL_law_865 ?_
    refine lq_arg (k := 2) (y := xs (i + 2)) hx hb hX hbl hbA hS hl 2 1 rfl rfl (show i + 2 < L by omega) (by omega) (by decide) (rfl) dL_law_866 dL_law_867 dL_law_869 dL_law_870 dL_law_871 ?_
    refine lq_arg (k := 3) (y := xs (i + 3)) hx hb hX hbl hbA hS hl 2 1 rfl rfl (show i + 3 < L by omega) (by omega) (by decide) (rfl) dL_law_872 dL_law_873 dL_law_875 dL_law_876 dL_law_877 ?_
    refine lq_arg (k := 4) (y := xs (i + 4)) hx hb hX hbl hbA hS hl 2 1 rfl rfl (show i + 4 < L by omega) (by omega) (by decide) (rfl) dL_law_878 dL_law_879 dL_law_881 dL_law_882 dL_law_883 ?_
    have hP := va_Psw hP
    have hD := va_Dsw hD
    refine q_wcallFI (wa' := (mW h2 ad2 cI cJ cZ td gc ex mpa di mu dc dg da dh dt dv dd ms ak se mr 1)) (wb := ((hW h ad cI cZ ex pa di qu gc dg dp dv dd ds dc td ho ak se pr) ++ [(ob, .inl (cJ, 1, .inr (.inl f)))])) (r := nI 0) (va_runV (As := [.int (xs (i + 1)), .int (xs (i + 2)), .int (xs (i + 3)), .int (xs (i + 4))]) (rest := []) ⟨hx, hb, hml, hown, hts⟩ (kX1_origin1 l D h2 ad2 cI cJ cZ td gc ex mpa di mu dc dg da dh dt dv dd ms ak se mr th _ (xs (i + 1)) (xs (i + 2)) (xs (i + 3)) (xs (i + 4)) hgc hxg (Or.inl hg)) (cwV 4 hts gL_law_X1_origin rfl rfl rfl (by decide +kernel) ⟨Nat.le_of_ble_eq_true rfl, Nat.le_of_ble_eq_true rfl⟩) ⟨wP_blind, va_recv hK (va_Pl hP) (ci := 1) (q0 := 0) rfl rfl, wP_pre (va_Pl hP) hK (va_Dl hD)⟩ rfl rfl hl.1 rfl (lv_room (Nat.le_of_ble_eq_true rfl)) dL_law_884 ⟨hrc, hrs⟩) hP hD hS hA rfl (fun H locs hP hD hS => ?_)
    refine lv_istore (lv' := [(6, .int (nI 0)), (5, .int (nI 1)), (4, .int (nI i)), (0, .ref b), (1, .ref h), (2, .ref h2), (3, .ref ob)]) hx hb dL_law_887 hl (by decide) rfl (fun ls hl => ?_)
    refine lv_aload_n hx hb dL_law_889 rfl (lv_at hl 5 rfl) ?_
    refine q_callI (r := nI 1) (va_runV (As := []) (rest := []) ⟨hx, hb, hml, hown, hts⟩ (kX1_thrown l D h2 ad2 cI cJ cZ td gc ex mpa di mu dc dg da dh dt dv dd ms ak se mr 1) (cwV 0 hts gL_law_X1_thrown rfl rfl rfl (by decide +kernel) ⟨Nat.le_of_ble_eq_true rfl, Nat.le_of_ble_eq_true rfl⟩) ⟨pP_blind, va_recv hK (va_Pl hP) (ci := 1) (q0 := 0) rfl rfl, pP_pre (va_Pl hP) hK⟩ rfl rfl hl.1 rfl (lv_room (Nat.le_of_ble_eq_true rfl)) dL_law_890 ⟨hrc, hrs⟩) ?_
    refine lv_iload hx hb dL_law_893 (lv_at hl 1 rfl) ?_
    refine lv_icmp_eq (tgt := 900) hx hb dL_law_895 (by decide) (fun _ => ?_) (fun z => absurd rfl z)
    refine lv_iload hx hb dL_law_900 (lv_at hl 1 rfl) ?_
    refine lv_if_ne (tgt := 917) hx hb dL_law_902 (by decide) (fun _ => ?_) (fun z => absurd z (by decide))
    have hP := va_Psw hP
    have hD := va_Dsw hD
    refine lv_goto (tgt := 1367) hx hb dL_law_917 (by decide) ?_
    exact K f lev ex pa mpa di qu mu gc dg dp da dh dt dv dd ds ms dc td ho ak se pr mr 1 H locs ls ⟨hT, hQ, hB, hSR, hPP, hPM, by omega, hmz⟩ hP hD hS (lv_sub hl [2, 3, 4, 5, 6] rfl)
  · rcases k_ix 6 (by decide) (xs (i + 2)) with ha | ⟨a, ha, e2⟩
    · refine lv_aload_n hx hb dL_law_828 rfl (lv_at hl 2 rfl) ?_
      refine lq_arg (k := 1) (y := xs (i + 1)) hx hb hX hbl hbA hS hl 1 0 rfl rfl (show i + 1 < L by omega) (by omega) (by decide) (rfl) dL_law_829 dL_law_830 dL_law_832 dL_law_833 dL_law_834 ?_
      refine lq_arg (k := 2) (y := xs (i + 2)) hx hb hX hbl hbA hS hl 1 0 rfl rfl (show i + 2 < L by omega) (by omega) (by decide) (rfl) dL_law_835 dL_law_836 dL_law_838 dL_law_839 dL_law_840 ?_
      refine lq_arg (k := 3) (y := xs (i + 3)) hx hb hX hbl hbA hS hl 1 0 rfl rfl (show i + 3 < L by omega) (by omega) (by decide) (rfl) dL_law_841 dL_law_842 dL_law_844 dL_law_845 dL_law_846 ?_
      refine lq_arg (k := 4) (y := xs (i + 4)) hx hb hX hbl hbA hS hl 1 0 rfl rfl (show i + 4 < L by omega) (by omega) (by decide) (rfl) dL_law_847 dL_law_848 dL_law_850 dL_law_851 dL_law_852 ?_
      refine lv_aload_n hx hb dL_law_853 rfl (lv_at hl 4 rfl) ?_
      refine q_ecall (k := 1) (vx_runSW (As := [.ref h, .int (xs (i + 1)), .int (xs (i + 2)), .int (xs (i + 3)), .int (xs (i + 4)), .ref ob]) (rest := []) ⟨hx, hb, hml, hown, hts⟩ (kL_originXI l D h ad cI cZ ex pa di qu gc dg dp dv dd ds dc td ho ak se pr hlf ob (xs (i + 1)) (xs (i + 2)) (xs (i + 3)) (xs (i + 4)) (Or.inr ⟨g, hg, e1, he, Or.inl ha⟩)) (vx_cwSW 6 hts gL_law_L_origin rfl rfl rfl (by decide +kernel) ⟨Nat.le_of_ble_eq_true rfl, Nat.le_of_ble_eq_true rfl⟩) ⟨tN_blind, tN_pre (va_Pl (va_Pl hP)) (hK.sub [0, 1] rfl) (tEA_at hE hS) hN⟩ rfl rfl hl.1 rfl (lv_room (Nat.le_of_ble_eq_true rfl)) dL_law_854 ⟨hrc, hrs⟩) hP hS (fun H hP hS => ?_)
      refine lv_istore (lv' := [(5, .int (nI 1)), (4, .int (nI i)), (0, .ref b), (1, .ref h), (2, .ref h2), (3, .ref ob)]) hx hb dL_law_857 hl (by decide) rfl (fun ls hl => ?_)
      refine lv_aload_n hx hb dL_law_859 rfl (lv_at hl 4 rfl) ?_
      refine lq_arg (k := 1) (y := xs (i + 1)) hx hb hX hbl hbA hS hl 2 1 rfl rfl (show i + 1 < L by omega) (by omega) (by decide) (rfl) dL_law_860 dL_law_861 dL_law_863 dL_law_864 dL_law_865 ?_
      refine lq_arg (k := 2) (y := xs (i + 2)) hx hb hX hbl hbA hS hl 2 1 rfl rfl (show i + 2 < L by omega) (by omega) (by decide) (rfl) dL_law_866 dL_law_867 dL_law_869 dL_law_870 dL_law_871 ?_
      refine lq_arg (k := 3) (y := xs (i + 3)) hx hb hX hbl hbA hS hl 2 1 rfl rfl (show i + 3 < L by omega) (by omega) (by decide) (rfl) dL_law_872 dL_law_873 dL_law_875 dL_law_876 dL_law_877 ?_
      refine lq_arg (k := 4) (y := xs (i + 4)) hx hb hX hbl hbA hS hl 2 1 rfl rfl (show i + 4 < L by omega) (by omega) (by decide) (rfl) dL_law_878 dL_law_879 dL_law_881 dL_law_882 dL_law_883 ?_
      have hP := va_Psw hP
      have hD := va_Dsw hD
      refine q_wcallFI (wa' := (mW h2 ad2 cI cJ cZ td gc ex mpa di mu dc dg da dh dt dv dd ms ak se mr 1)) (wb := ((hW h ad cI cZ ex pa di qu gc dg dp dv dd ds dc td ho ak se pr) ++ [(ob, .inl (cJ, 1, .inr (.inl f)))])) (r := nI 0) (va_runV (As := [.int (xs (i + 1)), .int (xs (i + 2)), .int (xs (i + 3)), .int (xs (i + 4))]) (rest := []) ⟨hx, hb, hml, hown, hts⟩ (kX1_origin1 l D h2 ad2 cI cJ cZ td gc ex mpa di mu dc dg da dh dt dv dd ms ak se mr th _ (xs (i + 1)) (xs (i + 2)) (xs (i + 3)) (xs (i + 4)) hgc hxg (Or.inr ⟨g, hg, e1, he, Or.inl ha⟩)) (cwV 4 hts gL_law_X1_origin rfl rfl rfl (by decide +kernel) ⟨Nat.le_of_ble_eq_true rfl, Nat.le_of_ble_eq_true rfl⟩) ⟨wP_blind, va_recv hK (va_Pl hP) (ci := 1) (q0 := 0) rfl rfl, wP_pre (va_Pl hP) hK (va_Dl hD)⟩ rfl rfl hl.1 rfl (lv_room (Nat.le_of_ble_eq_true rfl)) dL_law_884 ⟨hrc, hrs⟩) hP hD hS hA rfl (fun H locs hP hD hS => ?_)
      refine lv_istore (lv' := [(6, .int (nI 0)), (5, .int (nI 1)), (4, .int (nI i)), (0, .ref b), (1, .ref h), (2, .ref h2), (3, .ref ob)]) hx hb dL_law_887 hl (by decide) rfl (fun ls hl => ?_)
      refine lv_aload_n hx hb dL_law_889 rfl (lv_at hl 5 rfl) ?_
      refine q_callI (r := nI 1) (va_runV (As := []) (rest := []) ⟨hx, hb, hml, hown, hts⟩ (kX1_thrown l D h2 ad2 cI cJ cZ td gc ex mpa di mu dc dg da dh dt dv dd ms ak se mr 1) (cwV 0 hts gL_law_X1_thrown rfl rfl rfl (by decide +kernel) ⟨Nat.le_of_ble_eq_true rfl, Nat.le_of_ble_eq_true rfl⟩) ⟨pP_blind, va_recv hK (va_Pl hP) (ci := 1) (q0 := 0) rfl rfl, pP_pre (va_Pl hP) hK⟩ rfl rfl hl.1 rfl (lv_room (Nat.le_of_ble_eq_true rfl)) dL_law_890 ⟨hrc, hrs⟩) ?_
      refine lv_iload hx hb dL_law_893 (lv_at hl 1 rfl) ?_
      refine lv_icmp_eq (tgt := 900) hx hb dL_law_895 (by decide) (fun _ => ?_) (fun z => absurd rfl z)
      refine lv_iload hx hb dL_law_900 (lv_at hl 1 rfl) ?_
      refine lv_if_ne (tgt := 917) hx hb dL_law_902 (by decide) (fun _ => ?_) (fun z => absurd z (by decide))
      have hP := va_Psw hP
      have hD := va_Dsw hD
      refine lv_goto (tgt := 1367) hx hb dL_law_917 (by decide) ?_
      exact K f lev ex pa mpa di qu mu gc dg dp da dh dt dv dd ds ms dc td ho ak se pr mr 1 H locs ls ⟨hT, hQ, hB, hSR, hPP, hPM, by omega, hmz⟩ hP hD hS (lv_sub hl [2, 3, 4, 5, 6] rfl)
    · rcases k_ix 3 (by decide) (xs (i + 3)) with hs | ⟨sp, hs, e3⟩
      · refine lv_aload_n hx hb dL_law_828 rfl (lv_at hl 2 rfl) ?_
        refine lq_arg (k := 1) (y := xs (i + 1)) hx hb hX hbl hbA hS hl 1 0 rfl rfl (show i + 1 < L by omega) (by omega) (by decide) (rfl) dL_law_829 dL_law_830 dL_law_832 dL_law_833 dL_law_834 ?_
        refine lq_arg (k := 2) (y := xs (i + 2)) hx hb hX hbl hbA hS hl 1 0 rfl rfl (show i + 2 < L by omega) (by omega) (by decide) (rfl) dL_law_835 dL_law_836 dL_law_838 dL_law_839 dL_law_840 ?_
        refine lq_arg (k := 3) (y := xs (i + 3)) hx hb hX hbl hbA hS hl 1 0 rfl rfl (show i + 3 < L by omega) (by omega) (by decide) (rfl) dL_law_841 dL_law_842 dL_law_844 dL_law_845 dL_law_846 ?_
        refine lq_arg (k := 4) (y := xs (i + 4)) hx hb hX hbl hbA hS hl 1 0 rfl rfl (show i + 4 < L by omega) (by omega) (by decide) (rfl) dL_law_847 dL_law_848 dL_law_850 dL_law_851 dL_law_852 ?_
        refine lv_aload_n hx hb dL_law_853 rfl (lv_at hl 4 rfl) ?_
        refine q_ecall (k := 1) (vx_runSW (As := [.ref h, .int (xs (i + 1)), .int (xs (i + 2)), .int (xs (i + 3)), .int (xs (i + 4)), .ref ob]) (rest := []) ⟨hx, hb, hml, hown, hts⟩ (kL_originXI l D h ad cI cZ ex pa di qu gc dg dp dv dd ds dc td ho ak se pr hlf ob (xs (i + 1)) (xs (i + 2)) (xs (i + 3)) (xs (i + 4)) (Or.inr ⟨g, hg, e1, he, Or.inr ⟨a, ha, e2, Or.inl hs⟩⟩)) (vx_cwSW 6 hts gL_law_L_origin rfl rfl rfl (by decide +kernel) ⟨Nat.le_of_ble_eq_true rfl, Nat.le_of_ble_eq_true rfl⟩) ⟨tN_blind, tN_pre (va_Pl (va_Pl hP)) (hK.sub [0, 1] rfl) (tEA_at hE hS) hN⟩ rfl rfl hl.1 rfl (lv_room (Nat.le_of_ble_eq_true rfl)) dL_law_854 ⟨hrc, hrs⟩) hP hS (fun H hP hS => ?_)
        refine lv_istore (lv' := [(5, .int (nI 1)), (4, .int (nI i)), (0, .ref b), (1, .ref h), (2, .ref h2), (3, .ref ob)]) hx hb dL_law_857 hl (by decide) rfl (fun ls hl => ?_)
        refine lv_aload_n hx hb dL_law_859 rfl (lv_at hl 4 rfl) ?_
        refine lq_arg (k := 1) (y := xs (i + 1)) hx hb hX hbl hbA hS hl 2 1 rfl rfl (show i + 1 < L by omega) (by omega) (by decide) (rfl) dL_law_860 dL_law_861 dL_law_863 dL_law_864 dL_law_865 ?_
        refine lq_arg (k := 2) (y := xs (i + 2)) hx hb hX hbl hbA hS hl 2 1 rfl rfl (show i + 2 < L by omega) (by omega) (by decide) (rfl) dL_law_866 dL_law_867 dL_law_869 dL_law_870 dL_law_871 ?_
        refine lq_arg (k := 3) (y := xs (i + 3)) hx hb hX hbl hbA hS hl 2 1 rfl rfl (show i + 3 < L by omega) (by omega) (by decide) (rfl) dL_law_872 dL_law_873 dL_law_875 dL_law_876 dL_law_877 ?_
        refine lq_arg (k := 4) (y := xs (i + 4)) hx hb hX hbl hbA hS hl 2 1 rfl rfl (show i + 4 < L by omega) (by omega) (by decide) (rfl) dL_law_878 dL_law_879 dL_law_881 dL_law_882 dL_law_883 ?_
        have hP := va_Psw hP
        have hD := va_Dsw hD
        refine q_wcallFI (wa' := (mW h2 ad2 cI cJ cZ td gc ex mpa di mu dc dg da dh dt dv dd ms ak se mr 1)) (wb := ((hW h ad cI cZ ex pa di qu gc dg dp dv dd ds dc td ho ak se pr) ++ [(ob, .inl (cJ, 1, .inr (.inl f)))])) (r := nI 0) (va_runV (As := [.int (xs (i + 1)), .int (xs (i + 2)), .int (xs (i + 3)), .int (xs (i + 4))]) (rest := []) ⟨hx, hb, hml, hown, hts⟩ (kX1_origin1 l D h2 ad2 cI cJ cZ td gc ex mpa di mu dc dg da dh dt dv dd ms ak se mr th _ (xs (i + 1)) (xs (i + 2)) (xs (i + 3)) (xs (i + 4)) hgc hxg (Or.inr ⟨g, hg, e1, he, Or.inr ⟨a, ha, e2, Or.inl hs⟩⟩)) (cwV 4 hts gL_law_X1_origin rfl rfl rfl (by decide +kernel) ⟨Nat.le_of_ble_eq_true rfl, Nat.le_of_ble_eq_true rfl⟩) ⟨wP_blind, va_recv hK (va_Pl hP) (ci := 1) (q0 := 0) rfl rfl, wP_pre (va_Pl hP) hK (va_Dl hD)⟩ rfl rfl hl.1 rfl (lv_room (Nat.le_of_ble_eq_true rfl)) dL_law_884 ⟨hrc, hrs⟩) hP hD hS hA rfl (fun H locs hP hD hS => ?_)
        refine lv_istore (lv' := [(6, .int (nI 0)), (5, .int (nI 1)), (4, .int (nI i)), (0, .ref b), (1, .ref h), (2, .ref h2), (3, .ref ob)]) hx hb dL_law_887 hl (by decide) rfl (fun ls hl => ?_)
        refine lv_aload_n hx hb dL_law_889 rfl (lv_at hl 5 rfl) ?_
        refine q_callI (r := nI 1) (va_runV (As := []) (rest := []) ⟨hx, hb, hml, hown, hts⟩ (kX1_thrown l D h2 ad2 cI cJ cZ td gc ex mpa di mu dc dg da dh dt dv dd ms ak se mr 1) (cwV 0 hts gL_law_X1_thrown rfl rfl rfl (by decide +kernel) ⟨Nat.le_of_ble_eq_true rfl, Nat.le_of_ble_eq_true rfl⟩) ⟨pP_blind, va_recv hK (va_Pl hP) (ci := 1) (q0 := 0) rfl rfl, pP_pre (va_Pl hP) hK⟩ rfl rfl hl.1 rfl (lv_room (Nat.le_of_ble_eq_true rfl)) dL_law_890 ⟨hrc, hrs⟩) ?_
        refine lv_iload hx hb dL_law_893 (lv_at hl 1 rfl) ?_
        refine lv_icmp_eq (tgt := 900) hx hb dL_law_895 (by decide) (fun _ => ?_) (fun z => absurd rfl z)
        refine lv_iload hx hb dL_law_900 (lv_at hl 1 rfl) ?_
        refine lv_if_ne (tgt := 917) hx hb dL_law_902 (by decide) (fun _ => ?_) (fun z => absurd z (by decide))
        have hP := va_Psw hP
        have hD := va_Dsw hD
        refine lv_goto (tgt := 1367) hx hb dL_law_917 (by decide) ?_
        exact K f lev ex pa mpa di qu mu gc dg dp da dh dt dv dd ds ms dc td ho ak se pr mr 1 H locs ls ⟨hT, hQ, hB, hSR, hPP, hPM, by omega, hmz⟩ hP hD hS (lv_sub hl [2, 3, 4, 5, 6] rfl)
      · rcases k_ix 3 (by decide) (xs (i + 4)) with ht | ⟨tp, ht, e4⟩
        · refine lv_aload_n hx hb dL_law_828 rfl (lv_at hl 2 rfl) ?_
          refine lq_arg (k := 1) (y := xs (i + 1)) hx hb hX hbl hbA hS hl 1 0 rfl rfl (show i + 1 < L by omega) (by omega) (by decide) (rfl) dL_law_829 dL_law_830 dL_law_832 dL_law_833 dL_law_834 ?_
          refine lq_arg (k := 2) (y := xs (i + 2)) hx hb hX hbl hbA hS hl 1 0 rfl rfl (show i + 2 < L by omega) (by omega) (by decide) (rfl) dL_law_835 dL_law_836 dL_law_838 dL_law_839 dL_law_840 ?_
          refine lq_arg (k := 3) (y := xs (i + 3)) hx hb hX hbl hbA hS hl 1 0 rfl rfl (show i + 3 < L by omega) (by omega) (by decide) (rfl) dL_law_841 dL_law_842 dL_law_844 dL_law_845 dL_law_846 ?_
          refine lq_arg (k := 4) (y := xs (i + 4)) hx hb hX hbl hbA hS hl 1 0 rfl rfl (show i + 4 < L by omega) (by omega) (by decide) (rfl) dL_law_847 dL_law_848 dL_law_850 dL_law_851 dL_law_852 ?_
          refine lv_aload_n hx hb dL_law_853 rfl (lv_at hl 4 rfl) ?_
          refine q_ecall (k := 1) (vx_runSW (As := [.ref h, .int (xs (i + 1)), .int (xs (i + 2)), .int (xs (i + 3)), .int (xs (i + 4)), .ref ob]) (rest := []) ⟨hx, hb, hml, hown, hts⟩ (kL_originXI l D h ad cI cZ ex pa di qu gc dg dp dv dd ds dc td ho ak se pr hlf ob (xs (i + 1)) (xs (i + 2)) (xs (i + 3)) (xs (i + 4)) (Or.inr ⟨g, hg, e1, he, Or.inr ⟨a, ha, e2, Or.inr ⟨sp, hs, e3, ht⟩⟩⟩)) (vx_cwSW 6 hts gL_law_L_origin rfl rfl rfl (by decide +kernel) ⟨Nat.le_of_ble_eq_true rfl, Nat.le_of_ble_eq_true rfl⟩) ⟨tN_blind, tN_pre (va_Pl (va_Pl hP)) (hK.sub [0, 1] rfl) (tEA_at hE hS) hN⟩ rfl rfl hl.1 rfl (lv_room (Nat.le_of_ble_eq_true rfl)) dL_law_854 ⟨hrc, hrs⟩) hP hS (fun H hP hS => ?_)
          refine lv_istore (lv' := [(5, .int (nI 1)), (4, .int (nI i)), (0, .ref b), (1, .ref h), (2, .ref h2), (3, .ref ob)]) hx hb dL_law_857 hl (by decide) rfl (fun ls hl => ?_)
          refine lv_aload_n hx hb dL_law_859 rfl (lv_at hl 4 rfl) ?_
          refine lq_arg (k := 1) (y := xs (i + 1)) hx hb hX hbl hbA hS hl 2 1 rfl rfl (show i + 1 < L by omega) (by omega) (by decide) (rfl) dL_law_860 dL_law_861 dL_law_863 dL_law_864 dL_law_865 ?_
          refine lq_arg (k := 2) (y := xs (i + 2)) hx hb hX hbl hbA hS hl 2 1 rfl rfl (show i + 2 < L by omega) (by omega) (by decide) (rfl) dL_law_866 dL_law_867 dL_law_869 dL_law_870 dL_law_871 ?_
          refine lq_arg (k := 3) (y := xs (i + 3)) hx hb hX hbl hbA hS hl 2 1 rfl rfl (show i + 3 < L by omega) (by omega) (by decide) (rfl) dL_law_872 dL_law_873 dL_law_875 dL_law_876 dL_law_877 ?_
          refine lq_arg (k := 4) (y := xs (i + 4)) hx hb hX hbl hbA hS hl 2 1 rfl rfl (show i + 4 < L by omega) (by omega) (by decide) (rfl) dL_law_878 dL_law_879 dL_law_881 dL_law_882 dL_law_883 ?_
          have hP := va_Psw hP
          have hD := va_Dsw hD
          refine q_wcallFI (wa' := (mW h2 ad2 cI cJ cZ td gc ex mpa di mu dc dg da dh dt dv dd ms ak se mr 1)) (wb := ((hW h ad cI cZ ex pa di qu gc dg dp dv dd ds dc td ho ak se pr) ++ [(ob, .inl (cJ, 1, .inr (.inl f)))])) (r := nI 0) (va_runV (As := [.int (xs (i + 1)), .int (xs (i + 2)), .int (xs (i + 3)), .int (xs (i + 4))]) (rest := []) ⟨hx, hb, hml, hown, hts⟩ (kX1_origin1 l D h2 ad2 cI cJ cZ td gc ex mpa di mu dc dg da dh dt dv dd ms ak se mr th _ (xs (i + 1)) (xs (i + 2)) (xs (i + 3)) (xs (i + 4)) hgc hxg (Or.inr ⟨g, hg, e1, he, Or.inr ⟨a, ha, e2, Or.inr ⟨sp, hs, e3, ht⟩⟩⟩)) (cwV 4 hts gL_law_X1_origin rfl rfl rfl (by decide +kernel) ⟨Nat.le_of_ble_eq_true rfl, Nat.le_of_ble_eq_true rfl⟩) ⟨wP_blind, va_recv hK (va_Pl hP) (ci := 1) (q0 := 0) rfl rfl, wP_pre (va_Pl hP) hK (va_Dl hD)⟩ rfl rfl hl.1 rfl (lv_room (Nat.le_of_ble_eq_true rfl)) dL_law_884 ⟨hrc, hrs⟩) hP hD hS hA rfl (fun H locs hP hD hS => ?_)
          refine lv_istore (lv' := [(6, .int (nI 0)), (5, .int (nI 1)), (4, .int (nI i)), (0, .ref b), (1, .ref h), (2, .ref h2), (3, .ref ob)]) hx hb dL_law_887 hl (by decide) rfl (fun ls hl => ?_)
          refine lv_aload_n hx hb dL_law_889 rfl (lv_at hl 5 rfl) ?_
          refine q_callI (r := nI 1) (va_runV (As := []) (rest := []) ⟨hx, hb, hml, hown, hts⟩ (kX1_thrown l D h2 ad2 cI cJ cZ td gc ex mpa di mu dc dg da dh dt dv dd ms ak se mr 1) (cwV 0 hts gL_law_X1_thrown rfl rfl rfl (by decide +kernel) ⟨Nat.le_of_ble_eq_true rfl, Nat.le_of_ble_eq_true rfl⟩) ⟨pP_blind, va_recv hK (va_Pl hP) (ci := 1) (q0 := 0) rfl rfl, pP_pre (va_Pl hP) hK⟩ rfl rfl hl.1 rfl (lv_room (Nat.le_of_ble_eq_true rfl)) dL_law_890 ⟨hrc, hrs⟩) ?_
          refine lv_iload hx hb dL_law_893 (lv_at hl 1 rfl) ?_
          refine lv_icmp_eq (tgt := 900) hx hb dL_law_895 (by decide) (fun _ => ?_) (fun z => absurd rfl z)
          refine lv_iload hx hb dL_law_900 (lv_at hl 1 rfl) ?_
          refine lv_if_ne (tgt := 917) hx hb dL_law_902 (by decide) (fun _ => ?_) (fun z => absurd z (by decide))
          have hP := va_Psw hP
          have hD := va_Dsw hD
          refine lv_goto (tgt := 1367) hx hb dL_law_917 (by decide) ?_
          exact K f lev ex pa mpa di qu mu gc dg dp da dh dt dv dd ds ms dc td ho ak se pr mr 1 H locs ls ⟨hT, hQ, hB, hSR, hPP, hPM, by omega, hmz⟩ hP hD hS (lv_sub hl [2, 3, 4, 5, 6] rfl)
        · have hoc := org_cong (ho := ho) (a := a) (sh := sp + 1) (to := tp + 1) hme hpr 3 (some g) (fun k e => by cases e; exact hg)
          refine lv_aload_n hx hb dL_law_828 rfl (lv_at hl 2 rfl) ?_
          refine lq_arg (k := 1) (y := nI g) hx hb hX hbl hbA hS hl 1 0 rfl rfl (show i + 1 < L by omega) (by omega) (by decide) (e1) dL_law_829 dL_law_830 dL_law_832 dL_law_833 dL_law_834 ?_
          refine lq_arg (k := 2) (y := nI a) hx hb hX hbl hbA hS hl 1 0 rfl rfl (show i + 2 < L by omega) (by omega) (by decide) (e2) dL_law_835 dL_law_836 dL_law_838 dL_law_839 dL_law_840 ?_
          refine lq_arg (k := 3) (y := nI sp) hx hb hX hbl hbA hS hl 1 0 rfl rfl (show i + 3 < L by omega) (by omega) (by decide) (e3) dL_law_841 dL_law_842 dL_law_844 dL_law_845 dL_law_846 ?_
          refine lq_arg (k := 4) (y := nI tp) hx hb hX hbl hbA hS hl 1 0 rfl rfl (show i + 4 < L by omega) (by omega) (by decide) (e4) dL_law_847 dL_law_848 dL_law_850 dL_law_851 dL_law_852 ?_
          refine lv_aload_n hx hb dL_law_853 rfl (lv_at hl 4 rfl) ?_
          refine q_wcallFI (wa' := ((hW h ad cI cZ ex pa di qu gc dg dp dv dd ds dc td ho ak se pr) ++ [(ob, .inl (cJ, 1, .inr (.inl (vp_updL f 0 (oL (org ex pa ho a (sp + 1) (tp + 1) 3 (some g)))))))])) (wb := (mW h2 ad2 cI cJ cZ td gc ex mpa di mu dc dg da dh dt dv dd ms ak se mr th)) (r := nI 0) (vx_runSW (As := [.ref h, .int (nI g), .int (nI a), .int (nI sp), .int (nI tp), .ref ob]) (rest := []) ⟨hx, hb, hml, hown, hts⟩ (kL_origin l D h ad cI cZ ex pa di qu gc dg dp dv dd ds dc td ho ak se pr cJ ob f _ g a sp tp hg ha hs ht he hpr hHO hdc (fun k e => by have := org_in hHO hpr ha (show sp + 1 < 4 by omega) (show tp + 1 < 4 by omega) 3 (some g) (fun k e => by cases e; exact hg) k e; omega)) (vx_cwSW 6 hts gL_law_L_origin rfl rfl rfl (by decide +kernel) ⟨Nat.le_of_ble_eq_true rfl, Nat.le_of_ble_eq_true rfl⟩) ⟨wP_blind, wP_pre (va_Pl hP) hK (va_Dl hD)⟩ rfl rfl hl.1 rfl (lv_room (Nat.le_of_ble_eq_true rfl)) dL_law_854 ⟨hrc0, hrs0⟩) hP hD hS hA rfl (fun H locs hP hD hS => ?_)
          refine lv_istore (lv' := [(5, .int (nI 0)), (4, .int (nI i)), (0, .ref b), (1, .ref h), (2, .ref h2), (3, .ref ob)]) hx hb dL_law_857 hl (by decide) rfl (fun ls hl => ?_)
          refine lv_aload_n hx hb dL_law_859 rfl (lv_at hl 4 rfl) ?_
          refine lq_arg (k := 1) (y := nI g) hx hb hX hbl hbA hS hl 2 1 rfl rfl (show i + 1 < L by omega) (by omega) (by decide) (e1) dL_law_860 dL_law_861 dL_law_863 dL_law_864 dL_law_865 ?_
          refine lq_arg (k := 2) (y := nI a) hx hb hX hbl hbA hS hl 2 1 rfl rfl (show i + 2 < L by omega) (by omega) (by decide) (e2) dL_law_866 dL_law_867 dL_law_869 dL_law_870 dL_law_871 ?_
          refine lq_arg (k := 3) (y := nI sp) hx hb hX hbl hbA hS hl 2 1 rfl rfl (show i + 3 < L by omega) (by omega) (by decide) (e3) dL_law_872 dL_law_873 dL_law_875 dL_law_876 dL_law_877 ?_
          refine lq_arg (k := 4) (y := nI tp) hx hb hX hbl hbA hS hl 2 1 rfl rfl (show i + 4 < L by omega) (by omega) (by decide) (e4) dL_law_878 dL_law_879 dL_law_881 dL_law_882 dL_law_883 ?_
          have hP := va_Psw hP
          have hD := va_Dsw hD
          refine q_wcallFI (wa' := (mW h2 ad2 cI cJ cZ td gc ex mpa di mu dc dg da dh dt dv dd ms ak se mr 0)) (wb := ((hW h ad cI cZ ex pa di qu gc dg dp dv dd ds dc td ho ak se pr) ++ [(ob, .inl (cJ, 1, .inr (.inl (vp_updL f 0 (oL (org ex pa ho a (sp + 1) (tp + 1) 3 (some g)))))))])) (r := oI (org ex mpa ho a (sp + 1) (tp + 1) 3 (some g))) (va_runV (As := [.int (nI g), .int (nI a), .int (nI sp), .int (nI tp)]) (rest := []) ⟨hx, hb, hml, hown, hts⟩ (kX1_origin l D h2 ad2 cI cJ cZ td gc ex mpa di mu dc dg da dh dt dv dd ms ak se mr th _ ho lev g a sp tp htim hg he ha hs ht hgc hxg hrd hRH hmpr hHO) (cwV 4 hts gL_law_X1_origin rfl rfl rfl (by decide +kernel) ⟨Nat.le_of_ble_eq_true rfl, Nat.le_of_ble_eq_true rfl⟩) ⟨wP_blind, va_recv hK (va_Pl hP) (ci := 1) (q0 := 0) rfl rfl, wP_pre (va_Pl hP) hK (va_Dl hD)⟩ rfl rfl hl.1 rfl (lv_room (Nat.le_of_ble_eq_true rfl)) dL_law_884 ⟨hrc0, hrs0⟩) hP hD hS hA rfl (fun H locs hP hD hS => ?_)
          refine lv_istore (lv' := [(6, .int (oI (org ex mpa ho a (sp + 1) (tp + 1) 3 (some g)))), (5, .int (nI 0)), (4, .int (nI i)), (0, .ref b), (1, .ref h), (2, .ref h2), (3, .ref ob)]) hx hb dL_law_887 hl (by decide) rfl (fun ls hl => ?_)
          refine lv_aload_n hx hb dL_law_889 rfl (lv_at hl 5 rfl) ?_
          refine q_callI (r := nI 0) (va_runV (As := []) (rest := []) ⟨hx, hb, hml, hown, hts⟩ (kX1_thrown l D h2 ad2 cI cJ cZ td gc ex mpa di mu dc dg da dh dt dv dd ms ak se mr 0) (cwV 0 hts gL_law_X1_thrown rfl rfl rfl (by decide +kernel) ⟨Nat.le_of_ble_eq_true rfl, Nat.le_of_ble_eq_true rfl⟩) ⟨pP_blind, va_recv hK (va_Pl hP) (ci := 1) (q0 := 0) rfl rfl, pP_pre (va_Pl hP) hK⟩ rfl rfl hl.1 rfl (lv_room (Nat.le_of_ble_eq_true rfl)) dL_law_890 ⟨hrc0, hrs0⟩) ?_
          refine lv_iload hx hb dL_law_893 (lv_at hl 1 rfl) ?_
          refine lv_icmp_eq (tgt := 900) hx hb dL_law_895 (by decide) (fun _ => ?_) (fun z => absurd rfl z)
          refine lv_iload hx hb dL_law_900 (lv_at hl 1 rfl) ?_
          refine lv_if_ne (tgt := 917) hx hb dL_law_902 (by decide) (fun z => absurd (by decide) z) (fun _ => ?_)
          refine lv_aload_n hx hb dL_law_905 rfl (lv_at hl 6 rfl) ?_
          refine lv_iconst (v := nI 0) hx hb dL_law_906 (by decide) ?_
          refine va_lald hx hb hK (va_Pr hP) 14 2 rfl rfl (vp_in_nI (by decide) (by decide)) dL_law_907 ?_
          refine q_topL (y := (oL (org ex pa ho a (sp + 1) (tp + 1) 3 (some g)))) vpU ?_
          refine lv_iload hx hb dL_law_908 (lv_at hl 0 rfl) ?_
          refine lv_i2l (v := (oL (org ex pa ho a (sp + 1) (tp + 1) 3 (some g)))) hx hb dL_law_910 (by rw [hoc]; exact oI_l (fun k e => by have := org_in hHO hpr ha (show sp + 1 < 4 by omega) (show tp + 1 < 4 by omega) 3 (some g) (fun k e => by cases e; exact hg) k e; omega)) ?_
          refine W.lcmp hx hb dL_law_911 ?_
          refine lv_if_eq (tgt := 917) hx hb dL_law_912 (by decide) (fun _ => ?_) (fun z => absurd ((lg_cmp_eq _ _).mpr rfl) z)
          have hP := va_Psw hP
          have hD := va_Dsw hD
          refine lv_goto (tgt := 1367) hx hb dL_law_917 (by decide) ?_
          refine W.widen (k := cells + 1) (n := slots + 6) (by omega) (by omega) ?_
          exact K (vp_updL f 0 (oL (org ex pa ho a (sp + 1) (tp + 1) 3 (some g)))) lev ex pa mpa di qu mu gc dg dp da dh dt dv dd ds ms dc td ho ak se pr mr 0 H locs ls ⟨hT, hQ, hB, hSR, hPP, hPM, by omega, hmz⟩ hP hD hS (lv_sub hl [2, 3, 4, 5, 6] rfl)

set_option maxHeartbeats 8000000 in
set_option maxRecDepth 100000 in
theorem lc_told {p : Program} {l : Launch} {e : Env} {s : State} {m : MethodId} {below : List Frame} {meth : Method} {c : Code} {b L : Nat} {xs : Nat → Int32} {D : va_G} {cI cJ cZ : ClassId} {h : Nat} {ad : Nat → Nat} {h2 : Nat} {ad2 : Nat → Nat} {ob : Nat} (X0 : LCX p s m meth c b L xs D cI cJ cZ) (hlf : l.stackTraces = false) {i n cells slots : Nat} (hi : i + 7 ≤ L) (hL : L ≤ 3584) (hn : n ≤ 512) (hrc : cells + 1 ≤ 1078) (hrs : slots + 6 ≤ 14711) (K : LK p l e s m below meth c b D cI cJ cZ h ad h2 ad2 ob i (cells + 1) (slots + 6) (n + 1))
    (f : Nat → Int64) (lev : Nat → Nat) (ex : Nat → Bool) (pa mpa : Nat → Option Nat) (di qu mu : Nat → Nat) (gc : Nat) (dg dp da : Nat → Nat) (dh dt dv : Nat → Option Nat) (dd ds ms : Nat → Nat) (dc td : Nat) (ho : Nat → Option Nat) (ak : Nat → Bool) (se pr mr : Nat → Option Nat) (th : Nat) (hI : LI n lev ex pa mpa di qu mu gc dg dp da dh dt dv dd ds ms dc td ho se pr mr) (H : Heap) (locs : List Loc) (hP : va_P D vwCl (((hW h ad cI cZ ex pa di qu gc dg dp dv dd ds dc td ho ak se pr) ++ [(ob, .inl (cJ, 1, .inr (.inl f)))]) ++ (mW h2 ad2 cI cJ cZ td gc ex mpa di mu dc dg da dh dt dv dd ms ak se mr th)) H) (hD : va_D (fun q : Nat => s.heap.size ≤ q) (((hW h ad cI cZ ex pa di qu gc dg dp dv dd ds dc td ho ak se pr) ++ [(ob, .inl (cJ, 1, .inr (.inl f)))]) ++ (mW h2 ad2 cI cJ cZ td gc ex mpa di mu dc dg da dh dt dv dd ms ak se mr th))) (hS : va_S (fun q : Nat => s.heap.size ≤ q) s.heap H locs) (ls : Array Slot) (hl : lv_has ls 7 [(4, .int (nI i)), (0, .ref b), (1, .ref h), (2, .ref h2), (3, .ref ob)]) : W p l e room_1 s m #[Value.ref b] below meth c H locs cells slots (lw_Z below #[Value.ref b] s) (F0 m 920 ls []) := by
  obtain ⟨C0, hK, hE, hN⟩ := X0
  obtain ⟨hx, hb, hr, hml, hown, hts0, hX, hbl, hlocks, -⟩ := id C0
  have hts : ∀ w ∈ wsL_law, w.before #[Value.ref b] s = true := fun w hw => hts0 w (wsL_law_in w hw)
  have hA : ∀ q : Nat, s.heap.size ≤ q → (fun q : Nat => s.heap.size ≤ q) q := fun _ h => h
  have hbA : ¬ (fun q : Nat => s.heap.size ≤ q) b := Nat.not_le.mpr hbl
  have hrc0 : cells ≤ 1078 := by omega
  have hrs0 : slots ≤ 14711 := by omega
  obtain ⟨hT, hQ, hB, hSR, hPP, hPM, htd, hmz⟩ := hI
  obtain ⟨hti, hme, hpr, hmpr, hpn, hgc, hxg⟩ := id hT
  have htim : TI ex mpa lev := TI_cong hme hti
  obtain ⟨hdi, hqu, hmu, hPT, hmu0⟩ := id hQ
  obtain ⟨hrd, hDR, hds, hho, hdv, hdgc⟩ := id hB
  have hHO := BR_HO hB
  have hRH := BR_RH hB
  have hdp := BR_dp hB
  obtain ⟨hdc, htdl, hdg, hda, hdh, hdt, hdd, hms2⟩ := id hrd
  rcases k_good ex (xs (i + 1)) with hg | ⟨g, hg, e1, he⟩
  · refine lv_aload_n hx hb dL_law_920 rfl (lv_at hl 2 rfl) ?_
    refine lq_arg (k := 1) (y := xs (i + 1)) hx hb hX hbl hbA hS hl 1 0 rfl rfl (show i + 1 < L by omega) (by omega) (by decide) (rfl) dL_law_921 dL_law_922 dL_law_924 dL_law_925 dL_law_926 ?_
    refine lv_aload_n hx hb dL_law_927 rfl (lv_at hl 4 rfl) ?_
    refine q_ecall (k := 1) (vx_runSW (As := [.ref h, .int (xs (i + 1)), .ref ob]) (rest := []) ⟨hx, hb, hml, hown, hts⟩ (kL_toldXI l D h ad cI cZ ex pa di qu gc dg dp dv dd ds dc td ho ak se pr hlf ob (xs (i + 1)) hg) (vx_cwSW 3 hts gL_law_L_told rfl rfl rfl (by decide +kernel) ⟨Nat.le_of_ble_eq_true rfl, Nat.le_of_ble_eq_true rfl⟩) ⟨tN_blind, tN_pre (va_Pl (va_Pl hP)) (hK.sub [0, 1] rfl) (tEA_at hE hS) hN⟩ rfl rfl hl.1 rfl (lv_room (Nat.le_of_ble_eq_true rfl)) dL_law_928 ⟨hrc, hrs⟩) hP hS (fun H hP hS => ?_)
    refine lv_istore (lv' := [(5, .int (nI 1)), (4, .int (nI i)), (0, .ref b), (1, .ref h), (2, .ref h2), (3, .ref ob)]) hx hb dL_law_931 hl (by decide) rfl (fun ls hl => ?_)
    refine lv_aload_n hx hb dL_law_933 rfl (lv_at hl 4 rfl) ?_
    refine lq_arg (k := 1) (y := xs (i + 1)) hx hb hX hbl hbA hS hl 2 1 rfl rfl (show i + 1 < L by omega) (by omega) (by decide) (rfl) dL_law_934 dL_law_935 dL_law_937 dL_law_938 dL_law_939 ?_
    have hP := va_Psw hP
    have hD := va_Dsw hD
    refine q_wcallFI (wa' := (mW h2 ad2 cI cJ cZ td gc ex mpa di mu dc dg da dh dt dv dd ms ak se mr 1)) (wb := ((hW h ad cI cZ ex pa di qu gc dg dp dv dd ds dc td ho ak se pr) ++ [(ob, .inl (cJ, 1, .inr (.inl f)))])) (r := nI 0) (va_runV (As := [.int (xs (i + 1))]) (rest := []) ⟨hx, hb, hml, hown, hts⟩ (kX1_told1 l D h2 ad2 cI cJ cZ td gc ex mpa di mu dc dg da dh dt dv dd ms ak se mr th _ (xs (i + 1)) hgc hxg hg) (cwV 1 hts gL_law_X1_told rfl rfl rfl (by decide +kernel) ⟨Nat.le_of_ble_eq_true rfl, Nat.le_of_ble_eq_true rfl⟩) ⟨wP_blind, va_recv hK (va_Pl hP) (ci := 1) (q0 := 0) rfl rfl, wP_pre (va_Pl hP) hK (va_Dl hD)⟩ rfl rfl hl.1 rfl (lv_room (Nat.le_of_ble_eq_true rfl)) dL_law_940 ⟨hrc, hrs⟩) hP hD hS hA rfl (fun H locs hP hD hS => ?_)
    refine lv_istore (lv' := [(6, .int (nI 0)), (5, .int (nI 1)), (4, .int (nI i)), (0, .ref b), (1, .ref h), (2, .ref h2), (3, .ref ob)]) hx hb dL_law_943 hl (by decide) rfl (fun ls hl => ?_)
    refine lv_aload_n hx hb dL_law_945 rfl (lv_at hl 5 rfl) ?_
    refine q_callI (r := nI 1) (va_runV (As := []) (rest := []) ⟨hx, hb, hml, hown, hts⟩ (kX1_thrown l D h2 ad2 cI cJ cZ td gc ex mpa di mu dc dg da dh dt dv dd ms ak se mr 1) (cwV 0 hts gL_law_X1_thrown rfl rfl rfl (by decide +kernel) ⟨Nat.le_of_ble_eq_true rfl, Nat.le_of_ble_eq_true rfl⟩) ⟨pP_blind, va_recv hK (va_Pl hP) (ci := 1) (q0 := 0) rfl rfl, pP_pre (va_Pl hP) hK⟩ rfl rfl hl.1 rfl (lv_room (Nat.le_of_ble_eq_true rfl)) dL_law_946 ⟨hrc, hrs⟩) ?_
    refine lv_iload hx hb dL_law_949 (lv_at hl 1 rfl) ?_
    refine lv_icmp_eq (tgt := 956) hx hb dL_law_951 (by decide) (fun _ => ?_) (fun z => absurd rfl z)
    refine lv_iload hx hb dL_law_956 (lv_at hl 1 rfl) ?_
    refine lv_if_ne (tgt := 973) hx hb dL_law_958 (by decide) (fun _ => ?_) (fun z => absurd z (by decide))
    have hP := va_Psw hP
    have hD := va_Dsw hD
    refine lv_goto (tgt := 1367) hx hb dL_law_973 (by decide) ?_
    exact K f lev ex pa mpa di qu mu gc dg dp da dh dt dv dd ds ms dc td ho ak se pr mr 1 H locs ls ⟨hT, hQ, hB, hSR, hPP, hPM, by omega, hmz⟩ hP hD hS (lv_sub hl [2, 3, 4, 5, 6] rfl)
  · have hct : cnt (fun j => decide (ho (g * 96 + j) ≠ none)) 96 < 2147483648 := Nat.lt_of_le_of_lt (cnt_le _ _) (by decide)
    refine lv_aload_n hx hb dL_law_920 rfl (lv_at hl 2 rfl) ?_
    refine lq_arg (k := 1) (y := nI g) hx hb hX hbl hbA hS hl 1 0 rfl rfl (show i + 1 < L by omega) (by omega) (by decide) (e1) dL_law_921 dL_law_922 dL_law_924 dL_law_925 dL_law_926 ?_
    refine lv_aload_n hx hb dL_law_927 rfl (lv_at hl 4 rfl) ?_
    refine q_wcallFI (wa' := ((hW h ad cI cZ ex pa di qu gc dg dp dv dd ds dc td ho ak se pr) ++ [(ob, .inl (cJ, 1, .inr (.inl (vp_updL f 0 (lN (cnt (fun j => decide (ho (g * 96 + j) ≠ none)) 96))))))])) (wb := (mW h2 ad2 cI cJ cZ td gc ex mpa di mu dc dg da dh dt dv dd ms ak se mr th)) (r := nI 0) (vx_runSW (As := [.ref h, .int (nI g), .ref ob]) (rest := []) ⟨hx, hb, hml, hown, hts⟩ (kL_told l D h ad cI cZ ex pa di qu gc dg dp dv dd ds dc td ho ak se pr cJ ob f _ g hg he hHO hdc hct) (vx_cwSW 3 hts gL_law_L_told rfl rfl rfl (by decide +kernel) ⟨Nat.le_of_ble_eq_true rfl, Nat.le_of_ble_eq_true rfl⟩) ⟨wP_blind, wP_pre (va_Pl hP) hK (va_Dl hD)⟩ rfl rfl hl.1 rfl (lv_room (Nat.le_of_ble_eq_true rfl)) dL_law_928 ⟨hrc0, hrs0⟩) hP hD hS hA rfl (fun H locs hP hD hS => ?_)
    refine lv_istore (lv' := [(5, .int (nI 0)), (4, .int (nI i)), (0, .ref b), (1, .ref h), (2, .ref h2), (3, .ref ob)]) hx hb dL_law_931 hl (by decide) rfl (fun ls hl => ?_)
    refine lv_aload_n hx hb dL_law_933 rfl (lv_at hl 4 rfl) ?_
    refine lq_arg (k := 1) (y := nI g) hx hb hX hbl hbA hS hl 2 1 rfl rfl (show i + 1 < L by omega) (by omega) (by decide) (e1) dL_law_934 dL_law_935 dL_law_937 dL_law_938 dL_law_939 ?_
    have hP := va_Psw hP
    have hD := va_Dsw hD
    refine q_wcallFI (wa' := (mW h2 ad2 cI cJ cZ td gc ex mpa di mu dc dg da dh dt dv dd ms ak se mr 0)) (wb := ((hW h ad cI cZ ex pa di qu gc dg dp dv dd ds dc td ho ak se pr) ++ [(ob, .inl (cJ, 1, .inr (.inl (vp_updL f 0 (lN (cnt (fun j => decide (ho (g * 96 + j) ≠ none)) 96))))))])) (r := nI (cnt (fun k => decide (dg k = g) && decide (bst (rdf dg da dh dt ms dd td (dg k) (da k) (dh k) (dt k)) dd dc = some k)) dc)) (va_runV (As := [.int (nI g)]) (rest := []) ⟨hx, hb, hml, hown, hts⟩ (kX1_told l D h2 ad2 cI cJ cZ td gc ex mpa di mu dc dg da dh dt dv dd ms ak se mr th _ g hg he hgc hxg hrd) (cwV 1 hts gL_law_X1_told rfl rfl rfl (by decide +kernel) ⟨Nat.le_of_ble_eq_true rfl, Nat.le_of_ble_eq_true rfl⟩) ⟨wP_blind, va_recv hK (va_Pl hP) (ci := 1) (q0 := 0) rfl rfl, wP_pre (va_Pl hP) hK (va_Dl hD)⟩ rfl rfl hl.1 rfl (lv_room (Nat.le_of_ble_eq_true rfl)) dL_law_940 ⟨hrc0, hrs0⟩) hP hD hS hA rfl (fun H locs hP hD hS => ?_)
    refine lv_istore (lv' := [(6, .int (nI (cnt (fun k => decide (dg k = g) && decide (bst (rdf dg da dh dt ms dd td (dg k) (da k) (dh k) (dt k)) dd dc = some k)) dc))), (5, .int (nI 0)), (4, .int (nI i)), (0, .ref b), (1, .ref h), (2, .ref h2), (3, .ref ob)]) hx hb dL_law_943 hl (by decide) rfl (fun ls hl => ?_)
    refine lv_aload_n hx hb dL_law_945 rfl (lv_at hl 5 rfl) ?_
    refine q_callI (r := nI 0) (va_runV (As := []) (rest := []) ⟨hx, hb, hml, hown, hts⟩ (kX1_thrown l D h2 ad2 cI cJ cZ td gc ex mpa di mu dc dg da dh dt dv dd ms ak se mr 0) (cwV 0 hts gL_law_X1_thrown rfl rfl rfl (by decide +kernel) ⟨Nat.le_of_ble_eq_true rfl, Nat.le_of_ble_eq_true rfl⟩) ⟨pP_blind, va_recv hK (va_Pl hP) (ci := 1) (q0 := 0) rfl rfl, pP_pre (va_Pl hP) hK⟩ rfl rfl hl.1 rfl (lv_room (Nat.le_of_ble_eq_true rfl)) dL_law_946 ⟨hrc0, hrs0⟩) ?_
    refine lv_iload hx hb dL_law_949 (lv_at hl 1 rfl) ?_
    refine lv_icmp_eq (tgt := 956) hx hb dL_law_951 (by decide) (fun _ => ?_) (fun z => absurd rfl z)
    refine lv_iload hx hb dL_law_956 (lv_at hl 1 rfl) ?_
    refine lv_if_ne (tgt := 973) hx hb dL_law_958 (by decide) (fun z => absurd (by decide) z) (fun _ => ?_)
    refine lv_aload_n hx hb dL_law_961 rfl (lv_at hl 6 rfl) ?_
    refine lv_iconst (v := nI 0) hx hb dL_law_962 (by decide) ?_
    refine va_lald hx hb hK (va_Pr hP) 14 2 rfl rfl (vp_in_nI (by decide) (by decide)) dL_law_963 ?_
    refine q_topL (y := (lN (cnt (fun j => decide (ho (g * 96 + j) ≠ none)) 96))) vpU ?_
    refine lv_iload hx hb dL_law_964 (lv_at hl 0 rfl) ?_
    refine lv_i2l (v := (lN (cnt (fun j => decide (ho (g * 96 + j) ≠ none)) 96))) hx hb dL_law_966 (by rw [← told_eq hDR hrd hho hg he]; exact nI_l hct) ?_
    refine W.lcmp hx hb dL_law_967 ?_
    refine lv_if_eq (tgt := 973) hx hb dL_law_968 (by decide) (fun _ => ?_) (fun z => absurd ((lg_cmp_eq _ _).mpr rfl) z)
    have hP := va_Psw hP
    have hD := va_Dsw hD
    refine lv_goto (tgt := 1367) hx hb dL_law_973 (by decide) ?_
    refine W.widen (k := cells + 1) (n := slots + 6) (by omega) (by omega) ?_
    exact K (vp_updL f 0 (lN (cnt (fun j => decide (ho (g * 96 + j) ≠ none)) 96))) lev ex pa mpa di qu mu gc dg dp da dh dt dv dd ds ms dc td ho ak se pr mr 0 H locs ls ⟨hT, hQ, hB, hSR, hPP, hPM, by omega, hmz⟩ hP hD hS (lv_sub hl [2, 3, 4, 5, 6] rfl)

set_option maxHeartbeats 8000000 in
set_option maxRecDepth 100000 in
theorem lc_toggleAsked {p : Program} {l : Launch} {e : Env} {s : State} {m : MethodId} {below : List Frame} {meth : Method} {c : Code} {b L : Nat} {xs : Nat → Int32} {D : va_G} {cI cJ cZ : ClassId} {h : Nat} {ad : Nat → Nat} {h2 : Nat} {ad2 : Nat → Nat} {ob : Nat} (X0 : LCX p s m meth c b L xs D cI cJ cZ) (hlf : l.stackTraces = false) {i n cells slots : Nat} (hi : i + 7 ≤ L) (hL : L ≤ 3584) (hn : n ≤ 512) (hrc : cells + 1 ≤ 1078) (hrs : slots + 6 ≤ 14711) (K : LK p l e s m below meth c b D cI cJ cZ h ad h2 ad2 ob i (cells + 1) (slots + 6) (n + 1))
    (f : Nat → Int64) (lev : Nat → Nat) (ex : Nat → Bool) (pa mpa : Nat → Option Nat) (di qu mu : Nat → Nat) (gc : Nat) (dg dp da : Nat → Nat) (dh dt dv : Nat → Option Nat) (dd ds ms : Nat → Nat) (dc td : Nat) (ho : Nat → Option Nat) (ak : Nat → Bool) (se pr mr : Nat → Option Nat) (th : Nat) (hI : LI n lev ex pa mpa di qu mu gc dg dp da dh dt dv dd ds ms dc td ho se pr mr) (H : Heap) (locs : List Loc) (hP : va_P D vwCl (((hW h ad cI cZ ex pa di qu gc dg dp dv dd ds dc td ho ak se pr) ++ [(ob, .inl (cJ, 1, .inr (.inl f)))]) ++ (mW h2 ad2 cI cJ cZ td gc ex mpa di mu dc dg da dh dt dv dd ms ak se mr th)) H) (hD : va_D (fun q : Nat => s.heap.size ≤ q) (((hW h ad cI cZ ex pa di qu gc dg dp dv dd ds dc td ho ak se pr) ++ [(ob, .inl (cJ, 1, .inr (.inl f)))]) ++ (mW h2 ad2 cI cJ cZ td gc ex mpa di mu dc dg da dh dt dv dd ms ak se mr th))) (hS : va_S (fun q : Nat => s.heap.size ≤ q) s.heap H locs) (ls : Array Slot) (hl : lv_has ls 7 [(4, .int (nI i)), (0, .ref b), (1, .ref h), (2, .ref h2), (3, .ref ob)]) : W p l e room_1 s m #[Value.ref b] below meth c H locs cells slots (lw_Z below #[Value.ref b] s) (F0 m 976 ls []) := by
  obtain ⟨C0, hK, hE, hN⟩ := X0
  obtain ⟨hx, hb, hr, hml, hown, hts0, hX, hbl, hlocks, -⟩ := id C0
  have hts : ∀ w ∈ wsL_law, w.before #[Value.ref b] s = true := fun w hw => hts0 w (wsL_law_in w hw)
  have hA : ∀ q : Nat, s.heap.size ≤ q → (fun q : Nat => s.heap.size ≤ q) q := fun _ h => h
  have hbA : ¬ (fun q : Nat => s.heap.size ≤ q) b := Nat.not_le.mpr hbl
  have hrc0 : cells ≤ 1078 := by omega
  have hrs0 : slots ≤ 14711 := by omega
  obtain ⟨hT, hQ, hB, hSR, hPP, hPM, htd, hmz⟩ := hI
  obtain ⟨hti, hme, hpr, hmpr, hpn, hgc, hxg⟩ := id hT
  have htim : TI ex mpa lev := TI_cong hme hti
  obtain ⟨hdi, hqu, hmu, hPT, hmu0⟩ := id hQ
  obtain ⟨hrd, hDR, hds, hho, hdv, hdgc⟩ := id hB
  have hHO := BR_HO hB
  have hRH := BR_RH hB
  have hdp := BR_dp hB
  obtain ⟨hdc, htdl, hdg, hda, hdh, hdt, hdd, hms2⟩ := id hrd
  rcases k_ix 3 (by decide) (xs (i + 1)) with hs | ⟨sp, hs, e1⟩
  · refine lv_aload_n hx hb dL_law_976 rfl (lv_at hl 2 rfl) ?_
    refine lq_arg (k := 1) (y := xs (i + 1)) hx hb hX hbl hbA hS hl 1 0 rfl rfl (show i + 1 < L by omega) (by omega) (by decide) (rfl) dL_law_977 dL_law_978 dL_law_980 dL_law_981 dL_law_982 ?_
    refine lq_arg (k := 2) (y := xs (i + 2)) hx hb hX hbl hbA hS hl 1 0 rfl rfl (show i + 2 < L by omega) (by omega) (by decide) (rfl) dL_law_983 dL_law_984 dL_law_986 dL_law_987 dL_law_988 ?_
    refine lv_aload_n hx hb dL_law_989 rfl (lv_at hl 4 rfl) ?_
    refine q_ecall (k := 1) (vx_runSW (As := [.ref h, .int (xs (i + 1)), .int (xs (i + 2)), .ref ob]) (rest := []) ⟨hx, hb, hml, hown, hts⟩ (kL_toggleAskedXI l D h ad cI cZ ex pa di qu gc dg dp dv dd ds dc td ho ak se pr hlf ob (xs (i + 1)) (xs (i + 2)) (Or.inl hs)) (vx_cwSW 4 hts gL_law_L_toggleAsked rfl rfl rfl (by decide +kernel) ⟨Nat.le_of_ble_eq_true rfl, Nat.le_of_ble_eq_true rfl⟩) ⟨tN_blind, tN_pre (va_Pl (va_Pl hP)) (hK.sub [0, 1] rfl) (tEA_at hE hS) hN⟩ rfl rfl hl.1 rfl (lv_room (Nat.le_of_ble_eq_true rfl)) dL_law_990 ⟨hrc, hrs⟩) hP hS (fun H hP hS => ?_)
    refine lv_istore (lv' := [(5, .int (nI 1)), (4, .int (nI i)), (0, .ref b), (1, .ref h), (2, .ref h2), (3, .ref ob)]) hx hb dL_law_993 hl (by decide) rfl (fun ls hl => ?_)
    refine lv_aload_n hx hb dL_law_995 rfl (lv_at hl 4 rfl) ?_
    refine lq_arg (k := 1) (y := xs (i + 1)) hx hb hX hbl hbA hS hl 2 1 rfl rfl (show i + 1 < L by omega) (by omega) (by decide) (rfl) dL_law_996 dL_law_997 dL_law_999 dL_law_1000 dL_law_1001 ?_
    refine lq_arg (k := 2) (y := xs (i + 2)) hx hb hX hbl hbA hS hl 2 1 rfl rfl (show i + 2 < L by omega) (by omega) (by decide) (rfl) dL_law_1002 dL_law_1003 dL_law_1005 dL_law_1006 dL_law_1007 ?_
    have hP := va_Psw hP
    have hD := va_Dsw hD
    refine q_wcallFI (wa' := (mW h2 ad2 cI cJ cZ td gc ex mpa di mu dc dg da dh dt dv dd ms ak se mr 1)) (wb := ((hW h ad cI cZ ex pa di qu gc dg dp dv dd ds dc td ho ak se pr) ++ [(ob, .inl (cJ, 1, .inr (.inl f)))])) (r := bI false) (va_runV (As := [.int (xs (i + 1)), .int (xs (i + 2))]) (rest := []) ⟨hx, hb, hml, hown, hts⟩ (kX1_toggleAsked1 l D h2 ad2 cI cJ cZ td gc ex mpa di mu dc dg da dh dt dv dd ms ak se mr th _ (xs (i + 1)) (xs (i + 2)) (Or.inl hs)) (cwV 2 hts gL_law_X1_toggleAsked rfl rfl rfl (by decide +kernel) ⟨Nat.le_of_ble_eq_true rfl, Nat.le_of_ble_eq_true rfl⟩) ⟨wP_blind, va_recv hK (va_Pl hP) (ci := 1) (q0 := 0) rfl rfl, wP_pre (va_Pl hP) hK (va_Dl hD)⟩ rfl rfl hl.1 rfl (lv_room (Nat.le_of_ble_eq_true rfl)) dL_law_1008 ⟨hrc, hrs⟩) hP hD hS hA rfl (fun H locs hP hD hS => ?_)
    refine lv_istore (lv' := [(6, .int (bI false)), (5, .int (nI 1)), (4, .int (nI i)), (0, .ref b), (1, .ref h), (2, .ref h2), (3, .ref ob)]) hx hb dL_law_1011 hl (by decide) rfl (fun ls hl => ?_)
    refine lv_aload_n hx hb dL_law_1013 rfl (lv_at hl 5 rfl) ?_
    refine q_callI (r := nI 1) (va_runV (As := []) (rest := []) ⟨hx, hb, hml, hown, hts⟩ (kX1_thrown l D h2 ad2 cI cJ cZ td gc ex mpa di mu dc dg da dh dt dv dd ms ak se mr 1) (cwV 0 hts gL_law_X1_thrown rfl rfl rfl (by decide +kernel) ⟨Nat.le_of_ble_eq_true rfl, Nat.le_of_ble_eq_true rfl⟩) ⟨pP_blind, va_recv hK (va_Pl hP) (ci := 1) (q0 := 0) rfl rfl, pP_pre (va_Pl hP) hK⟩ rfl rfl hl.1 rfl (lv_room (Nat.le_of_ble_eq_true rfl)) dL_law_1014 ⟨hrc, hrs⟩) ?_
    refine lv_iload hx hb dL_law_1017 (lv_at hl 1 rfl) ?_
    refine lv_icmp_eq (tgt := 1024) hx hb dL_law_1019 (by decide) (fun _ => ?_) (fun z => absurd rfl z)
    refine lv_iload hx hb dL_law_1024 (lv_at hl 1 rfl) ?_
    refine lv_if_ne (tgt := 1048) hx hb dL_law_1026 (by decide) (fun _ => ?_) (fun z => absurd z (by decide))
    have hP := va_Psw hP
    have hD := va_Dsw hD
    refine lv_goto (tgt := 1367) hx hb dL_law_1048 (by decide) ?_
    exact K f lev ex pa mpa di qu mu gc dg dp da dh dt dv dd ds ms dc td ho ak se pr mr 1 H locs ls ⟨hT, hQ, hB, hSR, hPP, hPM, by omega, hmz⟩ hP hD hS (lv_sub hl [2, 3, 4, 5, 6] rfl)
  · rcases k_ix 6 (by decide) (xs (i + 2)) with ha | ⟨a, ha, e2⟩
    · refine lv_aload_n hx hb dL_law_976 rfl (lv_at hl 2 rfl) ?_
      refine lq_arg (k := 1) (y := xs (i + 1)) hx hb hX hbl hbA hS hl 1 0 rfl rfl (show i + 1 < L by omega) (by omega) (by decide) (rfl) dL_law_977 dL_law_978 dL_law_980 dL_law_981 dL_law_982 ?_
      refine lq_arg (k := 2) (y := xs (i + 2)) hx hb hX hbl hbA hS hl 1 0 rfl rfl (show i + 2 < L by omega) (by omega) (by decide) (rfl) dL_law_983 dL_law_984 dL_law_986 dL_law_987 dL_law_988 ?_
      refine lv_aload_n hx hb dL_law_989 rfl (lv_at hl 4 rfl) ?_
      refine q_ecall (k := 1) (vx_runSW (As := [.ref h, .int (xs (i + 1)), .int (xs (i + 2)), .ref ob]) (rest := []) ⟨hx, hb, hml, hown, hts⟩ (kL_toggleAskedXI l D h ad cI cZ ex pa di qu gc dg dp dv dd ds dc td ho ak se pr hlf ob (xs (i + 1)) (xs (i + 2)) (Or.inr ⟨sp, hs, e1, ha⟩)) (vx_cwSW 4 hts gL_law_L_toggleAsked rfl rfl rfl (by decide +kernel) ⟨Nat.le_of_ble_eq_true rfl, Nat.le_of_ble_eq_true rfl⟩) ⟨tN_blind, tN_pre (va_Pl (va_Pl hP)) (hK.sub [0, 1] rfl) (tEA_at hE hS) hN⟩ rfl rfl hl.1 rfl (lv_room (Nat.le_of_ble_eq_true rfl)) dL_law_990 ⟨hrc, hrs⟩) hP hS (fun H hP hS => ?_)
      refine lv_istore (lv' := [(5, .int (nI 1)), (4, .int (nI i)), (0, .ref b), (1, .ref h), (2, .ref h2), (3, .ref ob)]) hx hb dL_law_993 hl (by decide) rfl (fun ls hl => ?_)
      refine lv_aload_n hx hb dL_law_995 rfl (lv_at hl 4 rfl) ?_
      refine lq_arg (k := 1) (y := xs (i + 1)) hx hb hX hbl hbA hS hl 2 1 rfl rfl (show i + 1 < L by omega) (by omega) (by decide) (rfl) dL_law_996 dL_law_997 dL_law_999 dL_law_1000 dL_law_1001 ?_
      refine lq_arg (k := 2) (y := xs (i + 2)) hx hb hX hbl hbA hS hl 2 1 rfl rfl (show i + 2 < L by omega) (by omega) (by decide) (rfl) dL_law_1002 dL_law_1003 dL_law_1005 dL_law_1006 dL_law_1007 ?_
      have hP := va_Psw hP
      have hD := va_Dsw hD
      refine q_wcallFI (wa' := (mW h2 ad2 cI cJ cZ td gc ex mpa di mu dc dg da dh dt dv dd ms ak se mr 1)) (wb := ((hW h ad cI cZ ex pa di qu gc dg dp dv dd ds dc td ho ak se pr) ++ [(ob, .inl (cJ, 1, .inr (.inl f)))])) (r := bI false) (va_runV (As := [.int (xs (i + 1)), .int (xs (i + 2))]) (rest := []) ⟨hx, hb, hml, hown, hts⟩ (kX1_toggleAsked1 l D h2 ad2 cI cJ cZ td gc ex mpa di mu dc dg da dh dt dv dd ms ak se mr th _ (xs (i + 1)) (xs (i + 2)) (Or.inr ⟨sp, hs, e1, ha⟩)) (cwV 2 hts gL_law_X1_toggleAsked rfl rfl rfl (by decide +kernel) ⟨Nat.le_of_ble_eq_true rfl, Nat.le_of_ble_eq_true rfl⟩) ⟨wP_blind, va_recv hK (va_Pl hP) (ci := 1) (q0 := 0) rfl rfl, wP_pre (va_Pl hP) hK (va_Dl hD)⟩ rfl rfl hl.1 rfl (lv_room (Nat.le_of_ble_eq_true rfl)) dL_law_1008 ⟨hrc, hrs⟩) hP hD hS hA rfl (fun H locs hP hD hS => ?_)
      refine lv_istore (lv' := [(6, .int (bI false)), (5, .int (nI 1)), (4, .int (nI i)), (0, .ref b), (1, .ref h), (2, .ref h2), (3, .ref ob)]) hx hb dL_law_1011 hl (by decide) rfl (fun ls hl => ?_)
      refine lv_aload_n hx hb dL_law_1013 rfl (lv_at hl 5 rfl) ?_
      refine q_callI (r := nI 1) (va_runV (As := []) (rest := []) ⟨hx, hb, hml, hown, hts⟩ (kX1_thrown l D h2 ad2 cI cJ cZ td gc ex mpa di mu dc dg da dh dt dv dd ms ak se mr 1) (cwV 0 hts gL_law_X1_thrown rfl rfl rfl (by decide +kernel) ⟨Nat.le_of_ble_eq_true rfl, Nat.le_of_ble_eq_true rfl⟩) ⟨pP_blind, va_recv hK (va_Pl hP) (ci := 1) (q0 := 0) rfl rfl, pP_pre (va_Pl hP) hK⟩ rfl rfl hl.1 rfl (lv_room (Nat.le_of_ble_eq_true rfl)) dL_law_1014 ⟨hrc, hrs⟩) ?_
      refine lv_iload hx hb dL_law_1017 (lv_at hl 1 rfl) ?_
      refine lv_icmp_eq (tgt := 1024) hx hb dL_law_1019 (by decide) (fun _ => ?_) (fun z => absurd rfl z)
      refine lv_iload hx hb dL_law_1024 (lv_at hl 1 rfl) ?_
      refine lv_if_ne (tgt := 1048) hx hb dL_law_1026 (by decide) (fun _ => ?_) (fun z => absurd z (by decide))
      have hP := va_Psw hP
      have hD := va_Dsw hD
      refine lv_goto (tgt := 1367) hx hb dL_law_1048 (by decide) ?_
      exact K f lev ex pa mpa di qu mu gc dg dp da dh dt dv dd ds ms dc td ho ak se pr mr 1 H locs ls ⟨hT, hQ, hB, hSR, hPP, hPM, by omega, hmz⟩ hP hD hS (lv_sub hl [2, 3, 4, 5, 6] rfl)
    · refine lv_aload_n hx hb dL_law_976 rfl (lv_at hl 2 rfl) ?_
      refine lq_arg (k := 1) (y := nI sp) hx hb hX hbl hbA hS hl 1 0 rfl rfl (show i + 1 < L by omega) (by omega) (by decide) (e1) dL_law_977 dL_law_978 dL_law_980 dL_law_981 dL_law_982 ?_
      refine lq_arg (k := 2) (y := nI a) hx hb hX hbl hbA hS hl 1 0 rfl rfl (show i + 2 < L by omega) (by omega) (by decide) (e2) dL_law_983 dL_law_984 dL_law_986 dL_law_987 dL_law_988 ?_
      refine lv_aload_n hx hb dL_law_989 rfl (lv_at hl 4 rfl) ?_
      refine q_wcallFI (wa' := ((hW h ad cI cZ ex pa di qu gc dg dp dv dd ds dc td ho (va_up ak (sp * 6 + a) (!ak (sp * 6 + a))) se pr) ++ [(ob, .inl (cJ, 1, .inr (.inl (vp_updL f 0 (bL (!ak (sp * 6 + a)))))))])) (wb := (mW h2 ad2 cI cJ cZ td gc ex mpa di mu dc dg da dh dt dv dd ms ak se mr th)) (r := nI 0) (vx_runSW (As := [.ref h, .int (nI sp), .int (nI a), .ref ob]) (rest := []) ⟨hx, hb, hml, hown, hts⟩ (kL_toggleAsked l D h ad cI cZ ex pa di qu gc dg dp dv dd ds dc td ho ak se pr cJ ob f _ sp a hs ha ) (vx_cwSW 4 hts gL_law_L_toggleAsked rfl rfl rfl (by decide +kernel) ⟨Nat.le_of_ble_eq_true rfl, Nat.le_of_ble_eq_true rfl⟩) ⟨wP_blind, wP_pre (va_Pl hP) hK (va_Dl hD)⟩ rfl rfl hl.1 rfl (lv_room (Nat.le_of_ble_eq_true rfl)) dL_law_990 ⟨hrc0, hrs0⟩) hP hD hS hA rfl (fun H locs hP hD hS => ?_)
      refine lv_istore (lv' := [(5, .int (nI 0)), (4, .int (nI i)), (0, .ref b), (1, .ref h), (2, .ref h2), (3, .ref ob)]) hx hb dL_law_993 hl (by decide) rfl (fun ls hl => ?_)
      refine lv_aload_n hx hb dL_law_995 rfl (lv_at hl 4 rfl) ?_
      refine lq_arg (k := 1) (y := nI sp) hx hb hX hbl hbA hS hl 2 1 rfl rfl (show i + 1 < L by omega) (by omega) (by decide) (e1) dL_law_996 dL_law_997 dL_law_999 dL_law_1000 dL_law_1001 ?_
      refine lq_arg (k := 2) (y := nI a) hx hb hX hbl hbA hS hl 2 1 rfl rfl (show i + 2 < L by omega) (by omega) (by decide) (e2) dL_law_1002 dL_law_1003 dL_law_1005 dL_law_1006 dL_law_1007 ?_
      have hP := va_Psw hP
      have hD := va_Dsw hD
      refine q_wcallFI (wa' := (mW h2 ad2 cI cJ cZ td gc ex mpa di mu dc dg da dh dt dv dd ms (va_up ak (sp * 6 + a) (!ak (sp * 6 + a))) se mr 0)) (wb := ((hW h ad cI cZ ex pa di qu gc dg dp dv dd ds dc td ho (va_up ak (sp * 6 + a) (!ak (sp * 6 + a))) se pr) ++ [(ob, .inl (cJ, 1, .inr (.inl (vp_updL f 0 (bL (!ak (sp * 6 + a)))))))])) (r := bI (!ak (sp * 6 + a))) (va_runV (As := [.int (nI sp), .int (nI a)]) (rest := []) ⟨hx, hb, hml, hown, hts⟩ (kX1_toggleAsked l D h2 ad2 cI cJ cZ td gc ex mpa di mu dc dg da dh dt dv dd ms ak se mr th _ sp a hs ha) (cwV 2 hts gL_law_X1_toggleAsked rfl rfl rfl (by decide +kernel) ⟨Nat.le_of_ble_eq_true rfl, Nat.le_of_ble_eq_true rfl⟩) ⟨wP_blind, va_recv hK (va_Pl hP) (ci := 1) (q0 := 0) rfl rfl, wP_pre (va_Pl hP) hK (va_Dl hD)⟩ rfl rfl hl.1 rfl (lv_room (Nat.le_of_ble_eq_true rfl)) dL_law_1008 ⟨hrc0, hrs0⟩) hP hD hS hA rfl (fun H locs hP hD hS => ?_)
      refine lv_istore (lv' := [(6, .int (bI (!ak (sp * 6 + a)))), (5, .int (nI 0)), (4, .int (nI i)), (0, .ref b), (1, .ref h), (2, .ref h2), (3, .ref ob)]) hx hb dL_law_1011 hl (by decide) rfl (fun ls hl => ?_)
      refine lv_aload_n hx hb dL_law_1013 rfl (lv_at hl 5 rfl) ?_
      refine q_callI (r := nI 0) (va_runV (As := []) (rest := []) ⟨hx, hb, hml, hown, hts⟩ (kX1_thrown l D h2 ad2 cI cJ cZ td gc ex mpa di mu dc dg da dh dt dv dd ms (va_up ak (sp * 6 + a) (!ak (sp * 6 + a))) se mr 0) (cwV 0 hts gL_law_X1_thrown rfl rfl rfl (by decide +kernel) ⟨Nat.le_of_ble_eq_true rfl, Nat.le_of_ble_eq_true rfl⟩) ⟨pP_blind, va_recv hK (va_Pl hP) (ci := 1) (q0 := 0) rfl rfl, pP_pre (va_Pl hP) hK⟩ rfl rfl hl.1 rfl (lv_room (Nat.le_of_ble_eq_true rfl)) dL_law_1014 ⟨hrc0, hrs0⟩) ?_
      refine lv_iload hx hb dL_law_1017 (lv_at hl 1 rfl) ?_
      refine lv_icmp_eq (tgt := 1024) hx hb dL_law_1019 (by decide) (fun _ => ?_) (fun z => absurd rfl z)
      refine lv_iload hx hb dL_law_1024 (lv_at hl 1 rfl) ?_
      refine lv_if_ne (tgt := 1048) hx hb dL_law_1026 (by decide) (fun z => absurd (by decide) z) (fun _ => ?_)
      refine lv_aload_n hx hb dL_law_1029 rfl (lv_at hl 6 rfl) ?_
      refine lv_iconst (v := nI 0) hx hb dL_law_1030 (by decide) ?_
      refine va_lald hx hb hK (va_Pr hP) 14 2 rfl rfl (vp_in_nI (by decide) (by decide)) dL_law_1031 ?_
      refine q_topL (y := (bL (!ak (sp * 6 + a)))) vpU ?_
      refine lv_iload hx hb dL_law_1032 (lv_at hl 0 rfl) ?_
      have heq : (bL (!ak (sp * 6 + a))) = bL (!ak (sp * 6 + a)) := rfl
      refine q_ifB_eq (b := !ak (sp * 6 + a)) (tgt := 1041) hx hb dL_law_1034 (by decide) (fun k1 => ?_) (fun k1 => ?_)
      · refine lv_lconst (v := 0) hx hb dL_law_1041 (by decide) ?_
        refine q_topL (y := (bL (!ak (sp * 6 + a)))) (by rw [heq, k1]; decide) ?_
        refine W.lcmp hx hb dL_law_1042 ?_
        refine lv_if_eq (tgt := 1048) hx hb dL_law_1043 (by decide) (fun _ => ?_) (fun z => absurd ((lg_cmp_eq _ _).mpr rfl) z)
        have hP := va_Psw hP
        have hD := va_Dsw hD
        refine lv_goto (tgt := 1367) hx hb dL_law_1048 (by decide) ?_
        refine W.widen (k := cells + 1) (n := slots + 6) (by omega) (by omega) ?_
        exact K (vp_updL f 0 (bL (!ak (sp * 6 + a)))) lev ex pa mpa di qu mu gc dg dp da dh dt dv dd ds ms dc td ho (va_up ak (sp * 6 + a) (!ak (sp * 6 + a))) se pr mr 0 H locs ls ⟨hT, hQ, hB, hSR, hPP, hPM, by omega, hmz⟩ hP hD hS (lv_sub hl [2, 3, 4, 5, 6] rfl)
      · refine lv_lconst (v := 1) hx hb dL_law_1037 (by decide) ?_
        refine q_topL (y := (bL (!ak (sp * 6 + a)))) (by rw [heq, k1]; decide) ?_
        refine lv_goto (tgt := 1042) hx hb dL_law_1038 (by decide) ?_
        refine W.lcmp hx hb dL_law_1042 ?_
        refine lv_if_eq (tgt := 1048) hx hb dL_law_1043 (by decide) (fun _ => ?_) (fun z => absurd ((lg_cmp_eq _ _).mpr rfl) z)
        have hP := va_Psw hP
        have hD := va_Dsw hD
        refine lv_goto (tgt := 1367) hx hb dL_law_1048 (by decide) ?_
        refine W.widen (k := cells + 1) (n := slots + 6) (by omega) (by omega) ?_
        exact K (vp_updL f 0 (bL (!ak (sp * 6 + a)))) lev ex pa mpa di qu mu gc dg dp da dh dt dv dd ds ms dc td ho (va_up ak (sp * 6 + a) (!ak (sp * 6 + a))) se pr mr 0 H locs ls ⟨hT, hQ, hB, hSR, hPP, hPM, by omega, hmz⟩ hP hD hS (lv_sub hl [2, 3, 4, 5, 6] rfl)

set_option maxHeartbeats 8000000 in
set_option maxRecDepth 100000 in
theorem lc_missing {p : Program} {l : Launch} {e : Env} {s : State} {m : MethodId} {below : List Frame} {meth : Method} {c : Code} {b L : Nat} {xs : Nat → Int32} {D : va_G} {cI cJ cZ : ClassId} {h : Nat} {ad : Nat → Nat} {h2 : Nat} {ad2 : Nat → Nat} {ob : Nat} (X0 : LCX p s m meth c b L xs D cI cJ cZ) (hlf : l.stackTraces = false) {i n cells slots : Nat} (hi : i + 7 ≤ L) (hL : L ≤ 3584) (hn : n ≤ 512) (hrc : cells + 1 ≤ 1078) (hrs : slots + 6 ≤ 14711) (K : LK p l e s m below meth c b D cI cJ cZ h ad h2 ad2 ob i (cells + 1) (slots + 6) (n + 1))
    (f : Nat → Int64) (lev : Nat → Nat) (ex : Nat → Bool) (pa mpa : Nat → Option Nat) (di qu mu : Nat → Nat) (gc : Nat) (dg dp da : Nat → Nat) (dh dt dv : Nat → Option Nat) (dd ds ms : Nat → Nat) (dc td : Nat) (ho : Nat → Option Nat) (ak : Nat → Bool) (se pr mr : Nat → Option Nat) (th : Nat) (hI : LI n lev ex pa mpa di qu mu gc dg dp da dh dt dv dd ds ms dc td ho se pr mr) (H : Heap) (locs : List Loc) (hP : va_P D vwCl (((hW h ad cI cZ ex pa di qu gc dg dp dv dd ds dc td ho ak se pr) ++ [(ob, .inl (cJ, 1, .inr (.inl f)))]) ++ (mW h2 ad2 cI cJ cZ td gc ex mpa di mu dc dg da dh dt dv dd ms ak se mr th)) H) (hD : va_D (fun q : Nat => s.heap.size ≤ q) (((hW h ad cI cZ ex pa di qu gc dg dp dv dd ds dc td ho ak se pr) ++ [(ob, .inl (cJ, 1, .inr (.inl f)))]) ++ (mW h2 ad2 cI cJ cZ td gc ex mpa di mu dc dg da dh dt dv dd ms ak se mr th))) (hS : va_S (fun q : Nat => s.heap.size ≤ q) s.heap H locs) (ls : Array Slot) (hl : lv_has ls 7 [(4, .int (nI i)), (0, .ref b), (1, .ref h), (2, .ref h2), (3, .ref ob)]) : W p l e room_1 s m #[Value.ref b] below meth c H locs cells slots (lw_Z below #[Value.ref b] s) (F0 m 1051 ls []) := by
  obtain ⟨C0, hK, hE, hN⟩ := X0
  obtain ⟨hx, hb, hr, hml, hown, hts0, hX, hbl, hlocks, -⟩ := id C0
  have hts : ∀ w ∈ wsL_law, w.before #[Value.ref b] s = true := fun w hw => hts0 w (wsL_law_in w hw)
  have hA : ∀ q : Nat, s.heap.size ≤ q → (fun q : Nat => s.heap.size ≤ q) q := fun _ h => h
  have hbA : ¬ (fun q : Nat => s.heap.size ≤ q) b := Nat.not_le.mpr hbl
  have hrc0 : cells ≤ 1078 := by omega
  have hrs0 : slots ≤ 14711 := by omega
  obtain ⟨hT, hQ, hB, hSR, hPP, hPM, htd, hmz⟩ := hI
  obtain ⟨hti, hme, hpr, hmpr, hpn, hgc, hxg⟩ := id hT
  have htim : TI ex mpa lev := TI_cong hme hti
  obtain ⟨hdi, hqu, hmu, hPT, hmu0⟩ := id hQ
  obtain ⟨hrd, hDR, hds, hho, hdv, hdgc⟩ := id hB
  have hHO := BR_HO hB
  have hRH := BR_RH hB
  have hdp := BR_dp hB
  obtain ⟨hdc, htdl, hdg, hda, hdh, hdt, hdd, hms2⟩ := id hrd
  rcases k_good ex (xs (i + 1)) with hg | ⟨g, hg, e1, he⟩
  · refine lv_aload_n hx hb dL_law_1051 rfl (lv_at hl 2 rfl) ?_
    refine lq_arg (k := 1) (y := xs (i + 1)) hx hb hX hbl hbA hS hl 1 0 rfl rfl (show i + 1 < L by omega) (by omega) (by decide) (rfl) dL_law_1052 dL_law_1053 dL_law_1055 dL_law_1056 dL_law_1057 ?_
    refine lq_arg (k := 2) (y := xs (i + 2)) hx hb hX hbl hbA hS hl 1 0 rfl rfl (show i + 2 < L by omega) (by omega) (by decide) (rfl) dL_law_1058 dL_law_1059 dL_law_1061 dL_law_1062 dL_law_1063 ?_
    refine lq_arg (k := 3) (y := xs (i + 3)) hx hb hX hbl hbA hS hl 1 0 rfl rfl (show i + 3 < L by omega) (by omega) (by decide) (rfl) dL_law_1064 dL_law_1065 dL_law_1067 dL_law_1068 dL_law_1069 ?_
    refine lv_aload_n hx hb dL_law_1070 rfl (lv_at hl 4 rfl) ?_
    refine q_ecall (k := 1) (vx_runSW (As := [.ref h, .int (xs (i + 1)), .int (xs (i + 2)), .int (xs (i + 3)), .ref ob]) (rest := []) ⟨hx, hb, hml, hown, hts⟩ (kL_missingXI l D h ad cI cZ ex pa di qu gc dg dp dv dd ds dc td ho ak se pr hlf ob (xs (i + 1)) (xs (i + 2)) (xs (i + 3)) (Or.inl hg)) (vx_cwSW 5 hts gL_law_L_missing rfl rfl rfl (by decide +kernel) ⟨Nat.le_of_ble_eq_true rfl, Nat.le_of_ble_eq_true rfl⟩) ⟨tN_blind, tN_pre (va_Pl (va_Pl hP)) (hK.sub [0, 1] rfl) (tEA_at hE hS) hN⟩ rfl rfl hl.1 rfl (lv_room (Nat.le_of_ble_eq_true rfl)) dL_law_1071 ⟨hrc, hrs⟩) hP hS (fun H hP hS => ?_)
    refine lv_istore (lv' := [(5, .int (nI 1)), (4, .int (nI i)), (0, .ref b), (1, .ref h), (2, .ref h2), (3, .ref ob)]) hx hb dL_law_1074 hl (by decide) rfl (fun ls hl => ?_)
    refine lv_aload_n hx hb dL_law_1076 rfl (lv_at hl 4 rfl) ?_
    refine lq_arg (k := 1) (y := xs (i + 1)) hx hb hX hbl hbA hS hl 2 1 rfl rfl (show i + 1 < L by omega) (by omega) (by decide) (rfl) dL_law_1077 dL_law_1078 dL_law_1080 dL_law_1081 dL_law_1082 ?_
    refine lq_arg (k := 2) (y := xs (i + 2)) hx hb hX hbl hbA hS hl 2 1 rfl rfl (show i + 2 < L by omega) (by omega) (by decide) (rfl) dL_law_1083 dL_law_1084 dL_law_1086 dL_law_1087 dL_law_1088 ?_
    refine lq_arg (k := 3) (y := xs (i + 3)) hx hb hX hbl hbA hS hl 2 1 rfl rfl (show i + 3 < L by omega) (by omega) (by decide) (rfl) dL_law_1089 dL_law_1090 dL_law_1092 dL_law_1093 dL_law_1094 ?_
    have hP := va_Psw hP
    have hD := va_Dsw hD
    refine q_wcallFI (wa' := (mW h2 ad2 cI cJ cZ td gc ex mpa di mu dc dg da dh dt dv dd ms ak se mr 1)) (wb := ((hW h ad cI cZ ex pa di qu gc dg dp dv dd ds dc td ho ak se pr) ++ [(ob, .inl (cJ, 1, .inr (.inl f)))])) (r := nI 0) (va_runV (As := [.int (xs (i + 1)), .int (xs (i + 2)), .int (xs (i + 3))]) (rest := []) ⟨hx, hb, hml, hown, hts⟩ (kX1_missing1 l D h2 ad2 cI cJ cZ td gc ex mpa di mu dc dg da dh dt dv dd ms ak se mr th _ (xs (i + 1)) (xs (i + 2)) (xs (i + 3)) hgc hxg (Or.inl hg)) (cwV 3 hts gL_law_X1_missing rfl rfl rfl (by decide +kernel) ⟨Nat.le_of_ble_eq_true rfl, Nat.le_of_ble_eq_true rfl⟩) ⟨wP_blind, va_recv hK (va_Pl hP) (ci := 1) (q0 := 0) rfl rfl, wP_pre (va_Pl hP) hK (va_Dl hD)⟩ rfl rfl hl.1 rfl (lv_room (Nat.le_of_ble_eq_true rfl)) dL_law_1095 ⟨hrc, hrs⟩) hP hD hS hA rfl (fun H locs hP hD hS => ?_)
    refine lv_istore (lv' := [(6, .int (nI 0)), (5, .int (nI 1)), (4, .int (nI i)), (0, .ref b), (1, .ref h), (2, .ref h2), (3, .ref ob)]) hx hb dL_law_1098 hl (by decide) rfl (fun ls hl => ?_)
    refine lv_aload_n hx hb dL_law_1100 rfl (lv_at hl 5 rfl) ?_
    refine q_callI (r := nI 1) (va_runV (As := []) (rest := []) ⟨hx, hb, hml, hown, hts⟩ (kX1_thrown l D h2 ad2 cI cJ cZ td gc ex mpa di mu dc dg da dh dt dv dd ms ak se mr 1) (cwV 0 hts gL_law_X1_thrown rfl rfl rfl (by decide +kernel) ⟨Nat.le_of_ble_eq_true rfl, Nat.le_of_ble_eq_true rfl⟩) ⟨pP_blind, va_recv hK (va_Pl hP) (ci := 1) (q0 := 0) rfl rfl, pP_pre (va_Pl hP) hK⟩ rfl rfl hl.1 rfl (lv_room (Nat.le_of_ble_eq_true rfl)) dL_law_1101 ⟨hrc, hrs⟩) ?_
    refine lv_iload hx hb dL_law_1104 (lv_at hl 1 rfl) ?_
    refine lv_icmp_eq (tgt := 1111) hx hb dL_law_1106 (by decide) (fun _ => ?_) (fun z => absurd rfl z)
    refine lv_iload hx hb dL_law_1111 (lv_at hl 1 rfl) ?_
    refine lv_if_ne (tgt := 1128) hx hb dL_law_1113 (by decide) (fun _ => ?_) (fun z => absurd z (by decide))
    have hP := va_Psw hP
    have hD := va_Dsw hD
    refine lv_goto (tgt := 1367) hx hb dL_law_1128 (by decide) ?_
    exact K f lev ex pa mpa di qu mu gc dg dp da dh dt dv dd ds ms dc td ho ak se pr mr 1 H locs ls ⟨hT, hQ, hB, hSR, hPP, hPM, by omega, hmz⟩ hP hD hS (lv_sub hl [2, 3, 4, 5, 6] rfl)
  · rcases k_ix 3 (by decide) (xs (i + 2)) with hs | ⟨sp, hs, e2⟩
    · refine lv_aload_n hx hb dL_law_1051 rfl (lv_at hl 2 rfl) ?_
      refine lq_arg (k := 1) (y := xs (i + 1)) hx hb hX hbl hbA hS hl 1 0 rfl rfl (show i + 1 < L by omega) (by omega) (by decide) (rfl) dL_law_1052 dL_law_1053 dL_law_1055 dL_law_1056 dL_law_1057 ?_
      refine lq_arg (k := 2) (y := xs (i + 2)) hx hb hX hbl hbA hS hl 1 0 rfl rfl (show i + 2 < L by omega) (by omega) (by decide) (rfl) dL_law_1058 dL_law_1059 dL_law_1061 dL_law_1062 dL_law_1063 ?_
      refine lq_arg (k := 3) (y := xs (i + 3)) hx hb hX hbl hbA hS hl 1 0 rfl rfl (show i + 3 < L by omega) (by omega) (by decide) (rfl) dL_law_1064 dL_law_1065 dL_law_1067 dL_law_1068 dL_law_1069 ?_
      refine lv_aload_n hx hb dL_law_1070 rfl (lv_at hl 4 rfl) ?_
      refine q_ecall (k := 1) (vx_runSW (As := [.ref h, .int (xs (i + 1)), .int (xs (i + 2)), .int (xs (i + 3)), .ref ob]) (rest := []) ⟨hx, hb, hml, hown, hts⟩ (kL_missingXI l D h ad cI cZ ex pa di qu gc dg dp dv dd ds dc td ho ak se pr hlf ob (xs (i + 1)) (xs (i + 2)) (xs (i + 3)) (Or.inr ⟨g, hg, e1, he, Or.inl hs⟩)) (vx_cwSW 5 hts gL_law_L_missing rfl rfl rfl (by decide +kernel) ⟨Nat.le_of_ble_eq_true rfl, Nat.le_of_ble_eq_true rfl⟩) ⟨tN_blind, tN_pre (va_Pl (va_Pl hP)) (hK.sub [0, 1] rfl) (tEA_at hE hS) hN⟩ rfl rfl hl.1 rfl (lv_room (Nat.le_of_ble_eq_true rfl)) dL_law_1071 ⟨hrc, hrs⟩) hP hS (fun H hP hS => ?_)
      refine lv_istore (lv' := [(5, .int (nI 1)), (4, .int (nI i)), (0, .ref b), (1, .ref h), (2, .ref h2), (3, .ref ob)]) hx hb dL_law_1074 hl (by decide) rfl (fun ls hl => ?_)
      refine lv_aload_n hx hb dL_law_1076 rfl (lv_at hl 4 rfl) ?_
      refine lq_arg (k := 1) (y := xs (i + 1)) hx hb hX hbl hbA hS hl 2 1 rfl rfl (show i + 1 < L by omega) (by omega) (by decide) (rfl) dL_law_1077 dL_law_1078 dL_law_1080 dL_law_1081 dL_law_1082 ?_
      refine lq_arg (k := 2) (y := xs (i + 2)) hx hb hX hbl hbA hS hl 2 1 rfl rfl (show i + 2 < L by omega) (by omega) (by decide) (rfl) dL_law_1083 dL_law_1084 dL_law_1086 dL_law_1087 dL_law_1088 ?_
      refine lq_arg (k := 3) (y := xs (i + 3)) hx hb hX hbl hbA hS hl 2 1 rfl rfl (show i + 3 < L by omega) (by omega) (by decide) (rfl) dL_law_1089 dL_law_1090 dL_law_1092 dL_law_1093 dL_law_1094 ?_
      have hP := va_Psw hP
      have hD := va_Dsw hD
      refine q_wcallFI (wa' := (mW h2 ad2 cI cJ cZ td gc ex mpa di mu dc dg da dh dt dv dd ms ak se mr 1)) (wb := ((hW h ad cI cZ ex pa di qu gc dg dp dv dd ds dc td ho ak se pr) ++ [(ob, .inl (cJ, 1, .inr (.inl f)))])) (r := nI 0) (va_runV (As := [.int (xs (i + 1)), .int (xs (i + 2)), .int (xs (i + 3))]) (rest := []) ⟨hx, hb, hml, hown, hts⟩ (kX1_missing1 l D h2 ad2 cI cJ cZ td gc ex mpa di mu dc dg da dh dt dv dd ms ak se mr th _ (xs (i + 1)) (xs (i + 2)) (xs (i + 3)) hgc hxg (Or.inr ⟨g, hg, e1, he, Or.inl hs⟩)) (cwV 3 hts gL_law_X1_missing rfl rfl rfl (by decide +kernel) ⟨Nat.le_of_ble_eq_true rfl, Nat.le_of_ble_eq_true rfl⟩) ⟨wP_blind, va_recv hK (va_Pl hP) (ci := 1) (q0 := 0) rfl rfl, wP_pre (va_Pl hP) hK (va_Dl hD)⟩ rfl rfl hl.1 rfl (lv_room (Nat.le_of_ble_eq_true rfl)) dL_law_1095 ⟨hrc, hrs⟩) hP hD hS hA rfl (fun H locs hP hD hS => ?_)
      refine lv_istore (lv' := [(6, .int (nI 0)), (5, .int (nI 1)), (4, .int (nI i)), (0, .ref b), (1, .ref h), (2, .ref h2), (3, .ref ob)]) hx hb dL_law_1098 hl (by decide) rfl (fun ls hl => ?_)
      refine lv_aload_n hx hb dL_law_1100 rfl (lv_at hl 5 rfl) ?_
      refine q_callI (r := nI 1) (va_runV (As := []) (rest := []) ⟨hx, hb, hml, hown, hts⟩ (kX1_thrown l D h2 ad2 cI cJ cZ td gc ex mpa di mu dc dg da dh dt dv dd ms ak se mr 1) (cwV 0 hts gL_law_X1_thrown rfl rfl rfl (by decide +kernel) ⟨Nat.le_of_ble_eq_true rfl, Nat.le_of_ble_eq_true rfl⟩) ⟨pP_blind, va_recv hK (va_Pl hP) (ci := 1) (q0 := 0) rfl rfl, pP_pre (va_Pl hP) hK⟩ rfl rfl hl.1 rfl (lv_room (Nat.le_of_ble_eq_true rfl)) dL_law_1101 ⟨hrc, hrs⟩) ?_
      refine lv_iload hx hb dL_law_1104 (lv_at hl 1 rfl) ?_
      refine lv_icmp_eq (tgt := 1111) hx hb dL_law_1106 (by decide) (fun _ => ?_) (fun z => absurd rfl z)
      refine lv_iload hx hb dL_law_1111 (lv_at hl 1 rfl) ?_
      refine lv_if_ne (tgt := 1128) hx hb dL_law_1113 (by decide) (fun _ => ?_) (fun z => absurd z (by decide))
      have hP := va_Psw hP
      have hD := va_Dsw hD
      refine lv_goto (tgt := 1367) hx hb dL_law_1128 (by decide) ?_
      exact K f lev ex pa mpa di qu mu gc dg dp da dh dt dv dd ds ms dc td ho ak se pr mr 1 H locs ls ⟨hT, hQ, hB, hSR, hPP, hPM, by omega, hmz⟩ hP hD hS (lv_sub hl [2, 3, 4, 5, 6] rfl)
    · rcases k_ix 3 (by decide) (xs (i + 3)) with ht | ⟨tp, ht, e3⟩
      · refine lv_aload_n hx hb dL_law_1051 rfl (lv_at hl 2 rfl) ?_
        refine lq_arg (k := 1) (y := xs (i + 1)) hx hb hX hbl hbA hS hl 1 0 rfl rfl (show i + 1 < L by omega) (by omega) (by decide) (rfl) dL_law_1052 dL_law_1053 dL_law_1055 dL_law_1056 dL_law_1057 ?_
        refine lq_arg (k := 2) (y := xs (i + 2)) hx hb hX hbl hbA hS hl 1 0 rfl rfl (show i + 2 < L by omega) (by omega) (by decide) (rfl) dL_law_1058 dL_law_1059 dL_law_1061 dL_law_1062 dL_law_1063 ?_
        refine lq_arg (k := 3) (y := xs (i + 3)) hx hb hX hbl hbA hS hl 1 0 rfl rfl (show i + 3 < L by omega) (by omega) (by decide) (rfl) dL_law_1064 dL_law_1065 dL_law_1067 dL_law_1068 dL_law_1069 ?_
        refine lv_aload_n hx hb dL_law_1070 rfl (lv_at hl 4 rfl) ?_
        refine q_ecall (k := 1) (vx_runSW (As := [.ref h, .int (xs (i + 1)), .int (xs (i + 2)), .int (xs (i + 3)), .ref ob]) (rest := []) ⟨hx, hb, hml, hown, hts⟩ (kL_missingXI l D h ad cI cZ ex pa di qu gc dg dp dv dd ds dc td ho ak se pr hlf ob (xs (i + 1)) (xs (i + 2)) (xs (i + 3)) (Or.inr ⟨g, hg, e1, he, Or.inr ⟨sp, hs, e2, ht⟩⟩)) (vx_cwSW 5 hts gL_law_L_missing rfl rfl rfl (by decide +kernel) ⟨Nat.le_of_ble_eq_true rfl, Nat.le_of_ble_eq_true rfl⟩) ⟨tN_blind, tN_pre (va_Pl (va_Pl hP)) (hK.sub [0, 1] rfl) (tEA_at hE hS) hN⟩ rfl rfl hl.1 rfl (lv_room (Nat.le_of_ble_eq_true rfl)) dL_law_1071 ⟨hrc, hrs⟩) hP hS (fun H hP hS => ?_)
        refine lv_istore (lv' := [(5, .int (nI 1)), (4, .int (nI i)), (0, .ref b), (1, .ref h), (2, .ref h2), (3, .ref ob)]) hx hb dL_law_1074 hl (by decide) rfl (fun ls hl => ?_)
        refine lv_aload_n hx hb dL_law_1076 rfl (lv_at hl 4 rfl) ?_
        refine lq_arg (k := 1) (y := xs (i + 1)) hx hb hX hbl hbA hS hl 2 1 rfl rfl (show i + 1 < L by omega) (by omega) (by decide) (rfl) dL_law_1077 dL_law_1078 dL_law_1080 dL_law_1081 dL_law_1082 ?_
        refine lq_arg (k := 2) (y := xs (i + 2)) hx hb hX hbl hbA hS hl 2 1 rfl rfl (show i + 2 < L by omega) (by omega) (by decide) (rfl) dL_law_1083 dL_law_1084 dL_law_1086 dL_law_1087 dL_law_1088 ?_
        refine lq_arg (k := 3) (y := xs (i + 3)) hx hb hX hbl hbA hS hl 2 1 rfl rfl (show i + 3 < L by omega) (by omega) (by decide) (rfl) dL_law_1089 dL_law_1090 dL_law_1092 dL_law_1093 dL_law_1094 ?_
        have hP := va_Psw hP
        have hD := va_Dsw hD
        refine q_wcallFI (wa' := (mW h2 ad2 cI cJ cZ td gc ex mpa di mu dc dg da dh dt dv dd ms ak se mr 1)) (wb := ((hW h ad cI cZ ex pa di qu gc dg dp dv dd ds dc td ho ak se pr) ++ [(ob, .inl (cJ, 1, .inr (.inl f)))])) (r := nI 0) (va_runV (As := [.int (xs (i + 1)), .int (xs (i + 2)), .int (xs (i + 3))]) (rest := []) ⟨hx, hb, hml, hown, hts⟩ (kX1_missing1 l D h2 ad2 cI cJ cZ td gc ex mpa di mu dc dg da dh dt dv dd ms ak se mr th _ (xs (i + 1)) (xs (i + 2)) (xs (i + 3)) hgc hxg (Or.inr ⟨g, hg, e1, he, Or.inr ⟨sp, hs, e2, ht⟩⟩)) (cwV 3 hts gL_law_X1_missing rfl rfl rfl (by decide +kernel) ⟨Nat.le_of_ble_eq_true rfl, Nat.le_of_ble_eq_true rfl⟩) ⟨wP_blind, va_recv hK (va_Pl hP) (ci := 1) (q0 := 0) rfl rfl, wP_pre (va_Pl hP) hK (va_Dl hD)⟩ rfl rfl hl.1 rfl (lv_room (Nat.le_of_ble_eq_true rfl)) dL_law_1095 ⟨hrc, hrs⟩) hP hD hS hA rfl (fun H locs hP hD hS => ?_)
        refine lv_istore (lv' := [(6, .int (nI 0)), (5, .int (nI 1)), (4, .int (nI i)), (0, .ref b), (1, .ref h), (2, .ref h2), (3, .ref ob)]) hx hb dL_law_1098 hl (by decide) rfl (fun ls hl => ?_)
        refine lv_aload_n hx hb dL_law_1100 rfl (lv_at hl 5 rfl) ?_
        refine q_callI (r := nI 1) (va_runV (As := []) (rest := []) ⟨hx, hb, hml, hown, hts⟩ (kX1_thrown l D h2 ad2 cI cJ cZ td gc ex mpa di mu dc dg da dh dt dv dd ms ak se mr 1) (cwV 0 hts gL_law_X1_thrown rfl rfl rfl (by decide +kernel) ⟨Nat.le_of_ble_eq_true rfl, Nat.le_of_ble_eq_true rfl⟩) ⟨pP_blind, va_recv hK (va_Pl hP) (ci := 1) (q0 := 0) rfl rfl, pP_pre (va_Pl hP) hK⟩ rfl rfl hl.1 rfl (lv_room (Nat.le_of_ble_eq_true rfl)) dL_law_1101 ⟨hrc, hrs⟩) ?_
        refine lv_iload hx hb dL_law_1104 (lv_at hl 1 rfl) ?_
        refine lv_icmp_eq (tgt := 1111) hx hb dL_law_1106 (by decide) (fun _ => ?_) (fun z => absurd rfl z)
        refine lv_iload hx hb dL_law_1111 (lv_at hl 1 rfl) ?_
        refine lv_if_ne (tgt := 1128) hx hb dL_law_1113 (by decide) (fun _ => ?_) (fun z => absurd z (by decide))
        have hP := va_Psw hP
        have hD := va_Dsw hD
        refine lv_goto (tgt := 1367) hx hb dL_law_1128 (by decide) ?_
        exact K f lev ex pa mpa di qu mu gc dg dp da dh dt dv dd ds ms dc td ho ak se pr mr 1 H locs ls ⟨hT, hQ, hB, hSR, hPP, hPM, by omega, hmz⟩ hP hD hS (lv_sub hl [2, 3, 4, 5, 6] rfl)
      · have hbl2 : bset (lck ex pa ho dv ak g sp tp) 6 < 2147483648 := Nat.lt_trans (bset_lt _ 6) (by decide)
        refine lv_aload_n hx hb dL_law_1051 rfl (lv_at hl 2 rfl) ?_
        refine lq_arg (k := 1) (y := nI g) hx hb hX hbl hbA hS hl 1 0 rfl rfl (show i + 1 < L by omega) (by omega) (by decide) (e1) dL_law_1052 dL_law_1053 dL_law_1055 dL_law_1056 dL_law_1057 ?_
        refine lq_arg (k := 2) (y := nI sp) hx hb hX hbl hbA hS hl 1 0 rfl rfl (show i + 2 < L by omega) (by omega) (by decide) (e2) dL_law_1058 dL_law_1059 dL_law_1061 dL_law_1062 dL_law_1063 ?_
        refine lq_arg (k := 3) (y := nI tp) hx hb hX hbl hbA hS hl 1 0 rfl rfl (show i + 3 < L by omega) (by omega) (by decide) (e3) dL_law_1064 dL_law_1065 dL_law_1067 dL_law_1068 dL_law_1069 ?_
        refine lv_aload_n hx hb dL_law_1070 rfl (lv_at hl 4 rfl) ?_
        refine q_wcallFI (wa' := ((hW h ad cI cZ ex pa di qu gc dg dp dv dd ds dc td ho ak se pr) ++ [(ob, .inl (cJ, 1, .inr (.inl (vp_updL f 0 (lN (bset (lck ex pa ho dv ak g sp tp) 6))))))])) (wb := (mW h2 ad2 cI cJ cZ td gc ex mpa di mu dc dg da dh dt dv dd ms ak se mr th)) (r := nI 0) (vx_runSW (As := [.ref h, .int (nI g), .int (nI sp), .int (nI tp), .ref ob]) (rest := []) ⟨hx, hb, hml, hown, hts⟩ (kL_missing l D h ad cI cZ ex pa di qu gc dg dp dv dd ds dc td ho ak se pr cJ ob f _ g sp tp hg hs ht he hpr hHO hdc hdv hbl2) (vx_cwSW 5 hts gL_law_L_missing rfl rfl rfl (by decide +kernel) ⟨Nat.le_of_ble_eq_true rfl, Nat.le_of_ble_eq_true rfl⟩) ⟨wP_blind, wP_pre (va_Pl hP) hK (va_Dl hD)⟩ rfl rfl hl.1 rfl (lv_room (Nat.le_of_ble_eq_true rfl)) dL_law_1071 ⟨hrc0, hrs0⟩) hP hD hS hA rfl (fun H locs hP hD hS => ?_)
        refine lv_istore (lv' := [(5, .int (nI 0)), (4, .int (nI i)), (0, .ref b), (1, .ref h), (2, .ref h2), (3, .ref ob)]) hx hb dL_law_1074 hl (by decide) rfl (fun ls hl => ?_)
        refine lv_aload_n hx hb dL_law_1076 rfl (lv_at hl 4 rfl) ?_
        refine lq_arg (k := 1) (y := nI g) hx hb hX hbl hbA hS hl 2 1 rfl rfl (show i + 1 < L by omega) (by omega) (by decide) (e1) dL_law_1077 dL_law_1078 dL_law_1080 dL_law_1081 dL_law_1082 ?_
        refine lq_arg (k := 2) (y := nI sp) hx hb hX hbl hbA hS hl 2 1 rfl rfl (show i + 2 < L by omega) (by omega) (by decide) (e2) dL_law_1083 dL_law_1084 dL_law_1086 dL_law_1087 dL_law_1088 ?_
        refine lq_arg (k := 3) (y := nI tp) hx hb hX hbl hbA hS hl 2 1 rfl rfl (show i + 3 < L by omega) (by omega) (by decide) (e3) dL_law_1089 dL_law_1090 dL_law_1092 dL_law_1093 dL_law_1094 ?_
        have hP := va_Psw hP
        have hD := va_Dsw hD
        refine q_wcallFI (wa' := (mW h2 ad2 cI cJ cZ td gc ex mpa di mu dc dg da dh dt dv dd ms ak se mr 0)) (wb := ((hW h ad cI cZ ex pa di qu gc dg dp dv dd ds dc td ho ak se pr) ++ [(ob, .inl (cJ, 1, .inr (.inl (vp_updL f 0 (lN (bset (lck ex pa ho dv ak g sp tp) 6))))))])) (r := nI (bset (lck ex mpa ho dv ak g sp tp) 6)) (va_runV (As := [.int (nI g), .int (nI sp), .int (nI tp)]) (rest := []) ⟨hx, hb, hml, hown, hts⟩ (kX1_missing l D h2 ad2 cI cJ cZ td gc ex mpa di mu dc dg da dh dt dv dd ms ak se mr th _ ho lev g sp tp htim hg he hs ht hgc hxg hrd hRH hmpr hHO hdv) (cwV 3 hts gL_law_X1_missing rfl rfl rfl (by decide +kernel) ⟨Nat.le_of_ble_eq_true rfl, Nat.le_of_ble_eq_true rfl⟩) ⟨wP_blind, va_recv hK (va_Pl hP) (ci := 1) (q0 := 0) rfl rfl, wP_pre (va_Pl hP) hK (va_Dl hD)⟩ rfl rfl hl.1 rfl (lv_room (Nat.le_of_ble_eq_true rfl)) dL_law_1095 ⟨hrc0, hrs0⟩) hP hD hS hA rfl (fun H locs hP hD hS => ?_)
        refine lv_istore (lv' := [(6, .int (nI (bset (lck ex mpa ho dv ak g sp tp) 6))), (5, .int (nI 0)), (4, .int (nI i)), (0, .ref b), (1, .ref h), (2, .ref h2), (3, .ref ob)]) hx hb dL_law_1098 hl (by decide) rfl (fun ls hl => ?_)
        refine lv_aload_n hx hb dL_law_1100 rfl (lv_at hl 5 rfl) ?_
        refine q_callI (r := nI 0) (va_runV (As := []) (rest := []) ⟨hx, hb, hml, hown, hts⟩ (kX1_thrown l D h2 ad2 cI cJ cZ td gc ex mpa di mu dc dg da dh dt dv dd ms ak se mr 0) (cwV 0 hts gL_law_X1_thrown rfl rfl rfl (by decide +kernel) ⟨Nat.le_of_ble_eq_true rfl, Nat.le_of_ble_eq_true rfl⟩) ⟨pP_blind, va_recv hK (va_Pl hP) (ci := 1) (q0 := 0) rfl rfl, pP_pre (va_Pl hP) hK⟩ rfl rfl hl.1 rfl (lv_room (Nat.le_of_ble_eq_true rfl)) dL_law_1101 ⟨hrc0, hrs0⟩) ?_
        refine lv_iload hx hb dL_law_1104 (lv_at hl 1 rfl) ?_
        refine lv_icmp_eq (tgt := 1111) hx hb dL_law_1106 (by decide) (fun _ => ?_) (fun z => absurd rfl z)
        refine lv_iload hx hb dL_law_1111 (lv_at hl 1 rfl) ?_
        refine lv_if_ne (tgt := 1128) hx hb dL_law_1113 (by decide) (fun z => absurd (by decide) z) (fun _ => ?_)
        refine lv_aload_n hx hb dL_law_1116 rfl (lv_at hl 6 rfl) ?_
        refine lv_iconst (v := nI 0) hx hb dL_law_1117 (by decide) ?_
        refine va_lald hx hb hK (va_Pr hP) 14 2 rfl rfl (vp_in_nI (by decide) (by decide)) dL_law_1118 ?_
        refine q_topL (y := (lN (bset (lck ex pa ho dv ak g sp tp) 6))) vpU ?_
        refine lv_iload hx hb dL_law_1119 (lv_at hl 0 rfl) ?_
        refine lv_i2l (v := (lN (bset (lck ex pa ho dv ak g sp tp) 6))) hx hb dL_law_1121 (by rw [mis_eq hT hg]; exact nI_l hbl2) ?_
        refine W.lcmp hx hb dL_law_1122 ?_
        refine lv_if_eq (tgt := 1128) hx hb dL_law_1123 (by decide) (fun _ => ?_) (fun z => absurd ((lg_cmp_eq _ _).mpr rfl) z)
        have hP := va_Psw hP
        have hD := va_Dsw hD
        refine lv_goto (tgt := 1367) hx hb dL_law_1128 (by decide) ?_
        refine W.widen (k := cells + 1) (n := slots + 6) (by omega) (by omega) ?_
        exact K (vp_updL f 0 (lN (bset (lck ex pa ho dv ak g sp tp) 6))) lev ex pa mpa di qu mu gc dg dp da dh dt dv dd ds ms dc td ho ak se pr mr 0 H locs ls ⟨hT, hQ, hB, hSR, hPP, hPM, by omega, hmz⟩ hP hD hS (lv_sub hl [2, 3, 4, 5, 6] rfl)

set_option maxHeartbeats 8000000 in
set_option maxRecDepth 100000 in
theorem lc_complete {p : Program} {l : Launch} {e : Env} {s : State} {m : MethodId} {below : List Frame} {meth : Method} {c : Code} {b L : Nat} {xs : Nat → Int32} {D : va_G} {cI cJ cZ : ClassId} {h : Nat} {ad : Nat → Nat} {h2 : Nat} {ad2 : Nat → Nat} {ob : Nat} (X0 : LCX p s m meth c b L xs D cI cJ cZ) (hlf : l.stackTraces = false) {i n cells slots : Nat} (hi : i + 7 ≤ L) (hL : L ≤ 3584) (hn : n ≤ 512) (hrc : cells + 1 ≤ 1078) (hrs : slots + 6 ≤ 14711) (K : LK p l e s m below meth c b D cI cJ cZ h ad h2 ad2 ob i (cells + 1) (slots + 6) (n + 1))
    (f : Nat → Int64) (lev : Nat → Nat) (ex : Nat → Bool) (pa mpa : Nat → Option Nat) (di qu mu : Nat → Nat) (gc : Nat) (dg dp da : Nat → Nat) (dh dt dv : Nat → Option Nat) (dd ds ms : Nat → Nat) (dc td : Nat) (ho : Nat → Option Nat) (ak : Nat → Bool) (se pr mr : Nat → Option Nat) (th : Nat) (hI : LI n lev ex pa mpa di qu mu gc dg dp da dh dt dv dd ds ms dc td ho se pr mr) (H : Heap) (locs : List Loc) (hP : va_P D vwCl (((hW h ad cI cZ ex pa di qu gc dg dp dv dd ds dc td ho ak se pr) ++ [(ob, .inl (cJ, 1, .inr (.inl f)))]) ++ (mW h2 ad2 cI cJ cZ td gc ex mpa di mu dc dg da dh dt dv dd ms ak se mr th)) H) (hD : va_D (fun q : Nat => s.heap.size ≤ q) (((hW h ad cI cZ ex pa di qu gc dg dp dv dd ds dc td ho ak se pr) ++ [(ob, .inl (cJ, 1, .inr (.inl f)))]) ++ (mW h2 ad2 cI cJ cZ td gc ex mpa di mu dc dg da dh dt dv dd ms ak se mr th))) (hS : va_S (fun q : Nat => s.heap.size ≤ q) s.heap H locs) (ls : Array Slot) (hl : lv_has ls 7 [(4, .int (nI i)), (0, .ref b), (1, .ref h), (2, .ref h2), (3, .ref ob)]) : W p l e room_1 s m #[Value.ref b] below meth c H locs cells slots (lw_Z below #[Value.ref b] s) (F0 m 1131 ls []) := by
  obtain ⟨C0, hK, hE, hN⟩ := X0
  obtain ⟨hx, hb, hr, hml, hown, hts0, hX, hbl, hlocks, -⟩ := id C0
  have hts : ∀ w ∈ wsL_law, w.before #[Value.ref b] s = true := fun w hw => hts0 w (wsL_law_in w hw)
  have hA : ∀ q : Nat, s.heap.size ≤ q → (fun q : Nat => s.heap.size ≤ q) q := fun _ h => h
  have hbA : ¬ (fun q : Nat => s.heap.size ≤ q) b := Nat.not_le.mpr hbl
  have hrc0 : cells ≤ 1078 := by omega
  have hrs0 : slots ≤ 14711 := by omega
  obtain ⟨hT, hQ, hB, hSR, hPP, hPM, htd, hmz⟩ := hI
  obtain ⟨hti, hme, hpr, hmpr, hpn, hgc, hxg⟩ := id hT
  have htim : TI ex mpa lev := TI_cong hme hti
  obtain ⟨hdi, hqu, hmu, hPT, hmu0⟩ := id hQ
  obtain ⟨hrd, hDR, hds, hho, hdv, hdgc⟩ := id hB
  have hHO := BR_HO hB
  have hRH := BR_RH hB
  have hdp := BR_dp hB
  obtain ⟨hdc, htdl, hdg, hda, hdh, hdt, hdd, hms2⟩ := id hrd
  rcases k_ix 3 (by decide) (xs (i + 1)) with hs | ⟨sp, hs, e1⟩
  · refine lv_aload_n hx hb dL_law_1131 rfl (lv_at hl 2 rfl) ?_
    refine lq_arg (k := 1) (y := xs (i + 1)) hx hb hX hbl hbA hS hl 1 0 rfl rfl (show i + 1 < L by omega) (by omega) (by decide) (rfl) dL_law_1132 dL_law_1133 dL_law_1135 dL_law_1136 dL_law_1137 ?_
    refine lv_aload_n hx hb dL_law_1138 rfl (lv_at hl 4 rfl) ?_
    refine q_ecall (k := 1) (vx_runSW (As := [.ref h, .int (xs (i + 1)), .ref ob]) (rest := []) ⟨hx, hb, hml, hown, hts⟩ (kL_completeXI l D h ad cI cZ ex pa di qu gc dg dp dv dd ds dc td ho ak se pr hlf ob (xs (i + 1)) hs) (vx_cwSW 3 hts gL_law_L_complete rfl rfl rfl (by decide +kernel) ⟨Nat.le_of_ble_eq_true rfl, Nat.le_of_ble_eq_true rfl⟩) ⟨tN_blind, tN_pre (va_Pl (va_Pl hP)) (hK.sub [0, 1] rfl) (tEA_at hE hS) hN⟩ rfl rfl hl.1 rfl (lv_room (Nat.le_of_ble_eq_true rfl)) dL_law_1139 ⟨hrc, hrs⟩) hP hS (fun H hP hS => ?_)
    refine lv_istore (lv' := [(5, .int (nI 1)), (4, .int (nI i)), (0, .ref b), (1, .ref h), (2, .ref h2), (3, .ref ob)]) hx hb dL_law_1142 hl (by decide) rfl (fun ls hl => ?_)
    refine lv_aload_n hx hb dL_law_1144 rfl (lv_at hl 4 rfl) ?_
    refine lq_arg (k := 1) (y := xs (i + 1)) hx hb hX hbl hbA hS hl 2 1 rfl rfl (show i + 1 < L by omega) (by omega) (by decide) (rfl) dL_law_1145 dL_law_1146 dL_law_1148 dL_law_1149 dL_law_1150 ?_
    have hP := va_Psw hP
    have hD := va_Dsw hD
    refine q_wcallFI (wa' := (mW h2 ad2 cI cJ cZ td gc ex mpa di mu dc dg da dh dt dv dd ms ak se mr 1)) (wb := ((hW h ad cI cZ ex pa di qu gc dg dp dv dd ds dc td ho ak se pr) ++ [(ob, .inl (cJ, 1, .inr (.inl f)))])) (r := nI 0) (va_runV (As := [.int (xs (i + 1))]) (rest := []) ⟨hx, hb, hml, hown, hts⟩ (kX1_complete1 l D h2 ad2 cI cJ cZ td gc ex mpa di mu dc dg da dh dt dv dd ms ak se mr th _ (xs (i + 1)) hs) (cwV 1 hts gL_law_X1_complete rfl rfl rfl (by decide +kernel) ⟨Nat.le_of_ble_eq_true rfl, Nat.le_of_ble_eq_true rfl⟩) ⟨wP_blind, va_recv hK (va_Pl hP) (ci := 1) (q0 := 0) rfl rfl, wP_pre (va_Pl hP) hK (va_Dl hD)⟩ rfl rfl hl.1 rfl (lv_room (Nat.le_of_ble_eq_true rfl)) dL_law_1151 ⟨hrc, hrs⟩) hP hD hS hA rfl (fun H locs hP hD hS => ?_)
    refine lv_istore (lv' := [(6, .int (nI 0)), (5, .int (nI 1)), (4, .int (nI i)), (0, .ref b), (1, .ref h), (2, .ref h2), (3, .ref ob)]) hx hb dL_law_1154 hl (by decide) rfl (fun ls hl => ?_)
    refine lv_aload_n hx hb dL_law_1156 rfl (lv_at hl 5 rfl) ?_
    refine q_callI (r := nI 1) (va_runV (As := []) (rest := []) ⟨hx, hb, hml, hown, hts⟩ (kX1_thrown l D h2 ad2 cI cJ cZ td gc ex mpa di mu dc dg da dh dt dv dd ms ak se mr 1) (cwV 0 hts gL_law_X1_thrown rfl rfl rfl (by decide +kernel) ⟨Nat.le_of_ble_eq_true rfl, Nat.le_of_ble_eq_true rfl⟩) ⟨pP_blind, va_recv hK (va_Pl hP) (ci := 1) (q0 := 0) rfl rfl, pP_pre (va_Pl hP) hK⟩ rfl rfl hl.1 rfl (lv_room (Nat.le_of_ble_eq_true rfl)) dL_law_1157 ⟨hrc, hrs⟩) ?_
    refine lv_iload hx hb dL_law_1160 (lv_at hl 1 rfl) ?_
    refine lv_icmp_eq (tgt := 1167) hx hb dL_law_1162 (by decide) (fun _ => ?_) (fun z => absurd rfl z)
    refine lv_iload hx hb dL_law_1167 (lv_at hl 1 rfl) ?_
    refine lv_if_ne (tgt := 1184) hx hb dL_law_1169 (by decide) (fun _ => ?_) (fun z => absurd z (by decide))
    have hP := va_Psw hP
    have hD := va_Dsw hD
    refine lv_goto (tgt := 1367) hx hb dL_law_1184 (by decide) ?_
    exact K f lev ex pa mpa di qu mu gc dg dp da dh dt dv dd ds ms dc td ho ak se pr mr 1 H locs ls ⟨hT, hQ, hB, hSR, hPP, hPM, by omega, hmz⟩ hP hD hS (lv_sub hl [2, 3, 4, 5, 6] rfl)
  · have hb2 : cnt (cpl ex pa ho dv ak sp) 16 < 2147483648 := Nat.lt_of_le_of_lt (cnt_le _ _) (by decide)
    refine lv_aload_n hx hb dL_law_1131 rfl (lv_at hl 2 rfl) ?_
    refine lq_arg (k := 1) (y := nI sp) hx hb hX hbl hbA hS hl 1 0 rfl rfl (show i + 1 < L by omega) (by omega) (by decide) (e1) dL_law_1132 dL_law_1133 dL_law_1135 dL_law_1136 dL_law_1137 ?_
    refine lv_aload_n hx hb dL_law_1138 rfl (lv_at hl 4 rfl) ?_
    refine q_wcallFI (wa' := ((hW h ad cI cZ ex pa di qu gc dg dp dv dd ds dc td ho ak se pr) ++ [(ob, .inl (cJ, 1, .inr (.inl (vp_updL f 0 (lN (cnt (cpl ex pa ho dv ak sp) 16))))))])) (wb := (mW h2 ad2 cI cJ cZ td gc ex mpa di mu dc dg da dh dt dv dd ms ak se mr th)) (r := nI 0) (vx_runSW (As := [.ref h, .int (nI sp), .ref ob]) (rest := []) ⟨hx, hb, hml, hown, hts⟩ (kL_complete l D h ad cI cZ ex pa di qu gc dg dp dv dd ds dc td ho ak se pr cJ ob f _ sp hs hpr hHO hdc hdv hb2) (vx_cwSW 3 hts gL_law_L_complete rfl rfl rfl (by decide +kernel) ⟨Nat.le_of_ble_eq_true rfl, Nat.le_of_ble_eq_true rfl⟩) ⟨wP_blind, wP_pre (va_Pl hP) hK (va_Dl hD)⟩ rfl rfl hl.1 rfl (lv_room (Nat.le_of_ble_eq_true rfl)) dL_law_1139 ⟨hrc0, hrs0⟩) hP hD hS hA rfl (fun H locs hP hD hS => ?_)
    refine lv_istore (lv' := [(5, .int (nI 0)), (4, .int (nI i)), (0, .ref b), (1, .ref h), (2, .ref h2), (3, .ref ob)]) hx hb dL_law_1142 hl (by decide) rfl (fun ls hl => ?_)
    refine lv_aload_n hx hb dL_law_1144 rfl (lv_at hl 4 rfl) ?_
    refine lq_arg (k := 1) (y := nI sp) hx hb hX hbl hbA hS hl 2 1 rfl rfl (show i + 1 < L by omega) (by omega) (by decide) (e1) dL_law_1145 dL_law_1146 dL_law_1148 dL_law_1149 dL_law_1150 ?_
    have hP := va_Psw hP
    have hD := va_Dsw hD
    refine q_wcallFI (wa' := (mW h2 ad2 cI cJ cZ td gc ex mpa di mu dc dg da dh dt dv dd ms ak se mr 0)) (wb := ((hW h ad cI cZ ex pa di qu gc dg dp dv dd ds dc td ho ak se pr) ++ [(ob, .inl (cJ, 1, .inr (.inl (vp_updL f 0 (lN (cnt (cpl ex pa ho dv ak sp) 16))))))])) (r := nI (cnt (cpl ex mpa ho dv ak sp) gc)) (va_runV (As := [.int (nI sp)]) (rest := []) ⟨hx, hb, hml, hown, hts⟩ (kX1_complete l D h2 ad2 cI cJ cZ td gc ex mpa di mu dc dg da dh dt dv dd ms ak se mr th _ ho lev sp htim hs hgc hrd hRH hmpr hHO hdv) (cwV 1 hts gL_law_X1_complete rfl rfl rfl (by decide +kernel) ⟨Nat.le_of_ble_eq_true rfl, Nat.le_of_ble_eq_true rfl⟩) ⟨wP_blind, va_recv hK (va_Pl hP) (ci := 1) (q0 := 0) rfl rfl, wP_pre (va_Pl hP) hK (va_Dl hD)⟩ rfl rfl hl.1 rfl (lv_room (Nat.le_of_ble_eq_true rfl)) dL_law_1151 ⟨hrc0, hrs0⟩) hP hD hS hA rfl (fun H locs hP hD hS => ?_)
    refine lv_istore (lv' := [(6, .int (nI (cnt (cpl ex mpa ho dv ak sp) gc))), (5, .int (nI 0)), (4, .int (nI i)), (0, .ref b), (1, .ref h), (2, .ref h2), (3, .ref ob)]) hx hb dL_law_1154 hl (by decide) rfl (fun ls hl => ?_)
    refine lv_aload_n hx hb dL_law_1156 rfl (lv_at hl 5 rfl) ?_
    refine q_callI (r := nI 0) (va_runV (As := []) (rest := []) ⟨hx, hb, hml, hown, hts⟩ (kX1_thrown l D h2 ad2 cI cJ cZ td gc ex mpa di mu dc dg da dh dt dv dd ms ak se mr 0) (cwV 0 hts gL_law_X1_thrown rfl rfl rfl (by decide +kernel) ⟨Nat.le_of_ble_eq_true rfl, Nat.le_of_ble_eq_true rfl⟩) ⟨pP_blind, va_recv hK (va_Pl hP) (ci := 1) (q0 := 0) rfl rfl, pP_pre (va_Pl hP) hK⟩ rfl rfl hl.1 rfl (lv_room (Nat.le_of_ble_eq_true rfl)) dL_law_1157 ⟨hrc0, hrs0⟩) ?_
    refine lv_iload hx hb dL_law_1160 (lv_at hl 1 rfl) ?_
    refine lv_icmp_eq (tgt := 1167) hx hb dL_law_1162 (by decide) (fun _ => ?_) (fun z => absurd rfl z)
    refine lv_iload hx hb dL_law_1167 (lv_at hl 1 rfl) ?_
    refine lv_if_ne (tgt := 1184) hx hb dL_law_1169 (by decide) (fun z => absurd (by decide) z) (fun _ => ?_)
    refine lv_aload_n hx hb dL_law_1172 rfl (lv_at hl 6 rfl) ?_
    refine lv_iconst (v := nI 0) hx hb dL_law_1173 (by decide) ?_
    refine va_lald hx hb hK (va_Pr hP) 14 2 rfl rfl (vp_in_nI (by decide) (by decide)) dL_law_1174 ?_
    refine q_topL (y := (lN (cnt (cpl ex pa ho dv ak sp) 16))) vpU ?_
    refine lv_iload hx hb dL_law_1175 (lv_at hl 0 rfl) ?_
    refine lv_i2l (v := (lN (cnt (cpl ex pa ho dv ak sp) 16))) hx hb dL_law_1177 (by rw [cmp_eq hT]; exact nI_l hb2) ?_
    refine W.lcmp hx hb dL_law_1178 ?_
    refine lv_if_eq (tgt := 1184) hx hb dL_law_1179 (by decide) (fun _ => ?_) (fun z => absurd ((lg_cmp_eq _ _).mpr rfl) z)
    have hP := va_Psw hP
    have hD := va_Dsw hD
    refine lv_goto (tgt := 1367) hx hb dL_law_1184 (by decide) ?_
    refine W.widen (k := cells + 1) (n := slots + 6) (by omega) (by omega) ?_
    exact K (vp_updL f 0 (lN (cnt (cpl ex pa ho dv ak sp) 16))) lev ex pa mpa di qu mu gc dg dp da dh dt dv dd ds ms dc td ho ak se pr mr 0 H locs ls ⟨hT, hQ, hB, hSR, hPP, hPM, by omega, hmz⟩ hP hD hS (lv_sub hl [2, 3, 4, 5, 6] rfl)
