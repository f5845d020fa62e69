theorem LI_up {n : Nat} {lev : Nat → Nat} {ex : Nat → Bool} {pa mpa : Nat → Option Nat} {di qu mu : Nat → Nat} {gc : Nat} {dg dp da : Nat → Nat} {dh dt dv : Nat → Option Nat} {dd ds ms : Nat → Nat} {dc td : Nat} {ho : Nat → Option Nat} {se pr mr : Nat → Option Nat}  (hI : LI n lev ex pa mpa di qu mu gc dg dp da dh dt dv dd ds ms dc td ho se pr mr) : LI (n + 1) lev ex pa mpa di qu mu gc dg dp da dh dt dv dd ds ms dc td ho se pr mr := by
  obtain ⟨h1, h2, h3, h4, h5, h6, h7, h8⟩ := hI
  exact ⟨h1, h2, h3, h4, h5, h6, by omega, h8⟩
set_option maxHeartbeats 8000000 in
set_option maxRecDepth 100000 in
/-- the law's loop -/
theorem law_loop {p : Program} {l : Launch} {e : Env} {s : State} {m : MethodId} {below : List Frame} {meth : Method} {c : Code} {b L : Nat} {xs : Nat → Int32} {D : va_G} {cI cJ cZ : ClassId} {h : Nat} {ad : Nat → Nat} {h2 : Nat} {ad2 : Nat → Nat} {ob : Nat} (X0 : LCX p s m meth c b L xs D cI cJ cZ) (hlf : l.stackTraces = false) (hL : L ≤ 3584) : ∀ (g k : Nat), L < 7 * k + g → 7 * k ≤ L → ∀ (f : Nat → Int64) (lev : Nat → Nat) (ex : Nat → Bool) (pa mpa : Nat → Option Nat) (di qu mu : Nat → Nat) (gc : Nat) (dg dp da : Nat → Nat) (dh dt dv : Nat → Option Nat) (dd ds ms : Nat → Nat) (dc td : Nat) (ho : Nat → Option Nat) (ak : Nat → Bool) (se pr mr : Nat → Option Nat) (th : Nat) (H : Heap) (locs : List Loc) (ls : Array Slot), LI k lev ex pa mpa di qu mu gc dg dp da dh dt dv dd ds ms dc td ho se pr mr → va_P D vwCl (((hW h ad cI cZ ex pa di qu gc dg dp dv dd ds dc td ho ak se pr) ++ [(ob, .inl (cJ, 1, .inr (.inl f)))]) ++ (mW h2 ad2 cI cJ cZ td gc ex mpa di mu dc dg da dh dt dv dd ms ak se mr th)) H → va_D (fun q : Nat => s.heap.size ≤ q) (((hW h ad cI cZ ex pa di qu gc dg dp dv dd ds dc td ho ak se pr) ++ [(ob, .inl (cJ, 1, .inr (.inl f)))]) ++ (mW h2 ad2 cI cJ cZ td gc ex mpa di mu dc dg da dh dt dv dd ms ak se mr th)) → va_S (fun q : Nat => s.heap.size ≤ q) s.heap H locs → lv_has ls 7 [(4, .int (nI (7 * k))), (0, .ref b), (1, .ref h), (2, .ref h2), (3, .ref ob)] → W p l e room_1 s m #[Value.ref b] below meth c H locs (30 + k) (6375 + 6 * k) (lw_Z below #[Value.ref b] s) (F0 m 23 ls []) := by
  obtain ⟨C0, hK, hE, hN⟩ := id X0
  obtain ⟨hx, hb, hr, hml, hown, hts0, hX, hbl, hlocks, -⟩ := id C0
  have hbA : ¬ (fun q : Nat => s.heap.size ≤ q) b := Nat.not_le.mpr hbl
  intro g
  induction g with
  | zero => intro k g1 g2; exact absurd g1 (by omega)
  | succ g ih =>
    intro k g1 g2 f lev ex pa mpa di qu mu gc dg dp da dh dt dv dd ds ms dc td ho ak se pr mr th H locs ls hI hP hD hS hl
    have hbody : 7 * k + 7 ≤ L → LK p l e s m below meth c b D cI cJ cZ h ad h2 ad2 ob (7 * k) (30 + k + 1) (6375 + 6 * k + 6) (k + 1) := by
      intro g3 f lev ex pa mpa di qu mu gc dg dp da dh dt dv dd ds ms dc td ho ak se pr mr th H locs ls hI hP hD hS hl
      refine lv_iinc (v := nI (7 * (k + 1))) (lv' := [(4, .int (nI (7 * (k + 1)))), (0, .ref b), (1, .ref h), (2, .ref h2), (3, .ref ob)]) hx hb dL_law_1367 hl (k := 0) rfl (by rw [show 7 * (k + 1) = 7 * k + 7 by omega, show Int32.ofInt 7 = nI 7 by decide]; exact nI_add (7 * k) 7) (by decide) rfl (fun ls hl => ?_)
      refine lv_goto (tgt := 23) hx hb dL_law_1370 (by decide) ?_
      refine W.widen (k := 30 + (k + 1)) (n := 6375 + 6 * (k + 1)) (by omega) (by omega) ?_
      exact ih (k + 1) (by omega) (by omega) f lev ex pa mpa di qu mu gc dg dp da dh dt dv dd ds ms dc td ho ak se pr mr th H locs ls hI hP hD hS hl
    refine lv_iload hx hb dL_law_23 (lv_at hl 0 rfl) ?_
    refine lv_aload_n hx hb dL_law_25 rfl (lv_at hl 1 rfl) ?_
    refine va_slen hx hb hX hbl hbA hS dL_law_26 ?_
    refine lv_bipush (v := nI 7) hx hb dL_law_27 (by decide) ?_
    refine q_top (y := zI ((7 : Nat) : Int)) (nz 7) ?_
    refine q_top2 (y := zI ((L : Nat) : Int)) (nz L) ?_
    refine q_subZ hx hb dL_law_29 ?_
    refine q_top2 (y := zI ((7 * k : Nat) : Int)) (nz (7 * k)) ?_
    refine q_icmpZ_gt (a := ((7 * k : Nat) : Int)) (b := ((L : Nat) : Int) - ((7 : Nat) : Int)) (tgt := 1373) (by omega) (by omega) hx hb dL_law_30 (by decide) (fun c0 => ?_) (fun c0 => ?_)
    · refine va_forget (fun q hq => hS.2.2 q hq) ?_
      refine W.widen (k := 1078) (n := 14711) (by omega) (by omega) ?_
      refine lv_iconst (v := 1) hx hb dL_law_1373 (by decide) ?_
      exact lw_ret hx hb hr hlocks dL_law_1374
    · have g3 : 7 * k + 7 ≤ L := by omega
      have K := hbody g3
      refine lv_aload_n hx hb dL_law_33 rfl (lv_at hl 1 rfl) ?_
      refine lv_iload hx hb dL_law_34 (lv_at hl 0 rfl) ?_
      refine va_sld hx hb hX hbl hbA hS (vp_in_nI (by omega) (by omega)) dL_law_36 ?_
      refine lv_bipush (v := nI 31) hx hb dL_law_37 (by decide) ?_
      refine lv_iand hx hb dL_law_39 ?_
      obtain ⟨w, hw, ew⟩ := pk_andE (xs (nI (7 * k)).toNatClampNeg) (m := nI 31) 5 (by decide)
      refine q_top (y := nI w) ew ?_
      by_cases c1 : w < 18
      · rcases (show w = 0 ∨ w = 1 ∨ w = 2 ∨ w = 3 ∨ w = 4 ∨ w = 5 ∨ w = 6 ∨ w = 7 ∨ w = 8 ∨ w = 9 ∨ w = 10 ∨ w = 11 ∨ w = 12 ∨ w = 13 ∨ w = 14 ∨ w = 15 ∨ w = 16 ∨ w = 17 by omega) with rfl | rfl | rfl | rfl | rfl | rfl | rfl | rfl | rfl | rfl | rfl | rfl | rfl | rfl | rfl | rfl | rfl | rfl
        · refine lv_tableIn (off := 88) (tgt := 128) hx hb dL_law_40 (by decide) (by decide) (by decide) (by decide) ?_
          exact lc_addGood X0 hlf g3 hL (by omega) (by omega) (by omega) K f lev ex pa mpa di qu mu gc dg dp da dh dt dv dd ds ms dc td ho ak se pr mr th hI H locs hP hD hS ls hl
        · refine lv_tableIn (off := 144) (tgt := 184) hx hb dL_law_40 (by decide) (by decide) (by decide) (by decide) ?_
          exact lc_move X0 hlf g3 hL (by omega) (by omega) (by omega) K f lev ex pa mpa di qu mu gc dg dp da dh dt dv dd ds ms dc td ho ak se pr mr th hI H locs hP hD hS ls hl
        · refine lv_tableIn (off := 212) (tgt := 252) hx hb dL_law_40 (by decide) (by decide) (by decide) (by decide) ?_
          exact lc_delete X0 hlf g3 hL (by omega) (by omega) (by omega) K f lev ex pa mpa di qu mu gc dg dp da dh dt dv dd ds ms dc td ho ak se pr mr th hI H locs hP hD hS ls hl
        · refine lv_tableIn (off := 248) (tgt := 288) hx hb dL_law_40 (by decide) (by decide) (by decide) (by decide) ?_
          exact lc_addPart X0 hlf g3 hL (by omega) (by omega) (by omega) K f lev ex pa mpa di qu mu gc dg dp da dh dt dv dd ds ms dc td ho ak se pr mr th hI H locs hP hD hS ls hl
        · refine lv_tableIn (off := 328) (tgt := 368) hx hb dL_law_40 (by decide) (by decide) (by decide) (by decide) ?_
          exact lc_setDiscount X0 hlf g3 hL (by omega) (by omega) (by omega) K f lev ex pa mpa di qu mu gc dg dp da dh dt dv dd ds ms dc td ho ak se pr mr th hI H locs hP hD hS ls hl
        · refine lv_tableIn (off := 396) (tgt := 436) hx hb dL_law_40 (by decide) (by decide) (by decide) (by decide) ?_
          exact lc_draft X0 hlf g3 hL (by omega) (by omega) (by omega) K f lev ex pa mpa di qu mu gc dg dp da dh dt dv dd ds ms dc td ho ak se pr mr th hI H locs hP hD hS ls hl
        · refine lv_tableIn (off := 514) (tgt := 554) hx hb dL_law_40 (by decide) (by decide) (by decide) (by decide) ?_
          exact lc_approve X0 hlf g3 hL (by omega) (by omega) (by omega) K f lev ex pa mpa di qu mu gc dg dp da dh dt dv dd ds ms dc td ho ak se pr mr th hI H locs hP hD hS ls hl
        · refine lv_tableIn (off := 577) (tgt := 617) hx hb dL_law_40 (by decide) (by decide) (by decide) (by decide) ?_
          exact lc_reject X0 hlf g3 hL (by omega) (by omega) (by omega) K f lev ex pa mpa di qu mu gc dg dp da dh dt dv dd ds ms dc td ho ak se pr mr th hI H locs hP hD hS ls hl
        · refine lv_tableIn (off := 640) (tgt := 680) hx hb dL_law_40 (by decide) (by decide) (by decide) (by decide) ?_
          exact lc_pass X0 hlf g3 hL (by omega) (by omega) (by omega) K f lev ex pa mpa di qu mu gc dg dp da dh dt dv dd ds ms dc td ho ak se pr mr th hI H locs hP hD hS ls hl
        · refine lv_tableIn (off := 696) (tgt := 736) hx hb dL_law_40 (by decide) (by decide) (by decide) (by decide) ?_
          exact lc_value X0 hlf g3 hL (by omega) (by omega) (by omega) K f lev ex pa mpa di qu mu gc dg dp da dh dt dv dd ds ms dc td ho ak se pr mr th hI H locs hP hD hS ls hl
        · refine lv_tableIn (off := 788) (tgt := 828) hx hb dL_law_40 (by decide) (by decide) (by decide) (by decide) ?_
          exact lc_origin X0 hlf g3 hL (by omega) (by omega) (by omega) K f lev ex pa mpa di qu mu gc dg dp da dh dt dv dd ds ms dc td ho ak se pr mr th hI H locs hP hD hS ls hl
        · refine lv_tableIn (off := 880) (tgt := 920) hx hb dL_law_40 (by decide) (by decide) (by decide) (by decide) ?_
          exact lc_told X0 hlf g3 hL (by omega) (by omega) (by omega) K f lev ex pa mpa di qu mu gc dg dp da dh dt dv dd ds ms dc td ho ak se pr mr th hI H locs hP hD hS ls hl
        · refine lv_tableIn (off := 936) (tgt := 976) hx hb dL_law_40 (by decide) (by decide) (by decide) (by decide) ?_
          exact lc_toggleAsked X0 hlf g3 hL (by omega) (by omega) (by omega) K f lev ex pa mpa di qu mu gc dg dp da dh dt dv dd ds ms dc td ho ak se pr mr th hI H locs hP hD hS ls hl
        · refine lv_tableIn (off := 1011) (tgt := 1051) hx hb dL_law_40 (by decide) (by decide) (by decide) (by decide) ?_
          exact lc_missing X0 hlf g3 hL (by omega) (by omega) (by omega) K f lev ex pa mpa di qu mu gc dg dp da dh dt dv dd ds ms dc td ho ak se pr mr th hI H locs hP hD hS ls hl
        · refine lv_tableIn (off := 1091) (tgt := 1131) hx hb dL_law_40 (by decide) (by decide) (by decide) (by decide) ?_
          exact lc_complete X0 hlf g3 hL (by omega) (by omega) (by omega) K f lev ex pa mpa di qu mu gc dg dp da dh dt dv dd ds ms dc td ho ak se pr mr th hI H locs hP hD hS ls hl
        · refine lv_tableIn (off := 1147) (tgt := 1187) hx hb dL_law_40 (by decide) (by decide) (by decide) (by decide) ?_
          exact lc_price X0 hlf g3 hL (by omega) (by omega) (by omega) K f lev ex pa mpa di qu mu gc dg dp da dh dt dv dd ds ms dc td ho ak se pr mr th hI H locs hP hD hS ls hl
        · refine lv_tableIn (off := 1215) (tgt := 1255) hx hb dL_law_40 (by decide) (by decide) (by decide) (by decide) ?_
          exact lc_changed X0 hlf g3 hL (by omega) (by omega) (by omega) K f lev ex pa mpa di qu mu gc dg dp da dh dt dv dd ds ms dc td ho ak se pr mr th hI H locs hP hD hS ls hl
        · refine lv_tableIn (off := 1271) (tgt := 1311) hx hb dL_law_40 (by decide) (by decide) (by decide) (by decide) ?_
          exact lc_feed X0 hlf g3 hL (by omega) (by omega) (by omega) K f lev ex pa mpa di qu mu gc dg dp da dh dt dv dd ds ms dc td ho ak se pr mr th hI H locs hP hD hS ls hl
      · refine lv_tableOut (tgt := 1367) hx hb dL_law_40 (Or.inr (by rw [nI_toInt (by omega)]; omega)) (by decide) ?_
        refine W.widen (k := 30 + k + 1) (n := 6375 + 6 * k + 6) (by omega) (by omega) ?_
        exact K f lev ex pa mpa di qu mu gc dg dp da dh dt dv dd ds ms dc td ho ak se pr mr th H locs ls (LI_up hI) hP hD hS hl
