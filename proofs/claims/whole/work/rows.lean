section
-- ===== PART A: goes FIRST, ahead of the names: the tables' words, and 'selects' of the private methods out of them =====
/-- a private method of a class that the tables say can be made, by its rows of tables_1 -/
def lw_okq (q : MethodName × Nat) : Prop := (q.1.cls ≠ "java/lang/invoke/MethodHandle" ∧ q.1.cls ≠ "java/lang/invoke/VarHandle") ∧ Cond.instantiable q.1.cls q.2 ∈ tables_1 ∧ Cond.privateMethod q.1 ∈ tables_1 ∧ Cond.instanceMethod q.1 ∈ tables_1
theorem lw_p0 : lw_okq (⟨"ShopHub", "checkParent", "(I)V"⟩, 16) := ⟨⟨by decide +kernel, by decide +kernel⟩, List.mem_of_getElem? (i := 12) (by decide +kernel), List.mem_of_getElem? (i := 80) (by decide +kernel), List.mem_of_getElem? (i := 81) (by decide +kernel)⟩
theorem lw_p1 : lw_okq (⟨"ShopHub", "isGood", "(I)Z"⟩, 16) := ⟨⟨by decide +kernel, by decide +kernel⟩, List.mem_of_getElem? (i := 12) (by decide +kernel), List.mem_of_getElem? (i := 84) (by decide +kernel), List.mem_of_getElem? (i := 85) (by decide +kernel)⟩
theorem lw_p2 : lw_okq (⟨"java/lang/Throwable", "fillInStackTrace", "(I)Ljava/lang/Throwable;"⟩, 6) := ⟨⟨by decide +kernel, by decide +kernel⟩, List.mem_of_getElem? (i := 126) (by decide +kernel), List.mem_of_getElem? (i := 124) (by decide +kernel), List.mem_of_getElem? (i := 125) (by decide +kernel)⟩
theorem lw_p3 : lw_okq (⟨"ShopHub", "levelOf", "(I)I"⟩, 16) := ⟨⟨by decide +kernel, by decide +kernel⟩, List.mem_of_getElem? (i := 12) (by decide +kernel), List.mem_of_getElem? (i := 156) (by decide +kernel), List.mem_of_getElem? (i := 157) (by decide +kernel)⟩
theorem lw_p4 : lw_okq (⟨"ShopHub", "checkGood", "(I)V"⟩, 16) := ⟨⟨by decide +kernel, by decide +kernel⟩, List.mem_of_getElem? (i := 12) (by decide +kernel), List.mem_of_getElem? (i := 184) (by decide +kernel), List.mem_of_getElem? (i := 185) (by decide +kernel)⟩
theorem lw_p5 : lw_okq (⟨"ShopHub", "isWithin", "(II)Z"⟩, 16) := ⟨⟨by decide +kernel, by decide +kernel⟩, List.mem_of_getElem? (i := 12) (by decide +kernel), List.mem_of_getElem? (i := 189) (by decide +kernel), List.mem_of_getElem? (i := 190) (by decide +kernel)⟩
theorem lw_p6 : lw_okq (⟨"ShopHub", "levelsWithin", "(I)I"⟩, 16) := ⟨⟨by decide +kernel, by decide +kernel⟩, List.mem_of_getElem? (i := 12) (by decide +kernel), List.mem_of_getElem? (i := 194) (by decide +kernel), List.mem_of_getElem? (i := 195) (by decide +kernel)⟩
theorem lw_p7 : lw_okq (⟨"ShopHub", "isParent", "(I)Z"⟩, 16) := ⟨⟨by decide +kernel, by decide +kernel⟩, List.mem_of_getElem? (i := 12) (by decide +kernel), List.mem_of_getElem? (i := 209) (by decide +kernel), List.mem_of_getElem? (i := 210) (by decide +kernel)⟩
theorem lw_p8 : lw_okq (⟨"ShopHub", "isPart", "(I)Z"⟩, 16) := ⟨⟨by decide +kernel, by decide +kernel⟩, List.mem_of_getElem? (i := 12) (by decide +kernel), List.mem_of_getElem? (i := 214) (by decide +kernel), List.mem_of_getElem? (i := 215) (by decide +kernel)⟩
theorem lw_p9 : lw_okq (⟨"ShopHub", "deleteDraftsOf", "(I)V"⟩, 16) := ⟨⟨by decide +kernel, by decide +kernel⟩, List.mem_of_getElem? (i := 12) (by decide +kernel), List.mem_of_getElem? (i := 219) (by decide +kernel), List.mem_of_getElem? (i := 220) (by decide +kernel)⟩
theorem lw_p10 : lw_okq (⟨"ShopHub", "settleHolders", "()V"⟩, 16) := ⟨⟨by decide +kernel, by decide +kernel⟩, List.mem_of_getElem? (i := 12) (by decide +kernel), List.mem_of_getElem? (i := 223) (by decide +kernel), List.mem_of_getElem? (i := 224) (by decide +kernel)⟩
theorem lw_p11 : lw_okq (⟨"ShopHub", "putHolder", "(I)V"⟩, 16) := ⟨⟨by decide +kernel, by decide +kernel⟩, List.mem_of_getElem? (i := 12) (by decide +kernel), List.mem_of_getElem? (i := 227) (by decide +kernel), List.mem_of_getElem? (i := 228) (by decide +kernel)⟩
theorem lw_p12 : lw_okq (⟨"ShopHub", "isEntered", "(I)Z"⟩, 16) := ⟨⟨by decide +kernel, by decide +kernel⟩, List.mem_of_getElem? (i := 12) (by decide +kernel), List.mem_of_getElem? (i := 231) (by decide +kernel), List.mem_of_getElem? (i := 232) (by decide +kernel)⟩
theorem lw_p13 : lw_okq (⟨"ShopHub", "checkDraft", "(I)V"⟩, 16) := ⟨⟨by decide +kernel, by decide +kernel⟩, List.mem_of_getElem? (i := 12) (by decide +kernel), List.mem_of_getElem? (i := 302) (by decide +kernel), List.mem_of_getElem? (i := 303) (by decide +kernel)⟩
theorem lw_p14 : lw_okq (⟨"ShopHub", "holdsAtItsPlace", "(I)Z"⟩, 16) := ⟨⟨by decide +kernel, by decide +kernel⟩, List.mem_of_getElem? (i := 12) (by decide +kernel), List.mem_of_getElem? (i := 308) (by decide +kernel), List.mem_of_getElem? (i := 309) (by decide +kernel)⟩
theorem lw_p15 : lw_okq (⟨"ShopHub", "checkSight", "(IIII)V"⟩, 16) := ⟨⟨by decide +kernel, by decide +kernel⟩, List.mem_of_getElem? (i := 12) (by decide +kernel), List.mem_of_getElem? (i := 335) (by decide +kernel), List.mem_of_getElem? (i := 336) (by decide +kernel)⟩
def lw_privs_1 : List (MethodName × Nat) := [(⟨"ShopHub", "checkParent", "(I)V"⟩, 16), (⟨"ShopHub", "isGood", "(I)Z"⟩, 16), (⟨"java/lang/Throwable", "fillInStackTrace", "(I)Ljava/lang/Throwable;"⟩, 6), (⟨"ShopHub", "levelOf", "(I)I"⟩, 16), (⟨"ShopHub", "checkGood", "(I)V"⟩, 16), (⟨"ShopHub", "isWithin", "(II)Z"⟩, 16), (⟨"ShopHub", "levelsWithin", "(I)I"⟩, 16), (⟨"ShopHub", "isParent", "(I)Z"⟩, 16), (⟨"ShopHub", "isPart", "(I)Z"⟩, 16), (⟨"ShopHub", "deleteDraftsOf", "(I)V"⟩, 16), (⟨"ShopHub", "settleHolders", "()V"⟩, 16), (⟨"ShopHub", "putHolder", "(I)V"⟩, 16), (⟨"ShopHub", "isEntered", "(I)Z"⟩, 16), (⟨"ShopHub", "checkDraft", "(I)V"⟩, 16), (⟨"ShopHub", "holdsAtItsPlace", "(I)Z"⟩, 16), (⟨"ShopHub", "checkSight", "(IIII)V"⟩, 16)]
theorem lw_r1 : ∀ q ∈ lw_privs_1, lw_okq q := List.forall_mem_cons.mpr ⟨lw_p0, List.forall_mem_cons.mpr ⟨lw_p1, List.forall_mem_cons.mpr ⟨lw_p2, List.forall_mem_cons.mpr ⟨lw_p3, List.forall_mem_cons.mpr ⟨lw_p4, List.forall_mem_cons.mpr ⟨lw_p5, List.forall_mem_cons.mpr ⟨lw_p6, List.forall_mem_cons.mpr ⟨lw_p7, List.forall_mem_cons.mpr ⟨lw_p8, List.forall_mem_cons.mpr ⟨lw_p9, List.forall_mem_cons.mpr ⟨lw_p10, List.forall_mem_cons.mpr ⟨lw_p11, List.forall_mem_cons.mpr ⟨lw_p12, List.forall_mem_cons.mpr ⟨lw_p13, List.forall_mem_cons.mpr ⟨lw_p14, List.forall_mem_cons.mpr ⟨lw_p15, fun _ h => absurd h List.not_mem_nil⟩⟩⟩⟩⟩⟩⟩⟩⟩⟩⟩⟩⟩⟩⟩⟩
theorem lw_p16 : lw_okq (⟨"ShopHub", "findValue", "(IIII)I"⟩, 16) := ⟨⟨by decide +kernel, by decide +kernel⟩, List.mem_of_getElem? (i := 12) (by decide +kernel), List.mem_of_getElem? (i := 339) (by decide +kernel), List.mem_of_getElem? (i := 340) (by decide +kernel)⟩
theorem lw_p17 : lw_okq (⟨"ShopHub", "findOrigin", "(IIII)I"⟩, 16) := ⟨⟨by decide +kernel, by decide +kernel⟩, List.mem_of_getElem? (i := 12) (by decide +kernel), List.mem_of_getElem? (i := 343) (by decide +kernel), List.mem_of_getElem? (i := 344) (by decide +kernel)⟩
theorem lw_p18 : lw_okq (⟨"ShopHub", "findOwnOrigin", "(IIII)I"⟩, 16) := ⟨⟨by decide +kernel, by decide +kernel⟩, List.mem_of_getElem? (i := 12) (by decide +kernel), List.mem_of_getElem? (i := 347) (by decide +kernel), List.mem_of_getElem? (i := 348) (by decide +kernel)⟩
theorem lw_p19 : lw_okq (⟨"ShopHub", "findMissing", "(III)I"⟩, 16) := ⟨⟨by decide +kernel, by decide +kernel⟩, List.mem_of_getElem? (i := 12) (by decide +kernel), List.mem_of_getElem? (i := 380) (by decide +kernel), List.mem_of_getElem? (i := 381) (by decide +kernel)⟩
theorem lw_p20 : lw_okq (⟨"ShopHub", "isComplete", "(II)Z"⟩, 16) := ⟨⟨by decide +kernel, by decide +kernel⟩, List.mem_of_getElem? (i := 12) (by decide +kernel), List.mem_of_getElem? (i := 391) (by decide +kernel), List.mem_of_getElem? (i := 392) (by decide +kernel)⟩
theorem lw_p21 : lw_okq (⟨"ShopHub", "findPrice", "(II)I"⟩, 16) := ⟨⟨by decide +kernel, by decide +kernel⟩, List.mem_of_getElem? (i := 12) (by decide +kernel), List.mem_of_getElem? (i := 402) (by decide +kernel), List.mem_of_getElem? (i := 403) (by decide +kernel)⟩
theorem lw_p22 : lw_okq (⟨"ShopHub", "sumUpParts", "(I)I"⟩, 16) := ⟨⟨by decide +kernel, by decide +kernel⟩, List.mem_of_getElem? (i := 12) (by decide +kernel), List.mem_of_getElem? (i := 406) (by decide +kernel), List.mem_of_getElem? (i := 407) (by decide +kernel)⟩
theorem lw_p23 : lw_okq (⟨"ShopHub", "findChanged", "(I)I"⟩, 16) := ⟨⟨by decide +kernel, by decide +kernel⟩, List.mem_of_getElem? (i := 12) (by decide +kernel), List.mem_of_getElem? (i := 420) (by decide +kernel), List.mem_of_getElem? (i := 421) (by decide +kernel)⟩
theorem lw_p24 : lw_okq (⟨"ShopHub", "looksChanged", "(II)Z"⟩, 16) := ⟨⟨by decide +kernel, by decide +kernel⟩, List.mem_of_getElem? (i := 12) (by decide +kernel), List.mem_of_getElem? (i := 424) (by decide +kernel), List.mem_of_getElem? (i := 425) (by decide +kernel)⟩
theorem lw_p25 : lw_okq (⟨"ShopHub", "rememberSights", "(II)V"⟩, 16) := ⟨⟨by decide +kernel, by decide +kernel⟩, List.mem_of_getElem? (i := 12) (by decide +kernel), List.mem_of_getElem? (i := 435) (by decide +kernel), List.mem_of_getElem? (i := 436) (by decide +kernel)⟩
theorem lw_p26 : lw_okq (⟨"ShopHubModel", "isGood", "(I)Z"⟩, 18) := ⟨⟨by decide +kernel, by decide +kernel⟩, List.mem_of_getElem? (i := 445) (by decide +kernel), List.mem_of_getElem? (i := 515) (by decide +kernel), List.mem_of_getElem? (i := 516) (by decide +kernel)⟩
theorem lw_p27 : lw_okq (⟨"ShopHubModel", "level", "(I)I"⟩, 18) := ⟨⟨by decide +kernel, by decide +kernel⟩, List.mem_of_getElem? (i := 445) (by decide +kernel), List.mem_of_getElem? (i := 522) (by decide +kernel), List.mem_of_getElem? (i := 523) (by decide +kernel)⟩
theorem lw_p28 : lw_okq (⟨"ShopHubModel", "fails", "(I)Z"⟩, 18) := ⟨⟨by decide +kernel, by decide +kernel⟩, List.mem_of_getElem? (i := 445) (by decide +kernel), List.mem_of_getElem? (i := 526) (by decide +kernel), List.mem_of_getElem? (i := 527) (by decide +kernel)⟩
theorem lw_p29 : lw_okq (⟨"ShopHubModel", "isBelow", "(II)Z"⟩, 18) := ⟨⟨by decide +kernel, by decide +kernel⟩, List.mem_of_getElem? (i := 445) (by decide +kernel), List.mem_of_getElem? (i := 534) (by decide +kernel), List.mem_of_getElem? (i := 535) (by decide +kernel)⟩
theorem lw_p30 : lw_okq (⟨"ShopHubModel", "isDraft", "(I)Z"⟩, 18) := ⟨⟨by decide +kernel, by decide +kernel⟩, List.mem_of_getElem? (i := 445) (by decide +kernel), List.mem_of_getElem? (i := 559) (by decide +kernel), List.mem_of_getElem? (i := 560) (by decide +kernel)⟩
theorem lw_p31 : lw_okq (⟨"ShopHubModel", "isHolding", "(I)Z"⟩, 18) := ⟨⟨by decide +kernel, by decide +kernel⟩, List.mem_of_getElem? (i := 445) (by decide +kernel), List.mem_of_getElem? (i := 563) (by decide +kernel), List.mem_of_getElem? (i := 564) (by decide +kernel)⟩
def lw_privs_2 : List (MethodName × Nat) := [(⟨"ShopHub", "findValue", "(IIII)I"⟩, 16), (⟨"ShopHub", "findOrigin", "(IIII)I"⟩, 16), (⟨"ShopHub", "findOwnOrigin", "(IIII)I"⟩, 16), (⟨"ShopHub", "findMissing", "(III)I"⟩, 16), (⟨"ShopHub", "isComplete", "(II)Z"⟩, 16), (⟨"ShopHub", "findPrice", "(II)I"⟩, 16), (⟨"ShopHub", "sumUpParts", "(I)I"⟩, 16), (⟨"ShopHub", "findChanged", "(I)I"⟩, 16), (⟨"ShopHub", "looksChanged", "(II)Z"⟩, 16), (⟨"ShopHub", "rememberSights", "(II)V"⟩, 16), (⟨"ShopHubModel", "isGood", "(I)Z"⟩, 18), (⟨"ShopHubModel", "level", "(I)I"⟩, 18), (⟨"ShopHubModel", "fails", "(I)Z"⟩, 18), (⟨"ShopHubModel", "isBelow", "(II)Z"⟩, 18), (⟨"ShopHubModel", "isDraft", "(I)Z"⟩, 18), (⟨"ShopHubModel", "isHolding", "(I)Z"⟩, 18)]
theorem lw_r2 : ∀ q ∈ lw_privs_2, lw_okq q := List.forall_mem_cons.mpr ⟨lw_p16, List.forall_mem_cons.mpr ⟨lw_p17, List.forall_mem_cons.mpr ⟨lw_p18, List.forall_mem_cons.mpr ⟨lw_p19, List.forall_mem_cons.mpr ⟨lw_p20, List.forall_mem_cons.mpr ⟨lw_p21, List.forall_mem_cons.mpr ⟨lw_p22, List.forall_mem_cons.mpr ⟨lw_p23, List.forall_mem_cons.mpr ⟨lw_p24, List.forall_mem_cons.mpr ⟨lw_p25, List.forall_mem_cons.mpr ⟨lw_p26, List.forall_mem_cons.mpr ⟨lw_p27, List.forall_mem_cons.mpr ⟨lw_p28, List.forall_mem_cons.mpr ⟨lw_p29, List.forall_mem_cons.mpr ⟨lw_p30, List.forall_mem_cons.mpr ⟨lw_p31, fun _ h => absurd h List.not_mem_nil⟩⟩⟩⟩⟩⟩⟩⟩⟩⟩⟩⟩⟩⟩⟩⟩
theorem lw_p32 : lw_okq (⟨"ShopHubModel", "holds", "(IIII)I"⟩, 18) := ⟨⟨by decide +kernel, by decide +kernel⟩, List.mem_of_getElem? (i := 445) (by decide +kernel), List.mem_of_getElem? (i := 567) (by decide +kernel), List.mem_of_getElem? (i := 568) (by decide +kernel)⟩
theorem lw_p33 : lw_okq (⟨"ShopHubModel", "isPlace", "(IIII)Z"⟩, 18) := ⟨⟨by decide +kernel, by decide +kernel⟩, List.mem_of_getElem? (i := 445) (by decide +kernel), List.mem_of_getElem? (i := 583) (by decide +kernel), List.mem_of_getElem? (i := 584) (by decide +kernel)⟩
theorem lw_p34 : lw_okq (⟨"ShopHubModel", "valueOf", "(IIII)I"⟩, 18) := ⟨⟨by decide +kernel, by decide +kernel⟩, List.mem_of_getElem? (i := 445) (by decide +kernel), List.mem_of_getElem? (i := 590) (by decide +kernel), List.mem_of_getElem? (i := 591) (by decide +kernel)⟩
theorem lw_p35 : lw_okq (⟨"ShopHubModel", "originOf", "(IIII)I"⟩, 18) := ⟨⟨by decide +kernel, by decide +kernel⟩, List.mem_of_getElem? (i := 445) (by decide +kernel), List.mem_of_getElem? (i := 594) (by decide +kernel), List.mem_of_getElem? (i := 595) (by decide +kernel)⟩
theorem lw_p36 : lw_okq (⟨"ShopHubModel", "lacks", "(III)I"⟩, 18) := ⟨⟨by decide +kernel, by decide +kernel⟩, List.mem_of_getElem? (i := 445) (by decide +kernel), List.mem_of_getElem? (i := 614) (by decide +kernel), List.mem_of_getElem? (i := 615) (by decide +kernel)⟩
theorem lw_p37 : lw_okq (⟨"ShopHubModel", "bundle", "(I)J"⟩, 18) := ⟨⟨by decide +kernel, by decide +kernel⟩, List.mem_of_getElem? (i := 445) (by decide +kernel), List.mem_of_getElem? (i := 626) (by decide +kernel), List.mem_of_getElem? (i := 627) (by decide +kernel)⟩
theorem lw_p38 : lw_okq (⟨"ShopHubModel", "differs", "(I)I"⟩, 18) := ⟨⟨by decide +kernel, by decide +kernel⟩, List.mem_of_getElem? (i := 445) (by decide +kernel), List.mem_of_getElem? (i := 637) (by decide +kernel), List.mem_of_getElem? (i := 638) (by decide +kernel)⟩
theorem lw_p39 : lw_okq (⟨"ShopHubModel", "sees", "(IIII)I"⟩, 18) := ⟨⟨by decide +kernel, by decide +kernel⟩, List.mem_of_getElem? (i := 445) (by decide +kernel), List.mem_of_getElem? (i := 644) (by decide +kernel), List.mem_of_getElem? (i := 645) (by decide +kernel)⟩
def lw_privs_3 : List (MethodName × Nat) := [(⟨"ShopHubModel", "holds", "(IIII)I"⟩, 18), (⟨"ShopHubModel", "isPlace", "(IIII)Z"⟩, 18), (⟨"ShopHubModel", "valueOf", "(IIII)I"⟩, 18), (⟨"ShopHubModel", "originOf", "(IIII)I"⟩, 18), (⟨"ShopHubModel", "lacks", "(III)I"⟩, 18), (⟨"ShopHubModel", "bundle", "(I)J"⟩, 18), (⟨"ShopHubModel", "differs", "(I)I"⟩, 18), (⟨"ShopHubModel", "sees", "(IIII)I"⟩, 18)]
theorem lw_r3 : ∀ q ∈ lw_privs_3, lw_okq q := List.forall_mem_cons.mpr ⟨lw_p32, List.forall_mem_cons.mpr ⟨lw_p33, List.forall_mem_cons.mpr ⟨lw_p34, List.forall_mem_cons.mpr ⟨lw_p35, List.forall_mem_cons.mpr ⟨lw_p36, List.forall_mem_cons.mpr ⟨lw_p37, List.forall_mem_cons.mpr ⟨lw_p38, List.forall_mem_cons.mpr ⟨lw_p39, fun _ h => absurd h List.not_mem_nil⟩⟩⟩⟩⟩⟩⟩⟩
def lw_privs : List (MethodName × Nat) := lw_privs_1 ++ (lw_privs_2 ++ (lw_privs_3))
def lw_tbl : List Cond := k2_sels lw_privs ++ tables_1
theorem lw_privs_ok : ∀ q ∈ lw_privs, lw_okq q := by
  show ∀ q ∈ lw_privs_1 ++ (lw_privs_2 ++ (lw_privs_3)), lw_okq q
  exact List.forall_mem_append.mpr ⟨lw_r1, List.forall_mem_append.mpr ⟨lw_r2, lw_r3⟩⟩
end
section
/-! ===== BEGIN words of one list among another's, by their places ===== -/
theorem goodIn_r {big : List Cond} (ws : List Cond) (ps : List Nat) (hp : ws = ps.filterMap (fun i => big[i]?)) (h : ws.all goodWord = true) : GoodIn big ws := by
  intro w hw
  have h1 := List.all_eq_true.mp h w hw
  rw [hp] at hw
  obtain ⟨i, -, hi⟩ := List.mem_filterMap.mp hw
  have hm : w ∈ big := by first | exact List.mem_of_getElem? hi | exact List.getElem?_mem hi
  exact ⟨hm, good_of_word h1⟩
theorem goodIn_app {big a b : List Cond} (ha : GoodIn big a) (hb : GoodIn big b) : GoodIn big (a ++ b) := fun w h => (List.mem_append.mp h).elim (ha w) (hb w)
theorem goodIn_ca {big a b : List Cond} {c : Cond} (ha : GoodIn big (c :: a)) (hb : GoodIn big b) : GoodIn big (c :: (a ++ b)) := fun w h => (List.mem_cons.mp h).elim (fun e => ha w (List.mem_cons.mpr (Or.inl e))) (fun h => (List.mem_append.mp h).elim (fun h => ha w (List.mem_cons.mpr (Or.inr h))) (hb w))
theorem goodIn_sub {big ws : List Cond} (hm : ∀ w ∈ ws, w ∈ big) (h : ws.all goodWord = true) : GoodIn big ws := fun w hw => ⟨hm w hw, good_of_word (List.all_eq_true.mp h w hw)⟩
/-! ===== END ===== -/

/-! ===== BEGIN exceptions that leave a method, and their catching by the caller (launches without stack traces) ===== -/
section VXA
/-! The laws vx_back, vx_callV, vx_callS, vx_callSW, vx_throw0, vx_throwS follow proofs of the library, with one case more: JvmDerived/Free/Laws.lean (Back.of_free), Shelf42/LK1.lean (callV, callS), Shelf/KitTraced.lean (throwNew0V, throwNewS). -/
/-- where a method has thrown q: the class by its name, the cell, what was written, the world -/
def vx_T (XC : String → State → State → Prop) (st : State) (q : Addr) (t : State) (mc ms : Nat) (free : Addr → Prop) : Prop :=
  ∃ (E : String) (ce : Cell) (L : List Loc), XC E st t ∧ t.heap[q]? = some ce ∧ ce.vm = .none ∧ st.vm.findClass E = some ce.cls ∧ st.WarmedH t.vm ∧ st.sameButNew ({ t with vm := st.vm } : State) L mc ms ∧ ∀ z ∈ L, free z.base
def vx_Q (Qc : Array Value → State → Outcome → State → Prop) (XC : String → State → State → Prop) (mc ms : Nat) (free : Addr → Prop) : Array Value → State → Outcome → State → Prop := fun a st o t =>
  (Qc a st o t ∧ ∃ L, FrameEnd st o t L mc ms ∧ ∀ q ∈ L, free q.base) ∨ ∃ q, o = .threw q ∧ vx_T XC st q t mc ms free
/-- a callee that returns or throws -/
def vx_Met (l : Launch) (y : MethodName) (ws : List Cond) (rm : Room) (Pc : Array Value → State → Prop) (Qc : Array Value → State → Outcome → State → Prop) (XC : String → State → State → Prop) (mc ms : Nat) (free : Addr → Prop) : Prop :=
  MetFree l y (headSpec ws rm) Pc (fun _ _ _ _ _ => True) (vx_Q Qc XC mc ms free)
def vx_Post (XC : String → State → State → Prop) (mc ms : Nat) (free : Addr → Prop) : Pt → Array Value → Addr → Pt → Prop := fun A a q B =>
  ∃ (g : JFrame) (mk : MethodId) (t : State) (L : List Loc) (E : String) (ce : Cell), B.U.heap = t.heap ∧ B.U.vm = t.vm ∧ XC E (A.U.calling g mk a) t ∧ t.heap[q]? = some ce ∧ ce.vm = .none ∧ A.U.vm.findClass E = some ce.cls ∧ B.locs = A.locs ++ L ∧ (∀ z ∈ L, free z.base) ∧ B.cells = A.cells + mc ∧ B.slots = A.slots + ms
def vx_Back (l : Launch) (R : Room) (p : Program) (e : Env) (below : List Frame) (s : State) (sargs : Array Value) (y : MethodName) (len W9 : Nat)
    (Pre : Pt → Array Value → Prop) (Post : Pt → Array Value → Option Value → Pt → Prop) (PostX : Pt → Array Value → Addr → Pt → Prop) : Prop :=
  ∀ (m : MethodId) (meth : Method) (c : Code) (A : Pt) (g : JFrame) (ig : Instr) (mk : MethodId) (a : Array Value),
    Stand p l e R s m sargs below meth c A.U A.locs A.cells A.slots → g.method = m → g.locals.size = c.maxLocals → decode c.code g.pc = .ok (ig, len) →
    2 * g.monitorRoom + (g.stack.map fun v => v.category).sum ≤ W9 → A.U.methodNamed? y = some mk → Pre A a →
    (∃ (v : Option Value) (B : Pt), Stand p l e R s m sargs below meth c B.U B.locs B.cells B.slots ∧ Post A a v B ∧
      Steps p.tables e below (doInvoke e (A.U.setTop g) [] mk a).1 (B.U.setTop { g with pc := g.pc + len, stack := v.toList ++ g.stack })) ∨
    (∃ (q : Addr) (B : Pt), Stand p l e R s m sargs below meth c B.U B.locs B.cells B.slots ∧ PostX A a q B ∧
      Steps p.tables e below (doInvoke e (A.U.setTop g) [] mk a).1 ((B.U.setTop g).pushFrame (.throwing q)))
section Payer
variable {l : Launch} {R : Room} {p : Program} {e : Env} {below : List Frame} {s : State} {sargs : Array Value} {y : MethodName} {len W9 : Nat}
theorem vx_back {ws : List Cond} {rm : Room} {Pc : Array Value → State → Prop} {Qc : Array Value → State → Outcome → State → Prop} {XC : String → State → State → Prop} {mc ms : Nat} {free : Addr → Prop} {bytes : ByteArray} {maxL : Nat} {ret : Option FieldType}
    (hM : vx_Met l y ws rm Pc Qc XC mc ms free) (hblind : FrameBlind Pc) (hrc : rm.cells = mc) (hrs : rm.slots = ms)
    (hframes : rm.frames + 1 ≤ R.frames) (hlocals : W9 + (maxL + 11) + rm.locals ≤ R.locals)
    (hws : ∀ w ∈ ws, ∀ a' U, s.WarmedH U.vm → w.before a' U = true) (hcode : Cond.code y bytes maxL ret ∈ ws) (hinit : ∀ a' U, s.WarmedH U.vm → (Cond.initialized y.cls).before a' U = true) :
    vx_Back l R p e below s sargs y len W9 (PreOf R mc ms Pc) (PostOf Qc mc ms free) (vx_Post XC mc ms free) := by
  intro m meth c A g ig mk a X hg hsize hdg hW hn hp
  have h1 : (headSpec ws rm).pre.before a A.U = true := atoms_intro fun w hw => hws w hw _ _ X.warmed
  have h2 : (Cond.code y bytes maxL ret).before a A.U = true := hws _ hcode _ _ X.warmed
  have h3 : (Cond.initialized y.cls).before a A.U = true := hinit _ _ X.warmed
  have h4 : A.cells + (headSpec ws rm).room.cells ≤ R.cells := by rw [show (headSpec ws rm).room.cells = mc from hrc]; exact hp.1
  have h5 : A.slots + (headSpec ws rm).room.slots ≤ R.slots := by rw [show (headSpec ws rm).room.slots = ms from hrs]; exact hp.2.1
  have hPc : Pc a (A.U.calling g mk a) := hblind _ _ _ _ hp.2.2
  obtain ⟨U, Ls, c0, s0⟩ := A
  dsimp only [Pt.U, Pt.locs, Pt.cells, Pt.slots] at h1 h2 h3 h4 h5 X hn hPc ⊢
  obtain ⟨methY, cY, hmY, hcY, -, hlY, -, -, -, -⟩ := Cond.code_spec hn h2
  obtain ⟨kY, hkY, -⟩ := className_of_methodNamed hn
  have hinitY : kY.init = .initialized := Cond.initialized_spec (findClass_of_methodNamed hn) hkY h3
  have h : At U g.method c below := by rw [hg]; exact X.here
  have hlocals9 : W9 + (maxL + 11) + (headSpec ws rm).room.locals ≤ R.locals := hlocals
  have happ : (headSpec ws rm).appliesLoose y e.platform (U.calling g mk a) = true :=
    Spec.appliesLoose_calling (g := g) h hdg hn hkY hinitY
      (X.room_calling (g := g) (R' := (headSpec ws rm).room) hsize hmY hcY hframes (by rw [hlY]; omega) h4 h5) h1
  obtain ⟨mid, hmid⟩ := h.above
  have hfr : (U.setTop g).frames = (.java g :: mid) ++ below := by rw [State.frames_setTop' g h.top, hmid]; rfl
  obtain ⟨o, s₂, hsteps, -, hend, hq⟩ := Steps.callFree hM p X.admits X.cas X.clock (acts := []) hfr happ hPc trivial
  have hq' : vx_Q Qc XC mc ms free a (U.calling g mk a) o s₂ := hq
  rw [State.frames_setTop' g h.top] at hend
  obtain ⟨g₀, hg0⟩ := Option.isSome_iff_exists.mp h.top
  obtain ⟨r, hr⟩ := State.topJava?_eq_some.mp hg0
  have hr' : (({ U with heap := s₂.heap, slotsUsed := s₂.slotsUsed } : State).setVm s₂.vm).frames = .java g₀ :: r := hr
  rcases hq' with ⟨hqc, L, hfe, hL⟩ | ⟨q, rfl, E, ce, L, hx, hce, hcv, hcl, hW₂, hsm, hL⟩
  · obtain ⟨⟨v, rfl⟩, hW₂, e2, q2, q3, q4, q5, q6⟩ := id hfe
    have e3 : s₂ = ({ (U.calling g mk a).setFrames s₂.frames with heap := s₂.heap, slotsUsed := s₂.slotsUsed } : State).setVm s₂.vm := by
      have : s₂ = ({ s₂ with vm := (U.calling g mk a).vm } : State).setVm s₂.vm := rfl
      rw [e2] at this
      exact this
    obtain ⟨c₂, i₂, len₂, hc₂, hd₂, hf₂⟩ := hend
    have hW' : U.WarmedH s₂.vm := hW₂
    have hcc : c₂ = c := by
      have h1 : s₂.code? g.method = U.code? g.method := by
        rw [State.code?_eq, State.code?_eq, hW'.alike.method?]
      exact Option.some.inj (hc₂.symm.trans (h1.trans h.code))
    subst hcc
    have hlen : len₂ = len := by rw [hdg] at hd₂; cases hd₂; rfl
    subst hlen
    have hs₂ : s₂ = (({ U with heap := s₂.heap, slotsUsed := s₂.slotsUsed } : State).setVm s₂.vm).setTop { g with pc := g.pc + len₂, stack := v.toList ++ g.stack } := by
      refine e3.trans ?_
      rw [hf₂, State.calling_eq h.top, State.setFrames_setFrames, State.setTop_of_frames _ hr', hr]
      rfl
    have hsame : U.sameButNew ({ U with heap := s₂.heap, slotsUsed := s₂.slotsUsed } : State) L mc ms := by
      refine ⟨?_, q2, q3, q4, q5, q6⟩
      obtain ⟨t, ht, -⟩ := State.frames_cons hr
      show ({ U with heap := s₂.heap, slotsUsed := s₂.slotsUsed } : State) = { U.setFrames U.frames with heap := s₂.heap, slotsUsed := s₂.slotsUsed }
      rw [State.setFrames_self ht]
    subst hg
    refine Or.inl ⟨v, ⟨(({ U with heap := s₂.heap, slotsUsed := s₂.slotsUsed } : State).setVm s₂.vm), Ls ++ L, c0 + mc, s0 + ms⟩,
      ⟨X.admits, X.cas, X.clock, X.frames, X.room, X.hears, X.method, X.code, (X.here.setHeapUsed s₂.heap s₂.slotsUsed).setVm hW'.alike, X.tail, State.WarmedH.trans X.warmed hW', X.limits, X.bytes, X.same.trans (hsame.setVm s.vm)⟩,
      ⟨g, mk, s₂, L, rfl, rfl, hqc, rfl, hL, rfl, rfl⟩, ?_⟩
    show Steps p.tables e below _ ((({ U with heap := s₂.heap, slotsUsed := s₂.slotsUsed } : State).setVm s₂.vm).setTop { g with pc := g.pc + len₂, stack := v.toList ++ g.stack })
    rw [← hs₂]
    exact hsteps
  · obtain ⟨e2, q2, q3, q4, q5, q6⟩ := id hsm
    have e3 : s₂ = ({ (U.calling g mk a).setFrames s₂.frames with heap := s₂.heap, slotsUsed := s₂.slotsUsed } : State).setVm s₂.vm := by
      have : s₂ = ({ s₂ with vm := (U.calling g mk a).vm } : State).setVm s₂.vm := rfl
      rw [e2] at this
      exact this
    have hf₂ : s₂.frames = .throwing q :: .java g :: U.frames.tail := hend
    have hW' : U.WarmedH s₂.vm := hW₂
    have hs₂ : s₂ = ((({ U with heap := s₂.heap, slotsUsed := s₂.slotsUsed } : State).setVm s₂.vm).setTop g).pushFrame (.throwing q) := by
      refine e3.trans ?_
      rw [hf₂, State.calling_eq h.top, State.setFrames_setFrames, State.pushFrame, State.frames_setTop _ hr', State.setTop_of_frames _ hr', State.setFrames_setFrames, hr]
      rfl
    have hsame : U.sameButNew ({ U with heap := s₂.heap, slotsUsed := s₂.slotsUsed } : State) L mc ms := by
      refine ⟨?_, q2, q3, q4, q5, q6⟩
      obtain ⟨t, ht, -⟩ := State.frames_cons hr
      show ({ U with heap := s₂.heap, slotsUsed := s₂.slotsUsed } : State) = { U.setFrames U.frames with heap := s₂.heap, slotsUsed := s₂.slotsUsed }
      rw [State.setFrames_self ht]
    subst hg
    refine Or.inr ⟨q, ⟨(({ U with heap := s₂.heap, slotsUsed := s₂.slotsUsed } : State).setVm s₂.vm), Ls ++ L, c0 + mc, s0 + ms⟩,
      ⟨X.admits, X.cas, X.clock, X.frames, X.room, X.hears, X.method, X.code, (X.here.setHeapUsed s₂.heap s₂.slotsUsed).setVm hW'.alike, X.tail, State.WarmedH.trans X.warmed hW', X.limits, X.bytes, X.same.trans (hsame.setVm s.vm)⟩,
      ⟨g, mk, s₂, L, E, ce, rfl, rfl, hx, hce, hcv, hcl, rfl, hL, rfl, rfl⟩, ?_⟩
    show Steps p.tables e below _ (((({ U with heap := s₂.heap, slotsUsed := s₂.slotsUsed } : State).setVm s₂.vm).setTop g).pushFrame (.throwing q))
    rw [← hs₂]
    exact hsteps
end Payer
section Calls
variable {p : Program} {l : Launch} {e : Env} {R : Room} {s : State} {m : MethodId} {args : Array Value} {below : List Frame} {meth : Method} {c : Code} {T : State} {locs : List Loc} {cells slots : Nat}
theorem vx_callV (X : Stand p l e R s m args below meth c T locs cells slots) (hexec : p.tables.exec = Jvm.exec) {own C : String} {index : Nat} {y : MethodName} {bytes : ByteArray} {maxL : Nat} {ret : Option FieldType}
    (hown : s.vm.findClass own = some m.cls) (hlink : (Cond.methodLink own index y).before args s = true) (hinst : (Cond.instanceMethod y).before args s = true) (hsel : (Cond.selects C y y).before args s = true)
    (hcode : (Cond.code y bytes maxL ret).before args s = true) (hy : y.cls ≠ "java/lang/invoke/MethodHandle" ∧ y.cls ≠ "java/lang/invoke/VarHandle")
    {W9 : Nat} {Pre : Pt → Array Value → Prop} {Post : Pt → Array Value → Option Value → Pt → Prop} {PostX : Pt → Array Value → Addr → Pt → Prop} (hK : vx_Back l R p e below s args y 3 W9 Pre Post PostX)
    {b : Addr} {cellB : Cell} (hcell : T.heap[b]? = some cellB) (hobj : cellB.vm.isStatics = false) (hcls : s.vm.findClass C = some cellB.cls)
    {g : JFrame} (hg : g.method = m) (hsize : g.locals.size = c.maxLocals) {argsL rest : List Value} (hlen : ∀ sig, parseMethodDescriptor y.desc = some sig → argsL.length = sig.parameters.length)
    (hstack : g.stack = argsL.reverse ++ .ref b :: rest) (hW : 2 * g.monitorRoom + (rest.map fun v => v.category).sum ≤ W9) (hdg : decode c.code g.pc = .ok (.invokevirtual index, 3))
    (hpre : ∀ vm₁, s.WarmedH vm₁ → Pre ⟨T.setVm vm₁, locs, cells, slots⟩ (Value.ref b :: argsL).toArray) :
    (∃ (v : Option Value) (vm₁ : Vm) (B : Pt), s.WarmedH vm₁ ∧ Stand p l e R s m args below meth c B.U B.locs B.cells B.slots ∧ Post ⟨T.setVm vm₁, locs, cells, slots⟩ (Value.ref b :: argsL).toArray v B ∧
      ∀ target, Steps p.tables e below (B.U.setTop { g with pc := g.pc + 3, stack := v.toList ++ rest }) target → Steps p.tables e below (T.setTop g) target) ∨
    (∃ (q : Addr) (vm₁ : Vm) (B : Pt), s.WarmedH vm₁ ∧ Stand p l e R s m args below meth c B.U B.locs B.cells B.slots ∧ PostX ⟨T.setVm vm₁, locs, cells, slots⟩ (Value.ref b :: argsL).toArray q B ∧
      Steps p.tables e below (T.setTop g) ((B.U.setTop { g with stack := rest }).pushFrame (.throwing q))) := by
  obtain ⟨mk, methM, hnamed, hmethM, hstM, habM⟩ := Cond.instanceMethod_spec hinst
  obtain ⟨methM', cM, hmethM', -, -, -, -, -, -, hsigM⟩ := Cond.code_spec hnamed hcode
  cases hmethM.symm.trans hmethM'
  obtain ⟨c2, r2, m2, q1, q2, q3, q4, kP, hkP, hkPi⟩ := Cond.selects_spec hsel
  cases hcls.symm.trans q1
  cases (State.methodFound?_of_named hnamed hy).symm.trans q2
  cases hnamed.symm.trans q3
  have hselP : selectMethod e.platform s.vm cellB.cls mk = .method mk := by rw [Launch.admits_selectMethod X.admits]; exact q4
  obtain ⟨vm₁, X₁, hstep₁⟩ := X.invokevirtual hexec hown hlink hnamed hmethM hstM hkP hkPi hy (a := b) (cell := cellB) hcell
    (fun z h => by rw [h] at hobj; cases hobj) hselP hmethM habM hkP hkPi (g := g) hg (argsL := argsL) (rest := rest) (hlen _ hsigM) hstack hdg
  rcases hK m meth c ⟨T.setVm vm₁, locs, cells, slots⟩ { g with stack := rest } (.invokevirtual index) mk (Value.ref b :: argsL).toArray X₁ hg hsize hdg hW (X₁.named hnamed) (hpre vm₁ X₁.warmed) with ⟨v, B, X', hpost, hsteps⟩ | ⟨q, B, X', hpost, hsteps⟩
  · exact Or.inl ⟨v, vm₁, B, X₁.warmed, X', hpost, fun target h => hstep₁ _ fun acts => by rw [doInvoke_state]; exact hsteps.trans h⟩
  · exact Or.inr ⟨q, vm₁, B, X₁.warmed, X', hpost, hstep₁ _ fun acts => by rw [doInvoke_state]; exact hsteps⟩
theorem vx_callS (X : Stand p l e R s m args below meth c T locs cells slots) (hexec : p.tables.exec = Jvm.exec) {own : String} {index : Nat} {y : MethodName} {bytes : ByteArray} {maxL : Nat} {ret : Option FieldType}
    (hown : s.vm.findClass own = some m.cls) (hlink : (Cond.methodLink own index y).before args s = true) (hstat : (Cond.static y).before args s = true) (hinit : (Cond.initialized y.cls).before args s = true)
    (hcode : (Cond.code y bytes maxL ret).before args s = true) (hy : y.cls ≠ "java/lang/invoke/MethodHandle" ∧ y.cls ≠ "java/lang/invoke/VarHandle")
    {W9 : Nat} {Pre : Pt → Array Value → Prop} {Post : Pt → Array Value → Option Value → Pt → Prop} {PostX : Pt → Array Value → Addr → Pt → Prop} (hK : vx_Back l R p e below s args y 3 W9 Pre Post PostX)
    {g : JFrame} (hg : g.method = m) (hsize : g.locals.size = c.maxLocals) {argsL rest : List Value} (hlen : ∀ sig, parseMethodDescriptor y.desc = some sig → argsL.length = sig.parameters.length)
    (hstack : g.stack = argsL.reverse ++ rest) (hW : 2 * g.monitorRoom + (rest.map fun v => v.category).sum ≤ W9) (hdg : decode c.code g.pc = .ok (.invokestatic index, 3))
    (hpre : ∀ vm₁, s.WarmedH vm₁ → Pre ⟨T.setVm vm₁, locs, cells, slots⟩ argsL.toArray) :
    (∃ (v : Option Value) (vm₁ : Vm) (B : Pt), s.WarmedH vm₁ ∧ Stand p l e R s m args below meth c B.U B.locs B.cells B.slots ∧ Post ⟨T.setVm vm₁, locs, cells, slots⟩ argsL.toArray v B ∧
      ∀ target, Steps p.tables e below (B.U.setTop { g with pc := g.pc + 3, stack := v.toList ++ rest }) target → Steps p.tables e below (T.setTop g) target) ∨
    (∃ (q : Addr) (vm₁ : Vm) (B : Pt), s.WarmedH vm₁ ∧ Stand p l e R s m args below meth c B.U B.locs B.cells B.slots ∧ PostX ⟨T.setVm vm₁, locs, cells, slots⟩ argsL.toArray q B ∧
      Steps p.tables e below (T.setTop g) ((B.U.setTop { g with stack := rest }).pushFrame (.throwing q))) := by
  obtain ⟨mk, hnamed⟩ := Cond.code_named hcode
  obtain ⟨methM, cM, hmethM, -, -, -, -, -, -, hsigM⟩ := Cond.code_spec hnamed hcode
  have hstatic : methM.isStatic = true := Cond.static_spec hnamed hmethM hstat
  obtain ⟨kP, hkP, -⟩ := className_of_methodNamed hnamed
  have hinitP : kP.init = .initialized := Cond.initialized_spec (findClass_of_methodNamed hnamed) hkP hinit
  obtain ⟨vm₁, X₁, hstep₁⟩ := X.invokestatic hexec hown hlink hnamed hmethM hstatic hkP hinitP hy (g := g) hg (argsL := argsL) (rest := rest) (hlen _ hsigM) hstack hdg
  rcases hK m meth c ⟨T.setVm vm₁, locs, cells, slots⟩ { g with stack := rest } (.invokestatic index) mk argsL.toArray X₁ hg hsize hdg hW (X₁.named hnamed) (hpre vm₁ X₁.warmed) with ⟨v, B, X', hpost, hsteps⟩ | ⟨q, B, X', hpost, hsteps⟩
  · exact Or.inl ⟨v, vm₁, B, X₁.warmed, X', hpost, fun target h => hstep₁ _ fun acts => by rw [doInvoke_state]; exact hsteps.trans h⟩
  · exact Or.inr ⟨q, vm₁, B, X₁.warmed, X', hpost, hstep₁ _ fun acts => by rw [doInvoke_state]; exact hsteps⟩
end Calls
theorem vx_cls {s : State} {T : State} {vm₁ : Vm} {E : String} {k : ClassId} (hW : s.WarmedH vm₁) (h : (T.setVm vm₁).vm.findClass E = some k) : s.vm.findClass E = some k := by
  have h1 : vm₁.findClass E = some k := h
  rw [hW.alike.findClass] at h1
  exact h1
/-- the method's frame g, with q thrown over it -/
def vx_W (p : Program) (l : Launch) (e : Env) (R : Room) (s : State) (m : MethodId) (args : Array Value) (below : List Frame) (meth : Method) (c : Code) (H : Heap) (locs : List Loc) (cells slots : Nat) (Q : State → Prop) (g : JFrame) (q : Addr) : Prop :=
  ∀ T : State, T.heap = H → Stand p l e R s m args below meth c T locs cells slots → ∃ t, Steps p.tables e below ((T.setTop g).pushFrame (.throwing q)) t ∧ Q t
def vx_Run (p : Program) (l : Launch) (e : Env) (R : Room) (s : State) (m : MethodId) (args : Array Value) (below : List Frame) (meth : Method) (c : Code) (H : Heap) (locs : List Loc) (cells slots mc ms : Nat) (g : JFrame) (rest : List Value) (Qa : State → Outcome → State → Prop) (XC : String → State → State → Prop) (free : Addr → Prop) : Prop :=
  ∀ T : State, T.heap = H → Stand p l e R s m args below meth c T locs cells slots →
    (∃ (v : Option Value) (st₀ t T' : State) (L : List Loc), st₀.heap = H ∧ Stand p l e R s m args below meth c T' (locs ++ L) (cells + mc) (slots + ms) ∧ (∀ q ∈ L, free q.base) ∧ T'.heap = t.heap ∧ T'.vm = t.vm ∧ Qa st₀ (.returned v) t ∧
      Goes p e below T g T' { g with pc := g.pc + 3, stack := v.toList ++ rest }) ∨
    (∃ (q : Addr) (st₀ t T' : State) (L : List Loc) (E : String) (ce : Cell), st₀.heap = H ∧ Stand p l e R s m args below meth c T' (locs ++ L) (cells + mc) (slots + ms) ∧ (∀ z ∈ L, free z.base) ∧ T'.heap = t.heap ∧ T'.vm = t.vm ∧ XC E st₀ t ∧ t.heap[q]? = some ce ∧ ce.vm = .none ∧ s.vm.findClass E = some ce.cls ∧
      Steps p.tables e below (T.setTop g) ((T'.setTop { g with stack := rest }).pushFrame (.throwing q)))
def vx_X {S : Type} (px : S → Prop) (B : String → S → State → Prop) (A : Nat → Prop) : String → State → State → Prop := fun E st t => ∃ u : S, px u ∧ B E u t ∧ va_F A st t
section Runs
variable {p : Program} {l : Launch} {e : Env} {R : Room} {s : State} {m : MethodId} {args : Array Value} {below : List Frame} {meth : Method} {c : Code} {H : Heap} {locs : List Loc} {cells slots : Nat}
variable {y : MethodName} {bytes cc : ByteArray} {maxL nL mc ms n index : Nat} {ret : Option FieldType} {ws : List Cond} {rm : Room} {Pc : Array Value → State → Prop} {Qc : Array Value → State → Outcome → State → Prop} {XC : String → State → State → Prop} {free : Addr → Prop} {Ts : List Cond} {own C : String} {b : Addr} {As rest : List Value} {g : JFrame}
theorem vx_callBack (cb : CallB R s args own index y bytes maxL ret ws rm mc ms n) (hM : vx_Met l y ws rm Pc Qc XC mc ms free) (hbl : FrameBlind Pc) : vx_Back l R p e below s args y 3 8 (PreOf R mc ms Pc) (PostOf Qc mc ms free) (vx_Post XC mc ms free) := by
  obtain ⟨hrc, hrs, hfr, hlo, hws, hcw, -, hini, -⟩ := cb
  exact vx_back (bytes := bytes) (maxL := maxL) (ret := ret) hM hbl hrc hrs hfr hlo hws hcw (fun a' U hW => word_at hW (Or.inl (by first | rfl | simp [Cond.onTables, Cond.keeps, Cond.steady])) hini)
theorem vx_runV (S : CallFix p m c cc nL s args Ts own) (hM : vx_Met l y ws rm Pc Qc XC mc ms free) (cw : CallW R s args own C index y bytes maxL ret ws rm mc ms n) (hp : PreV s H C b Pc As)
    (hg : g.method = m) (hn : As.length = n) (hsize : g.locals.size = nL) (hstack : g.stack = As.reverse ++ .ref b :: rest) (hW : 2 * g.monitorRoom + (rest.map fun v => v.category).sum ≤ 8) (hdg : decode cc g.pc = .ok (.invokevirtual index, 3)) (hf : cells + mc ≤ R.cells ∧ slots + ms ≤ R.slots) :
    vx_Run p l e R s m args below meth c H locs cells slots mc ms g rest (Qc (Value.ref b :: As).toArray) XC free := by
  have hK : vx_Back l R p e below s args y 3 8 (PreOf R mc ms Pc) (PostOf Qc mc ms free) (vx_Post XC mc ms free) := vx_callBack cw.1 hM hp.1
  obtain ⟨⟨-, -, -, -, -, -, hcode, -, hy, hlen, hl⟩, hin, hse⟩ := cw
  obtain ⟨hx, hb, hml, ho, -⟩ := S
  obtain ⟨-, ⟨cellB, hcB, hoB, hclB⟩, hPc⟩ := hp
  intro T hT X
  rcases vx_callV X hx (C := C) (bytes := bytes) (maxL := maxL) (ret := ret) ho hl hin hse hcode hy hK (by rw [hT]; exact hcB) hoB hclB hg (hsize.trans hml.symm) (argsL := As) (rest := rest) (fun sig h => hn.trans (hlen sig h)) hstack hW (by rw [hb]; exact hdg)
    (fun vm₁ hW₁ => ⟨hf.1, hf.2, hPc (T.setVm vm₁) hT hW₁⟩) with ⟨v, vm₁, ⟨U', l2, c2, s2⟩, hW₁, X', ⟨g', mk, t, L, e1, e2, hq, h1, hL, h2, h3⟩, st⟩ | ⟨q, vm₁, ⟨U', l2, c2, s2⟩, hW₁, X', ⟨g', mk, t, L, E, ce, e1, e2, hq, hce, hcv, hcl, h1, hL, h2, h3⟩, st⟩
  · dsimp only [Pt.U, Pt.locs, Pt.cells, Pt.slots] at X' e1 e2 h1 h2 h3 st
    subst h1; subst h2; subst h3
    exact Or.inl ⟨v, (T.setVm vm₁).calling g' mk (Value.ref b :: As).toArray, t, U', L, hT, X', hL, e1, e2, hq, st⟩
  · dsimp only [Pt.U, Pt.locs, Pt.cells, Pt.slots] at X' e1 e2 h1 h2 h3 st hcl
    subst h1; subst h2; subst h3
    exact Or.inr ⟨q, (T.setVm vm₁).calling g' mk (Value.ref b :: As).toArray, t, U', L, E, ce, hT, X', hL, e1, e2, hq, hce, hcv, vx_cls hW₁ hcl, st⟩
theorem vx_runS (S : CallFix p m c cc nL s args Ts own) (hM : vx_Met l y ws rm Pc Qc XC mc ms free) (cw : CallB R s args own index y bytes maxL ret ws rm mc ms n ∧ (Cond.static y).before args s = true) (hp : PreS s H Pc As)
    (hg : g.method = m) (hn : As.length = n) (hsize : g.locals.size = nL) (hstack : g.stack = As.reverse ++ rest) (hW : 2 * g.monitorRoom + (rest.map fun v => v.category).sum ≤ 8) (hdg : decode cc g.pc = .ok (.invokestatic index, 3)) (hf : cells + mc ≤ R.cells ∧ slots + ms ≤ R.slots) :
    vx_Run p l e R s m args below meth c H locs cells slots mc ms g rest (Qc As.toArray) XC free := by
  have hK : vx_Back l R p e below s args y 3 8 (PreOf R mc ms Pc) (PostOf Qc mc ms free) (vx_Post XC mc ms free) := vx_callBack cw.1 hM hp.1
  obtain ⟨⟨-, -, -, -, -, -, hcode, hini, hy, hlen, hl⟩, hstt⟩ := cw
  obtain ⟨hx, hb, hml, ho, -⟩ := S
  intro T hT X
  rcases vx_callS X hx (bytes := bytes) (maxL := maxL) (ret := ret) ho hl hstt hini hcode hy hK hg (hsize.trans hml.symm) (argsL := As) (rest := rest) (fun sig h => hn.trans (hlen sig h)) hstack hW (by rw [hb]; exact hdg)
    (fun vm₁ hW₁ => ⟨hf.1, hf.2, hp.2 (T.setVm vm₁) hT hW₁⟩) with ⟨v, vm₁, ⟨U', l2, c2, s2⟩, hW₁, X', ⟨g', mk, t, L, e1, e2, hq, h1, hL, h2, h3⟩, st⟩ | ⟨q, vm₁, ⟨U', l2, c2, s2⟩, hW₁, X', ⟨g', mk, t, L, E, ce, e1, e2, hq, hce, hcv, hcl, h1, hL, h2, h3⟩, st⟩
  · dsimp only [Pt.U, Pt.locs, Pt.cells, Pt.slots] at X' e1 e2 h1 h2 h3 st
    subst h1; subst h2; subst h3
    exact Or.inl ⟨v, (T.setVm vm₁).calling g' mk As.toArray, t, U', L, hT, X', hL, e1, e2, hq, st⟩
  · dsimp only [Pt.U, Pt.locs, Pt.cells, Pt.slots] at X' e1 e2 h1 h2 h3 st hcl
    subst h1; subst h2; subst h3
    exact Or.inr ⟨q, (T.setVm vm₁).calling g' mk As.toArray, t, U', L, E, ce, hT, X', hL, e1, e2, hq, hce, hcv, vx_cls hW₁ hcl, st⟩
end Runs
section Rows
variable {p : Program} {l : Launch} {e : Env} {R : Room} {s : State} {m : MethodId} {args : Array Value} {below : List Frame} {meth : Method} {c : Code} {H : Heap} {locs : List Loc} {cells slots : Nat} {Q : State → Prop}
variable {mc ms : Nat} {free : Addr → Prop} {A0 A1 : Nat → Prop} {H0 : Heap} {a : Array Value} {pc : Nat} {ls : Array Slot} {st0 rest : List Value}
theorem vx_keep {st₀ t T' : State} {L : List Loc} (h0 : st₀.heap = H) (e1 : T'.heap = t.heap) (hS : va_S A0 H0 H locs) (hA : ∀ q, q < H.size → A1 q → A0 q) (hf : ∀ q, free q → A0 q) (hL : ∀ q ∈ L, free q.base) (hF : va_F A1 st₀ t) :
    H.size ≤ T'.heap.size ∧ (∀ q : Nat, q < H.size → ¬ A1 q → T'.heap[q]? = H[q]?) ∧ va_S A0 H0 T'.heap (locs ++ L) := by
  obtain ⟨hz, hk⟩ := hF
  rw [h0] at hz hk
  exact ⟨by rw [e1]; exact hz, fun q h1 h2 => by rw [e1]; exact hk q h1 h2,
    ⟨Nat.le_trans hS.1 (by rw [e1]; exact hz), fun q h1 h2 => by rw [e1, hk q (Nat.lt_of_lt_of_le h1 hS.1) (fun z => h2 (hA q (Nat.lt_of_lt_of_le h1 hS.1) z))]; exact hS.2.1 q h1 h2, fun q hq => by
      rcases List.mem_append.mp hq with h | h
      · exact hS.2.2 q h
      · exact hf _ (hL q h)⟩⟩
theorem vx_calli {S SX : Type} {post : Int32 → S → Prop} {px : SX → Prop} {B : S → State → Prop} {BX : String → SX → State → Prop} {AX : Nat → Prop} (hr : vx_Run p l e R s m args below meth c H locs cells slots mc ms (F0 m pc ls st0) rest (va_Qi post B A1 a) (vx_X px BX AX) free) (hS : va_S A0 H0 H locs) (hA : ∀ q, q < H.size → A1 q → A0 q) (hf : ∀ q, free q → A0 q) (hAX : ∀ q, q < H.size → AX q → A0 q)
    (kx : ∀ (E : String) (ce : Cell) (q9 : Addr) (u : SX) (t : State) (H1 : Heap) (locs1 : List Loc), t.heap = H1 → s.vm.Alike t.vm → px u → BX E u t → H.size ≤ H1.size → (∀ q : Nat, q < H.size → ¬ AX q → H1[q]? = H[q]?) → va_S A0 H0 H1 locs1 → H1[q9]? = some ce → ce.vm = .none → s.vm.findClass E = some ce.cls → vx_W p l e R s m args below meth c H1 locs1 (cells + mc) (slots + ms) Q (F0 m pc ls rest) q9)
    (kk : ∀ (r : Int32) (u : S) (t : State) (H1 : Heap) (locs1 : List Loc), t.heap = H1 → s.vm.Alike t.vm → post r u → B u t → H.size ≤ H1.size → (∀ q : Nat, q < H.size → ¬ A1 q → H1[q]? = H[q]?) → va_S A0 H0 H1 locs1 → W p l e R s m args below meth c H1 locs1 (cells + mc) (slots + ms) Q (F0 m (pc + 3) ls (.int r :: rest))) : W p l e R s m args below meth c H locs cells slots Q (F0 m pc ls st0) := by
  intro T hT X
  rcases hr T hT X with ⟨v, st₀, t, T', L, h0, X', hL, e1, e2, ⟨⟨r, u, hv, hp, hb⟩, hF⟩, st⟩ | ⟨q, st₀, t, T', L, E, ce, h0, X', hL, e1, e2, ⟨u, hp, hb, hF⟩, hce, hcv, hcl, st⟩
  · cases hv
    obtain ⟨k1, k2, k3⟩ := vx_keep h0 e1 hS hA hf hL hF
    obtain ⟨t2, a1, b1⟩ := kk r u t T'.heap (locs ++ L) e1.symm (by rw [← e2]; exact X'.warmed.alike) hp hb k1 k2 k3 T' rfl X'
    exact ⟨t2, st t2 a1, b1⟩
  · obtain ⟨k1, k2, k3⟩ := vx_keep h0 e1 hS hAX hf hL hF
    obtain ⟨t2, a1, b1⟩ := kx E ce q u t T'.heap (locs ++ L) e1.symm (by rw [← e2]; exact X'.warmed.alike) hp hb k1 k2 k3 (by rw [e1]; exact hce) hcv hcl T' rfl X'
    exact ⟨t2, st.trans a1, b1⟩
theorem vx_calll {S SX : Type} {post : Int64 → S → Prop} {px : SX → Prop} {B : S → State → Prop} {BX : String → SX → State → Prop} {AX : Nat → Prop} (hr : vx_Run p l e R s m args below meth c H locs cells slots mc ms (F0 m pc ls st0) rest (va_Ql post B A1 a) (vx_X px BX AX) free) (hS : va_S A0 H0 H locs) (hA : ∀ q, q < H.size → A1 q → A0 q) (hf : ∀ q, free q → A0 q) (hAX : ∀ q, q < H.size → AX q → A0 q)
    (kx : ∀ (E : String) (ce : Cell) (q9 : Addr) (u : SX) (t : State) (H1 : Heap) (locs1 : List Loc), t.heap = H1 → s.vm.Alike t.vm → px u → BX E u t → H.size ≤ H1.size → (∀ q : Nat, q < H.size → ¬ AX q → H1[q]? = H[q]?) → va_S A0 H0 H1 locs1 → H1[q9]? = some ce → ce.vm = .none → s.vm.findClass E = some ce.cls → vx_W p l e R s m args below meth c H1 locs1 (cells + mc) (slots + ms) Q (F0 m pc ls rest) q9)
    (kk : ∀ (r : Int64) (u : S) (t : State) (H1 : Heap) (locs1 : List Loc), t.heap = H1 → s.vm.Alike t.vm → post r u → B u t → H.size ≤ H1.size → (∀ q : Nat, q < H.size → ¬ A1 q → H1[q]? = H[q]?) → va_S A0 H0 H1 locs1 → W p l e R s m args below meth c H1 locs1 (cells + mc) (slots + ms) Q (F0 m (pc + 3) ls (.long r :: rest))) : W p l e R s m args below meth c H locs cells slots Q (F0 m pc ls st0) := by
  intro T hT X
  rcases hr T hT X with ⟨v, st₀, t, T', L, h0, X', hL, e1, e2, ⟨⟨r, u, hv, hp, hb⟩, hF⟩, st⟩ | ⟨q, st₀, t, T', L, E, ce, h0, X', hL, e1, e2, ⟨u, hp, hb, hF⟩, hce, hcv, hcl, st⟩
  · cases hv
    obtain ⟨k1, k2, k3⟩ := vx_keep h0 e1 hS hA hf hL hF
    obtain ⟨t2, a1, b1⟩ := kk r u t T'.heap (locs ++ L) e1.symm (by rw [← e2]; exact X'.warmed.alike) hp hb k1 k2 k3 T' rfl X'
    exact ⟨t2, st t2 a1, b1⟩
  · obtain ⟨k1, k2, k3⟩ := vx_keep h0 e1 hS hAX hf hL hF
    obtain ⟨t2, a1, b1⟩ := kx E ce q u t T'.heap (locs ++ L) e1.symm (by rw [← e2]; exact X'.warmed.alike) hp hb k1 k2 k3 (by rw [e1]; exact hce) hcv hcl T' rfl X'
    exact ⟨t2, st.trans a1, b1⟩
theorem vx_callf {S SX : Type} {post : UInt32 → S → Prop} {px : SX → Prop} {B : S → State → Prop} {BX : String → SX → State → Prop} {AX : Nat → Prop} (hr : vx_Run p l e R s m args below meth c H locs cells slots mc ms (F0 m pc ls st0) rest (va_Qf post B A1 a) (vx_X px BX AX) free) (hS : va_S A0 H0 H locs) (hA : ∀ q, q < H.size → A1 q → A0 q) (hf : ∀ q, free q → A0 q) (hAX : ∀ q, q < H.size → AX q → A0 q)
    (kx : ∀ (E : String) (ce : Cell) (q9 : Addr) (u : SX) (t : State) (H1 : Heap) (locs1 : List Loc), t.heap = H1 → s.vm.Alike t.vm → px u → BX E u t → H.size ≤ H1.size → (∀ q : Nat, q < H.size → ¬ AX q → H1[q]? = H[q]?) → va_S A0 H0 H1 locs1 → H1[q9]? = some ce → ce.vm = .none → s.vm.findClass E = some ce.cls → vx_W p l e R s m args below meth c H1 locs1 (cells + mc) (slots + ms) Q (F0 m pc ls rest) q9)
    (kk : ∀ (r : UInt32) (u : S) (t : State) (H1 : Heap) (locs1 : List Loc), t.heap = H1 → s.vm.Alike t.vm → post r u → B u t → H.size ≤ H1.size → (∀ q : Nat, q < H.size → ¬ A1 q → H1[q]? = H[q]?) → va_S A0 H0 H1 locs1 → W p l e R s m args below meth c H1 locs1 (cells + mc) (slots + ms) Q (F0 m (pc + 3) ls (.float r :: rest))) : W p l e R s m args below meth c H locs cells slots Q (F0 m pc ls st0) := by
  intro T hT X
  rcases hr T hT X with ⟨v, st₀, t, T', L, h0, X', hL, e1, e2, ⟨⟨r, u, hv, hp, hb⟩, hF⟩, st⟩ | ⟨q, st₀, t, T', L, E, ce, h0, X', hL, e1, e2, ⟨u, hp, hb, hF⟩, hce, hcv, hcl, st⟩
  · cases hv
    obtain ⟨k1, k2, k3⟩ := vx_keep h0 e1 hS hA hf hL hF
    obtain ⟨t2, a1, b1⟩ := kk r u t T'.heap (locs ++ L) e1.symm (by rw [← e2]; exact X'.warmed.alike) hp hb k1 k2 k3 T' rfl X'
    exact ⟨t2, st t2 a1, b1⟩
  · obtain ⟨k1, k2, k3⟩ := vx_keep h0 e1 hS hAX hf hL hF
    obtain ⟨t2, a1, b1⟩ := kx E ce q u t T'.heap (locs ++ L) e1.symm (by rw [← e2]; exact X'.warmed.alike) hp hb k1 k2 k3 (by rw [e1]; exact hce) hcv hcl T' rfl X'
    exact ⟨t2, st.trans a1, b1⟩
theorem vx_calld {S SX : Type} {post : UInt64 → S → Prop} {px : SX → Prop} {B : S → State → Prop} {BX : String → SX → State → Prop} {AX : Nat → Prop} (hr : vx_Run p l e R s m args below meth c H locs cells slots mc ms (F0 m pc ls st0) rest (va_Qd post B A1 a) (vx_X px BX AX) free) (hS : va_S A0 H0 H locs) (hA : ∀ q, q < H.size → A1 q → A0 q) (hf : ∀ q, free q → A0 q) (hAX : ∀ q, q < H.size → AX q → A0 q)
    (kx : ∀ (E : String) (ce : Cell) (q9 : Addr) (u : SX) (t : State) (H1 : Heap) (locs1 : List Loc), t.heap = H1 → s.vm.Alike t.vm → px u → BX E u t → H.size ≤ H1.size → (∀ q : Nat, q < H.size → ¬ AX q → H1[q]? = H[q]?) → va_S A0 H0 H1 locs1 → H1[q9]? = some ce → ce.vm = .none → s.vm.findClass E = some ce.cls → vx_W p l e R s m args below meth c H1 locs1 (cells + mc) (slots + ms) Q (F0 m pc ls rest) q9)
    (kk : ∀ (r : UInt64) (u : S) (t : State) (H1 : Heap) (locs1 : List Loc), t.heap = H1 → s.vm.Alike t.vm → post r u → B u t → H.size ≤ H1.size → (∀ q : Nat, q < H.size → ¬ A1 q → H1[q]? = H[q]?) → va_S A0 H0 H1 locs1 → W p l e R s m args below meth c H1 locs1 (cells + mc) (slots + ms) Q (F0 m (pc + 3) ls (.double r :: rest))) : W p l e R s m args below meth c H locs cells slots Q (F0 m pc ls st0) := by
  intro T hT X
  rcases hr T hT X with ⟨v, st₀, t, T', L, h0, X', hL, e1, e2, ⟨⟨r, u, hv, hp, hb⟩, hF⟩, st⟩ | ⟨q, st₀, t, T', L, E, ce, h0, X', hL, e1, e2, ⟨u, hp, hb, hF⟩, hce, hcv, hcl, st⟩
  · cases hv
    obtain ⟨k1, k2, k3⟩ := vx_keep h0 e1 hS hA hf hL hF
    obtain ⟨t2, a1, b1⟩ := kk r u t T'.heap (locs ++ L) e1.symm (by rw [← e2]; exact X'.warmed.alike) hp hb k1 k2 k3 T' rfl X'
    exact ⟨t2, st t2 a1, b1⟩
  · obtain ⟨k1, k2, k3⟩ := vx_keep h0 e1 hS hAX hf hL hF
    obtain ⟨t2, a1, b1⟩ := kx E ce q u t T'.heap (locs ++ L) e1.symm (by rw [← e2]; exact X'.warmed.alike) hp hb k1 k2 k3 (by rw [e1]; exact hce) hcv hcl T' rfl X'
    exact ⟨t2, st.trans a1, b1⟩
theorem vx_callv {S SX : Type} {post : S → Prop} {px : SX → Prop} {B : S → State → Prop} {BX : String → SX → State → Prop} {AX : Nat → Prop} (hr : vx_Run p l e R s m args below meth c H locs cells slots mc ms (F0 m pc ls st0) rest (va_Qv post B A1 a) (vx_X px BX AX) free) (hS : va_S A0 H0 H locs) (hA : ∀ q, q < H.size → A1 q → A0 q) (hf : ∀ q, free q → A0 q) (hAX : ∀ q, q < H.size → AX q → A0 q)
    (kx : ∀ (E : String) (ce : Cell) (q9 : Addr) (u : SX) (t : State) (H1 : Heap) (locs1 : List Loc), t.heap = H1 → s.vm.Alike t.vm → px u → BX E u t → H.size ≤ H1.size → (∀ q : Nat, q < H.size → ¬ AX q → H1[q]? = H[q]?) → va_S A0 H0 H1 locs1 → H1[q9]? = some ce → ce.vm = .none → s.vm.findClass E = some ce.cls → vx_W p l e R s m args below meth c H1 locs1 (cells + mc) (slots + ms) Q (F0 m pc ls rest) q9)
    (kk : ∀ (u : S) (t : State) (H1 : Heap) (locs1 : List Loc), t.heap = H1 → s.vm.Alike t.vm → post u → B u t → H.size ≤ H1.size → (∀ q : Nat, q < H.size → ¬ A1 q → H1[q]? = H[q]?) → va_S A0 H0 H1 locs1 → W p l e R s m args below meth c H1 locs1 (cells + mc) (slots + ms) Q (F0 m (pc + 3) ls (rest))) : W p l e R s m args below meth c H locs cells slots Q (F0 m pc ls st0) := by
  intro T hT X
  rcases hr T hT X with ⟨v, st₀, t, T', L, h0, X', hL, e1, e2, ⟨⟨u, hv, hp, hb⟩, hF⟩, st⟩ | ⟨q, st₀, t, T', L, E, ce, h0, X', hL, e1, e2, ⟨u, hp, hb, hF⟩, hce, hcv, hcl, st⟩
  · cases hv
    obtain ⟨k1, k2, k3⟩ := vx_keep h0 e1 hS hA hf hL hF
    obtain ⟨t2, a1, b1⟩ := kk u t T'.heap (locs ++ L) e1.symm (by rw [← e2]; exact X'.warmed.alike) hp hb k1 k2 k3 T' rfl X'
    exact ⟨t2, st t2 a1, b1⟩
  · obtain ⟨k1, k2, k3⟩ := vx_keep h0 e1 hS hAX hf hL hF
    obtain ⟨t2, a1, b1⟩ := kx E ce q u t T'.heap (locs ++ L) e1.symm (by rw [← e2]; exact X'.warmed.alike) hp hb k1 k2 k3 (by rw [e1]; exact hce) hcv hcl T' rfl X'
    exact ⟨t2, st.trans a1, b1⟩
/-- caught by the row x of this method's table; the rows ahead don't take it -/
theorem vx_catch {own name : String} {E : String} {ce : Cell} {q : Addr} (hown : s.vm.findClass own = some m.cls) (pre : List ExceptionTableEntry) (x : ExceptionTableEntry) (suf : List ExceptionTableEntry) (hsplit : c.exceptionTable.toList = pre ++ x :: suf)
    (hpass : ∀ z ∈ pre, covers z pc = false ∨ (z.catchType ≠ 0 ∧ ∃ nm : String, (Cond.classLink own z.catchType nm).before args s = true ∧ va_Nc E nm s)) (hx : covers x pc = true) (h0 : x.catchType ≠ 0)
    (hlink : (Cond.classLink own x.catchType name).before args s = true) (hcast : (Cond.castable E name).before args s = true) (hcell : H[q]? = some ce) (hv : ce.vm = .none) (hcl : s.vm.findClass E = some ce.cls)
    (kk : W p l e R s m args below meth c H locs cells slots Q (F0 m x.handlerPc ls [.ref q])) : vx_W p l e R s m args below meth c H locs cells slots Q (F0 m pc ls rest) q := by
  intro T hT X
  have hpl : e.platform.magicAccessors = ({} : Platform).magicAccessors := by rw [X.admits.platform]
  obtain ⟨c3, c4, hc3, hc4, hasg⟩ := Cond.castable_spec hcast
  cases Option.some.inj (hc3.symm.trans hcl)
  obtain ⟨c5, hc5, hcl5⟩ := Cond.classLink_spec hown hlink e.platform hpl
  cases Option.some.inj (hc4.symm.trans hc5)
  obtain ⟨vm', X', st⟩ := X.thenCaughtThrough q (g := F0 m pc ls rest) rfl (Steps.refl _) (by rw [hT]; exact hcell) (by rw [hv]; rfl) (by obtain ⟨k9, h9, -⟩ := Vm.findClass_spec hcl; exact ⟨k9, h9⟩) pre x suf hsplit
    (fun z hz => by
      rcases hpass z hz with h | ⟨hz0, nm, hl1, hn1⟩
      · exact Or.inl h
      · obtain ⟨c6, hc6, hcl6⟩ := Cond.classLink_spec hown hl1 e.platform hpl
        obtain ⟨a8, b8, h1, h2, h3⟩ := hn1
        cases Option.some.inj (h1.symm.trans hcl)
        cases Option.some.inj (h2.symm.trans hc6)
        exact Or.inr ⟨hz0, _, hcl6, h3⟩) hx (Or.inr ⟨h0, c4, hcl5, hasg⟩)
  obtain ⟨t, a1, b1⟩ := kk (T.setVm vm') hT X'
  exact ⟨t, st.trans a1, b1⟩
end Rows
section Ends
variable {p : Program} {l : Launch} {e : Env} {R : Room} {s : State} {m : MethodId} {args : Array Value} {below : List Frame} {meth : Method} {c : Code} {H : Heap} {locs : List Loc} {cells slots : Nat} {Q : State → Prop}
variable {mc ms : Nat} {free : Addr → Prop} {A0 A1 : Nat → Prop} {H0 : Heap} {a : Array Value} {ls : Array Slot} {st0 rest : List Value}
variable {Qc : Array Value → State → Outcome → State → Prop} {XC : String → State → State → Prop}
/-- what a body that may throw owes at its end -/
def vx_MQ (below : List Frame) (Qc : Array Value → State → Outcome → State → Prop) (XC : String → State → State → Prop) (a : Array Value) (s : State) (mc ms : Nat) (free : Addr → Prop) : State → Prop := fun t =>
  ∃ o, t.status = .running ∧ Ended t below o ∧ vx_Q Qc XC mc ms free a s o t
theorem vx_ret {g : JFrame} {mc ms : Nat} (k : W p l e R s m args below meth c H locs cells slots (MQ below Qc args s mc ms free) g) : W p l e R s m args below meth c H locs cells slots (vx_MQ below Qc XC args s mc ms free) g := by
  intro T hT X
  obtain ⟨t, a1, o, b1, b2, b3, b4⟩ := k T hT X
  exact ⟨t, a1, o, b1, b2, Or.inl ⟨b3, b4⟩⟩
/-- not caught here: it goes on to the caller -/
theorem vx_widen {g : JFrame} {q : Addr} {k n : Nat} (h1 : cells ≤ k) (h2 : slots ≤ n) (kk : vx_W p l e R s m args below meth c H locs k n Q g q) : vx_W p l e R s m args below meth c H locs cells slots Q g q := fun T hT X => kk T hT (stand_widen X h1 h2)
theorem vx_out {pc : Nat} {E : String} {ce : Cell} {q : Addr} {mc ms : Nat} (hout : ∀ x ∈ c.exceptionTable.toList, covers x pc = false) (hlocks : meth.locks = false) (hcell : H[q]? = some ce) (hv : ce.vm = .none) (hcl : s.vm.findClass E = some ce.cls)
    (hx : ∀ t : State, t.heap = H → s.vm.Alike t.vm → XC E s t) (hf : ∀ z ∈ locs, free z.base) (hc : cells ≤ mc) (hs : slots ≤ ms) :
    vx_W p l e R s m args below meth c H locs cells slots (vx_MQ below Qc XC args s mc ms free) (F0 m pc ls rest) q := by
  intro T hT X
  obtain ⟨st1, hrun, hend, hW, hsm⟩ := X.leaveThrown q (g := F0 m pc ls rest) rfl rfl rfl hout hlocks
  have hcell9 : (T.setFrames (.throwing q :: below)).heap[q]? = some ce := by
    show T.heap[q]? = some ce
    rw [hT]; exact hcell
  exact ⟨_, st1, .threw q, hrun, hend, Or.inr ⟨q, rfl, E, ce, locs, hx _ hT hW.alike, hcell9, hv, hcl, hW, hsm.mono hc hs, hf⟩⟩
theorem vx_frame {U : State} {k n : Nat} (h : s.sameButNew ({ U with vm := s.vm } : State) locs k n) : s.heap.size ≤ U.heap.size ∧ ∀ q : Nat, q < s.heap.size → (∀ z ∈ locs, z.base ≠ q) → U.heap[q]? = s.heap[q]? := by
  obtain ⟨-, h2, -, -, -, h6⟩ := h
  refine ⟨h2, fun q hq hz => ?_⟩
  obtain ⟨c9, e1, e2, e3, e4⟩ := h6 q _ (Array.getElem?_eq_getElem hq)
  have hs : c9.slots = (s.heap[q]).slots := Array.ext_getElem? fun i => e4 i fun hm => hz _ hm rfl
  have h9 : c9 = s.heap[q] := by
    rw [hs] at e2
    exact e2
  have e5 : U.heap[q]? = some c9 := e1
  rw [e5, h9, Array.getElem?_eq_getElem hq]
/-- the words of a throw but the four that speak of the heap -/
def vx_no (w : Cond) : Bool := decide (w ≠ .isRef (.static Bundle.tN "UNASSIGNED_STACK" Bundle.steD)) && decide (w ≠ .isRef (.static Bundle.tN "SUPPRESSED_SENTINEL" Bundle.listD)) && decide (w ≠ .laysStatic Bundle.tN "UNASSIGNED_STACK" Bundle.steD) && decide (w ≠ .laysStatic Bundle.tN "SUPPRESSED_SENTINEL" Bundle.listD)
def vx_at0 (own : String) (ic : Nat) (X : String) (names : List String) : List Cond := (Bundle.ownAtoms0 own ic X names).filter vx_no
def vx_atS (own : String) (ic : Nat) (X : String) (names : List String) : List Cond := (Bundle.ownAtoms own ic X names).filter vx_no
/-- a word that the tables alone decide, or a good one -/
def vx_ot (w : Cond) : Bool := w.onTables || goodWord w
theorem vx_ot_at {args a' : Array Value} {s U : State} {w : Cond} (hW : s.WarmedH U.vm) (hvm : s.vm = U.vm) (hg : vx_ot w = true) (h : w.before args s = true) : w.before a' U = true := by
  simp only [vx_ot, Bool.or_eq_true] at hg
  rcases hg with hg | hg
  · exact va_tabs hg hvm h
  · exact word_at hW (good_of_word hg) h
/-- a list's words: the good ones out of the method's own list, the others by premises of their own -/
theorem vx_hat {args : Array Value} {s : State} {L B : List Cond} (h1 : ∀ w ∈ L.filter goodWord, w.before args s = true) (h2 : ∀ w ∈ L.filter (fun w => !goodWord w), w ∈ B) (h3 : ∀ w ∈ B, w.before args s = true) : ∀ w ∈ L, w.before args s = true := by
  intro w hw
  by_cases g : goodWord w = true
  · exact h1 w (List.mem_filter.mpr ⟨hw, g⟩)
  · refine h3 w (h2 w (List.mem_filter.mpr ⟨hw, ?_⟩))
    show (!goodWord w) = true
    cases hgw : goodWord w
    · rfl
    · exact absurd hgw g
theorem vx_c {args : Array Value} {s : State} {w : Cond} {B : List Cond} (h : w.before args s = true) (t : ∀ w ∈ B, w.before args s = true) : ∀ w' ∈ w :: B, w'.before args s = true := fun w' h' => (List.mem_cons.mp h').elim (fun e => by rw [e]; exact h) (t w')
theorem vx_n {args : Array Value} {s : State} : ∀ w ∈ ([] : List Cond), w.before args s = true := fun _ h => nomatch h
theorem vx_own {args : Array Value} {s : State} {L : List Cond} (h1 : ∀ w ∈ L.filter vx_no, w.before args s = true)
    (hU : (Cond.isRef (.static Bundle.tN "UNASSIGNED_STACK" Bundle.steD)).before args s = true) (hN : (Cond.isRef (.static Bundle.tN "SUPPRESSED_SENTINEL" Bundle.listD)).before args s = true)
    (lU : (Cond.laysStatic Bundle.tN "UNASSIGNED_STACK" Bundle.steD).before args s = true) (lN : (Cond.laysStatic Bundle.tN "SUPPRESSED_SENTINEL" Bundle.listD).before args s = true) : ∀ w ∈ L, w.before args s = true := by
  intro w hw
  by_cases e1 : w = .isRef (.static Bundle.tN "UNASSIGNED_STACK" Bundle.steD)
  · rw [e1]; exact hU
  · by_cases e2 : w = .isRef (.static Bundle.tN "SUPPRESSED_SENTINEL" Bundle.listD)
    · rw [e2]; exact hN
    · by_cases e3 : w = .laysStatic Bundle.tN "UNASSIGNED_STACK" Bundle.steD
      · rw [e3]; exact lU
      · by_cases e4 : w = .laysStatic Bundle.tN "SUPPRESSED_SENTINEL" Bundle.listD
        · rw [e4]; exact lN
        · exact h1 w (List.mem_filter.mpr ⟨hw, by unfold vx_no; rw [decide_eq_true e1, decide_eq_true e2, decide_eq_true e3, decide_eq_true e4]; rfl⟩)
/-- where a static field lies, its class's statics cell in H -/
def vx_L (C n d : String) (A : Nat → Prop) (U : State) (H : Heap) : Prop := ∃ (c : ClassId) (k : Class) (i : Nat) (f : Field) (a : Nat) (cell : Cell), U.vm.findClass C = some c ∧ U.fieldFound? C n d = some (c, k, i, f) ∧ f.isStatic = true ∧ k.statics = some a ∧ H[a]? = some cell ∧ cell.vm.isStatics = true ∧ cell.cls = c ∧ f.slot < cell.slots.size ∧ k.staticTypes[f.slot]? = some f.type ∧ ¬ A a
theorem vx_L.moved {C n d : String} {A : Nat → Prop} {u U : State} {H : Heap} (hvm : u.vm.Alike U.vm) (h : vx_L C n d A u H) : vx_L C n d A U H := by
  obtain ⟨c, k, i, f, a, cell, h1, h2, h3, h4, h5, h6, h7, h8, h9, h10⟩ := h
  obtain ⟨k', hi', he⟩ := State.fieldFound?_setVm hvm h2
  exact ⟨c, k', i, f, a, cell, by rw [hvm.findClass]; exact h1, hi', h3, by rw [he]; exact h4, h5, h6, h7, h8, by rw [he]; exact h9, h10⟩
theorem vx_L.kept {C n d : String} {A : Nat → Prop} {U : State} {H H1 : Heap} (h : vx_L C n d A U H) (hq : ∀ a : Nat, a < H.size → ¬ A a → H1[a]? = H[a]?) : vx_L C n d A U H1 := by
  obtain ⟨c, k, i, f, a, cell, h1, h2, h3, h4, h5, h6, h7, h8, h9, h10⟩ := h
  exact ⟨c, k, i, f, a, cell, h1, h2, h3, h4, by rw [hq a (Array.getElem?_eq_some_iff.mp h5).1 h10]; exact h5, h6, h7, h8, h9, h10⟩
theorem vx_L.narrow {C n d : String} {A B : Nat → Prop} {U : State} {H : Heap} (h : vx_L C n d A U H) (hAB : ∀ q, B q → A q) : vx_L C n d B U H := by
  obtain ⟨c, k, i, f, a, cell, h1, h2, h3, h4, h5, h6, h7, h8, h9, h10⟩ := h
  exact ⟨c, k, i, f, a, cell, h1, h2, h3, h4, h5, h6, h7, h8, h9, fun z => h10 (hAB _ z)⟩
theorem vx_L.word {C n d : String} {A : Nat → Prop} {s : State} {args : Array Value} (h : vx_L C n d A s s.heap) : (Cond.laysStatic C n d).before args s = true := by
  obtain ⟨c, k, i, f, a, cell, h1, h2, h3, h4, h5, h6, h7, h8, h9, -⟩ := h
  show (Cond.laysStatic C n d).holds args s none s [] = true
  exact Cond.laysStatic_of h1 h2 h3 h4 h5 h6 h7 h8 h9
/-- .. and what it holds: null or some reference -/
def vx_Zq (C n d : String) (A : Nat → Prop) (U : State) (H : Heap) : Prop := va_Zq C n d A U H ∧ vx_L C n d A U H
theorem vx_Zq.moved {C n d : String} {A : Nat → Prop} {u U : State} {H : Heap} (hvm : u.vm.Alike U.vm) (h : vx_Zq C n d A u H) : vx_Zq C n d A U H := ⟨va_Zq.moved hvm h.1, vx_L.moved hvm h.2⟩
theorem vx_Zq.kept {C n d : String} {A : Nat → Prop} {U : State} {H H1 : Heap} (h : vx_Zq C n d A U H) (hq : ∀ a : Nat, a < H.size → ¬ A a → H1[a]? = H[a]?) : vx_Zq C n d A U H1 := ⟨va_Zq.kept h.1 hq, vx_L.kept h.2 hq⟩
theorem vx_Zq.narrow {C n d : String} {A B : Nat → Prop} {U : State} {H : Heap} (h : vx_Zq C n d A U H) (hAB : ∀ q, B q → A q) : vx_Zq C n d B U H := ⟨va_Zq.narrow h.1 hAB, vx_L.narrow h.2 hAB⟩
theorem vx_Zqof {args : Array Value} {s : State} {C n d : String} {A : Nat → Prop} (hl : (Cond.laysStatic C n d).before args s = true) (hini : (Cond.initialized C).before args s = true) (h : (Cond.isRef (.static C n d)).before args s = true) (hA : ∀ a : Nat, a < s.heap.size → ¬ A a) : vx_Zq C n d A s s.heap := by
  refine ⟨va_Zqof hl hini h hA, ?_⟩
  obtain ⟨c, k, i, f, a, cell, h1, h2, h3, h4, h5, h6, h7, h8, h9⟩ := Cond.laysStatic_spec hl
  exact ⟨c, k, i, f, a, cell, h1, h2, h3, h4, h5, h6, h7, h8, h9, hA a (Array.getElem?_eq_some_iff.mp h5).1⟩
theorem vx_isRef {C n d : String} {v : Value} {A : Nat → Prop} {s : State} {args : Array Value} (h : va_Z C n d v A s s.heap) (hv : v.isRef = true) : (Cond.isRef (.static C n d)).before args s = true := by
  obtain ⟨cf, kf, fi, f, a, cell, h1, h2, h3, h4, h5, h6, h7, -⟩ := h
  have he : (Term.static C n d).eval args s none [] s = some v := by
    simp [Term.eval, State.fieldNamed?, h1, h2, h4, h5, h6, h7]
  simp only [Cond.before, Cond.holds, Cond.value, he]
  cases v <;> simp_all [Value.isRef]
theorem vx_isRefq {C n d : String} {A : Nat → Prop} {s : State} {args : Array Value} (h : va_Zq C n d A s s.heap) : (Cond.isRef (.static C n d)).before args s = true := by
  rcases h with h | ⟨t, h⟩
  · exact vx_isRef h rfl
  · exact vx_isRef h rfl
/-- the same frame, seen from here: as if the method were called anew in this heap -/
theorem vx_rebase {T : State} (X : Stand p l e R s m args below meth c T locs cells slots) {R' : Room} (hf : R'.frames ≤ R.frames) (hl : R'.locals ≤ R.locals) (hc : cells + R'.cells ≤ R.cells) (hs : slots + R'.slots ≤ R.slots) :
    Stand p l e R' ((T.setVm s.vm).setFrames (.invoking m args :: below)) m args below meth c T [] 0 0 := by
  have htop : (T.setVm s.vm).topJava?.isSome := X.here.top
  have hF : ((T.setVm s.vm).setFrames (.invoking m args :: below)).frames = .invoking m args :: below := State.frames_setFrames _ (State.cur_lt_of_top htop)
  obtain ⟨g₀, hg0⟩ := Option.isSome_iff_exists.mp htop
  obtain ⟨r, hr⟩ := State.topJava?_eq_some.mp hg0
  have hl9 : e.platform.stackLimits (T.setVm s.vm).me = e.platform.stackLimits s.me := X.limits
  have hb9 : (T.setVm s.vm).me.stackBytes = s.me.stackBytes := X.bytes
  refine ⟨X.admits, X.cas, X.clock, hF, ?_, X.hears, X.method, X.code, X.here, X.tail, X.warmed, ?_, ?_, ?_⟩
  · have h := X.room
    have hU : ((T.setVm s.vm).setFrames (.invoking m args :: below)).localsInUse = s.localsInUse := by
      rw [State.localsInUse_invoking hF (meth := meth) (c := c) X.method X.code, State.localsInUse_invoking X.frames X.method X.code]
    simp only [State.hasRoom, Bool.and_eq_true, decide_eq_true_eq] at h ⊢
    obtain ⟨⟨⟨⟨h1, h2, h3, h4, h5, h6⟩, h7⟩, h8⟩, h9⟩ := h
    rw [X.frames, List.length_cons] at h2 h3
    have q1 := X.heapSize
    have q2 := X.used
    simp only [hF, hU, List.length_cons, State.stackLimits_setFrames, State.stackBytes_setFrames, hl9, hb9]
    refine ⟨⟨⟨⟨by omega, by omega, by omega, by omega, by omega, h6⟩, ?_⟩, ?_⟩, X.book⟩
    · show T.heap.size + R'.cells ≤ e.platform.maxCells
      omega
    · show T.slotsUsed + R'.slots ≤ e.platform.maxSlots
      omega
  · rw [State.stackLimits_setFrames]; rfl
  · rw [State.stackBytes_setFrames]; rfl
  · refine ⟨?_, Nat.le_refl _, Nat.le_refl _, ?_, ?_, fun a c9 h9 => ⟨c9, h9, rfl, rfl, fun _ _ => rfl⟩⟩
    · obtain ⟨t, ht, -⟩ := State.frames_cons hr
      show T.setVm s.vm = { ((T.setVm s.vm).setFrames (.invoking m args :: below)).setFrames (T.setVm s.vm).frames with heap := T.heap, slotsUsed := T.slotsUsed }
      rw [State.setFrames_setFrames, State.setFrames_self ht]
      rfl
    · show T.slotsUsed = T.slotsUsed + ((T.heap.toList.drop T.heap.size).map (·.slots.size)).sum
      rw [List.drop_eq_nil_of_le (Nat.le_of_eq Array.length_toList)]
      rfl
    · show ((T.heap.toList.drop T.heap.size).map (·.slots.size)).sum ≤ 0
      rw [List.drop_eq_nil_of_le (Nat.le_of_eq Array.length_toList)]
      exact Nat.le_refl _
/-- 'throw new E()': new; dup; invokespecial; athrow -/
theorem vx_throw0 {cc : ByteArray} {pc : Nat} (hexec : p.tables.exec = Jvm.exec) (hb : c.code = cc) (hl : l.stackTraces = false) {own cls : String} {names : List String} {ik ic mc ms : Nat} {A : Nat → Prop}
    (hown : s.vm.findClass own = some m.cls) (hcls : Bundle.fit cls = true) (hnames : ∀ n ∈ names, Bundle.fit n = true)
    (hk : (Cond.classLink own ik cls).before args s = true) (hini : (Cond.initialized cls).before args s = true) (hat : ∀ w ∈ vx_at0 own ic cls names, w.before args s = true)
    (hgood : ∀ w ∈ Cond.classLink own ik cls :: Cond.initialized cls :: vx_at0 own ic cls names, vx_ot w = true)
    (hU : vx_Zq Bundle.tN "UNASSIGNED_STACK" Bundle.steD A s s.heap) (hN : vx_Zq Bundle.tN "SUPPRESSED_SENTINEL" Bundle.listD A s s.heap) (hS : va_S A s.heap H locs) (hsize : ls.size = c.maxLocals)
    (d0 : decode cc pc = .ok (.new ik, 3)) (d3 : decode cc (pc + 3) = .ok (.dup, 1)) (d4 : decode cc (pc + 4) = .ok (.invokespecial ic, 3)) (d7 : decode cc (pc + 7) = .ok (.athrow, 1))
    (hout : ∀ x ∈ c.exceptionTable.toList, covers x (pc + 7) = false)
    (hRframes : names.length + 3 < R.frames) (hRlocals : (rest.map fun v => v.category).sum + (13 * (names.length + 1) + 42) ≤ R.locals) (hRcells : cells + 1 ≤ R.cells) (hRslots : slots + 6 ≤ R.slots) (hlocks : meth.locks = false)
    (hx : ∀ t : State, s.vm.Alike t.vm → H.size ≤ t.heap.size → (∀ q : Nat, q < H.size → t.heap[q]? = H[q]?) → XC cls s t)
    (hf : ∀ z ∈ locs, free z.base) (hc : cells + 1 ≤ mc) (hs : slots + 6 ≤ ms) :
    W p l e R s m args below meth c H locs cells slots (vx_MQ below Qc XC args s mc ms free) (F0 m pc ls rest) := by
  intro T hT X
  have htr : e.platform.stackTraces = false := (show e.platform.stackTraces = l.stackTraces by rw [X.admits.platform]).trans hl
  have Y := vx_rebase X (R' := { frames := R.frames, locals := R.locals, cells := 1, slots := 6 }) (Nat.le_refl _) (Nat.le_refl _) hRcells hRslots
  obtain ⟨s', hA⟩ : ∃ z, z = (T.setVm s.vm).setFrames (.invoking m args :: below) := ⟨_, rfl⟩
  rw [← hA] at Y
  have hvm : s'.vm = s.vm := by rw [hA]; rfl
  have hhp : s'.heap = H := by rw [hA]; exact hT
  have hW0 : s.WarmedH s'.vm := by rw [hvm]; exact State.WarmedH.refl s
  have hat' : ∀ w ∈ vx_at0 own ic cls names, w.before args s' = true := fun w hw => vx_ot_at hW0 hvm.symm (hgood w (List.mem_cons_of_mem _ (List.mem_cons_of_mem _ hw))) (hat w hw)
  have hk' : (Cond.classLink own ik cls).before args s' = true := vx_ot_at hW0 hvm.symm (hgood _ List.mem_cons_self) hk
  have hini' : (Cond.initialized cls).before args s' = true := vx_ot_at hW0 hvm.symm (hgood _ (List.mem_cons_of_mem _ List.mem_cons_self)) hini
  have hU' : vx_Zq Bundle.tN "UNASSIGNED_STACK" Bundle.steD A s' s'.heap := by rw [hhp]; exact vx_Zq.moved hW0.alike (hU.kept hS.2.1)
  have hN' : vx_Zq Bundle.tN "SUPPRESSED_SENTINEL" Bundle.listD A s' s'.heap := by rw [hhp]; exact vx_Zq.moved hW0.alike (hN.kept hS.2.1)
  have h : ∀ w ∈ Bundle.ownAtoms0 own ic cls names, w.before args s' = true := vx_own hat' (vx_isRefq hU'.1) (vx_isRefq hN'.1) hU'.2.word hN'.2.word
  have hown' : s'.vm.findClass own = some m.cls := by rw [hvm]; exact hown
  have hins : (Cond.instantiable cls 6).before args s' = true := h _ (by simp [Bundle.ownAtoms0])
  obtain ⟨vm₁, cX, kX, hfX, hkX, -, -, X₁, st1⟩ := Y.newCold hexec (own := own) (C := cls) (index := ik) (n := 6) hown' hk' hins hini'
    (g := F0 m pc ls rest) rfl (by rw [hb]; exact d0) (Nat.le_refl _) (Nat.le_refl _)
  generalize hT1 : (T.setVm vm₁).pushCell { cls := cX, slots := kX.instanceTypes.map defaultValue, vm := .none } = T1 at X₁ st1
  have hcat : (Value.ref T.heap.size).category = 1 := rfl
  have hcellA : T1.heap[T.heap.size]? = some (freshCell cX kX) := by rw [← hT1]; exact State.heap_pushCell_size _ _
  have d3' : decode c.code (pc + 3) = .ok (.dup, 1) := by rw [hb]; exact d3
  obtain ⟨U, hsteps, hrun, hend, hW, hsame, ce, hce, hO⟩ := X₁.ctorThrow0 hexec htr (own := own) (cls := cls) (names := names) (ic := ic) hown' hcls hnames h (fun x hx => nomatch hx) hfX hkX hcellA (by rw [hhp, hT]; exact Nat.le_refl _)
    (g := { method := m, pc := pc + 4, locals := ls, stack := .ref T.heap.size :: .ref T.heap.size :: rest, locked := none }) rfl hsize rfl rfl (rest := rest) rfl
    (by rw [hb]; exact d4) (by rw [hb]; exact d7) hout hRframes (by simp only [List.map_cons, List.sum_cons, hcat]; omega) hlocks
  obtain ⟨f1, f2⟩ := vx_frame hsame
  rw [hhp] at f1 f2
  have hWs : s.WarmedH U.vm := State.WarmedH.trans hW0 hW
  have hcl : s.vm.findClass cls = some ce.cls := by
    have h9 := hO.cls
    rw [hvm] at h9
    exact h9
  have hall : s.sameButNew ({ U with vm := s.vm } : State) locs mc ms := by
    subst hA
    obtain ⟨e1, e2⟩ := hsame
    rw [State.setFrames_setFrames] at e1
    have h2 : (T.setVm s.vm).sameButNew ({ U with vm := s.vm } : State) [] (0 + 1) (0 + 6) := ⟨e1, e2⟩
    have h3 := X.same.trans h2
    rw [List.append_nil] at h3
    exact h3.mono hc hs
  refine ⟨U, ?_, .threw T.heap.size, hrun, hend, Or.inr ⟨T.heap.size, rfl, cls, ce, locs, hx U hWs.alike f1 (fun q hq => f2 q hq (fun z hz => nomatch hz)), hce, hO.vm, hcl, hWs, hall, hf⟩⟩
  refine st1 _ ?_
  show Steps p.tables e below (T1.setTop { method := m, pc := pc + 3, locals := ls, stack := .ref T.heap.size :: rest, locked := none }) _
  jvm_step X₁.here [X₁.here.top, hexec, d3', Value.category]
  exact hsteps
/-- 'throw new E("text")': new; dup; ldc; invokespecial; athrow -/
theorem vx_throwS {cc : ByteArray} {pc : Nat} (hexec : p.tables.exec = Jvm.exec) (hb : c.code = cc) (hl : l.stackTraces = false) {own cls text : String} {names : List String} {ik is ic mc ms sa : Nat} {A : Nat → Prop}
    (hown : s.vm.findClass own = some m.cls) (hcls : Bundle.fit cls = true) (hnames : ∀ n ∈ names, Bundle.fit n = true)
    (hk : (Cond.classLink own ik cls).before args s = true) (hini : (Cond.initialized cls).before args s = true) (hstr : vk_R own is text sa s) (hat : ∀ w ∈ vx_atS own ic cls names, w.before args s = true)
    (hgood : ∀ w ∈ Cond.classLink own ik cls :: Cond.initialized cls :: vx_atS own ic cls names, vx_ot w = true)
    (hU : vx_Zq Bundle.tN "UNASSIGNED_STACK" Bundle.steD A s s.heap) (hN : vx_Zq Bundle.tN "SUPPRESSED_SENTINEL" Bundle.listD A s s.heap) (hS : va_S A s.heap H locs) (hsize : ls.size = c.maxLocals)
    (d0 : decode cc pc = .ok (.new ik, 3)) (d3 : decode cc (pc + 3) = .ok (.dup, 1)) (d4 : decode cc (pc + 4) = .ok (.ldc is, 2)) (d6 : decode cc (pc + 6) = .ok (.invokespecial ic, 3)) (d9 : decode cc (pc + 9) = .ok (.athrow, 1))
    (hout : ∀ x ∈ c.exceptionTable.toList, covers x (pc + 9) = false)
    (hRframes : names.length + 3 < R.frames) (hRlocals : (rest.map fun v => v.category).sum + (13 * (names.length + 1) + 43) ≤ R.locals) (hRcells : cells + 1 ≤ R.cells) (hRslots : slots + 6 ≤ R.slots) (hlocks : meth.locks = false)
    (hx : ∀ t : State, s.vm.Alike t.vm → H.size ≤ t.heap.size → (∀ q : Nat, q < H.size → t.heap[q]? = H[q]?) → XC cls s t)
    (hf : ∀ z ∈ locs, free z.base) (hc : cells + 1 ≤ mc) (hs : slots + 6 ≤ ms) :
    W p l e R s m args below meth c H locs cells slots (vx_MQ below Qc XC args s mc ms free) (F0 m pc ls rest) := by
  intro T hT X
  have htr : e.platform.stackTraces = false := (show e.platform.stackTraces = l.stackTraces by rw [X.admits.platform]).trans hl
  have Y := vx_rebase X (R' := { frames := R.frames, locals := R.locals, cells := 1, slots := 6 }) (Nat.le_refl _) (Nat.le_refl _) hRcells hRslots
  obtain ⟨s', hA⟩ : ∃ z, z = (T.setVm s.vm).setFrames (.invoking m args :: below) := ⟨_, rfl⟩
  rw [← hA] at Y
  have hvm : s'.vm = s.vm := by rw [hA]; rfl
  have hhp : s'.heap = H := by rw [hA]; exact hT
  have hW0 : s.WarmedH s'.vm := by rw [hvm]; exact State.WarmedH.refl s
  have hat' : ∀ w ∈ vx_atS own ic cls names, w.before args s' = true := fun w hw => vx_ot_at hW0 hvm.symm (hgood w (List.mem_cons_of_mem _ (List.mem_cons_of_mem _ hw))) (hat w hw)
  have hk' : (Cond.classLink own ik cls).before args s' = true := vx_ot_at hW0 hvm.symm (hgood _ List.mem_cons_self) hk
  have hini' : (Cond.initialized cls).before args s' = true := vx_ot_at hW0 hvm.symm (hgood _ (List.mem_cons_of_mem _ List.mem_cons_self)) hini
  have hU' : vx_Zq Bundle.tN "UNASSIGNED_STACK" Bundle.steD A s' s'.heap := by rw [hhp]; exact vx_Zq.moved hW0.alike (hU.kept hS.2.1)
  have hN' : vx_Zq Bundle.tN "SUPPRESSED_SENTINEL" Bundle.listD A s' s'.heap := by rw [hhp]; exact vx_Zq.moved hW0.alike (hN.kept hS.2.1)
  have h : ∀ w ∈ Bundle.ownAtoms own ic cls names, w.before args s' = true := vx_own hat' (vx_isRefq hU'.1) (vx_isRefq hN'.1) hU'.2.word hN'.2.word
  have hown' : s'.vm.findClass own = some m.cls := by rw [hvm]; exact hown
  have hins : (Cond.instantiable cls 6).before args s' = true := h _ (by simp [Bundle.ownAtoms])
  obtain ⟨vm₁, cX, kX, hfX, hkX, -, -, X₁, st1⟩ := Y.newCold hexec (own := own) (C := cls) (index := ik) (n := 6) hown' hk' hins hini'
    (g := F0 m pc ls rest) rfl (by rw [hb]; exact d0) (Nat.le_refl _) (Nat.le_refl _)
  generalize hT1 : (T.setVm vm₁).pushCell { cls := cX, slots := kX.instanceTypes.map defaultValue, vm := .none } = T1 at X₁ st1
  have hcat : (Value.ref T.heap.size).category = 1 := rfl
  have hcellA : T1.heap[T.heap.size]? = some (freshCell cX kX) := by rw [← hT1]; exact State.heap_pushCell_size _ _
  have d3' : decode c.code (pc + 3) = .ok (.dup, 1) := by rw [hb]; exact d3
  have d4' : decode c.code (pc + 4) = .ok (.ldc is, 2) := by rw [hb]; exact d4
  have hstr' : vk_R own is text sa s' := vk_R.warm hW0 hstr
  obtain ⟨U, hsteps, hrun, hend, hW, hsame, ce, hce, hO⟩ := X₁.ctorThrowS hexec htr (own := own) (cls := cls) (names := names) (ic := ic) hown' hcls hnames h (fun x hx => nomatch hx) hfX hkX hcellA (by rw [hhp, hT]; exact Nat.le_refl _) (msg := .ref sa) rfl
    (g := { method := m, pc := pc + 6, locals := ls, stack := .ref sa :: .ref T.heap.size :: .ref T.heap.size :: rest, locked := none }) rfl hsize rfl rfl (rest := rest) rfl
    (by rw [hb]; exact d6) (by rw [hb]; exact d9) hout hRframes (by simp only [List.map_cons, List.sum_cons, hcat]; omega) hlocks
  obtain ⟨f1, f2⟩ := vx_frame hsame
  rw [hhp] at f1 f2
  have hWs : s.WarmedH U.vm := State.WarmedH.trans hW0 hW
  have hcl : s.vm.findClass cls = some ce.cls := by
    have h9 := hO.cls
    rw [hvm] at h9
    exact h9
  have hall : s.sameButNew ({ U with vm := s.vm } : State) locs mc ms := by
    subst hA
    obtain ⟨e1, e2⟩ := hsame
    rw [State.setFrames_setFrames] at e1
    have h2 : (T.setVm s.vm).sameButNew ({ U with vm := s.vm } : State) [] (0 + 1) (0 + 6) := ⟨e1, e2⟩
    have h3 := X.same.trans h2
    rw [List.append_nil] at h3
    exact h3.mono hc hs
  refine ⟨U, ?_, .threw T.heap.size, hrun, hend, Or.inr ⟨T.heap.size, rfl, cls, ce, locs, hx U hWs.alike f1 (fun q hq => f2 q hq (fun z hz => nomatch hz)), hce, hO.vm, hcl, hWs, hall, hf⟩⟩
  refine st1 _ ?_
  show Steps p.tables e below (T1.setTop { method := m, pc := pc + 3, locals := ls, stack := .ref T.heap.size :: rest, locked := none }) _
  jvm_step X₁.here [X₁.here.top, hexec, d3', Value.category]
  exact X₁.ldcString hexec (own := own) (text := text) (index := is) (a := sa) hown' hstr'.1 hstr'.2
    (g := { method := m, pc := pc + 4, locals := ls, stack := .ref T.heap.size :: .ref T.heap.size :: rest, locked := none }) rfl d4' _ hsteps
/-- 'throw new E("text")', the text by a wide index -/
theorem vx_throwSW {cc : ByteArray} {pc : Nat} (hexec : p.tables.exec = Jvm.exec) (hb : c.code = cc) (hl : l.stackTraces = false) {own cls text : String} {names : List String} {ik is ic mc ms sa : Nat} {A : Nat → Prop}
    (hown : s.vm.findClass own = some m.cls) (hcls : Bundle.fit cls = true) (hnames : ∀ n ∈ names, Bundle.fit n = true)
    (hk : (Cond.classLink own ik cls).before args s = true) (hini : (Cond.initialized cls).before args s = true) (hstr : vk_R own is text sa s) (hat : ∀ w ∈ vx_atS own ic cls names, w.before args s = true)
    (hgood : ∀ w ∈ Cond.classLink own ik cls :: Cond.initialized cls :: vx_atS own ic cls names, vx_ot w = true)
    (hU : vx_Zq Bundle.tN "UNASSIGNED_STACK" Bundle.steD A s s.heap) (hN : vx_Zq Bundle.tN "SUPPRESSED_SENTINEL" Bundle.listD A s s.heap) (hS : va_S A s.heap H locs) (hsize : ls.size = c.maxLocals)
    (d0 : decode cc pc = .ok (.new ik, 3)) (d3 : decode cc (pc + 3) = .ok (.dup, 1)) (d4 : decode cc (pc + 4) = .ok (.ldc_w is, 3)) (d7 : decode cc (pc + 7) = .ok (.invokespecial ic, 3)) (d10 : decode cc (pc + 10) = .ok (.athrow, 1))
    (hout : ∀ x ∈ c.exceptionTable.toList, covers x (pc + 10) = false)
    (hRframes : names.length + 3 < R.frames) (hRlocals : (rest.map fun v => v.category).sum + (13 * (names.length + 1) + 43) ≤ R.locals) (hRcells : cells + 1 ≤ R.cells) (hRslots : slots + 6 ≤ R.slots) (hlocks : meth.locks = false)
    (hx : ∀ t : State, s.vm.Alike t.vm → H.size ≤ t.heap.size → (∀ q : Nat, q < H.size → t.heap[q]? = H[q]?) → XC cls s t)
    (hf : ∀ z ∈ locs, free z.base) (hc : cells + 1 ≤ mc) (hs : slots + 6 ≤ ms) :
    W p l e R s m args below meth c H locs cells slots (vx_MQ below Qc XC args s mc ms free) (F0 m pc ls rest) := by
  intro T hT X
  have htr : e.platform.stackTraces = false := (show e.platform.stackTraces = l.stackTraces by rw [X.admits.platform]).trans hl
  have Y := vx_rebase X (R' := { frames := R.frames, locals := R.locals, cells := 1, slots := 6 }) (Nat.le_refl _) (Nat.le_refl _) hRcells hRslots
  obtain ⟨s', hA⟩ : ∃ z, z = (T.setVm s.vm).setFrames (.invoking m args :: below) := ⟨_, rfl⟩
  rw [← hA] at Y
  have hvm : s'.vm = s.vm := by rw [hA]; rfl
  have hhp : s'.heap = H := by rw [hA]; exact hT
  have hW0 : s.WarmedH s'.vm := by rw [hvm]; exact State.WarmedH.refl s
  have hat' : ∀ w ∈ vx_atS own ic cls names, w.before args s' = true := fun w hw => vx_ot_at hW0 hvm.symm (hgood w (List.mem_cons_of_mem _ (List.mem_cons_of_mem _ hw))) (hat w hw)
  have hk' : (Cond.classLink own ik cls).before args s' = true := vx_ot_at hW0 hvm.symm (hgood _ List.mem_cons_self) hk
  have hini' : (Cond.initialized cls).before args s' = true := vx_ot_at hW0 hvm.symm (hgood _ (List.mem_cons_of_mem _ List.mem_cons_self)) hini
  have hU' : vx_Zq Bundle.tN "UNASSIGNED_STACK" Bundle.steD A s' s'.heap := by rw [hhp]; exact vx_Zq.moved hW0.alike (hU.kept hS.2.1)
  have hN' : vx_Zq Bundle.tN "SUPPRESSED_SENTINEL" Bundle.listD A s' s'.heap := by rw [hhp]; exact vx_Zq.moved hW0.alike (hN.kept hS.2.1)
  have h : ∀ w ∈ Bundle.ownAtoms own ic cls names, w.before args s' = true := vx_own hat' (vx_isRefq hU'.1) (vx_isRefq hN'.1) hU'.2.word hN'.2.word
  have hown' : s'.vm.findClass own = some m.cls := by rw [hvm]; exact hown
  have hins : (Cond.instantiable cls 6).before args s' = true := h _ (by simp [Bundle.ownAtoms])
  obtain ⟨vm₁, cX, kX, hfX, hkX, -, -, X₁, st1⟩ := Y.newCold hexec (own := own) (C := cls) (index := ik) (n := 6) hown' hk' hins hini'
    (g := F0 m pc ls rest) rfl (by rw [hb]; exact d0) (Nat.le_refl _) (Nat.le_refl _)
  generalize hT1 : (T.setVm vm₁).pushCell { cls := cX, slots := kX.instanceTypes.map defaultValue, vm := .none } = T1 at X₁ st1
  have hcat : (Value.ref T.heap.size).category = 1 := rfl
  have hcellA : T1.heap[T.heap.size]? = some (freshCell cX kX) := by rw [← hT1]; exact State.heap_pushCell_size _ _
  have d3' : decode c.code (pc + 3) = .ok (.dup, 1) := by rw [hb]; exact d3
  have d4' : decode c.code (pc + 4) = .ok (.ldc_w is, 3) := by rw [hb]; exact d4
  have hstr' : vk_R own is text sa s' := vk_R.warm hW0 hstr
  obtain ⟨U, hsteps, hrun, hend, hW, hsame, ce, hce, hO⟩ := X₁.ctorThrowS hexec htr (own := own) (cls := cls) (names := names) (ic := ic) hown' hcls hnames h (fun x hx => nomatch hx) hfX hkX hcellA (by rw [hhp, hT]; exact Nat.le_refl _) (msg := .ref sa) rfl
    (g := { method := m, pc := pc + 7, locals := ls, stack := .ref sa :: .ref T.heap.size :: .ref T.heap.size :: rest, locked := none }) rfl hsize rfl rfl (rest := rest) rfl
    (by rw [hb]; exact d7) (by rw [hb]; exact d10) hout hRframes (by simp only [List.map_cons, List.sum_cons, hcat]; omega) hlocks
  obtain ⟨f1, f2⟩ := vx_frame hsame
  rw [hhp] at f1 f2
  have hWs : s.WarmedH U.vm := State.WarmedH.trans hW0 hW
  have hcl : s.vm.findClass cls = some ce.cls := by
    have h9 := hO.cls
    rw [hvm] at h9
    exact h9
  have hall : s.sameButNew ({ U with vm := s.vm } : State) locs mc ms := by
    subst hA
    obtain ⟨e1, e2⟩ := hsame
    rw [State.setFrames_setFrames] at e1
    have h2 : (T.setVm s.vm).sameButNew ({ U with vm := s.vm } : State) [] (0 + 1) (0 + 6) := ⟨e1, e2⟩
    have h3 := X.same.trans h2
    rw [List.append_nil] at h3
    exact h3.mono hc hs
  refine ⟨U, ?_, .threw T.heap.size, hrun, hend, Or.inr ⟨T.heap.size, rfl, cls, ce, locs, hx U hWs.alike f1 (fun q hq => f2 q hq (fun z hz => nomatch hz)), hce, hO.vm, hcl, hWs, hall, hf⟩⟩
  refine st1 _ ?_
  show Steps p.tables e below (T1.setTop { method := m, pc := pc + 3, locals := ls, stack := .ref T.heap.size :: rest, locked := none }) _
  jvm_step X₁.here [X₁.here.top, hexec, d3', Value.category]
  exact X₁.ldcStringW hexec (own := own) (text := text) (index := is) (a := sa) hown' hstr'.1 hstr'.2
    (g := { method := m, pc := pc + 4, locals := ls, stack := .ref T.heap.size :: .ref T.heap.size :: rest, locked := none }) rfl d4' _ hsteps
end Ends
section Bodies
variable {l : Launch}
theorem vx_ofW {y : MethodName} {ws ws' : List Cond} {rm : Room} {Pc : Array Value → State → Prop} {Qc : Array Value → State → Outcome → State → Prop} {XC : String → State → State → Prop} {mc ms : Nat} {free : Addr → Prop} {cc : ByteArray} {maxL : Nat} {ret : Option FieldType}
    (hy : plainName y.cls = true) (hw : ws = Cond.code y cc maxL ret :: ws')
    (body : ∀ p e s m args below meth c s₁, BodyLoose p l y (headSpec ws rm) cc maxL ret e s m args below meth c s₁ → c.maxLocals = maxL → (∀ x ∈ c.exceptionTable.toList, False) → Pc args s →
      W p l e (headSpec ws rm).room s m args below meth c s.heap [] 0 0 (vx_MQ below Qc XC args s mc ms free) (entryFrame m args maxL)) : vx_Met l y ws rm Pc Qc XC mc ms free := by
  refine MetFree.of_bodyS (code := cc) (maxLocals := maxL) (ret := ret) hy ?_ ?_
  · intro args s m h hn
    obtain ⟨meth, c, h1, h2, h3, h4, h5, h6, -, -⟩ := Cond.code_spec hn (atoms_spec (ws := ws) h _ (by rw [hw]; exact List.mem_cons_self))
    exact ⟨meth, c, h1, h2, h3, h4, h5, h6⟩
  · intro p e s m args below meth c s₁ B hml hP _
    have hh0 : s₁.heap = s.heap := by rw [B.state]; rfl
    have ht : ∀ x ∈ c.exceptionTable.toList, False := by
      obtain ⟨meth9, c9, h1, h2, -, -, -, -, h7, -⟩ := Cond.code_spec B.named (atoms_spec (ws := ws) B.pre _ (by rw [hw]; exact List.mem_cons_self))
      cases Option.some.inj (h1.symm.trans B.method)
      cases Option.some.inj (h2.symm.trans (Stand.of_body B).code)
      intro x hx
      rw [Array.isEmpty_iff.mp h7] at hx
      cases hx
    obtain ⟨t, a1, o, b1, b2, b3⟩ := body p e s m args below meth c s₁ B hml ht hP s₁ hh0 (Stand.of_body B)
    exact ⟨t, o, a1, b1, b2, b3⟩
/-- the table of a body with handlers -/
theorem vx_table {p : Program} {x y : MethodName} {S : Spec} {cc bytes : ByteArray} {maxL maxL' : Nat} {ret ret' : Option FieldType} {e : Env} {s s₁ : State} {m : MethodId} {args : Array Value} {below : List Frame} {meth : Method} {c : Code} {hh : List (Nat × Nat × Nat × Nat)}
    (B : BodyLoose p l y S cc maxL ret e s m args below meth c s₁) (h : (Cond.codeWith y bytes maxL' ret' hh).before args s = true) : c.exceptionTable.toList = tableOf hh := by
  obtain ⟨m9, meth9, c9, hn9, h1, h2, -, -, h6, -⟩ := Cond.codeWith_spec h
  cases Option.some.inj (hn9.symm.trans B.named)
  cases Option.some.inj (h1.symm.trans B.method)
  cases Option.some.inj (h2.symm.trans (Stand.of_body B).code)
  rw [← h6, table_eq]
end Bodies
end VXA
/-! ===== END ===== -/
/-! ===== BEGIN a static call of a method with an exception table ===== -/
section VXS
variable {p : Program} {l : Launch} {e : Env} {R : Room} {s : State} {m : MethodId} {args : Array Value} {below : List Frame} {meth : Method} {c : Code} {T : State} {H : Heap} {locs : List Loc} {cells slots : Nat}
abbrev vx_CSW (R : Room) (s : State) (args : Array Value) (own : String) (index : Nat) (y : MethodName) (bytes : ByteArray) (maxL : Nat) (ret : Option FieldType) (hh : List (Nat × Nat × Nat × Nat)) (ws : List Cond) (rm : Room) (mc ms n : Nat) : Prop :=
  (rm.cells = mc ∧ rm.slots = ms ∧ rm.frames + 1 ≤ R.frames ∧ 8 + (maxL + 11) + rm.locals ≤ R.locals ∧ (∀ w ∈ ws, ∀ (a' : Array Value) (U : State), s.WarmedH U.vm → w.before a' U = true) ∧ Cond.codeWith y bytes maxL ret hh ∈ ws) ∧
  (Cond.codeWith y bytes maxL ret hh).before args s = true ∧ (Cond.initialized y.cls).before args s = true ∧ (y.cls ≠ "java/lang/invoke/MethodHandle" ∧ y.cls ≠ "java/lang/invoke/VarHandle") ∧
  (∀ sig, parseMethodDescriptor y.desc = some sig → n = sig.parameters.length) ∧ (Cond.methodLink own index y).before args s = true ∧ (Cond.static y).before args s = true
theorem vx_cwSW {own : String} {index maxL mc ms : Nat} {y : MethodName} {bytes : ByteArray} {ret : Option FieldType} {hh : List (Nat × Nat × Nat × Nat)} {Ts ws ws' : List Cond} {rm : Room} (n : Nat) (ht : ∀ w ∈ Ts, w.before args s = true) (hT : GoodIn Ts (va_wsS own index y ws)) (hw : ws = Cond.codeWith y bytes maxL ret hh :: ws') (hrc : rm.cells = mc) (hrs : rm.slots = ms)
    (hd : y.cls ≠ "java/lang/invoke/MethodHandle" ∧ y.cls ≠ "java/lang/invoke/VarHandle" ∧ (parseMethodDescriptor y.desc).map (fun d => d.parameters.length) = some n) (hR : rm.frames + 1 ≤ R.frames ∧ 8 + (maxL + 11) + rm.locals ≤ R.locals) :
    vx_CSW R s args own index y bytes maxL ret hh ws rm mc ms n := by
  have ok : ∀ w ∈ va_wsS own index y ws, w.before args s = true := fun w h => ht w (hT w h).1
  have hG : GoodIn Ts ws := fun w h => hT w (by unfold va_wsS; exact List.mem_append_right _ h)
  have hc : Cond.codeWith y bytes maxL ret hh ∈ ws := by rw [hw]; exact List.mem_cons_self
  refine ⟨⟨hrc, hrs, hR.1, hR.2, pay_in ht hG, hc⟩, ht _ (hG _ hc).1, ok _ (by simp [va_wsS]), ⟨hd.1, hd.2.1⟩, fun sig h => ?_, ok _ (by simp [va_wsS]), ok _ (by simp [va_wsS])⟩
  have h2 := hd.2.2
  rw [h] at h2
  exact (Option.some.inj h2).symm
theorem vx_callSW (X : Stand p l e R s m args below meth c T locs cells slots) (hexec : p.tables.exec = Jvm.exec) {own : String} {index : Nat} {y : MethodName} {bytes : ByteArray} {maxL : Nat} {ret : Option FieldType} {hh : List (Nat × Nat × Nat × Nat)}
    (hown : s.vm.findClass own = some m.cls) (hlink : (Cond.methodLink own index y).before args s = true) (hstat : (Cond.static y).before args s = true) (hinit : (Cond.initialized y.cls).before args s = true)
    (hcode : (Cond.codeWith y bytes maxL ret hh).before args s = true) (hy : y.cls ≠ "java/lang/invoke/MethodHandle" ∧ y.cls ≠ "java/lang/invoke/VarHandle")
    {W9 : Nat} {Pre : Pt → Array Value → Prop} {Post : Pt → Array Value → Option Value → Pt → Prop} (hK : Back l R p e below s args y 3 W9 Pre Post)
    {g : JFrame} (hg : g.method = m) (hsize : g.locals.size = c.maxLocals) {argsL rest : List Value} (hlen : ∀ sig, parseMethodDescriptor y.desc = some sig → argsL.length = sig.parameters.length)
    (hstack : g.stack = argsL.reverse ++ rest) (hW : 2 * g.monitorRoom + (rest.map fun v => v.category).sum ≤ W9) (hdg : decode c.code g.pc = .ok (.invokestatic index, 3))
    (hpre : ∀ vm₁, s.WarmedH vm₁ → Pre ⟨T.setVm vm₁, locs, cells, slots⟩ argsL.toArray) :
    ∃ (v : Option Value) (vm₁ : Vm) (B : Pt), s.WarmedH vm₁ ∧ Stand p l e R s m args below meth c B.U B.locs B.cells B.slots ∧ Post ⟨T.setVm vm₁, locs, cells, slots⟩ argsL.toArray v B ∧
      ∀ target, Steps p.tables e below (B.U.setTop { g with pc := g.pc + 3, stack := v.toList ++ rest }) target → Steps p.tables e below (T.setTop g) target := by
  obtain ⟨mk, methM, cM, hnamed, hmethM, -, -, -, -, -, -, hsigM⟩ := Cond.codeWith_spec hcode
  have hstatic : methM.isStatic = true := Cond.static_spec hnamed hmethM hstat
  obtain ⟨kP, hkP, -⟩ := className_of_methodNamed hnamed
  have hinitP : kP.init = .initialized := Cond.initialized_spec (findClass_of_methodNamed hnamed) hkP hinit
  obtain ⟨vm₁, X₁, hstep₁⟩ := X.invokestatic hexec hown hlink hnamed hmethM hstatic hkP hinitP hy (g := g) hg (argsL := argsL) (rest := rest) (hlen _ hsigM) hstack hdg
  obtain ⟨v, B, X', hpost, hsteps⟩ := hK m meth c ⟨T.setVm vm₁, locs, cells, slots⟩ { g with stack := rest } (.invokestatic index) mk argsL.toArray X₁ hg hsize hdg hW (X₁.named hnamed) (hpre vm₁ X₁.warmed)
  exact ⟨v, vm₁, B, X₁.warmed, X', hpost, fun target h => hstep₁ _ fun acts => by rw [doInvoke_state]; exact hsteps.trans h⟩
theorem vx_runSW {y : MethodName} {bytes cc : ByteArray} {maxL nL mc ms n index : Nat} {ret : Option FieldType} {hh : List (Nat × Nat × Nat × Nat)} {ws : List Cond} {rm : Room} {Pc : Array Value → State → Prop} {Qc : Array Value → State → Outcome → State → Prop} {free : Addr → Prop} {Ts : List Cond} {own : String} {As rest : List Value} {g : JFrame}
    (S : CallFix p m c cc nL s args Ts own) (hM : Met l y ws rm Pc Qc mc ms free) (cw : vx_CSW R s args own index y bytes maxL ret hh ws rm mc ms n) (hp : PreS s H Pc As)
    (hg : g.method = m) (hn : As.length = n) (hsize : g.locals.size = nL) (hstack : g.stack = As.reverse ++ rest) (hW : 2 * g.monitorRoom + (rest.map fun v => v.category).sum ≤ 8) (hdg : decode cc g.pc = .ok (.invokestatic index, 3)) (hf : cells + mc ≤ R.cells ∧ slots + ms ≤ R.slots) :
    va_Run p l e R s m args below meth c H locs cells slots mc ms g rest (Qc As.toArray) (free) := by
  obtain ⟨⟨hrc, hrs, hfr, hlo, hws, hcw⟩, hcode, hini, hy, hlen, hl, hstt⟩ := cw
  have hK : Back l R p e below s args y 3 8 (PreOf R mc ms Pc) (PostOf Qc mc ms free) := va_backW (hh := hh) (bytes := bytes) (maxL := maxL) (ret := ret) hM hp.1 hrc hrs hfr hlo hws hcw (fun a' U hW => word_at hW (Or.inl (by first | rfl | simp [Cond.onTables, Cond.keeps, Cond.steady])) hini)
  obtain ⟨hx, hb, hml, ho, -⟩ := S
  intro T hT X
  obtain ⟨v, vm₁, ⟨U', l2, c2, s2⟩, hW₁, X', ⟨g', mk, t, L, e1, e2, hq, h1, hL, h2, h3⟩, st⟩ := vx_callSW X hx (hh := hh) (bytes := bytes) (maxL := maxL) (ret := ret) ho hl hstt hini hcode hy hK hg (hsize.trans hml.symm) (argsL := As) (rest := rest) (fun sig h => hn.trans (hlen sig h)) hstack hW (by rw [hb]; exact hdg)
    (fun vm₁ hW₁ => ⟨hf.1, hf.2, hp.2 (T.setVm vm₁) hT hW₁⟩)
  dsimp only [Pt.U, Pt.locs, Pt.cells, Pt.slots] at X' e1 e2 h1 h2 h3 st
  subst h1; subst h2; subst h3
  exact ⟨v, (T.setVm vm₁).calling g' mk As.toArray, t, U', L, hT, X', hL, e1, e2, hq, st⟩
/-- not caught here, past rows that name other classes: it goes on to the caller -/
theorem vx_outP {p : Program} {l : Launch} {e : Env} {R : Room} {s : State} {m : MethodId} {args : Array Value} {below : List Frame} {meth : Method} {c : Code} {H : Heap} {locs : List Loc} {cells slots : Nat} {free : Addr → Prop} {ls : Array Slot} {rest : List Value} {Qc : Array Value → State → Outcome → State → Prop} {XC : String → State → State → Prop}
    {pc : Nat} {own E : String} {ce : Cell} {q : Addr} {mc ms : Nat} (hown : s.vm.findClass own = some m.cls) (hlocks : meth.locks = false)
    (hpass : ∀ z ∈ c.exceptionTable.toList, covers z pc = false ∨ (z.catchType ≠ 0 ∧ ∃ nm : String, (Cond.classLink own z.catchType nm).before args s = true ∧ va_Nc E nm s)) (hcell : H[q]? = some ce) (hv : ce.vm = .none) (hcl : s.vm.findClass E = some ce.cls)
    (hx : ∀ t : State, t.heap = H → s.vm.Alike t.vm → XC E s t) (hf : ∀ z ∈ locs, free z.base) (hc : cells ≤ mc) (hs : slots ≤ ms) :
    vx_W p l e R s m args below meth c H locs cells slots (vx_MQ below Qc XC args s mc ms free) (F0 m pc ls rest) q := by
  intro T hT X
  have hpl : e.platform.magicAccessors = ({} : Platform).magicAccessors := by rw [X.admits.platform]
  obtain ⟨vm', hW', X', st⟩ := X.outThrough hlocks q (g := F0 m pc ls rest) rfl rfl rfl (cell := ce) (by rw [hT]; exact hcell) (by rw [hv]; rfl)
    (by obtain ⟨k9, h9, -⟩ := Vm.findClass_spec hcl; exact ⟨k9, h9⟩) (fun z hz => by
      rcases hpass z hz with h | ⟨hz0, nm, hl1, hn1⟩
      · exact Or.inl h
      · obtain ⟨c6, hc6, hcl6⟩ := Cond.classLink_spec hown hl1 e.platform hpl
        obtain ⟨a8, b8, h1, h2, h3⟩ := hn1
        cases Option.some.inj (h1.symm.trans hcl)
        cases Option.some.inj (h2.symm.trans hc6)
        exact Or.inr ⟨hz0, _, hcl6, h3⟩)
  obtain ⟨g₀, hfr⟩ := X'.frames_eq
  have hcell9 : ((T.setVm vm').setFrames (.throwing q :: below)).heap[q]? = some ce := by
    show T.heap[q]? = some ce
    rw [hT]; exact hcell
  have hend : Ended ((T.setVm vm').setFrames (.throwing q :: below)) below (.threw q) := State.frames_setFrames _ (State.cur_lt_of_frames hfr)
  refine ⟨(T.setVm vm').setFrames (.throwing q :: below), ?_, .threw q, X'.here.running, hend, Or.inr ⟨q, rfl, E, ce, locs, hx _ hT (X'.ends _).1.alike, hcell9, hv, hcl, (X'.ends _).1, (X'.ends _).2.mono hc hs, hf⟩⟩
  rw [X.pushThrowing_eq]
  exact st
/-- a thing of a world lies in the heap -/
theorem vx_lt {D : va_G} {cl : List vw_C} {ws : va_W} {H1 : Heap} (h : va_P D cl ws H1) {k : Nat} {q : Nat × va_E} (hk : ws[k]? = some q) : q.1 < H1.size := (h k q hk).lt
end VXS
/-! ===== END ===== -/
/-! ===== BEGIN methods with a table of their own: called by a name, returning or throwing ===== -/
section VXH
/-! vx_backW, vx_callVX, vx_callSX, vx_callVW, vx_runVW, vx_runVX, vx_runSX, vx_ofWH follow the same proofs as their sisters above (Free/Laws.lean, Shelf42/LK1.lean); vx_outP calls Shelf42/NT130.lean (outThrough). -/
section
variable {l : Launch} {R : Room} {p : Program} {e : Env} {below : List Frame} {s : State} {sargs : Array Value} {y : MethodName} {len W9 : Nat}
theorem vx_backW {ws : List Cond} {rm : Room} {Pc : Array Value → State → Prop} {Qc : Array Value → State → Outcome → State → Prop} {XC : String → State → State → Prop} {mc ms : Nat} {free : Addr → Prop} {bytes : ByteArray} {maxL : Nat} {ret : Option FieldType} {hh : List (Nat × Nat × Nat × Nat)}
    (hM : vx_Met l y ws rm Pc Qc XC mc ms free) (hblind : FrameBlind Pc) (hrc : rm.cells = mc) (hrs : rm.slots = ms)
    (hframes : rm.frames + 1 ≤ R.frames) (hlocals : W9 + (maxL + 11) + rm.locals ≤ R.locals)
    (hws : ∀ w ∈ ws, ∀ a' U, s.WarmedH U.vm → w.before a' U = true) (hcode : Cond.codeWith y bytes maxL ret hh ∈ ws) (hinit : ∀ a' U, s.WarmedH U.vm → (Cond.initialized y.cls).before a' U = true) :
    vx_Back l R p e below s sargs y len W9 (PreOf R mc ms Pc) (PostOf Qc mc ms free) (vx_Post XC mc ms free) := by
  intro m meth c A g ig mk a X hg hsize hdg hW hn hp
  have h1 : (headSpec ws rm).pre.before a A.U = true := atoms_intro fun w hw => hws w hw _ _ X.warmed
  have h2 : (Cond.codeWith y bytes maxL ret hh).before a A.U = true := hws _ hcode _ _ X.warmed
  have h3 : (Cond.initialized y.cls).before a A.U = true := hinit _ _ X.warmed
  have h4 : A.cells + (headSpec ws rm).room.cells ≤ R.cells := by rw [show (headSpec ws rm).room.cells = mc from hrc]; exact hp.1
  have h5 : A.slots + (headSpec ws rm).room.slots ≤ R.slots := by rw [show (headSpec ws rm).room.slots = ms from hrs]; exact hp.2.1
  have hPc : Pc a (A.U.calling g mk a) := hblind _ _ _ _ hp.2.2
  obtain ⟨U, Ls, c0, s0⟩ := A
  dsimp only [Pt.U, Pt.locs, Pt.cells, Pt.slots] at h1 h2 h3 h4 h5 X hn hPc ⊢
  obtain ⟨m9, methY, cY, hn9, hmY, hcY, -, hlY, -⟩ := Cond.codeWith_spec h2
  cases Option.some.inj (hn9.symm.trans hn)
  obtain ⟨kY, hkY, -⟩ := className_of_methodNamed hn
  have hinitY : kY.init = .initialized := Cond.initialized_spec (findClass_of_methodNamed hn) hkY h3
  have h : At U g.method c below := by rw [hg]; exact X.here
  have hlocals9 : W9 + (maxL + 11) + (headSpec ws rm).room.locals ≤ R.locals := hlocals
  have happ : (headSpec ws rm).appliesLoose y e.platform (U.calling g mk a) = true :=
    Spec.appliesLoose_calling (g := g) h hdg hn hkY hinitY
      (X.room_calling (g := g) (R' := (headSpec ws rm).room) hsize hmY hcY hframes (by rw [hlY]; omega) h4 h5) h1
  obtain ⟨mid, hmid⟩ := h.above
  have hfr : (U.setTop g).frames = (.java g :: mid) ++ below := by rw [State.frames_setTop' g h.top, hmid]; rfl
  obtain ⟨o, s₂, hsteps, -, hend, hq⟩ := Steps.callFree hM p X.admits X.cas X.clock (acts := []) hfr happ hPc trivial
  have hq' : vx_Q Qc XC mc ms free a (U.calling g mk a) o s₂ := hq
  rw [State.frames_setTop' g h.top] at hend
  obtain ⟨g₀, hg0⟩ := Option.isSome_iff_exists.mp h.top
  obtain ⟨r, hr⟩ := State.topJava?_eq_some.mp hg0
  have hr' : (({ U with heap := s₂.heap, slotsUsed := s₂.slotsUsed } : State).setVm s₂.vm).frames = .java g₀ :: r := hr
  rcases hq' with ⟨hqc, L, hfe, hL⟩ | ⟨q, rfl, E, ce, L, hx, hce, hcv, hcl, hW₂, hsm, hL⟩
  · obtain ⟨⟨v, rfl⟩, hW₂, e2, q2, q3, q4, q5, q6⟩ := id hfe
    have e3 : s₂ = ({ (U.calling g mk a).setFrames s₂.frames with heap := s₂.heap, slotsUsed := s₂.slotsUsed } : State).setVm s₂.vm := by
      have : s₂ = ({ s₂ with vm := (U.calling g mk a).vm } : State).setVm s₂.vm := rfl
      rw [e2] at this
      exact this
    obtain ⟨c₂, i₂, len₂, hc₂, hd₂, hf₂⟩ := hend
    have hW' : U.WarmedH s₂.vm := hW₂
    have hcc : c₂ = c := by
      have h1 : s₂.code? g.method = U.code? g.method := by
        rw [State.code?_eq, State.code?_eq, hW'.alike.method?]
      exact Option.some.inj (hc₂.symm.trans (h1.trans h.code))
    subst hcc
    have hlen : len₂ = len := by rw [hdg] at hd₂; cases hd₂; rfl
    subst hlen
    have hs₂ : s₂ = (({ U with heap := s₂.heap, slotsUsed := s₂.slotsUsed } : State).setVm s₂.vm).setTop { g with pc := g.pc + len₂, stack := v.toList ++ g.stack } := by
      refine e3.trans ?_
      rw [hf₂, State.calling_eq h.top, State.setFrames_setFrames, State.setTop_of_frames _ hr', hr]
      rfl
    have hsame : U.sameButNew ({ U with heap := s₂.heap, slotsUsed := s₂.slotsUsed } : State) L mc ms := by
      refine ⟨?_, q2, q3, q4, q5, q6⟩
      obtain ⟨t, ht, -⟩ := State.frames_cons hr
      show ({ U with heap := s₂.heap, slotsUsed := s₂.slotsUsed } : State) = { U.setFrames U.frames with heap := s₂.heap, slotsUsed := s₂.slotsUsed }
      rw [State.setFrames_self ht]
    subst hg
    refine Or.inl ⟨v, ⟨(({ U with heap := s₂.heap, slotsUsed := s₂.slotsUsed } : State).setVm s₂.vm), Ls ++ L, c0 + mc, s0 + ms⟩,
      ⟨X.admits, X.cas, X.clock, X.frames, X.room, X.hears, X.method, X.code, (X.here.setHeapUsed s₂.heap s₂.slotsUsed).setVm hW'.alike, X.tail, State.WarmedH.trans X.warmed hW', X.limits, X.bytes, X.same.trans (hsame.setVm s.vm)⟩,
      ⟨g, mk, s₂, L, rfl, rfl, hqc, rfl, hL, rfl, rfl⟩, ?_⟩
    show Steps p.tables e below _ ((({ U with heap := s₂.heap, slotsUsed := s₂.slotsUsed } : State).setVm s₂.vm).setTop { g with pc := g.pc + len₂, stack := v.toList ++ g.stack })
    rw [← hs₂]
    exact hsteps
  · obtain ⟨e2, q2, q3, q4, q5, q6⟩ := id hsm
    have e3 : s₂ = ({ (U.calling g mk a).setFrames s₂.frames with heap := s₂.heap, slotsUsed := s₂.slotsUsed } : State).setVm s₂.vm := by
      have : s₂ = ({ s₂ with vm := (U.calling g mk a).vm } : State).setVm s₂.vm := rfl
      rw [e2] at this
      exact this
    have hf₂ : s₂.frames = .throwing q :: .java g :: U.frames.tail := hend
    have hW' : U.WarmedH s₂.vm := hW₂
    have hs₂ : s₂ = ((({ U with heap := s₂.heap, slotsUsed := s₂.slotsUsed } : State).setVm s₂.vm).setTop g).pushFrame (.throwing q) := by
      refine e3.trans ?_
      rw [hf₂, State.calling_eq h.top, State.setFrames_setFrames, State.pushFrame, State.frames_setTop _ hr', State.setTop_of_frames _ hr', State.setFrames_setFrames, hr]
      rfl
    have hsame : U.sameButNew ({ U with heap := s₂.heap, slotsUsed := s₂.slotsUsed } : State) L mc ms := by
      refine ⟨?_, q2, q3, q4, q5, q6⟩
      obtain ⟨t, ht, -⟩ := State.frames_cons hr
      show ({ U with heap := s₂.heap, slotsUsed := s₂.slotsUsed } : State) = { U.setFrames U.frames with heap := s₂.heap, slotsUsed := s₂.slotsUsed }
      rw [State.setFrames_self ht]
    subst hg
    refine Or.inr ⟨q, ⟨(({ U with heap := s₂.heap, slotsUsed := s₂.slotsUsed } : State).setVm s₂.vm), Ls ++ L, c0 + mc, s0 + ms⟩,
      ⟨X.admits, X.cas, X.clock, X.frames, X.room, X.hears, X.method, X.code, (X.here.setHeapUsed s₂.heap s₂.slotsUsed).setVm hW'.alike, X.tail, State.WarmedH.trans X.warmed hW', X.limits, X.bytes, X.same.trans (hsame.setVm s.vm)⟩,
      ⟨g, mk, s₂, L, E, ce, rfl, rfl, hx, hce, hcv, hcl, rfl, hL, rfl, rfl⟩, ?_⟩
    show Steps p.tables e below _ (((({ U with heap := s₂.heap, slotsUsed := s₂.slotsUsed } : State).setVm s₂.vm).setTop g).pushFrame (.throwing q))
    rw [← hs₂]
    exact hsteps
end
variable {p : Program} {l : Launch} {e : Env} {R : Room} {s : State} {m : MethodId} {args : Array Value} {below : List Frame} {meth : Method} {c : Code} {T : State} {H : Heap} {locs : List Loc} {cells slots : Nat}
theorem vx_callVX (X : Stand p l e R s m args below meth c T locs cells slots) (hexec : p.tables.exec = Jvm.exec) {own C : String} {index : Nat} {y : MethodName} {bytes : ByteArray} {maxL : Nat} {ret : Option FieldType} {hh : List (Nat × Nat × Nat × Nat)}
    (hown : s.vm.findClass own = some m.cls) (hlink : (Cond.methodLink own index y).before args s = true) (hinst : (Cond.instanceMethod y).before args s = true) (hsel : (Cond.selects C y y).before args s = true)
    (hcode : (Cond.codeWith y bytes maxL ret hh).before args s = true) (hy : y.cls ≠ "java/lang/invoke/MethodHandle" ∧ y.cls ≠ "java/lang/invoke/VarHandle")
    {W9 : Nat} {Pre : Pt → Array Value → Prop} {Post : Pt → Array Value → Option Value → Pt → Prop} {PostX : Pt → Array Value → Addr → Pt → Prop} (hK : vx_Back l R p e below s args y 3 W9 Pre Post PostX)
    {b : Addr} {cellB : Cell} (hcell : T.heap[b]? = some cellB) (hobj : cellB.vm.isStatics = false) (hcls : s.vm.findClass C = some cellB.cls)
    {g : JFrame} (hg : g.method = m) (hsize : g.locals.size = c.maxLocals) {argsL rest : List Value} (hlen : ∀ sig, parseMethodDescriptor y.desc = some sig → argsL.length = sig.parameters.length)
    (hstack : g.stack = argsL.reverse ++ .ref b :: rest) (hW : 2 * g.monitorRoom + (rest.map fun v => v.category).sum ≤ W9) (hdg : decode c.code g.pc = .ok (.invokevirtual index, 3))
    (hpre : ∀ vm₁, s.WarmedH vm₁ → Pre ⟨T.setVm vm₁, locs, cells, slots⟩ (Value.ref b :: argsL).toArray) :
    (∃ (v : Option Value) (vm₁ : Vm) (B : Pt), s.WarmedH vm₁ ∧ Stand p l e R s m args below meth c B.U B.locs B.cells B.slots ∧ Post ⟨T.setVm vm₁, locs, cells, slots⟩ (Value.ref b :: argsL).toArray v B ∧
      ∀ target, Steps p.tables e below (B.U.setTop { g with pc := g.pc + 3, stack := v.toList ++ rest }) target → Steps p.tables e below (T.setTop g) target) ∨
    (∃ (q : Addr) (vm₁ : Vm) (B : Pt), s.WarmedH vm₁ ∧ Stand p l e R s m args below meth c B.U B.locs B.cells B.slots ∧ PostX ⟨T.setVm vm₁, locs, cells, slots⟩ (Value.ref b :: argsL).toArray q B ∧
      Steps p.tables e below (T.setTop g) ((B.U.setTop { g with stack := rest }).pushFrame (.throwing q))) := by
  obtain ⟨mk, methM, hnamed, hmethM, hstM, habM⟩ := Cond.instanceMethod_spec hinst
  obtain ⟨m8, methM', cM, hn8, hmethM', -, -, -, -, -, -, hsigM⟩ := Cond.codeWith_spec hcode
  cases Option.some.inj (hn8.symm.trans hnamed)
  cases hmethM.symm.trans hmethM'
  obtain ⟨c2, r2, m2, q1, q2, q3, q4, kP, hkP, hkPi⟩ := Cond.selects_spec hsel
  cases hcls.symm.trans q1
  cases (State.methodFound?_of_named hnamed hy).symm.trans q2
  cases hnamed.symm.trans q3
  have hselP : selectMethod e.platform s.vm cellB.cls mk = .method mk := by rw [Launch.admits_selectMethod X.admits]; exact q4
  obtain ⟨vm₁, X₁, hstep₁⟩ := X.invokevirtual hexec hown hlink hnamed hmethM hstM hkP hkPi hy (a := b) (cell := cellB) hcell
    (fun z h => by rw [h] at hobj; cases hobj) hselP hmethM habM hkP hkPi (g := g) hg (argsL := argsL) (rest := rest) (hlen _ hsigM) hstack hdg
  rcases hK m meth c ⟨T.setVm vm₁, locs, cells, slots⟩ { g with stack := rest } (.invokevirtual index) mk (Value.ref b :: argsL).toArray X₁ hg hsize hdg hW (X₁.named hnamed) (hpre vm₁ X₁.warmed) with ⟨v, B, X', hpost, hsteps⟩ | ⟨q, B, X', hpost, hsteps⟩
  · exact Or.inl ⟨v, vm₁, B, X₁.warmed, X', hpost, fun target h => hstep₁ _ fun acts => by rw [doInvoke_state]; exact hsteps.trans h⟩
  · exact Or.inr ⟨q, vm₁, B, X₁.warmed, X', hpost, hstep₁ _ fun acts => by rw [doInvoke_state]; exact hsteps⟩
theorem vx_callSX (X : Stand p l e R s m args below meth c T locs cells slots) (hexec : p.tables.exec = Jvm.exec) {own : String} {index : Nat} {y : MethodName} {bytes : ByteArray} {maxL : Nat} {ret : Option FieldType} {hh : List (Nat × Nat × Nat × Nat)}
    (hown : s.vm.findClass own = some m.cls) (hlink : (Cond.methodLink own index y).before args s = true) (hstat : (Cond.static y).before args s = true) (hinit : (Cond.initialized y.cls).before args s = true)
    (hcode : (Cond.codeWith y bytes maxL ret hh).before args s = true) (hy : y.cls ≠ "java/lang/invoke/MethodHandle" ∧ y.cls ≠ "java/lang/invoke/VarHandle")
    {W9 : Nat} {Pre : Pt → Array Value → Prop} {Post : Pt → Array Value → Option Value → Pt → Prop} {PostX : Pt → Array Value → Addr → Pt → Prop} (hK : vx_Back l R p e below s args y 3 W9 Pre Post PostX)
    {g : JFrame} (hg : g.method = m) (hsize : g.locals.size = c.maxLocals) {argsL rest : List Value} (hlen : ∀ sig, parseMethodDescriptor y.desc = some sig → argsL.length = sig.parameters.length)
    (hstack : g.stack = argsL.reverse ++ rest) (hW : 2 * g.monitorRoom + (rest.map fun v => v.category).sum ≤ W9) (hdg : decode c.code g.pc = .ok (.invokestatic index, 3))
    (hpre : ∀ vm₁, s.WarmedH vm₁ → Pre ⟨T.setVm vm₁, locs, cells, slots⟩ argsL.toArray) :
    (∃ (v : Option Value) (vm₁ : Vm) (B : Pt), s.WarmedH vm₁ ∧ Stand p l e R s m args below meth c B.U B.locs B.cells B.slots ∧ Post ⟨T.setVm vm₁, locs, cells, slots⟩ argsL.toArray v B ∧
      ∀ target, Steps p.tables e below (B.U.setTop { g with pc := g.pc + 3, stack := v.toList ++ rest }) target → Steps p.tables e below (T.setTop g) target) ∨
    (∃ (q : Addr) (vm₁ : Vm) (B : Pt), s.WarmedH vm₁ ∧ Stand p l e R s m args below meth c B.U B.locs B.cells B.slots ∧ PostX ⟨T.setVm vm₁, locs, cells, slots⟩ argsL.toArray q B ∧
      Steps p.tables e below (T.setTop g) ((B.U.setTop { g with stack := rest }).pushFrame (.throwing q))) := by
  obtain ⟨mk, methM, cM, hnamed, hmethM, -, -, -, -, -, -, hsigM⟩ := Cond.codeWith_spec hcode
  have hstatic : methM.isStatic = true := Cond.static_spec hnamed hmethM hstat
  obtain ⟨kP, hkP, -⟩ := className_of_methodNamed hnamed
  have hinitP : kP.init = .initialized := Cond.initialized_spec (findClass_of_methodNamed hnamed) hkP hinit
  obtain ⟨vm₁, X₁, hstep₁⟩ := X.invokestatic hexec hown hlink hnamed hmethM hstatic hkP hinitP hy (g := g) hg (argsL := argsL) (rest := rest) (hlen _ hsigM) hstack hdg
  rcases hK m meth c ⟨T.setVm vm₁, locs, cells, slots⟩ { g with stack := rest } (.invokestatic index) mk argsL.toArray X₁ hg hsize hdg hW (X₁.named hnamed) (hpre vm₁ X₁.warmed) with ⟨v, B, X', hpost, hsteps⟩ | ⟨q, B, X', hpost, hsteps⟩
  · exact Or.inl ⟨v, vm₁, B, X₁.warmed, X', hpost, fun target h => hstep₁ _ fun acts => by rw [doInvoke_state]; exact hsteps.trans h⟩
  · exact Or.inr ⟨q, vm₁, B, X₁.warmed, X', hpost, hstep₁ _ fun acts => by rw [doInvoke_state]; exact hsteps⟩
theorem vx_callVW (X : Stand p l e R s m args below meth c T locs cells slots) (hexec : p.tables.exec = Jvm.exec) {own C : String} {index : Nat} {y : MethodName} {bytes : ByteArray} {maxL : Nat} {ret : Option FieldType} {hh : List (Nat × Nat × Nat × Nat)}
    (hown : s.vm.findClass own = some m.cls) (hlink : (Cond.methodLink own index y).before args s = true) (hinst : (Cond.instanceMethod y).before args s = true) (hsel : (Cond.selects C y y).before args s = true)
    (hcode : (Cond.codeWith y bytes maxL ret hh).before args s = true) (hy : y.cls ≠ "java/lang/invoke/MethodHandle" ∧ y.cls ≠ "java/lang/invoke/VarHandle")
    {W9 : Nat} {Pre : Pt → Array Value → Prop} {Post : Pt → Array Value → Option Value → Pt → Prop} (hK : Back l R p e below s args y 3 W9 Pre Post)
    {b : Addr} {cellB : Cell} (hcell : T.heap[b]? = some cellB) (hobj : cellB.vm.isStatics = false) (hcls : s.vm.findClass C = some cellB.cls)
    {g : JFrame} (hg : g.method = m) (hsize : g.locals.size = c.maxLocals) {argsL rest : List Value} (hlen : ∀ sig, parseMethodDescriptor y.desc = some sig → argsL.length = sig.parameters.length)
    (hstack : g.stack = argsL.reverse ++ .ref b :: rest) (hW : 2 * g.monitorRoom + (rest.map fun v => v.category).sum ≤ W9) (hdg : decode c.code g.pc = .ok (.invokevirtual index, 3))
    (hpre : ∀ vm₁, s.WarmedH vm₁ → Pre ⟨T.setVm vm₁, locs, cells, slots⟩ (Value.ref b :: argsL).toArray) :
    ∃ (v : Option Value) (vm₁ : Vm) (B : Pt), s.WarmedH vm₁ ∧ Stand p l e R s m args below meth c B.U B.locs B.cells B.slots ∧ Post ⟨T.setVm vm₁, locs, cells, slots⟩ (Value.ref b :: argsL).toArray v B ∧
      ∀ target, Steps p.tables e below (B.U.setTop { g with pc := g.pc + 3, stack := v.toList ++ rest }) target → Steps p.tables e below (T.setTop g) target := by
  obtain ⟨mk, methM, hnamed, hmethM, hstM, habM⟩ := Cond.instanceMethod_spec hinst
  obtain ⟨m8, methM', cM, hn8, hmethM', -, -, -, -, -, -, hsigM⟩ := Cond.codeWith_spec hcode
  cases Option.some.inj (hn8.symm.trans hnamed)
  cases hmethM.symm.trans hmethM'
  obtain ⟨c2, r2, m2, q1, q2, q3, q4, kP, hkP, hkPi⟩ := Cond.selects_spec hsel
  cases hcls.symm.trans q1
  cases (State.methodFound?_of_named hnamed hy).symm.trans q2
  cases hnamed.symm.trans q3
  have hselP : selectMethod e.platform s.vm cellB.cls mk = .method mk := by rw [Launch.admits_selectMethod X.admits]; exact q4
  obtain ⟨vm₁, X₁, hstep₁⟩ := X.invokevirtual hexec hown hlink hnamed hmethM hstM hkP hkPi hy (a := b) (cell := cellB) hcell
    (fun z h => by rw [h] at hobj; cases hobj) hselP hmethM habM hkP hkPi (g := g) hg (argsL := argsL) (rest := rest) (hlen _ hsigM) hstack hdg
  obtain ⟨v, B, X', hpost, hsteps⟩ := hK m meth c ⟨T.setVm vm₁, locs, cells, slots⟩ { g with stack := rest } (.invokevirtual index) mk (Value.ref b :: argsL).toArray X₁ hg hsize hdg hW (X₁.named hnamed) (hpre vm₁ X₁.warmed)
  exact ⟨v, vm₁, B, X₁.warmed, X', hpost, fun target h => hstep₁ _ fun acts => by rw [doInvoke_state]; exact hsteps.trans h⟩
abbrev vx_CVW (R : Room) (s : State) (args : Array Value) (own C : String) (index : Nat) (y : MethodName) (bytes : ByteArray) (maxL : Nat) (ret : Option FieldType) (hh : List (Nat × Nat × Nat × Nat)) (ws : List Cond) (rm : Room) (mc ms n : Nat) : Prop :=
  (rm.cells = mc ∧ rm.slots = ms ∧ rm.frames + 1 ≤ R.frames ∧ 8 + (maxL + 11) + rm.locals ≤ R.locals ∧ (∀ w ∈ ws, ∀ (a' : Array Value) (U : State), s.WarmedH U.vm → w.before a' U = true) ∧ Cond.codeWith y bytes maxL ret hh ∈ ws) ∧
  (Cond.codeWith y bytes maxL ret hh).before args s = true ∧ (Cond.initialized y.cls).before args s = true ∧ (y.cls ≠ "java/lang/invoke/MethodHandle" ∧ y.cls ≠ "java/lang/invoke/VarHandle") ∧
  (∀ sig, parseMethodDescriptor y.desc = some sig → n = sig.parameters.length) ∧ (Cond.methodLink own index y).before args s = true ∧ (Cond.instanceMethod y).before args s = true ∧ (Cond.selects C y y).before args s = true
theorem vx_cwVW {own C : String} {index maxL mc ms : Nat} {y : MethodName} {bytes : ByteArray} {ret : Option FieldType} {hh : List (Nat × Nat × Nat × Nat)} {Ts ws ws' : List Cond} {rm : Room} (n : Nat) (ht : ∀ w ∈ Ts, w.before args s = true) (hT : GoodIn Ts (wsV own index C y ws)) (hw : ws = Cond.codeWith y bytes maxL ret hh :: ws') (hrc : rm.cells = mc) (hrs : rm.slots = ms)
    (hd : y.cls = C ∧ y.cls ≠ "java/lang/invoke/MethodHandle" ∧ y.cls ≠ "java/lang/invoke/VarHandle" ∧ (parseMethodDescriptor y.desc).map (fun d => d.parameters.length) = some n) (hR : rm.frames + 1 ≤ R.frames ∧ 8 + (maxL + 11) + rm.locals ≤ R.locals) :
    vx_CVW R s args own C index y bytes maxL ret hh ws rm mc ms n := by
  obtain ⟨hC, hd⟩ := hd
  subst hC
  have ok : ∀ w ∈ wsV own index y.cls y ws, w.before args s = true := fun w h => ht w (hT w h).1
  have hG : GoodIn Ts ws := fun w h => hT w (by unfold wsV; exact List.mem_append_right _ h)
  have hc : Cond.codeWith y bytes maxL ret hh ∈ ws := by rw [hw]; exact List.mem_cons_self
  refine ⟨⟨hrc, hrs, hR.1, hR.2, pay_in ht hG, hc⟩, ht _ (hG _ hc).1, ok _ (by simp [wsV]), ⟨hd.1, hd.2.1⟩, fun sig h => ?_, ok _ (by simp [wsV]), ok _ (by simp [wsV]), ok _ (by simp [wsV])⟩
  have h2 := hd.2.2
  rw [h] at h2
  exact (Option.some.inj h2).symm
theorem vx_runVW {y : MethodName} {bytes cc : ByteArray} {maxL nL mc ms n index : Nat} {ret : Option FieldType} {hh : List (Nat × Nat × Nat × Nat)} {ws : List Cond} {rm : Room} {Pc : Array Value → State → Prop} {Qc : Array Value → State → Outcome → State → Prop} {free : Addr → Prop} {Ts : List Cond} {own C : String} {b : Addr} {As rest : List Value} {g : JFrame}
    (S : CallFix p m c cc nL s args Ts own) (hM : Met l y ws rm Pc Qc mc ms free) (cw : vx_CVW R s args own C index y bytes maxL ret hh ws rm mc ms n) (hp : PreV s H C b Pc As)
    (hg : g.method = m) (hn : As.length = n) (hsize : g.locals.size = nL) (hstack : g.stack = As.reverse ++ .ref b :: rest) (hW : 2 * g.monitorRoom + (rest.map fun v => v.category).sum ≤ 8) (hdg : decode cc g.pc = .ok (.invokevirtual index, 3)) (hf : cells + mc ≤ R.cells ∧ slots + ms ≤ R.slots) :
    va_Run p l e R s m args below meth c H locs cells slots mc ms g rest (Qc (Value.ref b :: As).toArray) free := by
  obtain ⟨⟨hrc, hrs, hfr, hlo, hws, hcw⟩, hcode, hini, hy, hlen, hl, hin, hse⟩ := cw
  have hK : Back l R p e below s args y 3 8 (PreOf R mc ms Pc) (PostOf Qc mc ms free) := va_backW (hh := hh) (bytes := bytes) (maxL := maxL) (ret := ret) hM hp.1 hrc hrs hfr hlo hws hcw (fun a' U hW => word_at hW (Or.inl (by first | rfl | simp [Cond.onTables, Cond.keeps, Cond.steady])) hini)
  obtain ⟨hx, hb, hml, ho, -⟩ := S
  obtain ⟨-, ⟨cellB, hcB, hoB, hclB⟩, hPc⟩ := hp
  intro T hT X
  obtain ⟨v, vm₁, ⟨U', l2, c2, s2⟩, hW₁, X', ⟨g', mk, t, L, e1, e2, hq, h1, hL, h2, h3⟩, st⟩ := vx_callVW X hx (C := C) (hh := hh) (bytes := bytes) (maxL := maxL) (ret := ret) ho hl hin hse hcode hy hK (by rw [hT]; exact hcB) hoB hclB hg (hsize.trans hml.symm) (argsL := As) (rest := rest) (fun sig h => hn.trans (hlen sig h)) hstack hW (by rw [hb]; exact hdg)
    (fun vm₁ hW₁ => ⟨hf.1, hf.2, hPc (T.setVm vm₁) hT hW₁⟩)
  dsimp only [Pt.U, Pt.locs, Pt.cells, Pt.slots] at X' e1 e2 h1 h2 h3 st
  subst h1; subst h2; subst h3
  exact ⟨v, (T.setVm vm₁).calling g' mk (Value.ref b :: As).toArray, t, U', L, hT, X', hL, e1, e2, hq, st⟩
section
variable {y : MethodName} {bytes cc : ByteArray} {maxL nL mc ms n index : Nat} {ret : Option FieldType} {ws : List Cond} {rm : Room} {Pc : Array Value → State → Prop} {Qc : Array Value → State → Outcome → State → Prop} {XC : String → State → State → Prop} {free : Addr → Prop} {Ts : List Cond} {own C : String} {b : Addr} {As rest : List Value} {g : JFrame}
theorem vx_runVX {hh : List (Nat × Nat × Nat × Nat)} (S : CallFix p m c cc nL s args Ts own) (hM : vx_Met l y ws rm Pc Qc XC mc ms free) (cw : vx_CVW R s args own C index y bytes maxL ret hh ws rm mc ms n) (hp : PreV s H C b Pc As)
    (hg : g.method = m) (hn : As.length = n) (hsize : g.locals.size = nL) (hstack : g.stack = As.reverse ++ .ref b :: rest) (hW : 2 * g.monitorRoom + (rest.map fun v => v.category).sum ≤ 8) (hdg : decode cc g.pc = .ok (.invokevirtual index, 3)) (hf : cells + mc ≤ R.cells ∧ slots + ms ≤ R.slots) :
    vx_Run p l e R s m args below meth c H locs cells slots mc ms g rest (Qc (Value.ref b :: As).toArray) XC free := by
  obtain ⟨⟨hrc, hrs, hfr, hlo, hws, hcw⟩, hcode, hini, hy, hlen, hl, hin, hse⟩ := cw
  have hK : vx_Back l R p e below s args y 3 8 (PreOf R mc ms Pc) (PostOf Qc mc ms free) (vx_Post XC mc ms free) := vx_backW (hh := hh) (bytes := bytes) (maxL := maxL) (ret := ret) hM hp.1 hrc hrs hfr hlo hws hcw (fun a' U hW => word_at hW (Or.inl (by first | rfl | simp [Cond.onTables, Cond.keeps, Cond.steady])) hini)
  obtain ⟨hx, hb, hml, ho, -⟩ := S
  obtain ⟨-, ⟨cellB, hcB, hoB, hclB⟩, hPc⟩ := hp
  intro T hT X
  rcases vx_callVX X hx (C := C) (hh := hh) (bytes := bytes) (maxL := maxL) (ret := ret) ho hl hin hse hcode hy hK (by rw [hT]; exact hcB) hoB hclB hg (hsize.trans hml.symm) (argsL := As) (rest := rest) (fun sig h => hn.trans (hlen sig h)) hstack hW (by rw [hb]; exact hdg)
    (fun vm₁ hW₁ => ⟨hf.1, hf.2, hPc (T.setVm vm₁) hT hW₁⟩) with ⟨v, vm₁, ⟨U', l2, c2, s2⟩, hW₁, X', ⟨g', mk, t, L, e1, e2, hq, h1, hL, h2, h3⟩, st⟩ | ⟨q, vm₁, ⟨U', l2, c2, s2⟩, hW₁, X', ⟨g', mk, t, L, E, ce, e1, e2, hq, hce, hcv, hcl, h1, hL, h2, h3⟩, st⟩
  · dsimp only [Pt.U, Pt.locs, Pt.cells, Pt.slots] at X' e1 e2 h1 h2 h3 st
    subst h1; subst h2; subst h3
    exact Or.inl ⟨v, (T.setVm vm₁).calling g' mk (Value.ref b :: As).toArray, t, U', L, hT, X', hL, e1, e2, hq, st⟩
  · dsimp only [Pt.U, Pt.locs, Pt.cells, Pt.slots] at X' e1 e2 h1 h2 h3 st hcl
    subst h1; subst h2; subst h3
    exact Or.inr ⟨q, (T.setVm vm₁).calling g' mk (Value.ref b :: As).toArray, t, U', L, E, ce, hT, X', hL, e1, e2, hq, hce, hcv, vx_cls hW₁ hcl, st⟩
theorem vx_runSX {hh : List (Nat × Nat × Nat × Nat)} (S : CallFix p m c cc nL s args Ts own) (hM : vx_Met l y ws rm Pc Qc XC mc ms free) (cw : vx_CSW R s args own index y bytes maxL ret hh ws rm mc ms n) (hp : PreS s H Pc As)
    (hg : g.method = m) (hn : As.length = n) (hsize : g.locals.size = nL) (hstack : g.stack = As.reverse ++ rest) (hW : 2 * g.monitorRoom + (rest.map fun v => v.category).sum ≤ 8) (hdg : decode cc g.pc = .ok (.invokestatic index, 3)) (hf : cells + mc ≤ R.cells ∧ slots + ms ≤ R.slots) :
    vx_Run p l e R s m args below meth c H locs cells slots mc ms g rest (Qc As.toArray) XC free := by
  obtain ⟨⟨hrc, hrs, hfr, hlo, hws, hcw⟩, hcode, hini, hy, hlen, hl, hstt⟩ := cw
  have hK : vx_Back l R p e below s args y 3 8 (PreOf R mc ms Pc) (PostOf Qc mc ms free) (vx_Post XC mc ms free) := vx_backW (hh := hh) (bytes := bytes) (maxL := maxL) (ret := ret) hM hp.1 hrc hrs hfr hlo hws hcw (fun a' U hW => word_at hW (Or.inl (by first | rfl | simp [Cond.onTables, Cond.keeps, Cond.steady])) hini)
  obtain ⟨hx, hb, hml, ho, -⟩ := S
  intro T hT X
  rcases vx_callSX X hx (hh := hh) (bytes := bytes) (maxL := maxL) (ret := ret) ho hl hstt hini hcode hy hK hg (hsize.trans hml.symm) (argsL := As) (rest := rest) (fun sig h => hn.trans (hlen sig h)) hstack hW (by rw [hb]; exact hdg)
    (fun vm₁ hW₁ => ⟨hf.1, hf.2, hp.2 (T.setVm vm₁) hT hW₁⟩) with ⟨v, vm₁, ⟨U', l2, c2, s2⟩, hW₁, X', ⟨g', mk, t, L, e1, e2, hq, h1, hL, h2, h3⟩, st⟩ | ⟨q, vm₁, ⟨U', l2, c2, s2⟩, hW₁, X', ⟨g', mk, t, L, E, ce, e1, e2, hq, hce, hcv, hcl, h1, hL, h2, h3⟩, st⟩
  · dsimp only [Pt.U, Pt.locs, Pt.cells, Pt.slots] at X' e1 e2 h1 h2 h3 st
    subst h1; subst h2; subst h3
    exact Or.inl ⟨v, (T.setVm vm₁).calling g' mk As.toArray, t, U', L, hT, X', hL, e1, e2, hq, st⟩
  · dsimp only [Pt.U, Pt.locs, Pt.cells, Pt.slots] at X' e1 e2 h1 h2 h3 st hcl
    subst h1; subst h2; subst h3
    exact Or.inr ⟨q, (T.setVm vm₁).calling g' mk As.toArray, t, U', L, E, ce, hT, X', hL, e1, e2, hq, hce, hcv, vx_cls hW₁ hcl, st⟩
end
end VXH
theorem vx_ofWH {l : Launch} {y : MethodName} {ws ws' : List Cond} {rm : Room} {Pc : Array Value → State → Prop} {Qc : Array Value → State → Outcome → State → Prop} {XC : String → State → State → Prop} {mc ms : Nat} {free : Addr → Prop} {cc : ByteArray} {maxL : Nat} {ret : Option FieldType} {hh : List (Nat × Nat × Nat × Nat)}
    (hy : plainName y.cls = true) (hw : ws = Cond.codeWith y cc maxL ret hh :: ws')
    (body : ∀ p e s m args below meth c s₁, BodyLoose p l y (headSpec ws rm) cc maxL ret e s m args below meth c s₁ → c.maxLocals = maxL → Pc args s →
      W p l e (headSpec ws rm).room s m args below meth c s.heap [] 0 0 (vx_MQ below Qc XC args s mc ms free) (entryFrame m args maxL)) : vx_Met l y ws rm Pc Qc XC mc ms free := by
  refine MetFree.of_bodyS (code := cc) (maxLocals := maxL) (ret := ret) hy ?_ ?_
  · intro args s m h hn
    obtain ⟨m9, meth, c, hn9, h1, h2, h3, h4, -, h5, h6, -⟩ := Cond.codeWith_spec (atoms_spec (ws := ws) h _ (by rw [hw]; exact List.mem_cons_self))
    cases hn.symm.trans hn9
    exact ⟨meth, c, h1, h2, h3, h4, h5, h6⟩
  · intro p e s m args below meth c s₁ B hml hP _
    have hh0 : s₁.heap = s.heap := by rw [B.state]; rfl
    obtain ⟨t, a1, o, b1, b2, b3⟩ := body p e s m args below meth c s₁ B hml hP s₁ hh0 (Stand.of_body B)
    exact ⟨t, o, a1, b1, b2, b3⟩
/-! ===== END ===== -/
end
section
/-! ===== BEGIN printed: names, fields, word lists, decode rows ===== -/
def RX0 : String := "ShopHub"
def TX0 : u_T := fun k => match k with
  | 0 => ("ShopHub", "exists", "[Z", true)
  | 1 => ("ShopHub", "parents", "[I", true)
  | 2 => ("ShopHub", "discounts", "[I", true)
  | 3 => ("ShopHub", "quantities", "[I", true)
  | 4 => ("ShopHub", "goodCount", "I", false)
  | 5 => ("ShopHub", "draftGoods", "[I", true)
  | 6 => ("ShopHub", "draftPlaces", "[I", true)
  | 7 => ("ShopHub", "draftValues", "[I", true)
  | 8 => ("ShopHub", "draftDays", "[I", true)
  | 9 => ("ShopHub", "draftStates", "[I", true)
  | 10 => ("ShopHub", "draftCount", "I", false)
  | 11 => ("ShopHub", "today", "I", false)
  | 12 => ("ShopHub", "holders", "[I", true)
  | 13 => ("ShopHub", "asked", "[Z", true)
  | 14 => ("ShopHub", "seen", "[I", true)
  | _ => ("ShopHub", "prices", "[I", true)
def tyX0 : Nat → FieldType := fun k => match k with
  | 0 => .array .boolean
  | 1 => .array .int
  | 2 => .array .int
  | 3 => .array .int
  | 4 => .int
  | 5 => .array .int
  | 6 => .array .int
  | 7 => .array .int
  | 8 => .array .int
  | 9 => .array .int
  | 10 => .int
  | 11 => .int
  | 12 => .array .int
  | 13 => .array .boolean
  | 14 => .array .int
  | _ => .array .int
abbrev wsX00 : List Cond := u_ws RX0 TX0 16
theorem nmX0 : ∀ a, a < 16 → ∀ b, b < 16 → a ≠ b → (TX0 a).2.1 ≠ (TX0 b).2.1 := by decide +kernel
theorem tyX0_ok : ∀ k, k < 16 → parseFieldDescriptor (TX0 k).2.2.1 = some (tyX0 k) := by decide +kernel
abbrev cX0_init : ByteArray := prog_1_method_1_code
def yX0_init : MethodName := ⟨RX0, "<init>", "()V"⟩
abbrev cX0_addGood : ByteArray := prog_1_method_2_code
def yX0_addGood : MethodName := ⟨RX0, "addGood", "(I)I"⟩
abbrev cX0_move : ByteArray := prog_1_method_3_code
def yX0_move : MethodName := ⟨RX0, "move", "(II)I"⟩
abbrev cX0_delete : ByteArray := prog_1_method_4_code
def yX0_delete : MethodName := ⟨RX0, "delete", "(I)V"⟩
abbrev cX0_addPart : ByteArray := prog_1_method_5_code
def yX0_addPart : MethodName := ⟨RX0, "addPart", "(III)I"⟩
abbrev cX0_setDiscount : ByteArray := prog_1_method_6_code
def yX0_setDiscount : MethodName := ⟨RX0, "setDiscount", "(II)I"⟩
abbrev cX0_isGood : ByteArray := prog_1_method_7_code
def yX0_isGood : MethodName := ⟨RX0, "isGood", "(I)Z"⟩
abbrev cX0_checkGood : ByteArray := prog_1_method_8_code
def yX0_checkGood : MethodName := ⟨RX0, "checkGood", "(I)V"⟩
abbrev cX0_checkParent : ByteArray := prog_1_method_9_code
def yX0_checkParent : MethodName := ⟨RX0, "checkParent", "(I)V"⟩
abbrev cX0_levelOf : ByteArray := prog_1_method_10_code
def yX0_levelOf : MethodName := ⟨RX0, "levelOf", "(I)I"⟩
abbrev cX0_isWithin : ByteArray := prog_1_method_11_code
def yX0_isWithin : MethodName := ⟨RX0, "isWithin", "(II)Z"⟩
abbrev cX0_levelsWithin : ByteArray := prog_1_method_12_code
def yX0_levelsWithin : MethodName := ⟨RX0, "levelsWithin", "(I)I"⟩
abbrev cX0_isParent : ByteArray := prog_1_method_13_code
def yX0_isParent : MethodName := ⟨RX0, "isParent", "(I)Z"⟩
abbrev cX0_isPart : ByteArray := prog_1_method_14_code
def yX0_isPart : MethodName := ⟨RX0, "isPart", "(I)Z"⟩
abbrev cX0_draft : ByteArray := prog_1_method_15_code
def yX0_draft : MethodName := ⟨RX0, "draft", "(IIIIII)I"⟩
abbrev cX0_approve : ByteArray := prog_1_method_16_code
def yX0_approve : MethodName := ⟨RX0, "approve", "(I)Z"⟩
abbrev cX0_reject : ByteArray := prog_1_method_17_code
def yX0_reject : MethodName := ⟨RX0, "reject", "(I)Z"⟩
abbrev cX0_pass : ByteArray := prog_1_method_18_code
def yX0_pass : MethodName := ⟨RX0, "pass", "(I)I"⟩
abbrev cX0_isEntered : ByteArray := prog_1_method_19_code
def yX0_isEntered : MethodName := ⟨RX0, "isEntered", "(I)Z"⟩
abbrev cX0_checkDraft : ByteArray := prog_1_method_20_code
def yX0_checkDraft : MethodName := ⟨RX0, "checkDraft", "(I)V"⟩
abbrev cX0_placeOf : ByteArray := prog_1_method_21_code
def yX0_placeOf : MethodName := ⟨RX0, "placeOf", "(IIII)I"⟩
abbrev cX0_holdsAtItsPlace : ByteArray := prog_1_method_22_code
def yX0_holdsAtItsPlace : MethodName := ⟨RX0, "holdsAtItsPlace", "(I)Z"⟩
abbrev cX0_deleteDraftsOf : ByteArray := prog_1_method_23_code
def yX0_deleteDraftsOf : MethodName := ⟨RX0, "deleteDraftsOf", "(I)V"⟩
abbrev cX0_settleHolders : ByteArray := prog_1_method_24_code
def yX0_settleHolders : MethodName := ⟨RX0, "settleHolders", "()V"⟩
abbrev cX0_putHolder : ByteArray := prog_1_method_25_code
def yX0_putHolder : MethodName := ⟨RX0, "putHolder", "(I)V"⟩
abbrev cX0_value : ByteArray := prog_1_method_26_code
def yX0_value : MethodName := ⟨RX0, "value", "(IIII)I"⟩
abbrev cX0_origin : ByteArray := prog_1_method_27_code
def yX0_origin : MethodName := ⟨RX0, "origin", "(IIII)I"⟩
abbrev cX0_told : ByteArray := prog_1_method_28_code
def yX0_told : MethodName := ⟨RX0, "told", "(I)I"⟩
abbrev cX0_toggleAsked : ByteArray := prog_1_method_29_code
def yX0_toggleAsked : MethodName := ⟨RX0, "toggleAsked", "(II)Z"⟩
abbrev cX0_missing : ByteArray := prog_1_method_30_code
def yX0_missing : MethodName := ⟨RX0, "missing", "(III)I"⟩
abbrev cX0_complete : ByteArray := prog_1_method_31_code
def yX0_complete : MethodName := ⟨RX0, "complete", "(I)I"⟩
abbrev cX0_price : ByteArray := prog_1_method_32_code
def yX0_price : MethodName := ⟨RX0, "price", "(II)I"⟩
abbrev cX0_checkAttribute : ByteArray := prog_1_method_33_code
def yX0_checkAttribute : MethodName := ⟨RX0, "checkAttribute", "(I)V"⟩
abbrev cX0_checkShop : ByteArray := prog_1_method_34_code
def yX0_checkShop : MethodName := ⟨RX0, "checkShop", "(I)V"⟩
abbrev cX0_checkTongue : ByteArray := prog_1_method_35_code
def yX0_checkTongue : MethodName := ⟨RX0, "checkTongue", "(I)V"⟩
abbrev cX0_checkSight : ByteArray := prog_1_method_36_code
def yX0_checkSight : MethodName := ⟨RX0, "checkSight", "(IIII)V"⟩
abbrev cX0_findValue : ByteArray := prog_1_method_37_code
def yX0_findValue : MethodName := ⟨RX0, "findValue", "(IIII)I"⟩
abbrev cX0_findOrigin : ByteArray := prog_1_method_38_code
def yX0_findOrigin : MethodName := ⟨RX0, "findOrigin", "(IIII)I"⟩
abbrev cX0_findOwnOrigin : ByteArray := prog_1_method_39_code
def yX0_findOwnOrigin : MethodName := ⟨RX0, "findOwnOrigin", "(IIII)I"⟩
abbrev cX0_findMissing : ByteArray := prog_1_method_40_code
def yX0_findMissing : MethodName := ⟨RX0, "findMissing", "(III)I"⟩
abbrev cX0_isComplete : ByteArray := prog_1_method_41_code
def yX0_isComplete : MethodName := ⟨RX0, "isComplete", "(II)Z"⟩
abbrev cX0_findPrice : ByteArray := prog_1_method_42_code
def yX0_findPrice : MethodName := ⟨RX0, "findPrice", "(II)I"⟩
abbrev cX0_sumUpParts : ByteArray := prog_1_method_43_code
def yX0_sumUpParts : MethodName := ⟨RX0, "sumUpParts", "(I)I"⟩
abbrev cX0_changed : ByteArray := prog_1_method_44_code
def yX0_changed : MethodName := ⟨RX0, "changed", "(I)I"⟩
abbrev cX0_feed : ByteArray := prog_1_method_45_code
def yX0_feed : MethodName := ⟨RX0, "feed", "(I)I"⟩
abbrev cX0_findChanged : ByteArray := prog_1_method_46_code
def yX0_findChanged : MethodName := ⟨RX0, "findChanged", "(I)I"⟩
abbrev cX0_looksChanged : ByteArray := prog_1_method_47_code
def yX0_looksChanged : MethodName := ⟨RX0, "looksChanged", "(II)Z"⟩
abbrev cX0_rememberSights : ByteArray := prog_1_method_48_code
def yX0_rememberSights : MethodName := ⟨RX0, "rememberSights", "(II)V"⟩
def RX1 : String := "ShopHubModel"
def TX1 : u_T := fun k => match k with
  | 0 => ("ShopHubModel", "today", "I", false)
  | 1 => ("ShopHubModel", "goods", "I", false)
  | 2 => ("ShopHubModel", "isThere", "[Z", true)
  | 3 => ("ShopHubModel", "parent", "[I", true)
  | 4 => ("ShopHubModel", "discount", "[I", true)
  | 5 => ("ShopHubModel", "quantity", "[I", true)
  | 6 => ("ShopHubModel", "drafts", "I", false)
  | 7 => ("ShopHubModel", "good", "[I", true)
  | 8 => ("ShopHubModel", "attribute", "[I", true)
  | 9 => ("ShopHubModel", "shop", "[I", true)
  | 10 => ("ShopHubModel", "tongue", "[I", true)
  | 11 => ("ShopHubModel", "value", "[I", true)
  | 12 => ("ShopHubModel", "day", "[I", true)
  | 13 => ("ShopHubModel", "state", "[I", true)
  | 14 => ("ShopHubModel", "isAsked", "[Z", true)
  | 15 => ("ShopHubModel", "seen", "[I", true)
  | 16 => ("ShopHubModel", "price", "[J", true)
  | _ => ("ShopHubModel", "thrown", "I", false)
def tyX1 : Nat → FieldType := fun k => match k with
  | 0 => .int
  | 1 => .int
  | 2 => .array .boolean
  | 3 => .array .int
  | 4 => .array .int
  | 5 => .array .int
  | 6 => .int
  | 7 => .array .int
  | 8 => .array .int
  | 9 => .array .int
  | 10 => .array .int
  | 11 => .array .int
  | 12 => .array .int
  | 13 => .array .int
  | 14 => .array .boolean
  | 15 => .array .int
  | 16 => .array .long
  | _ => .int
abbrev wsX10 : List Cond := u_ws RX1 TX1 18
theorem nmX1 : ∀ a, a < 18 → ∀ b, b < 18 → a ≠ b → (TX1 a).2.1 ≠ (TX1 b).2.1 := by decide +kernel
theorem tyX1_ok : ∀ k, k < 18 → parseFieldDescriptor (TX1 k).2.2.1 = some (tyX1 k) := by decide +kernel
abbrev cX1_init : ByteArray := prog_3_method_1_code
def yX1_init : MethodName := ⟨RX1, "<init>", "()V"⟩
abbrev cX1_thrown : ByteArray := prog_3_method_2_code
def yX1_thrown : MethodName := ⟨RX1, "thrown", "()I"⟩
abbrev cX1_fails : ByteArray := prog_3_method_3_code
def yX1_fails : MethodName := ⟨RX1, "fails", "(I)Z"⟩
abbrev cX1_isIn : ByteArray := prog_3_method_4_code
def yX1_isIn : MethodName := ⟨RX1, "isIn", "(III)Z"⟩
abbrev cX1_isGood : ByteArray := prog_3_method_5_code
def yX1_isGood : MethodName := ⟨RX1, "isGood", "(I)Z"⟩
abbrev cX1_isShop : ByteArray := prog_3_method_6_code
def yX1_isShop : MethodName := ⟨RX1, "isShop", "(I)Z"⟩
abbrev cX1_level : ByteArray := prog_3_method_7_code
def yX1_level : MethodName := ⟨RX1, "level", "(I)I"⟩
abbrev cX1_isBelow : ByteArray := prog_3_method_8_code
def yX1_isBelow : MethodName := ⟨RX1, "isBelow", "(II)Z"⟩
abbrev cX1_addGood : ByteArray := prog_3_method_9_code
def yX1_addGood : MethodName := ⟨RX1, "addGood", "(I)I"⟩
abbrev cX1_move : ByteArray := prog_3_method_10_code
def yX1_move : MethodName := ⟨RX1, "move", "(II)I"⟩
abbrev cX1_delete : ByteArray := prog_3_method_11_code
def yX1_delete : MethodName := ⟨RX1, "delete", "(I)V"⟩
abbrev cX1_addPart : ByteArray := prog_3_method_12_code
def yX1_addPart : MethodName := ⟨RX1, "addPart", "(III)I"⟩
abbrev cX1_setDiscount : ByteArray := prog_3_method_13_code
def yX1_setDiscount : MethodName := ⟨RX1, "setDiscount", "(II)I"⟩
abbrev cX1_draft : ByteArray := prog_3_method_14_code
def yX1_draft : MethodName := ⟨RX1, "draft", "(IIIIII)I"⟩
abbrev cX1_holds : ByteArray := prog_3_method_15_code
def yX1_holds : MethodName := ⟨RX1, "holds", "(IIII)I"⟩
abbrev cX1_isHolding : ByteArray := prog_3_method_16_code
def yX1_isHolding : MethodName := ⟨RX1, "isHolding", "(I)Z"⟩
abbrev cX1_isDraft : ByteArray := prog_3_method_17_code
def yX1_isDraft : MethodName := ⟨RX1, "isDraft", "(I)Z"⟩
abbrev cX1_approve : ByteArray := prog_3_method_18_code
def yX1_approve : MethodName := ⟨RX1, "approve", "(I)Z"⟩
abbrev cX1_reject : ByteArray := prog_3_method_19_code
def yX1_reject : MethodName := ⟨RX1, "reject", "(I)Z"⟩
abbrev cX1_pass : ByteArray := prog_3_method_20_code
def yX1_pass : MethodName := ⟨RX1, "pass", "(I)I"⟩
abbrev cX1_originOf : ByteArray := prog_3_method_21_code
def yX1_originOf : MethodName := ⟨RX1, "originOf", "(IIII)I"⟩
abbrev cX1_valueOf : ByteArray := prog_3_method_22_code
def yX1_valueOf : MethodName := ⟨RX1, "valueOf", "(IIII)I"⟩
abbrev cX1_isPlace : ByteArray := prog_3_method_23_code
def yX1_isPlace : MethodName := ⟨RX1, "isPlace", "(IIII)Z"⟩
abbrev cX1_value : ByteArray := prog_3_method_24_code
def yX1_value : MethodName := ⟨RX1, "value", "(IIII)I"⟩
abbrev cX1_origin : ByteArray := prog_3_method_25_code
def yX1_origin : MethodName := ⟨RX1, "origin", "(IIII)I"⟩
abbrev cX1_told : ByteArray := prog_3_method_26_code
def yX1_told : MethodName := ⟨RX1, "told", "(I)I"⟩
abbrev cX1_toggleAsked : ByteArray := prog_3_method_27_code
def yX1_toggleAsked : MethodName := ⟨RX1, "toggleAsked", "(II)Z"⟩
abbrev cX1_lacks : ByteArray := prog_3_method_28_code
def yX1_lacks : MethodName := ⟨RX1, "lacks", "(III)I"⟩
abbrev cX1_missing : ByteArray := prog_3_method_29_code
def yX1_missing : MethodName := ⟨RX1, "missing", "(III)I"⟩
abbrev cX1_complete : ByteArray := prog_3_method_30_code
def yX1_complete : MethodName := ⟨RX1, "complete", "(I)I"⟩
abbrev cX1_bundle : ByteArray := prog_3_method_31_code
def yX1_bundle : MethodName := ⟨RX1, "bundle", "(I)J"⟩
abbrev cX1_price : ByteArray := prog_3_method_32_code
def yX1_price : MethodName := ⟨RX1, "price", "(II)I"⟩
abbrev cX1_place : ByteArray := prog_3_method_33_code
def yX1_place : MethodName := ⟨RX1, "place", "(IIII)I"⟩
abbrev cX1_sees : ByteArray := prog_3_method_34_code
def yX1_sees : MethodName := ⟨RX1, "sees", "(IIII)I"⟩
abbrev cX1_differs : ByteArray := prog_3_method_35_code
def yX1_differs : MethodName := ⟨RX1, "differs", "(I)I"⟩
abbrev cX1_changed : ByteArray := prog_3_method_36_code
def yX1_changed : MethodName := ⟨RX1, "changed", "(I)I"⟩
abbrev cX1_feed : ByteArray := prog_3_method_37_code
def yX1_feed : MethodName := ⟨RX1, "feed", "(I)I"⟩
def RJ6 : String := "java/lang/Integer"
def TJ6 : u_T := fun k => match k with
  | _ => ("", "", "", false)
def tyJ6 : Nat → FieldType := fun k => match k with
  | _ => .int
abbrev wsJ60 : List Cond := u_ws RJ6 TJ6 0
theorem nmJ6 : ∀ a, a < 0 → ∀ b, b < 0 → a ≠ b → (TJ6 a).2.1 ≠ (TJ6 b).2.1 := by decide +kernel
theorem tyJ6_ok : ∀ k, k < 0 → parseFieldDescriptor (TJ6 k).2.2.1 = some (tyJ6 k) := by decide +kernel
abbrev cJ6_bitCount_0f7a4 : ByteArray := prog_8_method_49_code
def yJ6_bitCount_0f7a4 : MethodName := ⟨RJ6, "bitCount", "(I)I"⟩
def RJ9 : String := "java/lang/Math"
def TJ9 : u_T := fun k => match k with
  | _ => ("", "", "", false)
def tyJ9 : Nat → FieldType := fun k => match k with
  | _ => .int
abbrev wsJ90 : List Cond := u_ws RJ9 TJ9 0
theorem nmJ9 : ∀ a, a < 0 → ∀ b, b < 0 → a ≠ b → (TJ9 a).2.1 ≠ (TJ9 b).2.1 := by decide +kernel
theorem tyJ9_ok : ∀ k, k < 0 → parseFieldDescriptor (TJ9 k).2.2.1 = some (tyJ9 k) := by decide +kernel
abbrev cJ9_max_7cf53 : ByteArray := prog_9_method_65_code
def yJ9_max_7cf53 : MethodName := ⟨RJ9, "max", "(II)I"⟩
def RJ0 : String := "java/lang/String"
def TJ0 : u_T := fun k => match k with
  | _ => ("", "", "", false)
def tyJ0 : Nat → FieldType := fun k => match k with
  | _ => .int
abbrev wsJ00 : List Cond := u_ws RJ0 TJ0 0
theorem nmJ0 : ∀ a, a < 0 → ∀ b, b < 0 → a ≠ b → (TJ0 a).2.1 ≠ (TJ0 b).2.1 := by decide +kernel
theorem tyJ0_ok : ∀ k, k < 0 → parseFieldDescriptor (TJ0 k).2.2.1 = some (tyJ0 k) := by decide +kernel
def RL : String := "ShopHubLaw"
abbrev cL_addGood : ByteArray := method_3_code
def yL_addGood : MethodName := ⟨RL, "addGood", "(LShopHub;I[J)I"⟩
abbrev cL_move : ByteArray := method_4_code
def yL_move : MethodName := ⟨RL, "move", "(LShopHub;II[J)I"⟩
abbrev cL_delete : ByteArray := method_5_code
def yL_delete : MethodName := ⟨RL, "delete", "(LShopHub;I)I"⟩
abbrev cL_addPart : ByteArray := method_6_code
def yL_addPart : MethodName := ⟨RL, "addPart", "(LShopHub;III[J)I"⟩
abbrev cL_setDiscount : ByteArray := method_7_code
def yL_setDiscount : MethodName := ⟨RL, "setDiscount", "(LShopHub;II[J)I"⟩
abbrev cL_draft : ByteArray := method_8_code
def yL_draft : MethodName := ⟨RL, "draft", "(LShopHub;IIIIII[J)I"⟩
abbrev cL_approve : ByteArray := method_9_code
def yL_approve : MethodName := ⟨RL, "approve", "(LShopHub;I[J)I"⟩
abbrev cL_reject : ByteArray := method_10_code
def yL_reject : MethodName := ⟨RL, "reject", "(LShopHub;I[J)I"⟩
abbrev cL_pass : ByteArray := method_11_code
def yL_pass : MethodName := ⟨RL, "pass", "(LShopHub;I[J)I"⟩
abbrev cL_value : ByteArray := method_12_code
def yL_value : MethodName := ⟨RL, "value", "(LShopHub;IIII[J)I"⟩
abbrev cL_origin : ByteArray := method_13_code
def yL_origin : MethodName := ⟨RL, "origin", "(LShopHub;IIII[J)I"⟩
abbrev cL_told : ByteArray := method_14_code
def yL_told : MethodName := ⟨RL, "told", "(LShopHub;I[J)I"⟩
abbrev cL_toggleAsked : ByteArray := method_15_code
def yL_toggleAsked : MethodName := ⟨RL, "toggleAsked", "(LShopHub;II[J)I"⟩
abbrev cL_missing : ByteArray := method_16_code
def yL_missing : MethodName := ⟨RL, "missing", "(LShopHub;III[J)I"⟩
abbrev cL_complete : ByteArray := method_17_code
def yL_complete : MethodName := ⟨RL, "complete", "(LShopHub;I[J)I"⟩
abbrev cL_price : ByteArray := method_18_code
def yL_price : MethodName := ⟨RL, "price", "(LShopHub;II[J)I"⟩
abbrev cL_changed : ByteArray := method_19_code
def yL_changed : MethodName := ⟨RL, "changed", "(LShopHub;I[J)I"⟩
abbrev cL_feed : ByteArray := method_20_code
def yL_feed : MethodName := ⟨RL, "feed", "(LShopHub;I[J)I"⟩
abbrev cL_law : ByteArray := code
def yL_law : MethodName := ⟨RL, "law", "([I)Z"⟩
def wsX0_init : List Cond := .code yX0_init cX0_init 2 none :: ([.methodLink RX0 3 objectInit, .instanceMethod objectInit, .code objectInit ⟨#[0xb1]⟩ 1 none, .arrayClass .boolean, .fieldLink RX0 9 "ShopHub" "exists" "[Z", .arrayClass .int, .fieldLink RX0 13 "ShopHub" "parents" "[I", .fieldLink RX0 17 "ShopHub" "discounts" "[I", .fieldLink RX0 20 "ShopHub" "quantities" "[I", .fieldLink RX0 23 "ShopHub" "goodCount" "I", .fieldLink RX0 27 "ShopHub" "draftGoods" "[I", .fieldLink RX0 30 "ShopHub" "draftPlaces" "[I", .fieldLink RX0 33 "ShopHub" "draftValues" "[I", .fieldLink RX0 36 "ShopHub" "draftDays" "[I", .fieldLink RX0 39 "ShopHub" "draftStates" "[I", .fieldLink RX0 42 "ShopHub" "draftCount" "I", .fieldLink RX0 45 "ShopHub" "today" "I", .fieldLink RX0 48 "ShopHub" "holders" "[I", .fieldLink RX0 51 "ShopHub" "asked" "[Z", .fieldLink RX0 54 "ShopHub" "seen" "[I", .fieldLink RX0 57 "ShopHub" "prices" "[I"] ++ wsX00)
def wsX0_isGood : List Cond := .code yX0_isGood cX0_isGood 2 (some .boolean) :: ([.fieldLink RX0 9 "ShopHub" "exists" "[Z"] ++ wsX00)
def wsX0_checkParent : List Cond := .code yX0_checkParent cX0_checkParent 2 none :: ([.classLink RX0 122 "java/lang/IndexOutOfBoundsException", .initialized "java/lang/IndexOutOfBoundsException", .methodLink RX0 119 yX0_isGood, .instanceMethod yX0_isGood, .selects RX0 yX0_isGood yX0_isGood, .initialized RX0, .code yX0_isGood cX0_isGood 2 (some .boolean), .fieldLink RX0 9 "ShopHub" "exists" "[Z"] ++ wsX00 ++ (vx_atS RX0 126 "java/lang/IndexOutOfBoundsException" ["java/lang/RuntimeException", "java/lang/Exception"]).filter goodWord)
def wsX0_levelOf : List Cond := .code yX0_levelOf cX0_levelOf 5 (some .int) :: ([.fieldLink RX0 13 "ShopHub" "parents" "[I", .methodLink RX0 119 yX0_isGood, .instanceMethod yX0_isGood, .selects RX0 yX0_isGood yX0_isGood, .initialized RX0, .code yX0_isGood cX0_isGood 2 (some .boolean), .fieldLink RX0 9 "ShopHub" "exists" "[Z"] ++ wsX00)
def wsX0_addGood : List Cond := .code yX0_addGood cX0_addGood 3 (some .int) :: ([.classLink RX0 68 "java/lang/IllegalStateException", .initialized "java/lang/IllegalStateException", .fieldLink RX0 23 "ShopHub" "goodCount" "I", .fieldLink RX0 9 "ShopHub" "exists" "[Z", .fieldLink RX0 13 "ShopHub" "parents" "[I", .methodLink RX0 60 yX0_checkParent, .instanceMethod yX0_checkParent, .selects RX0 yX0_checkParent yX0_checkParent, .initialized RX0, .code yX0_checkParent cX0_checkParent 2 none, .classLink RX0 122 "java/lang/IndexOutOfBoundsException", .initialized "java/lang/IndexOutOfBoundsException", .methodLink RX0 119 yX0_isGood, .instanceMethod yX0_isGood, .selects RX0 yX0_isGood yX0_isGood, .code yX0_isGood cX0_isGood 2 (some .boolean), .methodLink RX0 64 yX0_levelOf, .instanceMethod yX0_levelOf, .selects RX0 yX0_levelOf yX0_levelOf, .code yX0_levelOf cX0_levelOf 5 (some .int)] ++ wsX00 ++ (vx_atS RX0 72 "java/lang/IllegalStateException" ["java/lang/RuntimeException", "java/lang/Exception"]).filter goodWord ++ (vx_atS RX0 126 "java/lang/IndexOutOfBoundsException" ["java/lang/RuntimeException", "java/lang/Exception"]).filter goodWord)
def wsX0_checkGood : List Cond := .code yX0_checkGood cX0_checkGood 2 none :: ([.classLink RX0 122 "java/lang/IndexOutOfBoundsException", .initialized "java/lang/IndexOutOfBoundsException", .methodLink RX0 119 yX0_isGood, .instanceMethod yX0_isGood, .selects RX0 yX0_isGood yX0_isGood, .initialized RX0, .code yX0_isGood cX0_isGood 2 (some .boolean), .fieldLink RX0 9 "ShopHub" "exists" "[Z"] ++ wsX00 ++ (vx_atS RX0 126 "java/lang/IndexOutOfBoundsException" ["java/lang/RuntimeException", "java/lang/Exception"]).filter goodWord)
def wsX0_isWithin : List Cond := .code yX0_isWithin cX0_isWithin 5 (some .boolean) :: ([.fieldLink RX0 13 "ShopHub" "parents" "[I", .methodLink RX0 119 yX0_isGood, .instanceMethod yX0_isGood, .selects RX0 yX0_isGood yX0_isGood, .initialized RX0, .code yX0_isGood cX0_isGood 2 (some .boolean), .fieldLink RX0 9 "ShopHub" "exists" "[Z"] ++ wsX00)
def wsX0_levelsWithin : List Cond := .code yX0_levelsWithin cX0_levelsWithin 4 (some .int) :: ([.methodLink RX0 129 Lib.Math.max.name, .static Lib.Math.max.name, .initialized "java/lang/Math", .code Lib.Math.max.name Lib.Math.max.code 2 (some .int), .methodLink RX0 64 yX0_levelOf, .instanceMethod yX0_levelOf, .selects RX0 yX0_levelOf yX0_levelOf, .initialized RX0, .code yX0_levelOf cX0_levelOf 5 (some .int), .fieldLink RX0 13 "ShopHub" "parents" "[I", .methodLink RX0 119 yX0_isGood, .instanceMethod yX0_isGood, .selects RX0 yX0_isGood yX0_isGood, .code yX0_isGood cX0_isGood 2 (some .boolean), .fieldLink RX0 9 "ShopHub" "exists" "[Z", .methodLink RX0 80 yX0_isWithin, .instanceMethod yX0_isWithin, .selects RX0 yX0_isWithin yX0_isWithin, .code yX0_isWithin cX0_isWithin 5 (some .boolean)] ++ wsX00)
def wsX0_move_r1 : List Cond := [Cond.classLink RX0 68 "java/lang/IllegalStateException", Cond.initialized "java/lang/IllegalStateException", Cond.fieldLink RX0 13 "ShopHub" "parents" "[I", Cond.methodLink RX0 77 yX0_checkGood, Cond.instanceMethod yX0_checkGood, Cond.selects RX0 yX0_checkGood yX0_checkGood, Cond.initialized RX0, Cond.code yX0_checkGood cX0_checkGood 2 none, Cond.classLink RX0 122 "java/lang/IndexOutOfBoundsException", Cond.initialized "java/lang/IndexOutOfBoundsException", Cond.methodLink RX0 119 yX0_isGood, Cond.instanceMethod yX0_isGood, Cond.selects RX0 yX0_isGood yX0_isGood, Cond.code yX0_isGood cX0_isGood 2 (some .boolean), Cond.fieldLink RX0 9 "ShopHub" "exists" "[Z", Cond.methodLink RX0 60 yX0_checkParent, Cond.instanceMethod yX0_checkParent, Cond.selects RX0 yX0_checkParent yX0_checkParent, Cond.code yX0_checkParent cX0_checkParent 2 none, Cond.methodLink RX0 80 yX0_isWithin, Cond.instanceMethod yX0_isWithin, Cond.selects RX0 yX0_isWithin yX0_isWithin, Cond.code yX0_isWithin cX0_isWithin 5 (some .boolean), Cond.methodLink RX0 64 yX0_levelOf]
def wsX0_move_r2 : List Cond := [Cond.instanceMethod yX0_levelOf, Cond.selects RX0 yX0_levelOf yX0_levelOf, Cond.code yX0_levelOf cX0_levelOf 5 (some .int), Cond.methodLink RX0 86 yX0_levelsWithin, Cond.instanceMethod yX0_levelsWithin, Cond.selects RX0 yX0_levelsWithin yX0_levelsWithin, Cond.code yX0_levelsWithin cX0_levelsWithin 4 (some .int), Cond.methodLink RX0 129 Lib.Math.max.name, Cond.static Lib.Math.max.name, Cond.initialized "java/lang/Math", Cond.code Lib.Math.max.name Lib.Math.max.code 2 (some .int)]
def wsX0_move : List Cond := .code yX0_move cX0_move 4 (some .int) :: ((wsX0_move_r1 ++ wsX0_move_r2) ++ wsX00 ++ (vx_atS RX0 72 "java/lang/IllegalStateException" ["java/lang/RuntimeException", "java/lang/Exception"]).filter goodWord ++ (vx_atS RX0 126 "java/lang/IndexOutOfBoundsException" ["java/lang/RuntimeException", "java/lang/Exception"]).filter goodWord)
def wsX0_isParent : List Cond := .code yX0_isParent cX0_isParent 3 (some .boolean) :: ([.fieldLink RX0 13 "ShopHub" "parents" "[I"] ++ wsX00)
def wsX0_isPart : List Cond := .code yX0_isPart cX0_isPart 3 (some .boolean) :: ([.fieldLink RX0 20 "ShopHub" "quantities" "[I"] ++ wsX00)
def wsX0_deleteDraftsOf : List Cond := .code yX0_deleteDraftsOf cX0_deleteDraftsOf 3 none :: ([.fieldLink RX0 42 "ShopHub" "draftCount" "I", .fieldLink RX0 27 "ShopHub" "draftGoods" "[I", .fieldLink RX0 39 "ShopHub" "draftStates" "[I"] ++ wsX00)
def wsX0_isEntered : List Cond := .code yX0_isEntered cX0_isEntered 2 (some .boolean) :: ([.fieldLink RX0 42 "ShopHub" "draftCount" "I"] ++ wsX00)
def wsX0_putHolder : List Cond := .code yX0_putHolder cX0_putHolder 4 none :: ([.fieldLink RX0 30 "ShopHub" "draftPlaces" "[I", .fieldLink RX0 48 "ShopHub" "holders" "[I", .fieldLink RX0 36 "ShopHub" "draftDays" "[I", .methodLink RX0 167 yX0_isEntered, .instanceMethod yX0_isEntered, .selects RX0 yX0_isEntered yX0_isEntered, .initialized RX0, .code yX0_isEntered cX0_isEntered 2 (some .boolean), .fieldLink RX0 42 "ShopHub" "draftCount" "I"] ++ wsX00)
def wsX0_settleHolders : List Cond := .code yX0_settleHolders cX0_settleHolders 2 none :: ([.fieldLink RX0 48 "ShopHub" "holders" "[I", .fieldLink RX0 42 "ShopHub" "draftCount" "I", .fieldLink RX0 39 "ShopHub" "draftStates" "[I", .fieldLink RX0 36 "ShopHub" "draftDays" "[I", .fieldLink RX0 45 "ShopHub" "today" "I", .methodLink RX0 172 yX0_putHolder, .instanceMethod yX0_putHolder, .selects RX0 yX0_putHolder yX0_putHolder, .initialized RX0, .code yX0_putHolder cX0_putHolder 4 none, .fieldLink RX0 30 "ShopHub" "draftPlaces" "[I", .methodLink RX0 167 yX0_isEntered, .instanceMethod yX0_isEntered, .selects RX0 yX0_isEntered yX0_isEntered, .code yX0_isEntered cX0_isEntered 2 (some .boolean)] ++ wsX00)
def wsX0_delete_r1 : List Cond := [Cond.classLink RX0 68 "java/lang/IllegalStateException", Cond.initialized "java/lang/IllegalStateException", Cond.fieldLink RX0 9 "ShopHub" "exists" "[Z", Cond.fieldLink RX0 13 "ShopHub" "parents" "[I", Cond.fieldLink RX0 20 "ShopHub" "quantities" "[I", Cond.methodLink RX0 77 yX0_checkGood, Cond.instanceMethod yX0_checkGood, Cond.selects RX0 yX0_checkGood yX0_checkGood, Cond.initialized RX0, Cond.code yX0_checkGood cX0_checkGood 2 none, Cond.classLink RX0 122 "java/lang/IndexOutOfBoundsException", Cond.initialized "java/lang/IndexOutOfBoundsException", Cond.methodLink RX0 119 yX0_isGood, Cond.instanceMethod yX0_isGood, Cond.selects RX0 yX0_isGood yX0_isGood, Cond.code yX0_isGood cX0_isGood 2 (some .boolean), Cond.methodLink RX0 91 yX0_isParent, Cond.instanceMethod yX0_isParent, Cond.selects RX0 yX0_isParent yX0_isParent, Cond.code yX0_isParent cX0_isParent 3 (some .boolean), Cond.methodLink RX0 97 yX0_isPart, Cond.instanceMethod yX0_isPart, Cond.selects RX0 yX0_isPart yX0_isPart, Cond.code yX0_isPart cX0_isPart 3 (some .boolean)]
def wsX0_delete_r2 : List Cond := [Cond.methodLink RX0 102 yX0_deleteDraftsOf, Cond.instanceMethod yX0_deleteDraftsOf, Cond.selects RX0 yX0_deleteDraftsOf yX0_deleteDraftsOf, Cond.code yX0_deleteDraftsOf cX0_deleteDraftsOf 3 none, Cond.fieldLink RX0 42 "ShopHub" "draftCount" "I", Cond.fieldLink RX0 27 "ShopHub" "draftGoods" "[I", Cond.fieldLink RX0 39 "ShopHub" "draftStates" "[I", Cond.methodLink RX0 105 yX0_settleHolders, Cond.instanceMethod yX0_settleHolders, Cond.selects RX0 yX0_settleHolders yX0_settleHolders, Cond.code yX0_settleHolders cX0_settleHolders 2 none, Cond.fieldLink RX0 48 "ShopHub" "holders" "[I", Cond.fieldLink RX0 36 "ShopHub" "draftDays" "[I", Cond.fieldLink RX0 45 "ShopHub" "today" "I", Cond.methodLink RX0 172 yX0_putHolder, Cond.instanceMethod yX0_putHolder, Cond.selects RX0 yX0_putHolder yX0_putHolder, Cond.code yX0_putHolder cX0_putHolder 4 none, Cond.fieldLink RX0 30 "ShopHub" "draftPlaces" "[I", Cond.methodLink RX0 167 yX0_isEntered, Cond.instanceMethod yX0_isEntered, Cond.selects RX0 yX0_isEntered yX0_isEntered, Cond.code yX0_isEntered cX0_isEntered 2 (some .boolean)]
def wsX0_delete : List Cond := .code yX0_delete cX0_delete 3 none :: ((wsX0_delete_r1 ++ wsX0_delete_r2) ++ wsX00 ++ (vx_atS RX0 72 "java/lang/IllegalStateException" ["java/lang/RuntimeException", "java/lang/Exception"]).filter goodWord ++ (vx_atS RX0 126 "java/lang/IndexOutOfBoundsException" ["java/lang/RuntimeException", "java/lang/Exception"]).filter goodWord)
def wsX0_addPart : List Cond := .code yX0_addPart cX0_addPart 6 (some .int) :: ([.classLink RX0 108 "java/lang/IllegalArgumentException", .initialized "java/lang/IllegalArgumentException", .classLink RX0 68 "java/lang/IllegalStateException", .initialized "java/lang/IllegalStateException", .fieldLink RX0 20 "ShopHub" "quantities" "[I", .methodLink RX0 77 yX0_checkGood, .instanceMethod yX0_checkGood, .selects RX0 yX0_checkGood yX0_checkGood, .initialized RX0, .code yX0_checkGood cX0_checkGood 2 none, .classLink RX0 122 "java/lang/IndexOutOfBoundsException", .initialized "java/lang/IndexOutOfBoundsException", .methodLink RX0 119 yX0_isGood, .instanceMethod yX0_isGood, .selects RX0 yX0_isGood yX0_isGood, .code yX0_isGood cX0_isGood 2 (some .boolean), .fieldLink RX0 9 "ShopHub" "exists" "[Z"] ++ wsX00 ++ (vx_atS RX0 112 "java/lang/IllegalArgumentException" ["java/lang/RuntimeException", "java/lang/Exception"]).filter goodWord ++ (vx_atS RX0 72 "java/lang/IllegalStateException" ["java/lang/RuntimeException", "java/lang/Exception"]).filter goodWord ++ (vx_atS RX0 126 "java/lang/IndexOutOfBoundsException" ["java/lang/RuntimeException", "java/lang/Exception"]).filter goodWord)
def wsX0_setDiscount : List Cond := .code yX0_setDiscount cX0_setDiscount 4 (some .int) :: ([.classLink RX0 108 "java/lang/IllegalArgumentException", .initialized "java/lang/IllegalArgumentException", .fieldLink RX0 17 "ShopHub" "discounts" "[I", .methodLink RX0 77 yX0_checkGood, .instanceMethod yX0_checkGood, .selects RX0 yX0_checkGood yX0_checkGood, .initialized RX0, .code yX0_checkGood cX0_checkGood 2 none, .classLink RX0 122 "java/lang/IndexOutOfBoundsException", .initialized "java/lang/IndexOutOfBoundsException", .methodLink RX0 119 yX0_isGood, .instanceMethod yX0_isGood, .selects RX0 yX0_isGood yX0_isGood, .code yX0_isGood cX0_isGood 2 (some .boolean), .fieldLink RX0 9 "ShopHub" "exists" "[Z"] ++ wsX00 ++ (vx_atS RX0 112 "java/lang/IllegalArgumentException" ["java/lang/RuntimeException", "java/lang/Exception"]).filter goodWord ++ (vx_atS RX0 126 "java/lang/IndexOutOfBoundsException" ["java/lang/RuntimeException", "java/lang/Exception"]).filter goodWord)
def wsX0_checkAttribute : List Cond := .code yX0_checkAttribute cX0_checkAttribute 1 none :: ([.classLink RX0 122 "java/lang/IndexOutOfBoundsException", .initialized "java/lang/IndexOutOfBoundsException"] ++ (vx_atS RX0 126 "java/lang/IndexOutOfBoundsException" ["java/lang/RuntimeException", "java/lang/Exception"]).filter goodWord)
def wsX0_checkShop : List Cond := .code yX0_checkShop cX0_checkShop 1 none :: ([.classLink RX0 122 "java/lang/IndexOutOfBoundsException", .initialized "java/lang/IndexOutOfBoundsException"] ++ (vx_atS RX0 126 "java/lang/IndexOutOfBoundsException" ["java/lang/RuntimeException", "java/lang/Exception"]).filter goodWord)
def wsX0_checkTongue : List Cond := .code yX0_checkTongue cX0_checkTongue 1 none :: ([.classLink RX0 122 "java/lang/IndexOutOfBoundsException", .initialized "java/lang/IndexOutOfBoundsException"] ++ (vx_atS RX0 126 "java/lang/IndexOutOfBoundsException" ["java/lang/RuntimeException", "java/lang/Exception"]).filter goodWord)
def wsX0_placeOf : List Cond := .code yX0_placeOf cX0_placeOf 6 (some .int) :: ([])
def wsX0_draft_r1 : List Cond := [Cond.classLink RX0 108 "java/lang/IllegalArgumentException", Cond.initialized "java/lang/IllegalArgumentException", Cond.classLink RX0 68 "java/lang/IllegalStateException", Cond.initialized "java/lang/IllegalStateException", Cond.constant RX0 144 (100000), Cond.fieldLink RX0 42 "ShopHub" "draftCount" "I", Cond.fieldLink RX0 27 "ShopHub" "draftGoods" "[I", Cond.fieldLink RX0 30 "ShopHub" "draftPlaces" "[I", Cond.fieldLink RX0 33 "ShopHub" "draftValues" "[I", Cond.fieldLink RX0 36 "ShopHub" "draftDays" "[I", Cond.fieldLink RX0 39 "ShopHub" "draftStates" "[I", Cond.methodLink RX0 77 yX0_checkGood, Cond.instanceMethod yX0_checkGood, Cond.selects RX0 yX0_checkGood yX0_checkGood, Cond.initialized RX0, Cond.code yX0_checkGood cX0_checkGood 2 none, Cond.classLink RX0 122 "java/lang/IndexOutOfBoundsException", Cond.initialized "java/lang/IndexOutOfBoundsException", Cond.methodLink RX0 119 yX0_isGood, Cond.instanceMethod yX0_isGood, Cond.selects RX0 yX0_isGood yX0_isGood, Cond.code yX0_isGood cX0_isGood 2 (some .boolean), Cond.fieldLink RX0 9 "ShopHub" "exists" "[Z", Cond.methodLink RX0 135 yX0_checkAttribute]
def wsX0_draft_r2 : List Cond := [Cond.static yX0_checkAttribute, Cond.code yX0_checkAttribute cX0_checkAttribute 1 none, Cond.methodLink RX0 138 yX0_checkShop, Cond.static yX0_checkShop, Cond.code yX0_checkShop cX0_checkShop 1 none, Cond.methodLink RX0 141 yX0_checkTongue, Cond.static yX0_checkTongue, Cond.code yX0_checkTongue cX0_checkTongue 1 none, Cond.methodLink RX0 151 yX0_placeOf, Cond.static yX0_placeOf, Cond.code yX0_placeOf cX0_placeOf 6 (some .int)]
def wsX0_draft : List Cond := .code yX0_draft cX0_draft 8 (some .int) :: ((wsX0_draft_r1 ++ wsX0_draft_r2) ++ wsX00 ++ (vx_atS RX0 112 "java/lang/IllegalArgumentException" ["java/lang/RuntimeException", "java/lang/Exception"]).filter goodWord ++ (vx_atS RX0 72 "java/lang/IllegalStateException" ["java/lang/RuntimeException", "java/lang/Exception"]).filter goodWord ++ (vx_atS RX0 126 "java/lang/IndexOutOfBoundsException" ["java/lang/RuntimeException", "java/lang/Exception"]).filter goodWord)
def wsX0_checkDraft : List Cond := .code yX0_checkDraft cX0_checkDraft 2 none :: ([.classLink RX0 122 "java/lang/IndexOutOfBoundsException", .initialized "java/lang/IndexOutOfBoundsException", .fieldLink RX0 39 "ShopHub" "draftStates" "[I", .methodLink RX0 167 yX0_isEntered, .instanceMethod yX0_isEntered, .selects RX0 yX0_isEntered yX0_isEntered, .initialized RX0, .code yX0_isEntered cX0_isEntered 2 (some .boolean), .fieldLink RX0 42 "ShopHub" "draftCount" "I"] ++ wsX00 ++ (vx_atS RX0 126 "java/lang/IndexOutOfBoundsException" ["java/lang/RuntimeException", "java/lang/Exception"]).filter goodWord)
def wsX0_holdsAtItsPlace : List Cond := .code yX0_holdsAtItsPlace cX0_holdsAtItsPlace 2 (some .boolean) :: ([.fieldLink RX0 48 "ShopHub" "holders" "[I", .fieldLink RX0 30 "ShopHub" "draftPlaces" "[I"] ++ wsX00)
def wsX0_approve_r1 : List Cond := [Cond.classLink RX0 68 "java/lang/IllegalStateException", Cond.initialized "java/lang/IllegalStateException", Cond.fieldLink RX0 39 "ShopHub" "draftStates" "[I", Cond.methodLink RX0 155 yX0_checkDraft, Cond.instanceMethod yX0_checkDraft, Cond.selects RX0 yX0_checkDraft yX0_checkDraft, Cond.initialized RX0, Cond.code yX0_checkDraft cX0_checkDraft 2 none, Cond.classLink RX0 122 "java/lang/IndexOutOfBoundsException", Cond.initialized "java/lang/IndexOutOfBoundsException", Cond.methodLink RX0 167 yX0_isEntered, Cond.instanceMethod yX0_isEntered, Cond.selects RX0 yX0_isEntered yX0_isEntered, Cond.code yX0_isEntered cX0_isEntered 2 (some .boolean), Cond.fieldLink RX0 42 "ShopHub" "draftCount" "I", Cond.methodLink RX0 105 yX0_settleHolders, Cond.instanceMethod yX0_settleHolders, Cond.selects RX0 yX0_settleHolders yX0_settleHolders, Cond.code yX0_settleHolders cX0_settleHolders 2 none, Cond.fieldLink RX0 48 "ShopHub" "holders" "[I", Cond.fieldLink RX0 36 "ShopHub" "draftDays" "[I", Cond.fieldLink RX0 45 "ShopHub" "today" "I", Cond.methodLink RX0 172 yX0_putHolder, Cond.instanceMethod yX0_putHolder]
def wsX0_approve_r2 : List Cond := [Cond.selects RX0 yX0_putHolder yX0_putHolder, Cond.code yX0_putHolder cX0_putHolder 4 none, Cond.fieldLink RX0 30 "ShopHub" "draftPlaces" "[I", Cond.methodLink RX0 160 yX0_holdsAtItsPlace, Cond.instanceMethod yX0_holdsAtItsPlace, Cond.selects RX0 yX0_holdsAtItsPlace yX0_holdsAtItsPlace, Cond.code yX0_holdsAtItsPlace cX0_holdsAtItsPlace 2 (some .boolean)]
def wsX0_approve : List Cond := .code yX0_approve cX0_approve 2 (some .boolean) :: ((wsX0_approve_r1 ++ wsX0_approve_r2) ++ wsX00 ++ (vx_atS RX0 72 "java/lang/IllegalStateException" ["java/lang/RuntimeException", "java/lang/Exception"]).filter goodWord ++ (vx_atS RX0 126 "java/lang/IndexOutOfBoundsException" ["java/lang/RuntimeException", "java/lang/Exception"]).filter goodWord)
def wsX0_reject_r1 : List Cond := [Cond.classLink RX0 68 "java/lang/IllegalStateException", Cond.initialized "java/lang/IllegalStateException", Cond.fieldLink RX0 39 "ShopHub" "draftStates" "[I", Cond.methodLink RX0 155 yX0_checkDraft, Cond.instanceMethod yX0_checkDraft, Cond.selects RX0 yX0_checkDraft yX0_checkDraft, Cond.initialized RX0, Cond.code yX0_checkDraft cX0_checkDraft 2 none, Cond.classLink RX0 122 "java/lang/IndexOutOfBoundsException", Cond.initialized "java/lang/IndexOutOfBoundsException", Cond.methodLink RX0 167 yX0_isEntered, Cond.instanceMethod yX0_isEntered, Cond.selects RX0 yX0_isEntered yX0_isEntered, Cond.code yX0_isEntered cX0_isEntered 2 (some .boolean), Cond.fieldLink RX0 42 "ShopHub" "draftCount" "I", Cond.methodLink RX0 160 yX0_holdsAtItsPlace, Cond.instanceMethod yX0_holdsAtItsPlace, Cond.selects RX0 yX0_holdsAtItsPlace yX0_holdsAtItsPlace, Cond.code yX0_holdsAtItsPlace cX0_holdsAtItsPlace 2 (some .boolean), Cond.fieldLink RX0 48 "ShopHub" "holders" "[I", Cond.fieldLink RX0 30 "ShopHub" "draftPlaces" "[I", Cond.methodLink RX0 105 yX0_settleHolders, Cond.instanceMethod yX0_settleHolders, Cond.selects RX0 yX0_settleHolders yX0_settleHolders]
def wsX0_reject_r2 : List Cond := [Cond.code yX0_settleHolders cX0_settleHolders 2 none, Cond.fieldLink RX0 36 "ShopHub" "draftDays" "[I", Cond.fieldLink RX0 45 "ShopHub" "today" "I", Cond.methodLink RX0 172 yX0_putHolder, Cond.instanceMethod yX0_putHolder, Cond.selects RX0 yX0_putHolder yX0_putHolder, Cond.code yX0_putHolder cX0_putHolder 4 none]
def wsX0_reject : List Cond := .code yX0_reject cX0_reject 3 (some .boolean) :: ((wsX0_reject_r1 ++ wsX0_reject_r2) ++ wsX00 ++ (vx_atS RX0 72 "java/lang/IllegalStateException" ["java/lang/RuntimeException", "java/lang/Exception"]).filter goodWord ++ (vx_atS RX0 126 "java/lang/IndexOutOfBoundsException" ["java/lang/RuntimeException", "java/lang/Exception"]).filter goodWord)
def wsX0_pass : List Cond := .code yX0_pass cX0_pass 2 (some .int) :: ([.classLink RX0 108 "java/lang/IllegalArgumentException", .initialized "java/lang/IllegalArgumentException", .fieldLink RX0 45 "ShopHub" "today" "I", .methodLink RX0 105 yX0_settleHolders, .instanceMethod yX0_settleHolders, .selects RX0 yX0_settleHolders yX0_settleHolders, .initialized RX0, .code yX0_settleHolders cX0_settleHolders 2 none, .fieldLink RX0 48 "ShopHub" "holders" "[I", .fieldLink RX0 42 "ShopHub" "draftCount" "I", .fieldLink RX0 39 "ShopHub" "draftStates" "[I", .fieldLink RX0 36 "ShopHub" "draftDays" "[I", .methodLink RX0 172 yX0_putHolder, .instanceMethod yX0_putHolder, .selects RX0 yX0_putHolder yX0_putHolder, .code yX0_putHolder cX0_putHolder 4 none, .fieldLink RX0 30 "ShopHub" "draftPlaces" "[I", .methodLink RX0 167 yX0_isEntered, .instanceMethod yX0_isEntered, .selects RX0 yX0_isEntered yX0_isEntered, .code yX0_isEntered cX0_isEntered 2 (some .boolean)] ++ wsX00 ++ (vx_atS RX0 112 "java/lang/IllegalArgumentException" ["java/lang/RuntimeException", "java/lang/Exception"]).filter goodWord)
def wsX0_checkSight : List Cond := .code yX0_checkSight cX0_checkSight 5 none :: ([.methodLink RX0 77 yX0_checkGood, .instanceMethod yX0_checkGood, .selects RX0 yX0_checkGood yX0_checkGood, .initialized RX0, .code yX0_checkGood cX0_checkGood 2 none, .classLink RX0 122 "java/lang/IndexOutOfBoundsException", .initialized "java/lang/IndexOutOfBoundsException", .methodLink RX0 119 yX0_isGood, .instanceMethod yX0_isGood, .selects RX0 yX0_isGood yX0_isGood, .code yX0_isGood cX0_isGood 2 (some .boolean), .fieldLink RX0 9 "ShopHub" "exists" "[Z", .methodLink RX0 135 yX0_checkAttribute, .static yX0_checkAttribute, .code yX0_checkAttribute cX0_checkAttribute 1 none, .methodLink RX0 138 yX0_checkShop, .static yX0_checkShop, .code yX0_checkShop cX0_checkShop 1 none, .methodLink RX0 141 yX0_checkTongue, .static yX0_checkTongue, .code yX0_checkTongue cX0_checkTongue 1 none] ++ wsX00 ++ (vx_atS RX0 126 "java/lang/IndexOutOfBoundsException" ["java/lang/RuntimeException", "java/lang/Exception"]).filter goodWord)
def wsX0_findOwnOrigin : List Cond := .code yX0_findOwnOrigin cX0_findOwnOrigin 6 (some .int) :: ([.fieldLink RX0 48 "ShopHub" "holders" "[I", .methodLink RX0 151 yX0_placeOf, .static yX0_placeOf, .initialized RX0, .code yX0_placeOf cX0_placeOf 6 (some .int)] ++ wsX00)
def wsX0_findOrigin : List Cond := .code yX0_findOrigin cX0_findOrigin 8 (some .int) :: ([.fieldLink RX0 13 "ShopHub" "parents" "[I", .methodLink RX0 119 yX0_isGood, .instanceMethod yX0_isGood, .selects RX0 yX0_isGood yX0_isGood, .initialized RX0, .code yX0_isGood cX0_isGood 2 (some .boolean), .fieldLink RX0 9 "ShopHub" "exists" "[Z", .methodLink RX0 205 yX0_findOwnOrigin, .instanceMethod yX0_findOwnOrigin, .selects RX0 yX0_findOwnOrigin yX0_findOwnOrigin, .code yX0_findOwnOrigin cX0_findOwnOrigin 6 (some .int), .fieldLink RX0 48 "ShopHub" "holders" "[I", .methodLink RX0 151 yX0_placeOf, .static yX0_placeOf, .code yX0_placeOf cX0_placeOf 6 (some .int)] ++ wsX00)
def wsX0_findValue_r1 : List Cond := [Cond.fieldLink RX0 33 "ShopHub" "draftValues" "[I", Cond.methodLink RX0 184 yX0_findOrigin, Cond.instanceMethod yX0_findOrigin, Cond.selects RX0 yX0_findOrigin yX0_findOrigin, Cond.initialized RX0, Cond.code yX0_findOrigin cX0_findOrigin 8 (some .int), Cond.fieldLink RX0 13 "ShopHub" "parents" "[I", Cond.methodLink RX0 119 yX0_isGood, Cond.instanceMethod yX0_isGood, Cond.selects RX0 yX0_isGood yX0_isGood, Cond.code yX0_isGood cX0_isGood 2 (some .boolean), Cond.fieldLink RX0 9 "ShopHub" "exists" "[Z", Cond.methodLink RX0 205 yX0_findOwnOrigin, Cond.instanceMethod yX0_findOwnOrigin, Cond.selects RX0 yX0_findOwnOrigin yX0_findOwnOrigin, Cond.code yX0_findOwnOrigin cX0_findOwnOrigin 6 (some .int), Cond.fieldLink RX0 48 "ShopHub" "holders" "[I", Cond.methodLink RX0 151 yX0_placeOf, Cond.static yX0_placeOf, Cond.code yX0_placeOf cX0_placeOf 6 (some .int), Cond.methodLink RX0 167 yX0_isEntered, Cond.instanceMethod yX0_isEntered, Cond.selects RX0 yX0_isEntered yX0_isEntered, Cond.code yX0_isEntered cX0_isEntered 2 (some .boolean)]
def wsX0_findValue_r2 : List Cond := [Cond.fieldLink RX0 42 "ShopHub" "draftCount" "I"]
def wsX0_findValue : List Cond := .code yX0_findValue cX0_findValue 6 (some .int) :: ((wsX0_findValue_r1 ++ wsX0_findValue_r2) ++ wsX00)
def wsX0_value_r1 : List Cond := [Cond.classLink RX0 68 "java/lang/IllegalStateException", Cond.initialized "java/lang/IllegalStateException", Cond.methodLink RX0 175 yX0_checkSight, Cond.instanceMethod yX0_checkSight, Cond.selects RX0 yX0_checkSight yX0_checkSight, Cond.initialized RX0, Cond.code yX0_checkSight cX0_checkSight 5 none, Cond.methodLink RX0 77 yX0_checkGood, Cond.instanceMethod yX0_checkGood, Cond.selects RX0 yX0_checkGood yX0_checkGood, Cond.code yX0_checkGood cX0_checkGood 2 none, Cond.classLink RX0 122 "java/lang/IndexOutOfBoundsException", Cond.initialized "java/lang/IndexOutOfBoundsException", Cond.methodLink RX0 119 yX0_isGood, Cond.instanceMethod yX0_isGood, Cond.selects RX0 yX0_isGood yX0_isGood, Cond.code yX0_isGood cX0_isGood 2 (some .boolean), Cond.fieldLink RX0 9 "ShopHub" "exists" "[Z", Cond.methodLink RX0 135 yX0_checkAttribute, Cond.static yX0_checkAttribute, Cond.code yX0_checkAttribute cX0_checkAttribute 1 none, Cond.methodLink RX0 138 yX0_checkShop, Cond.static yX0_checkShop, Cond.code yX0_checkShop cX0_checkShop 1 none]
def wsX0_value_r2 : List Cond := [Cond.methodLink RX0 141 yX0_checkTongue, Cond.static yX0_checkTongue, Cond.code yX0_checkTongue cX0_checkTongue 1 none, Cond.methodLink RX0 179 yX0_findValue, Cond.instanceMethod yX0_findValue, Cond.selects RX0 yX0_findValue yX0_findValue, Cond.code yX0_findValue cX0_findValue 6 (some .int), Cond.fieldLink RX0 33 "ShopHub" "draftValues" "[I", Cond.methodLink RX0 184 yX0_findOrigin, Cond.instanceMethod yX0_findOrigin, Cond.selects RX0 yX0_findOrigin yX0_findOrigin, Cond.code yX0_findOrigin cX0_findOrigin 8 (some .int), Cond.fieldLink RX0 13 "ShopHub" "parents" "[I", Cond.methodLink RX0 205 yX0_findOwnOrigin, Cond.instanceMethod yX0_findOwnOrigin, Cond.selects RX0 yX0_findOwnOrigin yX0_findOwnOrigin, Cond.code yX0_findOwnOrigin cX0_findOwnOrigin 6 (some .int), Cond.fieldLink RX0 48 "ShopHub" "holders" "[I", Cond.methodLink RX0 151 yX0_placeOf, Cond.static yX0_placeOf, Cond.code yX0_placeOf cX0_placeOf 6 (some .int), Cond.methodLink RX0 167 yX0_isEntered, Cond.instanceMethod yX0_isEntered, Cond.selects RX0 yX0_isEntered yX0_isEntered]
def wsX0_value_r3 : List Cond := [Cond.code yX0_isEntered cX0_isEntered 2 (some .boolean), Cond.fieldLink RX0 42 "ShopHub" "draftCount" "I"]
def wsX0_value : List Cond := .code yX0_value cX0_value 6 (some .int) :: ((wsX0_value_r1 ++ (wsX0_value_r2 ++ wsX0_value_r3)) ++ wsX00 ++ (vx_atS RX0 72 "java/lang/IllegalStateException" ["java/lang/RuntimeException", "java/lang/Exception"]).filter goodWord ++ (vx_atS RX0 126 "java/lang/IndexOutOfBoundsException" ["java/lang/RuntimeException", "java/lang/Exception"]).filter goodWord)
def wsX0_origin_r1 : List Cond := [Cond.methodLink RX0 175 yX0_checkSight, Cond.instanceMethod yX0_checkSight, Cond.selects RX0 yX0_checkSight yX0_checkSight, Cond.initialized RX0, Cond.code yX0_checkSight cX0_checkSight 5 none, Cond.methodLink RX0 77 yX0_checkGood, Cond.instanceMethod yX0_checkGood, Cond.selects RX0 yX0_checkGood yX0_checkGood, Cond.code yX0_checkGood cX0_checkGood 2 none, Cond.classLink RX0 122 "java/lang/IndexOutOfBoundsException", Cond.initialized "java/lang/IndexOutOfBoundsException", Cond.methodLink RX0 119 yX0_isGood, Cond.instanceMethod yX0_isGood, Cond.selects RX0 yX0_isGood yX0_isGood, Cond.code yX0_isGood cX0_isGood 2 (some .boolean), Cond.fieldLink RX0 9 "ShopHub" "exists" "[Z", Cond.methodLink RX0 135 yX0_checkAttribute, Cond.static yX0_checkAttribute, Cond.code yX0_checkAttribute cX0_checkAttribute 1 none, Cond.methodLink RX0 138 yX0_checkShop, Cond.static yX0_checkShop, Cond.code yX0_checkShop cX0_checkShop 1 none, Cond.methodLink RX0 141 yX0_checkTongue, Cond.static yX0_checkTongue]
def wsX0_origin_r2 : List Cond := [Cond.code yX0_checkTongue cX0_checkTongue 1 none, Cond.methodLink RX0 184 yX0_findOrigin, Cond.instanceMethod yX0_findOrigin, Cond.selects RX0 yX0_findOrigin yX0_findOrigin, Cond.code yX0_findOrigin cX0_findOrigin 8 (some .int), Cond.fieldLink RX0 13 "ShopHub" "parents" "[I", Cond.methodLink RX0 205 yX0_findOwnOrigin, Cond.instanceMethod yX0_findOwnOrigin, Cond.selects RX0 yX0_findOwnOrigin yX0_findOwnOrigin, Cond.code yX0_findOwnOrigin cX0_findOwnOrigin 6 (some .int), Cond.fieldLink RX0 48 "ShopHub" "holders" "[I", Cond.methodLink RX0 151 yX0_placeOf, Cond.static yX0_placeOf, Cond.code yX0_placeOf cX0_placeOf 6 (some .int)]
def wsX0_origin : List Cond := .code yX0_origin cX0_origin 5 (some .int) :: ((wsX0_origin_r1 ++ wsX0_origin_r2) ++ wsX00 ++ (vx_atS RX0 126 "java/lang/IndexOutOfBoundsException" ["java/lang/RuntimeException", "java/lang/Exception"]).filter goodWord)
def wsX0_told : List Cond := .code yX0_told cX0_told 5 (some .int) :: ([.fieldLink RX0 48 "ShopHub" "holders" "[I", .methodLink RX0 77 yX0_checkGood, .instanceMethod yX0_checkGood, .selects RX0 yX0_checkGood yX0_checkGood, .initialized RX0, .code yX0_checkGood cX0_checkGood 2 none, .classLink RX0 122 "java/lang/IndexOutOfBoundsException", .initialized "java/lang/IndexOutOfBoundsException", .methodLink RX0 119 yX0_isGood, .instanceMethod yX0_isGood, .selects RX0 yX0_isGood yX0_isGood, .code yX0_isGood cX0_isGood 2 (some .boolean), .fieldLink RX0 9 "ShopHub" "exists" "[Z"] ++ wsX00 ++ (vx_atS RX0 126 "java/lang/IndexOutOfBoundsException" ["java/lang/RuntimeException", "java/lang/Exception"]).filter goodWord)
def wsX0_toggleAsked : List Cond := .code yX0_toggleAsked cX0_toggleAsked 4 (some .boolean) :: ([.fieldLink RX0 51 "ShopHub" "asked" "[Z", .methodLink RX0 138 yX0_checkShop, .static yX0_checkShop, .initialized RX0, .code yX0_checkShop cX0_checkShop 1 none, .classLink RX0 122 "java/lang/IndexOutOfBoundsException", .initialized "java/lang/IndexOutOfBoundsException", .methodLink RX0 135 yX0_checkAttribute, .static yX0_checkAttribute, .code yX0_checkAttribute cX0_checkAttribute 1 none] ++ wsX00 ++ (vx_atS RX0 126 "java/lang/IndexOutOfBoundsException" ["java/lang/RuntimeException", "java/lang/Exception"]).filter goodWord)
def wsX0_findMissing_r1 : List Cond := [Cond.fieldLink RX0 51 "ShopHub" "asked" "[Z", Cond.methodLink RX0 179 yX0_findValue, Cond.instanceMethod yX0_findValue, Cond.selects RX0 yX0_findValue yX0_findValue, Cond.initialized RX0, Cond.code yX0_findValue cX0_findValue 6 (some .int), Cond.fieldLink RX0 33 "ShopHub" "draftValues" "[I", Cond.methodLink RX0 184 yX0_findOrigin, Cond.instanceMethod yX0_findOrigin, Cond.selects RX0 yX0_findOrigin yX0_findOrigin, Cond.code yX0_findOrigin cX0_findOrigin 8 (some .int), Cond.fieldLink RX0 13 "ShopHub" "parents" "[I", Cond.methodLink RX0 119 yX0_isGood, Cond.instanceMethod yX0_isGood, Cond.selects RX0 yX0_isGood yX0_isGood, Cond.code yX0_isGood cX0_isGood 2 (some .boolean), Cond.fieldLink RX0 9 "ShopHub" "exists" "[Z", Cond.methodLink RX0 205 yX0_findOwnOrigin, Cond.instanceMethod yX0_findOwnOrigin, Cond.selects RX0 yX0_findOwnOrigin yX0_findOwnOrigin, Cond.code yX0_findOwnOrigin cX0_findOwnOrigin 6 (some .int), Cond.fieldLink RX0 48 "ShopHub" "holders" "[I", Cond.methodLink RX0 151 yX0_placeOf, Cond.static yX0_placeOf]
def wsX0_findMissing_r2 : List Cond := [Cond.code yX0_placeOf cX0_placeOf 6 (some .int), Cond.methodLink RX0 167 yX0_isEntered, Cond.instanceMethod yX0_isEntered, Cond.selects RX0 yX0_isEntered yX0_isEntered, Cond.code yX0_isEntered cX0_isEntered 2 (some .boolean), Cond.fieldLink RX0 42 "ShopHub" "draftCount" "I"]
def wsX0_findMissing : List Cond := .code yX0_findMissing cX0_findMissing 6 (some .int) :: ((wsX0_findMissing_r1 ++ wsX0_findMissing_r2) ++ wsX00)
def wsX0_missing_r1 : List Cond := [Cond.methodLink RX0 77 yX0_checkGood, Cond.instanceMethod yX0_checkGood, Cond.selects RX0 yX0_checkGood yX0_checkGood, Cond.initialized RX0, Cond.code yX0_checkGood cX0_checkGood 2 none, Cond.classLink RX0 122 "java/lang/IndexOutOfBoundsException", Cond.initialized "java/lang/IndexOutOfBoundsException", Cond.methodLink RX0 119 yX0_isGood, Cond.instanceMethod yX0_isGood, Cond.selects RX0 yX0_isGood yX0_isGood, Cond.code yX0_isGood cX0_isGood 2 (some .boolean), Cond.fieldLink RX0 9 "ShopHub" "exists" "[Z", Cond.methodLink RX0 138 yX0_checkShop, Cond.static yX0_checkShop, Cond.code yX0_checkShop cX0_checkShop 1 none, Cond.methodLink RX0 141 yX0_checkTongue, Cond.static yX0_checkTongue, Cond.code yX0_checkTongue cX0_checkTongue 1 none, Cond.methodLink RX0 187 yX0_findMissing, Cond.instanceMethod yX0_findMissing, Cond.selects RX0 yX0_findMissing yX0_findMissing, Cond.code yX0_findMissing cX0_findMissing 6 (some .int), Cond.fieldLink RX0 51 "ShopHub" "asked" "[Z", Cond.methodLink RX0 179 yX0_findValue]
def wsX0_missing_r2 : List Cond := [Cond.instanceMethod yX0_findValue, Cond.selects RX0 yX0_findValue yX0_findValue, Cond.code yX0_findValue cX0_findValue 6 (some .int), Cond.fieldLink RX0 33 "ShopHub" "draftValues" "[I", Cond.methodLink RX0 184 yX0_findOrigin, Cond.instanceMethod yX0_findOrigin, Cond.selects RX0 yX0_findOrigin yX0_findOrigin, Cond.code yX0_findOrigin cX0_findOrigin 8 (some .int), Cond.fieldLink RX0 13 "ShopHub" "parents" "[I", Cond.methodLink RX0 205 yX0_findOwnOrigin, Cond.instanceMethod yX0_findOwnOrigin, Cond.selects RX0 yX0_findOwnOrigin yX0_findOwnOrigin, Cond.code yX0_findOwnOrigin cX0_findOwnOrigin 6 (some .int), Cond.fieldLink RX0 48 "ShopHub" "holders" "[I", Cond.methodLink RX0 151 yX0_placeOf, Cond.static yX0_placeOf, Cond.code yX0_placeOf cX0_placeOf 6 (some .int), Cond.methodLink RX0 167 yX0_isEntered, Cond.instanceMethod yX0_isEntered, Cond.selects RX0 yX0_isEntered yX0_isEntered, Cond.code yX0_isEntered cX0_isEntered 2 (some .boolean), Cond.fieldLink RX0 42 "ShopHub" "draftCount" "I"]
def wsX0_missing : List Cond := .code yX0_missing cX0_missing 4 (some .int) :: ((wsX0_missing_r1 ++ wsX0_missing_r2) ++ wsX00 ++ (vx_atS RX0 126 "java/lang/IndexOutOfBoundsException" ["java/lang/RuntimeException", "java/lang/Exception"]).filter goodWord)
def wsX0_isComplete_r1 : List Cond := [Cond.methodLink RX0 187 yX0_findMissing, Cond.instanceMethod yX0_findMissing, Cond.selects RX0 yX0_findMissing yX0_findMissing, Cond.initialized RX0, Cond.code yX0_findMissing cX0_findMissing 6 (some .int), Cond.fieldLink RX0 51 "ShopHub" "asked" "[Z", Cond.methodLink RX0 179 yX0_findValue, Cond.instanceMethod yX0_findValue, Cond.selects RX0 yX0_findValue yX0_findValue, Cond.code yX0_findValue cX0_findValue 6 (some .int), Cond.fieldLink RX0 33 "ShopHub" "draftValues" "[I", Cond.methodLink RX0 184 yX0_findOrigin, Cond.instanceMethod yX0_findOrigin, Cond.selects RX0 yX0_findOrigin yX0_findOrigin, Cond.code yX0_findOrigin cX0_findOrigin 8 (some .int), Cond.fieldLink RX0 13 "ShopHub" "parents" "[I", Cond.methodLink RX0 119 yX0_isGood, Cond.instanceMethod yX0_isGood, Cond.selects RX0 yX0_isGood yX0_isGood, Cond.code yX0_isGood cX0_isGood 2 (some .boolean), Cond.fieldLink RX0 9 "ShopHub" "exists" "[Z", Cond.methodLink RX0 205 yX0_findOwnOrigin, Cond.instanceMethod yX0_findOwnOrigin, Cond.selects RX0 yX0_findOwnOrigin yX0_findOwnOrigin]
def wsX0_isComplete_r2 : List Cond := [Cond.code yX0_findOwnOrigin cX0_findOwnOrigin 6 (some .int), Cond.fieldLink RX0 48 "ShopHub" "holders" "[I", Cond.methodLink RX0 151 yX0_placeOf, Cond.static yX0_placeOf, Cond.code yX0_placeOf cX0_placeOf 6 (some .int), Cond.methodLink RX0 167 yX0_isEntered, Cond.instanceMethod yX0_isEntered, Cond.selects RX0 yX0_isEntered yX0_isEntered, Cond.code yX0_isEntered cX0_isEntered 2 (some .boolean), Cond.fieldLink RX0 42 "ShopHub" "draftCount" "I"]
def wsX0_isComplete : List Cond := .code yX0_isComplete cX0_isComplete 4 (some .boolean) :: ((wsX0_isComplete_r1 ++ wsX0_isComplete_r2) ++ wsX00)
def wsX0_complete_r1 : List Cond := [Cond.fieldLink RX0 9 "ShopHub" "exists" "[Z", Cond.methodLink RX0 138 yX0_checkShop, Cond.static yX0_checkShop, Cond.initialized RX0, Cond.code yX0_checkShop cX0_checkShop 1 none, Cond.classLink RX0 122 "java/lang/IndexOutOfBoundsException", Cond.initialized "java/lang/IndexOutOfBoundsException", Cond.methodLink RX0 191 yX0_isComplete, Cond.instanceMethod yX0_isComplete, Cond.selects RX0 yX0_isComplete yX0_isComplete, Cond.code yX0_isComplete cX0_isComplete 4 (some .boolean), Cond.methodLink RX0 187 yX0_findMissing, Cond.instanceMethod yX0_findMissing, Cond.selects RX0 yX0_findMissing yX0_findMissing, Cond.code yX0_findMissing cX0_findMissing 6 (some .int), Cond.fieldLink RX0 51 "ShopHub" "asked" "[Z", Cond.methodLink RX0 179 yX0_findValue, Cond.instanceMethod yX0_findValue, Cond.selects RX0 yX0_findValue yX0_findValue, Cond.code yX0_findValue cX0_findValue 6 (some .int), Cond.fieldLink RX0 33 "ShopHub" "draftValues" "[I", Cond.methodLink RX0 184 yX0_findOrigin, Cond.instanceMethod yX0_findOrigin, Cond.selects RX0 yX0_findOrigin yX0_findOrigin]
def wsX0_complete_r2 : List Cond := [Cond.code yX0_findOrigin cX0_findOrigin 8 (some .int), Cond.fieldLink RX0 13 "ShopHub" "parents" "[I", Cond.methodLink RX0 119 yX0_isGood, Cond.instanceMethod yX0_isGood, Cond.selects RX0 yX0_isGood yX0_isGood, Cond.code yX0_isGood cX0_isGood 2 (some .boolean), Cond.methodLink RX0 205 yX0_findOwnOrigin, Cond.instanceMethod yX0_findOwnOrigin, Cond.selects RX0 yX0_findOwnOrigin yX0_findOwnOrigin, Cond.code yX0_findOwnOrigin cX0_findOwnOrigin 6 (some .int), Cond.fieldLink RX0 48 "ShopHub" "holders" "[I", Cond.methodLink RX0 151 yX0_placeOf, Cond.static yX0_placeOf, Cond.code yX0_placeOf cX0_placeOf 6 (some .int), Cond.methodLink RX0 167 yX0_isEntered, Cond.instanceMethod yX0_isEntered, Cond.selects RX0 yX0_isEntered yX0_isEntered, Cond.code yX0_isEntered cX0_isEntered 2 (some .boolean), Cond.fieldLink RX0 42 "ShopHub" "draftCount" "I"]
def wsX0_complete : List Cond := .code yX0_complete cX0_complete 4 (some .int) :: ((wsX0_complete_r1 ++ wsX0_complete_r2) ++ wsX00 ++ (vx_atS RX0 126 "java/lang/IndexOutOfBoundsException" ["java/lang/RuntimeException", "java/lang/Exception"]).filter goodWord)
def wsX0_sumUpParts : List Cond := .code yX0_sumUpParts cX0_sumUpParts 7 (some .int) :: ([.fieldLink RX0 20 "ShopHub" "quantities" "[I", .fieldLink RX0 57 "ShopHub" "prices" "[I", .fieldLink RX0 17 "ShopHub" "discounts" "[I", .constantLong RX0 211 (100), .constantLong RX0 213 (1000000000)] ++ wsX00)
def wsX0_findPrice_r1 : List Cond := [Cond.fieldLink RX0 57 "ShopHub" "prices" "[I", Cond.methodLink RX0 179 yX0_findValue, Cond.instanceMethod yX0_findValue, Cond.selects RX0 yX0_findValue yX0_findValue, Cond.initialized RX0, Cond.code yX0_findValue cX0_findValue 6 (some .int), Cond.fieldLink RX0 33 "ShopHub" "draftValues" "[I", Cond.methodLink RX0 184 yX0_findOrigin, Cond.instanceMethod yX0_findOrigin, Cond.selects RX0 yX0_findOrigin yX0_findOrigin, Cond.code yX0_findOrigin cX0_findOrigin 8 (some .int), Cond.fieldLink RX0 13 "ShopHub" "parents" "[I", Cond.methodLink RX0 119 yX0_isGood, Cond.instanceMethod yX0_isGood, Cond.selects RX0 yX0_isGood yX0_isGood, Cond.code yX0_isGood cX0_isGood 2 (some .boolean), Cond.fieldLink RX0 9 "ShopHub" "exists" "[Z", Cond.methodLink RX0 205 yX0_findOwnOrigin, Cond.instanceMethod yX0_findOwnOrigin, Cond.selects RX0 yX0_findOwnOrigin yX0_findOwnOrigin, Cond.code yX0_findOwnOrigin cX0_findOwnOrigin 6 (some .int), Cond.fieldLink RX0 48 "ShopHub" "holders" "[I", Cond.methodLink RX0 151 yX0_placeOf, Cond.static yX0_placeOf]
def wsX0_findPrice_r2 : List Cond := [Cond.code yX0_placeOf cX0_placeOf 6 (some .int), Cond.methodLink RX0 167 yX0_isEntered, Cond.instanceMethod yX0_isEntered, Cond.selects RX0 yX0_isEntered yX0_isEntered, Cond.code yX0_isEntered cX0_isEntered 2 (some .boolean), Cond.fieldLink RX0 42 "ShopHub" "draftCount" "I", Cond.methodLink RX0 208 yX0_sumUpParts, Cond.instanceMethod yX0_sumUpParts, Cond.selects RX0 yX0_sumUpParts yX0_sumUpParts, Cond.code yX0_sumUpParts cX0_sumUpParts 7 (some .int), Cond.fieldLink RX0 20 "ShopHub" "quantities" "[I", Cond.fieldLink RX0 17 "ShopHub" "discounts" "[I", Cond.constantLong RX0 211 (100), Cond.constantLong RX0 213 (1000000000)]
def wsX0_findPrice : List Cond := .code yX0_findPrice cX0_findPrice 5 (some .int) :: ((wsX0_findPrice_r1 ++ wsX0_findPrice_r2) ++ wsX00)
def wsX0_price_r1 : List Cond := [Cond.classLink RX0 68 "java/lang/IllegalStateException", Cond.initialized "java/lang/IllegalStateException", Cond.methodLink RX0 77 yX0_checkGood, Cond.instanceMethod yX0_checkGood, Cond.selects RX0 yX0_checkGood yX0_checkGood, Cond.initialized RX0, Cond.code yX0_checkGood cX0_checkGood 2 none, Cond.classLink RX0 122 "java/lang/IndexOutOfBoundsException", Cond.initialized "java/lang/IndexOutOfBoundsException", Cond.methodLink RX0 119 yX0_isGood, Cond.instanceMethod yX0_isGood, Cond.selects RX0 yX0_isGood yX0_isGood, Cond.code yX0_isGood cX0_isGood 2 (some .boolean), Cond.fieldLink RX0 9 "ShopHub" "exists" "[Z", Cond.methodLink RX0 138 yX0_checkShop, Cond.static yX0_checkShop, Cond.code yX0_checkShop cX0_checkShop 1 none, Cond.methodLink RX0 194 yX0_findPrice, Cond.instanceMethod yX0_findPrice, Cond.selects RX0 yX0_findPrice yX0_findPrice, Cond.code yX0_findPrice cX0_findPrice 5 (some .int), Cond.fieldLink RX0 57 "ShopHub" "prices" "[I", Cond.methodLink RX0 179 yX0_findValue, Cond.instanceMethod yX0_findValue]
def wsX0_price_r2 : List Cond := [Cond.selects RX0 yX0_findValue yX0_findValue, Cond.code yX0_findValue cX0_findValue 6 (some .int), Cond.fieldLink RX0 33 "ShopHub" "draftValues" "[I", Cond.methodLink RX0 184 yX0_findOrigin, Cond.instanceMethod yX0_findOrigin, Cond.selects RX0 yX0_findOrigin yX0_findOrigin, Cond.code yX0_findOrigin cX0_findOrigin 8 (some .int), Cond.fieldLink RX0 13 "ShopHub" "parents" "[I", Cond.methodLink RX0 205 yX0_findOwnOrigin, Cond.instanceMethod yX0_findOwnOrigin, Cond.selects RX0 yX0_findOwnOrigin yX0_findOwnOrigin, Cond.code yX0_findOwnOrigin cX0_findOwnOrigin 6 (some .int), Cond.fieldLink RX0 48 "ShopHub" "holders" "[I", Cond.methodLink RX0 151 yX0_placeOf, Cond.static yX0_placeOf, Cond.code yX0_placeOf cX0_placeOf 6 (some .int), Cond.methodLink RX0 167 yX0_isEntered, Cond.instanceMethod yX0_isEntered, Cond.selects RX0 yX0_isEntered yX0_isEntered, Cond.code yX0_isEntered cX0_isEntered 2 (some .boolean), Cond.fieldLink RX0 42 "ShopHub" "draftCount" "I", Cond.methodLink RX0 208 yX0_sumUpParts, Cond.instanceMethod yX0_sumUpParts, Cond.selects RX0 yX0_sumUpParts yX0_sumUpParts]
def wsX0_price_r3 : List Cond := [Cond.code yX0_sumUpParts cX0_sumUpParts 7 (some .int), Cond.fieldLink RX0 20 "ShopHub" "quantities" "[I", Cond.fieldLink RX0 17 "ShopHub" "discounts" "[I", Cond.constantLong RX0 211 (100), Cond.constantLong RX0 213 (1000000000)]
def wsX0_price : List Cond := .code yX0_price cX0_price 4 (some .int) :: ((wsX0_price_r1 ++ (wsX0_price_r2 ++ wsX0_price_r3)) ++ wsX00 ++ (vx_atS RX0 72 "java/lang/IllegalStateException" ["java/lang/RuntimeException", "java/lang/Exception"]).filter goodWord ++ (vx_atS RX0 126 "java/lang/IndexOutOfBoundsException" ["java/lang/RuntimeException", "java/lang/Exception"]).filter goodWord)
def wsX0_looksChanged_r1 : List Cond := [Cond.fieldLink RX0 54 "ShopHub" "seen" "[I", Cond.methodLink RX0 179 yX0_findValue, Cond.instanceMethod yX0_findValue, Cond.selects RX0 yX0_findValue yX0_findValue, Cond.initialized RX0, Cond.code yX0_findValue cX0_findValue 6 (some .int), Cond.fieldLink RX0 33 "ShopHub" "draftValues" "[I", Cond.methodLink RX0 184 yX0_findOrigin, Cond.instanceMethod yX0_findOrigin, Cond.selects RX0 yX0_findOrigin yX0_findOrigin, Cond.code yX0_findOrigin cX0_findOrigin 8 (some .int), Cond.fieldLink RX0 13 "ShopHub" "parents" "[I", Cond.methodLink RX0 119 yX0_isGood, Cond.instanceMethod yX0_isGood, Cond.selects RX0 yX0_isGood yX0_isGood, Cond.code yX0_isGood cX0_isGood 2 (some .boolean), Cond.fieldLink RX0 9 "ShopHub" "exists" "[Z", Cond.methodLink RX0 205 yX0_findOwnOrigin, Cond.instanceMethod yX0_findOwnOrigin, Cond.selects RX0 yX0_findOwnOrigin yX0_findOwnOrigin, Cond.code yX0_findOwnOrigin cX0_findOwnOrigin 6 (some .int), Cond.fieldLink RX0 48 "ShopHub" "holders" "[I", Cond.methodLink RX0 151 yX0_placeOf, Cond.static yX0_placeOf]
def wsX0_looksChanged_r2 : List Cond := [Cond.code yX0_placeOf cX0_placeOf 6 (some .int), Cond.methodLink RX0 167 yX0_isEntered, Cond.instanceMethod yX0_isEntered, Cond.selects RX0 yX0_isEntered yX0_isEntered, Cond.code yX0_isEntered cX0_isEntered 2 (some .boolean), Cond.fieldLink RX0 42 "ShopHub" "draftCount" "I"]
def wsX0_looksChanged : List Cond := .code yX0_looksChanged cX0_looksChanged 5 (some .boolean) :: ((wsX0_looksChanged_r1 ++ wsX0_looksChanged_r2) ++ wsX00)
def wsX0_findChanged_r1 : List Cond := [Cond.methodLink RX0 227 yX0_looksChanged, Cond.instanceMethod yX0_looksChanged, Cond.selects RX0 yX0_looksChanged yX0_looksChanged, Cond.initialized RX0, Cond.code yX0_looksChanged cX0_looksChanged 5 (some .boolean), Cond.fieldLink RX0 54 "ShopHub" "seen" "[I", Cond.methodLink RX0 179 yX0_findValue, Cond.instanceMethod yX0_findValue, Cond.selects RX0 yX0_findValue yX0_findValue, Cond.code yX0_findValue cX0_findValue 6 (some .int), Cond.fieldLink RX0 33 "ShopHub" "draftValues" "[I", Cond.methodLink RX0 184 yX0_findOrigin, Cond.instanceMethod yX0_findOrigin, Cond.selects RX0 yX0_findOrigin yX0_findOrigin, Cond.code yX0_findOrigin cX0_findOrigin 8 (some .int), Cond.fieldLink RX0 13 "ShopHub" "parents" "[I", Cond.methodLink RX0 119 yX0_isGood, Cond.instanceMethod yX0_isGood, Cond.selects RX0 yX0_isGood yX0_isGood, Cond.code yX0_isGood cX0_isGood 2 (some .boolean), Cond.fieldLink RX0 9 "ShopHub" "exists" "[Z", Cond.methodLink RX0 205 yX0_findOwnOrigin, Cond.instanceMethod yX0_findOwnOrigin, Cond.selects RX0 yX0_findOwnOrigin yX0_findOwnOrigin]
def wsX0_findChanged_r2 : List Cond := [Cond.code yX0_findOwnOrigin cX0_findOwnOrigin 6 (some .int), Cond.fieldLink RX0 48 "ShopHub" "holders" "[I", Cond.methodLink RX0 151 yX0_placeOf, Cond.static yX0_placeOf, Cond.code yX0_placeOf cX0_placeOf 6 (some .int), Cond.methodLink RX0 167 yX0_isEntered, Cond.instanceMethod yX0_isEntered, Cond.selects RX0 yX0_isEntered yX0_isEntered, Cond.code yX0_isEntered cX0_isEntered 2 (some .boolean), Cond.fieldLink RX0 42 "ShopHub" "draftCount" "I"]
def wsX0_findChanged : List Cond := .code yX0_findChanged cX0_findChanged 4 (some .int) :: ((wsX0_findChanged_r1 ++ wsX0_findChanged_r2) ++ wsX00)
def wsX0_changed_r1 : List Cond := [Cond.methodLink RX0 138 yX0_checkShop, Cond.static yX0_checkShop, Cond.initialized RX0, Cond.code yX0_checkShop cX0_checkShop 1 none, Cond.classLink RX0 122 "java/lang/IndexOutOfBoundsException", Cond.initialized "java/lang/IndexOutOfBoundsException", Cond.methodLink RX0 215 yX0_findChanged, Cond.instanceMethod yX0_findChanged, Cond.selects RX0 yX0_findChanged yX0_findChanged, Cond.code yX0_findChanged cX0_findChanged 4 (some .int), Cond.methodLink RX0 227 yX0_looksChanged, Cond.instanceMethod yX0_looksChanged, Cond.selects RX0 yX0_looksChanged yX0_looksChanged, Cond.code yX0_looksChanged cX0_looksChanged 5 (some .boolean), Cond.fieldLink RX0 54 "ShopHub" "seen" "[I", Cond.methodLink RX0 179 yX0_findValue, Cond.instanceMethod yX0_findValue, Cond.selects RX0 yX0_findValue yX0_findValue, Cond.code yX0_findValue cX0_findValue 6 (some .int), Cond.fieldLink RX0 33 "ShopHub" "draftValues" "[I", Cond.methodLink RX0 184 yX0_findOrigin, Cond.instanceMethod yX0_findOrigin, Cond.selects RX0 yX0_findOrigin yX0_findOrigin, Cond.code yX0_findOrigin cX0_findOrigin 8 (some .int)]
def wsX0_changed_r2 : List Cond := [Cond.fieldLink RX0 13 "ShopHub" "parents" "[I", Cond.methodLink RX0 119 yX0_isGood, Cond.instanceMethod yX0_isGood, Cond.selects RX0 yX0_isGood yX0_isGood, Cond.code yX0_isGood cX0_isGood 2 (some .boolean), Cond.fieldLink RX0 9 "ShopHub" "exists" "[Z", Cond.methodLink RX0 205 yX0_findOwnOrigin, Cond.instanceMethod yX0_findOwnOrigin, Cond.selects RX0 yX0_findOwnOrigin yX0_findOwnOrigin, Cond.code yX0_findOwnOrigin cX0_findOwnOrigin 6 (some .int), Cond.fieldLink RX0 48 "ShopHub" "holders" "[I", Cond.methodLink RX0 151 yX0_placeOf, Cond.static yX0_placeOf, Cond.code yX0_placeOf cX0_placeOf 6 (some .int), Cond.methodLink RX0 167 yX0_isEntered, Cond.instanceMethod yX0_isEntered, Cond.selects RX0 yX0_isEntered yX0_isEntered, Cond.code yX0_isEntered cX0_isEntered 2 (some .boolean), Cond.fieldLink RX0 42 "ShopHub" "draftCount" "I"]
def wsX0_changed : List Cond := .code yX0_changed cX0_changed 2 (some .int) :: ((wsX0_changed_r1 ++ wsX0_changed_r2) ++ wsX00 ++ (vx_atS RX0 126 "java/lang/IndexOutOfBoundsException" ["java/lang/RuntimeException", "java/lang/Exception"]).filter goodWord)
def wsX0_rememberSights_r1 : List Cond := [Cond.fieldLink RX0 54 "ShopHub" "seen" "[I", Cond.methodLink RX0 179 yX0_findValue, Cond.instanceMethod yX0_findValue, Cond.selects RX0 yX0_findValue yX0_findValue, Cond.initialized RX0, Cond.code yX0_findValue cX0_findValue 6 (some .int), Cond.fieldLink RX0 33 "ShopHub" "draftValues" "[I", Cond.methodLink RX0 184 yX0_findOrigin, Cond.instanceMethod yX0_findOrigin, Cond.selects RX0 yX0_findOrigin yX0_findOrigin, Cond.code yX0_findOrigin cX0_findOrigin 8 (some .int), Cond.fieldLink RX0 13 "ShopHub" "parents" "[I", Cond.methodLink RX0 119 yX0_isGood, Cond.instanceMethod yX0_isGood, Cond.selects RX0 yX0_isGood yX0_isGood, Cond.code yX0_isGood cX0_isGood 2 (some .boolean), Cond.fieldLink RX0 9 "ShopHub" "exists" "[Z", Cond.methodLink RX0 205 yX0_findOwnOrigin, Cond.instanceMethod yX0_findOwnOrigin, Cond.selects RX0 yX0_findOwnOrigin yX0_findOwnOrigin, Cond.code yX0_findOwnOrigin cX0_findOwnOrigin 6 (some .int), Cond.fieldLink RX0 48 "ShopHub" "holders" "[I", Cond.methodLink RX0 151 yX0_placeOf, Cond.static yX0_placeOf]
def wsX0_rememberSights_r2 : List Cond := [Cond.code yX0_placeOf cX0_placeOf 6 (some .int), Cond.methodLink RX0 167 yX0_isEntered, Cond.instanceMethod yX0_isEntered, Cond.selects RX0 yX0_isEntered yX0_isEntered, Cond.code yX0_isEntered cX0_isEntered 2 (some .boolean), Cond.fieldLink RX0 42 "ShopHub" "draftCount" "I"]
def wsX0_rememberSights : List Cond := .code yX0_rememberSights cX0_rememberSights 5 none :: ((wsX0_rememberSights_r1 ++ wsX0_rememberSights_r2) ++ wsX00)
def wsJ6_bitCount_0f7a4 : List Cond := .code yJ6_bitCount_0f7a4 cJ6_bitCount_0f7a4 1 (some .int) :: ([.constant RJ6 265 (1431655765), .constant RJ6 266 (858993459), .constant RJ6 267 (252645135)])
def wsX0_feed_r1 : List Cond := [Cond.methodLink RX0 138 yX0_checkShop, Cond.static yX0_checkShop, Cond.initialized RX0, Cond.code yX0_checkShop cX0_checkShop 1 none, Cond.classLink RX0 122 "java/lang/IndexOutOfBoundsException", Cond.initialized "java/lang/IndexOutOfBoundsException", Cond.methodLink RX0 215 yX0_findChanged, Cond.instanceMethod yX0_findChanged, Cond.selects RX0 yX0_findChanged yX0_findChanged, Cond.code yX0_findChanged cX0_findChanged 4 (some .int), Cond.methodLink RX0 227 yX0_looksChanged, Cond.instanceMethod yX0_looksChanged, Cond.selects RX0 yX0_looksChanged yX0_looksChanged, Cond.code yX0_looksChanged cX0_looksChanged 5 (some .boolean), Cond.fieldLink RX0 54 "ShopHub" "seen" "[I", Cond.methodLink RX0 179 yX0_findValue, Cond.instanceMethod yX0_findValue, Cond.selects RX0 yX0_findValue yX0_findValue, Cond.code yX0_findValue cX0_findValue 6 (some .int), Cond.fieldLink RX0 33 "ShopHub" "draftValues" "[I", Cond.methodLink RX0 184 yX0_findOrigin, Cond.instanceMethod yX0_findOrigin, Cond.selects RX0 yX0_findOrigin yX0_findOrigin, Cond.code yX0_findOrigin cX0_findOrigin 8 (some .int)]
def wsX0_feed_r2 : List Cond := [Cond.fieldLink RX0 13 "ShopHub" "parents" "[I", Cond.methodLink RX0 119 yX0_isGood, Cond.instanceMethod yX0_isGood, Cond.selects RX0 yX0_isGood yX0_isGood, Cond.code yX0_isGood cX0_isGood 2 (some .boolean), Cond.fieldLink RX0 9 "ShopHub" "exists" "[Z", Cond.methodLink RX0 205 yX0_findOwnOrigin, Cond.instanceMethod yX0_findOwnOrigin, Cond.selects RX0 yX0_findOwnOrigin yX0_findOwnOrigin, Cond.code yX0_findOwnOrigin cX0_findOwnOrigin 6 (some .int), Cond.fieldLink RX0 48 "ShopHub" "holders" "[I", Cond.methodLink RX0 151 yX0_placeOf, Cond.static yX0_placeOf, Cond.code yX0_placeOf cX0_placeOf 6 (some .int), Cond.methodLink RX0 167 yX0_isEntered, Cond.instanceMethod yX0_isEntered, Cond.selects RX0 yX0_isEntered yX0_isEntered, Cond.code yX0_isEntered cX0_isEntered 2 (some .boolean), Cond.fieldLink RX0 42 "ShopHub" "draftCount" "I", Cond.methodLink RX0 218 yX0_rememberSights, Cond.instanceMethod yX0_rememberSights, Cond.selects RX0 yX0_rememberSights yX0_rememberSights, Cond.code yX0_rememberSights cX0_rememberSights 5 none, Cond.methodLink RX0 222 yJ6_bitCount_0f7a4]
def wsX0_feed_r3 : List Cond := [Cond.static yJ6_bitCount_0f7a4, Cond.initialized RJ6, Cond.code yJ6_bitCount_0f7a4 cJ6_bitCount_0f7a4 1 (some .int), Cond.constant RJ6 265 (1431655765), Cond.constant RJ6 266 (858993459), Cond.constant RJ6 267 (252645135)]
def wsX0_feed : List Cond := .code yX0_feed cX0_feed 4 (some .int) :: ((wsX0_feed_r1 ++ (wsX0_feed_r2 ++ wsX0_feed_r3)) ++ wsX00 ++ (vx_atS RX0 126 "java/lang/IndexOutOfBoundsException" ["java/lang/RuntimeException", "java/lang/Exception"]).filter goodWord)
def wsX1_init : List Cond := .code yX1_init cX1_init 2 none :: ([.methodLink RX1 1 objectInit, .instanceMethod objectInit, .code objectInit ⟨#[0xb1]⟩ 1 none, .arrayClass .boolean, .fieldLink RX1 7 "ShopHubModel" "isThere" "[Z", .arrayClass .int, .fieldLink RX1 13 "ShopHubModel" "parent" "[I", .fieldLink RX1 17 "ShopHubModel" "discount" "[I", .fieldLink RX1 20 "ShopHubModel" "quantity" "[I", .fieldLink RX1 23 "ShopHubModel" "good" "[I", .fieldLink RX1 26 "ShopHubModel" "attribute" "[I", .fieldLink RX1 29 "ShopHubModel" "shop" "[I", .fieldLink RX1 32 "ShopHubModel" "tongue" "[I", .fieldLink RX1 35 "ShopHubModel" "value" "[I", .fieldLink RX1 38 "ShopHubModel" "day" "[I", .fieldLink RX1 41 "ShopHubModel" "state" "[I", .fieldLink RX1 44 "ShopHubModel" "isAsked" "[Z", .fieldLink RX1 47 "ShopHubModel" "seen" "[I", .arrayClass .long, .fieldLink RX1 50 "ShopHubModel" "price" "[J"] ++ wsX10)
def wsX1_thrown : List Cond := .code yX1_thrown cX1_thrown 1 (some .int) :: ([.fieldLink RX1 54 "ShopHubModel" "thrown" "I"] ++ wsX10)
def wsX1_fails : List Cond := .code yX1_fails cX1_fails 2 (some .boolean) :: ([.fieldLink RX1 54 "ShopHubModel" "thrown" "I"] ++ wsX10)
def wsX1_isIn : List Cond := .code yX1_isIn cX1_isIn 3 (some .boolean) :: ([])
def wsX1_isGood : List Cond := .code yX1_isGood cX1_isGood 2 (some .boolean) :: ([.fieldLink RX1 58 "ShopHubModel" "goods" "I", .fieldLink RX1 7 "ShopHubModel" "isThere" "[Z", .methodLink RX1 61 yX1_isIn, .static yX1_isIn, .initialized RX1, .code yX1_isIn cX1_isIn 3 (some .boolean)] ++ wsX10)
def wsX1_isShop : List Cond := .code yX1_isShop cX1_isShop 1 (some .boolean) :: ([.methodLink RX1 61 yX1_isIn, .static yX1_isIn, .initialized RX1, .code yX1_isIn cX1_isIn 3 (some .boolean)])
def wsX1_level : List Cond := .code yX1_level cX1_level 4 (some .int) :: ([.fieldLink RX1 13 "ShopHubModel" "parent" "[I"] ++ wsX10)
def wsX1_isBelow : List Cond := .code yX1_isBelow cX1_isBelow 4 (some .boolean) :: ([.fieldLink RX1 13 "ShopHubModel" "parent" "[I"] ++ wsX10)
def wsX1_addGood : List Cond := .code yX1_addGood cX1_addGood 3 (some .int) :: ([.fieldLink RX1 58 "ShopHubModel" "goods" "I", .fieldLink RX1 13 "ShopHubModel" "parent" "[I", .fieldLink RX1 7 "ShopHubModel" "isThere" "[Z", .methodLink RX1 65 yX1_isGood, .instanceMethod yX1_isGood, .selects RX1 yX1_isGood yX1_isGood, .initialized RX1, .code yX1_isGood cX1_isGood 2 (some .boolean), .methodLink RX1 61 yX1_isIn, .static yX1_isIn, .code yX1_isIn cX1_isIn 3 (some .boolean), .methodLink RX1 69 yX1_level, .instanceMethod yX1_level, .selects RX1 yX1_level yX1_level, .code yX1_level cX1_level 4 (some .int), .methodLink RX1 73 yX1_fails, .instanceMethod yX1_fails, .selects RX1 yX1_fails yX1_fails, .code yX1_fails cX1_fails 2 (some .boolean), .fieldLink RX1 54 "ShopHubModel" "thrown" "I"] ++ wsX10)
def wsX1_move : List Cond := .code yX1_move cX1_move 7 (some .int) :: ([.fieldLink RX1 58 "ShopHubModel" "goods" "I", .fieldLink RX1 7 "ShopHubModel" "isThere" "[Z", .fieldLink RX1 13 "ShopHubModel" "parent" "[I", .methodLink RX1 65 yX1_isGood, .instanceMethod yX1_isGood, .selects RX1 yX1_isGood yX1_isGood, .initialized RX1, .code yX1_isGood cX1_isGood 2 (some .boolean), .methodLink RX1 61 yX1_isIn, .static yX1_isIn, .code yX1_isIn cX1_isIn 3 (some .boolean), .methodLink RX1 76 yX1_isBelow, .instanceMethod yX1_isBelow, .selects RX1 yX1_isBelow yX1_isBelow, .code yX1_isBelow cX1_isBelow 4 (some .boolean), .methodLink RX1 69 yX1_level, .instanceMethod yX1_level, .selects RX1 yX1_level yX1_level, .code yX1_level cX1_level 4 (some .int), .methodLink RX1 73 yX1_fails, .instanceMethod yX1_fails, .selects RX1 yX1_fails yX1_fails, .code yX1_fails cX1_fails 2 (some .boolean), .fieldLink RX1 54 "ShopHubModel" "thrown" "I"] ++ wsX10)
def wsX1_delete : List Cond := .code yX1_delete cX1_delete 5 none :: ([.fieldLink RX1 58 "ShopHubModel" "goods" "I", .fieldLink RX1 7 "ShopHubModel" "isThere" "[Z", .fieldLink RX1 13 "ShopHubModel" "parent" "[I", .fieldLink RX1 20 "ShopHubModel" "quantity" "[I", .methodLink RX1 65 yX1_isGood, .instanceMethod yX1_isGood, .selects RX1 yX1_isGood yX1_isGood, .initialized RX1, .code yX1_isGood cX1_isGood 2 (some .boolean), .methodLink RX1 61 yX1_isIn, .static yX1_isIn, .code yX1_isIn cX1_isIn 3 (some .boolean), .methodLink RX1 73 yX1_fails, .instanceMethod yX1_fails, .selects RX1 yX1_fails yX1_fails, .code yX1_fails cX1_fails 2 (some .boolean), .fieldLink RX1 54 "ShopHubModel" "thrown" "I"] ++ wsX10)
def wsX1_addPart : List Cond := .code yX1_addPart cX1_addPart 6 (some .int) :: ([.fieldLink RX1 20 "ShopHubModel" "quantity" "[I", .methodLink RX1 65 yX1_isGood, .instanceMethod yX1_isGood, .selects RX1 yX1_isGood yX1_isGood, .initialized RX1, .code yX1_isGood cX1_isGood 2 (some .boolean), .fieldLink RX1 58 "ShopHubModel" "goods" "I", .fieldLink RX1 7 "ShopHubModel" "isThere" "[Z", .methodLink RX1 61 yX1_isIn, .static yX1_isIn, .code yX1_isIn cX1_isIn 3 (some .boolean), .methodLink RX1 73 yX1_fails, .instanceMethod yX1_fails, .selects RX1 yX1_fails yX1_fails, .code yX1_fails cX1_fails 2 (some .boolean), .fieldLink RX1 54 "ShopHubModel" "thrown" "I"] ++ wsX10)
def wsX1_setDiscount : List Cond := .code yX1_setDiscount cX1_setDiscount 4 (some .int) :: ([.fieldLink RX1 17 "ShopHubModel" "discount" "[I", .methodLink RX1 65 yX1_isGood, .instanceMethod yX1_isGood, .selects RX1 yX1_isGood yX1_isGood, .initialized RX1, .code yX1_isGood cX1_isGood 2 (some .boolean), .fieldLink RX1 58 "ShopHubModel" "goods" "I", .fieldLink RX1 7 "ShopHubModel" "isThere" "[Z", .methodLink RX1 61 yX1_isIn, .static yX1_isIn, .code yX1_isIn cX1_isIn 3 (some .boolean), .methodLink RX1 73 yX1_fails, .instanceMethod yX1_fails, .selects RX1 yX1_fails yX1_fails, .code yX1_fails cX1_fails 2 (some .boolean), .fieldLink RX1 54 "ShopHubModel" "thrown" "I"] ++ wsX10)
def wsX1_draft : List Cond := .code yX1_draft cX1_draft 9 (some .int) :: ([.constant RX1 80 (100000), .fieldLink RX1 81 "ShopHubModel" "drafts" "I", .fieldLink RX1 23 "ShopHubModel" "good" "[I", .fieldLink RX1 26 "ShopHubModel" "attribute" "[I", .fieldLink RX1 29 "ShopHubModel" "shop" "[I", .fieldLink RX1 32 "ShopHubModel" "tongue" "[I", .fieldLink RX1 35 "ShopHubModel" "value" "[I", .fieldLink RX1 38 "ShopHubModel" "day" "[I", .methodLink RX1 65 yX1_isGood, .instanceMethod yX1_isGood, .selects RX1 yX1_isGood yX1_isGood, .initialized RX1, .code yX1_isGood cX1_isGood 2 (some .boolean), .fieldLink RX1 58 "ShopHubModel" "goods" "I", .fieldLink RX1 7 "ShopHubModel" "isThere" "[Z", .methodLink RX1 61 yX1_isIn, .static yX1_isIn, .code yX1_isIn cX1_isIn 3 (some .boolean), .methodLink RX1 73 yX1_fails, .instanceMethod yX1_fails, .selects RX1 yX1_fails yX1_fails, .code yX1_fails cX1_fails 2 (some .boolean), .fieldLink RX1 54 "ShopHubModel" "thrown" "I"] ++ wsX10)
def wsX1_holds : List Cond := .code yX1_holds cX1_holds 8 (some .int) :: ([.fieldLink RX1 81 "ShopHubModel" "drafts" "I", .fieldLink RX1 23 "ShopHubModel" "good" "[I", .fieldLink RX1 26 "ShopHubModel" "attribute" "[I", .fieldLink RX1 29 "ShopHubModel" "shop" "[I", .fieldLink RX1 32 "ShopHubModel" "tongue" "[I", .fieldLink RX1 41 "ShopHubModel" "state" "[I", .fieldLink RX1 38 "ShopHubModel" "day" "[I", .fieldLink RX1 84 "ShopHubModel" "today" "I"] ++ wsX10)
def wsX1_isHolding : List Cond := .code yX1_isHolding cX1_isHolding 2 (some .boolean) :: ([.fieldLink RX1 23 "ShopHubModel" "good" "[I", .fieldLink RX1 26 "ShopHubModel" "attribute" "[I", .fieldLink RX1 29 "ShopHubModel" "shop" "[I", .fieldLink RX1 32 "ShopHubModel" "tongue" "[I", .methodLink RX1 87 yX1_holds, .instanceMethod yX1_holds, .selects RX1 yX1_holds yX1_holds, .initialized RX1, .code yX1_holds cX1_holds 8 (some .int), .fieldLink RX1 81 "ShopHubModel" "drafts" "I", .fieldLink RX1 41 "ShopHubModel" "state" "[I", .fieldLink RX1 38 "ShopHubModel" "day" "[I", .fieldLink RX1 84 "ShopHubModel" "today" "I"] ++ wsX10)
def wsX1_isDraft : List Cond := .code yX1_isDraft cX1_isDraft 2 (some .boolean) :: ([.fieldLink RX1 81 "ShopHubModel" "drafts" "I", .fieldLink RX1 7 "ShopHubModel" "isThere" "[Z", .fieldLink RX1 23 "ShopHubModel" "good" "[I", .methodLink RX1 61 yX1_isIn, .static yX1_isIn, .initialized RX1, .code yX1_isIn cX1_isIn 3 (some .boolean)] ++ wsX10)
def wsX1_approve_r1 : List Cond := [Cond.fieldLink RX1 41 "ShopHubModel" "state" "[I", Cond.methodLink RX1 91 yX1_isDraft, Cond.instanceMethod yX1_isDraft, Cond.selects RX1 yX1_isDraft yX1_isDraft, Cond.initialized RX1, Cond.code yX1_isDraft cX1_isDraft 2 (some .boolean), Cond.fieldLink RX1 81 "ShopHubModel" "drafts" "I", Cond.fieldLink RX1 7 "ShopHubModel" "isThere" "[Z", Cond.fieldLink RX1 23 "ShopHubModel" "good" "[I", Cond.methodLink RX1 61 yX1_isIn, Cond.static yX1_isIn, Cond.code yX1_isIn cX1_isIn 3 (some .boolean), Cond.methodLink RX1 73 yX1_fails, Cond.instanceMethod yX1_fails, Cond.selects RX1 yX1_fails yX1_fails, Cond.code yX1_fails cX1_fails 2 (some .boolean), Cond.fieldLink RX1 54 "ShopHubModel" "thrown" "I", Cond.methodLink RX1 94 yX1_isHolding, Cond.instanceMethod yX1_isHolding, Cond.selects RX1 yX1_isHolding yX1_isHolding, Cond.code yX1_isHolding cX1_isHolding 2 (some .boolean), Cond.fieldLink RX1 26 "ShopHubModel" "attribute" "[I", Cond.fieldLink RX1 29 "ShopHubModel" "shop" "[I", Cond.fieldLink RX1 32 "ShopHubModel" "tongue" "[I"]
def wsX1_approve_r2 : List Cond := [Cond.methodLink RX1 87 yX1_holds, Cond.instanceMethod yX1_holds, Cond.selects RX1 yX1_holds yX1_holds, Cond.code yX1_holds cX1_holds 8 (some .int), Cond.fieldLink RX1 38 "ShopHubModel" "day" "[I", Cond.fieldLink RX1 84 "ShopHubModel" "today" "I"]
def wsX1_approve : List Cond := .code yX1_approve cX1_approve 3 (some .boolean) :: ((wsX1_approve_r1 ++ wsX1_approve_r2) ++ wsX10)
def wsX1_reject_r1 : List Cond := [Cond.fieldLink RX1 41 "ShopHubModel" "state" "[I", Cond.methodLink RX1 91 yX1_isDraft, Cond.instanceMethod yX1_isDraft, Cond.selects RX1 yX1_isDraft yX1_isDraft, Cond.initialized RX1, Cond.code yX1_isDraft cX1_isDraft 2 (some .boolean), Cond.fieldLink RX1 81 "ShopHubModel" "drafts" "I", Cond.fieldLink RX1 7 "ShopHubModel" "isThere" "[Z", Cond.fieldLink RX1 23 "ShopHubModel" "good" "[I", Cond.methodLink RX1 61 yX1_isIn, Cond.static yX1_isIn, Cond.code yX1_isIn cX1_isIn 3 (some .boolean), Cond.methodLink RX1 73 yX1_fails, Cond.instanceMethod yX1_fails, Cond.selects RX1 yX1_fails yX1_fails, Cond.code yX1_fails cX1_fails 2 (some .boolean), Cond.fieldLink RX1 54 "ShopHubModel" "thrown" "I", Cond.methodLink RX1 94 yX1_isHolding, Cond.instanceMethod yX1_isHolding, Cond.selects RX1 yX1_isHolding yX1_isHolding, Cond.code yX1_isHolding cX1_isHolding 2 (some .boolean), Cond.fieldLink RX1 26 "ShopHubModel" "attribute" "[I", Cond.fieldLink RX1 29 "ShopHubModel" "shop" "[I", Cond.fieldLink RX1 32 "ShopHubModel" "tongue" "[I"]
def wsX1_reject_r2 : List Cond := [Cond.methodLink RX1 87 yX1_holds, Cond.instanceMethod yX1_holds, Cond.selects RX1 yX1_holds yX1_holds, Cond.code yX1_holds cX1_holds 8 (some .int), Cond.fieldLink RX1 38 "ShopHubModel" "day" "[I", Cond.fieldLink RX1 84 "ShopHubModel" "today" "I"]
def wsX1_reject : List Cond := .code yX1_reject cX1_reject 4 (some .boolean) :: ((wsX1_reject_r1 ++ wsX1_reject_r2) ++ wsX10)
def wsX1_pass : List Cond := .code yX1_pass cX1_pass 2 (some .int) :: ([.fieldLink RX1 84 "ShopHubModel" "today" "I", .methodLink RX1 61 yX1_isIn, .static yX1_isIn, .initialized RX1, .code yX1_isIn cX1_isIn 3 (some .boolean), .methodLink RX1 73 yX1_fails, .instanceMethod yX1_fails, .selects RX1 yX1_fails yX1_fails, .code yX1_fails cX1_fails 2 (some .boolean), .fieldLink RX1 54 "ShopHubModel" "thrown" "I"] ++ wsX10)
def wsX1_originOf : List Cond := .code yX1_originOf cX1_originOf 8 (some .int) :: ([.fieldLink RX1 13 "ShopHubModel" "parent" "[I", .methodLink RX1 87 yX1_holds, .instanceMethod yX1_holds, .selects RX1 yX1_holds yX1_holds, .initialized RX1, .code yX1_holds cX1_holds 8 (some .int), .fieldLink RX1 81 "ShopHubModel" "drafts" "I", .fieldLink RX1 23 "ShopHubModel" "good" "[I", .fieldLink RX1 26 "ShopHubModel" "attribute" "[I", .fieldLink RX1 29 "ShopHubModel" "shop" "[I", .fieldLink RX1 32 "ShopHubModel" "tongue" "[I", .fieldLink RX1 41 "ShopHubModel" "state" "[I", .fieldLink RX1 38 "ShopHubModel" "day" "[I", .fieldLink RX1 84 "ShopHubModel" "today" "I"] ++ wsX10)
def wsX1_valueOf : List Cond := .code yX1_valueOf cX1_valueOf 6 (some .int) :: ([.fieldLink RX1 35 "ShopHubModel" "value" "[I", .methodLink RX1 97 yX1_originOf, .instanceMethod yX1_originOf, .selects RX1 yX1_originOf yX1_originOf, .initialized RX1, .code yX1_originOf cX1_originOf 8 (some .int), .fieldLink RX1 13 "ShopHubModel" "parent" "[I", .methodLink RX1 87 yX1_holds, .instanceMethod yX1_holds, .selects RX1 yX1_holds yX1_holds, .code yX1_holds cX1_holds 8 (some .int), .fieldLink RX1 81 "ShopHubModel" "drafts" "I", .fieldLink RX1 23 "ShopHubModel" "good" "[I", .fieldLink RX1 26 "ShopHubModel" "attribute" "[I", .fieldLink RX1 29 "ShopHubModel" "shop" "[I", .fieldLink RX1 32 "ShopHubModel" "tongue" "[I", .fieldLink RX1 41 "ShopHubModel" "state" "[I", .fieldLink RX1 38 "ShopHubModel" "day" "[I", .fieldLink RX1 84 "ShopHubModel" "today" "I"] ++ wsX10)
def wsX1_isPlace : List Cond := .code yX1_isPlace cX1_isPlace 5 (some .boolean) :: ([.methodLink RX1 65 yX1_isGood, .instanceMethod yX1_isGood, .selects RX1 yX1_isGood yX1_isGood, .initialized RX1, .code yX1_isGood cX1_isGood 2 (some .boolean), .fieldLink RX1 58 "ShopHubModel" "goods" "I", .fieldLink RX1 7 "ShopHubModel" "isThere" "[Z", .methodLink RX1 61 yX1_isIn, .static yX1_isIn, .code yX1_isIn cX1_isIn 3 (some .boolean), .methodLink RX1 100 yX1_isShop, .static yX1_isShop, .code yX1_isShop cX1_isShop 1 (some .boolean)] ++ wsX10)
def wsX1_value_r1 : List Cond := [Cond.methodLink RX1 103 yX1_isPlace, Cond.instanceMethod yX1_isPlace, Cond.selects RX1 yX1_isPlace yX1_isPlace, Cond.initialized RX1, Cond.code yX1_isPlace cX1_isPlace 5 (some .boolean), Cond.methodLink RX1 65 yX1_isGood, Cond.instanceMethod yX1_isGood, Cond.selects RX1 yX1_isGood yX1_isGood, Cond.code yX1_isGood cX1_isGood 2 (some .boolean), Cond.fieldLink RX1 58 "ShopHubModel" "goods" "I", Cond.fieldLink RX1 7 "ShopHubModel" "isThere" "[Z", Cond.methodLink RX1 61 yX1_isIn, Cond.static yX1_isIn, Cond.code yX1_isIn cX1_isIn 3 (some .boolean), Cond.methodLink RX1 100 yX1_isShop, Cond.static yX1_isShop, Cond.code yX1_isShop cX1_isShop 1 (some .boolean), Cond.methodLink RX1 107 yX1_valueOf, Cond.instanceMethod yX1_valueOf, Cond.selects RX1 yX1_valueOf yX1_valueOf, Cond.code yX1_valueOf cX1_valueOf 6 (some .int), Cond.fieldLink RX1 35 "ShopHubModel" "value" "[I", Cond.methodLink RX1 97 yX1_originOf, Cond.instanceMethod yX1_originOf]
def wsX1_value_r2 : List Cond := [Cond.selects RX1 yX1_originOf yX1_originOf, Cond.code yX1_originOf cX1_originOf 8 (some .int), Cond.fieldLink RX1 13 "ShopHubModel" "parent" "[I", Cond.methodLink RX1 87 yX1_holds, Cond.instanceMethod yX1_holds, Cond.selects RX1 yX1_holds yX1_holds, Cond.code yX1_holds cX1_holds 8 (some .int), Cond.fieldLink RX1 81 "ShopHubModel" "drafts" "I", Cond.fieldLink RX1 23 "ShopHubModel" "good" "[I", Cond.fieldLink RX1 26 "ShopHubModel" "attribute" "[I", Cond.fieldLink RX1 29 "ShopHubModel" "shop" "[I", Cond.fieldLink RX1 32 "ShopHubModel" "tongue" "[I", Cond.fieldLink RX1 41 "ShopHubModel" "state" "[I", Cond.fieldLink RX1 38 "ShopHubModel" "day" "[I", Cond.fieldLink RX1 84 "ShopHubModel" "today" "I", Cond.methodLink RX1 73 yX1_fails, Cond.instanceMethod yX1_fails, Cond.selects RX1 yX1_fails yX1_fails, Cond.code yX1_fails cX1_fails 2 (some .boolean), Cond.fieldLink RX1 54 "ShopHubModel" "thrown" "I"]
def wsX1_value : List Cond := .code yX1_value cX1_value 6 (some .int) :: ((wsX1_value_r1 ++ wsX1_value_r2) ++ wsX10)
def wsX1_origin_r1 : List Cond := [Cond.methodLink RX1 103 yX1_isPlace, Cond.instanceMethod yX1_isPlace, Cond.selects RX1 yX1_isPlace yX1_isPlace, Cond.initialized RX1, Cond.code yX1_isPlace cX1_isPlace 5 (some .boolean), Cond.methodLink RX1 65 yX1_isGood, Cond.instanceMethod yX1_isGood, Cond.selects RX1 yX1_isGood yX1_isGood, Cond.code yX1_isGood cX1_isGood 2 (some .boolean), Cond.fieldLink RX1 58 "ShopHubModel" "goods" "I", Cond.fieldLink RX1 7 "ShopHubModel" "isThere" "[Z", Cond.methodLink RX1 61 yX1_isIn, Cond.static yX1_isIn, Cond.code yX1_isIn cX1_isIn 3 (some .boolean), Cond.methodLink RX1 100 yX1_isShop, Cond.static yX1_isShop, Cond.code yX1_isShop cX1_isShop 1 (some .boolean), Cond.methodLink RX1 73 yX1_fails, Cond.instanceMethod yX1_fails, Cond.selects RX1 yX1_fails yX1_fails, Cond.code yX1_fails cX1_fails 2 (some .boolean), Cond.fieldLink RX1 54 "ShopHubModel" "thrown" "I", Cond.methodLink RX1 97 yX1_originOf, Cond.instanceMethod yX1_originOf]
def wsX1_origin_r2 : List Cond := [Cond.selects RX1 yX1_originOf yX1_originOf, Cond.code yX1_originOf cX1_originOf 8 (some .int), Cond.fieldLink RX1 13 "ShopHubModel" "parent" "[I", Cond.methodLink RX1 87 yX1_holds, Cond.instanceMethod yX1_holds, Cond.selects RX1 yX1_holds yX1_holds, Cond.code yX1_holds cX1_holds 8 (some .int), Cond.fieldLink RX1 81 "ShopHubModel" "drafts" "I", Cond.fieldLink RX1 23 "ShopHubModel" "good" "[I", Cond.fieldLink RX1 26 "ShopHubModel" "attribute" "[I", Cond.fieldLink RX1 29 "ShopHubModel" "shop" "[I", Cond.fieldLink RX1 32 "ShopHubModel" "tongue" "[I", Cond.fieldLink RX1 41 "ShopHubModel" "state" "[I", Cond.fieldLink RX1 38 "ShopHubModel" "day" "[I", Cond.fieldLink RX1 84 "ShopHubModel" "today" "I"]
def wsX1_origin : List Cond := .code yX1_origin cX1_origin 5 (some .int) :: ((wsX1_origin_r1 ++ wsX1_origin_r2) ++ wsX10)
def wsX1_told_r1 : List Cond := [Cond.fieldLink RX1 81 "ShopHubModel" "drafts" "I", Cond.fieldLink RX1 23 "ShopHubModel" "good" "[I", Cond.methodLink RX1 65 yX1_isGood, Cond.instanceMethod yX1_isGood, Cond.selects RX1 yX1_isGood yX1_isGood, Cond.initialized RX1, Cond.code yX1_isGood cX1_isGood 2 (some .boolean), Cond.fieldLink RX1 58 "ShopHubModel" "goods" "I", Cond.fieldLink RX1 7 "ShopHubModel" "isThere" "[Z", Cond.methodLink RX1 61 yX1_isIn, Cond.static yX1_isIn, Cond.code yX1_isIn cX1_isIn 3 (some .boolean), Cond.methodLink RX1 73 yX1_fails, Cond.instanceMethod yX1_fails, Cond.selects RX1 yX1_fails yX1_fails, Cond.code yX1_fails cX1_fails 2 (some .boolean), Cond.fieldLink RX1 54 "ShopHubModel" "thrown" "I", Cond.methodLink RX1 94 yX1_isHolding, Cond.instanceMethod yX1_isHolding, Cond.selects RX1 yX1_isHolding yX1_isHolding, Cond.code yX1_isHolding cX1_isHolding 2 (some .boolean), Cond.fieldLink RX1 26 "ShopHubModel" "attribute" "[I", Cond.fieldLink RX1 29 "ShopHubModel" "shop" "[I", Cond.fieldLink RX1 32 "ShopHubModel" "tongue" "[I"]
def wsX1_told_r2 : List Cond := [Cond.methodLink RX1 87 yX1_holds, Cond.instanceMethod yX1_holds, Cond.selects RX1 yX1_holds yX1_holds, Cond.code yX1_holds cX1_holds 8 (some .int), Cond.fieldLink RX1 41 "ShopHubModel" "state" "[I", Cond.fieldLink RX1 38 "ShopHubModel" "day" "[I", Cond.fieldLink RX1 84 "ShopHubModel" "today" "I"]
def wsX1_told : List Cond := .code yX1_told cX1_told 4 (some .int) :: ((wsX1_told_r1 ++ wsX1_told_r2) ++ wsX10)
def wsX1_toggleAsked : List Cond := .code yX1_toggleAsked cX1_toggleAsked 4 (some .boolean) :: ([.fieldLink RX1 44 "ShopHubModel" "isAsked" "[Z", .methodLink RX1 100 yX1_isShop, .static yX1_isShop, .initialized RX1, .code yX1_isShop cX1_isShop 1 (some .boolean), .methodLink RX1 61 yX1_isIn, .static yX1_isIn, .code yX1_isIn cX1_isIn 3 (some .boolean), .methodLink RX1 73 yX1_fails, .instanceMethod yX1_fails, .selects RX1 yX1_fails yX1_fails, .code yX1_fails cX1_fails 2 (some .boolean), .fieldLink RX1 54 "ShopHubModel" "thrown" "I"] ++ wsX10)
def wsX1_lacks : List Cond := .code yX1_lacks cX1_lacks 6 (some .int) :: ([.fieldLink RX1 44 "ShopHubModel" "isAsked" "[Z", .methodLink RX1 107 yX1_valueOf, .instanceMethod yX1_valueOf, .selects RX1 yX1_valueOf yX1_valueOf, .initialized RX1, .code yX1_valueOf cX1_valueOf 6 (some .int), .fieldLink RX1 35 "ShopHubModel" "value" "[I", .methodLink RX1 97 yX1_originOf, .instanceMethod yX1_originOf, .selects RX1 yX1_originOf yX1_originOf, .code yX1_originOf cX1_originOf 8 (some .int), .fieldLink RX1 13 "ShopHubModel" "parent" "[I", .methodLink RX1 87 yX1_holds, .instanceMethod yX1_holds, .selects RX1 yX1_holds yX1_holds, .code yX1_holds cX1_holds 8 (some .int), .fieldLink RX1 81 "ShopHubModel" "drafts" "I", .fieldLink RX1 23 "ShopHubModel" "good" "[I", .fieldLink RX1 26 "ShopHubModel" "attribute" "[I", .fieldLink RX1 29 "ShopHubModel" "shop" "[I", .fieldLink RX1 32 "ShopHubModel" "tongue" "[I", .fieldLink RX1 41 "ShopHubModel" "state" "[I", .fieldLink RX1 38 "ShopHubModel" "day" "[I", .fieldLink RX1 84 "ShopHubModel" "today" "I"] ++ wsX10)
def wsX1_missing_r1 : List Cond := [Cond.methodLink RX1 103 yX1_isPlace, Cond.instanceMethod yX1_isPlace, Cond.selects RX1 yX1_isPlace yX1_isPlace, Cond.initialized RX1, Cond.code yX1_isPlace cX1_isPlace 5 (some .boolean), Cond.methodLink RX1 65 yX1_isGood, Cond.instanceMethod yX1_isGood, Cond.selects RX1 yX1_isGood yX1_isGood, Cond.code yX1_isGood cX1_isGood 2 (some .boolean), Cond.fieldLink RX1 58 "ShopHubModel" "goods" "I", Cond.fieldLink RX1 7 "ShopHubModel" "isThere" "[Z", Cond.methodLink RX1 61 yX1_isIn, Cond.static yX1_isIn, Cond.code yX1_isIn cX1_isIn 3 (some .boolean), Cond.methodLink RX1 100 yX1_isShop, Cond.static yX1_isShop, Cond.code yX1_isShop cX1_isShop 1 (some .boolean), Cond.methodLink RX1 73 yX1_fails, Cond.instanceMethod yX1_fails, Cond.selects RX1 yX1_fails yX1_fails, Cond.code yX1_fails cX1_fails 2 (some .boolean), Cond.fieldLink RX1 54 "ShopHubModel" "thrown" "I", Cond.methodLink RX1 110 yX1_lacks, Cond.instanceMethod yX1_lacks]
def wsX1_missing_r2 : List Cond := [Cond.selects RX1 yX1_lacks yX1_lacks, Cond.code yX1_lacks cX1_lacks 6 (some .int), Cond.fieldLink RX1 44 "ShopHubModel" "isAsked" "[Z", Cond.methodLink RX1 107 yX1_valueOf, Cond.instanceMethod yX1_valueOf, Cond.selects RX1 yX1_valueOf yX1_valueOf, Cond.code yX1_valueOf cX1_valueOf 6 (some .int), Cond.fieldLink RX1 35 "ShopHubModel" "value" "[I", Cond.methodLink RX1 97 yX1_originOf, Cond.instanceMethod yX1_originOf, Cond.selects RX1 yX1_originOf yX1_originOf, Cond.code yX1_originOf cX1_originOf 8 (some .int), Cond.fieldLink RX1 13 "ShopHubModel" "parent" "[I", Cond.methodLink RX1 87 yX1_holds, Cond.instanceMethod yX1_holds, Cond.selects RX1 yX1_holds yX1_holds, Cond.code yX1_holds cX1_holds 8 (some .int), Cond.fieldLink RX1 81 "ShopHubModel" "drafts" "I", Cond.fieldLink RX1 23 "ShopHubModel" "good" "[I", Cond.fieldLink RX1 26 "ShopHubModel" "attribute" "[I", Cond.fieldLink RX1 29 "ShopHubModel" "shop" "[I", Cond.fieldLink RX1 32 "ShopHubModel" "tongue" "[I", Cond.fieldLink RX1 41 "ShopHubModel" "state" "[I", Cond.fieldLink RX1 38 "ShopHubModel" "day" "[I"]
def wsX1_missing_r3 : List Cond := [Cond.fieldLink RX1 84 "ShopHubModel" "today" "I"]
def wsX1_missing : List Cond := .code yX1_missing cX1_missing 4 (some .int) :: ((wsX1_missing_r1 ++ (wsX1_missing_r2 ++ wsX1_missing_r3)) ++ wsX10)
def wsX1_complete_r1 : List Cond := [Cond.fieldLink RX1 58 "ShopHubModel" "goods" "I", Cond.fieldLink RX1 7 "ShopHubModel" "isThere" "[Z", Cond.methodLink RX1 100 yX1_isShop, Cond.static yX1_isShop, Cond.initialized RX1, Cond.code yX1_isShop cX1_isShop 1 (some .boolean), Cond.methodLink RX1 61 yX1_isIn, Cond.static yX1_isIn, Cond.code yX1_isIn cX1_isIn 3 (some .boolean), Cond.methodLink RX1 73 yX1_fails, Cond.instanceMethod yX1_fails, Cond.selects RX1 yX1_fails yX1_fails, Cond.code yX1_fails cX1_fails 2 (some .boolean), Cond.fieldLink RX1 54 "ShopHubModel" "thrown" "I", Cond.methodLink RX1 110 yX1_lacks, Cond.instanceMethod yX1_lacks, Cond.selects RX1 yX1_lacks yX1_lacks, Cond.code yX1_lacks cX1_lacks 6 (some .int), Cond.fieldLink RX1 44 "ShopHubModel" "isAsked" "[Z", Cond.methodLink RX1 107 yX1_valueOf, Cond.instanceMethod yX1_valueOf, Cond.selects RX1 yX1_valueOf yX1_valueOf, Cond.code yX1_valueOf cX1_valueOf 6 (some .int), Cond.fieldLink RX1 35 "ShopHubModel" "value" "[I"]
def wsX1_complete_r2 : List Cond := [Cond.methodLink RX1 97 yX1_originOf, Cond.instanceMethod yX1_originOf, Cond.selects RX1 yX1_originOf yX1_originOf, Cond.code yX1_originOf cX1_originOf 8 (some .int), Cond.fieldLink RX1 13 "ShopHubModel" "parent" "[I", Cond.methodLink RX1 87 yX1_holds, Cond.instanceMethod yX1_holds, Cond.selects RX1 yX1_holds yX1_holds, Cond.code yX1_holds cX1_holds 8 (some .int), Cond.fieldLink RX1 81 "ShopHubModel" "drafts" "I", Cond.fieldLink RX1 23 "ShopHubModel" "good" "[I", Cond.fieldLink RX1 26 "ShopHubModel" "attribute" "[I", Cond.fieldLink RX1 29 "ShopHubModel" "shop" "[I", Cond.fieldLink RX1 32 "ShopHubModel" "tongue" "[I", Cond.fieldLink RX1 41 "ShopHubModel" "state" "[I", Cond.fieldLink RX1 38 "ShopHubModel" "day" "[I", Cond.fieldLink RX1 84 "ShopHubModel" "today" "I"]
def wsX1_complete : List Cond := .code yX1_complete cX1_complete 6 (some .int) :: ((wsX1_complete_r1 ++ wsX1_complete_r2) ++ wsX10)
def wsX1_bundle : List Cond := .code yX1_bundle cX1_bundle 8 (some .long) :: ([.fieldLink RX1 20 "ShopHubModel" "quantity" "[I", .fieldLink RX1 50 "ShopHubModel" "price" "[J", .constantLong RX1 114 (-1), .fieldLink RX1 17 "ShopHubModel" "discount" "[I", .constantLong RX1 116 (100), .constantLong RX1 118 (1000000000)] ++ wsX10)
def wsX1_price_r1 : List Cond := [Cond.fieldLink RX1 7 "ShopHubModel" "isThere" "[Z", Cond.fieldLink RX1 50 "ShopHubModel" "price" "[J", Cond.constantLong RX1 114 (-1), Cond.methodLink RX1 65 yX1_isGood, Cond.instanceMethod yX1_isGood, Cond.selects RX1 yX1_isGood yX1_isGood, Cond.initialized RX1, Cond.code yX1_isGood cX1_isGood 2 (some .boolean), Cond.fieldLink RX1 58 "ShopHubModel" "goods" "I", Cond.methodLink RX1 61 yX1_isIn, Cond.static yX1_isIn, Cond.code yX1_isIn cX1_isIn 3 (some .boolean), Cond.methodLink RX1 100 yX1_isShop, Cond.static yX1_isShop, Cond.code yX1_isShop cX1_isShop 1 (some .boolean), Cond.methodLink RX1 107 yX1_valueOf, Cond.instanceMethod yX1_valueOf, Cond.selects RX1 yX1_valueOf yX1_valueOf, Cond.code yX1_valueOf cX1_valueOf 6 (some .int), Cond.fieldLink RX1 35 "ShopHubModel" "value" "[I", Cond.methodLink RX1 97 yX1_originOf, Cond.instanceMethod yX1_originOf, Cond.selects RX1 yX1_originOf yX1_originOf, Cond.code yX1_originOf cX1_originOf 8 (some .int)]
def wsX1_price_r2 : List Cond := [Cond.fieldLink RX1 13 "ShopHubModel" "parent" "[I", Cond.methodLink RX1 87 yX1_holds, Cond.instanceMethod yX1_holds, Cond.selects RX1 yX1_holds yX1_holds, Cond.code yX1_holds cX1_holds 8 (some .int), Cond.fieldLink RX1 81 "ShopHubModel" "drafts" "I", Cond.fieldLink RX1 23 "ShopHubModel" "good" "[I", Cond.fieldLink RX1 26 "ShopHubModel" "attribute" "[I", Cond.fieldLink RX1 29 "ShopHubModel" "shop" "[I", Cond.fieldLink RX1 32 "ShopHubModel" "tongue" "[I", Cond.fieldLink RX1 41 "ShopHubModel" "state" "[I", Cond.fieldLink RX1 38 "ShopHubModel" "day" "[I", Cond.fieldLink RX1 84 "ShopHubModel" "today" "I", Cond.methodLink RX1 120 yX1_bundle, Cond.instanceMethod yX1_bundle, Cond.selects RX1 yX1_bundle yX1_bundle, Cond.code yX1_bundle cX1_bundle 8 (some .long), Cond.fieldLink RX1 20 "ShopHubModel" "quantity" "[I", Cond.fieldLink RX1 17 "ShopHubModel" "discount" "[I", Cond.constantLong RX1 116 (100), Cond.constantLong RX1 118 (1000000000), Cond.methodLink RX1 73 yX1_fails, Cond.instanceMethod yX1_fails, Cond.selects RX1 yX1_fails yX1_fails]
def wsX1_price_r3 : List Cond := [Cond.code yX1_fails cX1_fails 2 (some .boolean), Cond.fieldLink RX1 54 "ShopHubModel" "thrown" "I"]
def wsX1_price : List Cond := .code yX1_price cX1_price 6 (some .int) :: ((wsX1_price_r1 ++ (wsX1_price_r2 ++ wsX1_price_r3)) ++ wsX10)
def wsX1_place : List Cond := .code yX1_place cX1_place 4 (some .int) :: ([])
def wsX1_sees : List Cond := .code yX1_sees cX1_sees 5 (some .int) :: ([.fieldLink RX1 7 "ShopHubModel" "isThere" "[Z", .methodLink RX1 107 yX1_valueOf, .instanceMethod yX1_valueOf, .selects RX1 yX1_valueOf yX1_valueOf, .initialized RX1, .code yX1_valueOf cX1_valueOf 6 (some .int), .fieldLink RX1 35 "ShopHubModel" "value" "[I", .methodLink RX1 97 yX1_originOf, .instanceMethod yX1_originOf, .selects RX1 yX1_originOf yX1_originOf, .code yX1_originOf cX1_originOf 8 (some .int), .fieldLink RX1 13 "ShopHubModel" "parent" "[I", .methodLink RX1 87 yX1_holds, .instanceMethod yX1_holds, .selects RX1 yX1_holds yX1_holds, .code yX1_holds cX1_holds 8 (some .int), .fieldLink RX1 81 "ShopHubModel" "drafts" "I", .fieldLink RX1 23 "ShopHubModel" "good" "[I", .fieldLink RX1 26 "ShopHubModel" "attribute" "[I", .fieldLink RX1 29 "ShopHubModel" "shop" "[I", .fieldLink RX1 32 "ShopHubModel" "tongue" "[I", .fieldLink RX1 41 "ShopHubModel" "state" "[I", .fieldLink RX1 38 "ShopHubModel" "day" "[I", .fieldLink RX1 84 "ShopHubModel" "today" "I"] ++ wsX10)
def wsX1_differs_r1 : List Cond := [Cond.fieldLink RX1 58 "ShopHubModel" "goods" "I", Cond.fieldLink RX1 47 "ShopHubModel" "seen" "[I", Cond.methodLink RX1 124 yX1_place, Cond.static yX1_place, Cond.initialized RX1, Cond.code yX1_place cX1_place 4 (some .int), Cond.methodLink RX1 127 yX1_sees, Cond.instanceMethod yX1_sees, Cond.selects RX1 yX1_sees yX1_sees, Cond.code yX1_sees cX1_sees 5 (some .int), Cond.fieldLink RX1 7 "ShopHubModel" "isThere" "[Z", Cond.methodLink RX1 107 yX1_valueOf, Cond.instanceMethod yX1_valueOf, Cond.selects RX1 yX1_valueOf yX1_valueOf, Cond.code yX1_valueOf cX1_valueOf 6 (some .int), Cond.fieldLink RX1 35 "ShopHubModel" "value" "[I", Cond.methodLink RX1 97 yX1_originOf, Cond.instanceMethod yX1_originOf, Cond.selects RX1 yX1_originOf yX1_originOf, Cond.code yX1_originOf cX1_originOf 8 (some .int), Cond.fieldLink RX1 13 "ShopHubModel" "parent" "[I", Cond.methodLink RX1 87 yX1_holds, Cond.instanceMethod yX1_holds, Cond.selects RX1 yX1_holds yX1_holds]
def wsX1_differs_r2 : List Cond := [Cond.code yX1_holds cX1_holds 8 (some .int), Cond.fieldLink RX1 81 "ShopHubModel" "drafts" "I", Cond.fieldLink RX1 23 "ShopHubModel" "good" "[I", Cond.fieldLink RX1 26 "ShopHubModel" "attribute" "[I", Cond.fieldLink RX1 29 "ShopHubModel" "shop" "[I", Cond.fieldLink RX1 32 "ShopHubModel" "tongue" "[I", Cond.fieldLink RX1 41 "ShopHubModel" "state" "[I", Cond.fieldLink RX1 38 "ShopHubModel" "day" "[I", Cond.fieldLink RX1 84 "ShopHubModel" "today" "I"]
def wsX1_differs : List Cond := .code yX1_differs cX1_differs 6 (some .int) :: ((wsX1_differs_r1 ++ wsX1_differs_r2) ++ wsX10)
def wsX1_changed_r1 : List Cond := [Cond.methodLink RX1 100 yX1_isShop, Cond.static yX1_isShop, Cond.initialized RX1, Cond.code yX1_isShop cX1_isShop 1 (some .boolean), Cond.methodLink RX1 61 yX1_isIn, Cond.static yX1_isIn, Cond.code yX1_isIn cX1_isIn 3 (some .boolean), Cond.methodLink RX1 73 yX1_fails, Cond.instanceMethod yX1_fails, Cond.selects RX1 yX1_fails yX1_fails, Cond.code yX1_fails cX1_fails 2 (some .boolean), Cond.fieldLink RX1 54 "ShopHubModel" "thrown" "I", Cond.methodLink RX1 130 yX1_differs, Cond.instanceMethod yX1_differs, Cond.selects RX1 yX1_differs yX1_differs, Cond.code yX1_differs cX1_differs 6 (some .int), Cond.fieldLink RX1 58 "ShopHubModel" "goods" "I", Cond.fieldLink RX1 47 "ShopHubModel" "seen" "[I", Cond.methodLink RX1 124 yX1_place, Cond.static yX1_place, Cond.code yX1_place cX1_place 4 (some .int), Cond.methodLink RX1 127 yX1_sees, Cond.instanceMethod yX1_sees, Cond.selects RX1 yX1_sees yX1_sees]
def wsX1_changed_r2 : List Cond := [Cond.code yX1_sees cX1_sees 5 (some .int), Cond.fieldLink RX1 7 "ShopHubModel" "isThere" "[Z", Cond.methodLink RX1 107 yX1_valueOf, Cond.instanceMethod yX1_valueOf, Cond.selects RX1 yX1_valueOf yX1_valueOf, Cond.code yX1_valueOf cX1_valueOf 6 (some .int), Cond.fieldLink RX1 35 "ShopHubModel" "value" "[I", Cond.methodLink RX1 97 yX1_originOf, Cond.instanceMethod yX1_originOf, Cond.selects RX1 yX1_originOf yX1_originOf, Cond.code yX1_originOf cX1_originOf 8 (some .int), Cond.fieldLink RX1 13 "ShopHubModel" "parent" "[I", Cond.methodLink RX1 87 yX1_holds, Cond.instanceMethod yX1_holds, Cond.selects RX1 yX1_holds yX1_holds, Cond.code yX1_holds cX1_holds 8 (some .int), Cond.fieldLink RX1 81 "ShopHubModel" "drafts" "I", Cond.fieldLink RX1 23 "ShopHubModel" "good" "[I", Cond.fieldLink RX1 26 "ShopHubModel" "attribute" "[I", Cond.fieldLink RX1 29 "ShopHubModel" "shop" "[I", Cond.fieldLink RX1 32 "ShopHubModel" "tongue" "[I", Cond.fieldLink RX1 41 "ShopHubModel" "state" "[I", Cond.fieldLink RX1 38 "ShopHubModel" "day" "[I", Cond.fieldLink RX1 84 "ShopHubModel" "today" "I"]
def wsX1_changed : List Cond := .code yX1_changed cX1_changed 2 (some .int) :: ((wsX1_changed_r1 ++ wsX1_changed_r2) ++ wsX10)
def wsX1_feed_r1 : List Cond := [Cond.fieldLink RX1 58 "ShopHubModel" "goods" "I", Cond.fieldLink RX1 47 "ShopHubModel" "seen" "[I", Cond.methodLink RX1 100 yX1_isShop, Cond.static yX1_isShop, Cond.initialized RX1, Cond.code yX1_isShop cX1_isShop 1 (some .boolean), Cond.methodLink RX1 61 yX1_isIn, Cond.static yX1_isIn, Cond.code yX1_isIn cX1_isIn 3 (some .boolean), Cond.methodLink RX1 73 yX1_fails, Cond.instanceMethod yX1_fails, Cond.selects RX1 yX1_fails yX1_fails, Cond.code yX1_fails cX1_fails 2 (some .boolean), Cond.fieldLink RX1 54 "ShopHubModel" "thrown" "I", Cond.methodLink RX1 130 yX1_differs, Cond.instanceMethod yX1_differs, Cond.selects RX1 yX1_differs yX1_differs, Cond.code yX1_differs cX1_differs 6 (some .int), Cond.methodLink RX1 124 yX1_place, Cond.static yX1_place, Cond.code yX1_place cX1_place 4 (some .int), Cond.methodLink RX1 127 yX1_sees, Cond.instanceMethod yX1_sees, Cond.selects RX1 yX1_sees yX1_sees]
def wsX1_feed_r2 : List Cond := [Cond.code yX1_sees cX1_sees 5 (some .int), Cond.fieldLink RX1 7 "ShopHubModel" "isThere" "[Z", Cond.methodLink RX1 107 yX1_valueOf, Cond.instanceMethod yX1_valueOf, Cond.selects RX1 yX1_valueOf yX1_valueOf, Cond.code yX1_valueOf cX1_valueOf 6 (some .int), Cond.fieldLink RX1 35 "ShopHubModel" "value" "[I", Cond.methodLink RX1 97 yX1_originOf, Cond.instanceMethod yX1_originOf, Cond.selects RX1 yX1_originOf yX1_originOf, Cond.code yX1_originOf cX1_originOf 8 (some .int), Cond.fieldLink RX1 13 "ShopHubModel" "parent" "[I", Cond.methodLink RX1 87 yX1_holds, Cond.instanceMethod yX1_holds, Cond.selects RX1 yX1_holds yX1_holds, Cond.code yX1_holds cX1_holds 8 (some .int), Cond.fieldLink RX1 81 "ShopHubModel" "drafts" "I", Cond.fieldLink RX1 23 "ShopHubModel" "good" "[I", Cond.fieldLink RX1 26 "ShopHubModel" "attribute" "[I", Cond.fieldLink RX1 29 "ShopHubModel" "shop" "[I", Cond.fieldLink RX1 32 "ShopHubModel" "tongue" "[I", Cond.fieldLink RX1 41 "ShopHubModel" "state" "[I", Cond.fieldLink RX1 38 "ShopHubModel" "day" "[I", Cond.fieldLink RX1 84 "ShopHubModel" "today" "I"]
def wsX1_feed : List Cond := .code yX1_feed cX1_feed 6 (some .int) :: ((wsX1_feed_r1 ++ wsX1_feed_r2) ++ wsX10)
def wsJ9_max_7cf53 : List Cond := .code yJ9_max_7cf53 cJ9_max_7cf53 2 (some .int) :: ([])
def wsL_addGood_r1 : List Cond := [Cond.classLink RL 13 "java/lang/IndexOutOfBoundsException", Cond.classLink RL 15 "java/lang/IllegalStateException", Cond.methodLink RL 7 yX0_addGood, Cond.instanceMethod yX0_addGood, Cond.selects RX0 yX0_addGood yX0_addGood, Cond.initialized RX0, Cond.code yX0_addGood cX0_addGood 3 (some .int), Cond.classLink RX0 68 "java/lang/IllegalStateException", Cond.initialized "java/lang/IllegalStateException", Cond.fieldLink RX0 23 "ShopHub" "goodCount" "I", Cond.fieldLink RX0 9 "ShopHub" "exists" "[Z", Cond.fieldLink RX0 13 "ShopHub" "parents" "[I", Cond.methodLink RX0 60 yX0_checkParent, Cond.instanceMethod yX0_checkParent, Cond.selects RX0 yX0_checkParent yX0_checkParent, Cond.code yX0_checkParent cX0_checkParent 2 none, Cond.classLink RX0 122 "java/lang/IndexOutOfBoundsException", Cond.initialized "java/lang/IndexOutOfBoundsException", Cond.methodLink RX0 119 yX0_isGood, Cond.instanceMethod yX0_isGood, Cond.selects RX0 yX0_isGood yX0_isGood, Cond.code yX0_isGood cX0_isGood 2 (some .boolean), Cond.methodLink RX0 64 yX0_levelOf, Cond.instanceMethod yX0_levelOf]
def wsL_addGood_r2 : List Cond := [Cond.selects RX0 yX0_levelOf yX0_levelOf, Cond.code yX0_levelOf cX0_levelOf 5 (some .int)]
def wsL_addGood : List Cond := .codeWith yL_addGood cL_addGood 4 (some .int) [(0, 9, 12, 13), (0, 9, 15, 15)] :: ((wsL_addGood_r1 ++ wsL_addGood_r2) ++ wsX00 ++ (vx_atS RX0 72 "java/lang/IllegalStateException" ["java/lang/RuntimeException", "java/lang/Exception"]).filter goodWord ++ (vx_atS RX0 126 "java/lang/IndexOutOfBoundsException" ["java/lang/RuntimeException", "java/lang/Exception"]).filter goodWord)
def wsL_move_r1 : List Cond := [Cond.classLink RL 13 "java/lang/IndexOutOfBoundsException", Cond.classLink RL 15 "java/lang/IllegalStateException", Cond.methodLink RL 17 yX0_move, Cond.instanceMethod yX0_move, Cond.selects RX0 yX0_move yX0_move, Cond.initialized RX0, Cond.code yX0_move cX0_move 4 (some .int), Cond.classLink RX0 68 "java/lang/IllegalStateException", Cond.initialized "java/lang/IllegalStateException", Cond.fieldLink RX0 13 "ShopHub" "parents" "[I", Cond.methodLink RX0 77 yX0_checkGood, Cond.instanceMethod yX0_checkGood, Cond.selects RX0 yX0_checkGood yX0_checkGood, Cond.code yX0_checkGood cX0_checkGood 2 none, Cond.classLink RX0 122 "java/lang/IndexOutOfBoundsException", Cond.initialized "java/lang/IndexOutOfBoundsException", Cond.methodLink RX0 119 yX0_isGood, Cond.instanceMethod yX0_isGood, Cond.selects RX0 yX0_isGood yX0_isGood, Cond.code yX0_isGood cX0_isGood 2 (some .boolean), Cond.fieldLink RX0 9 "ShopHub" "exists" "[Z", Cond.methodLink RX0 60 yX0_checkParent, Cond.instanceMethod yX0_checkParent, Cond.selects RX0 yX0_checkParent yX0_checkParent]
def wsL_move_r2 : List Cond := [Cond.code yX0_checkParent cX0_checkParent 2 none, Cond.methodLink RX0 80 yX0_isWithin, Cond.instanceMethod yX0_isWithin, Cond.selects RX0 yX0_isWithin yX0_isWithin, Cond.code yX0_isWithin cX0_isWithin 5 (some .boolean), Cond.methodLink RX0 64 yX0_levelOf, Cond.instanceMethod yX0_levelOf, Cond.selects RX0 yX0_levelOf yX0_levelOf, Cond.code yX0_levelOf cX0_levelOf 5 (some .int), Cond.methodLink RX0 86 yX0_levelsWithin, Cond.instanceMethod yX0_levelsWithin, Cond.selects RX0 yX0_levelsWithin yX0_levelsWithin, Cond.code yX0_levelsWithin cX0_levelsWithin 4 (some .int), Cond.methodLink RX0 129 Lib.Math.max.name, Cond.static Lib.Math.max.name, Cond.initialized "java/lang/Math", Cond.code Lib.Math.max.name Lib.Math.max.code 2 (some .int)]
def wsL_move : List Cond := .codeWith yL_move cL_move 5 (some .int) [(0, 10, 13, 13), (0, 10, 17, 15)] :: ((wsL_move_r1 ++ wsL_move_r2) ++ wsX00 ++ (vx_atS RX0 72 "java/lang/IllegalStateException" ["java/lang/RuntimeException", "java/lang/Exception"]).filter goodWord ++ (vx_atS RX0 126 "java/lang/IndexOutOfBoundsException" ["java/lang/RuntimeException", "java/lang/Exception"]).filter goodWord)
def wsL_delete_r1 : List Cond := [Cond.classLink RL 13 "java/lang/IndexOutOfBoundsException", Cond.classLink RL 15 "java/lang/IllegalStateException", Cond.methodLink RL 21 yX0_delete, Cond.instanceMethod yX0_delete, Cond.selects RX0 yX0_delete yX0_delete, Cond.initialized RX0, Cond.code yX0_delete cX0_delete 3 none, Cond.classLink RX0 68 "java/lang/IllegalStateException", Cond.initialized "java/lang/IllegalStateException", Cond.fieldLink RX0 9 "ShopHub" "exists" "[Z", Cond.fieldLink RX0 13 "ShopHub" "parents" "[I", Cond.fieldLink RX0 20 "ShopHub" "quantities" "[I", Cond.methodLink RX0 77 yX0_checkGood, Cond.instanceMethod yX0_checkGood, Cond.selects RX0 yX0_checkGood yX0_checkGood, Cond.code yX0_checkGood cX0_checkGood 2 none, Cond.classLink RX0 122 "java/lang/IndexOutOfBoundsException", Cond.initialized "java/lang/IndexOutOfBoundsException", Cond.methodLink RX0 119 yX0_isGood, Cond.instanceMethod yX0_isGood, Cond.selects RX0 yX0_isGood yX0_isGood, Cond.code yX0_isGood cX0_isGood 2 (some .boolean), Cond.methodLink RX0 91 yX0_isParent, Cond.instanceMethod yX0_isParent]
def wsL_delete_r2 : List Cond := [Cond.selects RX0 yX0_isParent yX0_isParent, Cond.code yX0_isParent cX0_isParent 3 (some .boolean), Cond.methodLink RX0 97 yX0_isPart, Cond.instanceMethod yX0_isPart, Cond.selects RX0 yX0_isPart yX0_isPart, Cond.code yX0_isPart cX0_isPart 3 (some .boolean), Cond.methodLink RX0 102 yX0_deleteDraftsOf, Cond.instanceMethod yX0_deleteDraftsOf, Cond.selects RX0 yX0_deleteDraftsOf yX0_deleteDraftsOf, Cond.code yX0_deleteDraftsOf cX0_deleteDraftsOf 3 none, Cond.fieldLink RX0 42 "ShopHub" "draftCount" "I", Cond.fieldLink RX0 27 "ShopHub" "draftGoods" "[I", Cond.fieldLink RX0 39 "ShopHub" "draftStates" "[I", Cond.methodLink RX0 105 yX0_settleHolders, Cond.instanceMethod yX0_settleHolders, Cond.selects RX0 yX0_settleHolders yX0_settleHolders, Cond.code yX0_settleHolders cX0_settleHolders 2 none, Cond.fieldLink RX0 48 "ShopHub" "holders" "[I", Cond.fieldLink RX0 36 "ShopHub" "draftDays" "[I", Cond.fieldLink RX0 45 "ShopHub" "today" "I", Cond.methodLink RX0 172 yX0_putHolder, Cond.instanceMethod yX0_putHolder, Cond.selects RX0 yX0_putHolder yX0_putHolder, Cond.code yX0_putHolder cX0_putHolder 4 none]
def wsL_delete_r3 : List Cond := [Cond.fieldLink RX0 30 "ShopHub" "draftPlaces" "[I", Cond.methodLink RX0 167 yX0_isEntered, Cond.instanceMethod yX0_isEntered, Cond.selects RX0 yX0_isEntered yX0_isEntered, Cond.code yX0_isEntered cX0_isEntered 2 (some .boolean)]
def wsL_delete : List Cond := .codeWith yL_delete cL_delete 3 (some .int) [(0, 5, 8, 13), (0, 5, 11, 15)] :: ((wsL_delete_r1 ++ (wsL_delete_r2 ++ wsL_delete_r3)) ++ wsX00 ++ (vx_atS RX0 72 "java/lang/IllegalStateException" ["java/lang/RuntimeException", "java/lang/Exception"]).filter goodWord ++ (vx_atS RX0 126 "java/lang/IndexOutOfBoundsException" ["java/lang/RuntimeException", "java/lang/Exception"]).filter goodWord)
def wsL_addPart : List Cond := .codeWith yL_addPart cL_addPart 6 (some .int) [(0, 12, 15, 13), (0, 12, 19, 29), (0, 12, 23, 15)] :: ([.classLink RL 13 "java/lang/IndexOutOfBoundsException", .classLink RL 29 "java/lang/IllegalArgumentException", .classLink RL 15 "java/lang/IllegalStateException", .methodLink RL 25 yX0_addPart, .instanceMethod yX0_addPart, .selects RX0 yX0_addPart yX0_addPart, .initialized RX0, .code yX0_addPart cX0_addPart 6 (some .int), .classLink RX0 108 "java/lang/IllegalArgumentException", .initialized "java/lang/IllegalArgumentException", .classLink RX0 68 "java/lang/IllegalStateException", .initialized "java/lang/IllegalStateException", .fieldLink RX0 20 "ShopHub" "quantities" "[I", .methodLink RX0 77 yX0_checkGood, .instanceMethod yX0_checkGood, .selects RX0 yX0_checkGood yX0_checkGood, .code yX0_checkGood cX0_checkGood 2 none, .classLink RX0 122 "java/lang/IndexOutOfBoundsException", .initialized "java/lang/IndexOutOfBoundsException", .methodLink RX0 119 yX0_isGood, .instanceMethod yX0_isGood, .selects RX0 yX0_isGood yX0_isGood, .code yX0_isGood cX0_isGood 2 (some .boolean), .fieldLink RX0 9 "ShopHub" "exists" "[Z"] ++ wsX00 ++ (vx_atS RX0 112 "java/lang/IllegalArgumentException" ["java/lang/RuntimeException", "java/lang/Exception"]).filter goodWord ++ (vx_atS RX0 72 "java/lang/IllegalStateException" ["java/lang/RuntimeException", "java/lang/Exception"]).filter goodWord ++ (vx_atS RX0 126 "java/lang/IndexOutOfBoundsException" ["java/lang/RuntimeException", "java/lang/Exception"]).filter goodWord)
def wsL_setDiscount : List Cond := .codeWith yL_setDiscount cL_setDiscount 5 (some .int) [(0, 10, 13, 13), (0, 10, 17, 29)] :: ([.classLink RL 13 "java/lang/IndexOutOfBoundsException", .classLink RL 29 "java/lang/IllegalArgumentException", .methodLink RL 31 yX0_setDiscount, .instanceMethod yX0_setDiscount, .selects RX0 yX0_setDiscount yX0_setDiscount, .initialized RX0, .code yX0_setDiscount cX0_setDiscount 4 (some .int), .classLink RX0 108 "java/lang/IllegalArgumentException", .initialized "java/lang/IllegalArgumentException", .fieldLink RX0 17 "ShopHub" "discounts" "[I", .methodLink RX0 77 yX0_checkGood, .instanceMethod yX0_checkGood, .selects RX0 yX0_checkGood yX0_checkGood, .code yX0_checkGood cX0_checkGood 2 none, .classLink RX0 122 "java/lang/IndexOutOfBoundsException", .initialized "java/lang/IndexOutOfBoundsException", .methodLink RX0 119 yX0_isGood, .instanceMethod yX0_isGood, .selects RX0 yX0_isGood yX0_isGood, .code yX0_isGood cX0_isGood 2 (some .boolean), .fieldLink RX0 9 "ShopHub" "exists" "[Z"] ++ wsX00 ++ (vx_atS RX0 112 "java/lang/IllegalArgumentException" ["java/lang/RuntimeException", "java/lang/Exception"]).filter goodWord ++ (vx_atS RX0 126 "java/lang/IndexOutOfBoundsException" ["java/lang/RuntimeException", "java/lang/Exception"]).filter goodWord)
def wsL_draft_r1 : List Cond := [Cond.classLink RL 13 "java/lang/IndexOutOfBoundsException", Cond.classLink RL 29 "java/lang/IllegalArgumentException", Cond.classLink RL 15 "java/lang/IllegalStateException", Cond.methodLink RL 34 yX0_draft, Cond.instanceMethod yX0_draft, Cond.selects RX0 yX0_draft yX0_draft, Cond.initialized RX0, Cond.code yX0_draft cX0_draft 8 (some .int), Cond.classLink RX0 108 "java/lang/IllegalArgumentException", Cond.initialized "java/lang/IllegalArgumentException", Cond.classLink RX0 68 "java/lang/IllegalStateException", Cond.initialized "java/lang/IllegalStateException", Cond.constant RX0 144 (100000), Cond.fieldLink RX0 42 "ShopHub" "draftCount" "I", Cond.fieldLink RX0 27 "ShopHub" "draftGoods" "[I", Cond.fieldLink RX0 30 "ShopHub" "draftPlaces" "[I", Cond.fieldLink RX0 33 "ShopHub" "draftValues" "[I", Cond.fieldLink RX0 36 "ShopHub" "draftDays" "[I", Cond.fieldLink RX0 39 "ShopHub" "draftStates" "[I", Cond.methodLink RX0 77 yX0_checkGood, Cond.instanceMethod yX0_checkGood, Cond.selects RX0 yX0_checkGood yX0_checkGood, Cond.code yX0_checkGood cX0_checkGood 2 none, Cond.classLink RX0 122 "java/lang/IndexOutOfBoundsException"]
def wsL_draft_r2 : List Cond := [Cond.initialized "java/lang/IndexOutOfBoundsException", Cond.methodLink RX0 119 yX0_isGood, Cond.instanceMethod yX0_isGood, Cond.selects RX0 yX0_isGood yX0_isGood, Cond.code yX0_isGood cX0_isGood 2 (some .boolean), Cond.fieldLink RX0 9 "ShopHub" "exists" "[Z", Cond.methodLink RX0 135 yX0_checkAttribute, Cond.static yX0_checkAttribute, Cond.code yX0_checkAttribute cX0_checkAttribute 1 none, Cond.methodLink RX0 138 yX0_checkShop, Cond.static yX0_checkShop, Cond.code yX0_checkShop cX0_checkShop 1 none, Cond.methodLink RX0 141 yX0_checkTongue, Cond.static yX0_checkTongue, Cond.code yX0_checkTongue cX0_checkTongue 1 none, Cond.methodLink RX0 151 yX0_placeOf, Cond.static yX0_placeOf, Cond.code yX0_placeOf cX0_placeOf 6 (some .int)]
def wsL_draft : List Cond := .codeWith yL_draft cL_draft 9 (some .int) [(0, 18, 21, 13), (0, 18, 25, 29), (0, 18, 29, 15)] :: ((wsL_draft_r1 ++ wsL_draft_r2) ++ wsX00 ++ (vx_atS RX0 112 "java/lang/IllegalArgumentException" ["java/lang/RuntimeException", "java/lang/Exception"]).filter goodWord ++ (vx_atS RX0 72 "java/lang/IllegalStateException" ["java/lang/RuntimeException", "java/lang/Exception"]).filter goodWord ++ (vx_atS RX0 126 "java/lang/IndexOutOfBoundsException" ["java/lang/RuntimeException", "java/lang/Exception"]).filter goodWord)
def wsL_approve_r1 : List Cond := [Cond.classLink RL 13 "java/lang/IndexOutOfBoundsException", Cond.classLink RL 15 "java/lang/IllegalStateException", Cond.methodLink RL 38 yX0_approve, Cond.instanceMethod yX0_approve, Cond.selects RX0 yX0_approve yX0_approve, Cond.initialized RX0, Cond.code yX0_approve cX0_approve 2 (some .boolean), Cond.classLink RX0 68 "java/lang/IllegalStateException", Cond.initialized "java/lang/IllegalStateException", Cond.fieldLink RX0 39 "ShopHub" "draftStates" "[I", Cond.methodLink RX0 155 yX0_checkDraft, Cond.instanceMethod yX0_checkDraft, Cond.selects RX0 yX0_checkDraft yX0_checkDraft, Cond.code yX0_checkDraft cX0_checkDraft 2 none, Cond.classLink RX0 122 "java/lang/IndexOutOfBoundsException", Cond.initialized "java/lang/IndexOutOfBoundsException", Cond.methodLink RX0 167 yX0_isEntered, Cond.instanceMethod yX0_isEntered, Cond.selects RX0 yX0_isEntered yX0_isEntered, Cond.code yX0_isEntered cX0_isEntered 2 (some .boolean), Cond.fieldLink RX0 42 "ShopHub" "draftCount" "I", Cond.methodLink RX0 105 yX0_settleHolders, Cond.instanceMethod yX0_settleHolders, Cond.selects RX0 yX0_settleHolders yX0_settleHolders]
def wsL_approve_r2 : List Cond := [Cond.code yX0_settleHolders cX0_settleHolders 2 none, Cond.fieldLink RX0 48 "ShopHub" "holders" "[I", Cond.fieldLink RX0 36 "ShopHub" "draftDays" "[I", Cond.fieldLink RX0 45 "ShopHub" "today" "I", Cond.methodLink RX0 172 yX0_putHolder, Cond.instanceMethod yX0_putHolder, Cond.selects RX0 yX0_putHolder yX0_putHolder, Cond.code yX0_putHolder cX0_putHolder 4 none, Cond.fieldLink RX0 30 "ShopHub" "draftPlaces" "[I", Cond.methodLink RX0 160 yX0_holdsAtItsPlace, Cond.instanceMethod yX0_holdsAtItsPlace, Cond.selects RX0 yX0_holdsAtItsPlace yX0_holdsAtItsPlace, Cond.code yX0_holdsAtItsPlace cX0_holdsAtItsPlace 2 (some .boolean)]
def wsL_approve : List Cond := .codeWith yL_approve cL_approve 4 (some .int) [(0, 16, 19, 13), (0, 16, 22, 15)] :: ((wsL_approve_r1 ++ wsL_approve_r2) ++ wsX00 ++ (vx_atS RX0 72 "java/lang/IllegalStateException" ["java/lang/RuntimeException", "java/lang/Exception"]).filter goodWord ++ (vx_atS RX0 126 "java/lang/IndexOutOfBoundsException" ["java/lang/RuntimeException", "java/lang/Exception"]).filter goodWord)
def wsL_reject_r1 : List Cond := [Cond.classLink RL 13 "java/lang/IndexOutOfBoundsException", Cond.classLink RL 15 "java/lang/IllegalStateException", Cond.methodLink RL 42 yX0_reject, Cond.instanceMethod yX0_reject, Cond.selects RX0 yX0_reject yX0_reject, Cond.initialized RX0, Cond.code yX0_reject cX0_reject 3 (some .boolean), Cond.classLink RX0 68 "java/lang/IllegalStateException", Cond.initialized "java/lang/IllegalStateException", Cond.fieldLink RX0 39 "ShopHub" "draftStates" "[I", Cond.methodLink RX0 155 yX0_checkDraft, Cond.instanceMethod yX0_checkDraft, Cond.selects RX0 yX0_checkDraft yX0_checkDraft, Cond.code yX0_checkDraft cX0_checkDraft 2 none, Cond.classLink RX0 122 "java/lang/IndexOutOfBoundsException", Cond.initialized "java/lang/IndexOutOfBoundsException", Cond.methodLink RX0 167 yX0_isEntered, Cond.instanceMethod yX0_isEntered, Cond.selects RX0 yX0_isEntered yX0_isEntered, Cond.code yX0_isEntered cX0_isEntered 2 (some .boolean), Cond.fieldLink RX0 42 "ShopHub" "draftCount" "I", Cond.methodLink RX0 160 yX0_holdsAtItsPlace, Cond.instanceMethod yX0_holdsAtItsPlace, Cond.selects RX0 yX0_holdsAtItsPlace yX0_holdsAtItsPlace]
def wsL_reject_r2 : List Cond := [Cond.code yX0_holdsAtItsPlace cX0_holdsAtItsPlace 2 (some .boolean), Cond.fieldLink RX0 48 "ShopHub" "holders" "[I", Cond.fieldLink RX0 30 "ShopHub" "draftPlaces" "[I", Cond.methodLink RX0 105 yX0_settleHolders, Cond.instanceMethod yX0_settleHolders, Cond.selects RX0 yX0_settleHolders yX0_settleHolders, Cond.code yX0_settleHolders cX0_settleHolders 2 none, Cond.fieldLink RX0 36 "ShopHub" "draftDays" "[I", Cond.fieldLink RX0 45 "ShopHub" "today" "I", Cond.methodLink RX0 172 yX0_putHolder, Cond.instanceMethod yX0_putHolder, Cond.selects RX0 yX0_putHolder yX0_putHolder, Cond.code yX0_putHolder cX0_putHolder 4 none]
def wsL_reject : List Cond := .codeWith yL_reject cL_reject 4 (some .int) [(0, 16, 19, 13), (0, 16, 22, 15)] :: ((wsL_reject_r1 ++ wsL_reject_r2) ++ wsX00 ++ (vx_atS RX0 72 "java/lang/IllegalStateException" ["java/lang/RuntimeException", "java/lang/Exception"]).filter goodWord ++ (vx_atS RX0 126 "java/lang/IndexOutOfBoundsException" ["java/lang/RuntimeException", "java/lang/Exception"]).filter goodWord)
def wsL_pass_r1 : List Cond := [Cond.classLink RL 29 "java/lang/IllegalArgumentException", Cond.methodLink RL 45 yX0_pass, Cond.instanceMethod yX0_pass, Cond.selects RX0 yX0_pass yX0_pass, Cond.initialized RX0, Cond.code yX0_pass cX0_pass 2 (some .int), Cond.classLink RX0 108 "java/lang/IllegalArgumentException", Cond.initialized "java/lang/IllegalArgumentException", Cond.fieldLink RX0 45 "ShopHub" "today" "I", Cond.methodLink RX0 105 yX0_settleHolders, Cond.instanceMethod yX0_settleHolders, Cond.selects RX0 yX0_settleHolders yX0_settleHolders, Cond.code yX0_settleHolders cX0_settleHolders 2 none, Cond.fieldLink RX0 48 "ShopHub" "holders" "[I", Cond.fieldLink RX0 42 "ShopHub" "draftCount" "I", Cond.fieldLink RX0 39 "ShopHub" "draftStates" "[I", Cond.fieldLink RX0 36 "ShopHub" "draftDays" "[I", Cond.methodLink RX0 172 yX0_putHolder, Cond.instanceMethod yX0_putHolder, Cond.selects RX0 yX0_putHolder yX0_putHolder, Cond.code yX0_putHolder cX0_putHolder 4 none, Cond.fieldLink RX0 30 "ShopHub" "draftPlaces" "[I", Cond.methodLink RX0 167 yX0_isEntered, Cond.instanceMethod yX0_isEntered]
def wsL_pass_r2 : List Cond := [Cond.selects RX0 yX0_isEntered yX0_isEntered, Cond.code yX0_isEntered cX0_isEntered 2 (some .boolean)]
def wsL_pass : List Cond := .codeWith yL_pass cL_pass 4 (some .int) [(0, 9, 12, 29)] :: ((wsL_pass_r1 ++ wsL_pass_r2) ++ wsX00 ++ (vx_atS RX0 112 "java/lang/IllegalArgumentException" ["java/lang/RuntimeException", "java/lang/Exception"]).filter goodWord)
def wsL_value_r1 : List Cond := [Cond.classLink RL 13 "java/lang/IndexOutOfBoundsException", Cond.classLink RL 15 "java/lang/IllegalStateException", Cond.methodLink RL 48 yX0_value, Cond.instanceMethod yX0_value, Cond.selects RX0 yX0_value yX0_value, Cond.initialized RX0, Cond.code yX0_value cX0_value 6 (some .int), Cond.classLink RX0 68 "java/lang/IllegalStateException", Cond.initialized "java/lang/IllegalStateException", Cond.methodLink RX0 175 yX0_checkSight, Cond.instanceMethod yX0_checkSight, Cond.selects RX0 yX0_checkSight yX0_checkSight, Cond.code yX0_checkSight cX0_checkSight 5 none, Cond.methodLink RX0 77 yX0_checkGood, Cond.instanceMethod yX0_checkGood, Cond.selects RX0 yX0_checkGood yX0_checkGood, Cond.code yX0_checkGood cX0_checkGood 2 none, Cond.classLink RX0 122 "java/lang/IndexOutOfBoundsException", Cond.initialized "java/lang/IndexOutOfBoundsException", Cond.methodLink RX0 119 yX0_isGood, Cond.instanceMethod yX0_isGood, Cond.selects RX0 yX0_isGood yX0_isGood, Cond.code yX0_isGood cX0_isGood 2 (some .boolean), Cond.fieldLink RX0 9 "ShopHub" "exists" "[Z"]
def wsL_value_r2 : List Cond := [Cond.methodLink RX0 135 yX0_checkAttribute, Cond.static yX0_checkAttribute, Cond.code yX0_checkAttribute cX0_checkAttribute 1 none, Cond.methodLink RX0 138 yX0_checkShop, Cond.static yX0_checkShop, Cond.code yX0_checkShop cX0_checkShop 1 none, Cond.methodLink RX0 141 yX0_checkTongue, Cond.static yX0_checkTongue, Cond.code yX0_checkTongue cX0_checkTongue 1 none, Cond.methodLink RX0 179 yX0_findValue, Cond.instanceMethod yX0_findValue, Cond.selects RX0 yX0_findValue yX0_findValue, Cond.code yX0_findValue cX0_findValue 6 (some .int), Cond.fieldLink RX0 33 "ShopHub" "draftValues" "[I", Cond.methodLink RX0 184 yX0_findOrigin, Cond.instanceMethod yX0_findOrigin, Cond.selects RX0 yX0_findOrigin yX0_findOrigin, Cond.code yX0_findOrigin cX0_findOrigin 8 (some .int), Cond.fieldLink RX0 13 "ShopHub" "parents" "[I", Cond.methodLink RX0 205 yX0_findOwnOrigin, Cond.instanceMethod yX0_findOwnOrigin, Cond.selects RX0 yX0_findOwnOrigin yX0_findOwnOrigin, Cond.code yX0_findOwnOrigin cX0_findOwnOrigin 6 (some .int), Cond.fieldLink RX0 48 "ShopHub" "holders" "[I"]
def wsL_value_r3 : List Cond := [Cond.methodLink RX0 151 yX0_placeOf, Cond.static yX0_placeOf, Cond.code yX0_placeOf cX0_placeOf 6 (some .int), Cond.methodLink RX0 167 yX0_isEntered, Cond.instanceMethod yX0_isEntered, Cond.selects RX0 yX0_isEntered yX0_isEntered, Cond.code yX0_isEntered cX0_isEntered 2 (some .boolean), Cond.fieldLink RX0 42 "ShopHub" "draftCount" "I"]
def wsL_value : List Cond := .codeWith yL_value cL_value 7 (some .int) [(0, 14, 17, 13), (0, 14, 21, 15)] :: ((wsL_value_r1 ++ (wsL_value_r2 ++ wsL_value_r3)) ++ wsX00 ++ (vx_atS RX0 72 "java/lang/IllegalStateException" ["java/lang/RuntimeException", "java/lang/Exception"]).filter goodWord ++ (vx_atS RX0 126 "java/lang/IndexOutOfBoundsException" ["java/lang/RuntimeException", "java/lang/Exception"]).filter goodWord)
def wsL_origin_r1 : List Cond := [Cond.classLink RL 13 "java/lang/IndexOutOfBoundsException", Cond.methodLink RL 52 yX0_origin, Cond.instanceMethod yX0_origin, Cond.selects RX0 yX0_origin yX0_origin, Cond.initialized RX0, Cond.code yX0_origin cX0_origin 5 (some .int), Cond.methodLink RX0 175 yX0_checkSight, Cond.instanceMethod yX0_checkSight, Cond.selects RX0 yX0_checkSight yX0_checkSight, Cond.code yX0_checkSight cX0_checkSight 5 none, Cond.methodLink RX0 77 yX0_checkGood, Cond.instanceMethod yX0_checkGood, Cond.selects RX0 yX0_checkGood yX0_checkGood, Cond.code yX0_checkGood cX0_checkGood 2 none, Cond.classLink RX0 122 "java/lang/IndexOutOfBoundsException", Cond.initialized "java/lang/IndexOutOfBoundsException", Cond.methodLink RX0 119 yX0_isGood, Cond.instanceMethod yX0_isGood, Cond.selects RX0 yX0_isGood yX0_isGood, Cond.code yX0_isGood cX0_isGood 2 (some .boolean), Cond.fieldLink RX0 9 "ShopHub" "exists" "[Z", Cond.methodLink RX0 135 yX0_checkAttribute, Cond.static yX0_checkAttribute, Cond.code yX0_checkAttribute cX0_checkAttribute 1 none]
def wsL_origin_r2 : List Cond := [Cond.methodLink RX0 138 yX0_checkShop, Cond.static yX0_checkShop, Cond.code yX0_checkShop cX0_checkShop 1 none, Cond.methodLink RX0 141 yX0_checkTongue, Cond.static yX0_checkTongue, Cond.code yX0_checkTongue cX0_checkTongue 1 none, Cond.methodLink RX0 184 yX0_findOrigin, Cond.instanceMethod yX0_findOrigin, Cond.selects RX0 yX0_findOrigin yX0_findOrigin, Cond.code yX0_findOrigin cX0_findOrigin 8 (some .int), Cond.fieldLink RX0 13 "ShopHub" "parents" "[I", Cond.methodLink RX0 205 yX0_findOwnOrigin, Cond.instanceMethod yX0_findOwnOrigin, Cond.selects RX0 yX0_findOwnOrigin yX0_findOwnOrigin, Cond.code yX0_findOwnOrigin cX0_findOwnOrigin 6 (some .int), Cond.fieldLink RX0 48 "ShopHub" "holders" "[I", Cond.methodLink RX0 151 yX0_placeOf, Cond.static yX0_placeOf, Cond.code yX0_placeOf cX0_placeOf 6 (some .int)]
def wsL_origin : List Cond := .codeWith yL_origin cL_origin 7 (some .int) [(0, 14, 17, 13)] :: ((wsL_origin_r1 ++ wsL_origin_r2) ++ wsX00 ++ (vx_atS RX0 126 "java/lang/IndexOutOfBoundsException" ["java/lang/RuntimeException", "java/lang/Exception"]).filter goodWord)
def wsL_told : List Cond := .codeWith yL_told cL_told 4 (some .int) [(0, 9, 12, 13)] :: ([.classLink RL 13 "java/lang/IndexOutOfBoundsException", .methodLink RL 55 yX0_told, .instanceMethod yX0_told, .selects RX0 yX0_told yX0_told, .initialized RX0, .code yX0_told cX0_told 5 (some .int), .fieldLink RX0 48 "ShopHub" "holders" "[I", .methodLink RX0 77 yX0_checkGood, .instanceMethod yX0_checkGood, .selects RX0 yX0_checkGood yX0_checkGood, .code yX0_checkGood cX0_checkGood 2 none, .classLink RX0 122 "java/lang/IndexOutOfBoundsException", .initialized "java/lang/IndexOutOfBoundsException", .methodLink RX0 119 yX0_isGood, .instanceMethod yX0_isGood, .selects RX0 yX0_isGood yX0_isGood, .code yX0_isGood cX0_isGood 2 (some .boolean), .fieldLink RX0 9 "ShopHub" "exists" "[Z"] ++ wsX00 ++ (vx_atS RX0 126 "java/lang/IndexOutOfBoundsException" ["java/lang/RuntimeException", "java/lang/Exception"]).filter goodWord)
def wsL_toggleAsked : List Cond := .codeWith yL_toggleAsked cL_toggleAsked 5 (some .int) [(0, 17, 20, 13)] :: ([.classLink RL 13 "java/lang/IndexOutOfBoundsException", .methodLink RL 58 yX0_toggleAsked, .instanceMethod yX0_toggleAsked, .selects RX0 yX0_toggleAsked yX0_toggleAsked, .initialized RX0, .code yX0_toggleAsked cX0_toggleAsked 4 (some .boolean), .fieldLink RX0 51 "ShopHub" "asked" "[Z", .methodLink RX0 138 yX0_checkShop, .static yX0_checkShop, .code yX0_checkShop cX0_checkShop 1 none, .classLink RX0 122 "java/lang/IndexOutOfBoundsException", .initialized "java/lang/IndexOutOfBoundsException", .methodLink RX0 135 yX0_checkAttribute, .static yX0_checkAttribute, .code yX0_checkAttribute cX0_checkAttribute 1 none] ++ wsX00 ++ (vx_atS RX0 126 "java/lang/IndexOutOfBoundsException" ["java/lang/RuntimeException", "java/lang/Exception"]).filter goodWord)
def wsL_missing_r1 : List Cond := [Cond.classLink RL 13 "java/lang/IndexOutOfBoundsException", Cond.methodLink RL 62 yX0_missing, Cond.instanceMethod yX0_missing, Cond.selects RX0 yX0_missing yX0_missing, Cond.initialized RX0, Cond.code yX0_missing cX0_missing 4 (some .int), Cond.methodLink RX0 77 yX0_checkGood, Cond.instanceMethod yX0_checkGood, Cond.selects RX0 yX0_checkGood yX0_checkGood, Cond.code yX0_checkGood cX0_checkGood 2 none, Cond.classLink RX0 122 "java/lang/IndexOutOfBoundsException", Cond.initialized "java/lang/IndexOutOfBoundsException", Cond.methodLink RX0 119 yX0_isGood, Cond.instanceMethod yX0_isGood, Cond.selects RX0 yX0_isGood yX0_isGood, Cond.code yX0_isGood cX0_isGood 2 (some .boolean), Cond.fieldLink RX0 9 "ShopHub" "exists" "[Z", Cond.methodLink RX0 138 yX0_checkShop, Cond.static yX0_checkShop, Cond.code yX0_checkShop cX0_checkShop 1 none, Cond.methodLink RX0 141 yX0_checkTongue, Cond.static yX0_checkTongue, Cond.code yX0_checkTongue cX0_checkTongue 1 none, Cond.methodLink RX0 187 yX0_findMissing]
def wsL_missing_r2 : List Cond := [Cond.instanceMethod yX0_findMissing, Cond.selects RX0 yX0_findMissing yX0_findMissing, Cond.code yX0_findMissing cX0_findMissing 6 (some .int), Cond.fieldLink RX0 51 "ShopHub" "asked" "[Z", Cond.methodLink RX0 179 yX0_findValue, Cond.instanceMethod yX0_findValue, Cond.selects RX0 yX0_findValue yX0_findValue, Cond.code yX0_findValue cX0_findValue 6 (some .int), Cond.fieldLink RX0 33 "ShopHub" "draftValues" "[I", Cond.methodLink RX0 184 yX0_findOrigin, Cond.instanceMethod yX0_findOrigin, Cond.selects RX0 yX0_findOrigin yX0_findOrigin, Cond.code yX0_findOrigin cX0_findOrigin 8 (some .int), Cond.fieldLink RX0 13 "ShopHub" "parents" "[I", Cond.methodLink RX0 205 yX0_findOwnOrigin, Cond.instanceMethod yX0_findOwnOrigin, Cond.selects RX0 yX0_findOwnOrigin yX0_findOwnOrigin, Cond.code yX0_findOwnOrigin cX0_findOwnOrigin 6 (some .int), Cond.fieldLink RX0 48 "ShopHub" "holders" "[I", Cond.methodLink RX0 151 yX0_placeOf, Cond.static yX0_placeOf, Cond.code yX0_placeOf cX0_placeOf 6 (some .int), Cond.methodLink RX0 167 yX0_isEntered, Cond.instanceMethod yX0_isEntered]
def wsL_missing_r3 : List Cond := [Cond.selects RX0 yX0_isEntered yX0_isEntered, Cond.code yX0_isEntered cX0_isEntered 2 (some .boolean), Cond.fieldLink RX0 42 "ShopHub" "draftCount" "I"]
def wsL_missing : List Cond := .codeWith yL_missing cL_missing 6 (some .int) [(0, 12, 15, 13)] :: ((wsL_missing_r1 ++ (wsL_missing_r2 ++ wsL_missing_r3)) ++ wsX00 ++ (vx_atS RX0 126 "java/lang/IndexOutOfBoundsException" ["java/lang/RuntimeException", "java/lang/Exception"]).filter goodWord)
def wsL_complete_r1 : List Cond := [Cond.classLink RL 13 "java/lang/IndexOutOfBoundsException", Cond.methodLink RL 65 yX0_complete, Cond.instanceMethod yX0_complete, Cond.selects RX0 yX0_complete yX0_complete, Cond.initialized RX0, Cond.code yX0_complete cX0_complete 4 (some .int), Cond.fieldLink RX0 9 "ShopHub" "exists" "[Z", Cond.methodLink RX0 138 yX0_checkShop, Cond.static yX0_checkShop, Cond.code yX0_checkShop cX0_checkShop 1 none, Cond.classLink RX0 122 "java/lang/IndexOutOfBoundsException", Cond.initialized "java/lang/IndexOutOfBoundsException", Cond.methodLink RX0 191 yX0_isComplete, Cond.instanceMethod yX0_isComplete, Cond.selects RX0 yX0_isComplete yX0_isComplete, Cond.code yX0_isComplete cX0_isComplete 4 (some .boolean), Cond.methodLink RX0 187 yX0_findMissing, Cond.instanceMethod yX0_findMissing, Cond.selects RX0 yX0_findMissing yX0_findMissing, Cond.code yX0_findMissing cX0_findMissing 6 (some .int), Cond.fieldLink RX0 51 "ShopHub" "asked" "[Z", Cond.methodLink RX0 179 yX0_findValue, Cond.instanceMethod yX0_findValue, Cond.selects RX0 yX0_findValue yX0_findValue]
def wsL_complete_r2 : List Cond := [Cond.code yX0_findValue cX0_findValue 6 (some .int), Cond.fieldLink RX0 33 "ShopHub" "draftValues" "[I", Cond.methodLink RX0 184 yX0_findOrigin, Cond.instanceMethod yX0_findOrigin, Cond.selects RX0 yX0_findOrigin yX0_findOrigin, Cond.code yX0_findOrigin cX0_findOrigin 8 (some .int), Cond.fieldLink RX0 13 "ShopHub" "parents" "[I", Cond.methodLink RX0 119 yX0_isGood, Cond.instanceMethod yX0_isGood, Cond.selects RX0 yX0_isGood yX0_isGood, Cond.code yX0_isGood cX0_isGood 2 (some .boolean), Cond.methodLink RX0 205 yX0_findOwnOrigin, Cond.instanceMethod yX0_findOwnOrigin, Cond.selects RX0 yX0_findOwnOrigin yX0_findOwnOrigin, Cond.code yX0_findOwnOrigin cX0_findOwnOrigin 6 (some .int), Cond.fieldLink RX0 48 "ShopHub" "holders" "[I", Cond.methodLink RX0 151 yX0_placeOf, Cond.static yX0_placeOf, Cond.code yX0_placeOf cX0_placeOf 6 (some .int), Cond.methodLink RX0 167 yX0_isEntered, Cond.instanceMethod yX0_isEntered, Cond.selects RX0 yX0_isEntered yX0_isEntered, Cond.code yX0_isEntered cX0_isEntered 2 (some .boolean), Cond.fieldLink RX0 42 "ShopHub" "draftCount" "I"]
def wsL_complete : List Cond := .codeWith yL_complete cL_complete 4 (some .int) [(0, 9, 12, 13)] :: ((wsL_complete_r1 ++ wsL_complete_r2) ++ wsX00 ++ (vx_atS RX0 126 "java/lang/IndexOutOfBoundsException" ["java/lang/RuntimeException", "java/lang/Exception"]).filter goodWord)
def wsL_price_r1 : List Cond := [Cond.classLink RL 13 "java/lang/IndexOutOfBoundsException", Cond.classLink RL 15 "java/lang/IllegalStateException", Cond.methodLink RL 68 yX0_price, Cond.instanceMethod yX0_price, Cond.selects RX0 yX0_price yX0_price, Cond.initialized RX0, Cond.code yX0_price cX0_price 4 (some .int), Cond.classLink RX0 68 "java/lang/IllegalStateException", Cond.initialized "java/lang/IllegalStateException", Cond.methodLink RX0 77 yX0_checkGood, Cond.instanceMethod yX0_checkGood, Cond.selects RX0 yX0_checkGood yX0_checkGood, Cond.code yX0_checkGood cX0_checkGood 2 none, Cond.classLink RX0 122 "java/lang/IndexOutOfBoundsException", Cond.initialized "java/lang/IndexOutOfBoundsException", Cond.methodLink RX0 119 yX0_isGood, Cond.instanceMethod yX0_isGood, Cond.selects RX0 yX0_isGood yX0_isGood, Cond.code yX0_isGood cX0_isGood 2 (some .boolean), Cond.fieldLink RX0 9 "ShopHub" "exists" "[Z", Cond.methodLink RX0 138 yX0_checkShop, Cond.static yX0_checkShop, Cond.code yX0_checkShop cX0_checkShop 1 none, Cond.methodLink RX0 194 yX0_findPrice]
def wsL_price_r2 : List Cond := [Cond.instanceMethod yX0_findPrice, Cond.selects RX0 yX0_findPrice yX0_findPrice, Cond.code yX0_findPrice cX0_findPrice 5 (some .int), Cond.fieldLink RX0 57 "ShopHub" "prices" "[I", Cond.methodLink RX0 179 yX0_findValue, Cond.instanceMethod yX0_findValue, Cond.selects RX0 yX0_findValue yX0_findValue, Cond.code yX0_findValue cX0_findValue 6 (some .int), Cond.fieldLink RX0 33 "ShopHub" "draftValues" "[I", Cond.methodLink RX0 184 yX0_findOrigin, Cond.instanceMethod yX0_findOrigin, Cond.selects RX0 yX0_findOrigin yX0_findOrigin, Cond.code yX0_findOrigin cX0_findOrigin 8 (some .int), Cond.fieldLink RX0 13 "ShopHub" "parents" "[I", Cond.methodLink RX0 205 yX0_findOwnOrigin, Cond.instanceMethod yX0_findOwnOrigin, Cond.selects RX0 yX0_findOwnOrigin yX0_findOwnOrigin, Cond.code yX0_findOwnOrigin cX0_findOwnOrigin 6 (some .int), Cond.fieldLink RX0 48 "ShopHub" "holders" "[I", Cond.methodLink RX0 151 yX0_placeOf, Cond.static yX0_placeOf, Cond.code yX0_placeOf cX0_placeOf 6 (some .int), Cond.methodLink RX0 167 yX0_isEntered, Cond.instanceMethod yX0_isEntered]
def wsL_price_r3 : List Cond := [Cond.selects RX0 yX0_isEntered yX0_isEntered, Cond.code yX0_isEntered cX0_isEntered 2 (some .boolean), Cond.fieldLink RX0 42 "ShopHub" "draftCount" "I", Cond.methodLink RX0 208 yX0_sumUpParts, Cond.instanceMethod yX0_sumUpParts, Cond.selects RX0 yX0_sumUpParts yX0_sumUpParts, Cond.code yX0_sumUpParts cX0_sumUpParts 7 (some .int), Cond.fieldLink RX0 20 "ShopHub" "quantities" "[I", Cond.fieldLink RX0 17 "ShopHub" "discounts" "[I", Cond.constantLong RX0 211 (100), Cond.constantLong RX0 213 (1000000000)]
def wsL_price : List Cond := .codeWith yL_price cL_price 5 (some .int) [(0, 10, 13, 13), (0, 10, 17, 15)] :: ((wsL_price_r1 ++ (wsL_price_r2 ++ wsL_price_r3)) ++ wsX00 ++ (vx_atS RX0 72 "java/lang/IllegalStateException" ["java/lang/RuntimeException", "java/lang/Exception"]).filter goodWord ++ (vx_atS RX0 126 "java/lang/IndexOutOfBoundsException" ["java/lang/RuntimeException", "java/lang/Exception"]).filter goodWord)
def wsL_changed_r1 : List Cond := [Cond.classLink RL 13 "java/lang/IndexOutOfBoundsException", Cond.methodLink RL 71 yX0_changed, Cond.instanceMethod yX0_changed, Cond.selects RX0 yX0_changed yX0_changed, Cond.initialized RX0, Cond.code yX0_changed cX0_changed 2 (some .int), Cond.methodLink RX0 138 yX0_checkShop, Cond.static yX0_checkShop, Cond.code yX0_checkShop cX0_checkShop 1 none, Cond.classLink RX0 122 "java/lang/IndexOutOfBoundsException", Cond.initialized "java/lang/IndexOutOfBoundsException", Cond.methodLink RX0 215 yX0_findChanged, Cond.instanceMethod yX0_findChanged, Cond.selects RX0 yX0_findChanged yX0_findChanged, Cond.code yX0_findChanged cX0_findChanged 4 (some .int), Cond.methodLink RX0 227 yX0_looksChanged, Cond.instanceMethod yX0_looksChanged, Cond.selects RX0 yX0_looksChanged yX0_looksChanged, Cond.code yX0_looksChanged cX0_looksChanged 5 (some .boolean), Cond.fieldLink RX0 54 "ShopHub" "seen" "[I", Cond.methodLink RX0 179 yX0_findValue, Cond.instanceMethod yX0_findValue, Cond.selects RX0 yX0_findValue yX0_findValue, Cond.code yX0_findValue cX0_findValue 6 (some .int)]
def wsL_changed_r2 : List Cond := [Cond.fieldLink RX0 33 "ShopHub" "draftValues" "[I", Cond.methodLink RX0 184 yX0_findOrigin, Cond.instanceMethod yX0_findOrigin, Cond.selects RX0 yX0_findOrigin yX0_findOrigin, Cond.code yX0_findOrigin cX0_findOrigin 8 (some .int), Cond.fieldLink RX0 13 "ShopHub" "parents" "[I", Cond.methodLink RX0 119 yX0_isGood, Cond.instanceMethod yX0_isGood, Cond.selects RX0 yX0_isGood yX0_isGood, Cond.code yX0_isGood cX0_isGood 2 (some .boolean), Cond.fieldLink RX0 9 "ShopHub" "exists" "[Z", Cond.methodLink RX0 205 yX0_findOwnOrigin, Cond.instanceMethod yX0_findOwnOrigin, Cond.selects RX0 yX0_findOwnOrigin yX0_findOwnOrigin, Cond.code yX0_findOwnOrigin cX0_findOwnOrigin 6 (some .int), Cond.fieldLink RX0 48 "ShopHub" "holders" "[I", Cond.methodLink RX0 151 yX0_placeOf, Cond.static yX0_placeOf, Cond.code yX0_placeOf cX0_placeOf 6 (some .int), Cond.methodLink RX0 167 yX0_isEntered, Cond.instanceMethod yX0_isEntered, Cond.selects RX0 yX0_isEntered yX0_isEntered, Cond.code yX0_isEntered cX0_isEntered 2 (some .boolean), Cond.fieldLink RX0 42 "ShopHub" "draftCount" "I"]
def wsL_changed : List Cond := .codeWith yL_changed cL_changed 4 (some .int) [(0, 9, 12, 13)] :: ((wsL_changed_r1 ++ wsL_changed_r2) ++ wsX00 ++ (vx_atS RX0 126 "java/lang/IndexOutOfBoundsException" ["java/lang/RuntimeException", "java/lang/Exception"]).filter goodWord)
def wsL_feed_r1 : List Cond := [Cond.classLink RL 13 "java/lang/IndexOutOfBoundsException", Cond.methodLink RL 74 yX0_feed, Cond.instanceMethod yX0_feed, Cond.selects RX0 yX0_feed yX0_feed, Cond.initialized RX0, Cond.code yX0_feed cX0_feed 4 (some .int), Cond.methodLink RX0 138 yX0_checkShop, Cond.static yX0_checkShop, Cond.code yX0_checkShop cX0_checkShop 1 none, Cond.classLink RX0 122 "java/lang/IndexOutOfBoundsException", Cond.initialized "java/lang/IndexOutOfBoundsException", Cond.methodLink RX0 215 yX0_findChanged, Cond.instanceMethod yX0_findChanged, Cond.selects RX0 yX0_findChanged yX0_findChanged, Cond.code yX0_findChanged cX0_findChanged 4 (some .int), Cond.methodLink RX0 227 yX0_looksChanged, Cond.instanceMethod yX0_looksChanged, Cond.selects RX0 yX0_looksChanged yX0_looksChanged, Cond.code yX0_looksChanged cX0_looksChanged 5 (some .boolean), Cond.fieldLink RX0 54 "ShopHub" "seen" "[I", Cond.methodLink RX0 179 yX0_findValue, Cond.instanceMethod yX0_findValue, Cond.selects RX0 yX0_findValue yX0_findValue, Cond.code yX0_findValue cX0_findValue 6 (some .int)]
def wsL_feed_r2 : List Cond := [Cond.fieldLink RX0 33 "ShopHub" "draftValues" "[I", Cond.methodLink RX0 184 yX0_findOrigin, Cond.instanceMethod yX0_findOrigin, Cond.selects RX0 yX0_findOrigin yX0_findOrigin, Cond.code yX0_findOrigin cX0_findOrigin 8 (some .int), Cond.fieldLink RX0 13 "ShopHub" "parents" "[I", Cond.methodLink RX0 119 yX0_isGood, Cond.instanceMethod yX0_isGood, Cond.selects RX0 yX0_isGood yX0_isGood, Cond.code yX0_isGood cX0_isGood 2 (some .boolean), Cond.fieldLink RX0 9 "ShopHub" "exists" "[Z", Cond.methodLink RX0 205 yX0_findOwnOrigin, Cond.instanceMethod yX0_findOwnOrigin, Cond.selects RX0 yX0_findOwnOrigin yX0_findOwnOrigin, Cond.code yX0_findOwnOrigin cX0_findOwnOrigin 6 (some .int), Cond.fieldLink RX0 48 "ShopHub" "holders" "[I", Cond.methodLink RX0 151 yX0_placeOf, Cond.static yX0_placeOf, Cond.code yX0_placeOf cX0_placeOf 6 (some .int), Cond.methodLink RX0 167 yX0_isEntered, Cond.instanceMethod yX0_isEntered, Cond.selects RX0 yX0_isEntered yX0_isEntered, Cond.code yX0_isEntered cX0_isEntered 2 (some .boolean), Cond.fieldLink RX0 42 "ShopHub" "draftCount" "I"]
def wsL_feed_r3 : List Cond := [Cond.methodLink RX0 218 yX0_rememberSights, Cond.instanceMethod yX0_rememberSights, Cond.selects RX0 yX0_rememberSights yX0_rememberSights, Cond.code yX0_rememberSights cX0_rememberSights 5 none, Cond.methodLink RX0 222 yJ6_bitCount_0f7a4, Cond.static yJ6_bitCount_0f7a4, Cond.initialized RJ6, Cond.code yJ6_bitCount_0f7a4 cJ6_bitCount_0f7a4 1 (some .int), Cond.constant RJ6 265 (1431655765), Cond.constant RJ6 266 (858993459), Cond.constant RJ6 267 (252645135)]
def wsL_feed : List Cond := .codeWith yL_feed cL_feed 4 (some .int) [(0, 9, 12, 13)] :: ((wsL_feed_r1 ++ (wsL_feed_r2 ++ wsL_feed_r3)) ++ wsX00 ++ (vx_atS RX0 126 "java/lang/IndexOutOfBoundsException" ["java/lang/RuntimeException", "java/lang/Exception"]).filter goodWord)
def wsL_law0_r1 : List Cond := [Cond.classLink RL 8 RX0, Cond.instantiable RX0 16, Cond.initialized RX0, Cond.classLink RL 78 RX1, Cond.instantiable RX1 18, Cond.initialized RX1, Cond.arrayClass .long, Cond.methodLink RL 77 yX0_init, Cond.instanceMethod yX0_init, Cond.code yX0_init cX0_init 2 none, Cond.methodLink RX0 3 objectInit, Cond.instanceMethod objectInit, Cond.code objectInit ⟨#[0xb1]⟩ 1 none, Cond.arrayClass .boolean, Cond.fieldLink RX0 9 "ShopHub" "exists" "[Z", Cond.arrayClass .int, Cond.fieldLink RX0 13 "ShopHub" "parents" "[I", Cond.fieldLink RX0 17 "ShopHub" "discounts" "[I", Cond.fieldLink RX0 20 "ShopHub" "quantities" "[I", Cond.fieldLink RX0 23 "ShopHub" "goodCount" "I", Cond.fieldLink RX0 27 "ShopHub" "draftGoods" "[I", Cond.fieldLink RX0 30 "ShopHub" "draftPlaces" "[I", Cond.fieldLink RX0 33 "ShopHub" "draftValues" "[I", Cond.fieldLink RX0 36 "ShopHub" "draftDays" "[I"]
def wsL_law0_r2 : List Cond := [Cond.fieldLink RX0 39 "ShopHub" "draftStates" "[I", Cond.fieldLink RX0 42 "ShopHub" "draftCount" "I", Cond.fieldLink RX0 45 "ShopHub" "today" "I", Cond.fieldLink RX0 48 "ShopHub" "holders" "[I", Cond.fieldLink RX0 51 "ShopHub" "asked" "[Z", Cond.fieldLink RX0 54 "ShopHub" "seen" "[I", Cond.fieldLink RX0 57 "ShopHub" "prices" "[I", Cond.methodLink RL 80 yX1_init, Cond.instanceMethod yX1_init, Cond.code yX1_init cX1_init 2 none, Cond.methodLink RX1 1 objectInit, Cond.fieldLink RX1 7 "ShopHubModel" "isThere" "[Z", Cond.fieldLink RX1 13 "ShopHubModel" "parent" "[I", Cond.fieldLink RX1 17 "ShopHubModel" "discount" "[I", Cond.fieldLink RX1 20 "ShopHubModel" "quantity" "[I", Cond.fieldLink RX1 23 "ShopHubModel" "good" "[I", Cond.fieldLink RX1 26 "ShopHubModel" "attribute" "[I", Cond.fieldLink RX1 29 "ShopHubModel" "shop" "[I", Cond.fieldLink RX1 32 "ShopHubModel" "tongue" "[I", Cond.fieldLink RX1 35 "ShopHubModel" "value" "[I", Cond.fieldLink RX1 38 "ShopHubModel" "day" "[I", Cond.fieldLink RX1 41 "ShopHubModel" "state" "[I", Cond.fieldLink RX1 44 "ShopHubModel" "isAsked" "[Z", Cond.fieldLink RX1 47 "ShopHubModel" "seen" "[I"]
def wsL_law0_r3 : List Cond := [Cond.fieldLink RX1 50 "ShopHubModel" "price" "[J", Cond.methodLink RL 81 yL_addGood, Cond.static yL_addGood, Cond.initialized RL, Cond.codeWith yL_addGood cL_addGood 4 (some .int) [(0, 9, 12, 13), (0, 9, 15, 15)], Cond.classLink RL 13 "java/lang/IndexOutOfBoundsException", Cond.classLink RL 15 "java/lang/IllegalStateException", Cond.methodLink RL 7 yX0_addGood, Cond.instanceMethod yX0_addGood, Cond.selects RX0 yX0_addGood yX0_addGood, Cond.code yX0_addGood cX0_addGood 3 (some .int), Cond.classLink RX0 68 "java/lang/IllegalStateException", Cond.initialized "java/lang/IllegalStateException", Cond.methodLink RX0 60 yX0_checkParent, Cond.instanceMethod yX0_checkParent, Cond.selects RX0 yX0_checkParent yX0_checkParent, Cond.code yX0_checkParent cX0_checkParent 2 none, Cond.classLink RX0 122 "java/lang/IndexOutOfBoundsException", Cond.initialized "java/lang/IndexOutOfBoundsException", Cond.methodLink RX0 119 yX0_isGood, Cond.instanceMethod yX0_isGood, Cond.selects RX0 yX0_isGood yX0_isGood, Cond.code yX0_isGood cX0_isGood 2 (some .boolean), Cond.methodLink RX0 64 yX0_levelOf]
def wsL_law0_r4 : List Cond := [Cond.instanceMethod yX0_levelOf, Cond.selects RX0 yX0_levelOf yX0_levelOf, Cond.code yX0_levelOf cX0_levelOf 5 (some .int), Cond.methodLink RL 86 yX1_addGood, Cond.instanceMethod yX1_addGood, Cond.selects RX1 yX1_addGood yX1_addGood, Cond.code yX1_addGood cX1_addGood 3 (some .int), Cond.fieldLink RX1 58 "ShopHubModel" "goods" "I", Cond.methodLink RX1 65 yX1_isGood, Cond.instanceMethod yX1_isGood, Cond.selects RX1 yX1_isGood yX1_isGood, Cond.code yX1_isGood cX1_isGood 2 (some .boolean), Cond.methodLink RX1 61 yX1_isIn, Cond.static yX1_isIn, Cond.code yX1_isIn cX1_isIn 3 (some .boolean), Cond.methodLink RX1 69 yX1_level, Cond.instanceMethod yX1_level, Cond.selects RX1 yX1_level yX1_level, Cond.code yX1_level cX1_level 4 (some .int), Cond.methodLink RX1 73 yX1_fails, Cond.instanceMethod yX1_fails, Cond.selects RX1 yX1_fails yX1_fails, Cond.code yX1_fails cX1_fails 2 (some .boolean), Cond.fieldLink RX1 54 "ShopHubModel" "thrown" "I"]
def wsL_law0_r5 : List Cond := [Cond.methodLink RL 87 yX1_thrown, Cond.instanceMethod yX1_thrown, Cond.selects RX1 yX1_thrown yX1_thrown, Cond.code yX1_thrown cX1_thrown 1 (some .int), Cond.methodLink RL 91 yL_move, Cond.static yL_move, Cond.codeWith yL_move cL_move 5 (some .int) [(0, 10, 13, 13), (0, 10, 17, 15)], Cond.methodLink RL 17 yX0_move, Cond.instanceMethod yX0_move, Cond.selects RX0 yX0_move yX0_move, Cond.code yX0_move cX0_move 4 (some .int), Cond.methodLink RX0 77 yX0_checkGood, Cond.instanceMethod yX0_checkGood, Cond.selects RX0 yX0_checkGood yX0_checkGood, Cond.code yX0_checkGood cX0_checkGood 2 none, Cond.methodLink RX0 80 yX0_isWithin, Cond.instanceMethod yX0_isWithin, Cond.selects RX0 yX0_isWithin yX0_isWithin, Cond.code yX0_isWithin cX0_isWithin 5 (some .boolean), Cond.methodLink RX0 86 yX0_levelsWithin, Cond.instanceMethod yX0_levelsWithin, Cond.selects RX0 yX0_levelsWithin yX0_levelsWithin, Cond.code yX0_levelsWithin cX0_levelsWithin 4 (some .int), Cond.methodLink RX0 129 Lib.Math.max.name]
def wsL_law0_r6 : List Cond := [Cond.static Lib.Math.max.name, Cond.initialized "java/lang/Math", Cond.code Lib.Math.max.name Lib.Math.max.code 2 (some .int), Cond.methodLink RL 94 yX1_move, Cond.instanceMethod yX1_move, Cond.selects RX1 yX1_move yX1_move, Cond.code yX1_move cX1_move 7 (some .int), Cond.methodLink RX1 76 yX1_isBelow, Cond.instanceMethod yX1_isBelow, Cond.selects RX1 yX1_isBelow yX1_isBelow, Cond.code yX1_isBelow cX1_isBelow 4 (some .boolean), Cond.methodLink RL 95 yL_delete, Cond.static yL_delete, Cond.codeWith yL_delete cL_delete 3 (some .int) [(0, 5, 8, 13), (0, 5, 11, 15)], Cond.methodLink RL 21 yX0_delete, Cond.instanceMethod yX0_delete, Cond.selects RX0 yX0_delete yX0_delete, Cond.code yX0_delete cX0_delete 3 none, Cond.methodLink RX0 91 yX0_isParent, Cond.instanceMethod yX0_isParent, Cond.selects RX0 yX0_isParent yX0_isParent, Cond.code yX0_isParent cX0_isParent 3 (some .boolean), Cond.methodLink RX0 97 yX0_isPart, Cond.instanceMethod yX0_isPart]
def wsL_law0_r7 : List Cond := [Cond.selects RX0 yX0_isPart yX0_isPart, Cond.code yX0_isPart cX0_isPart 3 (some .boolean), Cond.methodLink RX0 102 yX0_deleteDraftsOf, Cond.instanceMethod yX0_deleteDraftsOf, Cond.selects RX0 yX0_deleteDraftsOf yX0_deleteDraftsOf, Cond.code yX0_deleteDraftsOf cX0_deleteDraftsOf 3 none, Cond.methodLink RX0 105 yX0_settleHolders, Cond.instanceMethod yX0_settleHolders, Cond.selects RX0 yX0_settleHolders yX0_settleHolders, Cond.code yX0_settleHolders cX0_settleHolders 2 none, Cond.methodLink RX0 172 yX0_putHolder, Cond.instanceMethod yX0_putHolder, Cond.selects RX0 yX0_putHolder yX0_putHolder, Cond.code yX0_putHolder cX0_putHolder 4 none, Cond.methodLink RX0 167 yX0_isEntered, Cond.instanceMethod yX0_isEntered, Cond.selects RX0 yX0_isEntered yX0_isEntered, Cond.code yX0_isEntered cX0_isEntered 2 (some .boolean), Cond.methodLink RL 98 yX1_delete, Cond.instanceMethod yX1_delete, Cond.selects RX1 yX1_delete yX1_delete, Cond.code yX1_delete cX1_delete 5 none, Cond.methodLink RL 99 yL_addPart, Cond.static yL_addPart]
def wsL_law0_r8 : List Cond := [Cond.codeWith yL_addPart cL_addPart 6 (some .int) [(0, 12, 15, 13), (0, 12, 19, 29), (0, 12, 23, 15)], Cond.classLink RL 29 "java/lang/IllegalArgumentException", Cond.methodLink RL 25 yX0_addPart, Cond.instanceMethod yX0_addPart, Cond.selects RX0 yX0_addPart yX0_addPart, Cond.code yX0_addPart cX0_addPart 6 (some .int), Cond.classLink RX0 108 "java/lang/IllegalArgumentException", Cond.initialized "java/lang/IllegalArgumentException", Cond.methodLink RL 102 yX1_addPart, Cond.instanceMethod yX1_addPart, Cond.selects RX1 yX1_addPart yX1_addPart, Cond.code yX1_addPart cX1_addPart 6 (some .int), Cond.methodLink RL 103 yL_setDiscount, Cond.static yL_setDiscount, Cond.codeWith yL_setDiscount cL_setDiscount 5 (some .int) [(0, 10, 13, 13), (0, 10, 17, 29)], Cond.methodLink RL 31 yX0_setDiscount, Cond.instanceMethod yX0_setDiscount, Cond.selects RX0 yX0_setDiscount yX0_setDiscount, Cond.code yX0_setDiscount cX0_setDiscount 4 (some .int), Cond.methodLink RL 105 yX1_setDiscount, Cond.instanceMethod yX1_setDiscount, Cond.selects RX1 yX1_setDiscount yX1_setDiscount, Cond.code yX1_setDiscount cX1_setDiscount 4 (some .int), Cond.methodLink RL 106 yL_draft]
def wsL_law0_r9 : List Cond := [Cond.static yL_draft, Cond.codeWith yL_draft cL_draft 9 (some .int) [(0, 18, 21, 13), (0, 18, 25, 29), (0, 18, 29, 15)], Cond.methodLink RL 34 yX0_draft, Cond.instanceMethod yX0_draft, Cond.selects RX0 yX0_draft yX0_draft, Cond.code yX0_draft cX0_draft 8 (some .int), Cond.constant RX0 144 (100000), Cond.methodLink RX0 135 yX0_checkAttribute, Cond.static yX0_checkAttribute, Cond.code yX0_checkAttribute cX0_checkAttribute 1 none, Cond.methodLink RX0 138 yX0_checkShop, Cond.static yX0_checkShop, Cond.code yX0_checkShop cX0_checkShop 1 none, Cond.methodLink RX0 141 yX0_checkTongue, Cond.static yX0_checkTongue, Cond.code yX0_checkTongue cX0_checkTongue 1 none, Cond.methodLink RX0 151 yX0_placeOf, Cond.static yX0_placeOf, Cond.code yX0_placeOf cX0_placeOf 6 (some .int), Cond.methodLink RL 109 yX1_draft, Cond.instanceMethod yX1_draft, Cond.selects RX1 yX1_draft yX1_draft, Cond.code yX1_draft cX1_draft 9 (some .int), Cond.constant RX1 80 (100000)]
def wsL_law0_r10 : List Cond := [Cond.fieldLink RX1 81 "ShopHubModel" "drafts" "I", Cond.methodLink RL 110 yL_approve, Cond.static yL_approve, Cond.codeWith yL_approve cL_approve 4 (some .int) [(0, 16, 19, 13), (0, 16, 22, 15)], Cond.methodLink RL 38 yX0_approve, Cond.instanceMethod yX0_approve, Cond.selects RX0 yX0_approve yX0_approve, Cond.code yX0_approve cX0_approve 2 (some .boolean), Cond.methodLink RX0 155 yX0_checkDraft, Cond.instanceMethod yX0_checkDraft, Cond.selects RX0 yX0_checkDraft yX0_checkDraft, Cond.code yX0_checkDraft cX0_checkDraft 2 none, Cond.methodLink RX0 160 yX0_holdsAtItsPlace, Cond.instanceMethod yX0_holdsAtItsPlace, Cond.selects RX0 yX0_holdsAtItsPlace yX0_holdsAtItsPlace, Cond.code yX0_holdsAtItsPlace cX0_holdsAtItsPlace 2 (some .boolean), Cond.methodLink RL 112 yX1_approve, Cond.instanceMethod yX1_approve, Cond.selects RX1 yX1_approve yX1_approve, Cond.code yX1_approve cX1_approve 3 (some .boolean), Cond.methodLink RX1 91 yX1_isDraft, Cond.instanceMethod yX1_isDraft, Cond.selects RX1 yX1_isDraft yX1_isDraft, Cond.code yX1_isDraft cX1_isDraft 2 (some .boolean)]
def wsL_law0_r11 : List Cond := [Cond.methodLink RX1 94 yX1_isHolding, Cond.instanceMethod yX1_isHolding, Cond.selects RX1 yX1_isHolding yX1_isHolding, Cond.code yX1_isHolding cX1_isHolding 2 (some .boolean), Cond.methodLink RX1 87 yX1_holds, Cond.instanceMethod yX1_holds, Cond.selects RX1 yX1_holds yX1_holds, Cond.code yX1_holds cX1_holds 8 (some .int), Cond.fieldLink RX1 84 "ShopHubModel" "today" "I", Cond.methodLink RL 113 yL_reject, Cond.static yL_reject, Cond.codeWith yL_reject cL_reject 4 (some .int) [(0, 16, 19, 13), (0, 16, 22, 15)], Cond.methodLink RL 42 yX0_reject, Cond.instanceMethod yX0_reject, Cond.selects RX0 yX0_reject yX0_reject, Cond.code yX0_reject cX0_reject 3 (some .boolean), Cond.methodLink RL 115 yX1_reject, Cond.instanceMethod yX1_reject, Cond.selects RX1 yX1_reject yX1_reject, Cond.code yX1_reject cX1_reject 4 (some .boolean), Cond.methodLink RL 116 yL_pass, Cond.static yL_pass, Cond.codeWith yL_pass cL_pass 4 (some .int) [(0, 9, 12, 29)], Cond.methodLink RL 45 yX0_pass]
def wsL_law0_r12 : List Cond := [Cond.instanceMethod yX0_pass, Cond.selects RX0 yX0_pass yX0_pass, Cond.code yX0_pass cX0_pass 2 (some .int), Cond.methodLink RL 118 yX1_pass, Cond.instanceMethod yX1_pass, Cond.selects RX1 yX1_pass yX1_pass, Cond.code yX1_pass cX1_pass 2 (some .int), Cond.methodLink RL 119 yL_value, Cond.static yL_value, Cond.codeWith yL_value cL_value 7 (some .int) [(0, 14, 17, 13), (0, 14, 21, 15)], Cond.methodLink RL 48 yX0_value, Cond.instanceMethod yX0_value, Cond.selects RX0 yX0_value yX0_value, Cond.code yX0_value cX0_value 6 (some .int), Cond.methodLink RX0 175 yX0_checkSight, Cond.instanceMethod yX0_checkSight, Cond.selects RX0 yX0_checkSight yX0_checkSight, Cond.code yX0_checkSight cX0_checkSight 5 none, Cond.methodLink RX0 179 yX0_findValue, Cond.instanceMethod yX0_findValue, Cond.selects RX0 yX0_findValue yX0_findValue, Cond.code yX0_findValue cX0_findValue 6 (some .int), Cond.methodLink RX0 184 yX0_findOrigin, Cond.instanceMethod yX0_findOrigin]
def wsL_law0_r13 : List Cond := [Cond.selects RX0 yX0_findOrigin yX0_findOrigin, Cond.code yX0_findOrigin cX0_findOrigin 8 (some .int), Cond.methodLink RX0 205 yX0_findOwnOrigin, Cond.instanceMethod yX0_findOwnOrigin, Cond.selects RX0 yX0_findOwnOrigin yX0_findOwnOrigin, Cond.code yX0_findOwnOrigin cX0_findOwnOrigin 6 (some .int), Cond.methodLink RL 122 yX1_value, Cond.instanceMethod yX1_value, Cond.selects RX1 yX1_value yX1_value, Cond.code yX1_value cX1_value 6 (some .int), Cond.methodLink RX1 103 yX1_isPlace, Cond.instanceMethod yX1_isPlace, Cond.selects RX1 yX1_isPlace yX1_isPlace, Cond.code yX1_isPlace cX1_isPlace 5 (some .boolean), Cond.methodLink RX1 100 yX1_isShop, Cond.static yX1_isShop, Cond.code yX1_isShop cX1_isShop 1 (some .boolean), Cond.methodLink RX1 107 yX1_valueOf, Cond.instanceMethod yX1_valueOf, Cond.selects RX1 yX1_valueOf yX1_valueOf, Cond.code yX1_valueOf cX1_valueOf 6 (some .int), Cond.methodLink RX1 97 yX1_originOf, Cond.instanceMethod yX1_originOf, Cond.selects RX1 yX1_originOf yX1_originOf]
def wsL_law0_r14 : List Cond := [Cond.code yX1_originOf cX1_originOf 8 (some .int), Cond.methodLink RL 123 yL_origin, Cond.static yL_origin, Cond.codeWith yL_origin cL_origin 7 (some .int) [(0, 14, 17, 13)], Cond.methodLink RL 52 yX0_origin, Cond.instanceMethod yX0_origin, Cond.selects RX0 yX0_origin yX0_origin, Cond.code yX0_origin cX0_origin 5 (some .int), Cond.methodLink RL 125 yX1_origin, Cond.instanceMethod yX1_origin, Cond.selects RX1 yX1_origin yX1_origin, Cond.code yX1_origin cX1_origin 5 (some .int), Cond.methodLink RL 126 yL_told, Cond.static yL_told, Cond.codeWith yL_told cL_told 4 (some .int) [(0, 9, 12, 13)], Cond.methodLink RL 55 yX0_told, Cond.instanceMethod yX0_told, Cond.selects RX0 yX0_told yX0_told, Cond.code yX0_told cX0_told 5 (some .int), Cond.methodLink RL 128 yX1_told, Cond.instanceMethod yX1_told, Cond.selects RX1 yX1_told yX1_told, Cond.code yX1_told cX1_told 4 (some .int), Cond.methodLink RL 129 yL_toggleAsked]
def wsL_law0_r15 : List Cond := [Cond.static yL_toggleAsked, Cond.codeWith yL_toggleAsked cL_toggleAsked 5 (some .int) [(0, 17, 20, 13)], Cond.methodLink RL 58 yX0_toggleAsked, Cond.instanceMethod yX0_toggleAsked, Cond.selects RX0 yX0_toggleAsked yX0_toggleAsked, Cond.code yX0_toggleAsked cX0_toggleAsked 4 (some .boolean), Cond.methodLink RL 131 yX1_toggleAsked, Cond.instanceMethod yX1_toggleAsked, Cond.selects RX1 yX1_toggleAsked yX1_toggleAsked, Cond.code yX1_toggleAsked cX1_toggleAsked 4 (some .boolean), Cond.methodLink RL 132 yL_missing, Cond.static yL_missing, Cond.codeWith yL_missing cL_missing 6 (some .int) [(0, 12, 15, 13)], Cond.methodLink RL 62 yX0_missing, Cond.instanceMethod yX0_missing, Cond.selects RX0 yX0_missing yX0_missing, Cond.code yX0_missing cX0_missing 4 (some .int), Cond.methodLink RX0 187 yX0_findMissing, Cond.instanceMethod yX0_findMissing, Cond.selects RX0 yX0_findMissing yX0_findMissing, Cond.code yX0_findMissing cX0_findMissing 6 (some .int), Cond.methodLink RL 134 yX1_missing, Cond.instanceMethod yX1_missing, Cond.selects RX1 yX1_missing yX1_missing]
def wsL_law0_r16 : List Cond := [Cond.code yX1_missing cX1_missing 4 (some .int), Cond.methodLink RX1 110 yX1_lacks, Cond.instanceMethod yX1_lacks, Cond.selects RX1 yX1_lacks yX1_lacks, Cond.code yX1_lacks cX1_lacks 6 (some .int), Cond.methodLink RL 135 yL_complete, Cond.static yL_complete, Cond.codeWith yL_complete cL_complete 4 (some .int) [(0, 9, 12, 13)], Cond.methodLink RL 65 yX0_complete, Cond.instanceMethod yX0_complete, Cond.selects RX0 yX0_complete yX0_complete, Cond.code yX0_complete cX0_complete 4 (some .int), Cond.methodLink RX0 191 yX0_isComplete, Cond.instanceMethod yX0_isComplete, Cond.selects RX0 yX0_isComplete yX0_isComplete, Cond.code yX0_isComplete cX0_isComplete 4 (some .boolean), Cond.methodLink RL 137 yX1_complete, Cond.instanceMethod yX1_complete, Cond.selects RX1 yX1_complete yX1_complete, Cond.code yX1_complete cX1_complete 6 (some .int), Cond.methodLink RL 138 yL_price, Cond.static yL_price, Cond.codeWith yL_price cL_price 5 (some .int) [(0, 10, 13, 13), (0, 10, 17, 15)], Cond.methodLink RL 68 yX0_price]
def wsL_law0_r17 : List Cond := [Cond.instanceMethod yX0_price, Cond.selects RX0 yX0_price yX0_price, Cond.code yX0_price cX0_price 4 (some .int), Cond.methodLink RX0 194 yX0_findPrice, Cond.instanceMethod yX0_findPrice, Cond.selects RX0 yX0_findPrice yX0_findPrice, Cond.code yX0_findPrice cX0_findPrice 5 (some .int), Cond.methodLink RX0 208 yX0_sumUpParts, Cond.instanceMethod yX0_sumUpParts, Cond.selects RX0 yX0_sumUpParts yX0_sumUpParts, Cond.code yX0_sumUpParts cX0_sumUpParts 7 (some .int), Cond.constantLong RX0 211 (100), Cond.constantLong RX0 213 (1000000000), Cond.methodLink RL 140 yX1_price, Cond.instanceMethod yX1_price, Cond.selects RX1 yX1_price yX1_price, Cond.code yX1_price cX1_price 6 (some .int), Cond.constantLong RX1 114 (-1), Cond.methodLink RX1 120 yX1_bundle, Cond.instanceMethod yX1_bundle, Cond.selects RX1 yX1_bundle yX1_bundle, Cond.code yX1_bundle cX1_bundle 8 (some .long), Cond.constantLong RX1 116 (100), Cond.constantLong RX1 118 (1000000000)]
def wsL_law0_r18 : List Cond := [Cond.methodLink RL 141 yL_changed, Cond.static yL_changed, Cond.codeWith yL_changed cL_changed 4 (some .int) [(0, 9, 12, 13)], Cond.methodLink RL 71 yX0_changed, Cond.instanceMethod yX0_changed, Cond.selects RX0 yX0_changed yX0_changed, Cond.code yX0_changed cX0_changed 2 (some .int), Cond.methodLink RX0 215 yX0_findChanged, Cond.instanceMethod yX0_findChanged, Cond.selects RX0 yX0_findChanged yX0_findChanged, Cond.code yX0_findChanged cX0_findChanged 4 (some .int), Cond.methodLink RX0 227 yX0_looksChanged, Cond.instanceMethod yX0_looksChanged, Cond.selects RX0 yX0_looksChanged yX0_looksChanged, Cond.code yX0_looksChanged cX0_looksChanged 5 (some .boolean), Cond.methodLink RL 143 yX1_changed, Cond.instanceMethod yX1_changed, Cond.selects RX1 yX1_changed yX1_changed, Cond.code yX1_changed cX1_changed 2 (some .int), Cond.methodLink RX1 130 yX1_differs, Cond.instanceMethod yX1_differs, Cond.selects RX1 yX1_differs yX1_differs, Cond.code yX1_differs cX1_differs 6 (some .int), Cond.methodLink RX1 124 yX1_place]
def wsL_law0_r19 : List Cond := [Cond.static yX1_place, Cond.code yX1_place cX1_place 4 (some .int), Cond.methodLink RX1 127 yX1_sees, Cond.instanceMethod yX1_sees, Cond.selects RX1 yX1_sees yX1_sees, Cond.code yX1_sees cX1_sees 5 (some .int), Cond.methodLink RL 144 yL_feed, Cond.static yL_feed, Cond.codeWith yL_feed cL_feed 4 (some .int) [(0, 9, 12, 13)], Cond.methodLink RL 74 yX0_feed, Cond.instanceMethod yX0_feed, Cond.selects RX0 yX0_feed yX0_feed, Cond.code yX0_feed cX0_feed 4 (some .int), Cond.methodLink RX0 218 yX0_rememberSights, Cond.instanceMethod yX0_rememberSights, Cond.selects RX0 yX0_rememberSights yX0_rememberSights, Cond.code yX0_rememberSights cX0_rememberSights 5 none, Cond.methodLink RX0 222 yJ6_bitCount_0f7a4, Cond.static yJ6_bitCount_0f7a4, Cond.initialized RJ6, Cond.code yJ6_bitCount_0f7a4 cJ6_bitCount_0f7a4 1 (some .int), Cond.constant RJ6 265 (1431655765), Cond.constant RJ6 266 (858993459), Cond.constant RJ6 267 (252645135)]
def wsL_law0_r20 : List Cond := [Cond.methodLink RL 146 yX1_feed, Cond.instanceMethod yX1_feed, Cond.selects RX1 yX1_feed yX1_feed, Cond.code yX1_feed cX1_feed 6 (some .int)]
def wsL_law0 : List Cond := (wsL_law0_r1 ++ (wsL_law0_r2 ++ (wsL_law0_r3 ++ (wsL_law0_r4 ++ (wsL_law0_r5 ++ (wsL_law0_r6 ++ (wsL_law0_r7 ++ (wsL_law0_r8 ++ (wsL_law0_r9 ++ (wsL_law0_r10 ++ (wsL_law0_r11 ++ (wsL_law0_r12 ++ (wsL_law0_r13 ++ (wsL_law0_r14 ++ (wsL_law0_r15 ++ (wsL_law0_r16 ++ (wsL_law0_r17 ++ (wsL_law0_r18 ++ (wsL_law0_r19 ++ wsL_law0_r20))))))))))))))))))) ++ wsX00 ++ wsX10 ++ ([] : List Cond)
def wsL_law : List Cond := wsL_law0 ++ (vx_atS RX0 72 "java/lang/IllegalStateException" ["java/lang/RuntimeException", "java/lang/Exception"]).filter goodWord ++ (vx_atS RX0 126 "java/lang/IndexOutOfBoundsException" ["java/lang/RuntimeException", "java/lang/Exception"]).filter goodWord ++ (vx_atS RX0 112 "java/lang/IllegalArgumentException" ["java/lang/RuntimeException", "java/lang/Exception"]).filter goodWord
theorem in_pos {big : List Cond} (ws : List Cond) (ps : List Nat) (hp : ws = ps.filterMap (fun i => big[i]?)) : ∀ w ∈ ws, w ∈ big := by
  intro w hw
  rw [hp] at hw
  obtain ⟨i, -, hi⟩ := List.mem_filterMap.mp hw
  exact List.mem_of_getElem? hi
theorem mem_app {P : Cond → Prop} {a b : List Cond} (h1 : ∀ w ∈ a, P w) (h2 : ∀ w ∈ b, P w) : ∀ w ∈ a ++ b, P w := fun w h => (List.mem_append.mp h).elim (h1 w) (h2 w)
set_option maxRecDepth 20000 in
theorem in_wsL_law0_r1 : ∀ w ∈ wsL_law0_r1, w ∈ lw_tbl := in_pos _ [51, 52, 41, 484, 485, 42, 545, 53, 54, 55, 56, 57, 58, 108, 59, 109, 60, 61, 62, 63, 64, 65, 66, 67] (by decide +kernel)
set_option maxRecDepth 20000 in
theorem in_wsL_law0_r2 : ∀ w ∈ wsL_law0_r2, w ∈ lw_tbl := in_pos _ [68, 69, 70, 71, 72, 73, 74, 486, 487, 488, 489, 492, 493, 494, 495, 497, 498, 499, 500, 501, 502, 503, 504, 505] (by decide +kernel)
set_option maxRecDepth 20000 in
theorem in_wsL_law0_r3 : ∀ w ∈ wsL_law0_r3, w ∈ lw_tbl := in_pos _ [506, 110, 111, 40, 112, 113, 114, 115, 116, 117, 118, 199, 47, 119, 121, 0, 122, 127, 46, 123, 125, 1, 126, 195] (by decide +kernel)
set_option maxRecDepth 20000 in
theorem in_wsL_law0_r4 : ∀ w ∈ wsL_law0_r4, w ∈ lw_tbl := in_pos _ [197, 3, 198, 550, 551, 552, 553, 491, 554, 556, 26, 557, 558, 559, 560, 561, 563, 27, 564, 565, 567, 28, 568, 507] (by decide +kernel)
set_option maxRecDepth 20000 in
theorem in_wsL_law0_r5 : ∀ w ∈ wsL_law0_r5, w ∈ lw_tbl := in_pos _ [546, 547, 548, 549, 216, 217, 218, 219, 220, 221, 222, 223, 225, 4, 226, 228, 230, 5, 231, 233, 235, 6, 236, 237] (by decide +kernel)
set_option maxRecDepth 20000 in
theorem in_wsL_law0_r6 : ∀ w ∈ wsL_law0_r6, w ∈ lw_tbl := in_pos _ [238, 48, 239, 569, 570, 571, 572, 573, 575, 29, 576, 241, 242, 243, 244, 245, 246, 247, 248, 250, 7, 251, 253, 255] (by decide +kernel)
set_option maxRecDepth 20000 in
theorem in_wsL_law0_r7 : ∀ w ∈ wsL_law0_r7, w ∈ lw_tbl := in_pos _ [8, 256, 258, 260, 9, 261, 262, 264, 10, 265, 266, 268, 11, 269, 270, 272, 12, 273, 577, 578, 579, 580, 274, 275] (by decide +kernel)
set_option maxRecDepth 20000 in
theorem in_wsL_law0_r8 : ∀ w ∈ wsL_law0_r8, w ∈ lw_tbl := in_pos _ [276, 277, 278, 279, 280, 281, 282, 49, 581, 582, 583, 584, 300, 301, 302, 303, 304, 305, 306, 585, 586, 587, 588, 308] (by decide +kernel)
set_option maxRecDepth 20000 in
theorem in_wsL_law0_r9 : ∀ w ∈ wsL_law0_r9, w ∈ lw_tbl := in_pos _ [309, 310, 311, 312, 313, 314, 327, 315, 316, 317, 319, 320, 321, 323, 324, 325, 331, 332, 333, 589, 590, 591, 592, 593] (by decide +kernel)
set_option maxRecDepth 20000 in
theorem in_wsL_law0_r10 : ∀ w ∈ wsL_law0_r10, w ∈ lw_tbl := in_pos _ [496, 334, 335, 336, 337, 338, 339, 340, 341, 343, 13, 344, 347, 349, 14, 350, 594, 595, 596, 597, 598, 600, 30, 601] (by decide +kernel)
set_option maxRecDepth 20000 in
theorem in_wsL_law0_r11 : ∀ w ∈ wsL_law0_r11, w ∈ lw_tbl := in_pos _ [602, 604, 31, 605, 606, 608, 32, 609, 490, 351, 352, 353, 354, 355, 356, 357, 610, 611, 612, 613, 359, 360, 361, 362] (by decide +kernel)
set_option maxRecDepth 20000 in
theorem in_wsL_law0_r12 : ∀ w ∈ wsL_law0_r12, w ∈ lw_tbl := in_pos _ [363, 364, 365, 614, 615, 616, 617, 367, 368, 369, 370, 371, 372, 373, 374, 376, 15, 377, 378, 380, 16, 381, 382, 384] (by decide +kernel)
set_option maxRecDepth 20000 in
theorem in_wsL_law0_r13 : ∀ w ∈ wsL_law0_r13, w ∈ lw_tbl := in_pos _ [17, 385, 386, 388, 18, 389, 618, 619, 620, 621, 622, 624, 33, 625, 626, 627, 628, 629, 631, 34, 632, 633, 635, 35] (by decide +kernel)
set_option maxRecDepth 20000 in
theorem in_wsL_law0_r14 : ∀ w ∈ wsL_law0_r14, w ∈ lw_tbl := in_pos _ [636, 391, 392, 393, 394, 395, 396, 397, 637, 638, 639, 640, 398, 399, 400, 401, 402, 403, 404, 641, 642, 643, 644, 405] (by decide +kernel)
set_option maxRecDepth 20000 in
theorem in_wsL_law0_r15 : ∀ w ∈ wsL_law0_r15, w ∈ lw_tbl := in_pos _ [406, 407, 408, 409, 410, 411, 645, 646, 647, 648, 412, 413, 414, 415, 416, 417, 418, 419, 421, 19, 422, 649, 650, 651] (by decide +kernel)
set_option maxRecDepth 20000 in
theorem in_wsL_law0_r16 : ∀ w ∈ wsL_law0_r16, w ∈ lw_tbl := in_pos _ [652, 653, 655, 36, 656, 423, 424, 425, 426, 427, 428, 429, 430, 432, 20, 433, 657, 658, 659, 660, 434, 435, 436, 437] (by decide +kernel)
set_option maxRecDepth 20000 in
theorem in_wsL_law0_r17 : ∀ w ∈ wsL_law0_r17, w ∈ lw_tbl := in_pos _ [438, 439, 440, 441, 443, 21, 444, 445, 447, 22, 448, 449, 450, 661, 662, 663, 664, 669, 665, 667, 37, 668, 670, 671] (by decide +kernel)
set_option maxRecDepth 20000 in
theorem in_wsL_law0_r18 : ∀ w ∈ wsL_law0_r18, w ∈ lw_tbl := in_pos _ [452, 453, 454, 455, 456, 457, 458, 459, 461, 23, 462, 463, 465, 24, 466, 672, 673, 674, 675, 676, 678, 38, 679, 680] (by decide +kernel)
set_option maxRecDepth 20000 in
theorem in_wsL_law0_r19 : ∀ w ∈ wsL_law0_r19, w ∈ lw_tbl := in_pos _ [681, 682, 683, 685, 39, 686, 467, 468, 469, 470, 471, 472, 473, 474, 476, 25, 477, 478, 479, 50, 480, 481, 482, 483] (by decide +kernel)
set_option maxRecDepth 20000 in
theorem in_wsL_law0_r20 : ∀ w ∈ wsL_law0_r20, w ∈ lw_tbl := in_pos _ [687, 688, 689, 690] (by decide +kernel)
set_option maxRecDepth 20000 in
theorem in_wsX00 : ∀ w ∈ wsX00, w ∈ lw_tbl := by decide +kernel
set_option maxRecDepth 20000 in
theorem in_wsX10 : ∀ w ∈ wsX10, w ∈ lw_tbl := by decide +kernel
theorem wsL_law_in0 : ∀ w ∈ wsL_law0, w ∈ lw_tbl := mem_app (mem_app (mem_app (mem_app in_wsL_law0_r1 (mem_app in_wsL_law0_r2 (mem_app in_wsL_law0_r3 (mem_app in_wsL_law0_r4 (mem_app in_wsL_law0_r5 (mem_app in_wsL_law0_r6 (mem_app in_wsL_law0_r7 (mem_app in_wsL_law0_r8 (mem_app in_wsL_law0_r9 (mem_app in_wsL_law0_r10 (mem_app in_wsL_law0_r11 (mem_app in_wsL_law0_r12 (mem_app in_wsL_law0_r13 (mem_app in_wsL_law0_r14 (mem_app in_wsL_law0_r15 (mem_app in_wsL_law0_r16 (mem_app in_wsL_law0_r17 (mem_app in_wsL_law0_r18 (mem_app in_wsL_law0_r19 (in_wsL_law0_r20)))))))))))))))))))) in_wsX00) in_wsX10) (fun _ h => absurd h List.not_mem_nil)
theorem wsL_law_x0 : ∀ w ∈ (vx_atS RX0 72 "java/lang/IllegalStateException" ["java/lang/RuntimeException", "java/lang/Exception"]).filter goodWord, w ∈ lw_tbl := by decide +kernel
theorem wsL_law_x1 : ∀ w ∈ (vx_atS RX0 126 "java/lang/IndexOutOfBoundsException" ["java/lang/RuntimeException", "java/lang/Exception"]).filter goodWord, w ∈ lw_tbl := by decide +kernel
theorem wsL_law_x2 : ∀ w ∈ (vx_atS RX0 112 "java/lang/IllegalArgumentException" ["java/lang/RuntimeException", "java/lang/Exception"]).filter goodWord, w ∈ lw_tbl := by decide +kernel
theorem wsL_law_in : ∀ w ∈ wsL_law, w ∈ lw_tbl := fun w h => (List.mem_append.mp h).elim (fun h => (List.mem_append.mp h).elim (fun h => (List.mem_append.mp h).elim (fun h => wsL_law_in0 w h) (fun h => wsL_law_x0 w h)) (fun h => wsL_law_x1 w h)) (fun h => wsL_law_x2 w h)
theorem inlX0 : ∀ w ∈ wsX00, w ∈ wsL_law := fun _ h => List.mem_append_left _ (List.mem_append_left _ (List.mem_append_left _ (List.mem_append_left _ (List.mem_append_left _ (List.mem_append_right _ h)))))
theorem inX0 : ∀ w ∈ wsX00, w ∈ lw_tbl := fun w h => wsL_law_in w (inlX0 w h)
theorem inlX1 : ∀ w ∈ wsX10, w ∈ wsL_law := fun _ h => List.mem_append_left _ (List.mem_append_left _ (List.mem_append_left _ (List.mem_append_left _ (List.mem_append_right _ h))))
theorem inX1 : ∀ w ∈ wsX10, w ∈ lw_tbl := fun w h => wsL_law_in w (inlX1 w h)
theorem inJ6 : ∀ w ∈ wsJ60, w ∈ lw_tbl := by decide +kernel
theorem inJ9 : ∀ w ∈ wsJ90, w ∈ lw_tbl := by decide +kernel
theorem inJ0 : ∀ w ∈ wsJ00, w ∈ lw_tbl := by decide +kernel
abbrev vwCl : List vw_C := [(RX0, TX0, 16), (RX1, TX1, 18)]
end
section
theorem dX0_init_0 : decode cX0_init 0 = .ok (.aload_n 0, 1) := by decide +kernel
theorem dX0_init_1 : decode cX0_init 1 = .ok (.invokespecial 3, 3) := by decide +kernel
theorem dX0_init_4 : decode cX0_init 4 = .ok (.aload_n 0, 1) := by decide +kernel
theorem dX0_init_5 : decode cX0_init 5 = .ok (.bipush 16, 2) := by decide +kernel
theorem dX0_init_7 : decode cX0_init 7 = .ok (.newarray .boolean, 2) := by decide +kernel
theorem dX0_init_9 : decode cX0_init 9 = .ok (.putfield 9, 3) := by decide +kernel
theorem dX0_init_12 : decode cX0_init 12 = .ok (.aload_n 0, 1) := by decide +kernel
theorem dX0_init_13 : decode cX0_init 13 = .ok (.bipush 16, 2) := by decide +kernel
theorem dX0_init_15 : decode cX0_init 15 = .ok (.newarray .int, 2) := by decide +kernel
theorem dX0_init_17 : decode cX0_init 17 = .ok (.putfield 13, 3) := by decide +kernel
theorem dX0_init_20 : decode cX0_init 20 = .ok (.aload_n 0, 1) := by decide +kernel
theorem dX0_init_21 : decode cX0_init 21 = .ok (.bipush 16, 2) := by decide +kernel
theorem dX0_init_23 : decode cX0_init 23 = .ok (.newarray .int, 2) := by decide +kernel
theorem dX0_init_25 : decode cX0_init 25 = .ok (.putfield 17, 3) := by decide +kernel
theorem dX0_init_28 : decode cX0_init 28 = .ok (.aload_n 0, 1) := by decide +kernel
theorem dX0_init_29 : decode cX0_init 29 = .ok (.sipush 256, 3) := by decide +kernel
theorem dX0_init_32 : decode cX0_init 32 = .ok (.newarray .int, 2) := by decide +kernel
theorem dX0_init_34 : decode cX0_init 34 = .ok (.putfield 20, 3) := by decide +kernel
theorem dX0_init_37 : decode cX0_init 37 = .ok (.aload_n 0, 1) := by decide +kernel
theorem dX0_init_38 : decode cX0_init 38 = .ok (.iconst 0, 1) := by decide +kernel
theorem dX0_init_39 : decode cX0_init 39 = .ok (.putfield 23, 3) := by decide +kernel
theorem dX0_init_42 : decode cX0_init 42 = .ok (.aload_n 0, 1) := by decide +kernel
theorem dX0_init_43 : decode cX0_init 43 = .ok (.sipush 200, 3) := by decide +kernel
theorem dX0_init_46 : decode cX0_init 46 = .ok (.newarray .int, 2) := by decide +kernel
theorem dX0_init_48 : decode cX0_init 48 = .ok (.putfield 27, 3) := by decide +kernel
theorem dX0_init_51 : decode cX0_init 51 = .ok (.aload_n 0, 1) := by decide +kernel
theorem dX0_init_52 : decode cX0_init 52 = .ok (.sipush 200, 3) := by decide +kernel
theorem dX0_init_55 : decode cX0_init 55 = .ok (.newarray .int, 2) := by decide +kernel
theorem dX0_init_57 : decode cX0_init 57 = .ok (.putfield 30, 3) := by decide +kernel
theorem dX0_init_60 : decode cX0_init 60 = .ok (.aload_n 0, 1) := by decide +kernel
theorem dX0_init_61 : decode cX0_init 61 = .ok (.sipush 200, 3) := by decide +kernel
theorem dX0_init_64 : decode cX0_init 64 = .ok (.newarray .int, 2) := by decide +kernel
theorem dX0_init_66 : decode cX0_init 66 = .ok (.putfield 33, 3) := by decide +kernel
theorem dX0_init_69 : decode cX0_init 69 = .ok (.aload_n 0, 1) := by decide +kernel
theorem dX0_init_70 : decode cX0_init 70 = .ok (.sipush 200, 3) := by decide +kernel
theorem dX0_init_73 : decode cX0_init 73 = .ok (.newarray .int, 2) := by decide +kernel
theorem dX0_init_75 : decode cX0_init 75 = .ok (.putfield 36, 3) := by decide +kernel
theorem dX0_init_78 : decode cX0_init 78 = .ok (.aload_n 0, 1) := by decide +kernel
theorem dX0_init_79 : decode cX0_init 79 = .ok (.sipush 200, 3) := by decide +kernel
theorem dX0_init_82 : decode cX0_init 82 = .ok (.newarray .int, 2) := by decide +kernel
theorem dX0_init_84 : decode cX0_init 84 = .ok (.putfield 39, 3) := by decide +kernel
theorem dX0_init_87 : decode cX0_init 87 = .ok (.aload_n 0, 1) := by decide +kernel
theorem dX0_init_88 : decode cX0_init 88 = .ok (.iconst 0, 1) := by decide +kernel
theorem dX0_init_89 : decode cX0_init 89 = .ok (.putfield 42, 3) := by decide +kernel
theorem dX0_init_92 : decode cX0_init 92 = .ok (.aload_n 0, 1) := by decide +kernel
theorem dX0_init_93 : decode cX0_init 93 = .ok (.iconst 0, 1) := by decide +kernel
theorem dX0_init_94 : decode cX0_init 94 = .ok (.putfield 45, 3) := by decide +kernel
theorem dX0_init_97 : decode cX0_init 97 = .ok (.aload_n 0, 1) := by decide +kernel
theorem dX0_init_98 : decode cX0_init 98 = .ok (.sipush 1536, 3) := by decide +kernel
theorem dX0_init_101 : decode cX0_init 101 = .ok (.newarray .int, 2) := by decide +kernel
theorem dX0_init_103 : decode cX0_init 103 = .ok (.putfield 48, 3) := by decide +kernel
theorem dX0_init_106 : decode cX0_init 106 = .ok (.aload_n 0, 1) := by decide +kernel
theorem dX0_init_107 : decode cX0_init 107 = .ok (.bipush 18, 2) := by decide +kernel
theorem dX0_init_109 : decode cX0_init 109 = .ok (.newarray .boolean, 2) := by decide +kernel
theorem dX0_init_111 : decode cX0_init 111 = .ok (.putfield 51, 3) := by decide +kernel
theorem dX0_init_114 : decode cX0_init 114 = .ok (.aload_n 0, 1) := by decide +kernel
theorem dX0_init_115 : decode cX0_init 115 = .ok (.sipush 864, 3) := by decide +kernel
theorem dX0_init_118 : decode cX0_init 118 = .ok (.newarray .int, 2) := by decide +kernel
theorem dX0_init_120 : decode cX0_init 120 = .ok (.putfield 54, 3) := by decide +kernel
theorem dX0_init_123 : decode cX0_init 123 = .ok (.aload_n 0, 1) := by decide +kernel
theorem dX0_init_124 : decode cX0_init 124 = .ok (.bipush 16, 2) := by decide +kernel
theorem dX0_init_126 : decode cX0_init 126 = .ok (.newarray .int, 2) := by decide +kernel
theorem dX0_init_128 : decode cX0_init 128 = .ok (.putfield 57, 3) := by decide +kernel
theorem dX0_init_131 : decode cX0_init 131 = .ok (.iconst 0, 1) := by decide +kernel
theorem dX0_init_132 : decode cX0_init 132 = .ok (.istore_n 1, 1) := by decide +kernel
theorem dX0_init_133 : decode cX0_init 133 = .ok (.iload_n 1, 1) := by decide +kernel
theorem dX0_init_134 : decode cX0_init 134 = .ok (.aload_n 0, 1) := by decide +kernel
theorem dX0_init_135 : decode cX0_init 135 = .ok (.getfield 13, 3) := by decide +kernel
theorem dX0_init_138 : decode cX0_init 138 = .ok (.arraylength, 1) := by decide +kernel
theorem dX0_init_139 : decode cX0_init 139 = .ok (.if_icmp .ge 16, 3) := by decide +kernel
theorem dX0_init_142 : decode cX0_init 142 = .ok (.aload_n 0, 1) := by decide +kernel
theorem dX0_init_143 : decode cX0_init 143 = .ok (.getfield 13, 3) := by decide +kernel
theorem dX0_init_146 : decode cX0_init 146 = .ok (.iload_n 1, 1) := by decide +kernel
theorem dX0_init_147 : decode cX0_init 147 = .ok (.iconst (-1), 1) := by decide +kernel
theorem dX0_init_148 : decode cX0_init 148 = .ok (.iastore, 1) := by decide +kernel
theorem dX0_init_149 : decode cX0_init 149 = .ok (.iinc 1 1, 3) := by decide +kernel
theorem dX0_init_152 : decode cX0_init 152 = .ok (.goto (-19), 3) := by decide +kernel
theorem dX0_init_155 : decode cX0_init 155 = .ok (.iconst 0, 1) := by decide +kernel
theorem dX0_init_156 : decode cX0_init 156 = .ok (.istore_n 1, 1) := by decide +kernel
theorem dX0_init_157 : decode cX0_init 157 = .ok (.iload_n 1, 1) := by decide +kernel
theorem dX0_init_158 : decode cX0_init 158 = .ok (.aload_n 0, 1) := by decide +kernel
theorem dX0_init_159 : decode cX0_init 159 = .ok (.getfield 48, 3) := by decide +kernel
theorem dX0_init_162 : decode cX0_init 162 = .ok (.arraylength, 1) := by decide +kernel
theorem dX0_init_163 : decode cX0_init 163 = .ok (.if_icmp .ge 16, 3) := by decide +kernel
theorem dX0_init_166 : decode cX0_init 166 = .ok (.aload_n 0, 1) := by decide +kernel
theorem dX0_init_167 : decode cX0_init 167 = .ok (.getfield 48, 3) := by decide +kernel
theorem dX0_init_170 : decode cX0_init 170 = .ok (.iload_n 1, 1) := by decide +kernel
theorem dX0_init_171 : decode cX0_init 171 = .ok (.iconst (-1), 1) := by decide +kernel
theorem dX0_init_172 : decode cX0_init 172 = .ok (.iastore, 1) := by decide +kernel
theorem dX0_init_173 : decode cX0_init 173 = .ok (.iinc 1 1, 3) := by decide +kernel
theorem dX0_init_176 : decode cX0_init 176 = .ok (.goto (-19), 3) := by decide +kernel
theorem dX0_init_179 : decode cX0_init 179 = .ok (.iconst 0, 1) := by decide +kernel
theorem dX0_init_180 : decode cX0_init 180 = .ok (.istore_n 1, 1) := by decide +kernel
theorem dX0_init_181 : decode cX0_init 181 = .ok (.iload_n 1, 1) := by decide +kernel
theorem dX0_init_182 : decode cX0_init 182 = .ok (.aload_n 0, 1) := by decide +kernel
theorem dX0_init_183 : decode cX0_init 183 = .ok (.getfield 54, 3) := by decide +kernel
theorem dX0_init_186 : decode cX0_init 186 = .ok (.arraylength, 1) := by decide +kernel
theorem dX0_init_187 : decode cX0_init 187 = .ok (.if_icmp .ge 16, 3) := by decide +kernel
theorem dX0_init_190 : decode cX0_init 190 = .ok (.aload_n 0, 1) := by decide +kernel
theorem dX0_init_191 : decode cX0_init 191 = .ok (.getfield 54, 3) := by decide +kernel
theorem dX0_init_194 : decode cX0_init 194 = .ok (.iload_n 1, 1) := by decide +kernel
theorem dX0_init_195 : decode cX0_init 195 = .ok (.iconst (-1), 1) := by decide +kernel
theorem dX0_init_196 : decode cX0_init 196 = .ok (.iastore, 1) := by decide +kernel
theorem dX0_init_197 : decode cX0_init 197 = .ok (.iinc 1 1, 3) := by decide +kernel
theorem dX0_init_200 : decode cX0_init 200 = .ok (.goto (-19), 3) := by decide +kernel
theorem dX0_init_203 : decode cX0_init 203 = .ok (.return_, 1) := by decide +kernel
set_option maxRecDepth 20000 in
theorem ggX0_addGood_X0_checkParent : GoodIn wsX0_addGood wsX0_checkParent := goodIn_ca (goodIn_r _ [10, 11, 12, 13, 14, 15, 9, 16, 4, 21, 22, 23, 24, 25, 26, 27, 28, 29, 30, 31, 32, 33, 34, 35, 36] (by decide +kernel) (by decide +kernel)) (goodIn_sub (fun _ h => List.mem_cons_of_mem _ (List.mem_append_right _ h)) (by decide +kernel))
set_option maxRecDepth 20000 in
theorem gX0_addGood_X0_checkParent : GoodIn wsX0_addGood (wsV RX0 60 RX0 yX0_checkParent wsX0_checkParent) := goodIn_app (goodIn_of _ (by decide +kernel)) ggX0_addGood_X0_checkParent
set_option maxRecDepth 20000 in
theorem ggX0_addGood_X0_levelOf : GoodIn wsX0_addGood wsX0_levelOf := goodIn_r _ [20, 5, 13, 14, 15, 9, 16, 4, 21, 22, 23, 24, 25, 26, 27, 28, 29, 30, 31, 32, 33, 34, 35, 36] (by decide +kernel) (by decide +kernel)
set_option maxRecDepth 20000 in
theorem gX0_addGood_X0_levelOf : GoodIn wsX0_addGood (wsV RX0 64 RX0 yX0_levelOf wsX0_levelOf) := goodIn_app (goodIn_of _ (by decide +kernel)) ggX0_addGood_X0_levelOf
theorem dX0_addGood_0 : decode cX0_addGood 0 = .ok (.aload_n 0, 1) := by decide +kernel
theorem dX0_addGood_1 : decode cX0_addGood 1 = .ok (.iload_n 1, 1) := by decide +kernel
theorem dX0_addGood_2 : decode cX0_addGood 2 = .ok (.invokevirtual 60, 3) := by decide +kernel
theorem dX0_addGood_5 : decode cX0_addGood 5 = .ok (.aload_n 0, 1) := by decide +kernel
theorem dX0_addGood_6 : decode cX0_addGood 6 = .ok (.iload_n 1, 1) := by decide +kernel
theorem dX0_addGood_7 : decode cX0_addGood 7 = .ok (.invokevirtual 64, 3) := by decide +kernel
theorem dX0_addGood_10 : decode cX0_addGood 10 = .ok (.iconst 1, 1) := by decide +kernel
theorem dX0_addGood_11 : decode cX0_addGood 11 = .ok (.iadd, 1) := by decide +kernel
theorem dX0_addGood_12 : decode cX0_addGood 12 = .ok (.iconst 3, 1) := by decide +kernel
theorem dX0_addGood_13 : decode cX0_addGood 13 = .ok (.if_icmp .lt 13, 3) := by decide +kernel
theorem dX0_addGood_16 : decode cX0_addGood 16 = .ok (.new 68, 3) := by decide +kernel
theorem dX0_addGood_19 : decode cX0_addGood 19 = .ok (.dup, 1) := by decide +kernel
theorem dX0_addGood_20 : decode cX0_addGood 20 = .ok (.ldc 70, 2) := by decide +kernel
theorem dX0_addGood_22 : decode cX0_addGood 22 = .ok (.invokespecial 72, 3) := by decide +kernel
theorem dX0_addGood_25 : decode cX0_addGood 25 = .ok (.athrow, 1) := by decide +kernel
theorem dX0_addGood_26 : decode cX0_addGood 26 = .ok (.aload_n 0, 1) := by decide +kernel
theorem dX0_addGood_27 : decode cX0_addGood 27 = .ok (.getfield 23, 3) := by decide +kernel
theorem dX0_addGood_30 : decode cX0_addGood 30 = .ok (.bipush 16, 2) := by decide +kernel
theorem dX0_addGood_32 : decode cX0_addGood 32 = .ok (.if_icmp .lt 13, 3) := by decide +kernel
theorem dX0_addGood_35 : decode cX0_addGood 35 = .ok (.new 68, 3) := by decide +kernel
theorem dX0_addGood_38 : decode cX0_addGood 38 = .ok (.dup, 1) := by decide +kernel
theorem dX0_addGood_39 : decode cX0_addGood 39 = .ok (.ldc 75, 2) := by decide +kernel
theorem dX0_addGood_41 : decode cX0_addGood 41 = .ok (.invokespecial 72, 3) := by decide +kernel
theorem dX0_addGood_44 : decode cX0_addGood 44 = .ok (.athrow, 1) := by decide +kernel
theorem dX0_addGood_45 : decode cX0_addGood 45 = .ok (.aload_n 0, 1) := by decide +kernel
theorem dX0_addGood_46 : decode cX0_addGood 46 = .ok (.getfield 23, 3) := by decide +kernel
theorem dX0_addGood_49 : decode cX0_addGood 49 = .ok (.istore_n 2, 1) := by decide +kernel
theorem dX0_addGood_50 : decode cX0_addGood 50 = .ok (.aload_n 0, 1) := by decide +kernel
theorem dX0_addGood_51 : decode cX0_addGood 51 = .ok (.dup, 1) := by decide +kernel
theorem dX0_addGood_52 : decode cX0_addGood 52 = .ok (.getfield 23, 3) := by decide +kernel
theorem dX0_addGood_55 : decode cX0_addGood 55 = .ok (.iconst 1, 1) := by decide +kernel
theorem dX0_addGood_56 : decode cX0_addGood 56 = .ok (.iadd, 1) := by decide +kernel
theorem dX0_addGood_57 : decode cX0_addGood 57 = .ok (.putfield 23, 3) := by decide +kernel
theorem dX0_addGood_60 : decode cX0_addGood 60 = .ok (.aload_n 0, 1) := by decide +kernel
theorem dX0_addGood_61 : decode cX0_addGood 61 = .ok (.getfield 9, 3) := by decide +kernel
theorem dX0_addGood_64 : decode cX0_addGood 64 = .ok (.iload_n 2, 1) := by decide +kernel
theorem dX0_addGood_65 : decode cX0_addGood 65 = .ok (.iconst 1, 1) := by decide +kernel
theorem dX0_addGood_66 : decode cX0_addGood 66 = .ok (.bastore, 1) := by decide +kernel
theorem dX0_addGood_67 : decode cX0_addGood 67 = .ok (.aload_n 0, 1) := by decide +kernel
theorem dX0_addGood_68 : decode cX0_addGood 68 = .ok (.getfield 13, 3) := by decide +kernel
theorem dX0_addGood_71 : decode cX0_addGood 71 = .ok (.iload_n 2, 1) := by decide +kernel
theorem dX0_addGood_72 : decode cX0_addGood 72 = .ok (.iload_n 1, 1) := by decide +kernel
theorem dX0_addGood_73 : decode cX0_addGood 73 = .ok (.iastore, 1) := by decide +kernel
theorem dX0_addGood_74 : decode cX0_addGood 74 = .ok (.iload_n 2, 1) := by decide +kernel
theorem dX0_addGood_75 : decode cX0_addGood 75 = .ok (.ireturn, 1) := by decide +kernel
set_option maxRecDepth 20000 in
theorem ggX0_move_X0_checkGood : GoodIn wsX0_move wsX0_checkGood := goodIn_ca (goodIn_r _ [8, 9, 10, 11, 12, 13, 7, 14, 15, 36, 37, 38, 39, 40, 41, 42, 43, 44, 45, 46, 47, 48, 49, 50, 51] (by decide +kernel) (by decide +kernel)) (goodIn_sub (fun _ h => List.mem_cons_of_mem _ (List.mem_append_right _ h)) (by decide +kernel))
set_option maxRecDepth 20000 in
theorem gX0_move_X0_checkGood : GoodIn wsX0_move (wsV RX0 77 RX0 yX0_checkGood wsX0_checkGood) := goodIn_app (goodIn_of _ (by decide +kernel)) ggX0_move_X0_checkGood
set_option maxRecDepth 20000 in
theorem ggX0_move_X0_checkParent : GoodIn wsX0_move wsX0_checkParent := goodIn_ca (goodIn_r _ [19, 9, 10, 11, 12, 13, 7, 14, 15, 36, 37, 38, 39, 40, 41, 42, 43, 44, 45, 46, 47, 48, 49, 50, 51] (by decide +kernel) (by decide +kernel)) (goodIn_sub (fun _ h => List.mem_cons_of_mem _ (List.mem_append_right _ h)) (by decide +kernel))
set_option maxRecDepth 20000 in
theorem gX0_move_X0_checkParent : GoodIn wsX0_move (wsV RX0 60 RX0 yX0_checkParent wsX0_checkParent) := goodIn_app (goodIn_of _ (by decide +kernel)) ggX0_move_X0_checkParent
set_option maxRecDepth 20000 in
theorem ggX0_move_X0_isWithin : GoodIn wsX0_move wsX0_isWithin := goodIn_r _ [23, 3, 11, 12, 13, 7, 14, 15, 36, 37, 38, 39, 40, 41, 42, 43, 44, 45, 46, 47, 48, 49, 50, 51] (by decide +kernel) (by decide +kernel)
set_option maxRecDepth 20000 in
theorem gX0_move_X0_isWithin : GoodIn wsX0_move (wsV RX0 80 RX0 yX0_isWithin wsX0_isWithin) := goodIn_app (goodIn_of _ (by decide +kernel)) ggX0_move_X0_isWithin
set_option maxRecDepth 20000 in
theorem ggX0_move_X0_levelOf : GoodIn wsX0_move wsX0_levelOf := goodIn_r _ [27, 3, 11, 12, 13, 7, 14, 15, 36, 37, 38, 39, 40, 41, 42, 43, 44, 45, 46, 47, 48, 49, 50, 51] (by decide +kernel) (by decide +kernel)
set_option maxRecDepth 20000 in
theorem gX0_move_X0_levelOf : GoodIn wsX0_move (wsV RX0 64 RX0 yX0_levelOf wsX0_levelOf) := goodIn_app (goodIn_of _ (by decide +kernel)) ggX0_move_X0_levelOf
set_option maxRecDepth 20000 in
theorem ggX0_move_X0_levelsWithin : GoodIn wsX0_move wsX0_levelsWithin := goodIn_r _ [31, 32, 33, 34, 35, 24, 25, 26, 7, 27, 3, 11, 12, 13, 14, 15, 20, 21, 22, 23, 36, 37, 38, 39, 40, 41, 42, 43, 44, 45, 46, 47, 48, 49, 50, 51] (by decide +kernel) (by decide +kernel)
set_option maxRecDepth 20000 in
theorem gX0_move_X0_levelsWithin : GoodIn wsX0_move (wsV RX0 86 RX0 yX0_levelsWithin wsX0_levelsWithin) := goodIn_app (goodIn_of _ (by decide +kernel)) ggX0_move_X0_levelsWithin
theorem dX0_move_0 : decode cX0_move 0 = .ok (.aload_n 0, 1) := by decide +kernel
theorem dX0_move_1 : decode cX0_move 1 = .ok (.iload_n 1, 1) := by decide +kernel
theorem dX0_move_2 : decode cX0_move 2 = .ok (.invokevirtual 77, 3) := by decide +kernel
theorem dX0_move_5 : decode cX0_move 5 = .ok (.aload_n 0, 1) := by decide +kernel
theorem dX0_move_6 : decode cX0_move 6 = .ok (.iload_n 2, 1) := by decide +kernel
theorem dX0_move_7 : decode cX0_move 7 = .ok (.invokevirtual 60, 3) := by decide +kernel
theorem dX0_move_10 : decode cX0_move 10 = .ok (.aload_n 0, 1) := by decide +kernel
theorem dX0_move_11 : decode cX0_move 11 = .ok (.iload_n 2, 1) := by decide +kernel
theorem dX0_move_12 : decode cX0_move 12 = .ok (.iload_n 1, 1) := by decide +kernel
theorem dX0_move_13 : decode cX0_move 13 = .ok (.invokevirtual 80, 3) := by decide +kernel
theorem dX0_move_16 : decode cX0_move 16 = .ok (.ifCond .eq 13, 3) := by decide +kernel
theorem dX0_move_19 : decode cX0_move 19 = .ok (.new 68, 3) := by decide +kernel
theorem dX0_move_22 : decode cX0_move 22 = .ok (.dup, 1) := by decide +kernel
theorem dX0_move_23 : decode cX0_move 23 = .ok (.ldc 84, 2) := by decide +kernel
theorem dX0_move_25 : decode cX0_move 25 = .ok (.invokespecial 72, 3) := by decide +kernel
theorem dX0_move_28 : decode cX0_move 28 = .ok (.athrow, 1) := by decide +kernel
theorem dX0_move_29 : decode cX0_move 29 = .ok (.aload_n 0, 1) := by decide +kernel
theorem dX0_move_30 : decode cX0_move 30 = .ok (.iload_n 2, 1) := by decide +kernel
theorem dX0_move_31 : decode cX0_move 31 = .ok (.invokevirtual 64, 3) := by decide +kernel
theorem dX0_move_34 : decode cX0_move 34 = .ok (.aload_n 0, 1) := by decide +kernel
theorem dX0_move_35 : decode cX0_move 35 = .ok (.iload_n 1, 1) := by decide +kernel
theorem dX0_move_36 : decode cX0_move 36 = .ok (.invokevirtual 86, 3) := by decide +kernel
theorem dX0_move_39 : decode cX0_move 39 = .ok (.iadd, 1) := by decide +kernel
theorem dX0_move_40 : decode cX0_move 40 = .ok (.iconst 3, 1) := by decide +kernel
theorem dX0_move_41 : decode cX0_move 41 = .ok (.if_icmp .lt 13, 3) := by decide +kernel
theorem dX0_move_44 : decode cX0_move 44 = .ok (.new 68, 3) := by decide +kernel
theorem dX0_move_47 : decode cX0_move 47 = .ok (.dup, 1) := by decide +kernel
theorem dX0_move_48 : decode cX0_move 48 = .ok (.ldc 89, 2) := by decide +kernel
theorem dX0_move_50 : decode cX0_move 50 = .ok (.invokespecial 72, 3) := by decide +kernel
theorem dX0_move_53 : decode cX0_move 53 = .ok (.athrow, 1) := by decide +kernel
theorem dX0_move_54 : decode cX0_move 54 = .ok (.aload_n 0, 1) := by decide +kernel
theorem dX0_move_55 : decode cX0_move 55 = .ok (.getfield 13, 3) := by decide +kernel
theorem dX0_move_58 : decode cX0_move 58 = .ok (.iload_n 1, 1) := by decide +kernel
theorem dX0_move_59 : decode cX0_move 59 = .ok (.iaload, 1) := by decide +kernel
theorem dX0_move_60 : decode cX0_move 60 = .ok (.istore_n 3, 1) := by decide +kernel
theorem dX0_move_61 : decode cX0_move 61 = .ok (.aload_n 0, 1) := by decide +kernel
theorem dX0_move_62 : decode cX0_move 62 = .ok (.getfield 13, 3) := by decide +kernel
theorem dX0_move_65 : decode cX0_move 65 = .ok (.iload_n 1, 1) := by decide +kernel
theorem dX0_move_66 : decode cX0_move 66 = .ok (.iload_n 2, 1) := by decide +kernel
theorem dX0_move_67 : decode cX0_move 67 = .ok (.iastore, 1) := by decide +kernel
theorem dX0_move_68 : decode cX0_move 68 = .ok (.iload_n 3, 1) := by decide +kernel
theorem dX0_move_69 : decode cX0_move 69 = .ok (.ireturn, 1) := by decide +kernel
set_option maxRecDepth 20000 in
theorem ggX0_delete_X0_checkGood : GoodIn wsX0_delete wsX0_checkGood := goodIn_ca (goodIn_r _ [10, 11, 12, 13, 14, 15, 9, 16, 3, 48, 49, 50, 51, 52, 53, 54, 55, 56, 57, 58, 59, 60, 61, 62, 63] (by decide +kernel) (by decide +kernel)) (goodIn_sub (fun _ h => List.mem_cons_of_mem _ (List.mem_append_right _ h)) (by decide +kernel))
set_option maxRecDepth 20000 in
theorem gX0_delete_X0_checkGood : GoodIn wsX0_delete (wsV RX0 77 RX0 yX0_checkGood wsX0_checkGood) := goodIn_app (goodIn_of _ (by decide +kernel)) ggX0_delete_X0_checkGood
set_option maxRecDepth 20000 in
theorem ggX0_delete_X0_isParent : GoodIn wsX0_delete wsX0_isParent := goodIn_r _ [20, 4, 48, 49, 50, 51, 52, 53, 54, 55, 56, 57, 58, 59, 60, 61, 62, 63] (by decide +kernel) (by decide +kernel)
set_option maxRecDepth 20000 in
theorem gX0_delete_X0_isParent : GoodIn wsX0_delete (wsV RX0 91 RX0 yX0_isParent wsX0_isParent) := goodIn_app (goodIn_of _ (by decide +kernel)) ggX0_delete_X0_isParent
set_option maxRecDepth 20000 in
theorem ggX0_delete_X0_isPart : GoodIn wsX0_delete wsX0_isPart := goodIn_r _ [24, 5, 48, 49, 50, 51, 52, 53, 54, 55, 56, 57, 58, 59, 60, 61, 62, 63] (by decide +kernel) (by decide +kernel)
set_option maxRecDepth 20000 in
theorem gX0_delete_X0_isPart : GoodIn wsX0_delete (wsV RX0 97 RX0 yX0_isPart wsX0_isPart) := goodIn_app (goodIn_of _ (by decide +kernel)) ggX0_delete_X0_isPart
set_option maxRecDepth 20000 in
theorem ggX0_delete_X0_deleteDraftsOf : GoodIn wsX0_delete wsX0_deleteDraftsOf := goodIn_r _ [28, 29, 30, 31, 48, 49, 50, 51, 52, 53, 54, 55, 56, 57, 58, 59, 60, 61, 62, 63] (by decide +kernel) (by decide +kernel)
set_option maxRecDepth 20000 in
theorem gX0_delete_X0_deleteDraftsOf : GoodIn wsX0_delete (wsV RX0 102 RX0 yX0_deleteDraftsOf wsX0_deleteDraftsOf) := goodIn_app (goodIn_of _ (by decide +kernel)) ggX0_delete_X0_deleteDraftsOf
set_option maxRecDepth 20000 in
theorem ggX0_delete_X0_settleHolders : GoodIn wsX0_delete wsX0_settleHolders := goodIn_r _ [35, 36, 29, 31, 37, 38, 39, 40, 41, 9, 42, 43, 44, 45, 46, 47, 48, 49, 50, 51, 52, 53, 54, 55, 56, 57, 58, 59, 60, 61, 62, 63] (by decide +kernel) (by decide +kernel)
set_option maxRecDepth 20000 in
theorem gX0_delete_X0_settleHolders : GoodIn wsX0_delete (wsV RX0 105 RX0 yX0_settleHolders wsX0_settleHolders) := goodIn_app (goodIn_of _ (by decide +kernel)) ggX0_delete_X0_settleHolders
theorem dX0_delete_0 : decode cX0_delete 0 = .ok (.aload_n 0, 1) := by decide +kernel
theorem dX0_delete_1 : decode cX0_delete 1 = .ok (.iload_n 1, 1) := by decide +kernel
theorem dX0_delete_2 : decode cX0_delete 2 = .ok (.invokevirtual 77, 3) := by decide +kernel
theorem dX0_delete_5 : decode cX0_delete 5 = .ok (.aload_n 0, 1) := by decide +kernel
theorem dX0_delete_6 : decode cX0_delete 6 = .ok (.iload_n 1, 1) := by decide +kernel
theorem dX0_delete_7 : decode cX0_delete 7 = .ok (.invokevirtual 91, 3) := by decide +kernel
theorem dX0_delete_10 : decode cX0_delete 10 = .ok (.ifCond .eq 13, 3) := by decide +kernel
theorem dX0_delete_13 : decode cX0_delete 13 = .ok (.new 68, 3) := by decide +kernel
theorem dX0_delete_16 : decode cX0_delete 16 = .ok (.dup, 1) := by decide +kernel
theorem dX0_delete_17 : decode cX0_delete 17 = .ok (.ldc 95, 2) := by decide +kernel
theorem dX0_delete_19 : decode cX0_delete 19 = .ok (.invokespecial 72, 3) := by decide +kernel
theorem dX0_delete_22 : decode cX0_delete 22 = .ok (.athrow, 1) := by decide +kernel
theorem dX0_delete_23 : decode cX0_delete 23 = .ok (.aload_n 0, 1) := by decide +kernel
theorem dX0_delete_24 : decode cX0_delete 24 = .ok (.iload_n 1, 1) := by decide +kernel
theorem dX0_delete_25 : decode cX0_delete 25 = .ok (.invokevirtual 97, 3) := by decide +kernel
theorem dX0_delete_28 : decode cX0_delete 28 = .ok (.ifCond .eq 13, 3) := by decide +kernel
theorem dX0_delete_31 : decode cX0_delete 31 = .ok (.new 68, 3) := by decide +kernel
theorem dX0_delete_34 : decode cX0_delete 34 = .ok (.dup, 1) := by decide +kernel
theorem dX0_delete_35 : decode cX0_delete 35 = .ok (.ldc 100, 2) := by decide +kernel
theorem dX0_delete_37 : decode cX0_delete 37 = .ok (.invokespecial 72, 3) := by decide +kernel
theorem dX0_delete_40 : decode cX0_delete 40 = .ok (.athrow, 1) := by decide +kernel
theorem dX0_delete_41 : decode cX0_delete 41 = .ok (.aload_n 0, 1) := by decide +kernel
theorem dX0_delete_42 : decode cX0_delete 42 = .ok (.getfield 9, 3) := by decide +kernel
theorem dX0_delete_45 : decode cX0_delete 45 = .ok (.iload_n 1, 1) := by decide +kernel
theorem dX0_delete_46 : decode cX0_delete 46 = .ok (.iconst 0, 1) := by decide +kernel
theorem dX0_delete_47 : decode cX0_delete 47 = .ok (.bastore, 1) := by decide +kernel
theorem dX0_delete_48 : decode cX0_delete 48 = .ok (.aload_n 0, 1) := by decide +kernel
theorem dX0_delete_49 : decode cX0_delete 49 = .ok (.getfield 13, 3) := by decide +kernel
theorem dX0_delete_52 : decode cX0_delete 52 = .ok (.iload_n 1, 1) := by decide +kernel
theorem dX0_delete_53 : decode cX0_delete 53 = .ok (.iconst (-1), 1) := by decide +kernel
theorem dX0_delete_54 : decode cX0_delete 54 = .ok (.iastore, 1) := by decide +kernel
theorem dX0_delete_55 : decode cX0_delete 55 = .ok (.iconst 0, 1) := by decide +kernel
theorem dX0_delete_56 : decode cX0_delete 56 = .ok (.istore_n 2, 1) := by decide +kernel
theorem dX0_delete_57 : decode cX0_delete 57 = .ok (.iload_n 2, 1) := by decide +kernel
theorem dX0_delete_58 : decode cX0_delete 58 = .ok (.bipush 16, 2) := by decide +kernel
theorem dX0_delete_60 : decode cX0_delete 60 = .ok (.if_icmp .ge 21, 3) := by decide +kernel
theorem dX0_delete_63 : decode cX0_delete 63 = .ok (.aload_n 0, 1) := by decide +kernel
theorem dX0_delete_64 : decode cX0_delete 64 = .ok (.getfield 20, 3) := by decide +kernel
theorem dX0_delete_67 : decode cX0_delete 67 = .ok (.iload_n 1, 1) := by decide +kernel
theorem dX0_delete_68 : decode cX0_delete 68 = .ok (.bipush 16, 2) := by decide +kernel
theorem dX0_delete_70 : decode cX0_delete 70 = .ok (.imul, 1) := by decide +kernel
theorem dX0_delete_71 : decode cX0_delete 71 = .ok (.iload_n 2, 1) := by decide +kernel
theorem dX0_delete_72 : decode cX0_delete 72 = .ok (.iadd, 1) := by decide +kernel
theorem dX0_delete_73 : decode cX0_delete 73 = .ok (.iconst 0, 1) := by decide +kernel
theorem dX0_delete_74 : decode cX0_delete 74 = .ok (.iastore, 1) := by decide +kernel
theorem dX0_delete_75 : decode cX0_delete 75 = .ok (.iinc 2 1, 3) := by decide +kernel
theorem dX0_delete_78 : decode cX0_delete 78 = .ok (.goto (-21), 3) := by decide +kernel
theorem dX0_delete_81 : decode cX0_delete 81 = .ok (.aload_n 0, 1) := by decide +kernel
theorem dX0_delete_82 : decode cX0_delete 82 = .ok (.iload_n 1, 1) := by decide +kernel
theorem dX0_delete_83 : decode cX0_delete 83 = .ok (.invokevirtual 102, 3) := by decide +kernel
theorem dX0_delete_86 : decode cX0_delete 86 = .ok (.aload_n 0, 1) := by decide +kernel
theorem dX0_delete_87 : decode cX0_delete 87 = .ok (.invokevirtual 105, 3) := by decide +kernel
theorem dX0_delete_90 : decode cX0_delete 90 = .ok (.return_, 1) := by decide +kernel
set_option maxRecDepth 20000 in
theorem ggX0_addPart_X0_checkGood : GoodIn wsX0_addPart wsX0_checkGood := goodIn_ca (goodIn_r _ [10, 11, 12, 13, 14, 15, 9, 16, 17, 18, 19, 20, 21, 22, 23, 24, 25, 26, 27, 28, 29, 30, 31, 32, 33] (by decide +kernel) (by decide +kernel)) (goodIn_sub (fun _ h => List.mem_cons_of_mem _ (List.mem_append_right _ h)) (by decide +kernel))
set_option maxRecDepth 20000 in
theorem gX0_addPart_X0_checkGood : GoodIn wsX0_addPart (wsV RX0 77 RX0 yX0_checkGood wsX0_checkGood) := goodIn_app (goodIn_of _ (by decide +kernel)) ggX0_addPart_X0_checkGood
theorem dX0_addPart_0 : decode cX0_addPart 0 = .ok (.aload_n 0, 1) := by decide +kernel
theorem dX0_addPart_1 : decode cX0_addPart 1 = .ok (.iload_n 1, 1) := by decide +kernel
theorem dX0_addPart_2 : decode cX0_addPart 2 = .ok (.invokevirtual 77, 3) := by decide +kernel
theorem dX0_addPart_5 : decode cX0_addPart 5 = .ok (.aload_n 0, 1) := by decide +kernel
theorem dX0_addPart_6 : decode cX0_addPart 6 = .ok (.iload_n 2, 1) := by decide +kernel
theorem dX0_addPart_7 : decode cX0_addPart 7 = .ok (.invokevirtual 77, 3) := by decide +kernel
theorem dX0_addPart_10 : decode cX0_addPart 10 = .ok (.iload_n 2, 1) := by decide +kernel
theorem dX0_addPart_11 : decode cX0_addPart 11 = .ok (.iload_n 1, 1) := by decide +kernel
theorem dX0_addPart_12 : decode cX0_addPart 12 = .ok (.if_icmp .lt 13, 3) := by decide +kernel
theorem dX0_addPart_15 : decode cX0_addPart 15 = .ok (.new 108, 3) := by decide +kernel
theorem dX0_addPart_18 : decode cX0_addPart 18 = .ok (.dup, 1) := by decide +kernel
theorem dX0_addPart_19 : decode cX0_addPart 19 = .ok (.ldc 110, 2) := by decide +kernel
theorem dX0_addPart_21 : decode cX0_addPart 21 = .ok (.invokespecial 112, 3) := by decide +kernel
theorem dX0_addPart_24 : decode cX0_addPart 24 = .ok (.athrow, 1) := by decide +kernel
theorem dX0_addPart_25 : decode cX0_addPart 25 = .ok (.iload_n 3, 1) := by decide +kernel
theorem dX0_addPart_26 : decode cX0_addPart 26 = .ok (.iconst 1, 1) := by decide +kernel
theorem dX0_addPart_27 : decode cX0_addPart 27 = .ok (.if_icmp .lt 9, 3) := by decide +kernel
theorem dX0_addPart_30 : decode cX0_addPart 30 = .ok (.iload_n 3, 1) := by decide +kernel
theorem dX0_addPart_31 : decode cX0_addPart 31 = .ok (.bipush 20, 2) := by decide +kernel
theorem dX0_addPart_33 : decode cX0_addPart 33 = .ok (.if_icmp .le 13, 3) := by decide +kernel
theorem dX0_addPart_36 : decode cX0_addPart 36 = .ok (.new 108, 3) := by decide +kernel
theorem dX0_addPart_39 : decode cX0_addPart 39 = .ok (.dup, 1) := by decide +kernel
theorem dX0_addPart_40 : decode cX0_addPart 40 = .ok (.ldc 113, 2) := by decide +kernel
theorem dX0_addPart_42 : decode cX0_addPart 42 = .ok (.invokespecial 112, 3) := by decide +kernel
theorem dX0_addPart_45 : decode cX0_addPart 45 = .ok (.athrow, 1) := by decide +kernel
theorem dX0_addPart_46 : decode cX0_addPart 46 = .ok (.iload_n 1, 1) := by decide +kernel
theorem dX0_addPart_47 : decode cX0_addPart 47 = .ok (.bipush 16, 2) := by decide +kernel
theorem dX0_addPart_49 : decode cX0_addPart 49 = .ok (.imul, 1) := by decide +kernel
theorem dX0_addPart_50 : decode cX0_addPart 50 = .ok (.iload_n 2, 1) := by decide +kernel
theorem dX0_addPart_51 : decode cX0_addPart 51 = .ok (.iadd, 1) := by decide +kernel
theorem dX0_addPart_52 : decode cX0_addPart 52 = .ok (.istore 4, 2) := by decide +kernel
theorem dX0_addPart_54 : decode cX0_addPart 54 = .ok (.aload_n 0, 1) := by decide +kernel
theorem dX0_addPart_55 : decode cX0_addPart 55 = .ok (.getfield 20, 3) := by decide +kernel
theorem dX0_addPart_58 : decode cX0_addPart 58 = .ok (.iload 4, 2) := by decide +kernel
theorem dX0_addPart_60 : decode cX0_addPart 60 = .ok (.iaload, 1) := by decide +kernel
theorem dX0_addPart_61 : decode cX0_addPart 61 = .ok (.iload_n 3, 1) := by decide +kernel
theorem dX0_addPart_62 : decode cX0_addPart 62 = .ok (.iadd, 1) := by decide +kernel
theorem dX0_addPart_63 : decode cX0_addPart 63 = .ok (.istore 5, 2) := by decide +kernel
theorem dX0_addPart_65 : decode cX0_addPart 65 = .ok (.iload 5, 2) := by decide +kernel
theorem dX0_addPart_67 : decode cX0_addPart 67 = .ok (.bipush 20, 2) := by decide +kernel
theorem dX0_addPart_69 : decode cX0_addPart 69 = .ok (.if_icmp .le 13, 3) := by decide +kernel
theorem dX0_addPart_72 : decode cX0_addPart 72 = .ok (.new 68, 3) := by decide +kernel
theorem dX0_addPart_75 : decode cX0_addPart 75 = .ok (.dup, 1) := by decide +kernel
theorem dX0_addPart_76 : decode cX0_addPart 76 = .ok (.ldc 115, 2) := by decide +kernel
theorem dX0_addPart_78 : decode cX0_addPart 78 = .ok (.invokespecial 72, 3) := by decide +kernel
theorem dX0_addPart_81 : decode cX0_addPart 81 = .ok (.athrow, 1) := by decide +kernel
theorem dX0_addPart_82 : decode cX0_addPart 82 = .ok (.aload_n 0, 1) := by decide +kernel
theorem dX0_addPart_83 : decode cX0_addPart 83 = .ok (.getfield 20, 3) := by decide +kernel
theorem dX0_addPart_86 : decode cX0_addPart 86 = .ok (.iload 4, 2) := by decide +kernel
theorem dX0_addPart_88 : decode cX0_addPart 88 = .ok (.iload 5, 2) := by decide +kernel
theorem dX0_addPart_90 : decode cX0_addPart 90 = .ok (.iastore, 1) := by decide +kernel
theorem dX0_addPart_91 : decode cX0_addPart 91 = .ok (.iload 5, 2) := by decide +kernel
theorem dX0_addPart_93 : decode cX0_addPart 93 = .ok (.ireturn, 1) := by decide +kernel
set_option maxRecDepth 20000 in
theorem ggX0_setDiscount_X0_checkGood : GoodIn wsX0_setDiscount wsX0_checkGood := goodIn_ca (goodIn_r _ [8, 9, 10, 11, 12, 13, 7, 14, 15, 16, 17, 18, 19, 20, 21, 22, 23, 24, 25, 26, 27, 28, 29, 30, 31] (by decide +kernel) (by decide +kernel)) (goodIn_sub (fun _ h => List.mem_cons_of_mem _ (List.mem_append_right _ h)) (by decide +kernel))
set_option maxRecDepth 20000 in
theorem gX0_setDiscount_X0_checkGood : GoodIn wsX0_setDiscount (wsV RX0 77 RX0 yX0_checkGood wsX0_checkGood) := goodIn_app (goodIn_of _ (by decide +kernel)) ggX0_setDiscount_X0_checkGood
theorem dX0_setDiscount_0 : decode cX0_setDiscount 0 = .ok (.aload_n 0, 1) := by decide +kernel
theorem dX0_setDiscount_1 : decode cX0_setDiscount 1 = .ok (.iload_n 1, 1) := by decide +kernel
theorem dX0_setDiscount_2 : decode cX0_setDiscount 2 = .ok (.invokevirtual 77, 3) := by decide +kernel
theorem dX0_setDiscount_5 : decode cX0_setDiscount 5 = .ok (.iload_n 2, 1) := by decide +kernel
theorem dX0_setDiscount_6 : decode cX0_setDiscount 6 = .ok (.ifCond .lt 9, 3) := by decide +kernel
theorem dX0_setDiscount_9 : decode cX0_setDiscount 9 = .ok (.iload_n 2, 1) := by decide +kernel
theorem dX0_setDiscount_10 : decode cX0_setDiscount 10 = .ok (.bipush 100, 2) := by decide +kernel
theorem dX0_setDiscount_12 : decode cX0_setDiscount 12 = .ok (.if_icmp .le 13, 3) := by decide +kernel
theorem dX0_setDiscount_15 : decode cX0_setDiscount 15 = .ok (.new 108, 3) := by decide +kernel
theorem dX0_setDiscount_18 : decode cX0_setDiscount 18 = .ok (.dup, 1) := by decide +kernel
theorem dX0_setDiscount_19 : decode cX0_setDiscount 19 = .ok (.ldc 117, 2) := by decide +kernel
theorem dX0_setDiscount_21 : decode cX0_setDiscount 21 = .ok (.invokespecial 112, 3) := by decide +kernel
theorem dX0_setDiscount_24 : decode cX0_setDiscount 24 = .ok (.athrow, 1) := by decide +kernel
theorem dX0_setDiscount_25 : decode cX0_setDiscount 25 = .ok (.aload_n 0, 1) := by decide +kernel
theorem dX0_setDiscount_26 : decode cX0_setDiscount 26 = .ok (.getfield 17, 3) := by decide +kernel
theorem dX0_setDiscount_29 : decode cX0_setDiscount 29 = .ok (.iload_n 1, 1) := by decide +kernel
theorem dX0_setDiscount_30 : decode cX0_setDiscount 30 = .ok (.iaload, 1) := by decide +kernel
theorem dX0_setDiscount_31 : decode cX0_setDiscount 31 = .ok (.istore_n 3, 1) := by decide +kernel
theorem dX0_setDiscount_32 : decode cX0_setDiscount 32 = .ok (.aload_n 0, 1) := by decide +kernel
theorem dX0_setDiscount_33 : decode cX0_setDiscount 33 = .ok (.getfield 17, 3) := by decide +kernel
theorem dX0_setDiscount_36 : decode cX0_setDiscount 36 = .ok (.iload_n 1, 1) := by decide +kernel
theorem dX0_setDiscount_37 : decode cX0_setDiscount 37 = .ok (.iload_n 2, 1) := by decide +kernel
theorem dX0_setDiscount_38 : decode cX0_setDiscount 38 = .ok (.iastore, 1) := by decide +kernel
theorem dX0_setDiscount_39 : decode cX0_setDiscount 39 = .ok (.iload_n 3, 1) := by decide +kernel
theorem dX0_setDiscount_40 : decode cX0_setDiscount 40 = .ok (.ireturn, 1) := by decide +kernel
theorem dX0_isGood_0 : decode cX0_isGood 0 = .ok (.iload_n 1, 1) := by decide +kernel
theorem dX0_isGood_1 : decode cX0_isGood 1 = .ok (.ifCond .lt 22, 3) := by decide +kernel
theorem dX0_isGood_4 : decode cX0_isGood 4 = .ok (.iload_n 1, 1) := by decide +kernel
theorem dX0_isGood_5 : decode cX0_isGood 5 = .ok (.bipush 16, 2) := by decide +kernel
theorem dX0_isGood_7 : decode cX0_isGood 7 = .ok (.if_icmp .ge 16, 3) := by decide +kernel
theorem dX0_isGood_10 : decode cX0_isGood 10 = .ok (.aload_n 0, 1) := by decide +kernel
theorem dX0_isGood_11 : decode cX0_isGood 11 = .ok (.getfield 9, 3) := by decide +kernel
theorem dX0_isGood_14 : decode cX0_isGood 14 = .ok (.iload_n 1, 1) := by decide +kernel
theorem dX0_isGood_15 : decode cX0_isGood 15 = .ok (.baload, 1) := by decide +kernel
theorem dX0_isGood_16 : decode cX0_isGood 16 = .ok (.ifCond .eq 7, 3) := by decide +kernel
theorem dX0_isGood_19 : decode cX0_isGood 19 = .ok (.iconst 1, 1) := by decide +kernel
theorem dX0_isGood_20 : decode cX0_isGood 20 = .ok (.goto 4, 3) := by decide +kernel
theorem dX0_isGood_23 : decode cX0_isGood 23 = .ok (.iconst 0, 1) := by decide +kernel
theorem dX0_isGood_24 : decode cX0_isGood 24 = .ok (.ireturn, 1) := by decide +kernel
set_option maxRecDepth 20000 in
theorem ggX0_checkGood_X0_isGood : GoodIn wsX0_checkGood wsX0_isGood := goodIn_r _ [7, 8, 9, 10, 11, 12, 13, 14, 15, 16, 17, 18, 19, 20, 21, 22, 23, 24] (by decide +kernel) (by decide +kernel)
set_option maxRecDepth 20000 in
theorem gX0_checkGood_X0_isGood : GoodIn wsX0_checkGood (wsV RX0 119 RX0 yX0_isGood wsX0_isGood) := goodIn_app (goodIn_of _ (by decide +kernel)) ggX0_checkGood_X0_isGood
theorem dX0_checkGood_0 : decode cX0_checkGood 0 = .ok (.aload_n 0, 1) := by decide +kernel
theorem dX0_checkGood_1 : decode cX0_checkGood 1 = .ok (.iload_n 1, 1) := by decide +kernel
theorem dX0_checkGood_2 : decode cX0_checkGood 2 = .ok (.invokevirtual 119, 3) := by decide +kernel
theorem dX0_checkGood_5 : decode cX0_checkGood 5 = .ok (.ifCond .ne 13, 3) := by decide +kernel
theorem dX0_checkGood_8 : decode cX0_checkGood 8 = .ok (.new 122, 3) := by decide +kernel
theorem dX0_checkGood_11 : decode cX0_checkGood 11 = .ok (.dup, 1) := by decide +kernel
theorem dX0_checkGood_12 : decode cX0_checkGood 12 = .ok (.ldc 124, 2) := by decide +kernel
theorem dX0_checkGood_14 : decode cX0_checkGood 14 = .ok (.invokespecial 126, 3) := by decide +kernel
theorem dX0_checkGood_17 : decode cX0_checkGood 17 = .ok (.athrow, 1) := by decide +kernel
theorem dX0_checkGood_18 : decode cX0_checkGood 18 = .ok (.return_, 1) := by decide +kernel
set_option maxRecDepth 20000 in
theorem ggX0_checkParent_X0_isGood : GoodIn wsX0_checkParent wsX0_isGood := goodIn_r _ [7, 8, 9, 10, 11, 12, 13, 14, 15, 16, 17, 18, 19, 20, 21, 22, 23, 24] (by decide +kernel) (by decide +kernel)
set_option maxRecDepth 20000 in
theorem gX0_checkParent_X0_isGood : GoodIn wsX0_checkParent (wsV RX0 119 RX0 yX0_isGood wsX0_isGood) := goodIn_app (goodIn_of _ (by decide +kernel)) ggX0_checkParent_X0_isGood
theorem dX0_checkParent_0 : decode cX0_checkParent 0 = .ok (.iload_n 1, 1) := by decide +kernel
theorem dX0_checkParent_1 : decode cX0_checkParent 1 = .ok (.iconst (-1), 1) := by decide +kernel
theorem dX0_checkParent_2 : decode cX0_checkParent 2 = .ok (.if_icmp .eq 21, 3) := by decide +kernel
theorem dX0_checkParent_5 : decode cX0_checkParent 5 = .ok (.aload_n 0, 1) := by decide +kernel
theorem dX0_checkParent_6 : decode cX0_checkParent 6 = .ok (.iload_n 1, 1) := by decide +kernel
theorem dX0_checkParent_7 : decode cX0_checkParent 7 = .ok (.invokevirtual 119, 3) := by decide +kernel
theorem dX0_checkParent_10 : decode cX0_checkParent 10 = .ok (.ifCond .ne 13, 3) := by decide +kernel
theorem dX0_checkParent_13 : decode cX0_checkParent 13 = .ok (.new 122, 3) := by decide +kernel
theorem dX0_checkParent_16 : decode cX0_checkParent 16 = .ok (.dup, 1) := by decide +kernel
theorem dX0_checkParent_17 : decode cX0_checkParent 17 = .ok (.ldc 127, 2) := by decide +kernel
theorem dX0_checkParent_19 : decode cX0_checkParent 19 = .ok (.invokespecial 126, 3) := by decide +kernel
theorem dX0_checkParent_22 : decode cX0_checkParent 22 = .ok (.athrow, 1) := by decide +kernel
theorem dX0_checkParent_23 : decode cX0_checkParent 23 = .ok (.return_, 1) := by decide +kernel
set_option maxRecDepth 20000 in
theorem ggX0_levelOf_X0_isGood : GoodIn wsX0_levelOf wsX0_isGood := goodIn_r _ [6, 7, 8, 9, 10, 11, 12, 13, 14, 15, 16, 17, 18, 19, 20, 21, 22, 23] (by decide +kernel) (by decide +kernel)
set_option maxRecDepth 20000 in
theorem gX0_levelOf_X0_isGood : GoodIn wsX0_levelOf (wsV RX0 119 RX0 yX0_isGood wsX0_isGood) := goodIn_app (goodIn_of _ (by decide +kernel)) ggX0_levelOf_X0_isGood
theorem dX0_levelOf_0 : decode cX0_levelOf 0 = .ok (.iconst (-1), 1) := by decide +kernel
theorem dX0_levelOf_1 : decode cX0_levelOf 1 = .ok (.istore_n 2, 1) := by decide +kernel
theorem dX0_levelOf_2 : decode cX0_levelOf 2 = .ok (.iload_n 1, 1) := by decide +kernel
theorem dX0_levelOf_3 : decode cX0_levelOf 3 = .ok (.istore_n 3, 1) := by decide +kernel
theorem dX0_levelOf_4 : decode cX0_levelOf 4 = .ok (.iconst 0, 1) := by decide +kernel
theorem dX0_levelOf_5 : decode cX0_levelOf 5 = .ok (.istore 4, 2) := by decide +kernel
theorem dX0_levelOf_7 : decode cX0_levelOf 7 = .ok (.iload 4, 2) := by decide +kernel
theorem dX0_levelOf_9 : decode cX0_levelOf 9 = .ok (.iconst 3, 1) := by decide +kernel
theorem dX0_levelOf_10 : decode cX0_levelOf 10 = .ok (.if_icmp .ge 27, 3) := by decide +kernel
theorem dX0_levelOf_13 : decode cX0_levelOf 13 = .ok (.aload_n 0, 1) := by decide +kernel
theorem dX0_levelOf_14 : decode cX0_levelOf 14 = .ok (.iload_n 3, 1) := by decide +kernel
theorem dX0_levelOf_15 : decode cX0_levelOf 15 = .ok (.invokevirtual 119, 3) := by decide +kernel
theorem dX0_levelOf_18 : decode cX0_levelOf 18 = .ok (.ifCond .eq 19, 3) := by decide +kernel
theorem dX0_levelOf_21 : decode cX0_levelOf 21 = .ok (.iinc 2 1, 3) := by decide +kernel
theorem dX0_levelOf_24 : decode cX0_levelOf 24 = .ok (.aload_n 0, 1) := by decide +kernel
theorem dX0_levelOf_25 : decode cX0_levelOf 25 = .ok (.getfield 13, 3) := by decide +kernel
theorem dX0_levelOf_28 : decode cX0_levelOf 28 = .ok (.iload_n 3, 1) := by decide +kernel
theorem dX0_levelOf_29 : decode cX0_levelOf 29 = .ok (.iaload, 1) := by decide +kernel
theorem dX0_levelOf_30 : decode cX0_levelOf 30 = .ok (.istore_n 3, 1) := by decide +kernel
theorem dX0_levelOf_31 : decode cX0_levelOf 31 = .ok (.iinc 4 1, 3) := by decide +kernel
theorem dX0_levelOf_34 : decode cX0_levelOf 34 = .ok (.goto (-27), 3) := by decide +kernel
theorem dX0_levelOf_37 : decode cX0_levelOf 37 = .ok (.iload_n 2, 1) := by decide +kernel
theorem dX0_levelOf_38 : decode cX0_levelOf 38 = .ok (.ireturn, 1) := by decide +kernel
set_option maxRecDepth 20000 in
theorem ggX0_isWithin_X0_isGood : GoodIn wsX0_isWithin wsX0_isGood := goodIn_r _ [6, 7, 8, 9, 10, 11, 12, 13, 14, 15, 16, 17, 18, 19, 20, 21, 22, 23] (by decide +kernel) (by decide +kernel)
set_option maxRecDepth 20000 in
theorem gX0_isWithin_X0_isGood : GoodIn wsX0_isWithin (wsV RX0 119 RX0 yX0_isGood wsX0_isGood) := goodIn_app (goodIn_of _ (by decide +kernel)) ggX0_isWithin_X0_isGood
theorem dX0_isWithin_0 : decode cX0_isWithin 0 = .ok (.iload_n 1, 1) := by decide +kernel
theorem dX0_isWithin_1 : decode cX0_isWithin 1 = .ok (.istore_n 3, 1) := by decide +kernel
theorem dX0_isWithin_2 : decode cX0_isWithin 2 = .ok (.iconst 0, 1) := by decide +kernel
theorem dX0_isWithin_3 : decode cX0_isWithin 3 = .ok (.istore 4, 2) := by decide +kernel
theorem dX0_isWithin_5 : decode cX0_isWithin 5 = .ok (.iload 4, 2) := by decide +kernel
theorem dX0_isWithin_7 : decode cX0_isWithin 7 = .ok (.iconst 3, 1) := by decide +kernel
theorem dX0_isWithin_8 : decode cX0_isWithin 8 = .ok (.if_icmp .ge 31, 3) := by decide +kernel
theorem dX0_isWithin_11 : decode cX0_isWithin 11 = .ok (.aload_n 0, 1) := by decide +kernel
theorem dX0_isWithin_12 : decode cX0_isWithin 12 = .ok (.iload_n 3, 1) := by decide +kernel
theorem dX0_isWithin_13 : decode cX0_isWithin 13 = .ok (.invokevirtual 119, 3) := by decide +kernel
theorem dX0_isWithin_16 : decode cX0_isWithin 16 = .ok (.ifCond .eq 23, 3) := by decide +kernel
theorem dX0_isWithin_19 : decode cX0_isWithin 19 = .ok (.iload_n 3, 1) := by decide +kernel
theorem dX0_isWithin_20 : decode cX0_isWithin 20 = .ok (.iload_n 2, 1) := by decide +kernel
theorem dX0_isWithin_21 : decode cX0_isWithin 21 = .ok (.if_icmp .ne 5, 3) := by decide +kernel
theorem dX0_isWithin_24 : decode cX0_isWithin 24 = .ok (.iconst 1, 1) := by decide +kernel
theorem dX0_isWithin_25 : decode cX0_isWithin 25 = .ok (.ireturn, 1) := by decide +kernel
theorem dX0_isWithin_26 : decode cX0_isWithin 26 = .ok (.aload_n 0, 1) := by decide +kernel
theorem dX0_isWithin_27 : decode cX0_isWithin 27 = .ok (.getfield 13, 3) := by decide +kernel
theorem dX0_isWithin_30 : decode cX0_isWithin 30 = .ok (.iload_n 3, 1) := by decide +kernel
theorem dX0_isWithin_31 : decode cX0_isWithin 31 = .ok (.iaload, 1) := by decide +kernel
theorem dX0_isWithin_32 : decode cX0_isWithin 32 = .ok (.istore_n 3, 1) := by decide +kernel
theorem dX0_isWithin_33 : decode cX0_isWithin 33 = .ok (.iinc 4 1, 3) := by decide +kernel
theorem dX0_isWithin_36 : decode cX0_isWithin 36 = .ok (.goto (-31), 3) := by decide +kernel
theorem dX0_isWithin_39 : decode cX0_isWithin 39 = .ok (.iconst 0, 1) := by decide +kernel
theorem dX0_isWithin_40 : decode cX0_isWithin 40 = .ok (.ireturn, 1) := by decide +kernel
set_option maxRecDepth 20000 in
theorem ggX0_levelsWithin_X0_levelOf : GoodIn wsX0_levelsWithin wsX0_levelOf := goodIn_r _ [9, 10, 11, 12, 13, 8, 14, 15, 20, 21, 22, 23, 24, 25, 26, 27, 28, 29, 30, 31, 32, 33, 34, 35] (by decide +kernel) (by decide +kernel)
set_option maxRecDepth 20000 in
theorem gX0_levelsWithin_X0_levelOf : GoodIn wsX0_levelsWithin (wsV RX0 64 RX0 yX0_levelOf wsX0_levelOf) := goodIn_app (goodIn_of _ (by decide +kernel)) ggX0_levelsWithin_X0_levelOf
set_option maxRecDepth 20000 in
theorem ggX0_levelsWithin_X0_isWithin : GoodIn wsX0_levelsWithin wsX0_isWithin := goodIn_r _ [19, 10, 11, 12, 13, 8, 14, 15, 20, 21, 22, 23, 24, 25, 26, 27, 28, 29, 30, 31, 32, 33, 34, 35] (by decide +kernel) (by decide +kernel)
set_option maxRecDepth 20000 in
theorem gX0_levelsWithin_X0_isWithin : GoodIn wsX0_levelsWithin (wsV RX0 80 RX0 yX0_isWithin wsX0_isWithin) := goodIn_app (goodIn_of _ (by decide +kernel)) ggX0_levelsWithin_X0_isWithin
theorem dX0_levelsWithin_0 : decode cX0_levelsWithin 0 = .ok (.aload_n 0, 1) := by decide +kernel
theorem dX0_levelsWithin_1 : decode cX0_levelsWithin 1 = .ok (.iload_n 1, 1) := by decide +kernel
theorem dX0_levelsWithin_2 : decode cX0_levelsWithin 2 = .ok (.invokevirtual 64, 3) := by decide +kernel
theorem dX0_levelsWithin_5 : decode cX0_levelsWithin 5 = .ok (.istore_n 2, 1) := by decide +kernel
theorem dX0_levelsWithin_6 : decode cX0_levelsWithin 6 = .ok (.iconst 0, 1) := by decide +kernel
theorem dX0_levelsWithin_7 : decode cX0_levelsWithin 7 = .ok (.istore_n 3, 1) := by decide +kernel
theorem dX0_levelsWithin_8 : decode cX0_levelsWithin 8 = .ok (.iload_n 3, 1) := by decide +kernel
theorem dX0_levelsWithin_9 : decode cX0_levelsWithin 9 = .ok (.bipush 16, 2) := by decide +kernel
theorem dX0_levelsWithin_11 : decode cX0_levelsWithin 11 = .ok (.if_icmp .ge 28, 3) := by decide +kernel
theorem dX0_levelsWithin_14 : decode cX0_levelsWithin 14 = .ok (.aload_n 0, 1) := by decide +kernel
theorem dX0_levelsWithin_15 : decode cX0_levelsWithin 15 = .ok (.iload_n 3, 1) := by decide +kernel
theorem dX0_levelsWithin_16 : decode cX0_levelsWithin 16 = .ok (.iload_n 1, 1) := by decide +kernel
theorem dX0_levelsWithin_17 : decode cX0_levelsWithin 17 = .ok (.invokevirtual 80, 3) := by decide +kernel
theorem dX0_levelsWithin_20 : decode cX0_levelsWithin 20 = .ok (.ifCond .eq 13, 3) := by decide +kernel
theorem dX0_levelsWithin_23 : decode cX0_levelsWithin 23 = .ok (.iload_n 2, 1) := by decide +kernel
theorem dX0_levelsWithin_24 : decode cX0_levelsWithin 24 = .ok (.aload_n 0, 1) := by decide +kernel
theorem dX0_levelsWithin_25 : decode cX0_levelsWithin 25 = .ok (.iload_n 3, 1) := by decide +kernel
theorem dX0_levelsWithin_26 : decode cX0_levelsWithin 26 = .ok (.invokevirtual 64, 3) := by decide +kernel
theorem dX0_levelsWithin_29 : decode cX0_levelsWithin 29 = .ok (.invokestatic 129, 3) := by decide +kernel
theorem dX0_levelsWithin_32 : decode cX0_levelsWithin 32 = .ok (.istore_n 2, 1) := by decide +kernel
theorem dX0_levelsWithin_33 : decode cX0_levelsWithin 33 = .ok (.iinc 3 1, 3) := by decide +kernel
theorem dX0_levelsWithin_36 : decode cX0_levelsWithin 36 = .ok (.goto (-28), 3) := by decide +kernel
theorem dX0_levelsWithin_39 : decode cX0_levelsWithin 39 = .ok (.iload_n 2, 1) := by decide +kernel
theorem dX0_levelsWithin_40 : decode cX0_levelsWithin 40 = .ok (.aload_n 0, 1) := by decide +kernel
theorem dX0_levelsWithin_41 : decode cX0_levelsWithin 41 = .ok (.iload_n 1, 1) := by decide +kernel
theorem dX0_levelsWithin_42 : decode cX0_levelsWithin 42 = .ok (.invokevirtual 64, 3) := by decide +kernel
theorem dX0_levelsWithin_45 : decode cX0_levelsWithin 45 = .ok (.isub, 1) := by decide +kernel
theorem dX0_levelsWithin_46 : decode cX0_levelsWithin 46 = .ok (.iconst 1, 1) := by decide +kernel
theorem dX0_levelsWithin_47 : decode cX0_levelsWithin 47 = .ok (.iadd, 1) := by decide +kernel
theorem dX0_levelsWithin_48 : decode cX0_levelsWithin 48 = .ok (.ireturn, 1) := by decide +kernel
theorem dX0_isParent_0 : decode cX0_isParent 0 = .ok (.iconst 0, 1) := by decide +kernel
theorem dX0_isParent_1 : decode cX0_isParent 1 = .ok (.istore_n 2, 1) := by decide +kernel
theorem dX0_isParent_2 : decode cX0_isParent 2 = .ok (.iload_n 2, 1) := by decide +kernel
theorem dX0_isParent_3 : decode cX0_isParent 3 = .ok (.bipush 16, 2) := by decide +kernel
theorem dX0_isParent_5 : decode cX0_isParent 5 = .ok (.if_icmp .ge 21, 3) := by decide +kernel
theorem dX0_isParent_8 : decode cX0_isParent 8 = .ok (.aload_n 0, 1) := by decide +kernel
theorem dX0_isParent_9 : decode cX0_isParent 9 = .ok (.getfield 13, 3) := by decide +kernel
theorem dX0_isParent_12 : decode cX0_isParent 12 = .ok (.iload_n 2, 1) := by decide +kernel
theorem dX0_isParent_13 : decode cX0_isParent 13 = .ok (.iaload, 1) := by decide +kernel
theorem dX0_isParent_14 : decode cX0_isParent 14 = .ok (.iload_n 1, 1) := by decide +kernel
theorem dX0_isParent_15 : decode cX0_isParent 15 = .ok (.if_icmp .ne 5, 3) := by decide +kernel
theorem dX0_isParent_18 : decode cX0_isParent 18 = .ok (.iconst 1, 1) := by decide +kernel
theorem dX0_isParent_19 : decode cX0_isParent 19 = .ok (.ireturn, 1) := by decide +kernel
theorem dX0_isParent_20 : decode cX0_isParent 20 = .ok (.iinc 2 1, 3) := by decide +kernel
theorem dX0_isParent_23 : decode cX0_isParent 23 = .ok (.goto (-21), 3) := by decide +kernel
theorem dX0_isParent_26 : decode cX0_isParent 26 = .ok (.iconst 0, 1) := by decide +kernel
theorem dX0_isParent_27 : decode cX0_isParent 27 = .ok (.ireturn, 1) := by decide +kernel
theorem dX0_isPart_0 : decode cX0_isPart 0 = .ok (.iconst 0, 1) := by decide +kernel
theorem dX0_isPart_1 : decode cX0_isPart 1 = .ok (.istore_n 2, 1) := by decide +kernel
theorem dX0_isPart_2 : decode cX0_isPart 2 = .ok (.iload_n 2, 1) := by decide +kernel
theorem dX0_isPart_3 : decode cX0_isPart 3 = .ok (.bipush 16, 2) := by decide +kernel
theorem dX0_isPart_5 : decode cX0_isPart 5 = .ok (.if_icmp .ge 25, 3) := by decide +kernel
theorem dX0_isPart_8 : decode cX0_isPart 8 = .ok (.aload_n 0, 1) := by decide +kernel
theorem dX0_isPart_9 : decode cX0_isPart 9 = .ok (.getfield 20, 3) := by decide +kernel
theorem dX0_isPart_12 : decode cX0_isPart 12 = .ok (.iload_n 2, 1) := by decide +kernel
theorem dX0_isPart_13 : decode cX0_isPart 13 = .ok (.bipush 16, 2) := by decide +kernel
theorem dX0_isPart_15 : decode cX0_isPart 15 = .ok (.imul, 1) := by decide +kernel
theorem dX0_isPart_16 : decode cX0_isPart 16 = .ok (.iload_n 1, 1) := by decide +kernel
theorem dX0_isPart_17 : decode cX0_isPart 17 = .ok (.iadd, 1) := by decide +kernel
theorem dX0_isPart_18 : decode cX0_isPart 18 = .ok (.iaload, 1) := by decide +kernel
theorem dX0_isPart_19 : decode cX0_isPart 19 = .ok (.ifCond .le 5, 3) := by decide +kernel
theorem dX0_isPart_22 : decode cX0_isPart 22 = .ok (.iconst 1, 1) := by decide +kernel
theorem dX0_isPart_23 : decode cX0_isPart 23 = .ok (.ireturn, 1) := by decide +kernel
theorem dX0_isPart_24 : decode cX0_isPart 24 = .ok (.iinc 2 1, 3) := by decide +kernel
theorem dX0_isPart_27 : decode cX0_isPart 27 = .ok (.goto (-25), 3) := by decide +kernel
theorem dX0_isPart_30 : decode cX0_isPart 30 = .ok (.iconst 0, 1) := by decide +kernel
theorem dX0_isPart_31 : decode cX0_isPart 31 = .ok (.ireturn, 1) := by decide +kernel
set_option maxRecDepth 20000 in
theorem ggX0_draft_X0_checkGood : GoodIn wsX0_draft wsX0_checkGood := goodIn_ca (goodIn_r _ [16, 17, 18, 19, 20, 21, 15, 22, 23, 36, 37, 38, 39, 40, 41, 42, 43, 44, 45, 46, 47, 48, 49, 50, 51] (by decide +kernel) (by decide +kernel)) (goodIn_sub (fun _ h => List.mem_cons_of_mem _ (List.mem_append_right _ h)) (by decide +kernel))
set_option maxRecDepth 20000 in
theorem gX0_draft_X0_checkGood : GoodIn wsX0_draft (wsV RX0 77 RX0 yX0_checkGood wsX0_checkGood) := goodIn_app (goodIn_of _ (by decide +kernel)) ggX0_draft_X0_checkGood
set_option maxRecDepth 20000 in
theorem ggX0_draft_X0_checkAttribute : GoodIn wsX0_draft wsX0_checkAttribute := goodIn_ca (goodIn_r _ [26, 17, 18] (by decide +kernel) (by decide +kernel)) (goodIn_sub (fun _ h => List.mem_cons_of_mem _ (List.mem_append_right _ h)) (by decide +kernel))
set_option maxRecDepth 20000 in
theorem gX0_draft_X0_checkAttribute : GoodIn wsX0_draft (va_wsS RX0 135 yX0_checkAttribute wsX0_checkAttribute) := goodIn_app (goodIn_of _ (by decide +kernel)) ggX0_draft_X0_checkAttribute
set_option maxRecDepth 20000 in
theorem ggX0_draft_X0_checkShop : GoodIn wsX0_draft wsX0_checkShop := goodIn_ca (goodIn_r _ [29, 17, 18] (by decide +kernel) (by decide +kernel)) (goodIn_sub (fun _ h => List.mem_cons_of_mem _ (List.mem_append_right _ h)) (by decide +kernel))
set_option maxRecDepth 20000 in
theorem gX0_draft_X0_checkShop : GoodIn wsX0_draft (va_wsS RX0 138 yX0_checkShop wsX0_checkShop) := goodIn_app (goodIn_of _ (by decide +kernel)) ggX0_draft_X0_checkShop
set_option maxRecDepth 20000 in
theorem ggX0_draft_X0_checkTongue : GoodIn wsX0_draft wsX0_checkTongue := goodIn_ca (goodIn_r _ [32, 17, 18] (by decide +kernel) (by decide +kernel)) (goodIn_sub (fun _ h => List.mem_cons_of_mem _ (List.mem_append_right _ h)) (by decide +kernel))
set_option maxRecDepth 20000 in
theorem gX0_draft_X0_checkTongue : GoodIn wsX0_draft (va_wsS RX0 141 yX0_checkTongue wsX0_checkTongue) := goodIn_app (goodIn_of _ (by decide +kernel)) ggX0_draft_X0_checkTongue
set_option maxRecDepth 20000 in
theorem ggX0_draft_X0_placeOf : GoodIn wsX0_draft wsX0_placeOf := goodIn_r _ [35] (by decide +kernel) (by decide +kernel)
set_option maxRecDepth 20000 in
theorem gX0_draft_X0_placeOf : GoodIn wsX0_draft (va_wsS RX0 151 yX0_placeOf wsX0_placeOf) := goodIn_app (goodIn_of _ (by decide +kernel)) ggX0_draft_X0_placeOf
theorem dX0_draft_0 : decode cX0_draft 0 = .ok (.aload_n 0, 1) := by decide +kernel
theorem dX0_draft_1 : decode cX0_draft 1 = .ok (.iload_n 1, 1) := by decide +kernel
theorem dX0_draft_2 : decode cX0_draft 2 = .ok (.invokevirtual 77, 3) := by decide +kernel
theorem dX0_draft_5 : decode cX0_draft 5 = .ok (.iload_n 2, 1) := by decide +kernel
theorem dX0_draft_6 : decode cX0_draft 6 = .ok (.invokestatic 135, 3) := by decide +kernel
theorem dX0_draft_9 : decode cX0_draft 9 = .ok (.iload_n 3, 1) := by decide +kernel
theorem dX0_draft_10 : decode cX0_draft 10 = .ok (.iconst (-1), 1) := by decide +kernel
theorem dX0_draft_11 : decode cX0_draft 11 = .ok (.if_icmp .eq 7, 3) := by decide +kernel
theorem dX0_draft_14 : decode cX0_draft 14 = .ok (.iload_n 3, 1) := by decide +kernel
theorem dX0_draft_15 : decode cX0_draft 15 = .ok (.invokestatic 138, 3) := by decide +kernel
theorem dX0_draft_18 : decode cX0_draft 18 = .ok (.iload 4, 2) := by decide +kernel
theorem dX0_draft_20 : decode cX0_draft 20 = .ok (.iconst (-1), 1) := by decide +kernel
theorem dX0_draft_21 : decode cX0_draft 21 = .ok (.if_icmp .eq 8, 3) := by decide +kernel
theorem dX0_draft_24 : decode cX0_draft 24 = .ok (.iload 4, 2) := by decide +kernel
theorem dX0_draft_26 : decode cX0_draft 26 = .ok (.invokestatic 141, 3) := by decide +kernel
theorem dX0_draft_29 : decode cX0_draft 29 = .ok (.iload 5, 2) := by decide +kernel
theorem dX0_draft_31 : decode cX0_draft 31 = .ok (.iconst (-1), 1) := by decide +kernel
theorem dX0_draft_32 : decode cX0_draft 32 = .ok (.if_icmp .eq 25, 3) := by decide +kernel
theorem dX0_draft_35 : decode cX0_draft 35 = .ok (.iload 5, 2) := by decide +kernel
theorem dX0_draft_37 : decode cX0_draft 37 = .ok (.ifCond .lt 10, 3) := by decide +kernel
theorem dX0_draft_40 : decode cX0_draft 40 = .ok (.iload 5, 2) := by decide +kernel
theorem dX0_draft_42 : decode cX0_draft 42 = .ok (.ldc 144, 2) := by decide +kernel
theorem dX0_draft_44 : decode cX0_draft 44 = .ok (.if_icmp .le 13, 3) := by decide +kernel
theorem dX0_draft_47 : decode cX0_draft 47 = .ok (.new 108, 3) := by decide +kernel
theorem dX0_draft_50 : decode cX0_draft 50 = .ok (.dup, 1) := by decide +kernel
theorem dX0_draft_51 : decode cX0_draft 51 = .ok (.ldc 145, 2) := by decide +kernel
theorem dX0_draft_53 : decode cX0_draft 53 = .ok (.invokespecial 112, 3) := by decide +kernel
theorem dX0_draft_56 : decode cX0_draft 56 = .ok (.athrow, 1) := by decide +kernel
theorem dX0_draft_57 : decode cX0_draft 57 = .ok (.iload 6, 2) := by decide +kernel
theorem dX0_draft_59 : decode cX0_draft 59 = .ok (.ifCond .lt 11, 3) := by decide +kernel
theorem dX0_draft_62 : decode cX0_draft 62 = .ok (.iload 6, 2) := by decide +kernel
theorem dX0_draft_64 : decode cX0_draft 64 = .ok (.sipush 1000, 3) := by decide +kernel
theorem dX0_draft_67 : decode cX0_draft 67 = .ok (.if_icmp .le 13, 3) := by decide +kernel
theorem dX0_draft_70 : decode cX0_draft 70 = .ok (.new 108, 3) := by decide +kernel
theorem dX0_draft_73 : decode cX0_draft 73 = .ok (.dup, 1) := by decide +kernel
theorem dX0_draft_74 : decode cX0_draft 74 = .ok (.ldc 147, 2) := by decide +kernel
theorem dX0_draft_76 : decode cX0_draft 76 = .ok (.invokespecial 112, 3) := by decide +kernel
theorem dX0_draft_79 : decode cX0_draft 79 = .ok (.athrow, 1) := by decide +kernel
theorem dX0_draft_80 : decode cX0_draft 80 = .ok (.aload_n 0, 1) := by decide +kernel
theorem dX0_draft_81 : decode cX0_draft 81 = .ok (.getfield 42, 3) := by decide +kernel
theorem dX0_draft_84 : decode cX0_draft 84 = .ok (.sipush 200, 3) := by decide +kernel
theorem dX0_draft_87 : decode cX0_draft 87 = .ok (.if_icmp .lt 13, 3) := by decide +kernel
theorem dX0_draft_90 : decode cX0_draft 90 = .ok (.new 68, 3) := by decide +kernel
theorem dX0_draft_93 : decode cX0_draft 93 = .ok (.dup, 1) := by decide +kernel
theorem dX0_draft_94 : decode cX0_draft 94 = .ok (.ldc 149, 2) := by decide +kernel
theorem dX0_draft_96 : decode cX0_draft 96 = .ok (.invokespecial 72, 3) := by decide +kernel
theorem dX0_draft_99 : decode cX0_draft 99 = .ok (.athrow, 1) := by decide +kernel
theorem dX0_draft_100 : decode cX0_draft 100 = .ok (.aload_n 0, 1) := by decide +kernel
theorem dX0_draft_101 : decode cX0_draft 101 = .ok (.getfield 42, 3) := by decide +kernel
theorem dX0_draft_104 : decode cX0_draft 104 = .ok (.istore 7, 2) := by decide +kernel
theorem dX0_draft_106 : decode cX0_draft 106 = .ok (.aload_n 0, 1) := by decide +kernel
theorem dX0_draft_107 : decode cX0_draft 107 = .ok (.dup, 1) := by decide +kernel
theorem dX0_draft_108 : decode cX0_draft 108 = .ok (.getfield 42, 3) := by decide +kernel
theorem dX0_draft_111 : decode cX0_draft 111 = .ok (.iconst 1, 1) := by decide +kernel
theorem dX0_draft_112 : decode cX0_draft 112 = .ok (.iadd, 1) := by decide +kernel
theorem dX0_draft_113 : decode cX0_draft 113 = .ok (.putfield 42, 3) := by decide +kernel
theorem dX0_draft_116 : decode cX0_draft 116 = .ok (.aload_n 0, 1) := by decide +kernel
theorem dX0_draft_117 : decode cX0_draft 117 = .ok (.getfield 27, 3) := by decide +kernel
theorem dX0_draft_120 : decode cX0_draft 120 = .ok (.iload 7, 2) := by decide +kernel
theorem dX0_draft_122 : decode cX0_draft 122 = .ok (.iload_n 1, 1) := by decide +kernel
theorem dX0_draft_123 : decode cX0_draft 123 = .ok (.iastore, 1) := by decide +kernel
theorem dX0_draft_124 : decode cX0_draft 124 = .ok (.aload_n 0, 1) := by decide +kernel
theorem dX0_draft_125 : decode cX0_draft 125 = .ok (.getfield 30, 3) := by decide +kernel
theorem dX0_draft_128 : decode cX0_draft 128 = .ok (.iload 7, 2) := by decide +kernel
theorem dX0_draft_130 : decode cX0_draft 130 = .ok (.iload_n 1, 1) := by decide +kernel
theorem dX0_draft_131 : decode cX0_draft 131 = .ok (.iload_n 2, 1) := by decide +kernel
theorem dX0_draft_132 : decode cX0_draft 132 = .ok (.iload_n 3, 1) := by decide +kernel
theorem dX0_draft_133 : decode cX0_draft 133 = .ok (.iload 4, 2) := by decide +kernel
theorem dX0_draft_135 : decode cX0_draft 135 = .ok (.invokestatic 151, 3) := by decide +kernel
theorem dX0_draft_138 : decode cX0_draft 138 = .ok (.iastore, 1) := by decide +kernel
theorem dX0_draft_139 : decode cX0_draft 139 = .ok (.aload_n 0, 1) := by decide +kernel
theorem dX0_draft_140 : decode cX0_draft 140 = .ok (.getfield 33, 3) := by decide +kernel
theorem dX0_draft_143 : decode cX0_draft 143 = .ok (.iload 7, 2) := by decide +kernel
theorem dX0_draft_145 : decode cX0_draft 145 = .ok (.iload 5, 2) := by decide +kernel
theorem dX0_draft_147 : decode cX0_draft 147 = .ok (.iastore, 1) := by decide +kernel
theorem dX0_draft_148 : decode cX0_draft 148 = .ok (.aload_n 0, 1) := by decide +kernel
theorem dX0_draft_149 : decode cX0_draft 149 = .ok (.getfield 36, 3) := by decide +kernel
theorem dX0_draft_152 : decode cX0_draft 152 = .ok (.iload 7, 2) := by decide +kernel
theorem dX0_draft_154 : decode cX0_draft 154 = .ok (.iload 6, 2) := by decide +kernel
theorem dX0_draft_156 : decode cX0_draft 156 = .ok (.iastore, 1) := by decide +kernel
theorem dX0_draft_157 : decode cX0_draft 157 = .ok (.aload_n 0, 1) := by decide +kernel
theorem dX0_draft_158 : decode cX0_draft 158 = .ok (.getfield 39, 3) := by decide +kernel
theorem dX0_draft_161 : decode cX0_draft 161 = .ok (.iload 7, 2) := by decide +kernel
theorem dX0_draft_163 : decode cX0_draft 163 = .ok (.iconst 1, 1) := by decide +kernel
theorem dX0_draft_164 : decode cX0_draft 164 = .ok (.iastore, 1) := by decide +kernel
theorem dX0_draft_165 : decode cX0_draft 165 = .ok (.iload 7, 2) := by decide +kernel
theorem dX0_draft_167 : decode cX0_draft 167 = .ok (.ireturn, 1) := by decide +kernel
set_option maxRecDepth 20000 in
theorem ggX0_approve_X0_checkDraft : GoodIn wsX0_approve wsX0_checkDraft := goodIn_ca (goodIn_r _ [8, 9, 10, 3, 11, 12, 13, 7, 14, 15, 32, 33, 34, 35, 36, 37, 38, 39, 40, 41, 42, 43, 44, 45, 46, 47] (by decide +kernel) (by decide +kernel)) (goodIn_sub (fun _ h => List.mem_cons_of_mem _ (List.mem_append_right _ h)) (by decide +kernel))
set_option maxRecDepth 20000 in
theorem gX0_approve_X0_checkDraft : GoodIn wsX0_approve (wsV RX0 155 RX0 yX0_checkDraft wsX0_checkDraft) := goodIn_app (goodIn_of _ (by decide +kernel)) ggX0_approve_X0_checkDraft
set_option maxRecDepth 20000 in
theorem ggX0_approve_X0_settleHolders : GoodIn wsX0_approve wsX0_settleHolders := goodIn_r _ [19, 20, 15, 3, 21, 22, 23, 24, 25, 7, 26, 27, 11, 12, 13, 14, 32, 33, 34, 35, 36, 37, 38, 39, 40, 41, 42, 43, 44, 45, 46, 47] (by decide +kernel) (by decide +kernel)
set_option maxRecDepth 20000 in
theorem gX0_approve_X0_settleHolders : GoodIn wsX0_approve (wsV RX0 105 RX0 yX0_settleHolders wsX0_settleHolders) := goodIn_app (goodIn_of _ (by decide +kernel)) ggX0_approve_X0_settleHolders
set_option maxRecDepth 20000 in
theorem ggX0_approve_X0_holdsAtItsPlace : GoodIn wsX0_approve wsX0_holdsAtItsPlace := goodIn_r _ [31, 20, 27, 32, 33, 34, 35, 36, 37, 38, 39, 40, 41, 42, 43, 44, 45, 46, 47] (by decide +kernel) (by decide +kernel)
set_option maxRecDepth 20000 in
theorem gX0_approve_X0_holdsAtItsPlace : GoodIn wsX0_approve (wsV RX0 160 RX0 yX0_holdsAtItsPlace wsX0_holdsAtItsPlace) := goodIn_app (goodIn_of _ (by decide +kernel)) ggX0_approve_X0_holdsAtItsPlace
theorem dX0_approve_0 : decode cX0_approve 0 = .ok (.aload_n 0, 1) := by decide +kernel
theorem dX0_approve_1 : decode cX0_approve 1 = .ok (.iload_n 1, 1) := by decide +kernel
theorem dX0_approve_2 : decode cX0_approve 2 = .ok (.invokevirtual 155, 3) := by decide +kernel
theorem dX0_approve_5 : decode cX0_approve 5 = .ok (.aload_n 0, 1) := by decide +kernel
theorem dX0_approve_6 : decode cX0_approve 6 = .ok (.getfield 39, 3) := by decide +kernel
theorem dX0_approve_9 : decode cX0_approve 9 = .ok (.iload_n 1, 1) := by decide +kernel
theorem dX0_approve_10 : decode cX0_approve 10 = .ok (.iaload, 1) := by decide +kernel
theorem dX0_approve_11 : decode cX0_approve 11 = .ok (.iconst 1, 1) := by decide +kernel
theorem dX0_approve_12 : decode cX0_approve 12 = .ok (.if_icmp .eq 13, 3) := by decide +kernel
theorem dX0_approve_15 : decode cX0_approve 15 = .ok (.new 68, 3) := by decide +kernel
theorem dX0_approve_18 : decode cX0_approve 18 = .ok (.dup, 1) := by decide +kernel
theorem dX0_approve_19 : decode cX0_approve 19 = .ok (.ldc 158, 2) := by decide +kernel
theorem dX0_approve_21 : decode cX0_approve 21 = .ok (.invokespecial 72, 3) := by decide +kernel
theorem dX0_approve_24 : decode cX0_approve 24 = .ok (.athrow, 1) := by decide +kernel
theorem dX0_approve_25 : decode cX0_approve 25 = .ok (.aload_n 0, 1) := by decide +kernel
theorem dX0_approve_26 : decode cX0_approve 26 = .ok (.getfield 39, 3) := by decide +kernel
theorem dX0_approve_29 : decode cX0_approve 29 = .ok (.iload_n 1, 1) := by decide +kernel
theorem dX0_approve_30 : decode cX0_approve 30 = .ok (.iconst 2, 1) := by decide +kernel
theorem dX0_approve_31 : decode cX0_approve 31 = .ok (.iastore, 1) := by decide +kernel
theorem dX0_approve_32 : decode cX0_approve 32 = .ok (.aload_n 0, 1) := by decide +kernel
theorem dX0_approve_33 : decode cX0_approve 33 = .ok (.invokevirtual 105, 3) := by decide +kernel
theorem dX0_approve_36 : decode cX0_approve 36 = .ok (.aload_n 0, 1) := by decide +kernel
theorem dX0_approve_37 : decode cX0_approve 37 = .ok (.iload_n 1, 1) := by decide +kernel
theorem dX0_approve_38 : decode cX0_approve 38 = .ok (.invokevirtual 160, 3) := by decide +kernel
theorem dX0_approve_41 : decode cX0_approve 41 = .ok (.ireturn, 1) := by decide +kernel
set_option maxRecDepth 20000 in
theorem ggX0_reject_X0_checkDraft : GoodIn wsX0_reject wsX0_checkDraft := goodIn_ca (goodIn_r _ [8, 9, 10, 3, 11, 12, 13, 7, 14, 15, 32, 33, 34, 35, 36, 37, 38, 39, 40, 41, 42, 43, 44, 45, 46, 47] (by decide +kernel) (by decide +kernel)) (goodIn_sub (fun _ h => List.mem_cons_of_mem _ (List.mem_append_right _ h)) (by decide +kernel))
set_option maxRecDepth 20000 in
theorem gX0_reject_X0_checkDraft : GoodIn wsX0_reject (wsV RX0 155 RX0 yX0_checkDraft wsX0_checkDraft) := goodIn_app (goodIn_of _ (by decide +kernel)) ggX0_reject_X0_checkDraft
set_option maxRecDepth 20000 in
theorem ggX0_reject_X0_holdsAtItsPlace : GoodIn wsX0_reject wsX0_holdsAtItsPlace := goodIn_r _ [19, 20, 21, 32, 33, 34, 35, 36, 37, 38, 39, 40, 41, 42, 43, 44, 45, 46, 47] (by decide +kernel) (by decide +kernel)
set_option maxRecDepth 20000 in
theorem gX0_reject_X0_holdsAtItsPlace : GoodIn wsX0_reject (wsV RX0 160 RX0 yX0_holdsAtItsPlace wsX0_holdsAtItsPlace) := goodIn_app (goodIn_of _ (by decide +kernel)) ggX0_reject_X0_holdsAtItsPlace
set_option maxRecDepth 20000 in
theorem ggX0_reject_X0_settleHolders : GoodIn wsX0_reject wsX0_settleHolders := goodIn_r _ [25, 20, 15, 3, 26, 27, 28, 29, 30, 7, 31, 21, 11, 12, 13, 14, 32, 33, 34, 35, 36, 37, 38, 39, 40, 41, 42, 43, 44, 45, 46, 47] (by decide +kernel) (by decide +kernel)
set_option maxRecDepth 20000 in
theorem gX0_reject_X0_settleHolders : GoodIn wsX0_reject (wsV RX0 105 RX0 yX0_settleHolders wsX0_settleHolders) := goodIn_app (goodIn_of _ (by decide +kernel)) ggX0_reject_X0_settleHolders
theorem dX0_reject_0 : decode cX0_reject 0 = .ok (.aload_n 0, 1) := by decide +kernel
theorem dX0_reject_1 : decode cX0_reject 1 = .ok (.iload_n 1, 1) := by decide +kernel
theorem dX0_reject_2 : decode cX0_reject 2 = .ok (.invokevirtual 155, 3) := by decide +kernel
theorem dX0_reject_5 : decode cX0_reject 5 = .ok (.aload_n 0, 1) := by decide +kernel
theorem dX0_reject_6 : decode cX0_reject 6 = .ok (.getfield 39, 3) := by decide +kernel
theorem dX0_reject_9 : decode cX0_reject 9 = .ok (.iload_n 1, 1) := by decide +kernel
theorem dX0_reject_10 : decode cX0_reject 10 = .ok (.iaload, 1) := by decide +kernel
theorem dX0_reject_11 : decode cX0_reject 11 = .ok (.iconst 3, 1) := by decide +kernel
theorem dX0_reject_12 : decode cX0_reject 12 = .ok (.if_icmp .ne 13, 3) := by decide +kernel
theorem dX0_reject_15 : decode cX0_reject 15 = .ok (.new 68, 3) := by decide +kernel
theorem dX0_reject_18 : decode cX0_reject 18 = .ok (.dup, 1) := by decide +kernel
theorem dX0_reject_19 : decode cX0_reject 19 = .ok (.ldc 163, 2) := by decide +kernel
theorem dX0_reject_21 : decode cX0_reject 21 = .ok (.invokespecial 72, 3) := by decide +kernel
theorem dX0_reject_24 : decode cX0_reject 24 = .ok (.athrow, 1) := by decide +kernel
theorem dX0_reject_25 : decode cX0_reject 25 = .ok (.aload_n 0, 1) := by decide +kernel
theorem dX0_reject_26 : decode cX0_reject 26 = .ok (.iload_n 1, 1) := by decide +kernel
theorem dX0_reject_27 : decode cX0_reject 27 = .ok (.invokevirtual 160, 3) := by decide +kernel
theorem dX0_reject_30 : decode cX0_reject 30 = .ok (.istore_n 2, 1) := by decide +kernel
theorem dX0_reject_31 : decode cX0_reject 31 = .ok (.aload_n 0, 1) := by decide +kernel
theorem dX0_reject_32 : decode cX0_reject 32 = .ok (.getfield 39, 3) := by decide +kernel
theorem dX0_reject_35 : decode cX0_reject 35 = .ok (.iload_n 1, 1) := by decide +kernel
theorem dX0_reject_36 : decode cX0_reject 36 = .ok (.iconst 3, 1) := by decide +kernel
theorem dX0_reject_37 : decode cX0_reject 37 = .ok (.iastore, 1) := by decide +kernel
theorem dX0_reject_38 : decode cX0_reject 38 = .ok (.aload_n 0, 1) := by decide +kernel
theorem dX0_reject_39 : decode cX0_reject 39 = .ok (.invokevirtual 105, 3) := by decide +kernel
theorem dX0_reject_42 : decode cX0_reject 42 = .ok (.iload_n 2, 1) := by decide +kernel
theorem dX0_reject_43 : decode cX0_reject 43 = .ok (.ireturn, 1) := by decide +kernel
set_option maxRecDepth 20000 in
theorem ggX0_pass_X0_settleHolders : GoodIn wsX0_pass wsX0_settleHolders := goodIn_r _ [8, 9, 10, 11, 12, 3, 13, 14, 15, 7, 16, 17, 18, 19, 20, 21, 22, 23, 24, 25, 26, 27, 28, 29, 30, 31, 32, 33, 34, 35, 36, 37] (by decide +kernel) (by decide +kernel)
set_option maxRecDepth 20000 in
theorem gX0_pass_X0_settleHolders : GoodIn wsX0_pass (wsV RX0 105 RX0 yX0_settleHolders wsX0_settleHolders) := goodIn_app (goodIn_of _ (by decide +kernel)) ggX0_pass_X0_settleHolders
theorem dX0_pass_0 : decode cX0_pass 0 = .ok (.iload_n 1, 1) := by decide +kernel
theorem dX0_pass_1 : decode cX0_pass 1 = .ok (.iconst 1, 1) := by decide +kernel
theorem dX0_pass_2 : decode cX0_pass 2 = .ok (.if_icmp .lt 9, 3) := by decide +kernel
theorem dX0_pass_5 : decode cX0_pass 5 = .ok (.iload_n 1, 1) := by decide +kernel
theorem dX0_pass_6 : decode cX0_pass 6 = .ok (.bipush 100, 2) := by decide +kernel
theorem dX0_pass_8 : decode cX0_pass 8 = .ok (.if_icmp .le 13, 3) := by decide +kernel
theorem dX0_pass_11 : decode cX0_pass 11 = .ok (.new 108, 3) := by decide +kernel
theorem dX0_pass_14 : decode cX0_pass 14 = .ok (.dup, 1) := by decide +kernel
theorem dX0_pass_15 : decode cX0_pass 15 = .ok (.ldc 165, 2) := by decide +kernel
theorem dX0_pass_17 : decode cX0_pass 17 = .ok (.invokespecial 112, 3) := by decide +kernel
theorem dX0_pass_20 : decode cX0_pass 20 = .ok (.athrow, 1) := by decide +kernel
theorem dX0_pass_21 : decode cX0_pass 21 = .ok (.aload_n 0, 1) := by decide +kernel
theorem dX0_pass_22 : decode cX0_pass 22 = .ok (.dup, 1) := by decide +kernel
theorem dX0_pass_23 : decode cX0_pass 23 = .ok (.getfield 45, 3) := by decide +kernel
theorem dX0_pass_26 : decode cX0_pass 26 = .ok (.iload_n 1, 1) := by decide +kernel
theorem dX0_pass_27 : decode cX0_pass 27 = .ok (.iadd, 1) := by decide +kernel
theorem dX0_pass_28 : decode cX0_pass 28 = .ok (.putfield 45, 3) := by decide +kernel
theorem dX0_pass_31 : decode cX0_pass 31 = .ok (.aload_n 0, 1) := by decide +kernel
theorem dX0_pass_32 : decode cX0_pass 32 = .ok (.invokevirtual 105, 3) := by decide +kernel
theorem dX0_pass_35 : decode cX0_pass 35 = .ok (.aload_n 0, 1) := by decide +kernel
theorem dX0_pass_36 : decode cX0_pass 36 = .ok (.getfield 45, 3) := by decide +kernel
theorem dX0_pass_39 : decode cX0_pass 39 = .ok (.ireturn, 1) := by decide +kernel
theorem dX0_isEntered_0 : decode cX0_isEntered 0 = .ok (.iload_n 1, 1) := by decide +kernel
theorem dX0_isEntered_1 : decode cX0_isEntered 1 = .ok (.ifCond .lt 15, 3) := by decide +kernel
theorem dX0_isEntered_4 : decode cX0_isEntered 4 = .ok (.iload_n 1, 1) := by decide +kernel
theorem dX0_isEntered_5 : decode cX0_isEntered 5 = .ok (.aload_n 0, 1) := by decide +kernel
theorem dX0_isEntered_6 : decode cX0_isEntered 6 = .ok (.getfield 42, 3) := by decide +kernel
theorem dX0_isEntered_9 : decode cX0_isEntered 9 = .ok (.if_icmp .ge 7, 3) := by decide +kernel
theorem dX0_isEntered_12 : decode cX0_isEntered 12 = .ok (.iconst 1, 1) := by decide +kernel
theorem dX0_isEntered_13 : decode cX0_isEntered 13 = .ok (.goto 4, 3) := by decide +kernel
theorem dX0_isEntered_16 : decode cX0_isEntered 16 = .ok (.iconst 0, 1) := by decide +kernel
theorem dX0_isEntered_17 : decode cX0_isEntered 17 = .ok (.ireturn, 1) := by decide +kernel
set_option maxRecDepth 20000 in
theorem ggX0_checkDraft_X0_isEntered : GoodIn wsX0_checkDraft wsX0_isEntered := goodIn_r _ [8, 9, 10, 11, 12, 13, 14, 15, 16, 17, 18, 19, 20, 21, 22, 23, 24, 25] (by decide +kernel) (by decide +kernel)
set_option maxRecDepth 20000 in
theorem gX0_checkDraft_X0_isEntered : GoodIn wsX0_checkDraft (wsV RX0 167 RX0 yX0_isEntered wsX0_isEntered) := goodIn_app (goodIn_of _ (by decide +kernel)) ggX0_checkDraft_X0_isEntered
theorem dX0_checkDraft_0 : decode cX0_checkDraft 0 = .ok (.aload_n 0, 1) := by decide +kernel
theorem dX0_checkDraft_1 : decode cX0_checkDraft 1 = .ok (.iload_n 1, 1) := by decide +kernel
theorem dX0_checkDraft_2 : decode cX0_checkDraft 2 = .ok (.invokevirtual 167, 3) := by decide +kernel
theorem dX0_checkDraft_5 : decode cX0_checkDraft 5 = .ok (.ifCond .eq 13, 3) := by decide +kernel
theorem dX0_checkDraft_8 : decode cX0_checkDraft 8 = .ok (.aload_n 0, 1) := by decide +kernel
theorem dX0_checkDraft_9 : decode cX0_checkDraft 9 = .ok (.getfield 39, 3) := by decide +kernel
theorem dX0_checkDraft_12 : decode cX0_checkDraft 12 = .ok (.iload_n 1, 1) := by decide +kernel
theorem dX0_checkDraft_13 : decode cX0_checkDraft 13 = .ok (.iaload, 1) := by decide +kernel
theorem dX0_checkDraft_14 : decode cX0_checkDraft 14 = .ok (.iconst 4, 1) := by decide +kernel
theorem dX0_checkDraft_15 : decode cX0_checkDraft 15 = .ok (.if_icmp .ne 13, 3) := by decide +kernel
theorem dX0_checkDraft_18 : decode cX0_checkDraft 18 = .ok (.new 122, 3) := by decide +kernel
theorem dX0_checkDraft_21 : decode cX0_checkDraft 21 = .ok (.dup, 1) := by decide +kernel
theorem dX0_checkDraft_22 : decode cX0_checkDraft 22 = .ok (.ldc 170, 2) := by decide +kernel
theorem dX0_checkDraft_24 : decode cX0_checkDraft 24 = .ok (.invokespecial 126, 3) := by decide +kernel
theorem dX0_checkDraft_27 : decode cX0_checkDraft 27 = .ok (.athrow, 1) := by decide +kernel
theorem dX0_checkDraft_28 : decode cX0_checkDraft 28 = .ok (.return_, 1) := by decide +kernel
theorem dX0_placeOf_0 : decode cX0_placeOf 0 = .ok (.iload_n 0, 1) := by decide +kernel
theorem dX0_placeOf_1 : decode cX0_placeOf 1 = .ok (.bipush 6, 2) := by decide +kernel
theorem dX0_placeOf_3 : decode cX0_placeOf 3 = .ok (.imul, 1) := by decide +kernel
theorem dX0_placeOf_4 : decode cX0_placeOf 4 = .ok (.iload_n 1, 1) := by decide +kernel
theorem dX0_placeOf_5 : decode cX0_placeOf 5 = .ok (.iadd, 1) := by decide +kernel
theorem dX0_placeOf_6 : decode cX0_placeOf 6 = .ok (.istore 4, 2) := by decide +kernel
theorem dX0_placeOf_8 : decode cX0_placeOf 8 = .ok (.iload_n 2, 1) := by decide +kernel
theorem dX0_placeOf_9 : decode cX0_placeOf 9 = .ok (.iconst 1, 1) := by decide +kernel
theorem dX0_placeOf_10 : decode cX0_placeOf 10 = .ok (.iadd, 1) := by decide +kernel
theorem dX0_placeOf_11 : decode cX0_placeOf 11 = .ok (.iconst 4, 1) := by decide +kernel
theorem dX0_placeOf_12 : decode cX0_placeOf 12 = .ok (.imul, 1) := by decide +kernel
theorem dX0_placeOf_13 : decode cX0_placeOf 13 = .ok (.iload_n 3, 1) := by decide +kernel
theorem dX0_placeOf_14 : decode cX0_placeOf 14 = .ok (.iadd, 1) := by decide +kernel
theorem dX0_placeOf_15 : decode cX0_placeOf 15 = .ok (.iconst 1, 1) := by decide +kernel
theorem dX0_placeOf_16 : decode cX0_placeOf 16 = .ok (.iadd, 1) := by decide +kernel
theorem dX0_placeOf_17 : decode cX0_placeOf 17 = .ok (.istore 5, 2) := by decide +kernel
theorem dX0_placeOf_19 : decode cX0_placeOf 19 = .ok (.iload 4, 2) := by decide +kernel
theorem dX0_placeOf_21 : decode cX0_placeOf 21 = .ok (.bipush 16, 2) := by decide +kernel
theorem dX0_placeOf_23 : decode cX0_placeOf 23 = .ok (.imul, 1) := by decide +kernel
theorem dX0_placeOf_24 : decode cX0_placeOf 24 = .ok (.iload 5, 2) := by decide +kernel
theorem dX0_placeOf_26 : decode cX0_placeOf 26 = .ok (.iadd, 1) := by decide +kernel
theorem dX0_placeOf_27 : decode cX0_placeOf 27 = .ok (.ireturn, 1) := by decide +kernel
theorem dX0_holdsAtItsPlace_0 : decode cX0_holdsAtItsPlace 0 = .ok (.aload_n 0, 1) := by decide +kernel
theorem dX0_holdsAtItsPlace_1 : decode cX0_holdsAtItsPlace 1 = .ok (.getfield 48, 3) := by decide +kernel
theorem dX0_holdsAtItsPlace_4 : decode cX0_holdsAtItsPlace 4 = .ok (.aload_n 0, 1) := by decide +kernel
theorem dX0_holdsAtItsPlace_5 : decode cX0_holdsAtItsPlace 5 = .ok (.getfield 30, 3) := by decide +kernel
theorem dX0_holdsAtItsPlace_8 : decode cX0_holdsAtItsPlace 8 = .ok (.iload_n 1, 1) := by decide +kernel
theorem dX0_holdsAtItsPlace_9 : decode cX0_holdsAtItsPlace 9 = .ok (.iaload, 1) := by decide +kernel
theorem dX0_holdsAtItsPlace_10 : decode cX0_holdsAtItsPlace 10 = .ok (.iaload, 1) := by decide +kernel
theorem dX0_holdsAtItsPlace_11 : decode cX0_holdsAtItsPlace 11 = .ok (.iload_n 1, 1) := by decide +kernel
theorem dX0_holdsAtItsPlace_12 : decode cX0_holdsAtItsPlace 12 = .ok (.if_icmp .ne 7, 3) := by decide +kernel
theorem dX0_holdsAtItsPlace_15 : decode cX0_holdsAtItsPlace 15 = .ok (.iconst 1, 1) := by decide +kernel
theorem dX0_holdsAtItsPlace_16 : decode cX0_holdsAtItsPlace 16 = .ok (.goto 4, 3) := by decide +kernel
theorem dX0_holdsAtItsPlace_19 : decode cX0_holdsAtItsPlace 19 = .ok (.iconst 0, 1) := by decide +kernel
theorem dX0_holdsAtItsPlace_20 : decode cX0_holdsAtItsPlace 20 = .ok (.ireturn, 1) := by decide +kernel
theorem dX0_deleteDraftsOf_0 : decode cX0_deleteDraftsOf 0 = .ok (.iconst 0, 1) := by decide +kernel
theorem dX0_deleteDraftsOf_1 : decode cX0_deleteDraftsOf 1 = .ok (.istore_n 2, 1) := by decide +kernel
theorem dX0_deleteDraftsOf_2 : decode cX0_deleteDraftsOf 2 = .ok (.iload_n 2, 1) := by decide +kernel
theorem dX0_deleteDraftsOf_3 : decode cX0_deleteDraftsOf 3 = .ok (.aload_n 0, 1) := by decide +kernel
theorem dX0_deleteDraftsOf_4 : decode cX0_deleteDraftsOf 4 = .ok (.getfield 42, 3) := by decide +kernel
theorem dX0_deleteDraftsOf_7 : decode cX0_deleteDraftsOf 7 = .ok (.if_icmp .ge 26, 3) := by decide +kernel
theorem dX0_deleteDraftsOf_10 : decode cX0_deleteDraftsOf 10 = .ok (.aload_n 0, 1) := by decide +kernel
theorem dX0_deleteDraftsOf_11 : decode cX0_deleteDraftsOf 11 = .ok (.getfield 27, 3) := by decide +kernel
theorem dX0_deleteDraftsOf_14 : decode cX0_deleteDraftsOf 14 = .ok (.iload_n 2, 1) := by decide +kernel
theorem dX0_deleteDraftsOf_15 : decode cX0_deleteDraftsOf 15 = .ok (.iaload, 1) := by decide +kernel
theorem dX0_deleteDraftsOf_16 : decode cX0_deleteDraftsOf 16 = .ok (.iload_n 1, 1) := by decide +kernel
theorem dX0_deleteDraftsOf_17 : decode cX0_deleteDraftsOf 17 = .ok (.if_icmp .ne 10, 3) := by decide +kernel
theorem dX0_deleteDraftsOf_20 : decode cX0_deleteDraftsOf 20 = .ok (.aload_n 0, 1) := by decide +kernel
theorem dX0_deleteDraftsOf_21 : decode cX0_deleteDraftsOf 21 = .ok (.getfield 39, 3) := by decide +kernel
theorem dX0_deleteDraftsOf_24 : decode cX0_deleteDraftsOf 24 = .ok (.iload_n 2, 1) := by decide +kernel
theorem dX0_deleteDraftsOf_25 : decode cX0_deleteDraftsOf 25 = .ok (.iconst 4, 1) := by decide +kernel
theorem dX0_deleteDraftsOf_26 : decode cX0_deleteDraftsOf 26 = .ok (.iastore, 1) := by decide +kernel
theorem dX0_deleteDraftsOf_27 : decode cX0_deleteDraftsOf 27 = .ok (.iinc 2 1, 3) := by decide +kernel
theorem dX0_deleteDraftsOf_30 : decode cX0_deleteDraftsOf 30 = .ok (.goto (-28), 3) := by decide +kernel
theorem dX0_deleteDraftsOf_33 : decode cX0_deleteDraftsOf 33 = .ok (.return_, 1) := by decide +kernel
set_option maxRecDepth 20000 in
theorem ggX0_settleHolders_X0_putHolder : GoodIn wsX0_settleHolders wsX0_putHolder := goodIn_r _ [10, 11, 1, 4, 12, 13, 14, 9, 15, 2, 16, 17, 18, 19, 20, 21, 22, 23, 24, 25, 26, 27, 28, 29, 30, 31] (by decide +kernel) (by decide +kernel)
set_option maxRecDepth 20000 in
theorem gX0_settleHolders_X0_putHolder : GoodIn wsX0_settleHolders (wsV RX0 172 RX0 yX0_putHolder wsX0_putHolder) := goodIn_app (goodIn_of _ (by decide +kernel)) ggX0_settleHolders_X0_putHolder
theorem dX0_settleHolders_0 : decode cX0_settleHolders 0 = .ok (.iconst 0, 1) := by decide +kernel
theorem dX0_settleHolders_1 : decode cX0_settleHolders 1 = .ok (.istore_n 1, 1) := by decide +kernel
theorem dX0_settleHolders_2 : decode cX0_settleHolders 2 = .ok (.iload_n 1, 1) := by decide +kernel
theorem dX0_settleHolders_3 : decode cX0_settleHolders 3 = .ok (.aload_n 0, 1) := by decide +kernel
theorem dX0_settleHolders_4 : decode cX0_settleHolders 4 = .ok (.getfield 48, 3) := by decide +kernel
theorem dX0_settleHolders_7 : decode cX0_settleHolders 7 = .ok (.arraylength, 1) := by decide +kernel
theorem dX0_settleHolders_8 : decode cX0_settleHolders 8 = .ok (.if_icmp .ge 16, 3) := by decide +kernel
theorem dX0_settleHolders_11 : decode cX0_settleHolders 11 = .ok (.aload_n 0, 1) := by decide +kernel
theorem dX0_settleHolders_12 : decode cX0_settleHolders 12 = .ok (.getfield 48, 3) := by decide +kernel
theorem dX0_settleHolders_15 : decode cX0_settleHolders 15 = .ok (.iload_n 1, 1) := by decide +kernel
theorem dX0_settleHolders_16 : decode cX0_settleHolders 16 = .ok (.iconst (-1), 1) := by decide +kernel
theorem dX0_settleHolders_17 : decode cX0_settleHolders 17 = .ok (.iastore, 1) := by decide +kernel
theorem dX0_settleHolders_18 : decode cX0_settleHolders 18 = .ok (.iinc 1 1, 3) := by decide +kernel
theorem dX0_settleHolders_21 : decode cX0_settleHolders 21 = .ok (.goto (-19), 3) := by decide +kernel
theorem dX0_settleHolders_24 : decode cX0_settleHolders 24 = .ok (.iconst 0, 1) := by decide +kernel
theorem dX0_settleHolders_25 : decode cX0_settleHolders 25 = .ok (.istore_n 1, 1) := by decide +kernel
theorem dX0_settleHolders_26 : decode cX0_settleHolders 26 = .ok (.iload_n 1, 1) := by decide +kernel
theorem dX0_settleHolders_27 : decode cX0_settleHolders 27 = .ok (.aload_n 0, 1) := by decide +kernel
theorem dX0_settleHolders_28 : decode cX0_settleHolders 28 = .ok (.getfield 42, 3) := by decide +kernel
theorem dX0_settleHolders_31 : decode cX0_settleHolders 31 = .ok (.if_icmp .ge 37, 3) := by decide +kernel
theorem dX0_settleHolders_34 : decode cX0_settleHolders 34 = .ok (.aload_n 0, 1) := by decide +kernel
theorem dX0_settleHolders_35 : decode cX0_settleHolders 35 = .ok (.getfield 39, 3) := by decide +kernel
theorem dX0_settleHolders_38 : decode cX0_settleHolders 38 = .ok (.iload_n 1, 1) := by decide +kernel
theorem dX0_settleHolders_39 : decode cX0_settleHolders 39 = .ok (.iaload, 1) := by decide +kernel
theorem dX0_settleHolders_40 : decode cX0_settleHolders 40 = .ok (.iconst 2, 1) := by decide +kernel
theorem dX0_settleHolders_41 : decode cX0_settleHolders 41 = .ok (.if_icmp .ne 21, 3) := by decide +kernel
theorem dX0_settleHolders_44 : decode cX0_settleHolders 44 = .ok (.aload_n 0, 1) := by decide +kernel
theorem dX0_settleHolders_45 : decode cX0_settleHolders 45 = .ok (.getfield 36, 3) := by decide +kernel
theorem dX0_settleHolders_48 : decode cX0_settleHolders 48 = .ok (.iload_n 1, 1) := by decide +kernel
theorem dX0_settleHolders_49 : decode cX0_settleHolders 49 = .ok (.iaload, 1) := by decide +kernel
theorem dX0_settleHolders_50 : decode cX0_settleHolders 50 = .ok (.aload_n 0, 1) := by decide +kernel
theorem dX0_settleHolders_51 : decode cX0_settleHolders 51 = .ok (.getfield 45, 3) := by decide +kernel
theorem dX0_settleHolders_54 : decode cX0_settleHolders 54 = .ok (.if_icmp .gt 8, 3) := by decide +kernel
theorem dX0_settleHolders_57 : decode cX0_settleHolders 57 = .ok (.aload_n 0, 1) := by decide +kernel
theorem dX0_settleHolders_58 : decode cX0_settleHolders 58 = .ok (.iload_n 1, 1) := by decide +kernel
theorem dX0_settleHolders_59 : decode cX0_settleHolders 59 = .ok (.invokevirtual 172, 3) := by decide +kernel
theorem dX0_settleHolders_62 : decode cX0_settleHolders 62 = .ok (.iinc 1 1, 3) := by decide +kernel
theorem dX0_settleHolders_65 : decode cX0_settleHolders 65 = .ok (.goto (-39), 3) := by decide +kernel
theorem dX0_settleHolders_68 : decode cX0_settleHolders 68 = .ok (.return_, 1) := by decide +kernel
set_option maxRecDepth 20000 in
theorem ggX0_putHolder_X0_isEntered : GoodIn wsX0_putHolder wsX0_isEntered := goodIn_r _ [8, 9, 10, 11, 12, 13, 14, 15, 16, 17, 18, 19, 20, 21, 22, 23, 24, 25] (by decide +kernel) (by decide +kernel)
set_option maxRecDepth 20000 in
theorem gX0_putHolder_X0_isEntered : GoodIn wsX0_putHolder (wsV RX0 167 RX0 yX0_isEntered wsX0_isEntered) := goodIn_app (goodIn_of _ (by decide +kernel)) ggX0_putHolder_X0_isEntered
theorem dX0_putHolder_0 : decode cX0_putHolder 0 = .ok (.aload_n 0, 1) := by decide +kernel
theorem dX0_putHolder_1 : decode cX0_putHolder 1 = .ok (.getfield 30, 3) := by decide +kernel
theorem dX0_putHolder_4 : decode cX0_putHolder 4 = .ok (.iload_n 1, 1) := by decide +kernel
theorem dX0_putHolder_5 : decode cX0_putHolder 5 = .ok (.iaload, 1) := by decide +kernel
theorem dX0_putHolder_6 : decode cX0_putHolder 6 = .ok (.istore_n 2, 1) := by decide +kernel
theorem dX0_putHolder_7 : decode cX0_putHolder 7 = .ok (.aload_n 0, 1) := by decide +kernel
theorem dX0_putHolder_8 : decode cX0_putHolder 8 = .ok (.getfield 48, 3) := by decide +kernel
theorem dX0_putHolder_11 : decode cX0_putHolder 11 = .ok (.iload_n 2, 1) := by decide +kernel
theorem dX0_putHolder_12 : decode cX0_putHolder 12 = .ok (.iaload, 1) := by decide +kernel
theorem dX0_putHolder_13 : decode cX0_putHolder 13 = .ok (.istore_n 3, 1) := by decide +kernel
theorem dX0_putHolder_14 : decode cX0_putHolder 14 = .ok (.aload_n 0, 1) := by decide +kernel
theorem dX0_putHolder_15 : decode cX0_putHolder 15 = .ok (.iload_n 3, 1) := by decide +kernel
theorem dX0_putHolder_16 : decode cX0_putHolder 16 = .ok (.invokevirtual 167, 3) := by decide +kernel
theorem dX0_putHolder_19 : decode cX0_putHolder 19 = .ok (.ifCond .eq 18, 3) := by decide +kernel
theorem dX0_putHolder_22 : decode cX0_putHolder 22 = .ok (.aload_n 0, 1) := by decide +kernel
theorem dX0_putHolder_23 : decode cX0_putHolder 23 = .ok (.getfield 36, 3) := by decide +kernel
theorem dX0_putHolder_26 : decode cX0_putHolder 26 = .ok (.iload_n 1, 1) := by decide +kernel
theorem dX0_putHolder_27 : decode cX0_putHolder 27 = .ok (.iaload, 1) := by decide +kernel
theorem dX0_putHolder_28 : decode cX0_putHolder 28 = .ok (.aload_n 0, 1) := by decide +kernel
theorem dX0_putHolder_29 : decode cX0_putHolder 29 = .ok (.getfield 36, 3) := by decide +kernel
theorem dX0_putHolder_32 : decode cX0_putHolder 32 = .ok (.iload_n 3, 1) := by decide +kernel
theorem dX0_putHolder_33 : decode cX0_putHolder 33 = .ok (.iaload, 1) := by decide +kernel
theorem dX0_putHolder_34 : decode cX0_putHolder 34 = .ok (.if_icmp .lt 10, 3) := by decide +kernel
theorem dX0_putHolder_37 : decode cX0_putHolder 37 = .ok (.aload_n 0, 1) := by decide +kernel
theorem dX0_putHolder_38 : decode cX0_putHolder 38 = .ok (.getfield 48, 3) := by decide +kernel
theorem dX0_putHolder_41 : decode cX0_putHolder 41 = .ok (.iload_n 2, 1) := by decide +kernel
theorem dX0_putHolder_42 : decode cX0_putHolder 42 = .ok (.iload_n 1, 1) := by decide +kernel
theorem dX0_putHolder_43 : decode cX0_putHolder 43 = .ok (.iastore, 1) := by decide +kernel
theorem dX0_putHolder_44 : decode cX0_putHolder 44 = .ok (.return_, 1) := by decide +kernel
set_option maxRecDepth 20000 in
theorem ggX0_value_X0_checkSight : GoodIn wsX0_value wsX0_checkSight := goodIn_ca (goodIn_r _ [7, 8, 9, 10, 6, 11, 12, 13, 14, 15, 16, 17, 18, 19, 20, 21, 22, 23, 24, 25, 26, 27, 51, 52, 53, 54, 55, 56, 57, 58, 59, 60, 61, 62, 63, 64, 65, 66] (by decide +kernel) (by decide +kernel)) (goodIn_sub (fun _ h => List.mem_cons_of_mem _ (List.mem_append_right _ h)) (by decide +kernel))
set_option maxRecDepth 20000 in
theorem gX0_value_X0_checkSight : GoodIn wsX0_value (wsV RX0 175 RX0 yX0_checkSight wsX0_checkSight) := goodIn_app (goodIn_of _ (by decide +kernel)) ggX0_value_X0_checkSight
set_option maxRecDepth 20000 in
theorem ggX0_value_X0_findValue : GoodIn wsX0_value wsX0_findValue := goodIn_r _ [31, 32, 33, 34, 35, 6, 36, 37, 14, 15, 16, 17, 18, 38, 39, 40, 41, 42, 43, 44, 45, 46, 47, 48, 49, 50, 51, 52, 53, 54, 55, 56, 57, 58, 59, 60, 61, 62, 63, 64, 65, 66] (by decide +kernel) (by decide +kernel)
set_option maxRecDepth 20000 in
theorem gX0_value_X0_findValue : GoodIn wsX0_value (wsV RX0 179 RX0 yX0_findValue wsX0_findValue) := goodIn_app (goodIn_of _ (by decide +kernel)) ggX0_value_X0_findValue
theorem dX0_value_0 : decode cX0_value 0 = .ok (.aload_n 0, 1) := by decide +kernel
theorem dX0_value_1 : decode cX0_value 1 = .ok (.iload_n 1, 1) := by decide +kernel
theorem dX0_value_2 : decode cX0_value 2 = .ok (.iload_n 2, 1) := by decide +kernel
theorem dX0_value_3 : decode cX0_value 3 = .ok (.iload_n 3, 1) := by decide +kernel
theorem dX0_value_4 : decode cX0_value 4 = .ok (.iload 4, 2) := by decide +kernel
theorem dX0_value_6 : decode cX0_value 6 = .ok (.invokevirtual 175, 3) := by decide +kernel
theorem dX0_value_9 : decode cX0_value 9 = .ok (.aload_n 0, 1) := by decide +kernel
theorem dX0_value_10 : decode cX0_value 10 = .ok (.iload_n 1, 1) := by decide +kernel
theorem dX0_value_11 : decode cX0_value 11 = .ok (.iload_n 2, 1) := by decide +kernel
theorem dX0_value_12 : decode cX0_value 12 = .ok (.iload_n 3, 1) := by decide +kernel
theorem dX0_value_13 : decode cX0_value 13 = .ok (.iload 4, 2) := by decide +kernel
theorem dX0_value_15 : decode cX0_value 15 = .ok (.invokevirtual 179, 3) := by decide +kernel
theorem dX0_value_18 : decode cX0_value 18 = .ok (.istore 5, 2) := by decide +kernel
theorem dX0_value_20 : decode cX0_value 20 = .ok (.iload 5, 2) := by decide +kernel
theorem dX0_value_22 : decode cX0_value 22 = .ok (.iconst (-1), 1) := by decide +kernel
theorem dX0_value_23 : decode cX0_value 23 = .ok (.if_icmp .ne 13, 3) := by decide +kernel
theorem dX0_value_26 : decode cX0_value 26 = .ok (.new 68, 3) := by decide +kernel
theorem dX0_value_29 : decode cX0_value 29 = .ok (.dup, 1) := by decide +kernel
theorem dX0_value_30 : decode cX0_value 30 = .ok (.ldc 182, 2) := by decide +kernel
theorem dX0_value_32 : decode cX0_value 32 = .ok (.invokespecial 72, 3) := by decide +kernel
theorem dX0_value_35 : decode cX0_value 35 = .ok (.athrow, 1) := by decide +kernel
theorem dX0_value_36 : decode cX0_value 36 = .ok (.iload 5, 2) := by decide +kernel
theorem dX0_value_38 : decode cX0_value 38 = .ok (.ireturn, 1) := by decide +kernel
set_option maxRecDepth 20000 in
theorem ggX0_origin_X0_checkSight : GoodIn wsX0_origin wsX0_checkSight := goodIn_ca (goodIn_r _ [5, 6, 7, 8, 4, 9, 10, 11, 12, 13, 14, 15, 16, 17, 18, 19, 20, 21, 22, 23, 24, 25, 39, 40, 41, 42, 43, 44, 45, 46, 47, 48, 49, 50, 51, 52, 53, 54] (by decide +kernel) (by decide +kernel)) (goodIn_sub (fun _ h => List.mem_cons_of_mem _ (List.mem_append_right _ h)) (by decide +kernel))
set_option maxRecDepth 20000 in
theorem gX0_origin_X0_checkSight : GoodIn wsX0_origin (wsV RX0 175 RX0 yX0_checkSight wsX0_checkSight) := goodIn_app (goodIn_of _ (by decide +kernel)) ggX0_origin_X0_checkSight
set_option maxRecDepth 20000 in
theorem ggX0_origin_X0_findOrigin : GoodIn wsX0_origin wsX0_findOrigin := goodIn_r _ [29, 30, 12, 13, 14, 4, 15, 16, 31, 32, 33, 34, 35, 36, 37, 38, 39, 40, 41, 42, 43, 44, 45, 46, 47, 48, 49, 50, 51, 52, 53, 54] (by decide +kernel) (by decide +kernel)
set_option maxRecDepth 20000 in
theorem gX0_origin_X0_findOrigin : GoodIn wsX0_origin (wsV RX0 184 RX0 yX0_findOrigin wsX0_findOrigin) := goodIn_app (goodIn_of _ (by decide +kernel)) ggX0_origin_X0_findOrigin
theorem dX0_origin_0 : decode cX0_origin 0 = .ok (.aload_n 0, 1) := by decide +kernel
theorem dX0_origin_1 : decode cX0_origin 1 = .ok (.iload_n 1, 1) := by decide +kernel
theorem dX0_origin_2 : decode cX0_origin 2 = .ok (.iload_n 2, 1) := by decide +kernel
theorem dX0_origin_3 : decode cX0_origin 3 = .ok (.iload_n 3, 1) := by decide +kernel
theorem dX0_origin_4 : decode cX0_origin 4 = .ok (.iload 4, 2) := by decide +kernel
theorem dX0_origin_6 : decode cX0_origin 6 = .ok (.invokevirtual 175, 3) := by decide +kernel
theorem dX0_origin_9 : decode cX0_origin 9 = .ok (.aload_n 0, 1) := by decide +kernel
theorem dX0_origin_10 : decode cX0_origin 10 = .ok (.iload_n 1, 1) := by decide +kernel
theorem dX0_origin_11 : decode cX0_origin 11 = .ok (.iload_n 2, 1) := by decide +kernel
theorem dX0_origin_12 : decode cX0_origin 12 = .ok (.iload_n 3, 1) := by decide +kernel
theorem dX0_origin_13 : decode cX0_origin 13 = .ok (.iload 4, 2) := by decide +kernel
theorem dX0_origin_15 : decode cX0_origin 15 = .ok (.invokevirtual 184, 3) := by decide +kernel
theorem dX0_origin_18 : decode cX0_origin 18 = .ok (.ireturn, 1) := by decide +kernel
set_option maxRecDepth 20000 in
theorem ggX0_told_X0_checkGood : GoodIn wsX0_told wsX0_checkGood := goodIn_ca (goodIn_r _ [6, 7, 8, 9, 10, 11, 5, 12, 13, 14, 15, 16, 17, 18, 19, 20, 21, 22, 23, 24, 25, 26, 27, 28, 29] (by decide +kernel) (by decide +kernel)) (goodIn_sub (fun _ h => List.mem_cons_of_mem _ (List.mem_append_right _ h)) (by decide +kernel))
set_option maxRecDepth 20000 in
theorem gX0_told_X0_checkGood : GoodIn wsX0_told (wsV RX0 77 RX0 yX0_checkGood wsX0_checkGood) := goodIn_app (goodIn_of _ (by decide +kernel)) ggX0_told_X0_checkGood
theorem dX0_told_0 : decode cX0_told 0 = .ok (.aload_n 0, 1) := by decide +kernel
theorem dX0_told_1 : decode cX0_told 1 = .ok (.iload_n 1, 1) := by decide +kernel
theorem dX0_told_2 : decode cX0_told 2 = .ok (.invokevirtual 77, 3) := by decide +kernel
theorem dX0_told_5 : decode cX0_told 5 = .ok (.iload_n 1, 1) := by decide +kernel
theorem dX0_told_6 : decode cX0_told 6 = .ok (.bipush 96, 2) := by decide +kernel
theorem dX0_told_8 : decode cX0_told 8 = .ok (.imul, 1) := by decide +kernel
theorem dX0_told_9 : decode cX0_told 9 = .ok (.istore_n 2, 1) := by decide +kernel
theorem dX0_told_10 : decode cX0_told 10 = .ok (.iconst 0, 1) := by decide +kernel
theorem dX0_told_11 : decode cX0_told 11 = .ok (.istore_n 3, 1) := by decide +kernel
theorem dX0_told_12 : decode cX0_told 12 = .ok (.iconst 0, 1) := by decide +kernel
theorem dX0_told_13 : decode cX0_told 13 = .ok (.istore 4, 2) := by decide +kernel
theorem dX0_told_15 : decode cX0_told 15 = .ok (.iload 4, 2) := by decide +kernel
theorem dX0_told_17 : decode cX0_told 17 = .ok (.bipush 96, 2) := by decide +kernel
theorem dX0_told_19 : decode cX0_told 19 = .ok (.if_icmp .ge 25, 3) := by decide +kernel
theorem dX0_told_22 : decode cX0_told 22 = .ok (.aload_n 0, 1) := by decide +kernel
theorem dX0_told_23 : decode cX0_told 23 = .ok (.getfield 48, 3) := by decide +kernel
theorem dX0_told_26 : decode cX0_told 26 = .ok (.iload_n 2, 1) := by decide +kernel
theorem dX0_told_27 : decode cX0_told 27 = .ok (.iload 4, 2) := by decide +kernel
theorem dX0_told_29 : decode cX0_told 29 = .ok (.iadd, 1) := by decide +kernel
theorem dX0_told_30 : decode cX0_told 30 = .ok (.iaload, 1) := by decide +kernel
theorem dX0_told_31 : decode cX0_told 31 = .ok (.iconst (-1), 1) := by decide +kernel
theorem dX0_told_32 : decode cX0_told 32 = .ok (.if_icmp .eq 6, 3) := by decide +kernel
theorem dX0_told_35 : decode cX0_told 35 = .ok (.iinc 3 1, 3) := by decide +kernel
theorem dX0_told_38 : decode cX0_told 38 = .ok (.iinc 4 1, 3) := by decide +kernel
theorem dX0_told_41 : decode cX0_told 41 = .ok (.goto (-26), 3) := by decide +kernel
theorem dX0_told_44 : decode cX0_told 44 = .ok (.iload_n 3, 1) := by decide +kernel
theorem dX0_told_45 : decode cX0_told 45 = .ok (.ireturn, 1) := by decide +kernel
set_option maxRecDepth 20000 in
theorem ggX0_toggleAsked_X0_checkShop : GoodIn wsX0_toggleAsked wsX0_checkShop := goodIn_ca (goodIn_r _ [5, 6, 7] (by decide +kernel) (by decide +kernel)) (goodIn_sub (fun _ h => List.mem_cons_of_mem _ (List.mem_append_right _ h)) (by decide +kernel))
set_option maxRecDepth 20000 in
theorem gX0_toggleAsked_X0_checkShop : GoodIn wsX0_toggleAsked (va_wsS RX0 138 yX0_checkShop wsX0_checkShop) := goodIn_app (goodIn_of _ (by decide +kernel)) ggX0_toggleAsked_X0_checkShop
set_option maxRecDepth 20000 in
theorem ggX0_toggleAsked_X0_checkAttribute : GoodIn wsX0_toggleAsked wsX0_checkAttribute := goodIn_ca (goodIn_r _ [10, 6, 7] (by decide +kernel) (by decide +kernel)) (goodIn_sub (fun _ h => List.mem_cons_of_mem _ (List.mem_append_right _ h)) (by decide +kernel))
set_option maxRecDepth 20000 in
theorem gX0_toggleAsked_X0_checkAttribute : GoodIn wsX0_toggleAsked (va_wsS RX0 135 yX0_checkAttribute wsX0_checkAttribute) := goodIn_app (goodIn_of _ (by decide +kernel)) ggX0_toggleAsked_X0_checkAttribute
theorem dX0_toggleAsked_0 : decode cX0_toggleAsked 0 = .ok (.iload_n 1, 1) := by decide +kernel
theorem dX0_toggleAsked_1 : decode cX0_toggleAsked 1 = .ok (.invokestatic 138, 3) := by decide +kernel
theorem dX0_toggleAsked_4 : decode cX0_toggleAsked 4 = .ok (.iload_n 2, 1) := by decide +kernel
theorem dX0_toggleAsked_5 : decode cX0_toggleAsked 5 = .ok (.invokestatic 135, 3) := by decide +kernel
theorem dX0_toggleAsked_8 : decode cX0_toggleAsked 8 = .ok (.iload_n 1, 1) := by decide +kernel
theorem dX0_toggleAsked_9 : decode cX0_toggleAsked 9 = .ok (.bipush 6, 2) := by decide +kernel
theorem dX0_toggleAsked_11 : decode cX0_toggleAsked 11 = .ok (.imul, 1) := by decide +kernel
theorem dX0_toggleAsked_12 : decode cX0_toggleAsked 12 = .ok (.iload_n 2, 1) := by decide +kernel
theorem dX0_toggleAsked_13 : decode cX0_toggleAsked 13 = .ok (.iadd, 1) := by decide +kernel
theorem dX0_toggleAsked_14 : decode cX0_toggleAsked 14 = .ok (.istore_n 3, 1) := by decide +kernel
theorem dX0_toggleAsked_15 : decode cX0_toggleAsked 15 = .ok (.aload_n 0, 1) := by decide +kernel
theorem dX0_toggleAsked_16 : decode cX0_toggleAsked 16 = .ok (.getfield 51, 3) := by decide +kernel
theorem dX0_toggleAsked_19 : decode cX0_toggleAsked 19 = .ok (.iload_n 3, 1) := by decide +kernel
theorem dX0_toggleAsked_20 : decode cX0_toggleAsked 20 = .ok (.aload_n 0, 1) := by decide +kernel
theorem dX0_toggleAsked_21 : decode cX0_toggleAsked 21 = .ok (.getfield 51, 3) := by decide +kernel
theorem dX0_toggleAsked_24 : decode cX0_toggleAsked 24 = .ok (.iload_n 3, 1) := by decide +kernel
theorem dX0_toggleAsked_25 : decode cX0_toggleAsked 25 = .ok (.baload, 1) := by decide +kernel
theorem dX0_toggleAsked_26 : decode cX0_toggleAsked 26 = .ok (.ifCond .ne 7, 3) := by decide +kernel
theorem dX0_toggleAsked_29 : decode cX0_toggleAsked 29 = .ok (.iconst 1, 1) := by decide +kernel
theorem dX0_toggleAsked_30 : decode cX0_toggleAsked 30 = .ok (.goto 4, 3) := by decide +kernel
theorem dX0_toggleAsked_33 : decode cX0_toggleAsked 33 = .ok (.iconst 0, 1) := by decide +kernel
theorem dX0_toggleAsked_34 : decode cX0_toggleAsked 34 = .ok (.bastore, 1) := by decide +kernel
theorem dX0_toggleAsked_35 : decode cX0_toggleAsked 35 = .ok (.aload_n 0, 1) := by decide +kernel
theorem dX0_toggleAsked_36 : decode cX0_toggleAsked 36 = .ok (.getfield 51, 3) := by decide +kernel
theorem dX0_toggleAsked_39 : decode cX0_toggleAsked 39 = .ok (.iload_n 3, 1) := by decide +kernel
theorem dX0_toggleAsked_40 : decode cX0_toggleAsked 40 = .ok (.baload, 1) := by decide +kernel
theorem dX0_toggleAsked_41 : decode cX0_toggleAsked 41 = .ok (.ireturn, 1) := by decide +kernel
set_option maxRecDepth 20000 in
theorem ggX0_missing_X0_checkGood : GoodIn wsX0_missing wsX0_checkGood := goodIn_ca (goodIn_r _ [5, 6, 7, 8, 9, 10, 4, 11, 12, 47, 48, 49, 50, 51, 52, 53, 54, 55, 56, 57, 58, 59, 60, 61, 62] (by decide +kernel) (by decide +kernel)) (goodIn_sub (fun _ h => List.mem_cons_of_mem _ (List.mem_append_right _ h)) (by decide +kernel))
set_option maxRecDepth 20000 in
theorem gX0_missing_X0_checkGood : GoodIn wsX0_missing (wsV RX0 77 RX0 yX0_checkGood wsX0_checkGood) := goodIn_app (goodIn_of _ (by decide +kernel)) ggX0_missing_X0_checkGood
set_option maxRecDepth 20000 in
theorem ggX0_missing_X0_checkShop : GoodIn wsX0_missing wsX0_checkShop := goodIn_ca (goodIn_r _ [15, 6, 7] (by decide +kernel) (by decide +kernel)) (goodIn_sub (fun _ h => List.mem_cons_of_mem _ (List.mem_append_right _ h)) (by decide +kernel))
set_option maxRecDepth 20000 in
theorem gX0_missing_X0_checkShop : GoodIn wsX0_missing (va_wsS RX0 138 yX0_checkShop wsX0_checkShop) := goodIn_app (goodIn_of _ (by decide +kernel)) ggX0_missing_X0_checkShop
set_option maxRecDepth 20000 in
theorem ggX0_missing_X0_checkTongue : GoodIn wsX0_missing wsX0_checkTongue := goodIn_ca (goodIn_r _ [18, 6, 7] (by decide +kernel) (by decide +kernel)) (goodIn_sub (fun _ h => List.mem_cons_of_mem _ (List.mem_append_right _ h)) (by decide +kernel))
set_option maxRecDepth 20000 in
theorem gX0_missing_X0_checkTongue : GoodIn wsX0_missing (va_wsS RX0 141 yX0_checkTongue wsX0_checkTongue) := goodIn_app (goodIn_of _ (by decide +kernel)) ggX0_missing_X0_checkTongue
set_option maxRecDepth 20000 in
theorem ggX0_missing_X0_findMissing : GoodIn wsX0_missing wsX0_findMissing := goodIn_r _ [22, 23, 24, 25, 26, 4, 27, 28, 29, 30, 31, 32, 33, 8, 9, 10, 11, 12, 34, 35, 36, 37, 38, 39, 40, 41, 42, 43, 44, 45, 46, 47, 48, 49, 50, 51, 52, 53, 54, 55, 56, 57, 58, 59, 60, 61, 62] (by decide +kernel) (by decide +kernel)
set_option maxRecDepth 20000 in
theorem gX0_missing_X0_findMissing : GoodIn wsX0_missing (wsV RX0 187 RX0 yX0_findMissing wsX0_findMissing) := goodIn_app (goodIn_of _ (by decide +kernel)) ggX0_missing_X0_findMissing
theorem dX0_missing_0 : decode cX0_missing 0 = .ok (.aload_n 0, 1) := by decide +kernel
theorem dX0_missing_1 : decode cX0_missing 1 = .ok (.iload_n 1, 1) := by decide +kernel
theorem dX0_missing_2 : decode cX0_missing 2 = .ok (.invokevirtual 77, 3) := by decide +kernel
theorem dX0_missing_5 : decode cX0_missing 5 = .ok (.iload_n 2, 1) := by decide +kernel
theorem dX0_missing_6 : decode cX0_missing 6 = .ok (.invokestatic 138, 3) := by decide +kernel
theorem dX0_missing_9 : decode cX0_missing 9 = .ok (.iload_n 3, 1) := by decide +kernel
theorem dX0_missing_10 : decode cX0_missing 10 = .ok (.invokestatic 141, 3) := by decide +kernel
theorem dX0_missing_13 : decode cX0_missing 13 = .ok (.aload_n 0, 1) := by decide +kernel
theorem dX0_missing_14 : decode cX0_missing 14 = .ok (.iload_n 1, 1) := by decide +kernel
theorem dX0_missing_15 : decode cX0_missing 15 = .ok (.iload_n 2, 1) := by decide +kernel
theorem dX0_missing_16 : decode cX0_missing 16 = .ok (.iload_n 3, 1) := by decide +kernel
theorem dX0_missing_17 : decode cX0_missing 17 = .ok (.invokevirtual 187, 3) := by decide +kernel
theorem dX0_missing_20 : decode cX0_missing 20 = .ok (.ireturn, 1) := by decide +kernel
set_option maxRecDepth 20000 in
theorem ggX0_complete_X0_checkShop : GoodIn wsX0_complete wsX0_checkShop := goodIn_ca (goodIn_r _ [5, 6, 7] (by decide +kernel) (by decide +kernel)) (goodIn_sub (fun _ h => List.mem_cons_of_mem _ (List.mem_append_right _ h)) (by decide +kernel))
set_option maxRecDepth 20000 in
theorem gX0_complete_X0_checkShop : GoodIn wsX0_complete (va_wsS RX0 138 yX0_checkShop wsX0_checkShop) := goodIn_app (goodIn_of _ (by decide +kernel)) ggX0_complete_X0_checkShop
set_option maxRecDepth 20000 in
theorem ggX0_complete_X0_isComplete : GoodIn wsX0_complete wsX0_isComplete := goodIn_r _ [11, 12, 13, 14, 4, 15, 16, 17, 18, 19, 20, 21, 22, 23, 24, 25, 26, 27, 28, 29, 30, 1, 31, 32, 33, 34, 35, 36, 37, 38, 39, 40, 41, 42, 43, 44, 45, 46, 47, 48, 49, 50, 51, 52, 53, 54, 55, 56, 57, 58, 59] (by decide +kernel) (by decide +kernel)
set_option maxRecDepth 20000 in
theorem gX0_complete_X0_isComplete : GoodIn wsX0_complete (wsV RX0 191 RX0 yX0_isComplete wsX0_isComplete) := goodIn_app (goodIn_of _ (by decide +kernel)) ggX0_complete_X0_isComplete
theorem dX0_complete_0 : decode cX0_complete 0 = .ok (.iload_n 1, 1) := by decide +kernel
theorem dX0_complete_1 : decode cX0_complete 1 = .ok (.invokestatic 138, 3) := by decide +kernel
theorem dX0_complete_4 : decode cX0_complete 4 = .ok (.iconst 0, 1) := by decide +kernel
theorem dX0_complete_5 : decode cX0_complete 5 = .ok (.istore_n 2, 1) := by decide +kernel
theorem dX0_complete_6 : decode cX0_complete 6 = .ok (.iconst 0, 1) := by decide +kernel
theorem dX0_complete_7 : decode cX0_complete 7 = .ok (.istore_n 3, 1) := by decide +kernel
theorem dX0_complete_8 : decode cX0_complete 8 = .ok (.iload_n 3, 1) := by decide +kernel
theorem dX0_complete_9 : decode cX0_complete 9 = .ok (.bipush 16, 2) := by decide +kernel
theorem dX0_complete_11 : decode cX0_complete 11 = .ok (.if_icmp .ge 30, 3) := by decide +kernel
theorem dX0_complete_14 : decode cX0_complete 14 = .ok (.aload_n 0, 1) := by decide +kernel
theorem dX0_complete_15 : decode cX0_complete 15 = .ok (.getfield 9, 3) := by decide +kernel
theorem dX0_complete_18 : decode cX0_complete 18 = .ok (.iload_n 3, 1) := by decide +kernel
theorem dX0_complete_19 : decode cX0_complete 19 = .ok (.baload, 1) := by decide +kernel
theorem dX0_complete_20 : decode cX0_complete 20 = .ok (.ifCond .eq 15, 3) := by decide +kernel
theorem dX0_complete_23 : decode cX0_complete 23 = .ok (.aload_n 0, 1) := by decide +kernel
theorem dX0_complete_24 : decode cX0_complete 24 = .ok (.iload_n 3, 1) := by decide +kernel
theorem dX0_complete_25 : decode cX0_complete 25 = .ok (.iload_n 1, 1) := by decide +kernel
theorem dX0_complete_26 : decode cX0_complete 26 = .ok (.invokevirtual 191, 3) := by decide +kernel
theorem dX0_complete_29 : decode cX0_complete 29 = .ok (.ifCond .eq 6, 3) := by decide +kernel
theorem dX0_complete_32 : decode cX0_complete 32 = .ok (.iinc 2 1, 3) := by decide +kernel
theorem dX0_complete_35 : decode cX0_complete 35 = .ok (.iinc 3 1, 3) := by decide +kernel
theorem dX0_complete_38 : decode cX0_complete 38 = .ok (.goto (-30), 3) := by decide +kernel
theorem dX0_complete_41 : decode cX0_complete 41 = .ok (.iload_n 2, 1) := by decide +kernel
theorem dX0_complete_42 : decode cX0_complete 42 = .ok (.ireturn, 1) := by decide +kernel
set_option maxRecDepth 20000 in
theorem ggX0_price_X0_checkGood : GoodIn wsX0_price wsX0_checkGood := goodIn_ca (goodIn_r _ [7, 8, 9, 10, 11, 12, 6, 13, 14, 54, 55, 56, 57, 58, 59, 60, 61, 62, 63, 64, 65, 66, 67, 68, 69] (by decide +kernel) (by decide +kernel)) (goodIn_sub (fun _ h => List.mem_cons_of_mem _ (List.mem_append_right _ h)) (by decide +kernel))
set_option maxRecDepth 20000 in
theorem gX0_price_X0_checkGood : GoodIn wsX0_price (wsV RX0 77 RX0 yX0_checkGood wsX0_checkGood) := goodIn_app (goodIn_of _ (by decide +kernel)) ggX0_price_X0_checkGood
set_option maxRecDepth 20000 in
theorem ggX0_price_X0_checkShop : GoodIn wsX0_price wsX0_checkShop := goodIn_ca (goodIn_r _ [17, 8, 9] (by decide +kernel) (by decide +kernel)) (goodIn_sub (fun _ h => List.mem_cons_of_mem _ (List.mem_append_right _ h)) (by decide +kernel))
set_option maxRecDepth 20000 in
theorem gX0_price_X0_checkShop : GoodIn wsX0_price (va_wsS RX0 138 yX0_checkShop wsX0_checkShop) := goodIn_app (goodIn_of _ (by decide +kernel)) ggX0_price_X0_checkShop
set_option maxRecDepth 20000 in
theorem ggX0_price_X0_findPrice : GoodIn wsX0_price wsX0_findPrice := goodIn_r _ [21, 22, 23, 24, 25, 6, 26, 27, 28, 29, 30, 31, 32, 10, 11, 12, 13, 14, 33, 34, 35, 36, 37, 38, 39, 40, 41, 42, 43, 44, 45, 46, 47, 48, 49, 50, 51, 52, 53, 54, 55, 56, 57, 58, 59, 60, 61, 62, 63, 64, 65, 66, 67, 68, 69] (by decide +kernel) (by decide +kernel)
set_option maxRecDepth 20000 in
theorem gX0_price_X0_findPrice : GoodIn wsX0_price (wsV RX0 194 RX0 yX0_findPrice wsX0_findPrice) := goodIn_app (goodIn_of _ (by decide +kernel)) ggX0_price_X0_findPrice
theorem dX0_price_0 : decode cX0_price 0 = .ok (.aload_n 0, 1) := by decide +kernel
theorem dX0_price_1 : decode cX0_price 1 = .ok (.iload_n 1, 1) := by decide +kernel
theorem dX0_price_2 : decode cX0_price 2 = .ok (.invokevirtual 77, 3) := by decide +kernel
theorem dX0_price_5 : decode cX0_price 5 = .ok (.iload_n 2, 1) := by decide +kernel
theorem dX0_price_6 : decode cX0_price 6 = .ok (.invokestatic 138, 3) := by decide +kernel
theorem dX0_price_9 : decode cX0_price 9 = .ok (.aload_n 0, 1) := by decide +kernel
theorem dX0_price_10 : decode cX0_price 10 = .ok (.iload_n 1, 1) := by decide +kernel
theorem dX0_price_11 : decode cX0_price 11 = .ok (.iload_n 2, 1) := by decide +kernel
theorem dX0_price_12 : decode cX0_price 12 = .ok (.invokevirtual 194, 3) := by decide +kernel
theorem dX0_price_15 : decode cX0_price 15 = .ok (.istore_n 3, 1) := by decide +kernel
theorem dX0_price_16 : decode cX0_price 16 = .ok (.iload_n 3, 1) := by decide +kernel
theorem dX0_price_17 : decode cX0_price 17 = .ok (.iconst (-1), 1) := by decide +kernel
theorem dX0_price_18 : decode cX0_price 18 = .ok (.if_icmp .ne 13, 3) := by decide +kernel
theorem dX0_price_21 : decode cX0_price 21 = .ok (.new 68, 3) := by decide +kernel
theorem dX0_price_24 : decode cX0_price 24 = .ok (.dup, 1) := by decide +kernel
theorem dX0_price_25 : decode cX0_price 25 = .ok (.ldc 197, 2) := by decide +kernel
theorem dX0_price_27 : decode cX0_price 27 = .ok (.invokespecial 72, 3) := by decide +kernel
theorem dX0_price_30 : decode cX0_price 30 = .ok (.athrow, 1) := by decide +kernel
theorem dX0_price_31 : decode cX0_price 31 = .ok (.iload_n 3, 1) := by decide +kernel
theorem dX0_price_32 : decode cX0_price 32 = .ok (.ireturn, 1) := by decide +kernel
theorem dX0_checkAttribute_0 : decode cX0_checkAttribute 0 = .ok (.iload_n 0, 1) := by decide +kernel
theorem dX0_checkAttribute_1 : decode cX0_checkAttribute 1 = .ok (.ifCond .lt 9, 3) := by decide +kernel
theorem dX0_checkAttribute_4 : decode cX0_checkAttribute 4 = .ok (.iload_n 0, 1) := by decide +kernel
theorem dX0_checkAttribute_5 : decode cX0_checkAttribute 5 = .ok (.bipush 6, 2) := by decide +kernel
theorem dX0_checkAttribute_7 : decode cX0_checkAttribute 7 = .ok (.if_icmp .lt 13, 3) := by decide +kernel
theorem dX0_checkAttribute_10 : decode cX0_checkAttribute 10 = .ok (.new 122, 3) := by decide +kernel
theorem dX0_checkAttribute_13 : decode cX0_checkAttribute 13 = .ok (.dup, 1) := by decide +kernel
theorem dX0_checkAttribute_14 : decode cX0_checkAttribute 14 = .ok (.ldc 199, 2) := by decide +kernel
theorem dX0_checkAttribute_16 : decode cX0_checkAttribute 16 = .ok (.invokespecial 126, 3) := by decide +kernel
theorem dX0_checkAttribute_19 : decode cX0_checkAttribute 19 = .ok (.athrow, 1) := by decide +kernel
theorem dX0_checkAttribute_20 : decode cX0_checkAttribute 20 = .ok (.return_, 1) := by decide +kernel
theorem dX0_checkShop_0 : decode cX0_checkShop 0 = .ok (.iload_n 0, 1) := by decide +kernel
theorem dX0_checkShop_1 : decode cX0_checkShop 1 = .ok (.ifCond .lt 8, 3) := by decide +kernel
theorem dX0_checkShop_4 : decode cX0_checkShop 4 = .ok (.iload_n 0, 1) := by decide +kernel
theorem dX0_checkShop_5 : decode cX0_checkShop 5 = .ok (.iconst 3, 1) := by decide +kernel
theorem dX0_checkShop_6 : decode cX0_checkShop 6 = .ok (.if_icmp .lt 13, 3) := by decide +kernel
theorem dX0_checkShop_9 : decode cX0_checkShop 9 = .ok (.new 122, 3) := by decide +kernel
theorem dX0_checkShop_12 : decode cX0_checkShop 12 = .ok (.dup, 1) := by decide +kernel
theorem dX0_checkShop_13 : decode cX0_checkShop 13 = .ok (.ldc 201, 2) := by decide +kernel
theorem dX0_checkShop_15 : decode cX0_checkShop 15 = .ok (.invokespecial 126, 3) := by decide +kernel
theorem dX0_checkShop_18 : decode cX0_checkShop 18 = .ok (.athrow, 1) := by decide +kernel
theorem dX0_checkShop_19 : decode cX0_checkShop 19 = .ok (.return_, 1) := by decide +kernel
theorem dX0_checkTongue_0 : decode cX0_checkTongue 0 = .ok (.iload_n 0, 1) := by decide +kernel
theorem dX0_checkTongue_1 : decode cX0_checkTongue 1 = .ok (.ifCond .lt 8, 3) := by decide +kernel
theorem dX0_checkTongue_4 : decode cX0_checkTongue 4 = .ok (.iload_n 0, 1) := by decide +kernel
theorem dX0_checkTongue_5 : decode cX0_checkTongue 5 = .ok (.iconst 3, 1) := by decide +kernel
theorem dX0_checkTongue_6 : decode cX0_checkTongue 6 = .ok (.if_icmp .lt 13, 3) := by decide +kernel
theorem dX0_checkTongue_9 : decode cX0_checkTongue 9 = .ok (.new 122, 3) := by decide +kernel
theorem dX0_checkTongue_12 : decode cX0_checkTongue 12 = .ok (.dup, 1) := by decide +kernel
theorem dX0_checkTongue_13 : decode cX0_checkTongue 13 = .ok (.ldc 203, 2) := by decide +kernel
theorem dX0_checkTongue_15 : decode cX0_checkTongue 15 = .ok (.invokespecial 126, 3) := by decide +kernel
theorem dX0_checkTongue_18 : decode cX0_checkTongue 18 = .ok (.athrow, 1) := by decide +kernel
theorem dX0_checkTongue_19 : decode cX0_checkTongue 19 = .ok (.return_, 1) := by decide +kernel
set_option maxRecDepth 20000 in
theorem ggX0_checkSight_X0_checkGood : GoodIn wsX0_checkSight wsX0_checkGood := goodIn_ca (goodIn_r _ [5, 6, 7, 8, 9, 10, 4, 11, 12, 22, 23, 24, 25, 26, 27, 28, 29, 30, 31, 32, 33, 34, 35, 36, 37] (by decide +kernel) (by decide +kernel)) (goodIn_sub (fun _ h => List.mem_cons_of_mem _ (List.mem_append_right _ h)) (by decide +kernel))
set_option maxRecDepth 20000 in
theorem gX0_checkSight_X0_checkGood : GoodIn wsX0_checkSight (wsV RX0 77 RX0 yX0_checkGood wsX0_checkGood) := goodIn_app (goodIn_of _ (by decide +kernel)) ggX0_checkSight_X0_checkGood
set_option maxRecDepth 20000 in
theorem ggX0_checkSight_X0_checkAttribute : GoodIn wsX0_checkSight wsX0_checkAttribute := goodIn_ca (goodIn_r _ [15, 6, 7] (by decide +kernel) (by decide +kernel)) (goodIn_sub (fun _ h => List.mem_cons_of_mem _ (List.mem_append_right _ h)) (by decide +kernel))
set_option maxRecDepth 20000 in
theorem gX0_checkSight_X0_checkAttribute : GoodIn wsX0_checkSight (va_wsS RX0 135 yX0_checkAttribute wsX0_checkAttribute) := goodIn_app (goodIn_of _ (by decide +kernel)) ggX0_checkSight_X0_checkAttribute
set_option maxRecDepth 20000 in
theorem ggX0_checkSight_X0_checkShop : GoodIn wsX0_checkSight wsX0_checkShop := goodIn_ca (goodIn_r _ [18, 6, 7] (by decide +kernel) (by decide +kernel)) (goodIn_sub (fun _ h => List.mem_cons_of_mem _ (List.mem_append_right _ h)) (by decide +kernel))
set_option maxRecDepth 20000 in
theorem gX0_checkSight_X0_checkShop : GoodIn wsX0_checkSight (va_wsS RX0 138 yX0_checkShop wsX0_checkShop) := goodIn_app (goodIn_of _ (by decide +kernel)) ggX0_checkSight_X0_checkShop
set_option maxRecDepth 20000 in
theorem ggX0_checkSight_X0_checkTongue : GoodIn wsX0_checkSight wsX0_checkTongue := goodIn_ca (goodIn_r _ [21, 6, 7] (by decide +kernel) (by decide +kernel)) (goodIn_sub (fun _ h => List.mem_cons_of_mem _ (List.mem_append_right _ h)) (by decide +kernel))
set_option maxRecDepth 20000 in
theorem gX0_checkSight_X0_checkTongue : GoodIn wsX0_checkSight (va_wsS RX0 141 yX0_checkTongue wsX0_checkTongue) := goodIn_app (goodIn_of _ (by decide +kernel)) ggX0_checkSight_X0_checkTongue
theorem dX0_checkSight_0 : decode cX0_checkSight 0 = .ok (.aload_n 0, 1) := by decide +kernel
theorem dX0_checkSight_1 : decode cX0_checkSight 1 = .ok (.iload_n 1, 1) := by decide +kernel
theorem dX0_checkSight_2 : decode cX0_checkSight 2 = .ok (.invokevirtual 77, 3) := by decide +kernel
theorem dX0_checkSight_5 : decode cX0_checkSight 5 = .ok (.iload_n 2, 1) := by decide +kernel
theorem dX0_checkSight_6 : decode cX0_checkSight 6 = .ok (.invokestatic 135, 3) := by decide +kernel
theorem dX0_checkSight_9 : decode cX0_checkSight 9 = .ok (.iload_n 3, 1) := by decide +kernel
theorem dX0_checkSight_10 : decode cX0_checkSight 10 = .ok (.invokestatic 138, 3) := by decide +kernel
theorem dX0_checkSight_13 : decode cX0_checkSight 13 = .ok (.iload 4, 2) := by decide +kernel
theorem dX0_checkSight_15 : decode cX0_checkSight 15 = .ok (.invokestatic 141, 3) := by decide +kernel
theorem dX0_checkSight_18 : decode cX0_checkSight 18 = .ok (.return_, 1) := by decide +kernel
set_option maxRecDepth 20000 in
theorem ggX0_findValue_X0_findOrigin : GoodIn wsX0_findValue wsX0_findOrigin := goodIn_r _ [6, 7, 8, 9, 10, 5, 11, 12, 13, 14, 15, 16, 17, 18, 19, 20, 26, 27, 28, 29, 30, 31, 32, 33, 34, 35, 36, 37, 38, 39, 40, 41] (by decide +kernel) (by decide +kernel)
set_option maxRecDepth 20000 in
theorem gX0_findValue_X0_findOrigin : GoodIn wsX0_findValue (wsV RX0 184 RX0 yX0_findOrigin wsX0_findOrigin) := goodIn_app (goodIn_of _ (by decide +kernel)) ggX0_findValue_X0_findOrigin
set_option maxRecDepth 20000 in
theorem ggX0_findValue_X0_isEntered : GoodIn wsX0_findValue wsX0_isEntered := goodIn_r _ [24, 25, 26, 27, 28, 29, 30, 31, 32, 33, 34, 35, 36, 37, 38, 39, 40, 41] (by decide +kernel) (by decide +kernel)
set_option maxRecDepth 20000 in
theorem gX0_findValue_X0_isEntered : GoodIn wsX0_findValue (wsV RX0 167 RX0 yX0_isEntered wsX0_isEntered) := goodIn_app (goodIn_of _ (by decide +kernel)) ggX0_findValue_X0_isEntered
theorem dX0_findValue_0 : decode cX0_findValue 0 = .ok (.aload_n 0, 1) := by decide +kernel
theorem dX0_findValue_1 : decode cX0_findValue 1 = .ok (.iload_n 1, 1) := by decide +kernel
theorem dX0_findValue_2 : decode cX0_findValue 2 = .ok (.iload_n 2, 1) := by decide +kernel
theorem dX0_findValue_3 : decode cX0_findValue 3 = .ok (.iload_n 3, 1) := by decide +kernel
theorem dX0_findValue_4 : decode cX0_findValue 4 = .ok (.iload 4, 2) := by decide +kernel
theorem dX0_findValue_6 : decode cX0_findValue 6 = .ok (.invokevirtual 184, 3) := by decide +kernel
theorem dX0_findValue_9 : decode cX0_findValue 9 = .ok (.istore 5, 2) := by decide +kernel
theorem dX0_findValue_11 : decode cX0_findValue 11 = .ok (.aload_n 0, 1) := by decide +kernel
theorem dX0_findValue_12 : decode cX0_findValue 12 = .ok (.iload 5, 2) := by decide +kernel
theorem dX0_findValue_14 : decode cX0_findValue 14 = .ok (.invokevirtual 167, 3) := by decide +kernel
theorem dX0_findValue_17 : decode cX0_findValue 17 = .ok (.ifCond .eq 13, 3) := by decide +kernel
theorem dX0_findValue_20 : decode cX0_findValue 20 = .ok (.aload_n 0, 1) := by decide +kernel
theorem dX0_findValue_21 : decode cX0_findValue 21 = .ok (.getfield 33, 3) := by decide +kernel
theorem dX0_findValue_24 : decode cX0_findValue 24 = .ok (.iload 5, 2) := by decide +kernel
theorem dX0_findValue_26 : decode cX0_findValue 26 = .ok (.iaload, 1) := by decide +kernel
theorem dX0_findValue_27 : decode cX0_findValue 27 = .ok (.goto 4, 3) := by decide +kernel
theorem dX0_findValue_30 : decode cX0_findValue 30 = .ok (.iconst (-1), 1) := by decide +kernel
theorem dX0_findValue_31 : decode cX0_findValue 31 = .ok (.ireturn, 1) := by decide +kernel
set_option maxRecDepth 20000 in
theorem ggX0_findOrigin_X0_isGood : GoodIn wsX0_findOrigin wsX0_isGood := goodIn_r _ [6, 7, 16, 17, 18, 19, 20, 21, 22, 23, 24, 25, 26, 27, 28, 29, 30, 31] (by decide +kernel) (by decide +kernel)
set_option maxRecDepth 20000 in
theorem gX0_findOrigin_X0_isGood : GoodIn wsX0_findOrigin (wsV RX0 119 RX0 yX0_isGood wsX0_isGood) := goodIn_app (goodIn_of _ (by decide +kernel)) ggX0_findOrigin_X0_isGood
set_option maxRecDepth 20000 in
theorem ggX0_findOrigin_X0_findOwnOrigin : GoodIn wsX0_findOrigin wsX0_findOwnOrigin := goodIn_r _ [11, 12, 13, 14, 5, 15, 16, 17, 18, 19, 20, 21, 22, 23, 24, 25, 26, 27, 28, 29, 30, 31] (by decide +kernel) (by decide +kernel)
set_option maxRecDepth 20000 in
theorem gX0_findOrigin_X0_findOwnOrigin : GoodIn wsX0_findOrigin (wsV RX0 205 RX0 yX0_findOwnOrigin wsX0_findOwnOrigin) := goodIn_app (goodIn_of _ (by decide +kernel)) ggX0_findOrigin_X0_findOwnOrigin
theorem dX0_findOrigin_0 : decode cX0_findOrigin 0 = .ok (.iload_n 1, 1) := by decide +kernel
theorem dX0_findOrigin_1 : decode cX0_findOrigin 1 = .ok (.istore 5, 2) := by decide +kernel
theorem dX0_findOrigin_3 : decode cX0_findOrigin 3 = .ok (.iconst 0, 1) := by decide +kernel
theorem dX0_findOrigin_4 : decode cX0_findOrigin 4 = .ok (.istore 6, 2) := by decide +kernel
theorem dX0_findOrigin_6 : decode cX0_findOrigin 6 = .ok (.iload 6, 2) := by decide +kernel
theorem dX0_findOrigin_8 : decode cX0_findOrigin 8 = .ok (.iconst 3, 1) := by decide +kernel
theorem dX0_findOrigin_9 : decode cX0_findOrigin 9 = .ok (.if_icmp .ge 48, 3) := by decide +kernel
theorem dX0_findOrigin_12 : decode cX0_findOrigin 12 = .ok (.aload_n 0, 1) := by decide +kernel
theorem dX0_findOrigin_13 : decode cX0_findOrigin 13 = .ok (.iload 5, 2) := by decide +kernel
theorem dX0_findOrigin_15 : decode cX0_findOrigin 15 = .ok (.invokevirtual 119, 3) := by decide +kernel
theorem dX0_findOrigin_18 : decode cX0_findOrigin 18 = .ok (.ifCond .eq 39, 3) := by decide +kernel
theorem dX0_findOrigin_21 : decode cX0_findOrigin 21 = .ok (.aload_n 0, 1) := by decide +kernel
theorem dX0_findOrigin_22 : decode cX0_findOrigin 22 = .ok (.iload 5, 2) := by decide +kernel
theorem dX0_findOrigin_24 : decode cX0_findOrigin 24 = .ok (.iload_n 2, 1) := by decide +kernel
theorem dX0_findOrigin_25 : decode cX0_findOrigin 25 = .ok (.iload_n 3, 1) := by decide +kernel
theorem dX0_findOrigin_26 : decode cX0_findOrigin 26 = .ok (.iload 4, 2) := by decide +kernel
theorem dX0_findOrigin_28 : decode cX0_findOrigin 28 = .ok (.invokevirtual 205, 3) := by decide +kernel
theorem dX0_findOrigin_31 : decode cX0_findOrigin 31 = .ok (.istore 7, 2) := by decide +kernel
theorem dX0_findOrigin_33 : decode cX0_findOrigin 33 = .ok (.iload 7, 2) := by decide +kernel
theorem dX0_findOrigin_35 : decode cX0_findOrigin 35 = .ok (.iconst (-1), 1) := by decide +kernel
theorem dX0_findOrigin_36 : decode cX0_findOrigin 36 = .ok (.if_icmp .eq 6, 3) := by decide +kernel
theorem dX0_findOrigin_39 : decode cX0_findOrigin 39 = .ok (.iload 7, 2) := by decide +kernel
theorem dX0_findOrigin_41 : decode cX0_findOrigin 41 = .ok (.ireturn, 1) := by decide +kernel
theorem dX0_findOrigin_42 : decode cX0_findOrigin 42 = .ok (.aload_n 0, 1) := by decide +kernel
theorem dX0_findOrigin_43 : decode cX0_findOrigin 43 = .ok (.getfield 13, 3) := by decide +kernel
theorem dX0_findOrigin_46 : decode cX0_findOrigin 46 = .ok (.iload 5, 2) := by decide +kernel
theorem dX0_findOrigin_48 : decode cX0_findOrigin 48 = .ok (.iaload, 1) := by decide +kernel
theorem dX0_findOrigin_49 : decode cX0_findOrigin 49 = .ok (.istore 5, 2) := by decide +kernel
theorem dX0_findOrigin_51 : decode cX0_findOrigin 51 = .ok (.iinc 6 1, 3) := by decide +kernel
theorem dX0_findOrigin_54 : decode cX0_findOrigin 54 = .ok (.goto (-48), 3) := by decide +kernel
theorem dX0_findOrigin_57 : decode cX0_findOrigin 57 = .ok (.iconst (-1), 1) := by decide +kernel
theorem dX0_findOrigin_58 : decode cX0_findOrigin 58 = .ok (.ireturn, 1) := by decide +kernel
set_option maxRecDepth 20000 in
theorem ggX0_findOwnOrigin_X0_placeOf : GoodIn wsX0_findOwnOrigin wsX0_placeOf := goodIn_r _ [5] (by decide +kernel) (by decide +kernel)
set_option maxRecDepth 20000 in
theorem gX0_findOwnOrigin_X0_placeOf : GoodIn wsX0_findOwnOrigin (va_wsS RX0 151 yX0_placeOf wsX0_placeOf) := goodIn_app (goodIn_of _ (by decide +kernel)) ggX0_findOwnOrigin_X0_placeOf
theorem dX0_findOwnOrigin_0 : decode cX0_findOwnOrigin 0 = .ok (.aload_n 0, 1) := by decide +kernel
theorem dX0_findOwnOrigin_1 : decode cX0_findOwnOrigin 1 = .ok (.getfield 48, 3) := by decide +kernel
theorem dX0_findOwnOrigin_4 : decode cX0_findOwnOrigin 4 = .ok (.iload_n 1, 1) := by decide +kernel
theorem dX0_findOwnOrigin_5 : decode cX0_findOwnOrigin 5 = .ok (.iload_n 2, 1) := by decide +kernel
theorem dX0_findOwnOrigin_6 : decode cX0_findOwnOrigin 6 = .ok (.iload_n 3, 1) := by decide +kernel
theorem dX0_findOwnOrigin_7 : decode cX0_findOwnOrigin 7 = .ok (.iload 4, 2) := by decide +kernel
theorem dX0_findOwnOrigin_9 : decode cX0_findOwnOrigin 9 = .ok (.invokestatic 151, 3) := by decide +kernel
theorem dX0_findOwnOrigin_12 : decode cX0_findOwnOrigin 12 = .ok (.iaload, 1) := by decide +kernel
theorem dX0_findOwnOrigin_13 : decode cX0_findOwnOrigin 13 = .ok (.istore 5, 2) := by decide +kernel
theorem dX0_findOwnOrigin_15 : decode cX0_findOwnOrigin 15 = .ok (.iload 5, 2) := by decide +kernel
theorem dX0_findOwnOrigin_17 : decode cX0_findOwnOrigin 17 = .ok (.iconst (-1), 1) := by decide +kernel
theorem dX0_findOwnOrigin_18 : decode cX0_findOwnOrigin 18 = .ok (.if_icmp .ne 17, 3) := by decide +kernel
theorem dX0_findOwnOrigin_21 : decode cX0_findOwnOrigin 21 = .ok (.aload_n 0, 1) := by decide +kernel
theorem dX0_findOwnOrigin_22 : decode cX0_findOwnOrigin 22 = .ok (.getfield 48, 3) := by decide +kernel
theorem dX0_findOwnOrigin_25 : decode cX0_findOwnOrigin 25 = .ok (.iload_n 1, 1) := by decide +kernel
theorem dX0_findOwnOrigin_26 : decode cX0_findOwnOrigin 26 = .ok (.iload_n 2, 1) := by decide +kernel
theorem dX0_findOwnOrigin_27 : decode cX0_findOwnOrigin 27 = .ok (.iload_n 3, 1) := by decide +kernel
theorem dX0_findOwnOrigin_28 : decode cX0_findOwnOrigin 28 = .ok (.iconst (-1), 1) := by decide +kernel
theorem dX0_findOwnOrigin_29 : decode cX0_findOwnOrigin 29 = .ok (.invokestatic 151, 3) := by decide +kernel
theorem dX0_findOwnOrigin_32 : decode cX0_findOwnOrigin 32 = .ok (.iaload, 1) := by decide +kernel
theorem dX0_findOwnOrigin_33 : decode cX0_findOwnOrigin 33 = .ok (.istore 5, 2) := by decide +kernel
theorem dX0_findOwnOrigin_35 : decode cX0_findOwnOrigin 35 = .ok (.iload 5, 2) := by decide +kernel
theorem dX0_findOwnOrigin_37 : decode cX0_findOwnOrigin 37 = .ok (.iconst (-1), 1) := by decide +kernel
theorem dX0_findOwnOrigin_38 : decode cX0_findOwnOrigin 38 = .ok (.if_icmp .ne 18, 3) := by decide +kernel
theorem dX0_findOwnOrigin_41 : decode cX0_findOwnOrigin 41 = .ok (.aload_n 0, 1) := by decide +kernel
theorem dX0_findOwnOrigin_42 : decode cX0_findOwnOrigin 42 = .ok (.getfield 48, 3) := by decide +kernel
theorem dX0_findOwnOrigin_45 : decode cX0_findOwnOrigin 45 = .ok (.iload_n 1, 1) := by decide +kernel
theorem dX0_findOwnOrigin_46 : decode cX0_findOwnOrigin 46 = .ok (.iload_n 2, 1) := by decide +kernel
theorem dX0_findOwnOrigin_47 : decode cX0_findOwnOrigin 47 = .ok (.iconst (-1), 1) := by decide +kernel
theorem dX0_findOwnOrigin_48 : decode cX0_findOwnOrigin 48 = .ok (.iload 4, 2) := by decide +kernel
theorem dX0_findOwnOrigin_50 : decode cX0_findOwnOrigin 50 = .ok (.invokestatic 151, 3) := by decide +kernel
theorem dX0_findOwnOrigin_53 : decode cX0_findOwnOrigin 53 = .ok (.iaload, 1) := by decide +kernel
theorem dX0_findOwnOrigin_54 : decode cX0_findOwnOrigin 54 = .ok (.istore 5, 2) := by decide +kernel
theorem dX0_findOwnOrigin_56 : decode cX0_findOwnOrigin 56 = .ok (.iload 5, 2) := by decide +kernel
theorem dX0_findOwnOrigin_58 : decode cX0_findOwnOrigin 58 = .ok (.iconst (-1), 1) := by decide +kernel
theorem dX0_findOwnOrigin_59 : decode cX0_findOwnOrigin 59 = .ok (.if_icmp .ne 17, 3) := by decide +kernel
theorem dX0_findOwnOrigin_62 : decode cX0_findOwnOrigin 62 = .ok (.aload_n 0, 1) := by decide +kernel
theorem dX0_findOwnOrigin_63 : decode cX0_findOwnOrigin 63 = .ok (.getfield 48, 3) := by decide +kernel
theorem dX0_findOwnOrigin_66 : decode cX0_findOwnOrigin 66 = .ok (.iload_n 1, 1) := by decide +kernel
theorem dX0_findOwnOrigin_67 : decode cX0_findOwnOrigin 67 = .ok (.iload_n 2, 1) := by decide +kernel
theorem dX0_findOwnOrigin_68 : decode cX0_findOwnOrigin 68 = .ok (.iconst (-1), 1) := by decide +kernel
theorem dX0_findOwnOrigin_69 : decode cX0_findOwnOrigin 69 = .ok (.iconst (-1), 1) := by decide +kernel
theorem dX0_findOwnOrigin_70 : decode cX0_findOwnOrigin 70 = .ok (.invokestatic 151, 3) := by decide +kernel
theorem dX0_findOwnOrigin_73 : decode cX0_findOwnOrigin 73 = .ok (.iaload, 1) := by decide +kernel
theorem dX0_findOwnOrigin_74 : decode cX0_findOwnOrigin 74 = .ok (.istore 5, 2) := by decide +kernel
theorem dX0_findOwnOrigin_76 : decode cX0_findOwnOrigin 76 = .ok (.iload 5, 2) := by decide +kernel
theorem dX0_findOwnOrigin_78 : decode cX0_findOwnOrigin 78 = .ok (.ireturn, 1) := by decide +kernel
set_option maxRecDepth 20000 in
theorem ggX0_findMissing_X0_findValue : GoodIn wsX0_findMissing wsX0_findValue := goodIn_r _ [6, 7, 8, 9, 10, 5, 11, 12, 13, 14, 15, 16, 17, 18, 19, 20, 21, 22, 23, 24, 25, 26, 27, 28, 29, 30, 31, 32, 33, 34, 35, 36, 37, 38, 39, 40, 41, 42, 43, 44, 45, 46] (by decide +kernel) (by decide +kernel)
set_option maxRecDepth 20000 in
theorem gX0_findMissing_X0_findValue : GoodIn wsX0_findMissing (wsV RX0 179 RX0 yX0_findValue wsX0_findValue) := goodIn_app (goodIn_of _ (by decide +kernel)) ggX0_findMissing_X0_findValue
theorem dX0_findMissing_0 : decode cX0_findMissing 0 = .ok (.iconst 0, 1) := by decide +kernel
theorem dX0_findMissing_1 : decode cX0_findMissing 1 = .ok (.istore 4, 2) := by decide +kernel
theorem dX0_findMissing_3 : decode cX0_findMissing 3 = .ok (.iconst 0, 1) := by decide +kernel
theorem dX0_findMissing_4 : decode cX0_findMissing 4 = .ok (.istore 5, 2) := by decide +kernel
theorem dX0_findMissing_6 : decode cX0_findMissing 6 = .ok (.iload 5, 2) := by decide +kernel
theorem dX0_findMissing_8 : decode cX0_findMissing 8 = .ok (.bipush 6, 2) := by decide +kernel
theorem dX0_findMissing_10 : decode cX0_findMissing 10 = .ok (.if_icmp .ge 46, 3) := by decide +kernel
theorem dX0_findMissing_13 : decode cX0_findMissing 13 = .ok (.aload_n 0, 1) := by decide +kernel
theorem dX0_findMissing_14 : decode cX0_findMissing 14 = .ok (.getfield 51, 3) := by decide +kernel
theorem dX0_findMissing_17 : decode cX0_findMissing 17 = .ok (.iload_n 2, 1) := by decide +kernel
theorem dX0_findMissing_18 : decode cX0_findMissing 18 = .ok (.bipush 6, 2) := by decide +kernel
theorem dX0_findMissing_20 : decode cX0_findMissing 20 = .ok (.imul, 1) := by decide +kernel
theorem dX0_findMissing_21 : decode cX0_findMissing 21 = .ok (.iload 5, 2) := by decide +kernel
theorem dX0_findMissing_23 : decode cX0_findMissing 23 = .ok (.iadd, 1) := by decide +kernel
theorem dX0_findMissing_24 : decode cX0_findMissing 24 = .ok (.baload, 1) := by decide +kernel
theorem dX0_findMissing_25 : decode cX0_findMissing 25 = .ok (.ifCond .eq 25, 3) := by decide +kernel
theorem dX0_findMissing_28 : decode cX0_findMissing 28 = .ok (.aload_n 0, 1) := by decide +kernel
theorem dX0_findMissing_29 : decode cX0_findMissing 29 = .ok (.iload_n 1, 1) := by decide +kernel
theorem dX0_findMissing_30 : decode cX0_findMissing 30 = .ok (.iload 5, 2) := by decide +kernel
theorem dX0_findMissing_32 : decode cX0_findMissing 32 = .ok (.iload_n 2, 1) := by decide +kernel
theorem dX0_findMissing_33 : decode cX0_findMissing 33 = .ok (.iload_n 3, 1) := by decide +kernel
theorem dX0_findMissing_34 : decode cX0_findMissing 34 = .ok (.invokevirtual 179, 3) := by decide +kernel
theorem dX0_findMissing_37 : decode cX0_findMissing 37 = .ok (.iconst (-1), 1) := by decide +kernel
theorem dX0_findMissing_38 : decode cX0_findMissing 38 = .ok (.if_icmp .ne 12, 3) := by decide +kernel
theorem dX0_findMissing_41 : decode cX0_findMissing 41 = .ok (.iload 4, 2) := by decide +kernel
theorem dX0_findMissing_43 : decode cX0_findMissing 43 = .ok (.iconst 1, 1) := by decide +kernel
theorem dX0_findMissing_44 : decode cX0_findMissing 44 = .ok (.iload 5, 2) := by decide +kernel
theorem dX0_findMissing_46 : decode cX0_findMissing 46 = .ok (.ishl, 1) := by decide +kernel
theorem dX0_findMissing_47 : decode cX0_findMissing 47 = .ok (.ior, 1) := by decide +kernel
theorem dX0_findMissing_48 : decode cX0_findMissing 48 = .ok (.istore 4, 2) := by decide +kernel
theorem dX0_findMissing_50 : decode cX0_findMissing 50 = .ok (.iinc 5 1, 3) := by decide +kernel
theorem dX0_findMissing_53 : decode cX0_findMissing 53 = .ok (.goto (-47), 3) := by decide +kernel
theorem dX0_findMissing_56 : decode cX0_findMissing 56 = .ok (.iload 4, 2) := by decide +kernel
theorem dX0_findMissing_58 : decode cX0_findMissing 58 = .ok (.ireturn, 1) := by decide +kernel
set_option maxRecDepth 20000 in
theorem ggX0_isComplete_X0_findMissing : GoodIn wsX0_isComplete wsX0_findMissing := goodIn_r _ [5, 6, 7, 8, 9, 4, 10, 11, 12, 13, 14, 15, 16, 17, 18, 19, 20, 21, 22, 23, 24, 25, 26, 27, 28, 29, 30, 31, 32, 33, 34, 35, 36, 37, 38, 39, 40, 41, 42, 43, 44, 45, 46, 47, 48, 49, 50] (by decide +kernel) (by decide +kernel)
set_option maxRecDepth 20000 in
theorem gX0_isComplete_X0_findMissing : GoodIn wsX0_isComplete (wsV RX0 187 RX0 yX0_findMissing wsX0_findMissing) := goodIn_app (goodIn_of _ (by decide +kernel)) ggX0_isComplete_X0_findMissing
theorem dX0_isComplete_0 : decode cX0_isComplete 0 = .ok (.iconst 0, 1) := by decide +kernel
theorem dX0_isComplete_1 : decode cX0_isComplete 1 = .ok (.istore_n 3, 1) := by decide +kernel
theorem dX0_isComplete_2 : decode cX0_isComplete 2 = .ok (.iload_n 3, 1) := by decide +kernel
theorem dX0_isComplete_3 : decode cX0_isComplete 3 = .ok (.iconst 3, 1) := by decide +kernel
theorem dX0_isComplete_4 : decode cX0_isComplete 4 = .ok (.if_icmp .ge 21, 3) := by decide +kernel
theorem dX0_isComplete_7 : decode cX0_isComplete 7 = .ok (.aload_n 0, 1) := by decide +kernel
theorem dX0_isComplete_8 : decode cX0_isComplete 8 = .ok (.iload_n 1, 1) := by decide +kernel
theorem dX0_isComplete_9 : decode cX0_isComplete 9 = .ok (.iload_n 2, 1) := by decide +kernel
theorem dX0_isComplete_10 : decode cX0_isComplete 10 = .ok (.iload_n 3, 1) := by decide +kernel
theorem dX0_isComplete_11 : decode cX0_isComplete 11 = .ok (.invokevirtual 187, 3) := by decide +kernel
theorem dX0_isComplete_14 : decode cX0_isComplete 14 = .ok (.ifCond .eq 5, 3) := by decide +kernel
theorem dX0_isComplete_17 : decode cX0_isComplete 17 = .ok (.iconst 0, 1) := by decide +kernel
theorem dX0_isComplete_18 : decode cX0_isComplete 18 = .ok (.ireturn, 1) := by decide +kernel
theorem dX0_isComplete_19 : decode cX0_isComplete 19 = .ok (.iinc 3 1, 3) := by decide +kernel
theorem dX0_isComplete_22 : decode cX0_isComplete 22 = .ok (.goto (-20), 3) := by decide +kernel
theorem dX0_isComplete_25 : decode cX0_isComplete 25 = .ok (.iconst 1, 1) := by decide +kernel
theorem dX0_isComplete_26 : decode cX0_isComplete 26 = .ok (.ireturn, 1) := by decide +kernel
set_option maxRecDepth 20000 in
theorem ggX0_findPrice_X0_findValue : GoodIn wsX0_findPrice wsX0_findValue := goodIn_r _ [6, 7, 8, 9, 10, 5, 11, 12, 13, 14, 15, 16, 17, 18, 19, 20, 21, 22, 23, 24, 25, 26, 27, 28, 29, 30, 39, 40, 41, 42, 43, 44, 45, 46, 47, 48, 49, 50, 51, 52, 53, 54] (by decide +kernel) (by decide +kernel)
set_option maxRecDepth 20000 in
theorem gX0_findPrice_X0_findValue : GoodIn wsX0_findPrice (wsV RX0 179 RX0 yX0_findValue wsX0_findValue) := goodIn_app (goodIn_of _ (by decide +kernel)) ggX0_findPrice_X0_findValue
set_option maxRecDepth 20000 in
theorem ggX0_findPrice_X0_sumUpParts : GoodIn wsX0_findPrice wsX0_sumUpParts := goodIn_r _ [34, 35, 1, 36, 37, 38, 39, 40, 41, 42, 43, 44, 45, 46, 47, 48, 49, 50, 51, 52, 53, 54] (by decide +kernel) (by decide +kernel)
set_option maxRecDepth 20000 in
theorem gX0_findPrice_X0_sumUpParts : GoodIn wsX0_findPrice (wsV RX0 208 RX0 yX0_sumUpParts wsX0_sumUpParts) := goodIn_app (goodIn_of _ (by decide +kernel)) ggX0_findPrice_X0_sumUpParts
theorem dX0_findPrice_0 : decode cX0_findPrice 0 = .ok (.iconst 0, 1) := by decide +kernel
theorem dX0_findPrice_1 : decode cX0_findPrice 1 = .ok (.istore_n 3, 1) := by decide +kernel
theorem dX0_findPrice_2 : decode cX0_findPrice 2 = .ok (.iload_n 3, 1) := by decide +kernel
theorem dX0_findPrice_3 : decode cX0_findPrice 3 = .ok (.iload_n 1, 1) := by decide +kernel
theorem dX0_findPrice_4 : decode cX0_findPrice 4 = .ok (.if_icmp .gt 41, 3) := by decide +kernel
theorem dX0_findPrice_7 : decode cX0_findPrice 7 = .ok (.aload_n 0, 1) := by decide +kernel
theorem dX0_findPrice_8 : decode cX0_findPrice 8 = .ok (.iload_n 3, 1) := by decide +kernel
theorem dX0_findPrice_9 : decode cX0_findPrice 9 = .ok (.iconst 0, 1) := by decide +kernel
theorem dX0_findPrice_10 : decode cX0_findPrice 10 = .ok (.iload_n 2, 1) := by decide +kernel
theorem dX0_findPrice_11 : decode cX0_findPrice 11 = .ok (.iconst 0, 1) := by decide +kernel
theorem dX0_findPrice_12 : decode cX0_findPrice 12 = .ok (.invokevirtual 179, 3) := by decide +kernel
theorem dX0_findPrice_15 : decode cX0_findPrice 15 = .ok (.istore 4, 2) := by decide +kernel
theorem dX0_findPrice_17 : decode cX0_findPrice 17 = .ok (.aload_n 0, 1) := by decide +kernel
theorem dX0_findPrice_18 : decode cX0_findPrice 18 = .ok (.getfield 57, 3) := by decide +kernel
theorem dX0_findPrice_21 : decode cX0_findPrice 21 = .ok (.iload_n 3, 1) := by decide +kernel
theorem dX0_findPrice_22 : decode cX0_findPrice 22 = .ok (.iload 4, 2) := by decide +kernel
theorem dX0_findPrice_24 : decode cX0_findPrice 24 = .ok (.iconst (-1), 1) := by decide +kernel
theorem dX0_findPrice_25 : decode cX0_findPrice 25 = .ok (.if_icmp .ne 11, 3) := by decide +kernel
theorem dX0_findPrice_28 : decode cX0_findPrice 28 = .ok (.aload_n 0, 1) := by decide +kernel
theorem dX0_findPrice_29 : decode cX0_findPrice 29 = .ok (.iload_n 3, 1) := by decide +kernel
theorem dX0_findPrice_30 : decode cX0_findPrice 30 = .ok (.invokevirtual 208, 3) := by decide +kernel
theorem dX0_findPrice_33 : decode cX0_findPrice 33 = .ok (.goto 5, 3) := by decide +kernel
theorem dX0_findPrice_36 : decode cX0_findPrice 36 = .ok (.iload 4, 2) := by decide +kernel
theorem dX0_findPrice_38 : decode cX0_findPrice 38 = .ok (.iastore, 1) := by decide +kernel
theorem dX0_findPrice_39 : decode cX0_findPrice 39 = .ok (.iinc 3 1, 3) := by decide +kernel
theorem dX0_findPrice_42 : decode cX0_findPrice 42 = .ok (.goto (-40), 3) := by decide +kernel
theorem dX0_findPrice_45 : decode cX0_findPrice 45 = .ok (.aload_n 0, 1) := by decide +kernel
theorem dX0_findPrice_46 : decode cX0_findPrice 46 = .ok (.getfield 57, 3) := by decide +kernel
theorem dX0_findPrice_49 : decode cX0_findPrice 49 = .ok (.iload_n 1, 1) := by decide +kernel
theorem dX0_findPrice_50 : decode cX0_findPrice 50 = .ok (.iaload, 1) := by decide +kernel
theorem dX0_findPrice_51 : decode cX0_findPrice 51 = .ok (.ireturn, 1) := by decide +kernel
theorem dX0_sumUpParts_0 : decode cX0_sumUpParts 0 = .ok (.iconst 0, 1) := by decide +kernel
theorem dX0_sumUpParts_1 : decode cX0_sumUpParts 1 = .ok (.istore_n 2, 1) := by decide +kernel
theorem dX0_sumUpParts_2 : decode cX0_sumUpParts 2 = .ok (.lconst 0, 1) := by decide +kernel
theorem dX0_sumUpParts_3 : decode cX0_sumUpParts 3 = .ok (.lstore_n 3, 1) := by decide +kernel
theorem dX0_sumUpParts_4 : decode cX0_sumUpParts 4 = .ok (.iconst 0, 1) := by decide +kernel
theorem dX0_sumUpParts_5 : decode cX0_sumUpParts 5 = .ok (.istore 5, 2) := by decide +kernel
theorem dX0_sumUpParts_7 : decode cX0_sumUpParts 7 = .ok (.iload 5, 2) := by decide +kernel
theorem dX0_sumUpParts_9 : decode cX0_sumUpParts 9 = .ok (.iload_n 1, 1) := by decide +kernel
theorem dX0_sumUpParts_10 : decode cX0_sumUpParts 10 = .ok (.if_icmp .ge 58, 3) := by decide +kernel
theorem dX0_sumUpParts_13 : decode cX0_sumUpParts 13 = .ok (.aload_n 0, 1) := by decide +kernel
theorem dX0_sumUpParts_14 : decode cX0_sumUpParts 14 = .ok (.getfield 20, 3) := by decide +kernel
theorem dX0_sumUpParts_17 : decode cX0_sumUpParts 17 = .ok (.iload_n 1, 1) := by decide +kernel
theorem dX0_sumUpParts_18 : decode cX0_sumUpParts 18 = .ok (.bipush 16, 2) := by decide +kernel
theorem dX0_sumUpParts_20 : decode cX0_sumUpParts 20 = .ok (.imul, 1) := by decide +kernel
theorem dX0_sumUpParts_21 : decode cX0_sumUpParts 21 = .ok (.iload 5, 2) := by decide +kernel
theorem dX0_sumUpParts_23 : decode cX0_sumUpParts 23 = .ok (.iadd, 1) := by decide +kernel
theorem dX0_sumUpParts_24 : decode cX0_sumUpParts 24 = .ok (.iaload, 1) := by decide +kernel
theorem dX0_sumUpParts_25 : decode cX0_sumUpParts 25 = .ok (.istore 6, 2) := by decide +kernel
theorem dX0_sumUpParts_27 : decode cX0_sumUpParts 27 = .ok (.iload 6, 2) := by decide +kernel
theorem dX0_sumUpParts_29 : decode cX0_sumUpParts 29 = .ok (.ifCond .le 33, 3) := by decide +kernel
theorem dX0_sumUpParts_32 : decode cX0_sumUpParts 32 = .ok (.aload_n 0, 1) := by decide +kernel
theorem dX0_sumUpParts_33 : decode cX0_sumUpParts 33 = .ok (.getfield 57, 3) := by decide +kernel
theorem dX0_sumUpParts_36 : decode cX0_sumUpParts 36 = .ok (.iload 5, 2) := by decide +kernel
theorem dX0_sumUpParts_38 : decode cX0_sumUpParts 38 = .ok (.iaload, 1) := by decide +kernel
theorem dX0_sumUpParts_39 : decode cX0_sumUpParts 39 = .ok (.iconst (-1), 1) := by decide +kernel
theorem dX0_sumUpParts_40 : decode cX0_sumUpParts 40 = .ok (.if_icmp .ne 5, 3) := by decide +kernel
theorem dX0_sumUpParts_43 : decode cX0_sumUpParts 43 = .ok (.iconst (-1), 1) := by decide +kernel
theorem dX0_sumUpParts_44 : decode cX0_sumUpParts 44 = .ok (.ireturn, 1) := by decide +kernel
theorem dX0_sumUpParts_45 : decode cX0_sumUpParts 45 = .ok (.iconst 1, 1) := by decide +kernel
theorem dX0_sumUpParts_46 : decode cX0_sumUpParts 46 = .ok (.istore_n 2, 1) := by decide +kernel
theorem dX0_sumUpParts_47 : decode cX0_sumUpParts 47 = .ok (.lload_n 3, 1) := by decide +kernel
theorem dX0_sumUpParts_48 : decode cX0_sumUpParts 48 = .ok (.aload_n 0, 1) := by decide +kernel
theorem dX0_sumUpParts_49 : decode cX0_sumUpParts 49 = .ok (.getfield 57, 3) := by decide +kernel
theorem dX0_sumUpParts_52 : decode cX0_sumUpParts 52 = .ok (.iload 5, 2) := by decide +kernel
theorem dX0_sumUpParts_54 : decode cX0_sumUpParts 54 = .ok (.iaload, 1) := by decide +kernel
theorem dX0_sumUpParts_55 : decode cX0_sumUpParts 55 = .ok (.i2l, 1) := by decide +kernel
theorem dX0_sumUpParts_56 : decode cX0_sumUpParts 56 = .ok (.iload 6, 2) := by decide +kernel
theorem dX0_sumUpParts_58 : decode cX0_sumUpParts 58 = .ok (.i2l, 1) := by decide +kernel
theorem dX0_sumUpParts_59 : decode cX0_sumUpParts 59 = .ok (.lmul, 1) := by decide +kernel
theorem dX0_sumUpParts_60 : decode cX0_sumUpParts 60 = .ok (.ladd, 1) := by decide +kernel
theorem dX0_sumUpParts_61 : decode cX0_sumUpParts 61 = .ok (.lstore_n 3, 1) := by decide +kernel
theorem dX0_sumUpParts_62 : decode cX0_sumUpParts 62 = .ok (.iinc 5 1, 3) := by decide +kernel
theorem dX0_sumUpParts_65 : decode cX0_sumUpParts 65 = .ok (.goto (-58), 3) := by decide +kernel
theorem dX0_sumUpParts_68 : decode cX0_sumUpParts 68 = .ok (.lload_n 3, 1) := by decide +kernel
theorem dX0_sumUpParts_69 : decode cX0_sumUpParts 69 = .ok (.bipush 100, 2) := by decide +kernel
theorem dX0_sumUpParts_71 : decode cX0_sumUpParts 71 = .ok (.aload_n 0, 1) := by decide +kernel
theorem dX0_sumUpParts_72 : decode cX0_sumUpParts 72 = .ok (.getfield 17, 3) := by decide +kernel
theorem dX0_sumUpParts_75 : decode cX0_sumUpParts 75 = .ok (.iload_n 1, 1) := by decide +kernel
theorem dX0_sumUpParts_76 : decode cX0_sumUpParts 76 = .ok (.iaload, 1) := by decide +kernel
theorem dX0_sumUpParts_77 : decode cX0_sumUpParts 77 = .ok (.isub, 1) := by decide +kernel
theorem dX0_sumUpParts_78 : decode cX0_sumUpParts 78 = .ok (.i2l, 1) := by decide +kernel
theorem dX0_sumUpParts_79 : decode cX0_sumUpParts 79 = .ok (.lmul, 1) := by decide +kernel
theorem dX0_sumUpParts_80 : decode cX0_sumUpParts 80 = .ok (.ldc2_w 211, 3) := by decide +kernel
theorem dX0_sumUpParts_83 : decode cX0_sumUpParts 83 = .ok (.ldiv, 1) := by decide +kernel
theorem dX0_sumUpParts_84 : decode cX0_sumUpParts 84 = .ok (.lstore 5, 2) := by decide +kernel
theorem dX0_sumUpParts_86 : decode cX0_sumUpParts 86 = .ok (.iload_n 2, 1) := by decide +kernel
theorem dX0_sumUpParts_87 : decode cX0_sumUpParts 87 = .ok (.ifCond .eq 18, 3) := by decide +kernel
theorem dX0_sumUpParts_90 : decode cX0_sumUpParts 90 = .ok (.lload 5, 2) := by decide +kernel
theorem dX0_sumUpParts_92 : decode cX0_sumUpParts 92 = .ok (.ldc2_w 213, 3) := by decide +kernel
theorem dX0_sumUpParts_95 : decode cX0_sumUpParts 95 = .ok (.lcmp, 1) := by decide +kernel
theorem dX0_sumUpParts_96 : decode cX0_sumUpParts 96 = .ok (.ifCond .gt 9, 3) := by decide +kernel
theorem dX0_sumUpParts_99 : decode cX0_sumUpParts 99 = .ok (.lload 5, 2) := by decide +kernel
theorem dX0_sumUpParts_101 : decode cX0_sumUpParts 101 = .ok (.l2i, 1) := by decide +kernel
theorem dX0_sumUpParts_102 : decode cX0_sumUpParts 102 = .ok (.goto 4, 3) := by decide +kernel
theorem dX0_sumUpParts_105 : decode cX0_sumUpParts 105 = .ok (.iconst (-1), 1) := by decide +kernel
theorem dX0_sumUpParts_106 : decode cX0_sumUpParts 106 = .ok (.ireturn, 1) := by decide +kernel
set_option maxRecDepth 20000 in
theorem ggX0_changed_X0_checkShop : GoodIn wsX0_changed wsX0_checkShop := goodIn_ca (goodIn_r _ [4, 5, 6] (by decide +kernel) (by decide +kernel)) (goodIn_sub (fun _ h => List.mem_cons_of_mem _ (List.mem_append_right _ h)) (by decide +kernel))
set_option maxRecDepth 20000 in
theorem gX0_changed_X0_checkShop : GoodIn wsX0_changed (va_wsS RX0 138 yX0_checkShop wsX0_checkShop) := goodIn_app (goodIn_of _ (by decide +kernel)) ggX0_changed_X0_checkShop
set_option maxRecDepth 20000 in
theorem ggX0_changed_X0_findChanged : GoodIn wsX0_changed wsX0_findChanged := goodIn_r _ [10, 11, 12, 13, 3, 14, 15, 16, 17, 18, 19, 20, 21, 22, 23, 24, 25, 26, 27, 28, 29, 30, 31, 32, 33, 34, 35, 36, 37, 38, 39, 40, 41, 42, 43, 44, 45, 46, 47, 48, 49, 50, 51, 52, 53, 54, 55, 56, 57, 58, 59] (by decide +kernel) (by decide +kernel)
set_option maxRecDepth 20000 in
theorem gX0_changed_X0_findChanged : GoodIn wsX0_changed (wsV RX0 215 RX0 yX0_findChanged wsX0_findChanged) := goodIn_app (goodIn_of _ (by decide +kernel)) ggX0_changed_X0_findChanged
theorem dX0_changed_0 : decode cX0_changed 0 = .ok (.iload_n 1, 1) := by decide +kernel
theorem dX0_changed_1 : decode cX0_changed 1 = .ok (.invokestatic 138, 3) := by decide +kernel
theorem dX0_changed_4 : decode cX0_changed 4 = .ok (.aload_n 0, 1) := by decide +kernel
theorem dX0_changed_5 : decode cX0_changed 5 = .ok (.iload_n 1, 1) := by decide +kernel
theorem dX0_changed_6 : decode cX0_changed 6 = .ok (.invokevirtual 215, 3) := by decide +kernel
theorem dX0_changed_9 : decode cX0_changed 9 = .ok (.ireturn, 1) := by decide +kernel
set_option maxRecDepth 20000 in
theorem ggX0_feed_X0_checkShop : GoodIn wsX0_feed wsX0_checkShop := goodIn_ca (goodIn_r _ [4, 5, 6] (by decide +kernel) (by decide +kernel)) (goodIn_sub (fun _ h => List.mem_cons_of_mem _ (List.mem_append_right _ h)) (by decide +kernel))
set_option maxRecDepth 20000 in
theorem gX0_feed_X0_checkShop : GoodIn wsX0_feed (va_wsS RX0 138 yX0_checkShop wsX0_checkShop) := goodIn_app (goodIn_of _ (by decide +kernel)) ggX0_feed_X0_checkShop
set_option maxRecDepth 20000 in
theorem ggX0_feed_X0_findChanged : GoodIn wsX0_feed wsX0_findChanged := goodIn_r _ [10, 11, 12, 13, 3, 14, 15, 16, 17, 18, 19, 20, 21, 22, 23, 24, 25, 26, 27, 28, 29, 30, 31, 32, 33, 34, 35, 36, 37, 38, 39, 40, 41, 42, 43, 55, 56, 57, 58, 59, 60, 61, 62, 63, 64, 65, 66, 67, 68, 69, 70] (by decide +kernel) (by decide +kernel)
set_option maxRecDepth 20000 in
theorem gX0_feed_X0_findChanged : GoodIn wsX0_feed (wsV RX0 215 RX0 yX0_findChanged wsX0_findChanged) := goodIn_app (goodIn_of _ (by decide +kernel)) ggX0_feed_X0_findChanged
set_option maxRecDepth 20000 in
theorem ggX0_feed_X0_rememberSights : GoodIn wsX0_feed wsX0_rememberSights := goodIn_r _ [47, 15, 16, 17, 18, 3, 19, 20, 21, 22, 23, 24, 25, 26, 27, 28, 29, 30, 31, 32, 33, 34, 35, 36, 37, 38, 39, 40, 41, 42, 43, 55, 56, 57, 58, 59, 60, 61, 62, 63, 64, 65, 66, 67, 68, 69, 70] (by decide +kernel) (by decide +kernel)
set_option maxRecDepth 20000 in
theorem gX0_feed_X0_rememberSights : GoodIn wsX0_feed (wsV RX0 218 RX0 yX0_rememberSights wsX0_rememberSights) := goodIn_app (goodIn_of _ (by decide +kernel)) ggX0_feed_X0_rememberSights
set_option maxRecDepth 20000 in
theorem ggX0_feed_J6_bitCount_0f7a4 : GoodIn wsX0_feed wsJ6_bitCount_0f7a4 := goodIn_r _ [51, 52, 53, 54] (by decide +kernel) (by decide +kernel)
set_option maxRecDepth 20000 in
theorem gX0_feed_J6_bitCount_0f7a4 : GoodIn wsX0_feed (va_wsS RX0 222 yJ6_bitCount_0f7a4 wsJ6_bitCount_0f7a4) := goodIn_app (goodIn_of _ (by decide +kernel)) ggX0_feed_J6_bitCount_0f7a4
theorem dX0_feed_0 : decode cX0_feed 0 = .ok (.iload_n 1, 1) := by decide +kernel
theorem dX0_feed_1 : decode cX0_feed 1 = .ok (.invokestatic 138, 3) := by decide +kernel
theorem dX0_feed_4 : decode cX0_feed 4 = .ok (.aload_n 0, 1) := by decide +kernel
theorem dX0_feed_5 : decode cX0_feed 5 = .ok (.iload_n 1, 1) := by decide +kernel
theorem dX0_feed_6 : decode cX0_feed 6 = .ok (.invokevirtual 215, 3) := by decide +kernel
theorem dX0_feed_9 : decode cX0_feed 9 = .ok (.istore_n 2, 1) := by decide +kernel
theorem dX0_feed_10 : decode cX0_feed 10 = .ok (.iconst 0, 1) := by decide +kernel
theorem dX0_feed_11 : decode cX0_feed 11 = .ok (.istore_n 3, 1) := by decide +kernel
theorem dX0_feed_12 : decode cX0_feed 12 = .ok (.iload_n 3, 1) := by decide +kernel
theorem dX0_feed_13 : decode cX0_feed 13 = .ok (.bipush 16, 2) := by decide +kernel
theorem dX0_feed_15 : decode cX0_feed 15 = .ok (.if_icmp .ge 15, 3) := by decide +kernel
theorem dX0_feed_18 : decode cX0_feed 18 = .ok (.aload_n 0, 1) := by decide +kernel
theorem dX0_feed_19 : decode cX0_feed 19 = .ok (.iload_n 3, 1) := by decide +kernel
theorem dX0_feed_20 : decode cX0_feed 20 = .ok (.iload_n 1, 1) := by decide +kernel
theorem dX0_feed_21 : decode cX0_feed 21 = .ok (.invokevirtual 218, 3) := by decide +kernel
theorem dX0_feed_24 : decode cX0_feed 24 = .ok (.iinc 3 1, 3) := by decide +kernel
theorem dX0_feed_27 : decode cX0_feed 27 = .ok (.goto (-15), 3) := by decide +kernel
theorem dX0_feed_30 : decode cX0_feed 30 = .ok (.iload_n 2, 1) := by decide +kernel
theorem dX0_feed_31 : decode cX0_feed 31 = .ok (.invokestatic 222, 3) := by decide +kernel
theorem dX0_feed_34 : decode cX0_feed 34 = .ok (.ireturn, 1) := by decide +kernel
set_option maxRecDepth 20000 in
theorem ggX0_findChanged_X0_looksChanged : GoodIn wsX0_findChanged wsX0_looksChanged := goodIn_r _ [5, 6, 7, 8, 9, 4, 10, 11, 12, 13, 14, 15, 16, 17, 18, 19, 20, 21, 22, 23, 24, 25, 26, 27, 28, 29, 30, 31, 32, 33, 34, 35, 36, 37, 38, 39, 40, 41, 42, 43, 44, 45, 46, 47, 48, 49, 50] (by decide +kernel) (by decide +kernel)
set_option maxRecDepth 20000 in
theorem gX0_findChanged_X0_looksChanged : GoodIn wsX0_findChanged (wsV RX0 227 RX0 yX0_looksChanged wsX0_looksChanged) := goodIn_app (goodIn_of _ (by decide +kernel)) ggX0_findChanged_X0_looksChanged
theorem dX0_findChanged_0 : decode cX0_findChanged 0 = .ok (.iconst 0, 1) := by decide +kernel
theorem dX0_findChanged_1 : decode cX0_findChanged 1 = .ok (.istore_n 2, 1) := by decide +kernel
theorem dX0_findChanged_2 : decode cX0_findChanged 2 = .ok (.iconst 0, 1) := by decide +kernel
theorem dX0_findChanged_3 : decode cX0_findChanged 3 = .ok (.istore_n 3, 1) := by decide +kernel
theorem dX0_findChanged_4 : decode cX0_findChanged 4 = .ok (.iload_n 3, 1) := by decide +kernel
theorem dX0_findChanged_5 : decode cX0_findChanged 5 = .ok (.bipush 16, 2) := by decide +kernel
theorem dX0_findChanged_7 : decode cX0_findChanged 7 = .ok (.if_icmp .ge 24, 3) := by decide +kernel
theorem dX0_findChanged_10 : decode cX0_findChanged 10 = .ok (.aload_n 0, 1) := by decide +kernel
theorem dX0_findChanged_11 : decode cX0_findChanged 11 = .ok (.iload_n 3, 1) := by decide +kernel
theorem dX0_findChanged_12 : decode cX0_findChanged 12 = .ok (.iload_n 1, 1) := by decide +kernel
theorem dX0_findChanged_13 : decode cX0_findChanged 13 = .ok (.invokevirtual 227, 3) := by decide +kernel
theorem dX0_findChanged_16 : decode cX0_findChanged 16 = .ok (.ifCond .eq 9, 3) := by decide +kernel
theorem dX0_findChanged_19 : decode cX0_findChanged 19 = .ok (.iload_n 2, 1) := by decide +kernel
theorem dX0_findChanged_20 : decode cX0_findChanged 20 = .ok (.iconst 1, 1) := by decide +kernel
theorem dX0_findChanged_21 : decode cX0_findChanged 21 = .ok (.iload_n 3, 1) := by decide +kernel
theorem dX0_findChanged_22 : decode cX0_findChanged 22 = .ok (.ishl, 1) := by decide +kernel
theorem dX0_findChanged_23 : decode cX0_findChanged 23 = .ok (.ior, 1) := by decide +kernel
theorem dX0_findChanged_24 : decode cX0_findChanged 24 = .ok (.istore_n 2, 1) := by decide +kernel
theorem dX0_findChanged_25 : decode cX0_findChanged 25 = .ok (.iinc 3 1, 3) := by decide +kernel
theorem dX0_findChanged_28 : decode cX0_findChanged 28 = .ok (.goto (-24), 3) := by decide +kernel
theorem dX0_findChanged_31 : decode cX0_findChanged 31 = .ok (.iload_n 2, 1) := by decide +kernel
theorem dX0_findChanged_32 : decode cX0_findChanged 32 = .ok (.ireturn, 1) := by decide +kernel
set_option maxRecDepth 20000 in
theorem ggX0_looksChanged_X0_findValue : GoodIn wsX0_looksChanged wsX0_findValue := goodIn_r _ [6, 7, 8, 9, 10, 5, 11, 12, 13, 14, 15, 16, 17, 18, 19, 20, 21, 22, 23, 24, 25, 26, 27, 28, 29, 30, 31, 32, 33, 34, 35, 36, 37, 38, 39, 40, 41, 42, 43, 44, 45, 46] (by decide +kernel) (by decide +kernel)
set_option maxRecDepth 20000 in
theorem gX0_looksChanged_X0_findValue : GoodIn wsX0_looksChanged (wsV RX0 179 RX0 yX0_findValue wsX0_findValue) := goodIn_app (goodIn_of _ (by decide +kernel)) ggX0_looksChanged_X0_findValue
theorem dX0_looksChanged_0 : decode cX0_looksChanged 0 = .ok (.iload_n 2, 1) := by decide +kernel
theorem dX0_looksChanged_1 : decode cX0_looksChanged 1 = .ok (.sipush 288, 3) := by decide +kernel
theorem dX0_looksChanged_4 : decode cX0_looksChanged 4 = .ok (.imul, 1) := by decide +kernel
theorem dX0_looksChanged_5 : decode cX0_looksChanged 5 = .ok (.iload_n 1, 1) := by decide +kernel
theorem dX0_looksChanged_6 : decode cX0_looksChanged 6 = .ok (.bipush 18, 2) := by decide +kernel
theorem dX0_looksChanged_8 : decode cX0_looksChanged 8 = .ok (.imul, 1) := by decide +kernel
theorem dX0_looksChanged_9 : decode cX0_looksChanged 9 = .ok (.iadd, 1) := by decide +kernel
theorem dX0_looksChanged_10 : decode cX0_looksChanged 10 = .ok (.istore_n 3, 1) := by decide +kernel
theorem dX0_looksChanged_11 : decode cX0_looksChanged 11 = .ok (.iconst 0, 1) := by decide +kernel
theorem dX0_looksChanged_12 : decode cX0_looksChanged 12 = .ok (.istore 4, 2) := by decide +kernel
theorem dX0_looksChanged_14 : decode cX0_looksChanged 14 = .ok (.iload 4, 2) := by decide +kernel
theorem dX0_looksChanged_16 : decode cX0_looksChanged 16 = .ok (.bipush 18, 2) := by decide +kernel
theorem dX0_looksChanged_18 : decode cX0_looksChanged 18 = .ok (.if_icmp .ge 37, 3) := by decide +kernel
theorem dX0_looksChanged_21 : decode cX0_looksChanged 21 = .ok (.aload_n 0, 1) := by decide +kernel
theorem dX0_looksChanged_22 : decode cX0_looksChanged 22 = .ok (.getfield 54, 3) := by decide +kernel
theorem dX0_looksChanged_25 : decode cX0_looksChanged 25 = .ok (.iload_n 3, 1) := by decide +kernel
theorem dX0_looksChanged_26 : decode cX0_looksChanged 26 = .ok (.iload 4, 2) := by decide +kernel
theorem dX0_looksChanged_28 : decode cX0_looksChanged 28 = .ok (.iadd, 1) := by decide +kernel
theorem dX0_looksChanged_29 : decode cX0_looksChanged 29 = .ok (.iaload, 1) := by decide +kernel
theorem dX0_looksChanged_30 : decode cX0_looksChanged 30 = .ok (.aload_n 0, 1) := by decide +kernel
theorem dX0_looksChanged_31 : decode cX0_looksChanged 31 = .ok (.iload_n 1, 1) := by decide +kernel
theorem dX0_looksChanged_32 : decode cX0_looksChanged 32 = .ok (.iload 4, 2) := by decide +kernel
theorem dX0_looksChanged_34 : decode cX0_looksChanged 34 = .ok (.iconst 3, 1) := by decide +kernel
theorem dX0_looksChanged_35 : decode cX0_looksChanged 35 = .ok (.idiv, 1) := by decide +kernel
theorem dX0_looksChanged_36 : decode cX0_looksChanged 36 = .ok (.iload_n 2, 1) := by decide +kernel
theorem dX0_looksChanged_37 : decode cX0_looksChanged 37 = .ok (.iload 4, 2) := by decide +kernel
theorem dX0_looksChanged_39 : decode cX0_looksChanged 39 = .ok (.iconst 3, 1) := by decide +kernel
theorem dX0_looksChanged_40 : decode cX0_looksChanged 40 = .ok (.irem, 1) := by decide +kernel
theorem dX0_looksChanged_41 : decode cX0_looksChanged 41 = .ok (.invokevirtual 179, 3) := by decide +kernel
theorem dX0_looksChanged_44 : decode cX0_looksChanged 44 = .ok (.if_icmp .eq 5, 3) := by decide +kernel
theorem dX0_looksChanged_47 : decode cX0_looksChanged 47 = .ok (.iconst 1, 1) := by decide +kernel
theorem dX0_looksChanged_48 : decode cX0_looksChanged 48 = .ok (.ireturn, 1) := by decide +kernel
theorem dX0_looksChanged_49 : decode cX0_looksChanged 49 = .ok (.iinc 4 1, 3) := by decide +kernel
theorem dX0_looksChanged_52 : decode cX0_looksChanged 52 = .ok (.goto (-38), 3) := by decide +kernel
theorem dX0_looksChanged_55 : decode cX0_looksChanged 55 = .ok (.iconst 0, 1) := by decide +kernel
theorem dX0_looksChanged_56 : decode cX0_looksChanged 56 = .ok (.ireturn, 1) := by decide +kernel
set_option maxRecDepth 20000 in
theorem ggX0_rememberSights_X0_findValue : GoodIn wsX0_rememberSights wsX0_findValue := goodIn_r _ [6, 7, 8, 9, 10, 5, 11, 12, 13, 14, 15, 16, 17, 18, 19, 20, 21, 22, 23, 24, 25, 26, 27, 28, 29, 30, 31, 32, 33, 34, 35, 36, 37, 38, 39, 40, 41, 42, 43, 44, 45, 46] (by decide +kernel) (by decide +kernel)
set_option maxRecDepth 20000 in
theorem gX0_rememberSights_X0_findValue : GoodIn wsX0_rememberSights (wsV RX0 179 RX0 yX0_findValue wsX0_findValue) := goodIn_app (goodIn_of _ (by decide +kernel)) ggX0_rememberSights_X0_findValue
theorem dX0_rememberSights_0 : decode cX0_rememberSights 0 = .ok (.iload_n 2, 1) := by decide +kernel
theorem dX0_rememberSights_1 : decode cX0_rememberSights 1 = .ok (.sipush 288, 3) := by decide +kernel
theorem dX0_rememberSights_4 : decode cX0_rememberSights 4 = .ok (.imul, 1) := by decide +kernel
theorem dX0_rememberSights_5 : decode cX0_rememberSights 5 = .ok (.iload_n 1, 1) := by decide +kernel
theorem dX0_rememberSights_6 : decode cX0_rememberSights 6 = .ok (.bipush 18, 2) := by decide +kernel
theorem dX0_rememberSights_8 : decode cX0_rememberSights 8 = .ok (.imul, 1) := by decide +kernel
theorem dX0_rememberSights_9 : decode cX0_rememberSights 9 = .ok (.iadd, 1) := by decide +kernel
theorem dX0_rememberSights_10 : decode cX0_rememberSights 10 = .ok (.istore_n 3, 1) := by decide +kernel
theorem dX0_rememberSights_11 : decode cX0_rememberSights 11 = .ok (.iconst 0, 1) := by decide +kernel
theorem dX0_rememberSights_12 : decode cX0_rememberSights 12 = .ok (.istore 4, 2) := by decide +kernel
theorem dX0_rememberSights_14 : decode cX0_rememberSights 14 = .ok (.iload 4, 2) := by decide +kernel
theorem dX0_rememberSights_16 : decode cX0_rememberSights 16 = .ok (.bipush 18, 2) := by decide +kernel
theorem dX0_rememberSights_18 : decode cX0_rememberSights 18 = .ok (.if_icmp .ge 32, 3) := by decide +kernel
theorem dX0_rememberSights_21 : decode cX0_rememberSights 21 = .ok (.aload_n 0, 1) := by decide +kernel
theorem dX0_rememberSights_22 : decode cX0_rememberSights 22 = .ok (.getfield 54, 3) := by decide +kernel
theorem dX0_rememberSights_25 : decode cX0_rememberSights 25 = .ok (.iload_n 3, 1) := by decide +kernel
theorem dX0_rememberSights_26 : decode cX0_rememberSights 26 = .ok (.iload 4, 2) := by decide +kernel
theorem dX0_rememberSights_28 : decode cX0_rememberSights 28 = .ok (.iadd, 1) := by decide +kernel
theorem dX0_rememberSights_29 : decode cX0_rememberSights 29 = .ok (.aload_n 0, 1) := by decide +kernel
theorem dX0_rememberSights_30 : decode cX0_rememberSights 30 = .ok (.iload_n 1, 1) := by decide +kernel
theorem dX0_rememberSights_31 : decode cX0_rememberSights 31 = .ok (.iload 4, 2) := by decide +kernel
theorem dX0_rememberSights_33 : decode cX0_rememberSights 33 = .ok (.iconst 3, 1) := by decide +kernel
theorem dX0_rememberSights_34 : decode cX0_rememberSights 34 = .ok (.idiv, 1) := by decide +kernel
theorem dX0_rememberSights_35 : decode cX0_rememberSights 35 = .ok (.iload_n 2, 1) := by decide +kernel
theorem dX0_rememberSights_36 : decode cX0_rememberSights 36 = .ok (.iload 4, 2) := by decide +kernel
theorem dX0_rememberSights_38 : decode cX0_rememberSights 38 = .ok (.iconst 3, 1) := by decide +kernel
theorem dX0_rememberSights_39 : decode cX0_rememberSights 39 = .ok (.irem, 1) := by decide +kernel
theorem dX0_rememberSights_40 : decode cX0_rememberSights 40 = .ok (.invokevirtual 179, 3) := by decide +kernel
theorem dX0_rememberSights_43 : decode cX0_rememberSights 43 = .ok (.iastore, 1) := by decide +kernel
theorem dX0_rememberSights_44 : decode cX0_rememberSights 44 = .ok (.iinc 4 1, 3) := by decide +kernel
theorem dX0_rememberSights_47 : decode cX0_rememberSights 47 = .ok (.goto (-33), 3) := by decide +kernel
theorem dX0_rememberSights_50 : decode cX0_rememberSights 50 = .ok (.return_, 1) := by decide +kernel
theorem dX1_init_0 : decode cX1_init 0 = .ok (.aload_n 0, 1) := by decide +kernel
theorem dX1_init_1 : decode cX1_init 1 = .ok (.invokespecial 1, 3) := by decide +kernel
theorem dX1_init_4 : decode cX1_init 4 = .ok (.aload_n 0, 1) := by decide +kernel
theorem dX1_init_5 : decode cX1_init 5 = .ok (.bipush 16, 2) := by decide +kernel
theorem dX1_init_7 : decode cX1_init 7 = .ok (.newarray .boolean, 2) := by decide +kernel
theorem dX1_init_9 : decode cX1_init 9 = .ok (.putfield 7, 3) := by decide +kernel
theorem dX1_init_12 : decode cX1_init 12 = .ok (.aload_n 0, 1) := by decide +kernel
theorem dX1_init_13 : decode cX1_init 13 = .ok (.bipush 16, 2) := by decide +kernel
theorem dX1_init_15 : decode cX1_init 15 = .ok (.newarray .int, 2) := by decide +kernel
theorem dX1_init_17 : decode cX1_init 17 = .ok (.putfield 13, 3) := by decide +kernel
theorem dX1_init_20 : decode cX1_init 20 = .ok (.aload_n 0, 1) := by decide +kernel
theorem dX1_init_21 : decode cX1_init 21 = .ok (.bipush 16, 2) := by decide +kernel
theorem dX1_init_23 : decode cX1_init 23 = .ok (.newarray .int, 2) := by decide +kernel
theorem dX1_init_25 : decode cX1_init 25 = .ok (.putfield 17, 3) := by decide +kernel
theorem dX1_init_28 : decode cX1_init 28 = .ok (.aload_n 0, 1) := by decide +kernel
theorem dX1_init_29 : decode cX1_init 29 = .ok (.sipush 256, 3) := by decide +kernel
theorem dX1_init_32 : decode cX1_init 32 = .ok (.newarray .int, 2) := by decide +kernel
theorem dX1_init_34 : decode cX1_init 34 = .ok (.putfield 20, 3) := by decide +kernel
theorem dX1_init_37 : decode cX1_init 37 = .ok (.aload_n 0, 1) := by decide +kernel
theorem dX1_init_38 : decode cX1_init 38 = .ok (.sipush 200, 3) := by decide +kernel
theorem dX1_init_41 : decode cX1_init 41 = .ok (.newarray .int, 2) := by decide +kernel
theorem dX1_init_43 : decode cX1_init 43 = .ok (.putfield 23, 3) := by decide +kernel
theorem dX1_init_46 : decode cX1_init 46 = .ok (.aload_n 0, 1) := by decide +kernel
theorem dX1_init_47 : decode cX1_init 47 = .ok (.sipush 200, 3) := by decide +kernel
theorem dX1_init_50 : decode cX1_init 50 = .ok (.newarray .int, 2) := by decide +kernel
theorem dX1_init_52 : decode cX1_init 52 = .ok (.putfield 26, 3) := by decide +kernel
theorem dX1_init_55 : decode cX1_init 55 = .ok (.aload_n 0, 1) := by decide +kernel
theorem dX1_init_56 : decode cX1_init 56 = .ok (.sipush 200, 3) := by decide +kernel
theorem dX1_init_59 : decode cX1_init 59 = .ok (.newarray .int, 2) := by decide +kernel
theorem dX1_init_61 : decode cX1_init 61 = .ok (.putfield 29, 3) := by decide +kernel
theorem dX1_init_64 : decode cX1_init 64 = .ok (.aload_n 0, 1) := by decide +kernel
theorem dX1_init_65 : decode cX1_init 65 = .ok (.sipush 200, 3) := by decide +kernel
theorem dX1_init_68 : decode cX1_init 68 = .ok (.newarray .int, 2) := by decide +kernel
theorem dX1_init_70 : decode cX1_init 70 = .ok (.putfield 32, 3) := by decide +kernel
theorem dX1_init_73 : decode cX1_init 73 = .ok (.aload_n 0, 1) := by decide +kernel
theorem dX1_init_74 : decode cX1_init 74 = .ok (.sipush 200, 3) := by decide +kernel
theorem dX1_init_77 : decode cX1_init 77 = .ok (.newarray .int, 2) := by decide +kernel
theorem dX1_init_79 : decode cX1_init 79 = .ok (.putfield 35, 3) := by decide +kernel
theorem dX1_init_82 : decode cX1_init 82 = .ok (.aload_n 0, 1) := by decide +kernel
theorem dX1_init_83 : decode cX1_init 83 = .ok (.sipush 200, 3) := by decide +kernel
theorem dX1_init_86 : decode cX1_init 86 = .ok (.newarray .int, 2) := by decide +kernel
theorem dX1_init_88 : decode cX1_init 88 = .ok (.putfield 38, 3) := by decide +kernel
theorem dX1_init_91 : decode cX1_init 91 = .ok (.aload_n 0, 1) := by decide +kernel
theorem dX1_init_92 : decode cX1_init 92 = .ok (.sipush 200, 3) := by decide +kernel
theorem dX1_init_95 : decode cX1_init 95 = .ok (.newarray .int, 2) := by decide +kernel
theorem dX1_init_97 : decode cX1_init 97 = .ok (.putfield 41, 3) := by decide +kernel
theorem dX1_init_100 : decode cX1_init 100 = .ok (.aload_n 0, 1) := by decide +kernel
theorem dX1_init_101 : decode cX1_init 101 = .ok (.bipush 18, 2) := by decide +kernel
theorem dX1_init_103 : decode cX1_init 103 = .ok (.newarray .boolean, 2) := by decide +kernel
theorem dX1_init_105 : decode cX1_init 105 = .ok (.putfield 44, 3) := by decide +kernel
theorem dX1_init_108 : decode cX1_init 108 = .ok (.aload_n 0, 1) := by decide +kernel
theorem dX1_init_109 : decode cX1_init 109 = .ok (.sipush 864, 3) := by decide +kernel
theorem dX1_init_112 : decode cX1_init 112 = .ok (.newarray .int, 2) := by decide +kernel
theorem dX1_init_114 : decode cX1_init 114 = .ok (.putfield 47, 3) := by decide +kernel
theorem dX1_init_117 : decode cX1_init 117 = .ok (.aload_n 0, 1) := by decide +kernel
theorem dX1_init_118 : decode cX1_init 118 = .ok (.bipush 16, 2) := by decide +kernel
theorem dX1_init_120 : decode cX1_init 120 = .ok (.newarray .long, 2) := by decide +kernel
theorem dX1_init_122 : decode cX1_init 122 = .ok (.putfield 50, 3) := by decide +kernel
theorem dX1_init_125 : decode cX1_init 125 = .ok (.iconst 0, 1) := by decide +kernel
theorem dX1_init_126 : decode cX1_init 126 = .ok (.istore_n 1, 1) := by decide +kernel
theorem dX1_init_127 : decode cX1_init 127 = .ok (.iload_n 1, 1) := by decide +kernel
theorem dX1_init_128 : decode cX1_init 128 = .ok (.sipush 864, 3) := by decide +kernel
theorem dX1_init_131 : decode cX1_init 131 = .ok (.if_icmp .ge 16, 3) := by decide +kernel
theorem dX1_init_134 : decode cX1_init 134 = .ok (.aload_n 0, 1) := by decide +kernel
theorem dX1_init_135 : decode cX1_init 135 = .ok (.getfield 47, 3) := by decide +kernel
theorem dX1_init_138 : decode cX1_init 138 = .ok (.iload_n 1, 1) := by decide +kernel
theorem dX1_init_139 : decode cX1_init 139 = .ok (.iconst (-1), 1) := by decide +kernel
theorem dX1_init_140 : decode cX1_init 140 = .ok (.iastore, 1) := by decide +kernel
theorem dX1_init_141 : decode cX1_init 141 = .ok (.iinc 1 1, 3) := by decide +kernel
theorem dX1_init_144 : decode cX1_init 144 = .ok (.goto (-17), 3) := by decide +kernel
theorem dX1_init_147 : decode cX1_init 147 = .ok (.return_, 1) := by decide +kernel
theorem dX1_thrown_0 : decode cX1_thrown 0 = .ok (.aload_n 0, 1) := by decide +kernel
theorem dX1_thrown_1 : decode cX1_thrown 1 = .ok (.getfield 54, 3) := by decide +kernel
theorem dX1_thrown_4 : decode cX1_thrown 4 = .ok (.ireturn, 1) := by decide +kernel
theorem dX1_fails_0 : decode cX1_fails 0 = .ok (.aload_n 0, 1) := by decide +kernel
theorem dX1_fails_1 : decode cX1_fails 1 = .ok (.iload_n 1, 1) := by decide +kernel
theorem dX1_fails_2 : decode cX1_fails 2 = .ok (.putfield 54, 3) := by decide +kernel
theorem dX1_fails_5 : decode cX1_fails 5 = .ok (.iload_n 1, 1) := by decide +kernel
theorem dX1_fails_6 : decode cX1_fails 6 = .ok (.ifCond .le 7, 3) := by decide +kernel
theorem dX1_fails_9 : decode cX1_fails 9 = .ok (.iconst 1, 1) := by decide +kernel
theorem dX1_fails_10 : decode cX1_fails 10 = .ok (.goto 4, 3) := by decide +kernel
theorem dX1_fails_13 : decode cX1_fails 13 = .ok (.iconst 0, 1) := by decide +kernel
theorem dX1_fails_14 : decode cX1_fails 14 = .ok (.ireturn, 1) := by decide +kernel
theorem dX1_isIn_0 : decode cX1_isIn 0 = .ok (.iload_n 0, 1) := by decide +kernel
theorem dX1_isIn_1 : decode cX1_isIn 1 = .ok (.iload_n 1, 1) := by decide +kernel
theorem dX1_isIn_2 : decode cX1_isIn 2 = .ok (.if_icmp .lt 12, 3) := by decide +kernel
theorem dX1_isIn_5 : decode cX1_isIn 5 = .ok (.iload_n 0, 1) := by decide +kernel
theorem dX1_isIn_6 : decode cX1_isIn 6 = .ok (.iload_n 2, 1) := by decide +kernel
theorem dX1_isIn_7 : decode cX1_isIn 7 = .ok (.if_icmp .gt 7, 3) := by decide +kernel
theorem dX1_isIn_10 : decode cX1_isIn 10 = .ok (.iconst 1, 1) := by decide +kernel
theorem dX1_isIn_11 : decode cX1_isIn 11 = .ok (.goto 4, 3) := by decide +kernel
theorem dX1_isIn_14 : decode cX1_isIn 14 = .ok (.iconst 0, 1) := by decide +kernel
theorem dX1_isIn_15 : decode cX1_isIn 15 = .ok (.ireturn, 1) := by decide +kernel
set_option maxRecDepth 20000 in
theorem ggX1_isGood_X1_isIn : GoodIn wsX1_isGood wsX1_isIn := goodIn_r _ [6] (by decide +kernel) (by decide +kernel)
set_option maxRecDepth 20000 in
theorem gX1_isGood_X1_isIn : GoodIn wsX1_isGood (va_wsS RX1 61 yX1_isIn wsX1_isIn) := goodIn_app (goodIn_of _ (by decide +kernel)) ggX1_isGood_X1_isIn
theorem dX1_isGood_0 : decode cX1_isGood 0 = .ok (.iload_n 1, 1) := by decide +kernel
theorem dX1_isGood_1 : decode cX1_isGood 1 = .ok (.iconst 0, 1) := by decide +kernel
theorem dX1_isGood_2 : decode cX1_isGood 2 = .ok (.aload_n 0, 1) := by decide +kernel
theorem dX1_isGood_3 : decode cX1_isGood 3 = .ok (.getfield 58, 3) := by decide +kernel
theorem dX1_isGood_6 : decode cX1_isGood 6 = .ok (.iconst 1, 1) := by decide +kernel
theorem dX1_isGood_7 : decode cX1_isGood 7 = .ok (.isub, 1) := by decide +kernel
theorem dX1_isGood_8 : decode cX1_isGood 8 = .ok (.invokestatic 61, 3) := by decide +kernel
theorem dX1_isGood_11 : decode cX1_isGood 11 = .ok (.ifCond .eq 16, 3) := by decide +kernel
theorem dX1_isGood_14 : decode cX1_isGood 14 = .ok (.aload_n 0, 1) := by decide +kernel
theorem dX1_isGood_15 : decode cX1_isGood 15 = .ok (.getfield 7, 3) := by decide +kernel
theorem dX1_isGood_18 : decode cX1_isGood 18 = .ok (.iload_n 1, 1) := by decide +kernel
theorem dX1_isGood_19 : decode cX1_isGood 19 = .ok (.baload, 1) := by decide +kernel
theorem dX1_isGood_20 : decode cX1_isGood 20 = .ok (.ifCond .eq 7, 3) := by decide +kernel
theorem dX1_isGood_23 : decode cX1_isGood 23 = .ok (.iconst 1, 1) := by decide +kernel
theorem dX1_isGood_24 : decode cX1_isGood 24 = .ok (.goto 4, 3) := by decide +kernel
theorem dX1_isGood_27 : decode cX1_isGood 27 = .ok (.iconst 0, 1) := by decide +kernel
theorem dX1_isGood_28 : decode cX1_isGood 28 = .ok (.ireturn, 1) := by decide +kernel
set_option maxRecDepth 20000 in
theorem ggX1_isShop_X1_isIn : GoodIn wsX1_isShop wsX1_isIn := goodIn_r _ [4] (by decide +kernel) (by decide +kernel)
set_option maxRecDepth 20000 in
theorem gX1_isShop_X1_isIn : GoodIn wsX1_isShop (va_wsS RX1 61 yX1_isIn wsX1_isIn) := goodIn_app (goodIn_of _ (by decide +kernel)) ggX1_isShop_X1_isIn
theorem dX1_isShop_0 : decode cX1_isShop 0 = .ok (.iload_n 0, 1) := by decide +kernel
theorem dX1_isShop_1 : decode cX1_isShop 1 = .ok (.iconst 0, 1) := by decide +kernel
theorem dX1_isShop_2 : decode cX1_isShop 2 = .ok (.iconst 2, 1) := by decide +kernel
theorem dX1_isShop_3 : decode cX1_isShop 3 = .ok (.invokestatic 61, 3) := by decide +kernel
theorem dX1_isShop_6 : decode cX1_isShop 6 = .ok (.ireturn, 1) := by decide +kernel
theorem dX1_level_0 : decode cX1_level 0 = .ok (.iconst 0, 1) := by decide +kernel
theorem dX1_level_1 : decode cX1_level 1 = .ok (.istore_n 2, 1) := by decide +kernel
theorem dX1_level_2 : decode cX1_level 2 = .ok (.aload_n 0, 1) := by decide +kernel
theorem dX1_level_3 : decode cX1_level 3 = .ok (.getfield 13, 3) := by decide +kernel
theorem dX1_level_6 : decode cX1_level 6 = .ok (.iload_n 1, 1) := by decide +kernel
theorem dX1_level_7 : decode cX1_level 7 = .ok (.iaload, 1) := by decide +kernel
theorem dX1_level_8 : decode cX1_level 8 = .ok (.istore_n 3, 1) := by decide +kernel
theorem dX1_level_9 : decode cX1_level 9 = .ok (.iload_n 3, 1) := by decide +kernel
theorem dX1_level_10 : decode cX1_level 10 = .ok (.iconst (-1), 1) := by decide +kernel
theorem dX1_level_11 : decode cX1_level 11 = .ok (.if_icmp .eq 16, 3) := by decide +kernel
theorem dX1_level_14 : decode cX1_level 14 = .ok (.iinc 2 1, 3) := by decide +kernel
theorem dX1_level_17 : decode cX1_level 17 = .ok (.aload_n 0, 1) := by decide +kernel
theorem dX1_level_18 : decode cX1_level 18 = .ok (.getfield 13, 3) := by decide +kernel
theorem dX1_level_21 : decode cX1_level 21 = .ok (.iload_n 3, 1) := by decide +kernel
theorem dX1_level_22 : decode cX1_level 22 = .ok (.iaload, 1) := by decide +kernel
theorem dX1_level_23 : decode cX1_level 23 = .ok (.istore_n 3, 1) := by decide +kernel
theorem dX1_level_24 : decode cX1_level 24 = .ok (.goto (-15), 3) := by decide +kernel
theorem dX1_level_27 : decode cX1_level 27 = .ok (.iload_n 2, 1) := by decide +kernel
theorem dX1_level_28 : decode cX1_level 28 = .ok (.ireturn, 1) := by decide +kernel
theorem dX1_isBelow_0 : decode cX1_isBelow 0 = .ok (.iload_n 1, 1) := by decide +kernel
theorem dX1_isBelow_1 : decode cX1_isBelow 1 = .ok (.istore_n 3, 1) := by decide +kernel
theorem dX1_isBelow_2 : decode cX1_isBelow 2 = .ok (.iload_n 3, 1) := by decide +kernel
theorem dX1_isBelow_3 : decode cX1_isBelow 3 = .ok (.iconst (-1), 1) := by decide +kernel
theorem dX1_isBelow_4 : decode cX1_isBelow 4 = .ok (.if_icmp .eq 18, 3) := by decide +kernel
theorem dX1_isBelow_7 : decode cX1_isBelow 7 = .ok (.iload_n 3, 1) := by decide +kernel
theorem dX1_isBelow_8 : decode cX1_isBelow 8 = .ok (.iload_n 2, 1) := by decide +kernel
theorem dX1_isBelow_9 : decode cX1_isBelow 9 = .ok (.if_icmp .eq 13, 3) := by decide +kernel
theorem dX1_isBelow_12 : decode cX1_isBelow 12 = .ok (.aload_n 0, 1) := by decide +kernel
theorem dX1_isBelow_13 : decode cX1_isBelow 13 = .ok (.getfield 13, 3) := by decide +kernel
theorem dX1_isBelow_16 : decode cX1_isBelow 16 = .ok (.iload_n 3, 1) := by decide +kernel
theorem dX1_isBelow_17 : decode cX1_isBelow 17 = .ok (.iaload, 1) := by decide +kernel
theorem dX1_isBelow_18 : decode cX1_isBelow 18 = .ok (.istore_n 3, 1) := by decide +kernel
theorem dX1_isBelow_19 : decode cX1_isBelow 19 = .ok (.goto (-17), 3) := by decide +kernel
theorem dX1_isBelow_22 : decode cX1_isBelow 22 = .ok (.iload_n 3, 1) := by decide +kernel
theorem dX1_isBelow_23 : decode cX1_isBelow 23 = .ok (.iload_n 2, 1) := by decide +kernel
theorem dX1_isBelow_24 : decode cX1_isBelow 24 = .ok (.if_icmp .ne 7, 3) := by decide +kernel
theorem dX1_isBelow_27 : decode cX1_isBelow 27 = .ok (.iconst 1, 1) := by decide +kernel
theorem dX1_isBelow_28 : decode cX1_isBelow 28 = .ok (.goto 4, 3) := by decide +kernel
theorem dX1_isBelow_31 : decode cX1_isBelow 31 = .ok (.iconst 0, 1) := by decide +kernel
theorem dX1_isBelow_32 : decode cX1_isBelow 32 = .ok (.ireturn, 1) := by decide +kernel
set_option maxRecDepth 20000 in
theorem ggX1_addGood_X1_isGood : GoodIn wsX1_addGood wsX1_isGood := goodIn_r _ [8, 1, 3, 9, 10, 7, 11, 21, 22, 23, 24, 25, 26, 27, 28, 29, 30, 31, 32, 33, 34, 35, 36, 37, 38] (by decide +kernel) (by decide +kernel)
set_option maxRecDepth 20000 in
theorem gX1_addGood_X1_isGood : GoodIn wsX1_addGood (wsV RX1 65 RX1 yX1_isGood wsX1_isGood) := goodIn_app (goodIn_of _ (by decide +kernel)) ggX1_addGood_X1_isGood
set_option maxRecDepth 20000 in
theorem ggX1_addGood_X1_level : GoodIn wsX1_addGood wsX1_level := goodIn_r _ [15, 2, 21, 22, 23, 24, 25, 26, 27, 28, 29, 30, 31, 32, 33, 34, 35, 36, 37, 38] (by decide +kernel) (by decide +kernel)
set_option maxRecDepth 20000 in
theorem gX1_addGood_X1_level : GoodIn wsX1_addGood (wsV RX1 69 RX1 yX1_level wsX1_level) := goodIn_app (goodIn_of _ (by decide +kernel)) ggX1_addGood_X1_level
set_option maxRecDepth 20000 in
theorem ggX1_addGood_X1_fails : GoodIn wsX1_addGood wsX1_fails := goodIn_r _ [19, 20, 21, 22, 23, 24, 25, 26, 27, 28, 29, 30, 31, 32, 33, 34, 35, 36, 37, 38] (by decide +kernel) (by decide +kernel)
set_option maxRecDepth 20000 in
theorem gX1_addGood_X1_fails : GoodIn wsX1_addGood (wsV RX1 73 RX1 yX1_fails wsX1_fails) := goodIn_app (goodIn_of _ (by decide +kernel)) ggX1_addGood_X1_fails
theorem dX1_addGood_0 : decode cX1_addGood 0 = .ok (.iload_n 1, 1) := by decide +kernel
theorem dX1_addGood_1 : decode cX1_addGood 1 = .ok (.iconst (-1), 1) := by decide +kernel
theorem dX1_addGood_2 : decode cX1_addGood 2 = .ok (.if_icmp .eq 11, 3) := by decide +kernel
theorem dX1_addGood_5 : decode cX1_addGood 5 = .ok (.aload_n 0, 1) := by decide +kernel
theorem dX1_addGood_6 : decode cX1_addGood 6 = .ok (.iload_n 1, 1) := by decide +kernel
theorem dX1_addGood_7 : decode cX1_addGood 7 = .ok (.invokevirtual 65, 3) := by decide +kernel
theorem dX1_addGood_10 : decode cX1_addGood 10 = .ok (.ifCond .eq 7, 3) := by decide +kernel
theorem dX1_addGood_13 : decode cX1_addGood 13 = .ok (.iconst 1, 1) := by decide +kernel
theorem dX1_addGood_14 : decode cX1_addGood 14 = .ok (.goto 4, 3) := by decide +kernel
theorem dX1_addGood_17 : decode cX1_addGood 17 = .ok (.iconst 0, 1) := by decide +kernel
theorem dX1_addGood_18 : decode cX1_addGood 18 = .ok (.istore_n 2, 1) := by decide +kernel
theorem dX1_addGood_19 : decode cX1_addGood 19 = .ok (.aload_n 0, 1) := by decide +kernel
theorem dX1_addGood_20 : decode cX1_addGood 20 = .ok (.iload_n 2, 1) := by decide +kernel
theorem dX1_addGood_21 : decode cX1_addGood 21 = .ok (.ifCond .ne 7, 3) := by decide +kernel
theorem dX1_addGood_24 : decode cX1_addGood 24 = .ok (.iconst 1, 1) := by decide +kernel
theorem dX1_addGood_25 : decode cX1_addGood 25 = .ok (.goto 31, 3) := by decide +kernel
theorem dX1_addGood_28 : decode cX1_addGood 28 = .ok (.iload_n 1, 1) := by decide +kernel
theorem dX1_addGood_29 : decode cX1_addGood 29 = .ok (.iconst (-1), 1) := by decide +kernel
theorem dX1_addGood_30 : decode cX1_addGood 30 = .ok (.if_icmp .eq 12, 3) := by decide +kernel
theorem dX1_addGood_33 : decode cX1_addGood 33 = .ok (.aload_n 0, 1) := by decide +kernel
theorem dX1_addGood_34 : decode cX1_addGood 34 = .ok (.iload_n 1, 1) := by decide +kernel
theorem dX1_addGood_35 : decode cX1_addGood 35 = .ok (.invokevirtual 69, 3) := by decide +kernel
theorem dX1_addGood_38 : decode cX1_addGood 38 = .ok (.iconst 2, 1) := by decide +kernel
theorem dX1_addGood_39 : decode cX1_addGood 39 = .ok (.if_icmp .eq 12, 3) := by decide +kernel
theorem dX1_addGood_42 : decode cX1_addGood 42 = .ok (.aload_n 0, 1) := by decide +kernel
theorem dX1_addGood_43 : decode cX1_addGood 43 = .ok (.getfield 58, 3) := by decide +kernel
theorem dX1_addGood_46 : decode cX1_addGood 46 = .ok (.bipush 16, 2) := by decide +kernel
theorem dX1_addGood_48 : decode cX1_addGood 48 = .ok (.if_icmp .ne 7, 3) := by decide +kernel
theorem dX1_addGood_51 : decode cX1_addGood 51 = .ok (.iconst 2, 1) := by decide +kernel
theorem dX1_addGood_52 : decode cX1_addGood 52 = .ok (.goto 4, 3) := by decide +kernel
theorem dX1_addGood_55 : decode cX1_addGood 55 = .ok (.iconst 0, 1) := by decide +kernel
theorem dX1_addGood_56 : decode cX1_addGood 56 = .ok (.invokevirtual 73, 3) := by decide +kernel
theorem dX1_addGood_59 : decode cX1_addGood 59 = .ok (.ifCond .eq 5, 3) := by decide +kernel
theorem dX1_addGood_62 : decode cX1_addGood 62 = .ok (.iconst 0, 1) := by decide +kernel
theorem dX1_addGood_63 : decode cX1_addGood 63 = .ok (.ireturn, 1) := by decide +kernel
theorem dX1_addGood_64 : decode cX1_addGood 64 = .ok (.aload_n 0, 1) := by decide +kernel
theorem dX1_addGood_65 : decode cX1_addGood 65 = .ok (.getfield 13, 3) := by decide +kernel
theorem dX1_addGood_68 : decode cX1_addGood 68 = .ok (.aload_n 0, 1) := by decide +kernel
theorem dX1_addGood_69 : decode cX1_addGood 69 = .ok (.getfield 58, 3) := by decide +kernel
theorem dX1_addGood_72 : decode cX1_addGood 72 = .ok (.iload_n 1, 1) := by decide +kernel
theorem dX1_addGood_73 : decode cX1_addGood 73 = .ok (.iastore, 1) := by decide +kernel
theorem dX1_addGood_74 : decode cX1_addGood 74 = .ok (.aload_n 0, 1) := by decide +kernel
theorem dX1_addGood_75 : decode cX1_addGood 75 = .ok (.getfield 7, 3) := by decide +kernel
theorem dX1_addGood_78 : decode cX1_addGood 78 = .ok (.aload_n 0, 1) := by decide +kernel
theorem dX1_addGood_79 : decode cX1_addGood 79 = .ok (.getfield 58, 3) := by decide +kernel
theorem dX1_addGood_82 : decode cX1_addGood 82 = .ok (.iconst 1, 1) := by decide +kernel
theorem dX1_addGood_83 : decode cX1_addGood 83 = .ok (.bastore, 1) := by decide +kernel
theorem dX1_addGood_84 : decode cX1_addGood 84 = .ok (.aload_n 0, 1) := by decide +kernel
theorem dX1_addGood_85 : decode cX1_addGood 85 = .ok (.dup, 1) := by decide +kernel
theorem dX1_addGood_86 : decode cX1_addGood 86 = .ok (.getfield 58, 3) := by decide +kernel
theorem dX1_addGood_89 : decode cX1_addGood 89 = .ok (.iconst 1, 1) := by decide +kernel
theorem dX1_addGood_90 : decode cX1_addGood 90 = .ok (.iadd, 1) := by decide +kernel
theorem dX1_addGood_91 : decode cX1_addGood 91 = .ok (.putfield 58, 3) := by decide +kernel
theorem dX1_addGood_94 : decode cX1_addGood 94 = .ok (.aload_n 0, 1) := by decide +kernel
theorem dX1_addGood_95 : decode cX1_addGood 95 = .ok (.getfield 58, 3) := by decide +kernel
theorem dX1_addGood_98 : decode cX1_addGood 98 = .ok (.iconst 1, 1) := by decide +kernel
theorem dX1_addGood_99 : decode cX1_addGood 99 = .ok (.isub, 1) := by decide +kernel
theorem dX1_addGood_100 : decode cX1_addGood 100 = .ok (.ireturn, 1) := by decide +kernel
set_option maxRecDepth 20000 in
theorem ggX1_move_X1_isGood : GoodIn wsX1_move wsX1_isGood := goodIn_r _ [8, 1, 2, 9, 10, 7, 11, 25, 26, 27, 28, 29, 30, 31, 32, 33, 34, 35, 36, 37, 38, 39, 40, 41, 42] (by decide +kernel) (by decide +kernel)
set_option maxRecDepth 20000 in
theorem gX1_move_X1_isGood : GoodIn wsX1_move (wsV RX1 65 RX1 yX1_isGood wsX1_isGood) := goodIn_app (goodIn_of _ (by decide +kernel)) ggX1_move_X1_isGood
set_option maxRecDepth 20000 in
theorem ggX1_move_X1_isBelow : GoodIn wsX1_move wsX1_isBelow := goodIn_r _ [15, 3, 25, 26, 27, 28, 29, 30, 31, 32, 33, 34, 35, 36, 37, 38, 39, 40, 41, 42] (by decide +kernel) (by decide +kernel)
set_option maxRecDepth 20000 in
theorem gX1_move_X1_isBelow : GoodIn wsX1_move (wsV RX1 76 RX1 yX1_isBelow wsX1_isBelow) := goodIn_app (goodIn_of _ (by decide +kernel)) ggX1_move_X1_isBelow
set_option maxRecDepth 20000 in
theorem ggX1_move_X1_level : GoodIn wsX1_move wsX1_level := goodIn_r _ [19, 3, 25, 26, 27, 28, 29, 30, 31, 32, 33, 34, 35, 36, 37, 38, 39, 40, 41, 42] (by decide +kernel) (by decide +kernel)
set_option maxRecDepth 20000 in
theorem gX1_move_X1_level : GoodIn wsX1_move (wsV RX1 69 RX1 yX1_level wsX1_level) := goodIn_app (goodIn_of _ (by decide +kernel)) ggX1_move_X1_level
set_option maxRecDepth 20000 in
theorem ggX1_move_X1_fails : GoodIn wsX1_move wsX1_fails := goodIn_r _ [23, 24, 25, 26, 27, 28, 29, 30, 31, 32, 33, 34, 35, 36, 37, 38, 39, 40, 41, 42] (by decide +kernel) (by decide +kernel)
set_option maxRecDepth 20000 in
theorem gX1_move_X1_fails : GoodIn wsX1_move (wsV RX1 73 RX1 yX1_fails wsX1_fails) := goodIn_app (goodIn_of _ (by decide +kernel)) ggX1_move_X1_fails
theorem dX1_move_0 : decode cX1_move 0 = .ok (.aload_n 0, 1) := by decide +kernel
theorem dX1_move_1 : decode cX1_move 1 = .ok (.iload_n 1, 1) := by decide +kernel
theorem dX1_move_2 : decode cX1_move 2 = .ok (.invokevirtual 65, 3) := by decide +kernel
theorem dX1_move_5 : decode cX1_move 5 = .ok (.ifCond .eq 20, 3) := by decide +kernel
theorem dX1_move_8 : decode cX1_move 8 = .ok (.iload_n 2, 1) := by decide +kernel
theorem dX1_move_9 : decode cX1_move 9 = .ok (.iconst (-1), 1) := by decide +kernel
theorem dX1_move_10 : decode cX1_move 10 = .ok (.if_icmp .eq 11, 3) := by decide +kernel
theorem dX1_move_13 : decode cX1_move 13 = .ok (.aload_n 0, 1) := by decide +kernel
theorem dX1_move_14 : decode cX1_move 14 = .ok (.iload_n 2, 1) := by decide +kernel
theorem dX1_move_15 : decode cX1_move 15 = .ok (.invokevirtual 65, 3) := by decide +kernel
theorem dX1_move_18 : decode cX1_move 18 = .ok (.ifCond .eq 7, 3) := by decide +kernel
theorem dX1_move_21 : decode cX1_move 21 = .ok (.iconst 1, 1) := by decide +kernel
theorem dX1_move_22 : decode cX1_move 22 = .ok (.goto 4, 3) := by decide +kernel
theorem dX1_move_25 : decode cX1_move 25 = .ok (.iconst 0, 1) := by decide +kernel
theorem dX1_move_26 : decode cX1_move 26 = .ok (.istore_n 3, 1) := by decide +kernel
theorem dX1_move_27 : decode cX1_move 27 = .ok (.iload_n 3, 1) := by decide +kernel
theorem dX1_move_28 : decode cX1_move 28 = .ok (.ifCond .eq 21, 3) := by decide +kernel
theorem dX1_move_31 : decode cX1_move 31 = .ok (.iload_n 2, 1) := by decide +kernel
theorem dX1_move_32 : decode cX1_move 32 = .ok (.iconst (-1), 1) := by decide +kernel
theorem dX1_move_33 : decode cX1_move 33 = .ok (.if_icmp .eq 12, 3) := by decide +kernel
theorem dX1_move_36 : decode cX1_move 36 = .ok (.aload_n 0, 1) := by decide +kernel
theorem dX1_move_37 : decode cX1_move 37 = .ok (.iload_n 2, 1) := by decide +kernel
theorem dX1_move_38 : decode cX1_move 38 = .ok (.iload_n 1, 1) := by decide +kernel
theorem dX1_move_39 : decode cX1_move 39 = .ok (.invokevirtual 76, 3) := by decide +kernel
theorem dX1_move_42 : decode cX1_move 42 = .ok (.ifCond .ne 7, 3) := by decide +kernel
theorem dX1_move_45 : decode cX1_move 45 = .ok (.iconst 1, 1) := by decide +kernel
theorem dX1_move_46 : decode cX1_move 46 = .ok (.goto 4, 3) := by decide +kernel
theorem dX1_move_49 : decode cX1_move 49 = .ok (.iconst 0, 1) := by decide +kernel
theorem dX1_move_50 : decode cX1_move 50 = .ok (.istore 4, 2) := by decide +kernel
theorem dX1_move_52 : decode cX1_move 52 = .ok (.iload 4, 2) := by decide +kernel
theorem dX1_move_54 : decode cX1_move 54 = .ok (.ifCond .eq 18, 3) := by decide +kernel
theorem dX1_move_57 : decode cX1_move 57 = .ok (.iload_n 2, 1) := by decide +kernel
theorem dX1_move_58 : decode cX1_move 58 = .ok (.iconst (-1), 1) := by decide +kernel
theorem dX1_move_59 : decode cX1_move 59 = .ok (.if_icmp .eq 13, 3) := by decide +kernel
theorem dX1_move_62 : decode cX1_move 62 = .ok (.aload_n 0, 1) := by decide +kernel
theorem dX1_move_63 : decode cX1_move 63 = .ok (.iload_n 2, 1) := by decide +kernel
theorem dX1_move_64 : decode cX1_move 64 = .ok (.invokevirtual 69, 3) := by decide +kernel
theorem dX1_move_67 : decode cX1_move 67 = .ok (.iconst 1, 1) := by decide +kernel
theorem dX1_move_68 : decode cX1_move 68 = .ok (.iadd, 1) := by decide +kernel
theorem dX1_move_69 : decode cX1_move 69 = .ok (.goto 4, 3) := by decide +kernel
theorem dX1_move_72 : decode cX1_move 72 = .ok (.iconst 0, 1) := by decide +kernel
theorem dX1_move_73 : decode cX1_move 73 = .ok (.istore 5, 2) := by decide +kernel
theorem dX1_move_75 : decode cX1_move 75 = .ok (.iconst 0, 1) := by decide +kernel
theorem dX1_move_76 : decode cX1_move 76 = .ok (.istore 6, 2) := by decide +kernel
theorem dX1_move_78 : decode cX1_move 78 = .ok (.iload 6, 2) := by decide +kernel
theorem dX1_move_80 : decode cX1_move 80 = .ok (.aload_n 0, 1) := by decide +kernel
theorem dX1_move_81 : decode cX1_move 81 = .ok (.getfield 58, 3) := by decide +kernel
theorem dX1_move_84 : decode cX1_move 84 = .ok (.if_icmp .ge 60, 3) := by decide +kernel
theorem dX1_move_87 : decode cX1_move 87 = .ok (.iload 4, 2) := by decide +kernel
theorem dX1_move_89 : decode cX1_move 89 = .ok (.ifCond .eq 55, 3) := by decide +kernel
theorem dX1_move_92 : decode cX1_move 92 = .ok (.aload_n 0, 1) := by decide +kernel
theorem dX1_move_93 : decode cX1_move 93 = .ok (.getfield 7, 3) := by decide +kernel
theorem dX1_move_96 : decode cX1_move 96 = .ok (.iload 6, 2) := by decide +kernel
theorem dX1_move_98 : decode cX1_move 98 = .ok (.baload, 1) := by decide +kernel
theorem dX1_move_99 : decode cX1_move 99 = .ok (.ifCond .eq 32, 3) := by decide +kernel
theorem dX1_move_102 : decode cX1_move 102 = .ok (.aload_n 0, 1) := by decide +kernel
theorem dX1_move_103 : decode cX1_move 103 = .ok (.iload 6, 2) := by decide +kernel
theorem dX1_move_105 : decode cX1_move 105 = .ok (.iload_n 1, 1) := by decide +kernel
theorem dX1_move_106 : decode cX1_move 106 = .ok (.invokevirtual 76, 3) := by decide +kernel
theorem dX1_move_109 : decode cX1_move 109 = .ok (.ifCond .eq 22, 3) := by decide +kernel
theorem dX1_move_112 : decode cX1_move 112 = .ok (.aload_n 0, 1) := by decide +kernel
theorem dX1_move_113 : decode cX1_move 113 = .ok (.iload 6, 2) := by decide +kernel
theorem dX1_move_115 : decode cX1_move 115 = .ok (.invokevirtual 69, 3) := by decide +kernel
theorem dX1_move_118 : decode cX1_move 118 = .ok (.aload_n 0, 1) := by decide +kernel
theorem dX1_move_119 : decode cX1_move 119 = .ok (.iload_n 1, 1) := by decide +kernel
theorem dX1_move_120 : decode cX1_move 120 = .ok (.invokevirtual 69, 3) := by decide +kernel
theorem dX1_move_123 : decode cX1_move 123 = .ok (.isub, 1) := by decide +kernel
theorem dX1_move_124 : decode cX1_move 124 = .ok (.iload 5, 2) := by decide +kernel
theorem dX1_move_126 : decode cX1_move 126 = .ok (.iadd, 1) := by decide +kernel
theorem dX1_move_127 : decode cX1_move 127 = .ok (.iconst 3, 1) := by decide +kernel
theorem dX1_move_128 : decode cX1_move 128 = .ok (.if_icmp .ge 7, 3) := by decide +kernel
theorem dX1_move_131 : decode cX1_move 131 = .ok (.iconst 1, 1) := by decide +kernel
theorem dX1_move_132 : decode cX1_move 132 = .ok (.goto 4, 3) := by decide +kernel
theorem dX1_move_135 : decode cX1_move 135 = .ok (.iconst 0, 1) := by decide +kernel
theorem dX1_move_136 : decode cX1_move 136 = .ok (.istore 4, 2) := by decide +kernel
theorem dX1_move_138 : decode cX1_move 138 = .ok (.iinc 6 1, 3) := by decide +kernel
theorem dX1_move_141 : decode cX1_move 141 = .ok (.goto (-63), 3) := by decide +kernel
theorem dX1_move_144 : decode cX1_move 144 = .ok (.aload_n 0, 1) := by decide +kernel
theorem dX1_move_145 : decode cX1_move 145 = .ok (.iload_n 3, 1) := by decide +kernel
theorem dX1_move_146 : decode cX1_move 146 = .ok (.ifCond .ne 7, 3) := by decide +kernel
theorem dX1_move_149 : decode cX1_move 149 = .ok (.iconst 1, 1) := by decide +kernel
theorem dX1_move_150 : decode cX1_move 150 = .ok (.goto 13, 3) := by decide +kernel
theorem dX1_move_153 : decode cX1_move 153 = .ok (.iload 4, 2) := by decide +kernel
theorem dX1_move_155 : decode cX1_move 155 = .ok (.ifCond .eq 7, 3) := by decide +kernel
theorem dX1_move_158 : decode cX1_move 158 = .ok (.iconst 0, 1) := by decide +kernel
theorem dX1_move_159 : decode cX1_move 159 = .ok (.goto 4, 3) := by decide +kernel
theorem dX1_move_162 : decode cX1_move 162 = .ok (.iconst 2, 1) := by decide +kernel
theorem dX1_move_163 : decode cX1_move 163 = .ok (.invokevirtual 73, 3) := by decide +kernel
theorem dX1_move_166 : decode cX1_move 166 = .ok (.ifCond .eq 5, 3) := by decide +kernel
theorem dX1_move_169 : decode cX1_move 169 = .ok (.iconst 0, 1) := by decide +kernel
theorem dX1_move_170 : decode cX1_move 170 = .ok (.ireturn, 1) := by decide +kernel
theorem dX1_move_171 : decode cX1_move 171 = .ok (.aload_n 0, 1) := by decide +kernel
theorem dX1_move_172 : decode cX1_move 172 = .ok (.getfield 13, 3) := by decide +kernel
theorem dX1_move_175 : decode cX1_move 175 = .ok (.iload_n 1, 1) := by decide +kernel
theorem dX1_move_176 : decode cX1_move 176 = .ok (.iaload, 1) := by decide +kernel
theorem dX1_move_177 : decode cX1_move 177 = .ok (.istore 6, 2) := by decide +kernel
theorem dX1_move_179 : decode cX1_move 179 = .ok (.aload_n 0, 1) := by decide +kernel
theorem dX1_move_180 : decode cX1_move 180 = .ok (.getfield 13, 3) := by decide +kernel
theorem dX1_move_183 : decode cX1_move 183 = .ok (.iload_n 1, 1) := by decide +kernel
theorem dX1_move_184 : decode cX1_move 184 = .ok (.iload_n 2, 1) := by decide +kernel
theorem dX1_move_185 : decode cX1_move 185 = .ok (.iastore, 1) := by decide +kernel
theorem dX1_move_186 : decode cX1_move 186 = .ok (.iload 6, 2) := by decide +kernel
theorem dX1_move_188 : decode cX1_move 188 = .ok (.ireturn, 1) := by decide +kernel
set_option maxRecDepth 20000 in
theorem ggX1_delete_X1_isGood : GoodIn wsX1_delete wsX1_isGood := goodIn_r _ [9, 1, 2, 10, 11, 8, 12, 18, 19, 20, 21, 22, 23, 24, 25, 26, 27, 28, 29, 30, 31, 32, 33, 34, 35] (by decide +kernel) (by decide +kernel)
set_option maxRecDepth 20000 in
theorem gX1_delete_X1_isGood : GoodIn wsX1_delete (wsV RX1 65 RX1 yX1_isGood wsX1_isGood) := goodIn_app (goodIn_of _ (by decide +kernel)) ggX1_delete_X1_isGood
set_option maxRecDepth 20000 in
theorem ggX1_delete_X1_fails : GoodIn wsX1_delete wsX1_fails := goodIn_r _ [16, 17, 18, 19, 20, 21, 22, 23, 24, 25, 26, 27, 28, 29, 30, 31, 32, 33, 34, 35] (by decide +kernel) (by decide +kernel)
set_option maxRecDepth 20000 in
theorem gX1_delete_X1_fails : GoodIn wsX1_delete (wsV RX1 73 RX1 yX1_fails wsX1_fails) := goodIn_app (goodIn_of _ (by decide +kernel)) ggX1_delete_X1_fails
theorem dX1_delete_0 : decode cX1_delete 0 = .ok (.aload_n 0, 1) := by decide +kernel
theorem dX1_delete_1 : decode cX1_delete 1 = .ok (.iload_n 1, 1) := by decide +kernel
theorem dX1_delete_2 : decode cX1_delete 2 = .ok (.invokevirtual 65, 3) := by decide +kernel
theorem dX1_delete_5 : decode cX1_delete 5 = .ok (.istore_n 2, 1) := by decide +kernel
theorem dX1_delete_6 : decode cX1_delete 6 = .ok (.iload_n 2, 1) := by decide +kernel
theorem dX1_delete_7 : decode cX1_delete 7 = .ok (.istore_n 3, 1) := by decide +kernel
theorem dX1_delete_8 : decode cX1_delete 8 = .ok (.iconst 0, 1) := by decide +kernel
theorem dX1_delete_9 : decode cX1_delete 9 = .ok (.istore 4, 2) := by decide +kernel
theorem dX1_delete_11 : decode cX1_delete 11 = .ok (.iload 4, 2) := by decide +kernel
theorem dX1_delete_13 : decode cX1_delete 13 = .ok (.aload_n 0, 1) := by decide +kernel
theorem dX1_delete_14 : decode cX1_delete 14 = .ok (.getfield 58, 3) := by decide +kernel
theorem dX1_delete_17 : decode cX1_delete 17 = .ok (.if_icmp .ge 55, 3) := by decide +kernel
theorem dX1_delete_20 : decode cX1_delete 20 = .ok (.iload_n 3, 1) := by decide +kernel
theorem dX1_delete_21 : decode cX1_delete 21 = .ok (.ifCond .eq 51, 3) := by decide +kernel
theorem dX1_delete_24 : decode cX1_delete 24 = .ok (.aload_n 0, 1) := by decide +kernel
theorem dX1_delete_25 : decode cX1_delete 25 = .ok (.getfield 7, 3) := by decide +kernel
theorem dX1_delete_28 : decode cX1_delete 28 = .ok (.iload 4, 2) := by decide +kernel
theorem dX1_delete_30 : decode cX1_delete 30 = .ok (.baload, 1) := by decide +kernel
theorem dX1_delete_31 : decode cX1_delete 31 = .ok (.ifCond .eq 29, 3) := by decide +kernel
theorem dX1_delete_34 : decode cX1_delete 34 = .ok (.aload_n 0, 1) := by decide +kernel
theorem dX1_delete_35 : decode cX1_delete 35 = .ok (.getfield 13, 3) := by decide +kernel
theorem dX1_delete_38 : decode cX1_delete 38 = .ok (.iload 4, 2) := by decide +kernel
theorem dX1_delete_40 : decode cX1_delete 40 = .ok (.iaload, 1) := by decide +kernel
theorem dX1_delete_41 : decode cX1_delete 41 = .ok (.iload_n 1, 1) := by decide +kernel
theorem dX1_delete_42 : decode cX1_delete 42 = .ok (.if_icmp .eq 22, 3) := by decide +kernel
theorem dX1_delete_45 : decode cX1_delete 45 = .ok (.aload_n 0, 1) := by decide +kernel
theorem dX1_delete_46 : decode cX1_delete 46 = .ok (.getfield 20, 3) := by decide +kernel
theorem dX1_delete_49 : decode cX1_delete 49 = .ok (.bipush 16, 2) := by decide +kernel
theorem dX1_delete_51 : decode cX1_delete 51 = .ok (.iload 4, 2) := by decide +kernel
theorem dX1_delete_53 : decode cX1_delete 53 = .ok (.imul, 1) := by decide +kernel
theorem dX1_delete_54 : decode cX1_delete 54 = .ok (.iload_n 1, 1) := by decide +kernel
theorem dX1_delete_55 : decode cX1_delete 55 = .ok (.iadd, 1) := by decide +kernel
theorem dX1_delete_56 : decode cX1_delete 56 = .ok (.iaload, 1) := by decide +kernel
theorem dX1_delete_57 : decode cX1_delete 57 = .ok (.ifCond .ne 7, 3) := by decide +kernel
theorem dX1_delete_60 : decode cX1_delete 60 = .ok (.iconst 1, 1) := by decide +kernel
theorem dX1_delete_61 : decode cX1_delete 61 = .ok (.goto 4, 3) := by decide +kernel
theorem dX1_delete_64 : decode cX1_delete 64 = .ok (.iconst 0, 1) := by decide +kernel
theorem dX1_delete_65 : decode cX1_delete 65 = .ok (.istore_n 3, 1) := by decide +kernel
theorem dX1_delete_66 : decode cX1_delete 66 = .ok (.iinc 4 1, 3) := by decide +kernel
theorem dX1_delete_69 : decode cX1_delete 69 = .ok (.goto (-58), 3) := by decide +kernel
theorem dX1_delete_72 : decode cX1_delete 72 = .ok (.aload_n 0, 1) := by decide +kernel
theorem dX1_delete_73 : decode cX1_delete 73 = .ok (.iload_n 2, 1) := by decide +kernel
theorem dX1_delete_74 : decode cX1_delete 74 = .ok (.ifCond .ne 7, 3) := by decide +kernel
theorem dX1_delete_77 : decode cX1_delete 77 = .ok (.iconst 1, 1) := by decide +kernel
theorem dX1_delete_78 : decode cX1_delete 78 = .ok (.goto 12, 3) := by decide +kernel
theorem dX1_delete_81 : decode cX1_delete 81 = .ok (.iload_n 3, 1) := by decide +kernel
theorem dX1_delete_82 : decode cX1_delete 82 = .ok (.ifCond .eq 7, 3) := by decide +kernel
theorem dX1_delete_85 : decode cX1_delete 85 = .ok (.iconst 0, 1) := by decide +kernel
theorem dX1_delete_86 : decode cX1_delete 86 = .ok (.goto 4, 3) := by decide +kernel
theorem dX1_delete_89 : decode cX1_delete 89 = .ok (.iconst 2, 1) := by decide +kernel
theorem dX1_delete_90 : decode cX1_delete 90 = .ok (.invokevirtual 73, 3) := by decide +kernel
theorem dX1_delete_93 : decode cX1_delete 93 = .ok (.ifCond .ne 10, 3) := by decide +kernel
theorem dX1_delete_96 : decode cX1_delete 96 = .ok (.aload_n 0, 1) := by decide +kernel
theorem dX1_delete_97 : decode cX1_delete 97 = .ok (.getfield 7, 3) := by decide +kernel
theorem dX1_delete_100 : decode cX1_delete 100 = .ok (.iload_n 1, 1) := by decide +kernel
theorem dX1_delete_101 : decode cX1_delete 101 = .ok (.iconst 0, 1) := by decide +kernel
theorem dX1_delete_102 : decode cX1_delete 102 = .ok (.bastore, 1) := by decide +kernel
theorem dX1_delete_103 : decode cX1_delete 103 = .ok (.return_, 1) := by decide +kernel
set_option maxRecDepth 20000 in
theorem ggX1_addPart_X1_isGood : GoodIn wsX1_addPart wsX1_isGood := goodIn_r _ [6, 7, 8, 9, 10, 5, 11, 17, 18, 19, 20, 21, 22, 23, 24, 25, 26, 27, 28, 29, 30, 31, 32, 33, 34] (by decide +kernel) (by decide +kernel)
set_option maxRecDepth 20000 in
theorem gX1_addPart_X1_isGood : GoodIn wsX1_addPart (wsV RX1 65 RX1 yX1_isGood wsX1_isGood) := goodIn_app (goodIn_of _ (by decide +kernel)) ggX1_addPart_X1_isGood
set_option maxRecDepth 20000 in
theorem ggX1_addPart_X1_isIn : GoodIn wsX1_addPart wsX1_isIn := goodIn_r _ [11] (by decide +kernel) (by decide +kernel)
set_option maxRecDepth 20000 in
theorem gX1_addPart_X1_isIn : GoodIn wsX1_addPart (va_wsS RX1 61 yX1_isIn wsX1_isIn) := goodIn_app (goodIn_of _ (by decide +kernel)) ggX1_addPart_X1_isIn
set_option maxRecDepth 20000 in
theorem ggX1_addPart_X1_fails : GoodIn wsX1_addPart wsX1_fails := goodIn_r _ [15, 16, 17, 18, 19, 20, 21, 22, 23, 24, 25, 26, 27, 28, 29, 30, 31, 32, 33, 34] (by decide +kernel) (by decide +kernel)
set_option maxRecDepth 20000 in
theorem gX1_addPart_X1_fails : GoodIn wsX1_addPart (wsV RX1 73 RX1 yX1_fails wsX1_fails) := goodIn_app (goodIn_of _ (by decide +kernel)) ggX1_addPart_X1_fails
theorem dX1_addPart_0 : decode cX1_addPart 0 = .ok (.aload_n 0, 1) := by decide +kernel
theorem dX1_addPart_1 : decode cX1_addPart 1 = .ok (.iload_n 1, 1) := by decide +kernel
theorem dX1_addPart_2 : decode cX1_addPart 2 = .ok (.invokevirtual 65, 3) := by decide +kernel
theorem dX1_addPart_5 : decode cX1_addPart 5 = .ok (.ifCond .eq 15, 3) := by decide +kernel
theorem dX1_addPart_8 : decode cX1_addPart 8 = .ok (.aload_n 0, 1) := by decide +kernel
theorem dX1_addPart_9 : decode cX1_addPart 9 = .ok (.iload_n 2, 1) := by decide +kernel
theorem dX1_addPart_10 : decode cX1_addPart 10 = .ok (.invokevirtual 65, 3) := by decide +kernel
theorem dX1_addPart_13 : decode cX1_addPart 13 = .ok (.ifCond .eq 7, 3) := by decide +kernel
theorem dX1_addPart_16 : decode cX1_addPart 16 = .ok (.iconst 1, 1) := by decide +kernel
theorem dX1_addPart_17 : decode cX1_addPart 17 = .ok (.goto 4, 3) := by decide +kernel
theorem dX1_addPart_20 : decode cX1_addPart 20 = .ok (.iconst 0, 1) := by decide +kernel
theorem dX1_addPart_21 : decode cX1_addPart 21 = .ok (.istore 4, 2) := by decide +kernel
theorem dX1_addPart_23 : decode cX1_addPart 23 = .ok (.iload_n 2, 1) := by decide +kernel
theorem dX1_addPart_24 : decode cX1_addPart 24 = .ok (.iload_n 1, 1) := by decide +kernel
theorem dX1_addPart_25 : decode cX1_addPart 25 = .ok (.if_icmp .ge 17, 3) := by decide +kernel
theorem dX1_addPart_28 : decode cX1_addPart 28 = .ok (.iload_n 3, 1) := by decide +kernel
theorem dX1_addPart_29 : decode cX1_addPart 29 = .ok (.iconst 1, 1) := by decide +kernel
theorem dX1_addPart_30 : decode cX1_addPart 30 = .ok (.bipush 20, 2) := by decide +kernel
theorem dX1_addPart_32 : decode cX1_addPart 32 = .ok (.invokestatic 61, 3) := by decide +kernel
theorem dX1_addPart_35 : decode cX1_addPart 35 = .ok (.ifCond .eq 7, 3) := by decide +kernel
theorem dX1_addPart_38 : decode cX1_addPart 38 = .ok (.iconst 1, 1) := by decide +kernel
theorem dX1_addPart_39 : decode cX1_addPart 39 = .ok (.goto 4, 3) := by decide +kernel
theorem dX1_addPart_42 : decode cX1_addPart 42 = .ok (.iconst 0, 1) := by decide +kernel
theorem dX1_addPart_43 : decode cX1_addPart 43 = .ok (.istore 5, 2) := by decide +kernel
theorem dX1_addPart_45 : decode cX1_addPart 45 = .ok (.aload_n 0, 1) := by decide +kernel
theorem dX1_addPart_46 : decode cX1_addPart 46 = .ok (.iload 4, 2) := by decide +kernel
theorem dX1_addPart_48 : decode cX1_addPart 48 = .ok (.ifCond .ne 7, 3) := by decide +kernel
theorem dX1_addPart_51 : decode cX1_addPart 51 = .ok (.iconst 1, 1) := by decide +kernel
theorem dX1_addPart_52 : decode cX1_addPart 52 = .ok (.goto 35, 3) := by decide +kernel
theorem dX1_addPart_55 : decode cX1_addPart 55 = .ok (.iload 5, 2) := by decide +kernel
theorem dX1_addPart_57 : decode cX1_addPart 57 = .ok (.ifCond .ne 7, 3) := by decide +kernel
theorem dX1_addPart_60 : decode cX1_addPart 60 = .ok (.iconst 2, 1) := by decide +kernel
theorem dX1_addPart_61 : decode cX1_addPart 61 = .ok (.goto 26, 3) := by decide +kernel
theorem dX1_addPart_64 : decode cX1_addPart 64 = .ok (.aload_n 0, 1) := by decide +kernel
theorem dX1_addPart_65 : decode cX1_addPart 65 = .ok (.getfield 20, 3) := by decide +kernel
theorem dX1_addPart_68 : decode cX1_addPart 68 = .ok (.bipush 16, 2) := by decide +kernel
theorem dX1_addPart_70 : decode cX1_addPart 70 = .ok (.iload_n 1, 1) := by decide +kernel
theorem dX1_addPart_71 : decode cX1_addPart 71 = .ok (.imul, 1) := by decide +kernel
theorem dX1_addPart_72 : decode cX1_addPart 72 = .ok (.iload_n 2, 1) := by decide +kernel
theorem dX1_addPart_73 : decode cX1_addPart 73 = .ok (.iadd, 1) := by decide +kernel
theorem dX1_addPart_74 : decode cX1_addPart 74 = .ok (.iaload, 1) := by decide +kernel
theorem dX1_addPart_75 : decode cX1_addPart 75 = .ok (.iload_n 3, 1) := by decide +kernel
theorem dX1_addPart_76 : decode cX1_addPart 76 = .ok (.iadd, 1) := by decide +kernel
theorem dX1_addPart_77 : decode cX1_addPart 77 = .ok (.bipush 20, 2) := by decide +kernel
theorem dX1_addPart_79 : decode cX1_addPart 79 = .ok (.if_icmp .le 7, 3) := by decide +kernel
theorem dX1_addPart_82 : decode cX1_addPart 82 = .ok (.iconst 3, 1) := by decide +kernel
theorem dX1_addPart_83 : decode cX1_addPart 83 = .ok (.goto 4, 3) := by decide +kernel
theorem dX1_addPart_86 : decode cX1_addPart 86 = .ok (.iconst 0, 1) := by decide +kernel
theorem dX1_addPart_87 : decode cX1_addPart 87 = .ok (.invokevirtual 73, 3) := by decide +kernel
theorem dX1_addPart_90 : decode cX1_addPart 90 = .ok (.ifCond .eq 5, 3) := by decide +kernel
theorem dX1_addPart_93 : decode cX1_addPart 93 = .ok (.iconst 0, 1) := by decide +kernel
theorem dX1_addPart_94 : decode cX1_addPart 94 = .ok (.ireturn, 1) := by decide +kernel
theorem dX1_addPart_95 : decode cX1_addPart 95 = .ok (.aload_n 0, 1) := by decide +kernel
theorem dX1_addPart_96 : decode cX1_addPart 96 = .ok (.getfield 20, 3) := by decide +kernel
theorem dX1_addPart_99 : decode cX1_addPart 99 = .ok (.bipush 16, 2) := by decide +kernel
theorem dX1_addPart_101 : decode cX1_addPart 101 = .ok (.iload_n 1, 1) := by decide +kernel
theorem dX1_addPart_102 : decode cX1_addPart 102 = .ok (.imul, 1) := by decide +kernel
theorem dX1_addPart_103 : decode cX1_addPart 103 = .ok (.iload_n 2, 1) := by decide +kernel
theorem dX1_addPart_104 : decode cX1_addPart 104 = .ok (.iadd, 1) := by decide +kernel
theorem dX1_addPart_105 : decode cX1_addPart 105 = .ok (.dup2, 1) := by decide +kernel
theorem dX1_addPart_106 : decode cX1_addPart 106 = .ok (.iaload, 1) := by decide +kernel
theorem dX1_addPart_107 : decode cX1_addPart 107 = .ok (.iload_n 3, 1) := by decide +kernel
theorem dX1_addPart_108 : decode cX1_addPart 108 = .ok (.iadd, 1) := by decide +kernel
theorem dX1_addPart_109 : decode cX1_addPart 109 = .ok (.iastore, 1) := by decide +kernel
theorem dX1_addPart_110 : decode cX1_addPart 110 = .ok (.aload_n 0, 1) := by decide +kernel
theorem dX1_addPart_111 : decode cX1_addPart 111 = .ok (.getfield 20, 3) := by decide +kernel
theorem dX1_addPart_114 : decode cX1_addPart 114 = .ok (.bipush 16, 2) := by decide +kernel
theorem dX1_addPart_116 : decode cX1_addPart 116 = .ok (.iload_n 1, 1) := by decide +kernel
theorem dX1_addPart_117 : decode cX1_addPart 117 = .ok (.imul, 1) := by decide +kernel
theorem dX1_addPart_118 : decode cX1_addPart 118 = .ok (.iload_n 2, 1) := by decide +kernel
theorem dX1_addPart_119 : decode cX1_addPart 119 = .ok (.iadd, 1) := by decide +kernel
theorem dX1_addPart_120 : decode cX1_addPart 120 = .ok (.iaload, 1) := by decide +kernel
theorem dX1_addPart_121 : decode cX1_addPart 121 = .ok (.ireturn, 1) := by decide +kernel
set_option maxRecDepth 20000 in
theorem ggX1_setDiscount_X1_isGood : GoodIn wsX1_setDiscount wsX1_isGood := goodIn_r _ [6, 7, 8, 9, 10, 5, 11, 17, 18, 19, 20, 21, 22, 23, 24, 25, 26, 27, 28, 29, 30, 31, 32, 33, 34] (by decide +kernel) (by decide +kernel)
set_option maxRecDepth 20000 in
theorem gX1_setDiscount_X1_isGood : GoodIn wsX1_setDiscount (wsV RX1 65 RX1 yX1_isGood wsX1_isGood) := goodIn_app (goodIn_of _ (by decide +kernel)) ggX1_setDiscount_X1_isGood
set_option maxRecDepth 20000 in
theorem ggX1_setDiscount_X1_isIn : GoodIn wsX1_setDiscount wsX1_isIn := goodIn_r _ [11] (by decide +kernel) (by decide +kernel)
set_option maxRecDepth 20000 in
theorem gX1_setDiscount_X1_isIn : GoodIn wsX1_setDiscount (va_wsS RX1 61 yX1_isIn wsX1_isIn) := goodIn_app (goodIn_of _ (by decide +kernel)) ggX1_setDiscount_X1_isIn
set_option maxRecDepth 20000 in
theorem ggX1_setDiscount_X1_fails : GoodIn wsX1_setDiscount wsX1_fails := goodIn_r _ [15, 16, 17, 18, 19, 20, 21, 22, 23, 24, 25, 26, 27, 28, 29, 30, 31, 32, 33, 34] (by decide +kernel) (by decide +kernel)
set_option maxRecDepth 20000 in
theorem gX1_setDiscount_X1_fails : GoodIn wsX1_setDiscount (wsV RX1 73 RX1 yX1_fails wsX1_fails) := goodIn_app (goodIn_of _ (by decide +kernel)) ggX1_setDiscount_X1_fails
theorem dX1_setDiscount_0 : decode cX1_setDiscount 0 = .ok (.aload_n 0, 1) := by decide +kernel
theorem dX1_setDiscount_1 : decode cX1_setDiscount 1 = .ok (.aload_n 0, 1) := by decide +kernel
theorem dX1_setDiscount_2 : decode cX1_setDiscount 2 = .ok (.iload_n 1, 1) := by decide +kernel
theorem dX1_setDiscount_3 : decode cX1_setDiscount 3 = .ok (.invokevirtual 65, 3) := by decide +kernel
theorem dX1_setDiscount_6 : decode cX1_setDiscount 6 = .ok (.ifCond .ne 7, 3) := by decide +kernel
theorem dX1_setDiscount_9 : decode cX1_setDiscount 9 = .ok (.iconst 1, 1) := by decide +kernel
theorem dX1_setDiscount_10 : decode cX1_setDiscount 10 = .ok (.goto 18, 3) := by decide +kernel
theorem dX1_setDiscount_13 : decode cX1_setDiscount 13 = .ok (.iload_n 2, 1) := by decide +kernel
theorem dX1_setDiscount_14 : decode cX1_setDiscount 14 = .ok (.iconst 0, 1) := by decide +kernel
theorem dX1_setDiscount_15 : decode cX1_setDiscount 15 = .ok (.bipush 100, 2) := by decide +kernel
theorem dX1_setDiscount_17 : decode cX1_setDiscount 17 = .ok (.invokestatic 61, 3) := by decide +kernel
theorem dX1_setDiscount_20 : decode cX1_setDiscount 20 = .ok (.ifCond .eq 7, 3) := by decide +kernel
theorem dX1_setDiscount_23 : decode cX1_setDiscount 23 = .ok (.iconst 0, 1) := by decide +kernel
theorem dX1_setDiscount_24 : decode cX1_setDiscount 24 = .ok (.goto 4, 3) := by decide +kernel
theorem dX1_setDiscount_27 : decode cX1_setDiscount 27 = .ok (.iconst 2, 1) := by decide +kernel
theorem dX1_setDiscount_28 : decode cX1_setDiscount 28 = .ok (.invokevirtual 73, 3) := by decide +kernel
theorem dX1_setDiscount_31 : decode cX1_setDiscount 31 = .ok (.ifCond .eq 5, 3) := by decide +kernel
theorem dX1_setDiscount_34 : decode cX1_setDiscount 34 = .ok (.iconst 0, 1) := by decide +kernel
theorem dX1_setDiscount_35 : decode cX1_setDiscount 35 = .ok (.ireturn, 1) := by decide +kernel
theorem dX1_setDiscount_36 : decode cX1_setDiscount 36 = .ok (.aload_n 0, 1) := by decide +kernel
theorem dX1_setDiscount_37 : decode cX1_setDiscount 37 = .ok (.getfield 17, 3) := by decide +kernel
theorem dX1_setDiscount_40 : decode cX1_setDiscount 40 = .ok (.iload_n 1, 1) := by decide +kernel
theorem dX1_setDiscount_41 : decode cX1_setDiscount 41 = .ok (.iaload, 1) := by decide +kernel
theorem dX1_setDiscount_42 : decode cX1_setDiscount 42 = .ok (.istore_n 3, 1) := by decide +kernel
theorem dX1_setDiscount_43 : decode cX1_setDiscount 43 = .ok (.aload_n 0, 1) := by decide +kernel
theorem dX1_setDiscount_44 : decode cX1_setDiscount 44 = .ok (.getfield 17, 3) := by decide +kernel
theorem dX1_setDiscount_47 : decode cX1_setDiscount 47 = .ok (.iload_n 1, 1) := by decide +kernel
theorem dX1_setDiscount_48 : decode cX1_setDiscount 48 = .ok (.iload_n 2, 1) := by decide +kernel
theorem dX1_setDiscount_49 : decode cX1_setDiscount 49 = .ok (.iastore, 1) := by decide +kernel
theorem dX1_setDiscount_50 : decode cX1_setDiscount 50 = .ok (.iload_n 3, 1) := by decide +kernel
theorem dX1_setDiscount_51 : decode cX1_setDiscount 51 = .ok (.ireturn, 1) := by decide +kernel
set_option maxRecDepth 20000 in
theorem ggX1_draft_X1_isGood : GoodIn wsX1_draft wsX1_isGood := goodIn_r _ [13, 14, 15, 16, 17, 12, 18, 24, 25, 26, 27, 28, 29, 30, 31, 32, 33, 34, 35, 36, 37, 38, 39, 40, 41] (by decide +kernel) (by decide +kernel)
set_option maxRecDepth 20000 in
theorem gX1_draft_X1_isGood : GoodIn wsX1_draft (wsV RX1 65 RX1 yX1_isGood wsX1_isGood) := goodIn_app (goodIn_of _ (by decide +kernel)) ggX1_draft_X1_isGood
set_option maxRecDepth 20000 in
theorem ggX1_draft_X1_isIn : GoodIn wsX1_draft wsX1_isIn := goodIn_r _ [18] (by decide +kernel) (by decide +kernel)
set_option maxRecDepth 20000 in
theorem gX1_draft_X1_isIn : GoodIn wsX1_draft (va_wsS RX1 61 yX1_isIn wsX1_isIn) := goodIn_app (goodIn_of _ (by decide +kernel)) ggX1_draft_X1_isIn
set_option maxRecDepth 20000 in
theorem ggX1_draft_X1_fails : GoodIn wsX1_draft wsX1_fails := goodIn_r _ [22, 23, 24, 25, 26, 27, 28, 29, 30, 31, 32, 33, 34, 35, 36, 37, 38, 39, 40, 41] (by decide +kernel) (by decide +kernel)
set_option maxRecDepth 20000 in
theorem gX1_draft_X1_fails : GoodIn wsX1_draft (wsV RX1 73 RX1 yX1_fails wsX1_fails) := goodIn_app (goodIn_of _ (by decide +kernel)) ggX1_draft_X1_fails
theorem dX1_draft_0 : decode cX1_draft 0 = .ok (.aload_n 0, 1) := by decide +kernel
theorem dX1_draft_1 : decode cX1_draft 1 = .ok (.iload_n 1, 1) := by decide +kernel
theorem dX1_draft_2 : decode cX1_draft 2 = .ok (.invokevirtual 65, 3) := by decide +kernel
theorem dX1_draft_5 : decode cX1_draft 5 = .ok (.ifCond .eq 35, 3) := by decide +kernel
theorem dX1_draft_8 : decode cX1_draft 8 = .ok (.iload_n 2, 1) := by decide +kernel
theorem dX1_draft_9 : decode cX1_draft 9 = .ok (.iconst 0, 1) := by decide +kernel
theorem dX1_draft_10 : decode cX1_draft 10 = .ok (.iconst 5, 1) := by decide +kernel
theorem dX1_draft_11 : decode cX1_draft 11 = .ok (.invokestatic 61, 3) := by decide +kernel
theorem dX1_draft_14 : decode cX1_draft 14 = .ok (.ifCond .eq 26, 3) := by decide +kernel
theorem dX1_draft_17 : decode cX1_draft 17 = .ok (.iload_n 3, 1) := by decide +kernel
theorem dX1_draft_18 : decode cX1_draft 18 = .ok (.iconst (-1), 1) := by decide +kernel
theorem dX1_draft_19 : decode cX1_draft 19 = .ok (.iconst 2, 1) := by decide +kernel
theorem dX1_draft_20 : decode cX1_draft 20 = .ok (.invokestatic 61, 3) := by decide +kernel
theorem dX1_draft_23 : decode cX1_draft 23 = .ok (.ifCond .eq 17, 3) := by decide +kernel
theorem dX1_draft_26 : decode cX1_draft 26 = .ok (.iload 4, 2) := by decide +kernel
theorem dX1_draft_28 : decode cX1_draft 28 = .ok (.iconst (-1), 1) := by decide +kernel
theorem dX1_draft_29 : decode cX1_draft 29 = .ok (.iconst 2, 1) := by decide +kernel
theorem dX1_draft_30 : decode cX1_draft 30 = .ok (.invokestatic 61, 3) := by decide +kernel
theorem dX1_draft_33 : decode cX1_draft 33 = .ok (.ifCond .eq 7, 3) := by decide +kernel
theorem dX1_draft_36 : decode cX1_draft 36 = .ok (.iconst 1, 1) := by decide +kernel
theorem dX1_draft_37 : decode cX1_draft 37 = .ok (.goto 4, 3) := by decide +kernel
theorem dX1_draft_40 : decode cX1_draft 40 = .ok (.iconst 0, 1) := by decide +kernel
theorem dX1_draft_41 : decode cX1_draft 41 = .ok (.istore 7, 2) := by decide +kernel
theorem dX1_draft_43 : decode cX1_draft 43 = .ok (.iload 5, 2) := by decide +kernel
theorem dX1_draft_45 : decode cX1_draft 45 = .ok (.iconst (-1), 1) := by decide +kernel
theorem dX1_draft_46 : decode cX1_draft 46 = .ok (.ldc 80, 2) := by decide +kernel
theorem dX1_draft_48 : decode cX1_draft 48 = .ok (.invokestatic 61, 3) := by decide +kernel
theorem dX1_draft_51 : decode cX1_draft 51 = .ok (.ifCond .eq 19, 3) := by decide +kernel
theorem dX1_draft_54 : decode cX1_draft 54 = .ok (.iload 6, 2) := by decide +kernel
theorem dX1_draft_56 : decode cX1_draft 56 = .ok (.iconst 0, 1) := by decide +kernel
theorem dX1_draft_57 : decode cX1_draft 57 = .ok (.sipush 1000, 3) := by decide +kernel
theorem dX1_draft_60 : decode cX1_draft 60 = .ok (.invokestatic 61, 3) := by decide +kernel
theorem dX1_draft_63 : decode cX1_draft 63 = .ok (.ifCond .eq 7, 3) := by decide +kernel
theorem dX1_draft_66 : decode cX1_draft 66 = .ok (.iconst 1, 1) := by decide +kernel
theorem dX1_draft_67 : decode cX1_draft 67 = .ok (.goto 4, 3) := by decide +kernel
theorem dX1_draft_70 : decode cX1_draft 70 = .ok (.iconst 0, 1) := by decide +kernel
theorem dX1_draft_71 : decode cX1_draft 71 = .ok (.istore 8, 2) := by decide +kernel
theorem dX1_draft_73 : decode cX1_draft 73 = .ok (.aload_n 0, 1) := by decide +kernel
theorem dX1_draft_74 : decode cX1_draft 74 = .ok (.iload 7, 2) := by decide +kernel
theorem dX1_draft_76 : decode cX1_draft 76 = .ok (.ifCond .ne 7, 3) := by decide +kernel
theorem dX1_draft_79 : decode cX1_draft 79 = .ok (.iconst 1, 1) := by decide +kernel
theorem dX1_draft_80 : decode cX1_draft 80 = .ok (.goto 27, 3) := by decide +kernel
theorem dX1_draft_83 : decode cX1_draft 83 = .ok (.iload 8, 2) := by decide +kernel
theorem dX1_draft_85 : decode cX1_draft 85 = .ok (.ifCond .ne 7, 3) := by decide +kernel
theorem dX1_draft_88 : decode cX1_draft 88 = .ok (.iconst 2, 1) := by decide +kernel
theorem dX1_draft_89 : decode cX1_draft 89 = .ok (.goto 18, 3) := by decide +kernel
theorem dX1_draft_92 : decode cX1_draft 92 = .ok (.aload_n 0, 1) := by decide +kernel
theorem dX1_draft_93 : decode cX1_draft 93 = .ok (.getfield 81, 3) := by decide +kernel
theorem dX1_draft_96 : decode cX1_draft 96 = .ok (.sipush 200, 3) := by decide +kernel
theorem dX1_draft_99 : decode cX1_draft 99 = .ok (.if_icmp .ne 7, 3) := by decide +kernel
theorem dX1_draft_102 : decode cX1_draft 102 = .ok (.iconst 3, 1) := by decide +kernel
theorem dX1_draft_103 : decode cX1_draft 103 = .ok (.goto 4, 3) := by decide +kernel
theorem dX1_draft_106 : decode cX1_draft 106 = .ok (.iconst 0, 1) := by decide +kernel
theorem dX1_draft_107 : decode cX1_draft 107 = .ok (.invokevirtual 73, 3) := by decide +kernel
theorem dX1_draft_110 : decode cX1_draft 110 = .ok (.ifCond .eq 5, 3) := by decide +kernel
theorem dX1_draft_113 : decode cX1_draft 113 = .ok (.iconst 0, 1) := by decide +kernel
theorem dX1_draft_114 : decode cX1_draft 114 = .ok (.ireturn, 1) := by decide +kernel
theorem dX1_draft_115 : decode cX1_draft 115 = .ok (.aload_n 0, 1) := by decide +kernel
theorem dX1_draft_116 : decode cX1_draft 116 = .ok (.getfield 23, 3) := by decide +kernel
theorem dX1_draft_119 : decode cX1_draft 119 = .ok (.aload_n 0, 1) := by decide +kernel
theorem dX1_draft_120 : decode cX1_draft 120 = .ok (.getfield 81, 3) := by decide +kernel
theorem dX1_draft_123 : decode cX1_draft 123 = .ok (.iload_n 1, 1) := by decide +kernel
theorem dX1_draft_124 : decode cX1_draft 124 = .ok (.iastore, 1) := by decide +kernel
theorem dX1_draft_125 : decode cX1_draft 125 = .ok (.aload_n 0, 1) := by decide +kernel
theorem dX1_draft_126 : decode cX1_draft 126 = .ok (.getfield 26, 3) := by decide +kernel
theorem dX1_draft_129 : decode cX1_draft 129 = .ok (.aload_n 0, 1) := by decide +kernel
theorem dX1_draft_130 : decode cX1_draft 130 = .ok (.getfield 81, 3) := by decide +kernel
theorem dX1_draft_133 : decode cX1_draft 133 = .ok (.iload_n 2, 1) := by decide +kernel
theorem dX1_draft_134 : decode cX1_draft 134 = .ok (.iastore, 1) := by decide +kernel
theorem dX1_draft_135 : decode cX1_draft 135 = .ok (.aload_n 0, 1) := by decide +kernel
theorem dX1_draft_136 : decode cX1_draft 136 = .ok (.getfield 29, 3) := by decide +kernel
theorem dX1_draft_139 : decode cX1_draft 139 = .ok (.aload_n 0, 1) := by decide +kernel
theorem dX1_draft_140 : decode cX1_draft 140 = .ok (.getfield 81, 3) := by decide +kernel
theorem dX1_draft_143 : decode cX1_draft 143 = .ok (.iload_n 3, 1) := by decide +kernel
theorem dX1_draft_144 : decode cX1_draft 144 = .ok (.iastore, 1) := by decide +kernel
theorem dX1_draft_145 : decode cX1_draft 145 = .ok (.aload_n 0, 1) := by decide +kernel
theorem dX1_draft_146 : decode cX1_draft 146 = .ok (.getfield 32, 3) := by decide +kernel
theorem dX1_draft_149 : decode cX1_draft 149 = .ok (.aload_n 0, 1) := by decide +kernel
theorem dX1_draft_150 : decode cX1_draft 150 = .ok (.getfield 81, 3) := by decide +kernel
theorem dX1_draft_153 : decode cX1_draft 153 = .ok (.iload 4, 2) := by decide +kernel
theorem dX1_draft_155 : decode cX1_draft 155 = .ok (.iastore, 1) := by decide +kernel
theorem dX1_draft_156 : decode cX1_draft 156 = .ok (.aload_n 0, 1) := by decide +kernel
theorem dX1_draft_157 : decode cX1_draft 157 = .ok (.getfield 35, 3) := by decide +kernel
theorem dX1_draft_160 : decode cX1_draft 160 = .ok (.aload_n 0, 1) := by decide +kernel
theorem dX1_draft_161 : decode cX1_draft 161 = .ok (.getfield 81, 3) := by decide +kernel
theorem dX1_draft_164 : decode cX1_draft 164 = .ok (.iload 5, 2) := by decide +kernel
theorem dX1_draft_166 : decode cX1_draft 166 = .ok (.iastore, 1) := by decide +kernel
theorem dX1_draft_167 : decode cX1_draft 167 = .ok (.aload_n 0, 1) := by decide +kernel
theorem dX1_draft_168 : decode cX1_draft 168 = .ok (.getfield 38, 3) := by decide +kernel
theorem dX1_draft_171 : decode cX1_draft 171 = .ok (.aload_n 0, 1) := by decide +kernel
theorem dX1_draft_172 : decode cX1_draft 172 = .ok (.getfield 81, 3) := by decide +kernel
theorem dX1_draft_175 : decode cX1_draft 175 = .ok (.iload 6, 2) := by decide +kernel
theorem dX1_draft_177 : decode cX1_draft 177 = .ok (.iastore, 1) := by decide +kernel
theorem dX1_draft_178 : decode cX1_draft 178 = .ok (.aload_n 0, 1) := by decide +kernel
theorem dX1_draft_179 : decode cX1_draft 179 = .ok (.dup, 1) := by decide +kernel
theorem dX1_draft_180 : decode cX1_draft 180 = .ok (.getfield 81, 3) := by decide +kernel
theorem dX1_draft_183 : decode cX1_draft 183 = .ok (.iconst 1, 1) := by decide +kernel
theorem dX1_draft_184 : decode cX1_draft 184 = .ok (.iadd, 1) := by decide +kernel
theorem dX1_draft_185 : decode cX1_draft 185 = .ok (.putfield 81, 3) := by decide +kernel
theorem dX1_draft_188 : decode cX1_draft 188 = .ok (.aload_n 0, 1) := by decide +kernel
theorem dX1_draft_189 : decode cX1_draft 189 = .ok (.getfield 81, 3) := by decide +kernel
theorem dX1_draft_192 : decode cX1_draft 192 = .ok (.iconst 1, 1) := by decide +kernel
theorem dX1_draft_193 : decode cX1_draft 193 = .ok (.isub, 1) := by decide +kernel
theorem dX1_draft_194 : decode cX1_draft 194 = .ok (.ireturn, 1) := by decide +kernel
theorem dX1_holds_0 : decode cX1_holds 0 = .ok (.iconst (-1), 1) := by decide +kernel
theorem dX1_holds_1 : decode cX1_holds 1 = .ok (.istore 5, 2) := by decide +kernel
theorem dX1_holds_3 : decode cX1_holds 3 = .ok (.iconst 0, 1) := by decide +kernel
theorem dX1_holds_4 : decode cX1_holds 4 = .ok (.istore 6, 2) := by decide +kernel
theorem dX1_holds_6 : decode cX1_holds 6 = .ok (.iload 6, 2) := by decide +kernel
theorem dX1_holds_8 : decode cX1_holds 8 = .ok (.aload_n 0, 1) := by decide +kernel
theorem dX1_holds_9 : decode cX1_holds 9 = .ok (.getfield 81, 3) := by decide +kernel
theorem dX1_holds_12 : decode cX1_holds 12 = .ok (.if_icmp .ge 123, 3) := by decide +kernel
theorem dX1_holds_15 : decode cX1_holds 15 = .ok (.aload_n 0, 1) := by decide +kernel
theorem dX1_holds_16 : decode cX1_holds 16 = .ok (.getfield 23, 3) := by decide +kernel
theorem dX1_holds_19 : decode cX1_holds 19 = .ok (.iload 6, 2) := by decide +kernel
theorem dX1_holds_21 : decode cX1_holds 21 = .ok (.iaload, 1) := by decide +kernel
theorem dX1_holds_22 : decode cX1_holds 22 = .ok (.iload_n 1, 1) := by decide +kernel
theorem dX1_holds_23 : decode cX1_holds 23 = .ok (.if_icmp .ne 66, 3) := by decide +kernel
theorem dX1_holds_26 : decode cX1_holds 26 = .ok (.aload_n 0, 1) := by decide +kernel
theorem dX1_holds_27 : decode cX1_holds 27 = .ok (.getfield 26, 3) := by decide +kernel
theorem dX1_holds_30 : decode cX1_holds 30 = .ok (.iload 6, 2) := by decide +kernel
theorem dX1_holds_32 : decode cX1_holds 32 = .ok (.iaload, 1) := by decide +kernel
theorem dX1_holds_33 : decode cX1_holds 33 = .ok (.iload_n 2, 1) := by decide +kernel
theorem dX1_holds_34 : decode cX1_holds 34 = .ok (.if_icmp .ne 55, 3) := by decide +kernel
theorem dX1_holds_37 : decode cX1_holds 37 = .ok (.aload_n 0, 1) := by decide +kernel
theorem dX1_holds_38 : decode cX1_holds 38 = .ok (.getfield 29, 3) := by decide +kernel
theorem dX1_holds_41 : decode cX1_holds 41 = .ok (.iload 6, 2) := by decide +kernel
theorem dX1_holds_43 : decode cX1_holds 43 = .ok (.iaload, 1) := by decide +kernel
theorem dX1_holds_44 : decode cX1_holds 44 = .ok (.iload_n 3, 1) := by decide +kernel
theorem dX1_holds_45 : decode cX1_holds 45 = .ok (.if_icmp .ne 44, 3) := by decide +kernel
theorem dX1_holds_48 : decode cX1_holds 48 = .ok (.aload_n 0, 1) := by decide +kernel
theorem dX1_holds_49 : decode cX1_holds 49 = .ok (.getfield 32, 3) := by decide +kernel
theorem dX1_holds_52 : decode cX1_holds 52 = .ok (.iload 6, 2) := by decide +kernel
theorem dX1_holds_54 : decode cX1_holds 54 = .ok (.iaload, 1) := by decide +kernel
theorem dX1_holds_55 : decode cX1_holds 55 = .ok (.iload 4, 2) := by decide +kernel
theorem dX1_holds_57 : decode cX1_holds 57 = .ok (.if_icmp .ne 32, 3) := by decide +kernel
theorem dX1_holds_60 : decode cX1_holds 60 = .ok (.aload_n 0, 1) := by decide +kernel
theorem dX1_holds_61 : decode cX1_holds 61 = .ok (.getfield 41, 3) := by decide +kernel
theorem dX1_holds_64 : decode cX1_holds 64 = .ok (.iload 6, 2) := by decide +kernel
theorem dX1_holds_66 : decode cX1_holds 66 = .ok (.iaload, 1) := by decide +kernel
theorem dX1_holds_67 : decode cX1_holds 67 = .ok (.iconst 1, 1) := by decide +kernel
theorem dX1_holds_68 : decode cX1_holds 68 = .ok (.if_icmp .ne 21, 3) := by decide +kernel
theorem dX1_holds_71 : decode cX1_holds 71 = .ok (.aload_n 0, 1) := by decide +kernel
theorem dX1_holds_72 : decode cX1_holds 72 = .ok (.getfield 38, 3) := by decide +kernel
theorem dX1_holds_75 : decode cX1_holds 75 = .ok (.iload 6, 2) := by decide +kernel
theorem dX1_holds_77 : decode cX1_holds 77 = .ok (.iaload, 1) := by decide +kernel
theorem dX1_holds_78 : decode cX1_holds 78 = .ok (.aload_n 0, 1) := by decide +kernel
theorem dX1_holds_79 : decode cX1_holds 79 = .ok (.getfield 84, 3) := by decide +kernel
theorem dX1_holds_82 : decode cX1_holds 82 = .ok (.if_icmp .gt 7, 3) := by decide +kernel
theorem dX1_holds_85 : decode cX1_holds 85 = .ok (.iconst 1, 1) := by decide +kernel
theorem dX1_holds_86 : decode cX1_holds 86 = .ok (.goto 4, 3) := by decide +kernel
theorem dX1_holds_89 : decode cX1_holds 89 = .ok (.iconst 0, 1) := by decide +kernel
theorem dX1_holds_90 : decode cX1_holds 90 = .ok (.istore 7, 2) := by decide +kernel
theorem dX1_holds_92 : decode cX1_holds 92 = .ok (.iload 7, 2) := by decide +kernel
theorem dX1_holds_94 : decode cX1_holds 94 = .ok (.ifCond .eq 31, 3) := by decide +kernel
theorem dX1_holds_97 : decode cX1_holds 97 = .ok (.iload 5, 2) := by decide +kernel
theorem dX1_holds_99 : decode cX1_holds 99 = .ok (.iconst (-1), 1) := by decide +kernel
theorem dX1_holds_100 : decode cX1_holds 100 = .ok (.if_icmp .eq 20, 3) := by decide +kernel
theorem dX1_holds_103 : decode cX1_holds 103 = .ok (.aload_n 0, 1) := by decide +kernel
theorem dX1_holds_104 : decode cX1_holds 104 = .ok (.getfield 38, 3) := by decide +kernel
theorem dX1_holds_107 : decode cX1_holds 107 = .ok (.iload 6, 2) := by decide +kernel
theorem dX1_holds_109 : decode cX1_holds 109 = .ok (.iaload, 1) := by decide +kernel
theorem dX1_holds_110 : decode cX1_holds 110 = .ok (.aload_n 0, 1) := by decide +kernel
theorem dX1_holds_111 : decode cX1_holds 111 = .ok (.getfield 38, 3) := by decide +kernel
theorem dX1_holds_114 : decode cX1_holds 114 = .ok (.iload 5, 2) := by decide +kernel
theorem dX1_holds_116 : decode cX1_holds 116 = .ok (.iaload, 1) := by decide +kernel
theorem dX1_holds_117 : decode cX1_holds 117 = .ok (.if_icmp .lt 8, 3) := by decide +kernel
theorem dX1_holds_120 : decode cX1_holds 120 = .ok (.iload 6, 2) := by decide +kernel
theorem dX1_holds_122 : decode cX1_holds 122 = .ok (.goto 5, 3) := by decide +kernel
theorem dX1_holds_125 : decode cX1_holds 125 = .ok (.iload 5, 2) := by decide +kernel
theorem dX1_holds_127 : decode cX1_holds 127 = .ok (.istore 5, 2) := by decide +kernel
theorem dX1_holds_129 : decode cX1_holds 129 = .ok (.iinc 6 1, 3) := by decide +kernel
theorem dX1_holds_132 : decode cX1_holds 132 = .ok (.goto (-126), 3) := by decide +kernel
theorem dX1_holds_135 : decode cX1_holds 135 = .ok (.iload 5, 2) := by decide +kernel
theorem dX1_holds_137 : decode cX1_holds 137 = .ok (.ireturn, 1) := by decide +kernel
set_option maxRecDepth 20000 in
theorem ggX1_isHolding_X1_holds : GoodIn wsX1_isHolding wsX1_holds := goodIn_r _ [9, 10, 1, 2, 3, 4, 11, 12, 13, 14, 15, 16, 17, 18, 19, 20, 21, 22, 23, 24, 25, 26, 27, 28, 29, 30, 31] (by decide +kernel) (by decide +kernel)
set_option maxRecDepth 20000 in
theorem gX1_isHolding_X1_holds : GoodIn wsX1_isHolding (wsV RX1 87 RX1 yX1_holds wsX1_holds) := goodIn_app (goodIn_of _ (by decide +kernel)) ggX1_isHolding_X1_holds
theorem dX1_isHolding_0 : decode cX1_isHolding 0 = .ok (.aload_n 0, 1) := by decide +kernel
theorem dX1_isHolding_1 : decode cX1_isHolding 1 = .ok (.aload_n 0, 1) := by decide +kernel
theorem dX1_isHolding_2 : decode cX1_isHolding 2 = .ok (.getfield 23, 3) := by decide +kernel
theorem dX1_isHolding_5 : decode cX1_isHolding 5 = .ok (.iload_n 1, 1) := by decide +kernel
theorem dX1_isHolding_6 : decode cX1_isHolding 6 = .ok (.iaload, 1) := by decide +kernel
theorem dX1_isHolding_7 : decode cX1_isHolding 7 = .ok (.aload_n 0, 1) := by decide +kernel
theorem dX1_isHolding_8 : decode cX1_isHolding 8 = .ok (.getfield 26, 3) := by decide +kernel
theorem dX1_isHolding_11 : decode cX1_isHolding 11 = .ok (.iload_n 1, 1) := by decide +kernel
theorem dX1_isHolding_12 : decode cX1_isHolding 12 = .ok (.iaload, 1) := by decide +kernel
theorem dX1_isHolding_13 : decode cX1_isHolding 13 = .ok (.aload_n 0, 1) := by decide +kernel
theorem dX1_isHolding_14 : decode cX1_isHolding 14 = .ok (.getfield 29, 3) := by decide +kernel
theorem dX1_isHolding_17 : decode cX1_isHolding 17 = .ok (.iload_n 1, 1) := by decide +kernel
theorem dX1_isHolding_18 : decode cX1_isHolding 18 = .ok (.iaload, 1) := by decide +kernel
theorem dX1_isHolding_19 : decode cX1_isHolding 19 = .ok (.aload_n 0, 1) := by decide +kernel
theorem dX1_isHolding_20 : decode cX1_isHolding 20 = .ok (.getfield 32, 3) := by decide +kernel
theorem dX1_isHolding_23 : decode cX1_isHolding 23 = .ok (.iload_n 1, 1) := by decide +kernel
theorem dX1_isHolding_24 : decode cX1_isHolding 24 = .ok (.iaload, 1) := by decide +kernel
theorem dX1_isHolding_25 : decode cX1_isHolding 25 = .ok (.invokevirtual 87, 3) := by decide +kernel
theorem dX1_isHolding_28 : decode cX1_isHolding 28 = .ok (.iload_n 1, 1) := by decide +kernel
theorem dX1_isHolding_29 : decode cX1_isHolding 29 = .ok (.if_icmp .ne 7, 3) := by decide +kernel
theorem dX1_isHolding_32 : decode cX1_isHolding 32 = .ok (.iconst 1, 1) := by decide +kernel
theorem dX1_isHolding_33 : decode cX1_isHolding 33 = .ok (.goto 4, 3) := by decide +kernel
theorem dX1_isHolding_36 : decode cX1_isHolding 36 = .ok (.iconst 0, 1) := by decide +kernel
theorem dX1_isHolding_37 : decode cX1_isHolding 37 = .ok (.ireturn, 1) := by decide +kernel
set_option maxRecDepth 20000 in
theorem ggX1_isDraft_X1_isIn : GoodIn wsX1_isDraft wsX1_isIn := goodIn_r _ [7] (by decide +kernel) (by decide +kernel)
set_option maxRecDepth 20000 in
theorem gX1_isDraft_X1_isIn : GoodIn wsX1_isDraft (va_wsS RX1 61 yX1_isIn wsX1_isIn) := goodIn_app (goodIn_of _ (by decide +kernel)) ggX1_isDraft_X1_isIn
theorem dX1_isDraft_0 : decode cX1_isDraft 0 = .ok (.iload_n 1, 1) := by decide +kernel
theorem dX1_isDraft_1 : decode cX1_isDraft 1 = .ok (.iconst 0, 1) := by decide +kernel
theorem dX1_isDraft_2 : decode cX1_isDraft 2 = .ok (.aload_n 0, 1) := by decide +kernel
theorem dX1_isDraft_3 : decode cX1_isDraft 3 = .ok (.getfield 81, 3) := by decide +kernel
theorem dX1_isDraft_6 : decode cX1_isDraft 6 = .ok (.iconst 1, 1) := by decide +kernel
theorem dX1_isDraft_7 : decode cX1_isDraft 7 = .ok (.isub, 1) := by decide +kernel
theorem dX1_isDraft_8 : decode cX1_isDraft 8 = .ok (.invokestatic 61, 3) := by decide +kernel
theorem dX1_isDraft_11 : decode cX1_isDraft 11 = .ok (.ifCond .eq 21, 3) := by decide +kernel
theorem dX1_isDraft_14 : decode cX1_isDraft 14 = .ok (.aload_n 0, 1) := by decide +kernel
theorem dX1_isDraft_15 : decode cX1_isDraft 15 = .ok (.getfield 7, 3) := by decide +kernel
theorem dX1_isDraft_18 : decode cX1_isDraft 18 = .ok (.aload_n 0, 1) := by decide +kernel
theorem dX1_isDraft_19 : decode cX1_isDraft 19 = .ok (.getfield 23, 3) := by decide +kernel
theorem dX1_isDraft_22 : decode cX1_isDraft 22 = .ok (.iload_n 1, 1) := by decide +kernel
theorem dX1_isDraft_23 : decode cX1_isDraft 23 = .ok (.iaload, 1) := by decide +kernel
theorem dX1_isDraft_24 : decode cX1_isDraft 24 = .ok (.baload, 1) := by decide +kernel
theorem dX1_isDraft_25 : decode cX1_isDraft 25 = .ok (.ifCond .eq 7, 3) := by decide +kernel
theorem dX1_isDraft_28 : decode cX1_isDraft 28 = .ok (.iconst 1, 1) := by decide +kernel
theorem dX1_isDraft_29 : decode cX1_isDraft 29 = .ok (.goto 4, 3) := by decide +kernel
theorem dX1_isDraft_32 : decode cX1_isDraft 32 = .ok (.iconst 0, 1) := by decide +kernel
theorem dX1_isDraft_33 : decode cX1_isDraft 33 = .ok (.ireturn, 1) := by decide +kernel
set_option maxRecDepth 20000 in
theorem ggX1_approve_X1_isDraft : GoodIn wsX1_approve wsX1_isDraft := goodIn_r _ [6, 7, 8, 9, 10, 11, 5, 12, 31, 32, 33, 34, 35, 36, 37, 38, 39, 40, 41, 42, 43, 44, 45, 46, 47, 48] (by decide +kernel) (by decide +kernel)
set_option maxRecDepth 20000 in
theorem gX1_approve_X1_isDraft : GoodIn wsX1_approve (wsV RX1 91 RX1 yX1_isDraft wsX1_isDraft) := goodIn_app (goodIn_of _ (by decide +kernel)) ggX1_approve_X1_isDraft
set_option maxRecDepth 20000 in
theorem ggX1_approve_X1_fails : GoodIn wsX1_approve wsX1_fails := goodIn_r _ [16, 17, 31, 32, 33, 34, 35, 36, 37, 38, 39, 40, 41, 42, 43, 44, 45, 46, 47, 48] (by decide +kernel) (by decide +kernel)
set_option maxRecDepth 20000 in
theorem gX1_approve_X1_fails : GoodIn wsX1_approve (wsV RX1 73 RX1 yX1_fails wsX1_fails) := goodIn_app (goodIn_of _ (by decide +kernel)) ggX1_approve_X1_fails
set_option maxRecDepth 20000 in
theorem ggX1_approve_X1_isHolding : GoodIn wsX1_approve wsX1_isHolding := goodIn_r _ [21, 9, 22, 23, 24, 25, 26, 27, 5, 28, 7, 1, 29, 30, 31, 32, 33, 34, 35, 36, 37, 38, 39, 40, 41, 42, 43, 44, 45, 46, 47, 48] (by decide +kernel) (by decide +kernel)
set_option maxRecDepth 20000 in
theorem gX1_approve_X1_isHolding : GoodIn wsX1_approve (wsV RX1 94 RX1 yX1_isHolding wsX1_isHolding) := goodIn_app (goodIn_of _ (by decide +kernel)) ggX1_approve_X1_isHolding
theorem dX1_approve_0 : decode cX1_approve 0 = .ok (.aload_n 0, 1) := by decide +kernel
theorem dX1_approve_1 : decode cX1_approve 1 = .ok (.iload_n 1, 1) := by decide +kernel
theorem dX1_approve_2 : decode cX1_approve 2 = .ok (.invokevirtual 91, 3) := by decide +kernel
theorem dX1_approve_5 : decode cX1_approve 5 = .ok (.istore_n 2, 1) := by decide +kernel
theorem dX1_approve_6 : decode cX1_approve 6 = .ok (.aload_n 0, 1) := by decide +kernel
theorem dX1_approve_7 : decode cX1_approve 7 = .ok (.iload_n 2, 1) := by decide +kernel
theorem dX1_approve_8 : decode cX1_approve 8 = .ok (.ifCond .ne 7, 3) := by decide +kernel
theorem dX1_approve_11 : decode cX1_approve 11 = .ok (.iconst 1, 1) := by decide +kernel
theorem dX1_approve_12 : decode cX1_approve 12 = .ok (.goto 17, 3) := by decide +kernel
theorem dX1_approve_15 : decode cX1_approve 15 = .ok (.aload_n 0, 1) := by decide +kernel
theorem dX1_approve_16 : decode cX1_approve 16 = .ok (.getfield 41, 3) := by decide +kernel
theorem dX1_approve_19 : decode cX1_approve 19 = .ok (.iload_n 1, 1) := by decide +kernel
theorem dX1_approve_20 : decode cX1_approve 20 = .ok (.iaload, 1) := by decide +kernel
theorem dX1_approve_21 : decode cX1_approve 21 = .ok (.ifCond .ne 7, 3) := by decide +kernel
theorem dX1_approve_24 : decode cX1_approve 24 = .ok (.iconst 0, 1) := by decide +kernel
theorem dX1_approve_25 : decode cX1_approve 25 = .ok (.goto 4, 3) := by decide +kernel
theorem dX1_approve_28 : decode cX1_approve 28 = .ok (.iconst 2, 1) := by decide +kernel
theorem dX1_approve_29 : decode cX1_approve 29 = .ok (.invokevirtual 73, 3) := by decide +kernel
theorem dX1_approve_32 : decode cX1_approve 32 = .ok (.ifCond .eq 5, 3) := by decide +kernel
theorem dX1_approve_35 : decode cX1_approve 35 = .ok (.iconst 0, 1) := by decide +kernel
theorem dX1_approve_36 : decode cX1_approve 36 = .ok (.ireturn, 1) := by decide +kernel
theorem dX1_approve_37 : decode cX1_approve 37 = .ok (.aload_n 0, 1) := by decide +kernel
theorem dX1_approve_38 : decode cX1_approve 38 = .ok (.getfield 41, 3) := by decide +kernel
theorem dX1_approve_41 : decode cX1_approve 41 = .ok (.iload_n 1, 1) := by decide +kernel
theorem dX1_approve_42 : decode cX1_approve 42 = .ok (.iconst 1, 1) := by decide +kernel
theorem dX1_approve_43 : decode cX1_approve 43 = .ok (.iastore, 1) := by decide +kernel
theorem dX1_approve_44 : decode cX1_approve 44 = .ok (.aload_n 0, 1) := by decide +kernel
theorem dX1_approve_45 : decode cX1_approve 45 = .ok (.iload_n 1, 1) := by decide +kernel
theorem dX1_approve_46 : decode cX1_approve 46 = .ok (.invokevirtual 94, 3) := by decide +kernel
theorem dX1_approve_49 : decode cX1_approve 49 = .ok (.ireturn, 1) := by decide +kernel
set_option maxRecDepth 20000 in
theorem ggX1_reject_X1_isDraft : GoodIn wsX1_reject wsX1_isDraft := goodIn_r _ [6, 7, 8, 9, 10, 11, 5, 12, 31, 32, 33, 34, 35, 36, 37, 38, 39, 40, 41, 42, 43, 44, 45, 46, 47, 48] (by decide +kernel) (by decide +kernel)
set_option maxRecDepth 20000 in
theorem gX1_reject_X1_isDraft : GoodIn wsX1_reject (wsV RX1 91 RX1 yX1_isDraft wsX1_isDraft) := goodIn_app (goodIn_of _ (by decide +kernel)) ggX1_reject_X1_isDraft
set_option maxRecDepth 20000 in
theorem ggX1_reject_X1_fails : GoodIn wsX1_reject wsX1_fails := goodIn_r _ [16, 17, 31, 32, 33, 34, 35, 36, 37, 38, 39, 40, 41, 42, 43, 44, 45, 46, 47, 48] (by decide +kernel) (by decide +kernel)
set_option maxRecDepth 20000 in
theorem gX1_reject_X1_fails : GoodIn wsX1_reject (wsV RX1 73 RX1 yX1_fails wsX1_fails) := goodIn_app (goodIn_of _ (by decide +kernel)) ggX1_reject_X1_fails
set_option maxRecDepth 20000 in
theorem ggX1_reject_X1_isHolding : GoodIn wsX1_reject wsX1_isHolding := goodIn_r _ [21, 9, 22, 23, 24, 25, 26, 27, 5, 28, 7, 1, 29, 30, 31, 32, 33, 34, 35, 36, 37, 38, 39, 40, 41, 42, 43, 44, 45, 46, 47, 48] (by decide +kernel) (by decide +kernel)
set_option maxRecDepth 20000 in
theorem gX1_reject_X1_isHolding : GoodIn wsX1_reject (wsV RX1 94 RX1 yX1_isHolding wsX1_isHolding) := goodIn_app (goodIn_of _ (by decide +kernel)) ggX1_reject_X1_isHolding
theorem dX1_reject_0 : decode cX1_reject 0 = .ok (.aload_n 0, 1) := by decide +kernel
theorem dX1_reject_1 : decode cX1_reject 1 = .ok (.iload_n 1, 1) := by decide +kernel
theorem dX1_reject_2 : decode cX1_reject 2 = .ok (.invokevirtual 91, 3) := by decide +kernel
theorem dX1_reject_5 : decode cX1_reject 5 = .ok (.istore_n 2, 1) := by decide +kernel
theorem dX1_reject_6 : decode cX1_reject 6 = .ok (.aload_n 0, 1) := by decide +kernel
theorem dX1_reject_7 : decode cX1_reject 7 = .ok (.iload_n 2, 1) := by decide +kernel
theorem dX1_reject_8 : decode cX1_reject 8 = .ok (.ifCond .ne 7, 3) := by decide +kernel
theorem dX1_reject_11 : decode cX1_reject 11 = .ok (.iconst 1, 1) := by decide +kernel
theorem dX1_reject_12 : decode cX1_reject 12 = .ok (.goto 18, 3) := by decide +kernel
theorem dX1_reject_15 : decode cX1_reject 15 = .ok (.aload_n 0, 1) := by decide +kernel
theorem dX1_reject_16 : decode cX1_reject 16 = .ok (.getfield 41, 3) := by decide +kernel
theorem dX1_reject_19 : decode cX1_reject 19 = .ok (.iload_n 1, 1) := by decide +kernel
theorem dX1_reject_20 : decode cX1_reject 20 = .ok (.iaload, 1) := by decide +kernel
theorem dX1_reject_21 : decode cX1_reject 21 = .ok (.iconst 2, 1) := by decide +kernel
theorem dX1_reject_22 : decode cX1_reject 22 = .ok (.if_icmp .ne 7, 3) := by decide +kernel
theorem dX1_reject_25 : decode cX1_reject 25 = .ok (.iconst 2, 1) := by decide +kernel
theorem dX1_reject_26 : decode cX1_reject 26 = .ok (.goto 4, 3) := by decide +kernel
theorem dX1_reject_29 : decode cX1_reject 29 = .ok (.iconst 0, 1) := by decide +kernel
theorem dX1_reject_30 : decode cX1_reject 30 = .ok (.invokevirtual 73, 3) := by decide +kernel
theorem dX1_reject_33 : decode cX1_reject 33 = .ok (.ifCond .eq 5, 3) := by decide +kernel
theorem dX1_reject_36 : decode cX1_reject 36 = .ok (.iconst 0, 1) := by decide +kernel
theorem dX1_reject_37 : decode cX1_reject 37 = .ok (.ireturn, 1) := by decide +kernel
theorem dX1_reject_38 : decode cX1_reject 38 = .ok (.aload_n 0, 1) := by decide +kernel
theorem dX1_reject_39 : decode cX1_reject 39 = .ok (.iload_n 1, 1) := by decide +kernel
theorem dX1_reject_40 : decode cX1_reject 40 = .ok (.invokevirtual 94, 3) := by decide +kernel
theorem dX1_reject_43 : decode cX1_reject 43 = .ok (.istore_n 3, 1) := by decide +kernel
theorem dX1_reject_44 : decode cX1_reject 44 = .ok (.aload_n 0, 1) := by decide +kernel
theorem dX1_reject_45 : decode cX1_reject 45 = .ok (.getfield 41, 3) := by decide +kernel
theorem dX1_reject_48 : decode cX1_reject 48 = .ok (.iload_n 1, 1) := by decide +kernel
theorem dX1_reject_49 : decode cX1_reject 49 = .ok (.iconst 2, 1) := by decide +kernel
theorem dX1_reject_50 : decode cX1_reject 50 = .ok (.iastore, 1) := by decide +kernel
theorem dX1_reject_51 : decode cX1_reject 51 = .ok (.iload_n 3, 1) := by decide +kernel
theorem dX1_reject_52 : decode cX1_reject 52 = .ok (.ireturn, 1) := by decide +kernel
set_option maxRecDepth 20000 in
theorem ggX1_pass_X1_isIn : GoodIn wsX1_pass wsX1_isIn := goodIn_r _ [5] (by decide +kernel) (by decide +kernel)
set_option maxRecDepth 20000 in
theorem gX1_pass_X1_isIn : GoodIn wsX1_pass (va_wsS RX1 61 yX1_isIn wsX1_isIn) := goodIn_app (goodIn_of _ (by decide +kernel)) ggX1_pass_X1_isIn
set_option maxRecDepth 20000 in
theorem ggX1_pass_X1_fails : GoodIn wsX1_pass wsX1_fails := goodIn_r _ [9, 10, 11, 12, 13, 14, 15, 16, 17, 18, 19, 20, 21, 22, 23, 24, 25, 26, 27, 28] (by decide +kernel) (by decide +kernel)
set_option maxRecDepth 20000 in
theorem gX1_pass_X1_fails : GoodIn wsX1_pass (wsV RX1 73 RX1 yX1_fails wsX1_fails) := goodIn_app (goodIn_of _ (by decide +kernel)) ggX1_pass_X1_fails
theorem dX1_pass_0 : decode cX1_pass 0 = .ok (.aload_n 0, 1) := by decide +kernel
theorem dX1_pass_1 : decode cX1_pass 1 = .ok (.iload_n 1, 1) := by decide +kernel
theorem dX1_pass_2 : decode cX1_pass 2 = .ok (.iconst 1, 1) := by decide +kernel
theorem dX1_pass_3 : decode cX1_pass 3 = .ok (.bipush 100, 2) := by decide +kernel
theorem dX1_pass_5 : decode cX1_pass 5 = .ok (.invokestatic 61, 3) := by decide +kernel
theorem dX1_pass_8 : decode cX1_pass 8 = .ok (.ifCond .eq 7, 3) := by decide +kernel
theorem dX1_pass_11 : decode cX1_pass 11 = .ok (.iconst 0, 1) := by decide +kernel
theorem dX1_pass_12 : decode cX1_pass 12 = .ok (.goto 4, 3) := by decide +kernel
theorem dX1_pass_15 : decode cX1_pass 15 = .ok (.iconst 1, 1) := by decide +kernel
theorem dX1_pass_16 : decode cX1_pass 16 = .ok (.invokevirtual 73, 3) := by decide +kernel
theorem dX1_pass_19 : decode cX1_pass 19 = .ok (.ifCond .eq 5, 3) := by decide +kernel
theorem dX1_pass_22 : decode cX1_pass 22 = .ok (.iconst 0, 1) := by decide +kernel
theorem dX1_pass_23 : decode cX1_pass 23 = .ok (.ireturn, 1) := by decide +kernel
theorem dX1_pass_24 : decode cX1_pass 24 = .ok (.aload_n 0, 1) := by decide +kernel
theorem dX1_pass_25 : decode cX1_pass 25 = .ok (.dup, 1) := by decide +kernel
theorem dX1_pass_26 : decode cX1_pass 26 = .ok (.getfield 84, 3) := by decide +kernel
theorem dX1_pass_29 : decode cX1_pass 29 = .ok (.iload_n 1, 1) := by decide +kernel
theorem dX1_pass_30 : decode cX1_pass 30 = .ok (.iadd, 1) := by decide +kernel
theorem dX1_pass_31 : decode cX1_pass 31 = .ok (.putfield 84, 3) := by decide +kernel
theorem dX1_pass_34 : decode cX1_pass 34 = .ok (.aload_n 0, 1) := by decide +kernel
theorem dX1_pass_35 : decode cX1_pass 35 = .ok (.getfield 84, 3) := by decide +kernel
theorem dX1_pass_38 : decode cX1_pass 38 = .ok (.ireturn, 1) := by decide +kernel
set_option maxRecDepth 20000 in
theorem ggX1_originOf_X1_holds : GoodIn wsX1_originOf wsX1_holds := goodIn_r _ [6, 7, 8, 9, 10, 11, 12, 13, 14, 15, 16, 17, 18, 19, 20, 21, 22, 23, 24, 25, 26, 27, 28, 29, 30, 31, 32] (by decide +kernel) (by decide +kernel)
set_option maxRecDepth 20000 in
theorem gX1_originOf_X1_holds : GoodIn wsX1_originOf (wsV RX1 87 RX1 yX1_holds wsX1_holds) := goodIn_app (goodIn_of _ (by decide +kernel)) ggX1_originOf_X1_holds
theorem dX1_originOf_0 : decode cX1_originOf 0 = .ok (.iload_n 1, 1) := by decide +kernel
theorem dX1_originOf_1 : decode cX1_originOf 1 = .ok (.istore 5, 2) := by decide +kernel
theorem dX1_originOf_3 : decode cX1_originOf 3 = .ok (.iload 5, 2) := by decide +kernel
theorem dX1_originOf_5 : decode cX1_originOf 5 = .ok (.iconst (-1), 1) := by decide +kernel
theorem dX1_originOf_6 : decode cX1_originOf 6 = .ok (.if_icmp .eq 72, 3) := by decide +kernel
theorem dX1_originOf_9 : decode cX1_originOf 9 = .ok (.iconst 0, 1) := by decide +kernel
theorem dX1_originOf_10 : decode cX1_originOf 10 = .ok (.istore 6, 2) := by decide +kernel
theorem dX1_originOf_12 : decode cX1_originOf 12 = .ok (.iload 6, 2) := by decide +kernel
theorem dX1_originOf_14 : decode cX1_originOf 14 = .ok (.iconst 4, 1) := by decide +kernel
theorem dX1_originOf_15 : decode cX1_originOf 15 = .ok (.if_icmp .ge 51, 3) := by decide +kernel
theorem dX1_originOf_18 : decode cX1_originOf 18 = .ok (.aload_n 0, 1) := by decide +kernel
theorem dX1_originOf_19 : decode cX1_originOf 19 = .ok (.iload 5, 2) := by decide +kernel
theorem dX1_originOf_21 : decode cX1_originOf 21 = .ok (.iload_n 2, 1) := by decide +kernel
theorem dX1_originOf_22 : decode cX1_originOf 22 = .ok (.iload 6, 2) := by decide +kernel
theorem dX1_originOf_24 : decode cX1_originOf 24 = .ok (.iconst 2, 1) := by decide +kernel
theorem dX1_originOf_25 : decode cX1_originOf 25 = .ok (.if_icmp .ge 7, 3) := by decide +kernel
theorem dX1_originOf_28 : decode cX1_originOf 28 = .ok (.iload_n 3, 1) := by decide +kernel
theorem dX1_originOf_29 : decode cX1_originOf 29 = .ok (.goto 4, 3) := by decide +kernel
theorem dX1_originOf_32 : decode cX1_originOf 32 = .ok (.iconst (-1), 1) := by decide +kernel
theorem dX1_originOf_33 : decode cX1_originOf 33 = .ok (.iload 6, 2) := by decide +kernel
theorem dX1_originOf_35 : decode cX1_originOf 35 = .ok (.iconst 2, 1) := by decide +kernel
theorem dX1_originOf_36 : decode cX1_originOf 36 = .ok (.irem, 1) := by decide +kernel
theorem dX1_originOf_37 : decode cX1_originOf 37 = .ok (.ifCond .ne 8, 3) := by decide +kernel
theorem dX1_originOf_40 : decode cX1_originOf 40 = .ok (.iload 4, 2) := by decide +kernel
theorem dX1_originOf_42 : decode cX1_originOf 42 = .ok (.goto 4, 3) := by decide +kernel
theorem dX1_originOf_45 : decode cX1_originOf 45 = .ok (.iconst (-1), 1) := by decide +kernel
theorem dX1_originOf_46 : decode cX1_originOf 46 = .ok (.invokevirtual 87, 3) := by decide +kernel
theorem dX1_originOf_49 : decode cX1_originOf 49 = .ok (.istore 7, 2) := by decide +kernel
theorem dX1_originOf_51 : decode cX1_originOf 51 = .ok (.iload 7, 2) := by decide +kernel
theorem dX1_originOf_53 : decode cX1_originOf 53 = .ok (.iconst (-1), 1) := by decide +kernel
theorem dX1_originOf_54 : decode cX1_originOf 54 = .ok (.if_icmp .eq 6, 3) := by decide +kernel
theorem dX1_originOf_57 : decode cX1_originOf 57 = .ok (.iload 7, 2) := by decide +kernel
theorem dX1_originOf_59 : decode cX1_originOf 59 = .ok (.ireturn, 1) := by decide +kernel
theorem dX1_originOf_60 : decode cX1_originOf 60 = .ok (.iinc 6 1, 3) := by decide +kernel
theorem dX1_originOf_63 : decode cX1_originOf 63 = .ok (.goto (-51), 3) := by decide +kernel
theorem dX1_originOf_66 : decode cX1_originOf 66 = .ok (.aload_n 0, 1) := by decide +kernel
theorem dX1_originOf_67 : decode cX1_originOf 67 = .ok (.getfield 13, 3) := by decide +kernel
theorem dX1_originOf_70 : decode cX1_originOf 70 = .ok (.iload 5, 2) := by decide +kernel
theorem dX1_originOf_72 : decode cX1_originOf 72 = .ok (.iaload, 1) := by decide +kernel
theorem dX1_originOf_73 : decode cX1_originOf 73 = .ok (.istore 5, 2) := by decide +kernel
theorem dX1_originOf_75 : decode cX1_originOf 75 = .ok (.goto (-72), 3) := by decide +kernel
theorem dX1_originOf_78 : decode cX1_originOf 78 = .ok (.iconst (-1), 1) := by decide +kernel
theorem dX1_originOf_79 : decode cX1_originOf 79 = .ok (.ireturn, 1) := by decide +kernel
set_option maxRecDepth 20000 in
theorem ggX1_valueOf_X1_originOf : GoodIn wsX1_valueOf wsX1_originOf := goodIn_r _ [6, 7, 8, 9, 10, 5, 11, 12, 13, 14, 15, 16, 17, 18, 19, 20, 21, 22, 23, 24, 25, 26, 27, 28, 29, 30, 31, 32, 33, 34, 35, 36, 37] (by decide +kernel) (by decide +kernel)
set_option maxRecDepth 20000 in
theorem gX1_valueOf_X1_originOf : GoodIn wsX1_valueOf (wsV RX1 97 RX1 yX1_originOf wsX1_originOf) := goodIn_app (goodIn_of _ (by decide +kernel)) ggX1_valueOf_X1_originOf
theorem dX1_valueOf_0 : decode cX1_valueOf 0 = .ok (.aload_n 0, 1) := by decide +kernel
theorem dX1_valueOf_1 : decode cX1_valueOf 1 = .ok (.iload_n 1, 1) := by decide +kernel
theorem dX1_valueOf_2 : decode cX1_valueOf 2 = .ok (.iload_n 2, 1) := by decide +kernel
theorem dX1_valueOf_3 : decode cX1_valueOf 3 = .ok (.iload_n 3, 1) := by decide +kernel
theorem dX1_valueOf_4 : decode cX1_valueOf 4 = .ok (.iload 4, 2) := by decide +kernel
theorem dX1_valueOf_6 : decode cX1_valueOf 6 = .ok (.invokevirtual 97, 3) := by decide +kernel
theorem dX1_valueOf_9 : decode cX1_valueOf 9 = .ok (.istore 5, 2) := by decide +kernel
theorem dX1_valueOf_11 : decode cX1_valueOf 11 = .ok (.iload 5, 2) := by decide +kernel
theorem dX1_valueOf_13 : decode cX1_valueOf 13 = .ok (.iconst (-1), 1) := by decide +kernel
theorem dX1_valueOf_14 : decode cX1_valueOf 14 = .ok (.if_icmp .ne 7, 3) := by decide +kernel
theorem dX1_valueOf_17 : decode cX1_valueOf 17 = .ok (.iconst (-1), 1) := by decide +kernel
theorem dX1_valueOf_18 : decode cX1_valueOf 18 = .ok (.goto 10, 3) := by decide +kernel
theorem dX1_valueOf_21 : decode cX1_valueOf 21 = .ok (.aload_n 0, 1) := by decide +kernel
theorem dX1_valueOf_22 : decode cX1_valueOf 22 = .ok (.getfield 35, 3) := by decide +kernel
theorem dX1_valueOf_25 : decode cX1_valueOf 25 = .ok (.iload 5, 2) := by decide +kernel
theorem dX1_valueOf_27 : decode cX1_valueOf 27 = .ok (.iaload, 1) := by decide +kernel
theorem dX1_valueOf_28 : decode cX1_valueOf 28 = .ok (.ireturn, 1) := by decide +kernel
set_option maxRecDepth 20000 in
theorem ggX1_isPlace_X1_isGood : GoodIn wsX1_isPlace wsX1_isGood := goodIn_r _ [5, 6, 7, 8, 9, 4, 10, 14, 15, 16, 17, 18, 19, 20, 21, 22, 23, 24, 25, 26, 27, 28, 29, 30, 31] (by decide +kernel) (by decide +kernel)
set_option maxRecDepth 20000 in
theorem gX1_isPlace_X1_isGood : GoodIn wsX1_isPlace (wsV RX1 65 RX1 yX1_isGood wsX1_isGood) := goodIn_app (goodIn_of _ (by decide +kernel)) ggX1_isPlace_X1_isGood
set_option maxRecDepth 20000 in
theorem ggX1_isPlace_X1_isIn : GoodIn wsX1_isPlace wsX1_isIn := goodIn_r _ [10] (by decide +kernel) (by decide +kernel)
set_option maxRecDepth 20000 in
theorem gX1_isPlace_X1_isIn : GoodIn wsX1_isPlace (va_wsS RX1 61 yX1_isIn wsX1_isIn) := goodIn_app (goodIn_of _ (by decide +kernel)) ggX1_isPlace_X1_isIn
set_option maxRecDepth 20000 in
theorem ggX1_isPlace_X1_isShop : GoodIn wsX1_isPlace wsX1_isShop := goodIn_r _ [13, 8, 9, 4, 10] (by decide +kernel) (by decide +kernel)
set_option maxRecDepth 20000 in
theorem gX1_isPlace_X1_isShop : GoodIn wsX1_isPlace (va_wsS RX1 100 yX1_isShop wsX1_isShop) := goodIn_app (goodIn_of _ (by decide +kernel)) ggX1_isPlace_X1_isShop
theorem dX1_isPlace_0 : decode cX1_isPlace 0 = .ok (.aload_n 0, 1) := by decide +kernel
theorem dX1_isPlace_1 : decode cX1_isPlace 1 = .ok (.iload_n 1, 1) := by decide +kernel
theorem dX1_isPlace_2 : decode cX1_isPlace 2 = .ok (.invokevirtual 65, 3) := by decide +kernel
theorem dX1_isPlace_5 : decode cX1_isPlace 5 = .ok (.ifCond .eq 33, 3) := by decide +kernel
theorem dX1_isPlace_8 : decode cX1_isPlace 8 = .ok (.iload_n 2, 1) := by decide +kernel
theorem dX1_isPlace_9 : decode cX1_isPlace 9 = .ok (.iconst 0, 1) := by decide +kernel
theorem dX1_isPlace_10 : decode cX1_isPlace 10 = .ok (.iconst 5, 1) := by decide +kernel
theorem dX1_isPlace_11 : decode cX1_isPlace 11 = .ok (.invokestatic 61, 3) := by decide +kernel
theorem dX1_isPlace_14 : decode cX1_isPlace 14 = .ok (.ifCond .eq 24, 3) := by decide +kernel
theorem dX1_isPlace_17 : decode cX1_isPlace 17 = .ok (.iload_n 3, 1) := by decide +kernel
theorem dX1_isPlace_18 : decode cX1_isPlace 18 = .ok (.invokestatic 100, 3) := by decide +kernel
theorem dX1_isPlace_21 : decode cX1_isPlace 21 = .ok (.ifCond .eq 17, 3) := by decide +kernel
theorem dX1_isPlace_24 : decode cX1_isPlace 24 = .ok (.iload 4, 2) := by decide +kernel
theorem dX1_isPlace_26 : decode cX1_isPlace 26 = .ok (.iconst 0, 1) := by decide +kernel
theorem dX1_isPlace_27 : decode cX1_isPlace 27 = .ok (.iconst 2, 1) := by decide +kernel
theorem dX1_isPlace_28 : decode cX1_isPlace 28 = .ok (.invokestatic 61, 3) := by decide +kernel
theorem dX1_isPlace_31 : decode cX1_isPlace 31 = .ok (.ifCond .eq 7, 3) := by decide +kernel
theorem dX1_isPlace_34 : decode cX1_isPlace 34 = .ok (.iconst 1, 1) := by decide +kernel
theorem dX1_isPlace_35 : decode cX1_isPlace 35 = .ok (.goto 4, 3) := by decide +kernel
theorem dX1_isPlace_38 : decode cX1_isPlace 38 = .ok (.iconst 0, 1) := by decide +kernel
theorem dX1_isPlace_39 : decode cX1_isPlace 39 = .ok (.ireturn, 1) := by decide +kernel
set_option maxRecDepth 20000 in
theorem ggX1_value_X1_isPlace : GoodIn wsX1_value wsX1_isPlace := goodIn_r _ [5, 6, 7, 8, 4, 9, 10, 11, 12, 13, 14, 15, 16, 17, 45, 46, 47, 48, 49, 50, 51, 52, 53, 54, 55, 56, 57, 58, 59, 60, 61, 62] (by decide +kernel) (by decide +kernel)
set_option maxRecDepth 20000 in
theorem gX1_value_X1_isPlace : GoodIn wsX1_value (wsV RX1 103 RX1 yX1_isPlace wsX1_isPlace) := goodIn_app (goodIn_of _ (by decide +kernel)) ggX1_value_X1_isPlace
set_option maxRecDepth 20000 in
theorem ggX1_value_X1_valueOf : GoodIn wsX1_value wsX1_valueOf := goodIn_r _ [21, 22, 23, 24, 25, 4, 26, 27, 28, 29, 30, 31, 32, 33, 34, 35, 36, 37, 38, 39, 45, 46, 47, 48, 49, 50, 51, 52, 53, 54, 55, 56, 57, 58, 59, 60, 61, 62] (by decide +kernel) (by decide +kernel)
set_option maxRecDepth 20000 in
theorem gX1_value_X1_valueOf : GoodIn wsX1_value (wsV RX1 107 RX1 yX1_valueOf wsX1_valueOf) := goodIn_app (goodIn_of _ (by decide +kernel)) ggX1_value_X1_valueOf
set_option maxRecDepth 20000 in
theorem ggX1_value_X1_fails : GoodIn wsX1_value wsX1_fails := goodIn_r _ [43, 44, 45, 46, 47, 48, 49, 50, 51, 52, 53, 54, 55, 56, 57, 58, 59, 60, 61, 62] (by decide +kernel) (by decide +kernel)
set_option maxRecDepth 20000 in
theorem gX1_value_X1_fails : GoodIn wsX1_value (wsV RX1 73 RX1 yX1_fails wsX1_fails) := goodIn_app (goodIn_of _ (by decide +kernel)) ggX1_value_X1_fails
theorem dX1_value_0 : decode cX1_value 0 = .ok (.aload_n 0, 1) := by decide +kernel
theorem dX1_value_1 : decode cX1_value 1 = .ok (.iload_n 1, 1) := by decide +kernel
theorem dX1_value_2 : decode cX1_value 2 = .ok (.iload_n 2, 1) := by decide +kernel
theorem dX1_value_3 : decode cX1_value 3 = .ok (.iload_n 3, 1) := by decide +kernel
theorem dX1_value_4 : decode cX1_value 4 = .ok (.iload 4, 2) := by decide +kernel
theorem dX1_value_6 : decode cX1_value 6 = .ok (.invokevirtual 103, 3) := by decide +kernel
theorem dX1_value_9 : decode cX1_value 9 = .ok (.istore 5, 2) := by decide +kernel
theorem dX1_value_11 : decode cX1_value 11 = .ok (.aload_n 0, 1) := by decide +kernel
theorem dX1_value_12 : decode cX1_value 12 = .ok (.iload 5, 2) := by decide +kernel
theorem dX1_value_14 : decode cX1_value 14 = .ok (.ifCond .ne 7, 3) := by decide +kernel
theorem dX1_value_17 : decode cX1_value 17 = .ok (.iconst 1, 1) := by decide +kernel
theorem dX1_value_18 : decode cX1_value 18 = .ok (.goto 21, 3) := by decide +kernel
theorem dX1_value_21 : decode cX1_value 21 = .ok (.aload_n 0, 1) := by decide +kernel
theorem dX1_value_22 : decode cX1_value 22 = .ok (.iload_n 1, 1) := by decide +kernel
theorem dX1_value_23 : decode cX1_value 23 = .ok (.iload_n 2, 1) := by decide +kernel
theorem dX1_value_24 : decode cX1_value 24 = .ok (.iload_n 3, 1) := by decide +kernel
theorem dX1_value_25 : decode cX1_value 25 = .ok (.iload 4, 2) := by decide +kernel
theorem dX1_value_27 : decode cX1_value 27 = .ok (.invokevirtual 107, 3) := by decide +kernel
theorem dX1_value_30 : decode cX1_value 30 = .ok (.iconst (-1), 1) := by decide +kernel
theorem dX1_value_31 : decode cX1_value 31 = .ok (.if_icmp .ne 7, 3) := by decide +kernel
theorem dX1_value_34 : decode cX1_value 34 = .ok (.iconst 2, 1) := by decide +kernel
theorem dX1_value_35 : decode cX1_value 35 = .ok (.goto 4, 3) := by decide +kernel
theorem dX1_value_38 : decode cX1_value 38 = .ok (.iconst 0, 1) := by decide +kernel
theorem dX1_value_39 : decode cX1_value 39 = .ok (.invokevirtual 73, 3) := by decide +kernel
theorem dX1_value_42 : decode cX1_value 42 = .ok (.ifCond .eq 7, 3) := by decide +kernel
theorem dX1_value_45 : decode cX1_value 45 = .ok (.iconst 0, 1) := by decide +kernel
theorem dX1_value_46 : decode cX1_value 46 = .ok (.goto 12, 3) := by decide +kernel
theorem dX1_value_49 : decode cX1_value 49 = .ok (.aload_n 0, 1) := by decide +kernel
theorem dX1_value_50 : decode cX1_value 50 = .ok (.iload_n 1, 1) := by decide +kernel
theorem dX1_value_51 : decode cX1_value 51 = .ok (.iload_n 2, 1) := by decide +kernel
theorem dX1_value_52 : decode cX1_value 52 = .ok (.iload_n 3, 1) := by decide +kernel
theorem dX1_value_53 : decode cX1_value 53 = .ok (.iload 4, 2) := by decide +kernel
theorem dX1_value_55 : decode cX1_value 55 = .ok (.invokevirtual 107, 3) := by decide +kernel
theorem dX1_value_58 : decode cX1_value 58 = .ok (.ireturn, 1) := by decide +kernel
set_option maxRecDepth 20000 in
theorem ggX1_origin_X1_isPlace : GoodIn wsX1_origin wsX1_isPlace := goodIn_r _ [5, 6, 7, 8, 4, 9, 10, 11, 12, 13, 14, 15, 16, 17, 40, 41, 42, 43, 44, 45, 46, 47, 48, 49, 50, 51, 52, 53, 54, 55, 56, 57] (by decide +kernel) (by decide +kernel)
set_option maxRecDepth 20000 in
theorem gX1_origin_X1_isPlace : GoodIn wsX1_origin (wsV RX1 103 RX1 yX1_isPlace wsX1_isPlace) := goodIn_app (goodIn_of _ (by decide +kernel)) ggX1_origin_X1_isPlace
set_option maxRecDepth 20000 in
theorem ggX1_origin_X1_fails : GoodIn wsX1_origin wsX1_fails := goodIn_r _ [21, 22, 40, 41, 42, 43, 44, 45, 46, 47, 48, 49, 50, 51, 52, 53, 54, 55, 56, 57] (by decide +kernel) (by decide +kernel)
set_option maxRecDepth 20000 in
theorem gX1_origin_X1_fails : GoodIn wsX1_origin (wsV RX1 73 RX1 yX1_fails wsX1_fails) := goodIn_app (goodIn_of _ (by decide +kernel)) ggX1_origin_X1_fails
set_option maxRecDepth 20000 in
theorem ggX1_origin_X1_originOf : GoodIn wsX1_origin wsX1_originOf := goodIn_r _ [26, 27, 28, 29, 30, 4, 31, 32, 33, 34, 35, 36, 37, 38, 39, 40, 41, 42, 43, 44, 45, 46, 47, 48, 49, 50, 51, 52, 53, 54, 55, 56, 57] (by decide +kernel) (by decide +kernel)
set_option maxRecDepth 20000 in
theorem gX1_origin_X1_originOf : GoodIn wsX1_origin (wsV RX1 97 RX1 yX1_originOf wsX1_originOf) := goodIn_app (goodIn_of _ (by decide +kernel)) ggX1_origin_X1_originOf
theorem dX1_origin_0 : decode cX1_origin 0 = .ok (.aload_n 0, 1) := by decide +kernel
theorem dX1_origin_1 : decode cX1_origin 1 = .ok (.aload_n 0, 1) := by decide +kernel
theorem dX1_origin_2 : decode cX1_origin 2 = .ok (.iload_n 1, 1) := by decide +kernel
theorem dX1_origin_3 : decode cX1_origin 3 = .ok (.iload_n 2, 1) := by decide +kernel
theorem dX1_origin_4 : decode cX1_origin 4 = .ok (.iload_n 3, 1) := by decide +kernel
theorem dX1_origin_5 : decode cX1_origin 5 = .ok (.iload 4, 2) := by decide +kernel
theorem dX1_origin_7 : decode cX1_origin 7 = .ok (.invokevirtual 103, 3) := by decide +kernel
theorem dX1_origin_10 : decode cX1_origin 10 = .ok (.ifCond .eq 7, 3) := by decide +kernel
theorem dX1_origin_13 : decode cX1_origin 13 = .ok (.iconst 0, 1) := by decide +kernel
theorem dX1_origin_14 : decode cX1_origin 14 = .ok (.goto 4, 3) := by decide +kernel
theorem dX1_origin_17 : decode cX1_origin 17 = .ok (.iconst 1, 1) := by decide +kernel
theorem dX1_origin_18 : decode cX1_origin 18 = .ok (.invokevirtual 73, 3) := by decide +kernel
theorem dX1_origin_21 : decode cX1_origin 21 = .ok (.ifCond .eq 7, 3) := by decide +kernel
theorem dX1_origin_24 : decode cX1_origin 24 = .ok (.iconst 0, 1) := by decide +kernel
theorem dX1_origin_25 : decode cX1_origin 25 = .ok (.goto 12, 3) := by decide +kernel
theorem dX1_origin_28 : decode cX1_origin 28 = .ok (.aload_n 0, 1) := by decide +kernel
theorem dX1_origin_29 : decode cX1_origin 29 = .ok (.iload_n 1, 1) := by decide +kernel
theorem dX1_origin_30 : decode cX1_origin 30 = .ok (.iload_n 2, 1) := by decide +kernel
theorem dX1_origin_31 : decode cX1_origin 31 = .ok (.iload_n 3, 1) := by decide +kernel
theorem dX1_origin_32 : decode cX1_origin 32 = .ok (.iload 4, 2) := by decide +kernel
theorem dX1_origin_34 : decode cX1_origin 34 = .ok (.invokevirtual 97, 3) := by decide +kernel
theorem dX1_origin_37 : decode cX1_origin 37 = .ok (.ireturn, 1) := by decide +kernel
set_option maxRecDepth 20000 in
theorem ggX1_told_X1_isGood : GoodIn wsX1_told wsX1_isGood := goodIn_r _ [7, 8, 9, 10, 11, 6, 12, 32, 33, 34, 35, 36, 37, 38, 39, 40, 41, 42, 43, 44, 45, 46, 47, 48, 49] (by decide +kernel) (by decide +kernel)
set_option maxRecDepth 20000 in
theorem gX1_told_X1_isGood : GoodIn wsX1_told (wsV RX1 65 RX1 yX1_isGood wsX1_isGood) := goodIn_app (goodIn_of _ (by decide +kernel)) ggX1_told_X1_isGood
set_option maxRecDepth 20000 in
theorem ggX1_told_X1_fails : GoodIn wsX1_told wsX1_fails := goodIn_r _ [16, 17, 32, 33, 34, 35, 36, 37, 38, 39, 40, 41, 42, 43, 44, 45, 46, 47, 48, 49] (by decide +kernel) (by decide +kernel)
set_option maxRecDepth 20000 in
theorem gX1_told_X1_fails : GoodIn wsX1_told (wsV RX1 73 RX1 yX1_fails wsX1_fails) := goodIn_app (goodIn_of _ (by decide +kernel)) ggX1_told_X1_fails
set_option maxRecDepth 20000 in
theorem ggX1_told_X1_isHolding : GoodIn wsX1_told wsX1_isHolding := goodIn_r _ [21, 2, 22, 23, 24, 25, 26, 27, 6, 28, 1, 29, 30, 31, 32, 33, 34, 35, 36, 37, 38, 39, 40, 41, 42, 43, 44, 45, 46, 47, 48, 49] (by decide +kernel) (by decide +kernel)
set_option maxRecDepth 20000 in
theorem gX1_told_X1_isHolding : GoodIn wsX1_told (wsV RX1 94 RX1 yX1_isHolding wsX1_isHolding) := goodIn_app (goodIn_of _ (by decide +kernel)) ggX1_told_X1_isHolding
theorem dX1_told_0 : decode cX1_told 0 = .ok (.aload_n 0, 1) := by decide +kernel
theorem dX1_told_1 : decode cX1_told 1 = .ok (.aload_n 0, 1) := by decide +kernel
theorem dX1_told_2 : decode cX1_told 2 = .ok (.iload_n 1, 1) := by decide +kernel
theorem dX1_told_3 : decode cX1_told 3 = .ok (.invokevirtual 65, 3) := by decide +kernel
theorem dX1_told_6 : decode cX1_told 6 = .ok (.ifCond .eq 7, 3) := by decide +kernel
theorem dX1_told_9 : decode cX1_told 9 = .ok (.iconst 0, 1) := by decide +kernel
theorem dX1_told_10 : decode cX1_told 10 = .ok (.goto 4, 3) := by decide +kernel
theorem dX1_told_13 : decode cX1_told 13 = .ok (.iconst 1, 1) := by decide +kernel
theorem dX1_told_14 : decode cX1_told 14 = .ok (.invokevirtual 73, 3) := by decide +kernel
theorem dX1_told_17 : decode cX1_told 17 = .ok (.ifCond .eq 5, 3) := by decide +kernel
theorem dX1_told_20 : decode cX1_told 20 = .ok (.iconst 0, 1) := by decide +kernel
theorem dX1_told_21 : decode cX1_told 21 = .ok (.ireturn, 1) := by decide +kernel
theorem dX1_told_22 : decode cX1_told 22 = .ok (.iconst 0, 1) := by decide +kernel
theorem dX1_told_23 : decode cX1_told 23 = .ok (.istore_n 2, 1) := by decide +kernel
theorem dX1_told_24 : decode cX1_told 24 = .ok (.iconst 0, 1) := by decide +kernel
theorem dX1_told_25 : decode cX1_told 25 = .ok (.istore_n 3, 1) := by decide +kernel
theorem dX1_told_26 : decode cX1_told 26 = .ok (.iload_n 3, 1) := by decide +kernel
theorem dX1_told_27 : decode cX1_told 27 = .ok (.aload_n 0, 1) := by decide +kernel
theorem dX1_told_28 : decode cX1_told 28 = .ok (.getfield 81, 3) := by decide +kernel
theorem dX1_told_31 : decode cX1_told 31 = .ok (.if_icmp .ge 35, 3) := by decide +kernel
theorem dX1_told_34 : decode cX1_told 34 = .ok (.iload_n 2, 1) := by decide +kernel
theorem dX1_told_35 : decode cX1_told 35 = .ok (.aload_n 0, 1) := by decide +kernel
theorem dX1_told_36 : decode cX1_told 36 = .ok (.getfield 23, 3) := by decide +kernel
theorem dX1_told_39 : decode cX1_told 39 = .ok (.iload_n 3, 1) := by decide +kernel
theorem dX1_told_40 : decode cX1_told 40 = .ok (.iaload, 1) := by decide +kernel
theorem dX1_told_41 : decode cX1_told 41 = .ok (.iload_n 1, 1) := by decide +kernel
theorem dX1_told_42 : decode cX1_told 42 = .ok (.if_icmp .ne 15, 3) := by decide +kernel
theorem dX1_told_45 : decode cX1_told 45 = .ok (.aload_n 0, 1) := by decide +kernel
theorem dX1_told_46 : decode cX1_told 46 = .ok (.iload_n 3, 1) := by decide +kernel
theorem dX1_told_47 : decode cX1_told 47 = .ok (.invokevirtual 94, 3) := by decide +kernel
theorem dX1_told_50 : decode cX1_told 50 = .ok (.ifCond .eq 7, 3) := by decide +kernel
theorem dX1_told_53 : decode cX1_told 53 = .ok (.iconst 1, 1) := by decide +kernel
theorem dX1_told_54 : decode cX1_told 54 = .ok (.goto 4, 3) := by decide +kernel
theorem dX1_told_57 : decode cX1_told 57 = .ok (.iconst 0, 1) := by decide +kernel
theorem dX1_told_58 : decode cX1_told 58 = .ok (.iadd, 1) := by decide +kernel
theorem dX1_told_59 : decode cX1_told 59 = .ok (.istore_n 2, 1) := by decide +kernel
theorem dX1_told_60 : decode cX1_told 60 = .ok (.iinc 3 1, 3) := by decide +kernel
theorem dX1_told_63 : decode cX1_told 63 = .ok (.goto (-37), 3) := by decide +kernel
theorem dX1_told_66 : decode cX1_told 66 = .ok (.iload_n 2, 1) := by decide +kernel
theorem dX1_told_67 : decode cX1_told 67 = .ok (.ireturn, 1) := by decide +kernel
set_option maxRecDepth 20000 in
theorem ggX1_toggleAsked_X1_isShop : GoodIn wsX1_toggleAsked wsX1_isShop := goodIn_r _ [5, 6, 7, 4, 8] (by decide +kernel) (by decide +kernel)
set_option maxRecDepth 20000 in
theorem gX1_toggleAsked_X1_isShop : GoodIn wsX1_toggleAsked (va_wsS RX1 100 yX1_isShop wsX1_isShop) := goodIn_app (goodIn_of _ (by decide +kernel)) ggX1_toggleAsked_X1_isShop
set_option maxRecDepth 20000 in
theorem ggX1_toggleAsked_X1_isIn : GoodIn wsX1_toggleAsked wsX1_isIn := goodIn_r _ [8] (by decide +kernel) (by decide +kernel)
set_option maxRecDepth 20000 in
theorem gX1_toggleAsked_X1_isIn : GoodIn wsX1_toggleAsked (va_wsS RX1 61 yX1_isIn wsX1_isIn) := goodIn_app (goodIn_of _ (by decide +kernel)) ggX1_toggleAsked_X1_isIn
set_option maxRecDepth 20000 in
theorem ggX1_toggleAsked_X1_fails : GoodIn wsX1_toggleAsked wsX1_fails := goodIn_r _ [12, 13, 14, 15, 16, 17, 18, 19, 20, 21, 22, 23, 24, 25, 26, 27, 28, 29, 30, 31] (by decide +kernel) (by decide +kernel)
set_option maxRecDepth 20000 in
theorem gX1_toggleAsked_X1_fails : GoodIn wsX1_toggleAsked (wsV RX1 73 RX1 yX1_fails wsX1_fails) := goodIn_app (goodIn_of _ (by decide +kernel)) ggX1_toggleAsked_X1_fails
theorem dX1_toggleAsked_0 : decode cX1_toggleAsked 0 = .ok (.aload_n 0, 1) := by decide +kernel
theorem dX1_toggleAsked_1 : decode cX1_toggleAsked 1 = .ok (.iload_n 1, 1) := by decide +kernel
theorem dX1_toggleAsked_2 : decode cX1_toggleAsked 2 = .ok (.invokestatic 100, 3) := by decide +kernel
theorem dX1_toggleAsked_5 : decode cX1_toggleAsked 5 = .ok (.ifCond .eq 16, 3) := by decide +kernel
theorem dX1_toggleAsked_8 : decode cX1_toggleAsked 8 = .ok (.iload_n 2, 1) := by decide +kernel
theorem dX1_toggleAsked_9 : decode cX1_toggleAsked 9 = .ok (.iconst 0, 1) := by decide +kernel
theorem dX1_toggleAsked_10 : decode cX1_toggleAsked 10 = .ok (.iconst 5, 1) := by decide +kernel
theorem dX1_toggleAsked_11 : decode cX1_toggleAsked 11 = .ok (.invokestatic 61, 3) := by decide +kernel
theorem dX1_toggleAsked_14 : decode cX1_toggleAsked 14 = .ok (.ifCond .eq 7, 3) := by decide +kernel
theorem dX1_toggleAsked_17 : decode cX1_toggleAsked 17 = .ok (.iconst 0, 1) := by decide +kernel
theorem dX1_toggleAsked_18 : decode cX1_toggleAsked 18 = .ok (.goto 4, 3) := by decide +kernel
theorem dX1_toggleAsked_21 : decode cX1_toggleAsked 21 = .ok (.iconst 1, 1) := by decide +kernel
theorem dX1_toggleAsked_22 : decode cX1_toggleAsked 22 = .ok (.invokevirtual 73, 3) := by decide +kernel
theorem dX1_toggleAsked_25 : decode cX1_toggleAsked 25 = .ok (.ifCond .eq 5, 3) := by decide +kernel
theorem dX1_toggleAsked_28 : decode cX1_toggleAsked 28 = .ok (.iconst 0, 1) := by decide +kernel
theorem dX1_toggleAsked_29 : decode cX1_toggleAsked 29 = .ok (.ireturn, 1) := by decide +kernel
theorem dX1_toggleAsked_30 : decode cX1_toggleAsked 30 = .ok (.bipush 6, 2) := by decide +kernel
theorem dX1_toggleAsked_32 : decode cX1_toggleAsked 32 = .ok (.iload_n 1, 1) := by decide +kernel
theorem dX1_toggleAsked_33 : decode cX1_toggleAsked 33 = .ok (.imul, 1) := by decide +kernel
theorem dX1_toggleAsked_34 : decode cX1_toggleAsked 34 = .ok (.iload_n 2, 1) := by decide +kernel
theorem dX1_toggleAsked_35 : decode cX1_toggleAsked 35 = .ok (.iadd, 1) := by decide +kernel
theorem dX1_toggleAsked_36 : decode cX1_toggleAsked 36 = .ok (.istore_n 3, 1) := by decide +kernel
theorem dX1_toggleAsked_37 : decode cX1_toggleAsked 37 = .ok (.aload_n 0, 1) := by decide +kernel
theorem dX1_toggleAsked_38 : decode cX1_toggleAsked 38 = .ok (.getfield 44, 3) := by decide +kernel
theorem dX1_toggleAsked_41 : decode cX1_toggleAsked 41 = .ok (.iload_n 3, 1) := by decide +kernel
theorem dX1_toggleAsked_42 : decode cX1_toggleAsked 42 = .ok (.aload_n 0, 1) := by decide +kernel
theorem dX1_toggleAsked_43 : decode cX1_toggleAsked 43 = .ok (.getfield 44, 3) := by decide +kernel
theorem dX1_toggleAsked_46 : decode cX1_toggleAsked 46 = .ok (.iload_n 3, 1) := by decide +kernel
theorem dX1_toggleAsked_47 : decode cX1_toggleAsked 47 = .ok (.baload, 1) := by decide +kernel
theorem dX1_toggleAsked_48 : decode cX1_toggleAsked 48 = .ok (.ifCond .ne 7, 3) := by decide +kernel
theorem dX1_toggleAsked_51 : decode cX1_toggleAsked 51 = .ok (.iconst 1, 1) := by decide +kernel
theorem dX1_toggleAsked_52 : decode cX1_toggleAsked 52 = .ok (.goto 4, 3) := by decide +kernel
theorem dX1_toggleAsked_55 : decode cX1_toggleAsked 55 = .ok (.iconst 0, 1) := by decide +kernel
theorem dX1_toggleAsked_56 : decode cX1_toggleAsked 56 = .ok (.bastore, 1) := by decide +kernel
theorem dX1_toggleAsked_57 : decode cX1_toggleAsked 57 = .ok (.aload_n 0, 1) := by decide +kernel
theorem dX1_toggleAsked_58 : decode cX1_toggleAsked 58 = .ok (.getfield 44, 3) := by decide +kernel
theorem dX1_toggleAsked_61 : decode cX1_toggleAsked 61 = .ok (.iload_n 3, 1) := by decide +kernel
theorem dX1_toggleAsked_62 : decode cX1_toggleAsked 62 = .ok (.baload, 1) := by decide +kernel
theorem dX1_toggleAsked_63 : decode cX1_toggleAsked 63 = .ok (.ireturn, 1) := by decide +kernel
set_option maxRecDepth 20000 in
theorem ggX1_lacks_X1_valueOf : GoodIn wsX1_lacks wsX1_valueOf := goodIn_r _ [6, 7, 8, 9, 10, 5, 11, 12, 13, 14, 15, 16, 17, 18, 19, 20, 21, 22, 23, 24, 25, 26, 27, 28, 29, 30, 31, 32, 33, 34, 35, 36, 37, 38, 39, 40, 41, 42] (by decide +kernel) (by decide +kernel)
set_option maxRecDepth 20000 in
theorem gX1_lacks_X1_valueOf : GoodIn wsX1_lacks (wsV RX1 107 RX1 yX1_valueOf wsX1_valueOf) := goodIn_app (goodIn_of _ (by decide +kernel)) ggX1_lacks_X1_valueOf
theorem dX1_lacks_0 : decode cX1_lacks 0 = .ok (.iconst 0, 1) := by decide +kernel
theorem dX1_lacks_1 : decode cX1_lacks 1 = .ok (.istore 4, 2) := by decide +kernel
theorem dX1_lacks_3 : decode cX1_lacks 3 = .ok (.iconst 0, 1) := by decide +kernel
theorem dX1_lacks_4 : decode cX1_lacks 4 = .ok (.istore 5, 2) := by decide +kernel
theorem dX1_lacks_6 : decode cX1_lacks 6 = .ok (.iload 5, 2) := by decide +kernel
theorem dX1_lacks_8 : decode cX1_lacks 8 = .ok (.bipush 6, 2) := by decide +kernel
theorem dX1_lacks_10 : decode cX1_lacks 10 = .ok (.if_icmp .ge 50, 3) := by decide +kernel
theorem dX1_lacks_13 : decode cX1_lacks 13 = .ok (.iload 4, 2) := by decide +kernel
theorem dX1_lacks_15 : decode cX1_lacks 15 = .ok (.aload_n 0, 1) := by decide +kernel
theorem dX1_lacks_16 : decode cX1_lacks 16 = .ok (.getfield 44, 3) := by decide +kernel
theorem dX1_lacks_19 : decode cX1_lacks 19 = .ok (.bipush 6, 2) := by decide +kernel
theorem dX1_lacks_21 : decode cX1_lacks 21 = .ok (.iload_n 2, 1) := by decide +kernel
theorem dX1_lacks_22 : decode cX1_lacks 22 = .ok (.imul, 1) := by decide +kernel
theorem dX1_lacks_23 : decode cX1_lacks 23 = .ok (.iload 5, 2) := by decide +kernel
theorem dX1_lacks_25 : decode cX1_lacks 25 = .ok (.iadd, 1) := by decide +kernel
theorem dX1_lacks_26 : decode cX1_lacks 26 = .ok (.baload, 1) := by decide +kernel
theorem dX1_lacks_27 : decode cX1_lacks 27 = .ok (.ifCond .eq 23, 3) := by decide +kernel
theorem dX1_lacks_30 : decode cX1_lacks 30 = .ok (.aload_n 0, 1) := by decide +kernel
theorem dX1_lacks_31 : decode cX1_lacks 31 = .ok (.iload_n 1, 1) := by decide +kernel
theorem dX1_lacks_32 : decode cX1_lacks 32 = .ok (.iload 5, 2) := by decide +kernel
theorem dX1_lacks_34 : decode cX1_lacks 34 = .ok (.iload_n 2, 1) := by decide +kernel
theorem dX1_lacks_35 : decode cX1_lacks 35 = .ok (.iload_n 3, 1) := by decide +kernel
theorem dX1_lacks_36 : decode cX1_lacks 36 = .ok (.invokevirtual 107, 3) := by decide +kernel
theorem dX1_lacks_39 : decode cX1_lacks 39 = .ok (.iconst (-1), 1) := by decide +kernel
theorem dX1_lacks_40 : decode cX1_lacks 40 = .ok (.if_icmp .ne 10, 3) := by decide +kernel
theorem dX1_lacks_43 : decode cX1_lacks 43 = .ok (.iconst 1, 1) := by decide +kernel
theorem dX1_lacks_44 : decode cX1_lacks 44 = .ok (.iload 5, 2) := by decide +kernel
theorem dX1_lacks_46 : decode cX1_lacks 46 = .ok (.ishl, 1) := by decide +kernel
theorem dX1_lacks_47 : decode cX1_lacks 47 = .ok (.goto 4, 3) := by decide +kernel
theorem dX1_lacks_50 : decode cX1_lacks 50 = .ok (.iconst 0, 1) := by decide +kernel
theorem dX1_lacks_51 : decode cX1_lacks 51 = .ok (.ior, 1) := by decide +kernel
theorem dX1_lacks_52 : decode cX1_lacks 52 = .ok (.istore 4, 2) := by decide +kernel
theorem dX1_lacks_54 : decode cX1_lacks 54 = .ok (.iinc 5 1, 3) := by decide +kernel
theorem dX1_lacks_57 : decode cX1_lacks 57 = .ok (.goto (-51), 3) := by decide +kernel
theorem dX1_lacks_60 : decode cX1_lacks 60 = .ok (.iload 4, 2) := by decide +kernel
theorem dX1_lacks_62 : decode cX1_lacks 62 = .ok (.ireturn, 1) := by decide +kernel
set_option maxRecDepth 20000 in
theorem ggX1_missing_X1_isPlace : GoodIn wsX1_missing wsX1_isPlace := goodIn_r _ [5, 6, 7, 8, 4, 9, 10, 11, 12, 13, 14, 15, 16, 17, 50, 51, 52, 53, 54, 55, 56, 57, 58, 59, 60, 61, 62, 63, 64, 65, 66, 67] (by decide +kernel) (by decide +kernel)
set_option maxRecDepth 20000 in
theorem gX1_missing_X1_isPlace : GoodIn wsX1_missing (wsV RX1 103 RX1 yX1_isPlace wsX1_isPlace) := goodIn_app (goodIn_of _ (by decide +kernel)) ggX1_missing_X1_isPlace
set_option maxRecDepth 20000 in
theorem ggX1_missing_X1_fails : GoodIn wsX1_missing wsX1_fails := goodIn_r _ [21, 22, 50, 51, 52, 53, 54, 55, 56, 57, 58, 59, 60, 61, 62, 63, 64, 65, 66, 67] (by decide +kernel) (by decide +kernel)
set_option maxRecDepth 20000 in
theorem gX1_missing_X1_fails : GoodIn wsX1_missing (wsV RX1 73 RX1 yX1_fails wsX1_fails) := goodIn_app (goodIn_of _ (by decide +kernel)) ggX1_missing_X1_fails
set_option maxRecDepth 20000 in
theorem ggX1_missing_X1_lacks : GoodIn wsX1_missing wsX1_lacks := goodIn_r _ [26, 27, 28, 29, 30, 4, 31, 32, 33, 34, 35, 36, 37, 38, 39, 40, 41, 42, 43, 44, 45, 46, 47, 48, 49, 50, 51, 52, 53, 54, 55, 56, 57, 58, 59, 60, 61, 62, 63, 64, 65, 66, 67] (by decide +kernel) (by decide +kernel)
set_option maxRecDepth 20000 in
theorem gX1_missing_X1_lacks : GoodIn wsX1_missing (wsV RX1 110 RX1 yX1_lacks wsX1_lacks) := goodIn_app (goodIn_of _ (by decide +kernel)) ggX1_missing_X1_lacks
theorem dX1_missing_0 : decode cX1_missing 0 = .ok (.aload_n 0, 1) := by decide +kernel
theorem dX1_missing_1 : decode cX1_missing 1 = .ok (.aload_n 0, 1) := by decide +kernel
theorem dX1_missing_2 : decode cX1_missing 2 = .ok (.iload_n 1, 1) := by decide +kernel
theorem dX1_missing_3 : decode cX1_missing 3 = .ok (.iconst 0, 1) := by decide +kernel
theorem dX1_missing_4 : decode cX1_missing 4 = .ok (.iload_n 2, 1) := by decide +kernel
theorem dX1_missing_5 : decode cX1_missing 5 = .ok (.iload_n 3, 1) := by decide +kernel
theorem dX1_missing_6 : decode cX1_missing 6 = .ok (.invokevirtual 103, 3) := by decide +kernel
theorem dX1_missing_9 : decode cX1_missing 9 = .ok (.ifCond .eq 7, 3) := by decide +kernel
theorem dX1_missing_12 : decode cX1_missing 12 = .ok (.iconst 0, 1) := by decide +kernel
theorem dX1_missing_13 : decode cX1_missing 13 = .ok (.goto 4, 3) := by decide +kernel
theorem dX1_missing_16 : decode cX1_missing 16 = .ok (.iconst 1, 1) := by decide +kernel
theorem dX1_missing_17 : decode cX1_missing 17 = .ok (.invokevirtual 73, 3) := by decide +kernel
theorem dX1_missing_20 : decode cX1_missing 20 = .ok (.ifCond .eq 7, 3) := by decide +kernel
theorem dX1_missing_23 : decode cX1_missing 23 = .ok (.iconst 0, 1) := by decide +kernel
theorem dX1_missing_24 : decode cX1_missing 24 = .ok (.goto 10, 3) := by decide +kernel
theorem dX1_missing_27 : decode cX1_missing 27 = .ok (.aload_n 0, 1) := by decide +kernel
theorem dX1_missing_28 : decode cX1_missing 28 = .ok (.iload_n 1, 1) := by decide +kernel
theorem dX1_missing_29 : decode cX1_missing 29 = .ok (.iload_n 2, 1) := by decide +kernel
theorem dX1_missing_30 : decode cX1_missing 30 = .ok (.iload_n 3, 1) := by decide +kernel
theorem dX1_missing_31 : decode cX1_missing 31 = .ok (.invokevirtual 110, 3) := by decide +kernel
theorem dX1_missing_34 : decode cX1_missing 34 = .ok (.ireturn, 1) := by decide +kernel
set_option maxRecDepth 20000 in
theorem ggX1_complete_X1_isShop : GoodIn wsX1_complete wsX1_isShop := goodIn_r _ [6, 7, 8, 5, 9] (by decide +kernel) (by decide +kernel)
set_option maxRecDepth 20000 in
theorem gX1_complete_X1_isShop : GoodIn wsX1_complete (va_wsS RX1 100 yX1_isShop wsX1_isShop) := goodIn_app (goodIn_of _ (by decide +kernel)) ggX1_complete_X1_isShop
set_option maxRecDepth 20000 in
theorem ggX1_complete_X1_fails : GoodIn wsX1_complete wsX1_fails := goodIn_r _ [13, 14, 42, 43, 44, 45, 46, 47, 48, 49, 50, 51, 52, 53, 54, 55, 56, 57, 58, 59] (by decide +kernel) (by decide +kernel)
set_option maxRecDepth 20000 in
theorem gX1_complete_X1_fails : GoodIn wsX1_complete (wsV RX1 73 RX1 yX1_fails wsX1_fails) := goodIn_app (goodIn_of _ (by decide +kernel)) ggX1_complete_X1_fails
set_option maxRecDepth 20000 in
theorem ggX1_complete_X1_lacks : GoodIn wsX1_complete wsX1_lacks := goodIn_r _ [18, 19, 20, 21, 22, 5, 23, 24, 25, 26, 27, 28, 29, 30, 31, 32, 33, 34, 35, 36, 37, 38, 39, 40, 41, 42, 43, 44, 45, 46, 47, 48, 49, 50, 51, 52, 53, 54, 55, 56, 57, 58, 59] (by decide +kernel) (by decide +kernel)
set_option maxRecDepth 20000 in
theorem gX1_complete_X1_lacks : GoodIn wsX1_complete (wsV RX1 110 RX1 yX1_lacks wsX1_lacks) := goodIn_app (goodIn_of _ (by decide +kernel)) ggX1_complete_X1_lacks
theorem dX1_complete_0 : decode cX1_complete 0 = .ok (.aload_n 0, 1) := by decide +kernel
theorem dX1_complete_1 : decode cX1_complete 1 = .ok (.iload_n 1, 1) := by decide +kernel
theorem dX1_complete_2 : decode cX1_complete 2 = .ok (.invokestatic 100, 3) := by decide +kernel
theorem dX1_complete_5 : decode cX1_complete 5 = .ok (.ifCond .eq 7, 3) := by decide +kernel
theorem dX1_complete_8 : decode cX1_complete 8 = .ok (.iconst 0, 1) := by decide +kernel
theorem dX1_complete_9 : decode cX1_complete 9 = .ok (.goto 4, 3) := by decide +kernel
theorem dX1_complete_12 : decode cX1_complete 12 = .ok (.iconst 1, 1) := by decide +kernel
theorem dX1_complete_13 : decode cX1_complete 13 = .ok (.invokevirtual 73, 3) := by decide +kernel
theorem dX1_complete_16 : decode cX1_complete 16 = .ok (.ifCond .eq 5, 3) := by decide +kernel
theorem dX1_complete_19 : decode cX1_complete 19 = .ok (.iconst 0, 1) := by decide +kernel
theorem dX1_complete_20 : decode cX1_complete 20 = .ok (.ireturn, 1) := by decide +kernel
theorem dX1_complete_21 : decode cX1_complete 21 = .ok (.iconst 0, 1) := by decide +kernel
theorem dX1_complete_22 : decode cX1_complete 22 = .ok (.istore_n 2, 1) := by decide +kernel
theorem dX1_complete_23 : decode cX1_complete 23 = .ok (.iconst 0, 1) := by decide +kernel
theorem dX1_complete_24 : decode cX1_complete 24 = .ok (.istore_n 3, 1) := by decide +kernel
theorem dX1_complete_25 : decode cX1_complete 25 = .ok (.iload_n 3, 1) := by decide +kernel
theorem dX1_complete_26 : decode cX1_complete 26 = .ok (.aload_n 0, 1) := by decide +kernel
theorem dX1_complete_27 : decode cX1_complete 27 = .ok (.getfield 58, 3) := by decide +kernel
theorem dX1_complete_30 : decode cX1_complete 30 = .ok (.if_icmp .ge 71, 3) := by decide +kernel
theorem dX1_complete_33 : decode cX1_complete 33 = .ok (.iconst 0, 1) := by decide +kernel
theorem dX1_complete_34 : decode cX1_complete 34 = .ok (.istore 4, 2) := by decide +kernel
theorem dX1_complete_36 : decode cX1_complete 36 = .ok (.iconst 0, 1) := by decide +kernel
theorem dX1_complete_37 : decode cX1_complete 37 = .ok (.istore 5, 2) := by decide +kernel
theorem dX1_complete_39 : decode cX1_complete 39 = .ok (.iload 5, 2) := by decide +kernel
theorem dX1_complete_41 : decode cX1_complete 41 = .ok (.iconst 3, 1) := by decide +kernel
theorem dX1_complete_42 : decode cX1_complete 42 = .ok (.if_icmp .ge 31, 3) := by decide +kernel
theorem dX1_complete_45 : decode cX1_complete 45 = .ok (.aload_n 0, 1) := by decide +kernel
theorem dX1_complete_46 : decode cX1_complete 46 = .ok (.getfield 7, 3) := by decide +kernel
theorem dX1_complete_49 : decode cX1_complete 49 = .ok (.iload_n 3, 1) := by decide +kernel
theorem dX1_complete_50 : decode cX1_complete 50 = .ok (.baload, 1) := by decide +kernel
theorem dX1_complete_51 : decode cX1_complete 51 = .ok (.ifCond .eq 22, 3) := by decide +kernel
theorem dX1_complete_54 : decode cX1_complete 54 = .ok (.iload 4, 2) := by decide +kernel
theorem dX1_complete_56 : decode cX1_complete 56 = .ok (.aload_n 0, 1) := by decide +kernel
theorem dX1_complete_57 : decode cX1_complete 57 = .ok (.iload_n 3, 1) := by decide +kernel
theorem dX1_complete_58 : decode cX1_complete 58 = .ok (.iload_n 1, 1) := by decide +kernel
theorem dX1_complete_59 : decode cX1_complete 59 = .ok (.iload 5, 2) := by decide +kernel
theorem dX1_complete_61 : decode cX1_complete 61 = .ok (.invokevirtual 110, 3) := by decide +kernel
theorem dX1_complete_64 : decode cX1_complete 64 = .ok (.ior, 1) := by decide +kernel
theorem dX1_complete_65 : decode cX1_complete 65 = .ok (.istore 4, 2) := by decide +kernel
theorem dX1_complete_67 : decode cX1_complete 67 = .ok (.iinc 5 1, 3) := by decide +kernel
theorem dX1_complete_70 : decode cX1_complete 70 = .ok (.goto (-31), 3) := by decide +kernel
theorem dX1_complete_73 : decode cX1_complete 73 = .ok (.iload_n 2, 1) := by decide +kernel
theorem dX1_complete_74 : decode cX1_complete 74 = .ok (.aload_n 0, 1) := by decide +kernel
theorem dX1_complete_75 : decode cX1_complete 75 = .ok (.getfield 7, 3) := by decide +kernel
theorem dX1_complete_78 : decode cX1_complete 78 = .ok (.iload_n 3, 1) := by decide +kernel
theorem dX1_complete_79 : decode cX1_complete 79 = .ok (.baload, 1) := by decide +kernel
theorem dX1_complete_80 : decode cX1_complete 80 = .ok (.ifCond .eq 12, 3) := by decide +kernel
theorem dX1_complete_83 : decode cX1_complete 83 = .ok (.iload 4, 2) := by decide +kernel
theorem dX1_complete_85 : decode cX1_complete 85 = .ok (.ifCond .ne 7, 3) := by decide +kernel
theorem dX1_complete_88 : decode cX1_complete 88 = .ok (.iconst 1, 1) := by decide +kernel
theorem dX1_complete_89 : decode cX1_complete 89 = .ok (.goto 4, 3) := by decide +kernel
theorem dX1_complete_92 : decode cX1_complete 92 = .ok (.iconst 0, 1) := by decide +kernel
theorem dX1_complete_93 : decode cX1_complete 93 = .ok (.iadd, 1) := by decide +kernel
theorem dX1_complete_94 : decode cX1_complete 94 = .ok (.istore_n 2, 1) := by decide +kernel
theorem dX1_complete_95 : decode cX1_complete 95 = .ok (.iinc 3 1, 3) := by decide +kernel
theorem dX1_complete_98 : decode cX1_complete 98 = .ok (.goto (-73), 3) := by decide +kernel
theorem dX1_complete_101 : decode cX1_complete 101 = .ok (.iload_n 2, 1) := by decide +kernel
theorem dX1_complete_102 : decode cX1_complete 102 = .ok (.ireturn, 1) := by decide +kernel
theorem dX1_bundle_0 : decode cX1_bundle 0 = .ok (.lconst 0, 1) := by decide +kernel
theorem dX1_bundle_1 : decode cX1_bundle 1 = .ok (.lstore_n 2, 1) := by decide +kernel
theorem dX1_bundle_2 : decode cX1_bundle 2 = .ok (.iconst 0, 1) := by decide +kernel
theorem dX1_bundle_3 : decode cX1_bundle 3 = .ok (.istore 4, 2) := by decide +kernel
theorem dX1_bundle_5 : decode cX1_bundle 5 = .ok (.iconst 1, 1) := by decide +kernel
theorem dX1_bundle_6 : decode cX1_bundle 6 = .ok (.istore 5, 2) := by decide +kernel
theorem dX1_bundle_8 : decode cX1_bundle 8 = .ok (.iconst 0, 1) := by decide +kernel
theorem dX1_bundle_9 : decode cX1_bundle 9 = .ok (.istore 6, 2) := by decide +kernel
theorem dX1_bundle_11 : decode cX1_bundle 11 = .ok (.iload 6, 2) := by decide +kernel
theorem dX1_bundle_13 : decode cX1_bundle 13 = .ok (.iload_n 1, 1) := by decide +kernel
theorem dX1_bundle_14 : decode cX1_bundle 14 = .ok (.if_icmp .ge 99, 3) := by decide +kernel
theorem dX1_bundle_17 : decode cX1_bundle 17 = .ok (.aload_n 0, 1) := by decide +kernel
theorem dX1_bundle_18 : decode cX1_bundle 18 = .ok (.getfield 20, 3) := by decide +kernel
theorem dX1_bundle_21 : decode cX1_bundle 21 = .ok (.bipush 16, 2) := by decide +kernel
theorem dX1_bundle_23 : decode cX1_bundle 23 = .ok (.iload_n 1, 1) := by decide +kernel
theorem dX1_bundle_24 : decode cX1_bundle 24 = .ok (.imul, 1) := by decide +kernel
theorem dX1_bundle_25 : decode cX1_bundle 25 = .ok (.iload 6, 2) := by decide +kernel
theorem dX1_bundle_27 : decode cX1_bundle 27 = .ok (.iadd, 1) := by decide +kernel
theorem dX1_bundle_28 : decode cX1_bundle 28 = .ok (.iaload, 1) := by decide +kernel
theorem dX1_bundle_29 : decode cX1_bundle 29 = .ok (.istore 7, 2) := by decide +kernel
theorem dX1_bundle_31 : decode cX1_bundle 31 = .ok (.iload 4, 2) := by decide +kernel
theorem dX1_bundle_33 : decode cX1_bundle 33 = .ok (.ifCond .ne 8, 3) := by decide +kernel
theorem dX1_bundle_36 : decode cX1_bundle 36 = .ok (.iload 7, 2) := by decide +kernel
theorem dX1_bundle_38 : decode cX1_bundle 38 = .ok (.ifCond .le 7, 3) := by decide +kernel
theorem dX1_bundle_41 : decode cX1_bundle 41 = .ok (.iconst 1, 1) := by decide +kernel
theorem dX1_bundle_42 : decode cX1_bundle 42 = .ok (.goto 4, 3) := by decide +kernel
theorem dX1_bundle_45 : decode cX1_bundle 45 = .ok (.iconst 0, 1) := by decide +kernel
theorem dX1_bundle_46 : decode cX1_bundle 46 = .ok (.istore 4, 2) := by decide +kernel
theorem dX1_bundle_48 : decode cX1_bundle 48 = .ok (.iload 5, 2) := by decide +kernel
theorem dX1_bundle_50 : decode cX1_bundle 50 = .ok (.ifCond .eq 26, 3) := by decide +kernel
theorem dX1_bundle_53 : decode cX1_bundle 53 = .ok (.iload 7, 2) := by decide +kernel
theorem dX1_bundle_55 : decode cX1_bundle 55 = .ok (.ifCond .eq 17, 3) := by decide +kernel
theorem dX1_bundle_58 : decode cX1_bundle 58 = .ok (.aload_n 0, 1) := by decide +kernel
theorem dX1_bundle_59 : decode cX1_bundle 59 = .ok (.getfield 50, 3) := by decide +kernel
theorem dX1_bundle_62 : decode cX1_bundle 62 = .ok (.iload 6, 2) := by decide +kernel
theorem dX1_bundle_64 : decode cX1_bundle 64 = .ok (.laload, 1) := by decide +kernel
theorem dX1_bundle_65 : decode cX1_bundle 65 = .ok (.ldc2_w 114, 3) := by decide +kernel
theorem dX1_bundle_68 : decode cX1_bundle 68 = .ok (.lcmp, 1) := by decide +kernel
theorem dX1_bundle_69 : decode cX1_bundle 69 = .ok (.ifCond .eq 7, 3) := by decide +kernel
theorem dX1_bundle_72 : decode cX1_bundle 72 = .ok (.iconst 1, 1) := by decide +kernel
theorem dX1_bundle_73 : decode cX1_bundle 73 = .ok (.goto 4, 3) := by decide +kernel
theorem dX1_bundle_76 : decode cX1_bundle 76 = .ok (.iconst 0, 1) := by decide +kernel
theorem dX1_bundle_77 : decode cX1_bundle 77 = .ok (.istore 5, 2) := by decide +kernel
theorem dX1_bundle_79 : decode cX1_bundle 79 = .ok (.lload_n 2, 1) := by decide +kernel
theorem dX1_bundle_80 : decode cX1_bundle 80 = .ok (.iload 7, 2) := by decide +kernel
theorem dX1_bundle_82 : decode cX1_bundle 82 = .ok (.ifCond .le 22, 3) := by decide +kernel
theorem dX1_bundle_85 : decode cX1_bundle 85 = .ok (.iload 5, 2) := by decide +kernel
theorem dX1_bundle_87 : decode cX1_bundle 87 = .ok (.ifCond .eq 17, 3) := by decide +kernel
theorem dX1_bundle_90 : decode cX1_bundle 90 = .ok (.iload 7, 2) := by decide +kernel
theorem dX1_bundle_92 : decode cX1_bundle 92 = .ok (.i2l, 1) := by decide +kernel
theorem dX1_bundle_93 : decode cX1_bundle 93 = .ok (.aload_n 0, 1) := by decide +kernel
theorem dX1_bundle_94 : decode cX1_bundle 94 = .ok (.getfield 50, 3) := by decide +kernel
theorem dX1_bundle_97 : decode cX1_bundle 97 = .ok (.iload 6, 2) := by decide +kernel
theorem dX1_bundle_99 : decode cX1_bundle 99 = .ok (.laload, 1) := by decide +kernel
theorem dX1_bundle_100 : decode cX1_bundle 100 = .ok (.lmul, 1) := by decide +kernel
theorem dX1_bundle_101 : decode cX1_bundle 101 = .ok (.goto 4, 3) := by decide +kernel
theorem dX1_bundle_104 : decode cX1_bundle 104 = .ok (.lconst 0, 1) := by decide +kernel
theorem dX1_bundle_105 : decode cX1_bundle 105 = .ok (.ladd, 1) := by decide +kernel
theorem dX1_bundle_106 : decode cX1_bundle 106 = .ok (.lstore_n 2, 1) := by decide +kernel
theorem dX1_bundle_107 : decode cX1_bundle 107 = .ok (.iinc 6 1, 3) := by decide +kernel
theorem dX1_bundle_110 : decode cX1_bundle 110 = .ok (.goto (-99), 3) := by decide +kernel
theorem dX1_bundle_113 : decode cX1_bundle 113 = .ok (.lload_n 2, 1) := by decide +kernel
theorem dX1_bundle_114 : decode cX1_bundle 114 = .ok (.bipush 100, 2) := by decide +kernel
theorem dX1_bundle_116 : decode cX1_bundle 116 = .ok (.aload_n 0, 1) := by decide +kernel
theorem dX1_bundle_117 : decode cX1_bundle 117 = .ok (.getfield 17, 3) := by decide +kernel
theorem dX1_bundle_120 : decode cX1_bundle 120 = .ok (.iload_n 1, 1) := by decide +kernel
theorem dX1_bundle_121 : decode cX1_bundle 121 = .ok (.iaload, 1) := by decide +kernel
theorem dX1_bundle_122 : decode cX1_bundle 122 = .ok (.isub, 1) := by decide +kernel
theorem dX1_bundle_123 : decode cX1_bundle 123 = .ok (.i2l, 1) := by decide +kernel
theorem dX1_bundle_124 : decode cX1_bundle 124 = .ok (.lmul, 1) := by decide +kernel
theorem dX1_bundle_125 : decode cX1_bundle 125 = .ok (.ldc2_w 116, 3) := by decide +kernel
theorem dX1_bundle_128 : decode cX1_bundle 128 = .ok (.ldiv, 1) := by decide +kernel
theorem dX1_bundle_129 : decode cX1_bundle 129 = .ok (.lstore 6, 2) := by decide +kernel
theorem dX1_bundle_131 : decode cX1_bundle 131 = .ok (.iload 4, 2) := by decide +kernel
theorem dX1_bundle_133 : decode cX1_bundle 133 = .ok (.ifCond .eq 22, 3) := by decide +kernel
theorem dX1_bundle_136 : decode cX1_bundle 136 = .ok (.iload 5, 2) := by decide +kernel
theorem dX1_bundle_138 : decode cX1_bundle 138 = .ok (.ifCond .eq 17, 3) := by decide +kernel
theorem dX1_bundle_141 : decode cX1_bundle 141 = .ok (.lload 6, 2) := by decide +kernel
theorem dX1_bundle_143 : decode cX1_bundle 143 = .ok (.ldc2_w 118, 3) := by decide +kernel
theorem dX1_bundle_146 : decode cX1_bundle 146 = .ok (.lcmp, 1) := by decide +kernel
theorem dX1_bundle_147 : decode cX1_bundle 147 = .ok (.ifCond .gt 8, 3) := by decide +kernel
theorem dX1_bundle_150 : decode cX1_bundle 150 = .ok (.lload 6, 2) := by decide +kernel
theorem dX1_bundle_152 : decode cX1_bundle 152 = .ok (.goto 6, 3) := by decide +kernel
theorem dX1_bundle_155 : decode cX1_bundle 155 = .ok (.ldc2_w 114, 3) := by decide +kernel
theorem dX1_bundle_158 : decode cX1_bundle 158 = .ok (.lreturn, 1) := by decide +kernel
set_option maxRecDepth 20000 in
theorem ggX1_price_X1_isGood : GoodIn wsX1_price wsX1_isGood := goodIn_r _ [8, 9, 1, 10, 11, 7, 12, 51, 52, 53, 54, 55, 56, 57, 58, 59, 60, 61, 62, 63, 64, 65, 66, 67, 68] (by decide +kernel) (by decide +kernel)
set_option maxRecDepth 20000 in
theorem gX1_price_X1_isGood : GoodIn wsX1_price (wsV RX1 65 RX1 yX1_isGood wsX1_isGood) := goodIn_app (goodIn_of _ (by decide +kernel)) ggX1_price_X1_isGood
set_option maxRecDepth 20000 in
theorem ggX1_price_X1_isShop : GoodIn wsX1_price wsX1_isShop := goodIn_r _ [15, 10, 11, 7, 12] (by decide +kernel) (by decide +kernel)
set_option maxRecDepth 20000 in
theorem gX1_price_X1_isShop : GoodIn wsX1_price (va_wsS RX1 100 yX1_isShop wsX1_isShop) := goodIn_app (goodIn_of _ (by decide +kernel)) ggX1_price_X1_isShop
set_option maxRecDepth 20000 in
theorem ggX1_price_X1_valueOf : GoodIn wsX1_price wsX1_valueOf := goodIn_r _ [19, 20, 21, 22, 23, 7, 24, 25, 26, 27, 28, 29, 30, 31, 32, 33, 34, 35, 36, 37, 51, 52, 53, 54, 55, 56, 57, 58, 59, 60, 61, 62, 63, 64, 65, 66, 67, 68] (by decide +kernel) (by decide +kernel)
set_option maxRecDepth 20000 in
theorem gX1_price_X1_valueOf : GoodIn wsX1_price (wsV RX1 107 RX1 yX1_valueOf wsX1_valueOf) := goodIn_app (goodIn_of _ (by decide +kernel)) ggX1_price_X1_valueOf
set_option maxRecDepth 20000 in
theorem ggX1_price_X1_bundle : GoodIn wsX1_price wsX1_bundle := goodIn_r _ [41, 42, 2, 3, 43, 44, 45, 51, 52, 53, 54, 55, 56, 57, 58, 59, 60, 61, 62, 63, 64, 65, 66, 67, 68] (by decide +kernel) (by decide +kernel)
set_option maxRecDepth 20000 in
theorem gX1_price_X1_bundle : GoodIn wsX1_price (wsV RX1 120 RX1 yX1_bundle wsX1_bundle) := goodIn_app (goodIn_of _ (by decide +kernel)) ggX1_price_X1_bundle
set_option maxRecDepth 20000 in
theorem ggX1_price_X1_fails : GoodIn wsX1_price wsX1_fails := goodIn_r _ [49, 50, 51, 52, 53, 54, 55, 56, 57, 58, 59, 60, 61, 62, 63, 64, 65, 66, 67, 68] (by decide +kernel) (by decide +kernel)
set_option maxRecDepth 20000 in
theorem gX1_price_X1_fails : GoodIn wsX1_price (wsV RX1 73 RX1 yX1_fails wsX1_fails) := goodIn_app (goodIn_of _ (by decide +kernel)) ggX1_price_X1_fails
theorem dX1_price_0 : decode cX1_price 0 = .ok (.aload_n 0, 1) := by decide +kernel
theorem dX1_price_1 : decode cX1_price 1 = .ok (.iload_n 1, 1) := by decide +kernel
theorem dX1_price_2 : decode cX1_price 2 = .ok (.invokevirtual 65, 3) := by decide +kernel
theorem dX1_price_5 : decode cX1_price 5 = .ok (.ifCond .eq 14, 3) := by decide +kernel
theorem dX1_price_8 : decode cX1_price 8 = .ok (.iload_n 2, 1) := by decide +kernel
theorem dX1_price_9 : decode cX1_price 9 = .ok (.invokestatic 100, 3) := by decide +kernel
theorem dX1_price_12 : decode cX1_price 12 = .ok (.ifCond .eq 7, 3) := by decide +kernel
theorem dX1_price_15 : decode cX1_price 15 = .ok (.iconst 1, 1) := by decide +kernel
theorem dX1_price_16 : decode cX1_price 16 = .ok (.goto 4, 3) := by decide +kernel
theorem dX1_price_19 : decode cX1_price 19 = .ok (.iconst 0, 1) := by decide +kernel
theorem dX1_price_20 : decode cX1_price 20 = .ok (.istore_n 3, 1) := by decide +kernel
theorem dX1_price_21 : decode cX1_price 21 = .ok (.iconst 0, 1) := by decide +kernel
theorem dX1_price_22 : decode cX1_price 22 = .ok (.istore 4, 2) := by decide +kernel
theorem dX1_price_24 : decode cX1_price 24 = .ok (.iload_n 3, 1) := by decide +kernel
theorem dX1_price_25 : decode cX1_price 25 = .ok (.ifCond .eq 65, 3) := by decide +kernel
theorem dX1_price_28 : decode cX1_price 28 = .ok (.iload 4, 2) := by decide +kernel
theorem dX1_price_30 : decode cX1_price 30 = .ok (.iload_n 1, 1) := by decide +kernel
theorem dX1_price_31 : decode cX1_price 31 = .ok (.if_icmp .gt 59, 3) := by decide +kernel
theorem dX1_price_34 : decode cX1_price 34 = .ok (.aload_n 0, 1) := by decide +kernel
theorem dX1_price_35 : decode cX1_price 35 = .ok (.getfield 7, 3) := by decide +kernel
theorem dX1_price_38 : decode cX1_price 38 = .ok (.iload 4, 2) := by decide +kernel
theorem dX1_price_40 : decode cX1_price 40 = .ok (.baload, 1) := by decide +kernel
theorem dX1_price_41 : decode cX1_price 41 = .ok (.ifCond .eq 15, 3) := by decide +kernel
theorem dX1_price_44 : decode cX1_price 44 = .ok (.aload_n 0, 1) := by decide +kernel
theorem dX1_price_45 : decode cX1_price 45 = .ok (.iload 4, 2) := by decide +kernel
theorem dX1_price_47 : decode cX1_price 47 = .ok (.iconst 0, 1) := by decide +kernel
theorem dX1_price_48 : decode cX1_price 48 = .ok (.iload_n 2, 1) := by decide +kernel
theorem dX1_price_49 : decode cX1_price 49 = .ok (.iconst 0, 1) := by decide +kernel
theorem dX1_price_50 : decode cX1_price 50 = .ok (.invokevirtual 107, 3) := by decide +kernel
theorem dX1_price_53 : decode cX1_price 53 = .ok (.goto 4, 3) := by decide +kernel
theorem dX1_price_56 : decode cX1_price 56 = .ok (.iconst (-1), 1) := by decide +kernel
theorem dX1_price_57 : decode cX1_price 57 = .ok (.istore 5, 2) := by decide +kernel
theorem dX1_price_59 : decode cX1_price 59 = .ok (.aload_n 0, 1) := by decide +kernel
theorem dX1_price_60 : decode cX1_price 60 = .ok (.getfield 50, 3) := by decide +kernel
theorem dX1_price_63 : decode cX1_price 63 = .ok (.iload 4, 2) := by decide +kernel
theorem dX1_price_65 : decode cX1_price 65 = .ok (.iload 5, 2) := by decide +kernel
theorem dX1_price_67 : decode cX1_price 67 = .ok (.iconst (-1), 1) := by decide +kernel
theorem dX1_price_68 : decode cX1_price 68 = .ok (.if_icmp .ne 12, 3) := by decide +kernel
theorem dX1_price_71 : decode cX1_price 71 = .ok (.aload_n 0, 1) := by decide +kernel
theorem dX1_price_72 : decode cX1_price 72 = .ok (.iload 4, 2) := by decide +kernel
theorem dX1_price_74 : decode cX1_price 74 = .ok (.invokevirtual 120, 3) := by decide +kernel
theorem dX1_price_77 : decode cX1_price 77 = .ok (.goto 6, 3) := by decide +kernel
theorem dX1_price_80 : decode cX1_price 80 = .ok (.iload 5, 2) := by decide +kernel
theorem dX1_price_82 : decode cX1_price 82 = .ok (.i2l, 1) := by decide +kernel
theorem dX1_price_83 : decode cX1_price 83 = .ok (.lastore, 1) := by decide +kernel
theorem dX1_price_84 : decode cX1_price 84 = .ok (.iinc 4 1, 3) := by decide +kernel
theorem dX1_price_87 : decode cX1_price 87 = .ok (.goto (-63), 3) := by decide +kernel
theorem dX1_price_90 : decode cX1_price 90 = .ok (.aload_n 0, 1) := by decide +kernel
theorem dX1_price_91 : decode cX1_price 91 = .ok (.iload_n 3, 1) := by decide +kernel
theorem dX1_price_92 : decode cX1_price 92 = .ok (.ifCond .ne 7, 3) := by decide +kernel
theorem dX1_price_95 : decode cX1_price 95 = .ok (.iconst 1, 1) := by decide +kernel
theorem dX1_price_96 : decode cX1_price 96 = .ok (.goto 21, 3) := by decide +kernel
theorem dX1_price_99 : decode cX1_price 99 = .ok (.aload_n 0, 1) := by decide +kernel
theorem dX1_price_100 : decode cX1_price 100 = .ok (.getfield 50, 3) := by decide +kernel
theorem dX1_price_103 : decode cX1_price 103 = .ok (.iload_n 1, 1) := by decide +kernel
theorem dX1_price_104 : decode cX1_price 104 = .ok (.laload, 1) := by decide +kernel
theorem dX1_price_105 : decode cX1_price 105 = .ok (.ldc2_w 114, 3) := by decide +kernel
theorem dX1_price_108 : decode cX1_price 108 = .ok (.lcmp, 1) := by decide +kernel
theorem dX1_price_109 : decode cX1_price 109 = .ok (.ifCond .ne 7, 3) := by decide +kernel
theorem dX1_price_112 : decode cX1_price 112 = .ok (.iconst 2, 1) := by decide +kernel
theorem dX1_price_113 : decode cX1_price 113 = .ok (.goto 4, 3) := by decide +kernel
theorem dX1_price_116 : decode cX1_price 116 = .ok (.iconst 0, 1) := by decide +kernel
theorem dX1_price_117 : decode cX1_price 117 = .ok (.invokevirtual 73, 3) := by decide +kernel
theorem dX1_price_120 : decode cX1_price 120 = .ok (.ifCond .eq 7, 3) := by decide +kernel
theorem dX1_price_123 : decode cX1_price 123 = .ok (.iconst 0, 1) := by decide +kernel
theorem dX1_price_124 : decode cX1_price 124 = .ok (.goto 10, 3) := by decide +kernel
theorem dX1_price_127 : decode cX1_price 127 = .ok (.aload_n 0, 1) := by decide +kernel
theorem dX1_price_128 : decode cX1_price 128 = .ok (.getfield 50, 3) := by decide +kernel
theorem dX1_price_131 : decode cX1_price 131 = .ok (.iload_n 1, 1) := by decide +kernel
theorem dX1_price_132 : decode cX1_price 132 = .ok (.laload, 1) := by decide +kernel
theorem dX1_price_133 : decode cX1_price 133 = .ok (.l2i, 1) := by decide +kernel
theorem dX1_price_134 : decode cX1_price 134 = .ok (.ireturn, 1) := by decide +kernel
theorem dX1_place_0 : decode cX1_place 0 = .ok (.iconst 3, 1) := by decide +kernel
theorem dX1_place_1 : decode cX1_place 1 = .ok (.bipush 6, 2) := by decide +kernel
theorem dX1_place_3 : decode cX1_place 3 = .ok (.bipush 16, 2) := by decide +kernel
theorem dX1_place_5 : decode cX1_place 5 = .ok (.iload_n 0, 1) := by decide +kernel
theorem dX1_place_6 : decode cX1_place 6 = .ok (.imul, 1) := by decide +kernel
theorem dX1_place_7 : decode cX1_place 7 = .ok (.iload_n 1, 1) := by decide +kernel
theorem dX1_place_8 : decode cX1_place 8 = .ok (.iadd, 1) := by decide +kernel
theorem dX1_place_9 : decode cX1_place 9 = .ok (.imul, 1) := by decide +kernel
theorem dX1_place_10 : decode cX1_place 10 = .ok (.iload_n 2, 1) := by decide +kernel
theorem dX1_place_11 : decode cX1_place 11 = .ok (.iadd, 1) := by decide +kernel
theorem dX1_place_12 : decode cX1_place 12 = .ok (.imul, 1) := by decide +kernel
theorem dX1_place_13 : decode cX1_place 13 = .ok (.iload_n 3, 1) := by decide +kernel
theorem dX1_place_14 : decode cX1_place 14 = .ok (.iadd, 1) := by decide +kernel
theorem dX1_place_15 : decode cX1_place 15 = .ok (.ireturn, 1) := by decide +kernel
set_option maxRecDepth 20000 in
theorem ggX1_sees_X1_valueOf : GoodIn wsX1_sees wsX1_valueOf := goodIn_r _ [6, 7, 8, 9, 10, 5, 11, 12, 13, 14, 15, 16, 17, 18, 19, 20, 21, 22, 23, 24, 25, 26, 27, 28, 29, 30, 31, 32, 33, 34, 35, 36, 37, 38, 39, 40, 41, 42] (by decide +kernel) (by decide +kernel)
set_option maxRecDepth 20000 in
theorem gX1_sees_X1_valueOf : GoodIn wsX1_sees (wsV RX1 107 RX1 yX1_valueOf wsX1_valueOf) := goodIn_app (goodIn_of _ (by decide +kernel)) ggX1_sees_X1_valueOf
theorem dX1_sees_0 : decode cX1_sees 0 = .ok (.aload_n 0, 1) := by decide +kernel
theorem dX1_sees_1 : decode cX1_sees 1 = .ok (.getfield 7, 3) := by decide +kernel
theorem dX1_sees_4 : decode cX1_sees 4 = .ok (.iload_n 2, 1) := by decide +kernel
theorem dX1_sees_5 : decode cX1_sees 5 = .ok (.baload, 1) := by decide +kernel
theorem dX1_sees_6 : decode cX1_sees 6 = .ok (.ifCond .eq 15, 3) := by decide +kernel
theorem dX1_sees_9 : decode cX1_sees 9 = .ok (.aload_n 0, 1) := by decide +kernel
theorem dX1_sees_10 : decode cX1_sees 10 = .ok (.iload_n 2, 1) := by decide +kernel
theorem dX1_sees_11 : decode cX1_sees 11 = .ok (.iload_n 3, 1) := by decide +kernel
theorem dX1_sees_12 : decode cX1_sees 12 = .ok (.iload_n 1, 1) := by decide +kernel
theorem dX1_sees_13 : decode cX1_sees 13 = .ok (.iload 4, 2) := by decide +kernel
theorem dX1_sees_15 : decode cX1_sees 15 = .ok (.invokevirtual 107, 3) := by decide +kernel
theorem dX1_sees_18 : decode cX1_sees 18 = .ok (.goto 4, 3) := by decide +kernel
theorem dX1_sees_21 : decode cX1_sees 21 = .ok (.iconst (-1), 1) := by decide +kernel
theorem dX1_sees_22 : decode cX1_sees 22 = .ok (.ireturn, 1) := by decide +kernel
set_option maxRecDepth 20000 in
theorem ggX1_differs_X1_place : GoodIn wsX1_differs wsX1_place := goodIn_r _ [6] (by decide +kernel) (by decide +kernel)
set_option maxRecDepth 20000 in
theorem gX1_differs_X1_place : GoodIn wsX1_differs (va_wsS RX1 124 yX1_place wsX1_place) := goodIn_app (goodIn_of _ (by decide +kernel)) ggX1_differs_X1_place
set_option maxRecDepth 20000 in
theorem ggX1_differs_X1_sees : GoodIn wsX1_differs wsX1_sees := goodIn_r _ [10, 11, 12, 13, 14, 5, 15, 16, 17, 18, 19, 20, 21, 22, 23, 24, 25, 26, 27, 28, 29, 30, 31, 32, 33, 34, 35, 36, 37, 38, 39, 40, 41, 42, 43, 44, 45, 46, 47, 48, 49, 50, 51] (by decide +kernel) (by decide +kernel)
set_option maxRecDepth 20000 in
theorem gX1_differs_X1_sees : GoodIn wsX1_differs (wsV RX1 127 RX1 yX1_sees wsX1_sees) := goodIn_app (goodIn_of _ (by decide +kernel)) ggX1_differs_X1_sees
theorem dX1_differs_0 : decode cX1_differs 0 = .ok (.iconst 0, 1) := by decide +kernel
theorem dX1_differs_1 : decode cX1_differs 1 = .ok (.istore_n 2, 1) := by decide +kernel
theorem dX1_differs_2 : decode cX1_differs 2 = .ok (.iconst 0, 1) := by decide +kernel
theorem dX1_differs_3 : decode cX1_differs 3 = .ok (.istore_n 3, 1) := by decide +kernel
theorem dX1_differs_4 : decode cX1_differs 4 = .ok (.iload_n 3, 1) := by decide +kernel
theorem dX1_differs_5 : decode cX1_differs 5 = .ok (.aload_n 0, 1) := by decide +kernel
theorem dX1_differs_6 : decode cX1_differs 6 = .ok (.getfield 58, 3) := by decide +kernel
theorem dX1_differs_9 : decode cX1_differs 9 = .ok (.if_icmp .ge 74, 3) := by decide +kernel
theorem dX1_differs_12 : decode cX1_differs 12 = .ok (.iconst 0, 1) := by decide +kernel
theorem dX1_differs_13 : decode cX1_differs 13 = .ok (.istore 4, 2) := by decide +kernel
theorem dX1_differs_15 : decode cX1_differs 15 = .ok (.iload 4, 2) := by decide +kernel
theorem dX1_differs_17 : decode cX1_differs 17 = .ok (.bipush 18, 2) := by decide +kernel
theorem dX1_differs_19 : decode cX1_differs 19 = .ok (.if_icmp .ge 58, 3) := by decide +kernel
theorem dX1_differs_22 : decode cX1_differs 22 = .ok (.aload_n 0, 1) := by decide +kernel
theorem dX1_differs_23 : decode cX1_differs 23 = .ok (.getfield 47, 3) := by decide +kernel
theorem dX1_differs_26 : decode cX1_differs 26 = .ok (.iload_n 1, 1) := by decide +kernel
theorem dX1_differs_27 : decode cX1_differs 27 = .ok (.iload_n 3, 1) := by decide +kernel
theorem dX1_differs_28 : decode cX1_differs 28 = .ok (.iload 4, 2) := by decide +kernel
theorem dX1_differs_30 : decode cX1_differs 30 = .ok (.iconst 3, 1) := by decide +kernel
theorem dX1_differs_31 : decode cX1_differs 31 = .ok (.idiv, 1) := by decide +kernel
theorem dX1_differs_32 : decode cX1_differs 32 = .ok (.iload 4, 2) := by decide +kernel
theorem dX1_differs_34 : decode cX1_differs 34 = .ok (.iconst 3, 1) := by decide +kernel
theorem dX1_differs_35 : decode cX1_differs 35 = .ok (.irem, 1) := by decide +kernel
theorem dX1_differs_36 : decode cX1_differs 36 = .ok (.invokestatic 124, 3) := by decide +kernel
theorem dX1_differs_39 : decode cX1_differs 39 = .ok (.iaload, 1) := by decide +kernel
theorem dX1_differs_40 : decode cX1_differs 40 = .ok (.istore 5, 2) := by decide +kernel
theorem dX1_differs_42 : decode cX1_differs 42 = .ok (.iload_n 2, 1) := by decide +kernel
theorem dX1_differs_43 : decode cX1_differs 43 = .ok (.iload 5, 2) := by decide +kernel
theorem dX1_differs_45 : decode cX1_differs 45 = .ok (.aload_n 0, 1) := by decide +kernel
theorem dX1_differs_46 : decode cX1_differs 46 = .ok (.iload_n 1, 1) := by decide +kernel
theorem dX1_differs_47 : decode cX1_differs 47 = .ok (.iload_n 3, 1) := by decide +kernel
theorem dX1_differs_48 : decode cX1_differs 48 = .ok (.iload 4, 2) := by decide +kernel
theorem dX1_differs_50 : decode cX1_differs 50 = .ok (.iconst 3, 1) := by decide +kernel
theorem dX1_differs_51 : decode cX1_differs 51 = .ok (.idiv, 1) := by decide +kernel
theorem dX1_differs_52 : decode cX1_differs 52 = .ok (.iload 4, 2) := by decide +kernel
theorem dX1_differs_54 : decode cX1_differs 54 = .ok (.iconst 3, 1) := by decide +kernel
theorem dX1_differs_55 : decode cX1_differs 55 = .ok (.irem, 1) := by decide +kernel
theorem dX1_differs_56 : decode cX1_differs 56 = .ok (.invokevirtual 127, 3) := by decide +kernel
theorem dX1_differs_59 : decode cX1_differs 59 = .ok (.if_icmp .ne 7, 3) := by decide +kernel
theorem dX1_differs_62 : decode cX1_differs 62 = .ok (.iconst 0, 1) := by decide +kernel
theorem dX1_differs_63 : decode cX1_differs 63 = .ok (.goto 6, 3) := by decide +kernel
theorem dX1_differs_66 : decode cX1_differs 66 = .ok (.iconst 1, 1) := by decide +kernel
theorem dX1_differs_67 : decode cX1_differs 67 = .ok (.iload_n 3, 1) := by decide +kernel
theorem dX1_differs_68 : decode cX1_differs 68 = .ok (.ishl, 1) := by decide +kernel
theorem dX1_differs_69 : decode cX1_differs 69 = .ok (.ior, 1) := by decide +kernel
theorem dX1_differs_70 : decode cX1_differs 70 = .ok (.istore_n 2, 1) := by decide +kernel
theorem dX1_differs_71 : decode cX1_differs 71 = .ok (.iinc 4 1, 3) := by decide +kernel
theorem dX1_differs_74 : decode cX1_differs 74 = .ok (.goto (-59), 3) := by decide +kernel
theorem dX1_differs_77 : decode cX1_differs 77 = .ok (.iinc 3 1, 3) := by decide +kernel
theorem dX1_differs_80 : decode cX1_differs 80 = .ok (.goto (-76), 3) := by decide +kernel
theorem dX1_differs_83 : decode cX1_differs 83 = .ok (.iload_n 2, 1) := by decide +kernel
theorem dX1_differs_84 : decode cX1_differs 84 = .ok (.ireturn, 1) := by decide +kernel
set_option maxRecDepth 20000 in
theorem ggX1_changed_X1_isShop : GoodIn wsX1_changed wsX1_isShop := goodIn_r _ [4, 5, 6, 3, 7] (by decide +kernel) (by decide +kernel)
set_option maxRecDepth 20000 in
theorem gX1_changed_X1_isShop : GoodIn wsX1_changed (va_wsS RX1 100 yX1_isShop wsX1_isShop) := goodIn_app (goodIn_of _ (by decide +kernel)) ggX1_changed_X1_isShop
set_option maxRecDepth 20000 in
theorem ggX1_changed_X1_fails : GoodIn wsX1_changed wsX1_fails := goodIn_r _ [11, 12, 49, 50, 51, 52, 53, 54, 55, 56, 57, 58, 59, 60, 61, 62, 63, 64, 65, 66] (by decide +kernel) (by decide +kernel)
set_option maxRecDepth 20000 in
theorem gX1_changed_X1_fails : GoodIn wsX1_changed (wsV RX1 73 RX1 yX1_fails wsX1_fails) := goodIn_app (goodIn_of _ (by decide +kernel)) ggX1_changed_X1_fails
set_option maxRecDepth 20000 in
theorem ggX1_changed_X1_differs : GoodIn wsX1_changed wsX1_differs := goodIn_r _ [16, 17, 18, 19, 20, 3, 21, 22, 23, 24, 25, 26, 27, 28, 29, 30, 31, 32, 33, 34, 35, 36, 37, 38, 39, 40, 41, 42, 43, 44, 45, 46, 47, 48, 49, 50, 51, 52, 53, 54, 55, 56, 57, 58, 59, 60, 61, 62, 63, 64, 65, 66] (by decide +kernel) (by decide +kernel)
set_option maxRecDepth 20000 in
theorem gX1_changed_X1_differs : GoodIn wsX1_changed (wsV RX1 130 RX1 yX1_differs wsX1_differs) := goodIn_app (goodIn_of _ (by decide +kernel)) ggX1_changed_X1_differs
theorem dX1_changed_0 : decode cX1_changed 0 = .ok (.aload_n 0, 1) := by decide +kernel
theorem dX1_changed_1 : decode cX1_changed 1 = .ok (.iload_n 1, 1) := by decide +kernel
theorem dX1_changed_2 : decode cX1_changed 2 = .ok (.invokestatic 100, 3) := by decide +kernel
theorem dX1_changed_5 : decode cX1_changed 5 = .ok (.ifCond .eq 7, 3) := by decide +kernel
theorem dX1_changed_8 : decode cX1_changed 8 = .ok (.iconst 0, 1) := by decide +kernel
theorem dX1_changed_9 : decode cX1_changed 9 = .ok (.goto 4, 3) := by decide +kernel
theorem dX1_changed_12 : decode cX1_changed 12 = .ok (.iconst 1, 1) := by decide +kernel
theorem dX1_changed_13 : decode cX1_changed 13 = .ok (.invokevirtual 73, 3) := by decide +kernel
theorem dX1_changed_16 : decode cX1_changed 16 = .ok (.ifCond .eq 7, 3) := by decide +kernel
theorem dX1_changed_19 : decode cX1_changed 19 = .ok (.iconst 0, 1) := by decide +kernel
theorem dX1_changed_20 : decode cX1_changed 20 = .ok (.goto 8, 3) := by decide +kernel
theorem dX1_changed_23 : decode cX1_changed 23 = .ok (.aload_n 0, 1) := by decide +kernel
theorem dX1_changed_24 : decode cX1_changed 24 = .ok (.iload_n 1, 1) := by decide +kernel
theorem dX1_changed_25 : decode cX1_changed 25 = .ok (.invokevirtual 130, 3) := by decide +kernel
theorem dX1_changed_28 : decode cX1_changed 28 = .ok (.ireturn, 1) := by decide +kernel
set_option maxRecDepth 20000 in
theorem ggX1_feed_X1_isShop : GoodIn wsX1_feed wsX1_isShop := goodIn_r _ [6, 7, 8, 5, 9] (by decide +kernel) (by decide +kernel)
set_option maxRecDepth 20000 in
theorem gX1_feed_X1_isShop : GoodIn wsX1_feed (va_wsS RX1 100 yX1_isShop wsX1_isShop) := goodIn_app (goodIn_of _ (by decide +kernel)) ggX1_feed_X1_isShop
set_option maxRecDepth 20000 in
theorem ggX1_feed_X1_fails : GoodIn wsX1_feed wsX1_fails := goodIn_r _ [13, 14, 49, 50, 51, 52, 53, 54, 55, 56, 57, 58, 59, 60, 61, 62, 63, 64, 65, 66] (by decide +kernel) (by decide +kernel)
set_option maxRecDepth 20000 in
theorem gX1_feed_X1_fails : GoodIn wsX1_feed (wsV RX1 73 RX1 yX1_fails wsX1_fails) := goodIn_app (goodIn_of _ (by decide +kernel)) ggX1_feed_X1_fails
set_option maxRecDepth 20000 in
theorem ggX1_feed_X1_differs : GoodIn wsX1_feed wsX1_differs := goodIn_r _ [18, 1, 2, 19, 20, 5, 21, 22, 23, 24, 25, 26, 27, 28, 29, 30, 31, 32, 33, 34, 35, 36, 37, 38, 39, 40, 41, 42, 43, 44, 45, 46, 47, 48, 49, 50, 51, 52, 53, 54, 55, 56, 57, 58, 59, 60, 61, 62, 63, 64, 65, 66] (by decide +kernel) (by decide +kernel)
set_option maxRecDepth 20000 in
theorem gX1_feed_X1_differs : GoodIn wsX1_feed (wsV RX1 130 RX1 yX1_differs wsX1_differs) := goodIn_app (goodIn_of _ (by decide +kernel)) ggX1_feed_X1_differs
set_option maxRecDepth 20000 in
theorem ggX1_feed_X1_place : GoodIn wsX1_feed wsX1_place := goodIn_r _ [21] (by decide +kernel) (by decide +kernel)
set_option maxRecDepth 20000 in
theorem gX1_feed_X1_place : GoodIn wsX1_feed (va_wsS RX1 124 yX1_place wsX1_place) := goodIn_app (goodIn_of _ (by decide +kernel)) ggX1_feed_X1_place
set_option maxRecDepth 20000 in
theorem ggX1_feed_X1_sees : GoodIn wsX1_feed wsX1_sees := goodIn_r _ [25, 26, 27, 28, 29, 5, 30, 31, 32, 33, 34, 35, 36, 37, 38, 39, 40, 41, 42, 43, 44, 45, 46, 47, 48, 49, 50, 51, 52, 53, 54, 55, 56, 57, 58, 59, 60, 61, 62, 63, 64, 65, 66] (by decide +kernel) (by decide +kernel)
set_option maxRecDepth 20000 in
theorem gX1_feed_X1_sees : GoodIn wsX1_feed (wsV RX1 127 RX1 yX1_sees wsX1_sees) := goodIn_app (goodIn_of _ (by decide +kernel)) ggX1_feed_X1_sees
theorem dX1_feed_0 : decode cX1_feed 0 = .ok (.aload_n 0, 1) := by decide +kernel
theorem dX1_feed_1 : decode cX1_feed 1 = .ok (.iload_n 1, 1) := by decide +kernel
theorem dX1_feed_2 : decode cX1_feed 2 = .ok (.invokestatic 100, 3) := by decide +kernel
theorem dX1_feed_5 : decode cX1_feed 5 = .ok (.ifCond .eq 7, 3) := by decide +kernel
theorem dX1_feed_8 : decode cX1_feed 8 = .ok (.iconst 0, 1) := by decide +kernel
theorem dX1_feed_9 : decode cX1_feed 9 = .ok (.goto 4, 3) := by decide +kernel
theorem dX1_feed_12 : decode cX1_feed 12 = .ok (.iconst 1, 1) := by decide +kernel
theorem dX1_feed_13 : decode cX1_feed 13 = .ok (.invokevirtual 73, 3) := by decide +kernel
theorem dX1_feed_16 : decode cX1_feed 16 = .ok (.ifCond .eq 5, 3) := by decide +kernel
theorem dX1_feed_19 : decode cX1_feed 19 = .ok (.iconst 0, 1) := by decide +kernel
theorem dX1_feed_20 : decode cX1_feed 20 = .ok (.ireturn, 1) := by decide +kernel
theorem dX1_feed_21 : decode cX1_feed 21 = .ok (.aload_n 0, 1) := by decide +kernel
theorem dX1_feed_22 : decode cX1_feed 22 = .ok (.iload_n 1, 1) := by decide +kernel
theorem dX1_feed_23 : decode cX1_feed 23 = .ok (.invokevirtual 130, 3) := by decide +kernel
theorem dX1_feed_26 : decode cX1_feed 26 = .ok (.istore_n 2, 1) := by decide +kernel
theorem dX1_feed_27 : decode cX1_feed 27 = .ok (.iconst 0, 1) := by decide +kernel
theorem dX1_feed_28 : decode cX1_feed 28 = .ok (.istore_n 3, 1) := by decide +kernel
theorem dX1_feed_29 : decode cX1_feed 29 = .ok (.iconst 0, 1) := by decide +kernel
theorem dX1_feed_30 : decode cX1_feed 30 = .ok (.istore 4, 2) := by decide +kernel
theorem dX1_feed_32 : decode cX1_feed 32 = .ok (.iload 4, 2) := by decide +kernel
theorem dX1_feed_34 : decode cX1_feed 34 = .ok (.aload_n 0, 1) := by decide +kernel
theorem dX1_feed_35 : decode cX1_feed 35 = .ok (.getfield 58, 3) := by decide +kernel
theorem dX1_feed_38 : decode cX1_feed 38 = .ok (.if_icmp .ge 68, 3) := by decide +kernel
theorem dX1_feed_41 : decode cX1_feed 41 = .ok (.iload_n 3, 1) := by decide +kernel
theorem dX1_feed_42 : decode cX1_feed 42 = .ok (.iload_n 2, 1) := by decide +kernel
theorem dX1_feed_43 : decode cX1_feed 43 = .ok (.iload 4, 2) := by decide +kernel
theorem dX1_feed_45 : decode cX1_feed 45 = .ok (.ishr, 1) := by decide +kernel
theorem dX1_feed_46 : decode cX1_feed 46 = .ok (.iconst 1, 1) := by decide +kernel
theorem dX1_feed_47 : decode cX1_feed 47 = .ok (.iand, 1) := by decide +kernel
theorem dX1_feed_48 : decode cX1_feed 48 = .ok (.iadd, 1) := by decide +kernel
theorem dX1_feed_49 : decode cX1_feed 49 = .ok (.istore_n 3, 1) := by decide +kernel
theorem dX1_feed_50 : decode cX1_feed 50 = .ok (.iconst 0, 1) := by decide +kernel
theorem dX1_feed_51 : decode cX1_feed 51 = .ok (.istore 5, 2) := by decide +kernel
theorem dX1_feed_53 : decode cX1_feed 53 = .ok (.iload 5, 2) := by decide +kernel
theorem dX1_feed_55 : decode cX1_feed 55 = .ok (.bipush 18, 2) := by decide +kernel
theorem dX1_feed_57 : decode cX1_feed 57 = .ok (.if_icmp .ge 43, 3) := by decide +kernel
theorem dX1_feed_60 : decode cX1_feed 60 = .ok (.aload_n 0, 1) := by decide +kernel
theorem dX1_feed_61 : decode cX1_feed 61 = .ok (.getfield 47, 3) := by decide +kernel
theorem dX1_feed_64 : decode cX1_feed 64 = .ok (.iload_n 1, 1) := by decide +kernel
theorem dX1_feed_65 : decode cX1_feed 65 = .ok (.iload 4, 2) := by decide +kernel
theorem dX1_feed_67 : decode cX1_feed 67 = .ok (.iload 5, 2) := by decide +kernel
theorem dX1_feed_69 : decode cX1_feed 69 = .ok (.iconst 3, 1) := by decide +kernel
theorem dX1_feed_70 : decode cX1_feed 70 = .ok (.idiv, 1) := by decide +kernel
theorem dX1_feed_71 : decode cX1_feed 71 = .ok (.iload 5, 2) := by decide +kernel
theorem dX1_feed_73 : decode cX1_feed 73 = .ok (.iconst 3, 1) := by decide +kernel
theorem dX1_feed_74 : decode cX1_feed 74 = .ok (.irem, 1) := by decide +kernel
theorem dX1_feed_75 : decode cX1_feed 75 = .ok (.invokestatic 124, 3) := by decide +kernel
theorem dX1_feed_78 : decode cX1_feed 78 = .ok (.aload_n 0, 1) := by decide +kernel
theorem dX1_feed_79 : decode cX1_feed 79 = .ok (.iload_n 1, 1) := by decide +kernel
theorem dX1_feed_80 : decode cX1_feed 80 = .ok (.iload 4, 2) := by decide +kernel
theorem dX1_feed_82 : decode cX1_feed 82 = .ok (.iload 5, 2) := by decide +kernel
theorem dX1_feed_84 : decode cX1_feed 84 = .ok (.iconst 3, 1) := by decide +kernel
theorem dX1_feed_85 : decode cX1_feed 85 = .ok (.idiv, 1) := by decide +kernel
theorem dX1_feed_86 : decode cX1_feed 86 = .ok (.iload 5, 2) := by decide +kernel
theorem dX1_feed_88 : decode cX1_feed 88 = .ok (.iconst 3, 1) := by decide +kernel
theorem dX1_feed_89 : decode cX1_feed 89 = .ok (.irem, 1) := by decide +kernel
theorem dX1_feed_90 : decode cX1_feed 90 = .ok (.invokevirtual 127, 3) := by decide +kernel
theorem dX1_feed_93 : decode cX1_feed 93 = .ok (.iastore, 1) := by decide +kernel
theorem dX1_feed_94 : decode cX1_feed 94 = .ok (.iinc 5 1, 3) := by decide +kernel
theorem dX1_feed_97 : decode cX1_feed 97 = .ok (.goto (-44), 3) := by decide +kernel
theorem dX1_feed_100 : decode cX1_feed 100 = .ok (.iinc 4 1, 3) := by decide +kernel
theorem dX1_feed_103 : decode cX1_feed 103 = .ok (.goto (-71), 3) := by decide +kernel
theorem dX1_feed_106 : decode cX1_feed 106 = .ok (.iload_n 3, 1) := by decide +kernel
theorem dX1_feed_107 : decode cX1_feed 107 = .ok (.ireturn, 1) := by decide +kernel
theorem dJ6_bitCount_0f7a4_0 : decode cJ6_bitCount_0f7a4 0 = .ok (.iload_n 0, 1) := by decide +kernel
theorem dJ6_bitCount_0f7a4_1 : decode cJ6_bitCount_0f7a4 1 = .ok (.iload_n 0, 1) := by decide +kernel
theorem dJ6_bitCount_0f7a4_2 : decode cJ6_bitCount_0f7a4 2 = .ok (.iconst 1, 1) := by decide +kernel
theorem dJ6_bitCount_0f7a4_3 : decode cJ6_bitCount_0f7a4 3 = .ok (.iushr, 1) := by decide +kernel
theorem dJ6_bitCount_0f7a4_4 : decode cJ6_bitCount_0f7a4 4 = .ok (.ldc_w 265, 3) := by decide +kernel
theorem dJ6_bitCount_0f7a4_7 : decode cJ6_bitCount_0f7a4 7 = .ok (.iand, 1) := by decide +kernel
theorem dJ6_bitCount_0f7a4_8 : decode cJ6_bitCount_0f7a4 8 = .ok (.isub, 1) := by decide +kernel
theorem dJ6_bitCount_0f7a4_9 : decode cJ6_bitCount_0f7a4 9 = .ok (.istore_n 0, 1) := by decide +kernel
theorem dJ6_bitCount_0f7a4_10 : decode cJ6_bitCount_0f7a4 10 = .ok (.iload_n 0, 1) := by decide +kernel
theorem dJ6_bitCount_0f7a4_11 : decode cJ6_bitCount_0f7a4 11 = .ok (.ldc_w 266, 3) := by decide +kernel
theorem dJ6_bitCount_0f7a4_14 : decode cJ6_bitCount_0f7a4 14 = .ok (.iand, 1) := by decide +kernel
theorem dJ6_bitCount_0f7a4_15 : decode cJ6_bitCount_0f7a4 15 = .ok (.iload_n 0, 1) := by decide +kernel
theorem dJ6_bitCount_0f7a4_16 : decode cJ6_bitCount_0f7a4 16 = .ok (.iconst 2, 1) := by decide +kernel
theorem dJ6_bitCount_0f7a4_17 : decode cJ6_bitCount_0f7a4 17 = .ok (.iushr, 1) := by decide +kernel
theorem dJ6_bitCount_0f7a4_18 : decode cJ6_bitCount_0f7a4 18 = .ok (.ldc_w 266, 3) := by decide +kernel
theorem dJ6_bitCount_0f7a4_21 : decode cJ6_bitCount_0f7a4 21 = .ok (.iand, 1) := by decide +kernel
theorem dJ6_bitCount_0f7a4_22 : decode cJ6_bitCount_0f7a4 22 = .ok (.iadd, 1) := by decide +kernel
theorem dJ6_bitCount_0f7a4_23 : decode cJ6_bitCount_0f7a4 23 = .ok (.istore_n 0, 1) := by decide +kernel
theorem dJ6_bitCount_0f7a4_24 : decode cJ6_bitCount_0f7a4 24 = .ok (.iload_n 0, 1) := by decide +kernel
theorem dJ6_bitCount_0f7a4_25 : decode cJ6_bitCount_0f7a4 25 = .ok (.iload_n 0, 1) := by decide +kernel
theorem dJ6_bitCount_0f7a4_26 : decode cJ6_bitCount_0f7a4 26 = .ok (.iconst 4, 1) := by decide +kernel
theorem dJ6_bitCount_0f7a4_27 : decode cJ6_bitCount_0f7a4 27 = .ok (.iushr, 1) := by decide +kernel
theorem dJ6_bitCount_0f7a4_28 : decode cJ6_bitCount_0f7a4 28 = .ok (.iadd, 1) := by decide +kernel
theorem dJ6_bitCount_0f7a4_29 : decode cJ6_bitCount_0f7a4 29 = .ok (.ldc_w 267, 3) := by decide +kernel
theorem dJ6_bitCount_0f7a4_32 : decode cJ6_bitCount_0f7a4 32 = .ok (.iand, 1) := by decide +kernel
theorem dJ6_bitCount_0f7a4_33 : decode cJ6_bitCount_0f7a4 33 = .ok (.istore_n 0, 1) := by decide +kernel
theorem dJ6_bitCount_0f7a4_34 : decode cJ6_bitCount_0f7a4 34 = .ok (.iload_n 0, 1) := by decide +kernel
theorem dJ6_bitCount_0f7a4_35 : decode cJ6_bitCount_0f7a4 35 = .ok (.iload_n 0, 1) := by decide +kernel
theorem dJ6_bitCount_0f7a4_36 : decode cJ6_bitCount_0f7a4 36 = .ok (.bipush 8, 2) := by decide +kernel
theorem dJ6_bitCount_0f7a4_38 : decode cJ6_bitCount_0f7a4 38 = .ok (.iushr, 1) := by decide +kernel
theorem dJ6_bitCount_0f7a4_39 : decode cJ6_bitCount_0f7a4 39 = .ok (.iadd, 1) := by decide +kernel
theorem dJ6_bitCount_0f7a4_40 : decode cJ6_bitCount_0f7a4 40 = .ok (.istore_n 0, 1) := by decide +kernel
theorem dJ6_bitCount_0f7a4_41 : decode cJ6_bitCount_0f7a4 41 = .ok (.iload_n 0, 1) := by decide +kernel
theorem dJ6_bitCount_0f7a4_42 : decode cJ6_bitCount_0f7a4 42 = .ok (.iload_n 0, 1) := by decide +kernel
theorem dJ6_bitCount_0f7a4_43 : decode cJ6_bitCount_0f7a4 43 = .ok (.bipush 16, 2) := by decide +kernel
theorem dJ6_bitCount_0f7a4_45 : decode cJ6_bitCount_0f7a4 45 = .ok (.iushr, 1) := by decide +kernel
theorem dJ6_bitCount_0f7a4_46 : decode cJ6_bitCount_0f7a4 46 = .ok (.iadd, 1) := by decide +kernel
theorem dJ6_bitCount_0f7a4_47 : decode cJ6_bitCount_0f7a4 47 = .ok (.istore_n 0, 1) := by decide +kernel
theorem dJ6_bitCount_0f7a4_48 : decode cJ6_bitCount_0f7a4 48 = .ok (.iload_n 0, 1) := by decide +kernel
theorem dJ6_bitCount_0f7a4_49 : decode cJ6_bitCount_0f7a4 49 = .ok (.bipush 63, 2) := by decide +kernel
theorem dJ6_bitCount_0f7a4_51 : decode cJ6_bitCount_0f7a4 51 = .ok (.iand, 1) := by decide +kernel
theorem dJ6_bitCount_0f7a4_52 : decode cJ6_bitCount_0f7a4 52 = .ok (.ireturn, 1) := by decide +kernel
theorem dJ9_max_7cf53_0 : decode cJ9_max_7cf53 0 = .ok (.iload_n 0, 1) := by decide +kernel
theorem dJ9_max_7cf53_1 : decode cJ9_max_7cf53 1 = .ok (.iload_n 1, 1) := by decide +kernel
theorem dJ9_max_7cf53_2 : decode cJ9_max_7cf53 2 = .ok (.if_icmp .lt 7, 3) := by decide +kernel
theorem dJ9_max_7cf53_5 : decode cJ9_max_7cf53 5 = .ok (.iload_n 0, 1) := by decide +kernel
theorem dJ9_max_7cf53_6 : decode cJ9_max_7cf53 6 = .ok (.goto 4, 3) := by decide +kernel
theorem dJ9_max_7cf53_9 : decode cJ9_max_7cf53 9 = .ok (.iload_n 1, 1) := by decide +kernel
theorem dJ9_max_7cf53_10 : decode cJ9_max_7cf53 10 = .ok (.ireturn, 1) := by decide +kernel
end
section
/-! values of the two pictures: a truth value, a number or none, a whole number -/
def bI (b : Bool) : Int32 := if b = true then 1 else 0
def oI (o : Option Nat) : Int32 := match o with
  | none => -1
  | some n => nI n
def oL (o : Option Nat) : Int64 := match o with
  | none => -1
  | some n => lN n
def zI (z : Int) : Int32 := Int32.ofInt z
theorem ba_rng (x : Int32) : -2147483648 ≤ x.toInt ∧ x.toInt < 2147483648 := by
  have h1 := Int32.le_toInt x
  have h2 := Int32.toInt_lt x
  omega
theorem ba_bmod {z : Int} (h1 : -2147483648 ≤ z) (h2 : z < 2147483648) : z.bmod (2 ^ 32) = z := by
  rw [Int.bmod_eq_of_le (by omega) (by omega)]
theorem zI_toInt {z : Int} (h1 : -2147483648 ≤ z) (h2 : z < 2147483648) : (zI z).toInt = z := by
  unfold zI
  rw [Int32.toInt_ofInt, ba_bmod h1 h2]
theorem nz (n : Nat) : nI n = zI (n : Int) := by
  unfold nI zI
  first | rfl | exact (Int32.ofInt_eq_ofNat).symm | simp
theorem zI_add (a b : Int) : zI a + zI b = zI (a + b) := by
  unfold zI
  exact (Int32.ofInt_add a b).symm
theorem zI_sub (a b : Int) : zI a - zI b = zI (a - b) := by
  unfold zI
  exact (Int32.ofInt_sub a b).symm
theorem zI_lt {a b : Int} (ha : -2147483648 ≤ a ∧ a < 2147483648) (hb : -2147483648 ≤ b ∧ b < 2147483648) : zI a < zI b ↔ a < b := by
  rw [Int32.lt_iff_toInt_lt, zI_toInt ha.1 ha.2, zI_toInt hb.1 hb.2]
theorem zI_le {a b : Int} (ha : -2147483648 ≤ a ∧ a < 2147483648) (hb : -2147483648 ≤ b ∧ b < 2147483648) : zI a ≤ zI b ↔ a ≤ b := by
  rw [Int32.le_iff_toInt_le, zI_toInt ha.1 ha.2, zI_toInt hb.1 hb.2]
theorem zI_eq {a b : Int} (ha : -2147483648 ≤ a ∧ a < 2147483648) (hb : -2147483648 ≤ b ∧ b < 2147483648) : zI a = zI b ↔ a = b := by
  rw [← Int32.toInt_inj, zI_toInt ha.1 ha.2, zI_toInt hb.1 hb.2]
theorem zm1 : (-1 : Int32) = zI (-1) := by decide
theorem i1_n (a : Nat) : nI a + Int32.ofInt 1 = nI (a + 1) := nI_1 a
theorem i1_z (a : Int) : zI a + Int32.ofInt 1 = zI (a + 1) := zI_add a 1
theorem oI_none : oI none = -1 := rfl
theorem oI_some (n : Nat) : oI (some n) = nI n := rfl
theorem nI_nm1 {k : Nat} (h : k < 2 ^ 31) : nI k ≠ -1 := fun e => by
  have h1 := nI_toInt h
  rw [e] at h1
  have h2 : ((-1 : Int32)).toInt = -1 := by decide
  omega
theorem oI_m1 {o : Option Nat} (h : ∀ k, o = some k → k < 2 ^ 31) : oI o = -1 ↔ o = none := by
  cases o with
  | none => exact ⟨fun _ => rfl, fun _ => rfl⟩
  | some k => exact ⟨fun e => absurd e (nI_nm1 (h k rfl)), fun e => by cases e⟩
theorem oI_inj {a b : Option Nat} (ha : ∀ k, a = some k → k < 2 ^ 31) (hb : ∀ k, b = some k → k < 2 ^ 31) : oI a = oI b ↔ a = b := by
  cases a with
  | none => exact ⟨fun e => ((oI_m1 hb).mp e.symm).symm, fun e => by rw [e]⟩
  | some k =>
    cases b with
    | none => exact ⟨fun e => absurd e (nI_nm1 (ha k rfl)), fun e => by cases e⟩
    | some j => exact ⟨fun e => by rw [(nI_eq (ha k rfl) (hb j rfl)).mp e], fun e => by rw [e]⟩
theorem bI_0 {b : Bool} : bI b = 0 ↔ b = false := by cases b <;> decide
theorem bI_n0 {b : Bool} : ¬ bI b = 0 ↔ b = true := by cases b <;> decide
theorem bI_and (b : Bool) : bI b &&& 1 = bI b := by cases b <;> decide
theorem nar_bI (b : Bool) : narrow .boolean (.int (bI b)) = .int (bI b) := by
  show Value.int (bI b &&& 1) = .int (bI b)
  rw [bI_and]
theorem vpn_bI (b : Bool) : vp_nar .boolean (bI b) = bI b := bI_and b
theorem oL_m1 {o : Option Nat} (h : ∀ k, o = some k → k < 2 ^ 62) : oL o = -1 ↔ o = none := by
  cases o with
  | none => exact ⟨fun _ => rfl, fun _ => rfl⟩
  | some k =>
    refine ⟨fun e => ?_, fun e => by cases e⟩
    have h1 := pk_lT (n := k) (Nat.lt_trans (h k rfl) (by decide))
    have h3 : oL (some k) = lN k := rfl
    rw [h3] at e
    rw [e] at h1
    have h2 : ((-1 : Int64)).toInt = -1 := by decide
    omega
theorem va_D_re {A : Nat → Prop} {w w' : va_W} (h : va_D A w) (e : w'.map Prod.fst = w.map Prod.fst) : va_D A w' := by
  have key : ∀ (i : Nat) (q : Nat × va_E), w'[i]? = some q → ∃ q' : Nat × va_E, w[i]? = some q' ∧ q'.1 = q.1 := by
    intro i q hq
    have h1 : (w'.map Prod.fst)[i]? = some q.1 := by rw [List.getElem?_map, hq]; rfl
    rw [e, List.getElem?_map] at h1
    cases hw : w[i]? with
    | none => rw [hw] at h1; cases h1
    | some q' => rw [hw] at h1; exact ⟨q', rfl, Option.some.inj h1⟩
  refine ⟨fun i j x y hx hy hxy => ?_, fun k q hk => ?_⟩
  · obtain ⟨x', hx', ex⟩ := key i x hx
    obtain ⟨y', hy', ey⟩ := key j y hy
    exact h.1 i j x' y' hx' hy' (by rw [ex, ey]; exact hxy)
  · obtain ⟨q', hq', eq'⟩ := key k q hk
    rw [← eq']
    exact h.2 k q' hq'
/-- a method that only reads: its start, its end -/
def pP (D : va_G) (w : va_W) (ty : List (ClassId × FieldType)) (av : List Value) : Array Value → State → Prop := va_Pc av (fun U => va_P D vwCl w U.heap ∧ va_K D vwCl ty U)
theorem pP_blind {D : va_G} {w : va_W} {ty : List (ClassId × FieldType)} {av : List Value} : FrameBlind (pP D w ty av) := fun a U g mk q => by
  obtain ⟨q0, qP, qK⟩ := q
  exact ⟨q0, qP, va_K.moved (u := U) (U := U.calling g mk a) (Vm.Alike.refl U.vm) qK⟩
theorem pP_pre {D : va_G} {w : va_W} {ty : List (ClassId × FieldType)} {av : List Value} {s : State} {H : Heap} (hP : va_P D vwCl w H) (hK : va_K D vwCl ty s) : ∀ U : State, U.heap = H → s.WarmedH U.vm → pP D w ty av av.toArray U :=
  fun U hU hW => ⟨rfl, by rw [hU]; exact hP, va_K.moved hW.alike hK⟩
def pQ (v : Option Value) : Array Value → State → Outcome → State → Prop := fun _ st o t => o = .returned v ∧ t.heap = st.heap
def nF : Addr → Prop := fun _ => False
section HB
variable {p : Program} {l : Launch} {e : Env} {R : Room} {s : State} {m : MethodId} {args : Array Value} {below : List Frame} {meth : Method} {c : Code} {H H0 : Heap} {locs : List Loc} {cells slots : Nat} {Q : State → Prop} {cc : ByteArray} {pc : Nat} {ls : Array Slot} {rest st0 : List Value} {D : va_G} {cl : List vw_C} {tys : List (ClassId × FieldType)} {ws : va_W} {a : Nat} {A : Nat → Prop}
theorem q_top {x y : Int32} (h : x = y) (k : W p l e R s m args below meth c H locs cells slots Q (F0 m pc ls (.int y :: rest))) : W p l e R s m args below meth c H locs cells slots Q (F0 m pc ls (.int x :: rest)) := by
  rw [h]; exact k
theorem q_topL {x y : Int64} (h : x = y) (k : W p l e R s m args below meth c H locs cells slots Q (F0 m pc ls (.long y :: rest))) : W p l e R s m args below meth c H locs cells slots Q (F0 m pc ls (.long x :: rest)) := by
  rw [h]; exact k
theorem q_top2 {x y : Int32} {v : Value} (h : x = y) (k : W p l e R s m args below meth c H locs cells slots Q (F0 m pc ls (v :: .int y :: rest))) : W p l e R s m args below meth c H locs cells slots Q (F0 m pc ls (v :: .int x :: rest)) := by
  rw [h]; exact k
/-- the end of a method that only reads -/
theorem q_retI {v r : Int32} (hx : p.tables.exec = Jvm.exec) (hb : c.code = cc) (hr : meth.sig.returnType = some .int) (hlocks : meth.locks = false) (hv : v = r) (hdg : decode cc pc = .ok (.ireturn, 1)) :
    W p l e R s m args below meth c s.heap [] 0 0 (MQ below (pQ (some (.int r))) args s 0 0 nF) (F0 m pc ls [.int v]) := by
  subst hv
  exact W.iret (v := v) hx hb hr (fun t ht hW => ⟨rfl, ht⟩) (fun z hz => by cases hz) hdg hlocks
theorem q_retZ {v : Int32} {r : Bool} (hx : p.tables.exec = Jvm.exec) (hb : c.code = cc) (hr : meth.sig.returnType = some .boolean) (hlocks : meth.locks = false) (hv : v = bI r) (hdg : decode cc pc = .ok (.ireturn, 1)) :
    W p l e R s m args below meth c s.heap [] 0 0 (MQ below (pQ (some (.int (bI r)))) args s 0 0 nF) (F0 m pc ls [.int v]) := by
  subst hv
  exact W.zret (v := bI r) (ty := .boolean) hx hb hr (nar_bI r) (fun t ht hW => ⟨rfl, ht⟩) (fun z hz => by cases hz) hdg hlocks
theorem q_retV (hx : p.tables.exec = Jvm.exec) (hb : c.code = cc) (hr : meth.sig.returnType = none) (hlocks : meth.locks = false) (hdg : decode cc pc = .ok (.return_, 1)) :
    W p l e R s m args below meth c s.heap [] 0 0 (MQ below (pQ none) args s 0 0 nF) (F0 m pc ls []) :=
  W.vret hx hb hr (fun t ht hW => ⟨rfl, ht⟩) (fun z hz => by cases hz) hdg hlocks
/-- a call of a method that only reads -/
theorem q_call {v : Option Value} {av : Array Value} (hr : va_Run p l e R s m args below meth c H locs cells slots 0 0 (F0 m pc ls st0) rest (pQ v av) nF)
    (kk : W p l e R s m args below meth c H locs cells slots Q (F0 m (pc + 3) ls (v.toList ++ rest))) : W p l e R s m args below meth c H locs cells slots Q (F0 m pc ls st0) := by
  intro T hT X
  obtain ⟨v', st₀, t, T', L, h0, X', hL, e1, e2, ⟨hv, hp⟩, st⟩ := hr T hT X
  cases hv
  have hL0 : L = [] := by
    cases L with
    | nil => rfl
    | cons z r => exact absurd (hL z List.mem_cons_self) (fun q => q)
  subst hL0
  rw [List.append_nil] at X'
  obtain ⟨t2, a1, b1⟩ := kk T' (by rw [e1, hp, h0]) X'
  exact ⟨t2, st t2 a1, b1⟩
/-- arrays, typed -/
theorem q_ald {α : Type} (g : α → Int32) (f : Nat → α) (hx : p.tables.exec = Jvm.exec) (hb : c.code = cc) (hK : va_K D cl tys s) (hP : va_P D cl ws H) (q0 t0 : Nat) {cA : ClassId} {n : Nat} (ha : ws[q0]? = some (a, .inl (cA, n, .inl (fun j => g (f j))))) (ht : tys[t0]? = some (cA, .int)) {k : Nat} (hk : k < n) (hn : n < 2 ^ 31) (hdg : decode cc pc = .ok (.iaload, 1))
    (kk : W p l e R s m args below meth c H locs cells slots Q (F0 m (pc + 1) ls (.int (g (f k)) :: rest))) : W p l e R s m args below meth c H locs cells slots Q (F0 m pc ls (.int (nI k) :: .ref a :: rest)) := by
  refine va_iald hx hb hK hP q0 t0 ha ht (vp_in_nI hk hn) hdg ?_
  rw [nI_clamp (Nat.lt_trans hk hn)]
  exact kk
theorem q_zld (f : Nat → Bool) (hx : p.tables.exec = Jvm.exec) (hb : c.code = cc) (hK : va_K D cl tys s) (hP : va_P D cl ws H) (q0 t0 : Nat) {cA : ClassId} {n : Nat} (ha : ws[q0]? = some (a, .inl (cA, n, .inl (fun j => bI (f j))))) (ht : tys[t0]? = some (cA, .boolean)) {k : Nat} (hk : k < n) (hn : n < 2 ^ 31) (hdg : decode cc pc = .ok (.baload, 1))
    (kk : W p l e R s m args below meth c H locs cells slots Q (F0 m (pc + 1) ls (.int (bI (f k)) :: rest))) : W p l e R s m args below meth c H locs cells slots Q (F0 m pc ls (.int (nI k) :: .ref a :: rest)) := by
  refine va_zald hx hb hK hP q0 t0 ha ht (vp_in_nI hk hn) hdg ?_
  rw [nI_clamp (Nat.lt_trans hk hn)]
  exact kk
theorem q_lld (f : Nat → Option Nat) (hx : p.tables.exec = Jvm.exec) (hb : c.code = cc) (hK : va_K D cl tys s) (hP : va_P D cl ws H) (q0 t0 : Nat) {cA : ClassId} {n : Nat} (ha : ws[q0]? = some (a, .inl (cA, n, .inr (.inl (fun j => oL (f j)))))) (ht : tys[t0]? = some (cA, .long)) {k : Nat} (hk : k < n) (hn : n < 2 ^ 31) (hdg : decode cc pc = .ok (.laload, 1))
    (kk : W p l e R s m args below meth c H locs cells slots Q (F0 m (pc + 1) ls (.long (oL (f k)) :: rest))) : W p l e R s m args below meth c H locs cells slots Q (F0 m pc ls (.int (nI k) :: .ref a :: rest)) := by
  refine va_lald hx hb hK hP q0 t0 ha ht (vp_in_nI hk hn) hdg ?_
  rw [nI_clamp (Nat.lt_trans hk hn)]
  exact kk
theorem q_ast {α : Type} (g : α → Int32) (f : Nat → α) (x : α) (hx : p.tables.exec = Jvm.exec) (hb : c.code = cc) (hK : va_K D cl tys s) (hP : va_P D cl ws H) (hD : va_D A ws) (hS : va_S A H0 H locs) (q0 t0 : Nat) {cA : ClassId} {n : Nat} (ha : ws[q0]? = some (a, .inl (cA, n, .inl (fun j => g (f j))))) (ht : tys[t0]? = some (cA, .int)) {k : Nat} (hk : k < n) (hn : n < 2 ^ 31) (hdg : decode cc pc = .ok (.iastore, 1))
    (kk : ∀ (H1 : Heap) (locs1 : List Loc), va_P D cl (ws.set q0 (a, .inl (cA, n, .inl (fun j => g (va_up f k x j))))) H1 → va_D A (ws.set q0 (a, .inl (cA, n, .inl (fun j => g (va_up f k x j))))) → va_S A H0 H1 locs1 → W p l e R s m args below meth c H1 locs1 cells slots Q (F0 m (pc + 1) ls rest)) : W p l e R s m args below meth c H locs cells slots Q (F0 m pc ls (.int (g x) :: .int (nI k) :: .ref a :: rest)) := by
  have e0 : upd (fun j => g (f j)) (nI k).toNatClampNeg (g x) = fun j => g (va_up f k x j) := by
    rw [nI_clamp (Nat.lt_trans hk hn)]
    funext j
    by_cases hj : j = k
    · simp [upd, va_up, hj]
    · simp [upd, va_up, hj]
  refine va_iast hx hb hK hP hD hS q0 t0 ha ht (vp_in_nI hk hn) hdg fun H1 locs1 h1 h2 h3 => ?_
  rw [e0] at h1 h2
  exact kk H1 locs1 h1 h2 h3
theorem q_zst (f : Nat → Bool) (x : Bool) (hx : p.tables.exec = Jvm.exec) (hb : c.code = cc) (hK : va_K D cl tys s) (hP : va_P D cl ws H) (hD : va_D A ws) (hS : va_S A H0 H locs) (q0 t0 : Nat) {cA : ClassId} {n : Nat} (ha : ws[q0]? = some (a, .inl (cA, n, .inl (fun j => bI (f j))))) (ht : tys[t0]? = some (cA, .boolean)) {k : Nat} (hk : k < n) (hn : n < 2 ^ 31) (hdg : decode cc pc = .ok (.bastore, 1))
    (kk : ∀ (H1 : Heap) (locs1 : List Loc), va_P D cl (ws.set q0 (a, .inl (cA, n, .inl (fun j => bI (va_up f k x j))))) H1 → va_D A (ws.set q0 (a, .inl (cA, n, .inl (fun j => bI (va_up f k x j))))) → va_S A H0 H1 locs1 → W p l e R s m args below meth c H1 locs1 cells slots Q (F0 m (pc + 1) ls rest)) : W p l e R s m args below meth c H locs cells slots Q (F0 m pc ls (.int (bI x) :: .int (nI k) :: .ref a :: rest)) := by
  have e0 : upd (fun j => bI (f j)) (nI k).toNatClampNeg (vp_nar .boolean (bI x)) = fun j => bI (va_up f k x j) := by
    rw [nI_clamp (Nat.lt_trans hk hn), vpn_bI]
    funext j
    by_cases hj : j = k
    · simp [upd, va_up, hj]
    · simp [upd, va_up, hj]
  refine va_zast hx hb hK hP hD hS q0 t0 ha ht (vp_in_nI hk hn) hdg fun H1 locs1 h1 h2 h3 => ?_
  rw [e0] at h1 h2
  exact kk H1 locs1 h1 h2 h3
theorem q_lst (f : Nat → Option Nat) (x : Option Nat) (hx : p.tables.exec = Jvm.exec) (hb : c.code = cc) (hK : va_K D cl tys s) (hP : va_P D cl ws H) (hD : va_D A ws) (hS : va_S A H0 H locs) (q0 t0 : Nat) {cA : ClassId} {n : Nat} (ha : ws[q0]? = some (a, .inl (cA, n, .inr (.inl (fun j => oL (f j)))))) (ht : tys[t0]? = some (cA, .long)) {k : Nat} (hk : k < n) (hn : n < 2 ^ 31) (hdg : decode cc pc = .ok (.lastore, 1))
    (kk : ∀ (H1 : Heap) (locs1 : List Loc), va_P D cl (ws.set q0 (a, .inl (cA, n, .inr (.inl (fun j => oL (va_up f k x j)))))) H1 → va_D A (ws.set q0 (a, .inl (cA, n, .inr (.inl (fun j => oL (va_up f k x j)))))) → va_S A H0 H1 locs1 → W p l e R s m args below meth c H1 locs1 cells slots Q (F0 m (pc + 1) ls rest)) : W p l e R s m args below meth c H locs cells slots Q (F0 m pc ls (.long (oL x) :: .int (nI k) :: .ref a :: rest)) := by
  have e0 : vp_updL (fun j => oL (f j)) (nI k).toNatClampNeg (oL x) = fun j => oL (va_up f k x j) := by
    rw [nI_clamp (Nat.lt_trans hk hn)]
    funext j
    by_cases hj : j = k
    · simp [vp_updL, va_up, hj]
    · simp [vp_updL, va_up, hj]
  refine va_last hx hb hK hP hD hS q0 t0 ha ht (vp_in_nI hk hn) hdg fun H1 locs1 h1 h2 h3 => ?_
  rw [e0] at h1 h2
  exact kk H1 locs1 h1 h2 h3
theorem q_icmpN_eq {a b : Nat} {off : Int} {tgt : Nat} (ha : a < 2 ^ 31) (hb' : b < 2 ^ 31) (hx : p.tables.exec = Jvm.exec) (hb : c.code = cc) (hdg : decode cc pc = .ok (.if_icmp .eq off, 3)) (ht : (pc : Int) + off = (tgt : Int))
    (kt : a = b → W p l e R s m args below meth c H locs cells slots Q (F0 m tgt ls rest)) (kf : a ≠ b → W p l e R s m args below meth c H locs cells slots Q (F0 m (pc + 3) ls rest)) : W p l e R s m args below meth c H locs cells slots Q (F0 m pc ls (.int (nI b) :: .int (nI a) :: rest)) :=
  lv_icmp_eq hx hb hdg ht (fun c => kt ((nI_eq ha hb').mp c)) (fun c => kf (fun e => c ((nI_eq ha hb').mpr e)))
theorem q_icmpN_ne {a b : Nat} {off : Int} {tgt : Nat} (ha : a < 2 ^ 31) (hb' : b < 2 ^ 31) (hx : p.tables.exec = Jvm.exec) (hb : c.code = cc) (hdg : decode cc pc = .ok (.if_icmp .ne off, 3)) (ht : (pc : Int) + off = (tgt : Int))
    (kt : a ≠ b → W p l e R s m args below meth c H locs cells slots Q (F0 m tgt ls rest)) (kf : a = b → W p l e R s m args below meth c H locs cells slots Q (F0 m (pc + 3) ls rest)) : W p l e R s m args below meth c H locs cells slots Q (F0 m pc ls (.int (nI b) :: .int (nI a) :: rest)) :=
  lv_icmp_ne hx hb hdg ht (fun c => kt (fun e => c ((nI_eq ha hb').mpr e))) (fun c => kf ((nI_eq ha hb').mp c))
theorem q_icmpN_lt {a b : Nat} {off : Int} {tgt : Nat} (ha : a < 2 ^ 31) (hb' : b < 2 ^ 31) (hx : p.tables.exec = Jvm.exec) (hb : c.code = cc) (hdg : decode cc pc = .ok (.if_icmp .lt off, 3)) (ht : (pc : Int) + off = (tgt : Int))
    (kt : a < b → W p l e R s m args below meth c H locs cells slots Q (F0 m tgt ls rest)) (kf : b ≤ a → W p l e R s m args below meth c H locs cells slots Q (F0 m (pc + 3) ls rest)) : W p l e R s m args below meth c H locs cells slots Q (F0 m pc ls (.int (nI b) :: .int (nI a) :: rest)) :=
  lv_icmp_lt hx hb hdg ht (fun c => kt ((nI_ltI ha hb').mp c)) (fun c => kf (Nat.le_of_not_lt fun e => c ((nI_ltI ha hb').mpr e)))
theorem q_icmpN_ge {a b : Nat} {off : Int} {tgt : Nat} (ha : a < 2 ^ 31) (hb' : b < 2 ^ 31) (hx : p.tables.exec = Jvm.exec) (hb : c.code = cc) (hdg : decode cc pc = .ok (.if_icmp .ge off, 3)) (ht : (pc : Int) + off = (tgt : Int))
    (kt : b ≤ a → W p l e R s m args below meth c H locs cells slots Q (F0 m tgt ls rest)) (kf : a < b → W p l e R s m args below meth c H locs cells slots Q (F0 m (pc + 3) ls rest)) : W p l e R s m args below meth c H locs cells slots Q (F0 m pc ls (.int (nI b) :: .int (nI a) :: rest)) :=
  lv_icmp_ge hx hb hdg ht (fun c => kt ((nI_leI hb' ha).mp c)) (fun c => kf (Nat.lt_of_not_le fun e => c ((nI_leI hb' ha).mpr e)))
theorem q_icmpN_gt {a b : Nat} {off : Int} {tgt : Nat} (ha : a < 2 ^ 31) (hb' : b < 2 ^ 31) (hx : p.tables.exec = Jvm.exec) (hb : c.code = cc) (hdg : decode cc pc = .ok (.if_icmp .gt off, 3)) (ht : (pc : Int) + off = (tgt : Int))
    (kt : b < a → W p l e R s m args below meth c H locs cells slots Q (F0 m tgt ls rest)) (kf : a ≤ b → W p l e R s m args below meth c H locs cells slots Q (F0 m (pc + 3) ls rest)) : W p l e R s m args below meth c H locs cells slots Q (F0 m pc ls (.int (nI b) :: .int (nI a) :: rest)) :=
  lv_icmp_gt hx hb hdg ht (fun c => kt ((nI_ltI hb' ha).mp c)) (fun c => kf (Nat.le_of_not_lt fun e => c ((nI_ltI hb' ha).mpr e)))
theorem q_icmpN_le {a b : Nat} {off : Int} {tgt : Nat} (ha : a < 2 ^ 31) (hb' : b < 2 ^ 31) (hx : p.tables.exec = Jvm.exec) (hb : c.code = cc) (hdg : decode cc pc = .ok (.if_icmp .le off, 3)) (ht : (pc : Int) + off = (tgt : Int))
    (kt : a ≤ b → W p l e R s m args below meth c H locs cells slots Q (F0 m tgt ls rest)) (kf : b < a → W p l e R s m args below meth c H locs cells slots Q (F0 m (pc + 3) ls rest)) : W p l e R s m args below meth c H locs cells slots Q (F0 m pc ls (.int (nI b) :: .int (nI a) :: rest)) :=
  lv_icmp_le hx hb hdg ht (fun c => kt ((nI_leI ha hb').mp c)) (fun c => kf (Nat.lt_of_not_le fun e => c ((nI_leI ha hb').mpr e)))
theorem q_icmpZ_eq {a b : Int} {off : Int} {tgt : Nat} (ha : -2147483648 ≤ a ∧ a < 2147483648) (hb' : -2147483648 ≤ b ∧ b < 2147483648) (hx : p.tables.exec = Jvm.exec) (hb : c.code = cc) (hdg : decode cc pc = .ok (.if_icmp .eq off, 3)) (ht : (pc : Int) + off = (tgt : Int))
    (kt : a = b → W p l e R s m args below meth c H locs cells slots Q (F0 m tgt ls rest)) (kf : a ≠ b → W p l e R s m args below meth c H locs cells slots Q (F0 m (pc + 3) ls rest)) : W p l e R s m args below meth c H locs cells slots Q (F0 m pc ls (.int (zI b) :: .int (zI a) :: rest)) :=
  lv_icmp_eq hx hb hdg ht (fun c => kt ((zI_eq ha hb').mp c)) (fun c => kf (fun e => c ((zI_eq ha hb').mpr e)))
theorem q_icmpZ_ne {a b : Int} {off : Int} {tgt : Nat} (ha : -2147483648 ≤ a ∧ a < 2147483648) (hb' : -2147483648 ≤ b ∧ b < 2147483648) (hx : p.tables.exec = Jvm.exec) (hb : c.code = cc) (hdg : decode cc pc = .ok (.if_icmp .ne off, 3)) (ht : (pc : Int) + off = (tgt : Int))
    (kt : a ≠ b → W p l e R s m args below meth c H locs cells slots Q (F0 m tgt ls rest)) (kf : a = b → W p l e R s m args below meth c H locs cells slots Q (F0 m (pc + 3) ls rest)) : W p l e R s m args below meth c H locs cells slots Q (F0 m pc ls (.int (zI b) :: .int (zI a) :: rest)) :=
  lv_icmp_ne hx hb hdg ht (fun c => kt (fun e => c ((zI_eq ha hb').mpr e))) (fun c => kf ((zI_eq ha hb').mp c))
theorem q_icmpZ_lt {a b : Int} {off : Int} {tgt : Nat} (ha : -2147483648 ≤ a ∧ a < 2147483648) (hb' : -2147483648 ≤ b ∧ b < 2147483648) (hx : p.tables.exec = Jvm.exec) (hb : c.code = cc) (hdg : decode cc pc = .ok (.if_icmp .lt off, 3)) (ht : (pc : Int) + off = (tgt : Int))
    (kt : a < b → W p l e R s m args below meth c H locs cells slots Q (F0 m tgt ls rest)) (kf : b ≤ a → W p l e R s m args below meth c H locs cells slots Q (F0 m (pc + 3) ls rest)) : W p l e R s m args below meth c H locs cells slots Q (F0 m pc ls (.int (zI b) :: .int (zI a) :: rest)) :=
  lv_icmp_lt hx hb hdg ht (fun c => kt ((zI_lt ha hb').mp c)) (fun c => kf (Int.not_lt.mp fun e => c ((zI_lt ha hb').mpr e)))
theorem q_icmpZ_ge {a b : Int} {off : Int} {tgt : Nat} (ha : -2147483648 ≤ a ∧ a < 2147483648) (hb' : -2147483648 ≤ b ∧ b < 2147483648) (hx : p.tables.exec = Jvm.exec) (hb : c.code = cc) (hdg : decode cc pc = .ok (.if_icmp .ge off, 3)) (ht : (pc : Int) + off = (tgt : Int))
    (kt : b ≤ a → W p l e R s m args below meth c H locs cells slots Q (F0 m tgt ls rest)) (kf : a < b → W p l e R s m args below meth c H locs cells slots Q (F0 m (pc + 3) ls rest)) : W p l e R s m args below meth c H locs cells slots Q (F0 m pc ls (.int (zI b) :: .int (zI a) :: rest)) :=
  lv_icmp_ge hx hb hdg ht (fun c => kt ((zI_le hb' ha).mp c)) (fun c => kf (Int.not_le.mp fun e => c ((zI_le hb' ha).mpr e)))
theorem q_icmpZ_gt {a b : Int} {off : Int} {tgt : Nat} (ha : -2147483648 ≤ a ∧ a < 2147483648) (hb' : -2147483648 ≤ b ∧ b < 2147483648) (hx : p.tables.exec = Jvm.exec) (hb : c.code = cc) (hdg : decode cc pc = .ok (.if_icmp .gt off, 3)) (ht : (pc : Int) + off = (tgt : Int))
    (kt : b < a → W p l e R s m args below meth c H locs cells slots Q (F0 m tgt ls rest)) (kf : a ≤ b → W p l e R s m args below meth c H locs cells slots Q (F0 m (pc + 3) ls rest)) : W p l e R s m args below meth c H locs cells slots Q (F0 m pc ls (.int (zI b) :: .int (zI a) :: rest)) :=
  lv_icmp_gt hx hb hdg ht (fun c => kt ((zI_lt hb' ha).mp c)) (fun c => kf (Int.not_lt.mp fun e => c ((zI_lt hb' ha).mpr e)))
theorem q_icmpZ_le {a b : Int} {off : Int} {tgt : Nat} (ha : -2147483648 ≤ a ∧ a < 2147483648) (hb' : -2147483648 ≤ b ∧ b < 2147483648) (hx : p.tables.exec = Jvm.exec) (hb : c.code = cc) (hdg : decode cc pc = .ok (.if_icmp .le off, 3)) (ht : (pc : Int) + off = (tgt : Int))
    (kt : a ≤ b → W p l e R s m args below meth c H locs cells slots Q (F0 m tgt ls rest)) (kf : b < a → W p l e R s m args below meth c H locs cells slots Q (F0 m (pc + 3) ls rest)) : W p l e R s m args below meth c H locs cells slots Q (F0 m pc ls (.int (zI b) :: .int (zI a) :: rest)) :=
  lv_icmp_le hx hb hdg ht (fun c => kt ((zI_le ha hb').mp c)) (fun c => kf (Int.not_le.mp fun e => c ((zI_le ha hb').mpr e)))
theorem q_ifN_eq {a : Nat} {off : Int} {tgt : Nat} (ha : a < 2 ^ 31) (hx : p.tables.exec = Jvm.exec) (hb : c.code = cc) (hdg : decode cc pc = .ok (.ifCond .eq off, 3)) (ht : (pc : Int) + off = (tgt : Int))
    (kt : a = 0 → W p l e R s m args below meth c H locs cells slots Q (F0 m tgt ls rest)) (kf : a ≠ 0 → W p l e R s m args below meth c H locs cells slots Q (F0 m (pc + 3) ls rest)) : W p l e R s m args below meth c H locs cells slots Q (F0 m pc ls (.int (nI a) :: rest)) :=
  lv_if_eq hx hb hdg ht (fun c => kt ((nI_eq ha (by decide)).mp c)) (fun c => kf (fun e => c ((nI_eq ha (by decide)).mpr e)))
theorem q_ifN_ne {a : Nat} {off : Int} {tgt : Nat} (ha : a < 2 ^ 31) (hx : p.tables.exec = Jvm.exec) (hb : c.code = cc) (hdg : decode cc pc = .ok (.ifCond .ne off, 3)) (ht : (pc : Int) + off = (tgt : Int))
    (kt : a ≠ 0 → W p l e R s m args below meth c H locs cells slots Q (F0 m tgt ls rest)) (kf : a = 0 → W p l e R s m args below meth c H locs cells slots Q (F0 m (pc + 3) ls rest)) : W p l e R s m args below meth c H locs cells slots Q (F0 m pc ls (.int (nI a) :: rest)) :=
  lv_if_ne hx hb hdg ht (fun c => kt (fun e => c ((nI_eq ha (by decide)).mpr e))) (fun c => kf ((nI_eq ha (by decide)).mp c))
theorem q_ifN_gt {a : Nat} {off : Int} {tgt : Nat} (ha : a < 2 ^ 31) (hx : p.tables.exec = Jvm.exec) (hb : c.code = cc) (hdg : decode cc pc = .ok (.ifCond .gt off, 3)) (ht : (pc : Int) + off = (tgt : Int))
    (kt : 0 < a → W p l e R s m args below meth c H locs cells slots Q (F0 m tgt ls rest)) (kf : a = 0 → W p l e R s m args below meth c H locs cells slots Q (F0 m (pc + 3) ls rest)) : W p l e R s m args below meth c H locs cells slots Q (F0 m pc ls (.int (nI a) :: rest)) :=
  lv_if_gt hx hb hdg ht (fun c => kt ((nI_ltI (by decide) ha).mp c)) (fun c => kf (Nat.eq_zero_of_not_pos fun e => c ((nI_ltI (by decide) ha).mpr e)))
theorem q_ifN_le {a : Nat} {off : Int} {tgt : Nat} (ha : a < 2 ^ 31) (hx : p.tables.exec = Jvm.exec) (hb : c.code = cc) (hdg : decode cc pc = .ok (.ifCond .le off, 3)) (ht : (pc : Int) + off = (tgt : Int))
    (kt : a = 0 → W p l e R s m args below meth c H locs cells slots Q (F0 m tgt ls rest)) (kf : 0 < a → W p l e R s m args below meth c H locs cells slots Q (F0 m (pc + 3) ls rest)) : W p l e R s m args below meth c H locs cells slots Q (F0 m pc ls (.int (nI a) :: rest)) :=
  lv_if_le hx hb hdg ht (fun c => kt (Nat.le_zero.mp ((nI_leI ha (by decide)).mp c))) (fun c => kf (Nat.lt_of_not_le fun e => c ((nI_leI ha (by decide)).mpr e)))
theorem q_ifN_lt {a : Nat} {off : Int} (tgt : Nat) (ha : a < 2 ^ 31) (hx : p.tables.exec = Jvm.exec) (hb : c.code = cc) (hdg : decode cc pc = .ok (.ifCond .lt off, 3)) (ht : (pc : Int) + off = (tgt : Int))
    (kf : W p l e R s m args below meth c H locs cells slots Q (F0 m (pc + 3) ls rest)) : W p l e R s m args below meth c H locs cells slots Q (F0 m pc ls (.int (nI a) :: rest)) :=
  lv_if_lt hx hb hdg ht (fun c => absurd c (nI_pos ha)) (fun _ => kf)
theorem q_ifN_ge {a : Nat} {off : Int} {tgt : Nat} (ha : a < 2 ^ 31) (hx : p.tables.exec = Jvm.exec) (hb : c.code = cc) (hdg : decode cc pc = .ok (.ifCond .ge off, 3)) (ht : (pc : Int) + off = (tgt : Int))
    (kt : W p l e R s m args below meth c H locs cells slots Q (F0 m tgt ls rest)) : W p l e R s m args below meth c H locs cells slots Q (F0 m pc ls (.int (nI a) :: rest)) :=
  lv_if_ge hx hb hdg ht (fun _ => kt) (fun c => absurd (nI_pos' ha) c)
theorem q_ifB_eq {b : Bool} {off : Int} {tgt : Nat} (hx : p.tables.exec = Jvm.exec) (hb : c.code = cc) (hdg : decode cc pc = .ok (.ifCond .eq off, 3)) (ht : (pc : Int) + off = (tgt : Int))
    (kt : b = false → W p l e R s m args below meth c H locs cells slots Q (F0 m tgt ls rest)) (kf : b = true → W p l e R s m args below meth c H locs cells slots Q (F0 m (pc + 3) ls rest)) : W p l e R s m args below meth c H locs cells slots Q (F0 m pc ls (.int (bI b) :: rest)) :=
  lv_if_eq hx hb hdg ht (fun c => kt (bI_0.mp c)) (fun c => kf (bI_n0.mp c))
theorem q_ifB_ne {b : Bool} {off : Int} {tgt : Nat} (hx : p.tables.exec = Jvm.exec) (hb : c.code = cc) (hdg : decode cc pc = .ok (.ifCond .ne off, 3)) (ht : (pc : Int) + off = (tgt : Int))
    (kt : b = true → W p l e R s m args below meth c H locs cells slots Q (F0 m tgt ls rest)) (kf : b = false → W p l e R s m args below meth c H locs cells slots Q (F0 m (pc + 3) ls rest)) : W p l e R s m args below meth c H locs cells slots Q (F0 m pc ls (.int (bI b) :: rest)) :=
  lv_if_ne hx hb hdg ht (fun c => kt (bI_n0.mp c)) (fun c => kf (bI_0.mp c))
theorem q_icmpO_eq {a b : Option Nat} {off : Int} {tgt : Nat} (ha : ∀ k, a = some k → k < 2 ^ 31) (hb' : ∀ k, b = some k → k < 2 ^ 31) (hx : p.tables.exec = Jvm.exec) (hb : c.code = cc) (hdg : decode cc pc = .ok (.if_icmp .eq off, 3)) (ht : (pc : Int) + off = (tgt : Int))
    (kt : a = b → W p l e R s m args below meth c H locs cells slots Q (F0 m tgt ls rest)) (kf : a ≠ b → W p l e R s m args below meth c H locs cells slots Q (F0 m (pc + 3) ls rest)) : W p l e R s m args below meth c H locs cells slots Q (F0 m pc ls (.int (oI b) :: .int (oI a) :: rest)) :=
  lv_icmp_eq hx hb hdg ht (fun c => kt ((oI_inj ha hb').mp c)) (fun c => kf (fun e => c ((oI_inj ha hb').mpr e)))
theorem q_icmpO_ne {a b : Option Nat} {off : Int} {tgt : Nat} (ha : ∀ k, a = some k → k < 2 ^ 31) (hb' : ∀ k, b = some k → k < 2 ^ 31) (hx : p.tables.exec = Jvm.exec) (hb : c.code = cc) (hdg : decode cc pc = .ok (.if_icmp .ne off, 3)) (ht : (pc : Int) + off = (tgt : Int))
    (kt : a ≠ b → W p l e R s m args below meth c H locs cells slots Q (F0 m tgt ls rest)) (kf : a = b → W p l e R s m args below meth c H locs cells slots Q (F0 m (pc + 3) ls rest)) : W p l e R s m args below meth c H locs cells slots Q (F0 m pc ls (.int (oI b) :: .int (oI a) :: rest)) :=
  lv_icmp_ne hx hb hdg ht (fun c => kt (fun e => c ((oI_inj ha hb').mpr e))) (fun c => kf ((oI_inj ha hb').mp c))
theorem q_addN {a b : Nat} (hx : p.tables.exec = Jvm.exec) (hb : c.code = cc) (hdg : decode cc pc = .ok (.iadd, 1)) (kk : W p l e R s m args below meth c H locs cells slots Q (F0 m (pc + 1) ls (.int (nI (a + b)) :: rest))) : W p l e R s m args below meth c H locs cells slots Q (F0 m pc ls (.int (nI b) :: .int (nI a) :: rest)) :=
  lv_iadd hx hb hdg (q_top (nI_add a b) kk)
theorem q_mulN {a b : Nat} (hx : p.tables.exec = Jvm.exec) (hb : c.code = cc) (hdg : decode cc pc = .ok (.imul, 1)) (kk : W p l e R s m args below meth c H locs cells slots Q (F0 m (pc + 1) ls (.int (nI (a * b)) :: rest))) : W p l e R s m args below meth c H locs cells slots Q (F0 m pc ls (.int (nI b) :: .int (nI a) :: rest)) :=
  lv_imul hx hb hdg (q_top (pk_mul a b) kk)
theorem q_subN {a b : Nat} (h : b ≤ a) (hx : p.tables.exec = Jvm.exec) (hb : c.code = cc) (hdg : decode cc pc = .ok (.isub, 1)) (kk : W p l e R s m args below meth c H locs cells slots Q (F0 m (pc + 1) ls (.int (nI (a - b)) :: rest))) : W p l e R s m args below meth c H locs cells slots Q (F0 m pc ls (.int (nI b) :: .int (nI a) :: rest)) :=
  lv_isub hx hb hdg (q_top (pk_sub h) kk)
theorem q_addZ {a b : Int} (hx : p.tables.exec = Jvm.exec) (hb : c.code = cc) (hdg : decode cc pc = .ok (.iadd, 1)) (kk : W p l e R s m args below meth c H locs cells slots Q (F0 m (pc + 1) ls (.int (zI (a + b)) :: rest))) : W p l e R s m args below meth c H locs cells slots Q (F0 m pc ls (.int (zI b) :: .int (zI a) :: rest)) :=
  lv_iadd hx hb hdg (q_top (zI_add a b) kk)
theorem q_subZ {a b : Int} (hx : p.tables.exec = Jvm.exec) (hb : c.code = cc) (hdg : decode cc pc = .ok (.isub, 1)) (kk : W p l e R s m args below meth c H locs cells slots Q (F0 m (pc + 1) ls (.int (zI (a - b)) :: rest))) : W p l e R s m args below meth c H locs cells slots Q (F0 m pc ls (.int (zI b) :: .int (zI a) :: rest)) :=
  lv_isub hx hb hdg (q_top (zI_sub a b) kk)
theorem q_divN {a b : Nat} (ha : a < 2 ^ 31) (h0 : 0 < b) (hb' : b < 2 ^ 31) (hx : p.tables.exec = Jvm.exec) (hb : c.code = cc) (hdg : decode cc pc = .ok (.idiv, 1)) (kk : W p l e R s m args below meth c H locs cells slots Q (F0 m (pc + 1) ls (.int (nI (a / b)) :: rest))) : W p l e R s m args below meth c H locs cells slots Q (F0 m pc ls (.int (nI b) :: .int (nI a) :: rest)) :=
  lv_idiv hx hb hdg (fun e => Nat.ne_of_gt h0 ((nI_eq hb' (by decide)).mp e)) (q_top (pk_div ha h0 hb') kk)
theorem q_remN {a b : Nat} (ha : a < 2 ^ 31) (h0 : 0 < b) (hb' : b < 2 ^ 31) (hx : p.tables.exec = Jvm.exec) (hb : c.code = cc) (hdg : decode cc pc = .ok (.irem, 1)) (kk : W p l e R s m args below meth c H locs cells slots Q (F0 m (pc + 1) ls (.int (nI (a % b)) :: rest))) : W p l e R s m args below meth c H locs cells slots Q (F0 m pc ls (.int (nI b) :: .int (nI a) :: rest)) :=
  lv_irem hx hb hdg (fun e => Nat.ne_of_gt h0 ((nI_eq hb' (by decide)).mp e)) (q_top (pk_rem ha h0 hb') kk)
end HB
section HB2
variable {p : Program} {l : Launch} {e : Env} {R : Room} {s : State} {m : MethodId} {args : Array Value} {below : List Frame} {meth : Method} {c : Code} {H H0 : Heap} {locs : List Loc} {cells slots : Nat} {Q : State → Prop} {cc : ByteArray} {pc : Nat} {ls : Array Slot} {rest st0 : List Value} {D : va_G} {cl : List vw_C} {tys : List (ClassId × FieldType)} {ws : va_W} {a : Nat} {A : Nat → Prop}
theorem q_callI {r : Int32} {av : Array Value} (hr : va_Run p l e R s m args below meth c H locs cells slots 0 0 (F0 m pc ls st0) rest (pQ (some (.int r)) av) nF)
    (kk : W p l e R s m args below meth c H locs cells slots Q (F0 m (pc + 3) ls (.int r :: rest))) : W p l e R s m args below meth c H locs cells slots Q (F0 m pc ls st0) := q_call hr kk
theorem q_callJ {r : Int64} {av : Array Value} (hr : va_Run p l e R s m args below meth c H locs cells slots 0 0 (F0 m pc ls st0) rest (pQ (some (.long r)) av) nF)
    (kk : W p l e R s m args below meth c H locs cells slots Q (F0 m (pc + 3) ls (.long r :: rest))) : W p l e R s m args below meth c H locs cells slots Q (F0 m pc ls st0) := q_call hr kk
theorem q_callV {av : Array Value} (hr : va_Run p l e R s m args below meth c H locs cells slots 0 0 (F0 m pc ls st0) rest (pQ none av) nF)
    (kk : W p l e R s m args below meth c H locs cells slots Q (F0 m (pc + 3) ls rest)) : W p l e R s m args below meth c H locs cells slots Q (F0 m pc ls st0) := q_call hr kk
theorem q_retL {v r : Int64} (hx : p.tables.exec = Jvm.exec) (hb : c.code = cc) (hr : meth.sig.returnType = some .long) (hlocks : meth.locks = false) (hv : v = r) (hdg : decode cc pc = .ok (.lreturn, 1)) :
    W p l e R s m args below meth c s.heap [] 0 0 (MQ below (pQ (some (.long r))) args s 0 0 nF) (F0 m pc ls [.long v]) := by
  subst hv
  exact W.lret (v := v) hx hb hr (fun t ht hW => ⟨rfl, ht⟩) (fun z hz => by cases hz) hdg hlocks
/-- a static method that only reads its arguments -/
def sP (av : List Value) : Array Value → State → Prop := fun v _ => v = av.toArray
theorem sP_blind {av : List Value} : FrameBlind (sP av) := fun _ _ _ _ q => q
theorem sP_pre {av : List Value} {s : State} {H : Heap} : ∀ U : State, U.heap = H → s.WarmedH U.vm → sP av av.toArray U := fun _ _ _ => rfl
/-- a method that writes -/
def wP (D : va_G) (w : va_W) (ty : List (ClassId × FieldType)) (av : List Value) (sz : Nat) : Array Value → State → Prop := va_Pc av (fun U => U.heap.size = sz ∧ va_P D vwCl w U.heap ∧ va_K D vwCl ty U ∧ va_D (fun _ => True) w)
theorem wP_blind {D : va_G} {w : va_W} {ty : List (ClassId × FieldType)} {av : List Value} {sz : Nat} : FrameBlind (wP D w ty av sz) := fun a U g mk q => by
  obtain ⟨q0, q1, qP, qK, qD⟩ := q
  exact ⟨q0, q1, qP, va_K.moved (u := U) (U := U.calling g mk a) (Vm.Alike.refl U.vm) qK, qD⟩
theorem wP_pre {D : va_G} {w : va_W} {ty : List (ClassId × FieldType)} {av : List Value} {s : State} {H : Heap} {A : Nat → Prop} (hP : va_P D vwCl w H) (hK : va_K D vwCl ty s) (hD : va_D A w) : ∀ U : State, U.heap = H → s.WarmedH U.vm → wP D w ty av H.size av.toArray U :=
  fun U hU hW => ⟨rfl, by rw [hU], by rw [hU]; exact hP, va_K.moved hW.alike hK, ⟨hD.1, fun _ _ _ => trivial⟩⟩
/-- its end: the new cells -/
def wQ (D : va_G) (w w' : va_W) (v : Option Value) : Array Value → State → Outcome → State → Prop := fun _ st o t => o = .returned v ∧ va_P D vwCl w' t.heap ∧ va_F (va_A w st.heap.size) st t
theorem q_wretV {w w' : va_W} (hx : p.tables.exec = Jvm.exec) (hb : c.code = cc) (hr : meth.sig.returnType = none) (hlocks : meth.locks = false) (hAe : va_A w s.heap.size = A) (hP : va_P D vwCl w' H) (hS : va_S A s.heap H locs) (hdg : decode cc pc = .ok (.return_, 1)) :
    W p l e R s m args below meth c H locs 0 0 (MQ below (wQ D w w' none) args s 0 0 A) (F0 m pc ls []) :=
  W.vret hx hb hr (fun t ht hW => ⟨rfl, by rw [ht]; exact hP, by rw [hAe]; exact hS.F ht⟩) hS.2.2 hdg hlocks
theorem q_wretI {w w' : va_W} {v r : Int32} (hx : p.tables.exec = Jvm.exec) (hb : c.code = cc) (hr : meth.sig.returnType = some .int) (hlocks : meth.locks = false) (hAe : va_A w s.heap.size = A) (hP : va_P D vwCl w' H) (hS : va_S A s.heap H locs) (hv : v = r) (hdg : decode cc pc = .ok (.ireturn, 1)) :
    W p l e R s m args below meth c H locs 0 0 (MQ below (wQ D w w' (some (.int r))) args s 0 0 A) (F0 m pc ls [.int v]) := by
  subst hv
  exact W.iret (v := v) hx hb hr (fun t ht hW => ⟨rfl, by rw [ht]; exact hP, by rw [hAe]; exact hS.F ht⟩) hS.2.2 hdg hlocks
theorem q_wretZ {w w' : va_W} {v : Int32} {r : Bool} (hx : p.tables.exec = Jvm.exec) (hb : c.code = cc) (hr : meth.sig.returnType = some .boolean) (hlocks : meth.locks = false) (hAe : va_A w s.heap.size = A) (hP : va_P D vwCl w' H) (hS : va_S A s.heap H locs) (hv : v = bI r) (hdg : decode cc pc = .ok (.ireturn, 1)) :
    W p l e R s m args below meth c H locs 0 0 (MQ below (wQ D w w' (some (.int (bI r)))) args s 0 0 A) (F0 m pc ls [.int v]) := by
  subst hv
  exact W.zret (v := bI r) (ty := .boolean) hx hb hr (nar_bI r) (fun t ht hW => ⟨rfl, by rw [ht]; exact hP, by rw [hAe]; exact hS.F ht⟩) hS.2.2 hdg hlocks
/-- a call of a method that writes, its world being the caller's -/
theorem q_wcall {w w' : va_W} {v : Option Value} {av : Array Value} (hr : va_Run p l e R s m args below meth c H locs cells slots 0 0 (F0 m pc ls st0) rest (wQ D w w' v av) (va_A w H.size)) (hD : va_D A w) (hS : va_S A H0 H locs) (hA : ∀ q : Nat, H0.size ≤ q → A q) (he : w'.map Prod.fst = w.map Prod.fst)
    (kk : ∀ (H1 : Heap) (locs1 : List Loc), va_P D vwCl w' H1 → va_D A w' → va_S A H0 H1 locs1 → W p l e R s m args below meth c H1 locs1 cells slots Q (F0 m (pc + 3) ls (v.toList ++ rest))) : W p l e R s m args below meth c H locs cells slots Q (F0 m pc ls st0) := by
  have hF : ∀ q, va_A w H.size q → A q := by
    intro q h
    rcases h with ⟨k, e0, h⟩ | h
    · exact hD.2 k (q, e0) h
    · exact hA q (Nat.le_trans hS.1 h)
  intro T hT X
  obtain ⟨v', st₀, t, T', L, h0, X', hL, e1, e2, ⟨hv, hp, hz, hk⟩, st⟩ := hr T hT X
  cases hv
  rw [h0] at hz hk
  obtain ⟨t2, a1, b1⟩ := kk T'.heap (locs ++ L) (by rw [e1]; exact hp) (va_D_re hD he)
    ⟨Nat.le_trans hS.1 (by rw [e1]; exact hz), fun q h1 h2 => by rw [e1, hk q (Nat.lt_of_lt_of_le h1 hS.1) (fun z => h2 (hF q z))]; exact hS.2.1 q h1 h2, fun q hq => by
      rcases List.mem_append.mp hq with h | h
      · exact hS.2.2 q h
      · exact hF _ (hL q h)⟩ T' rfl X'
  exact ⟨t2, st t2 a1, b1⟩
theorem q_wcallI {w w' : va_W} {r : Int32} {av : Array Value} (hr : va_Run p l e R s m args below meth c H locs cells slots 0 0 (F0 m pc ls st0) rest (wQ D w w' (some (.int r)) av) (va_A w H.size)) (hD : va_D A w) (hS : va_S A H0 H locs) (hA : ∀ q : Nat, H0.size ≤ q → A q) (he : w'.map Prod.fst = w.map Prod.fst)
    (kk : ∀ (H1 : Heap) (locs1 : List Loc), va_P D vwCl w' H1 → va_D A w' → va_S A H0 H1 locs1 → W p l e R s m args below meth c H1 locs1 cells slots Q (F0 m (pc + 3) ls (.int r :: rest))) : W p l e R s m args below meth c H locs cells slots Q (F0 m pc ls st0) := q_wcall hr hD hS hA he kk
theorem q_wcallV {w w' : va_W} {av : Array Value} (hr : va_Run p l e R s m args below meth c H locs cells slots 0 0 (F0 m pc ls st0) rest (wQ D w w' none av) (va_A w H.size)) (hD : va_D A w) (hS : va_S A H0 H locs) (hA : ∀ q : Nat, H0.size ≤ q → A q) (he : w'.map Prod.fst = w.map Prod.fst)
    (kk : ∀ (H1 : Heap) (locs1 : List Loc), va_P D vwCl w' H1 → va_D A w' → va_S A H0 H1 locs1 → W p l e R s m args below meth c H1 locs1 cells slots Q (F0 m (pc + 3) ls rest)) : W p l e R s m args below meth c H locs cells slots Q (F0 m pc ls st0) := q_wcall hr hD hS hA he kk
/-- what a throw needs of the machine -/
def hbS : List (Nat × String) := [(70, "the parent is at the deepest level"), (75, "there have been 16 goods"), (84, "the parent is the good itself or below it"), (89, "some good would be too deep"), (95, "the good is the parent of a good"), (100, "the good is a part of a good"), (110, "the part is not lower than the good"), (113, "the quantity is out of range"), (115, "the quantity of the part would be more than 20"), (117, "the discount is out of range"), (124, "no such good"), (127, "the parent is neither -1 nor a good"), (145, "the value is out of range"), (147, "the day is out of range"), (149, "there have been 200 drafts"), (158, "the draft is not open"), (163, "the draft is rejected"), (165, "the days are out of range"), (170, "no such draft"), (182, "there is no value"), (197, "there is no price, or one that counts for it is too high"), (199, "no such attribute"), (201, "no such shop"), (203, "no such tongue")]
def exN : List String := ["java/lang/IndexOutOfBoundsException", "java/lang/IllegalStateException", "java/lang/IllegalArgumentException"]
def tE (U : State) : Prop := vx_Zq Bundle.tN "UNASSIGNED_STACK" Bundle.steD nF U U.heap ∧ vx_Zq Bundle.tN "SUPPRESSED_SENTINEL" Bundle.listD nF U U.heap ∧ (∀ q ∈ hbS, ∃ a, vk_R RX0 q.1 q.2 a U) ∧ ∀ E ∈ exN, va_Nw (.castable E E) U
theorem tE_calling {a : Array Value} {U : State} {g : JFrame} {mk : MethodId} (h : tE U) : tE (U.calling g mk a) :=
  ⟨vx_Zq.moved (u := U) (U := U.calling g mk a) (Vm.Alike.refl U.vm) h.1, vx_Zq.moved (u := U) (U := U.calling g mk a) (Vm.Alike.refl U.vm) h.2.1, fun q hq => (h.2.2.1 q hq).elim (fun a h9 => ⟨a, vk_R.same (u := U) rfl h9⟩), fun E hE => va_Nw.same rfl (u := U) rfl (h.2.2.2 E hE)⟩
theorem tE_warm {s U : State} (hW : s.WarmedH U.vm) (hH : U.heap = s.heap) (h : tE s) : tE U :=
  ⟨by rw [hH]; exact vx_Zq.moved hW.alike h.1, by rw [hH]; exact vx_Zq.moved hW.alike h.2.1, fun q hq => (h.2.2.1 q hq).elim (fun a h9 => ⟨a, vk_R.warm hW h9⟩), fun E hE => va_Nw.warmC hW (h.2.2.2 E hE)⟩
def tP (D : va_G) (w : va_W) (ty : List (ClassId × FieldType)) (av : List Value) : Array Value → State → Prop := va_Pc av (fun U => va_P D vwCl w U.heap ∧ va_K D vwCl ty U ∧ tE U)
def tPS (av : List Value) : Array Value → State → Prop := va_Pc av tE
theorem tP_blind {D : va_G} {w : va_W} {ty : List (ClassId × FieldType)} {av : List Value} : FrameBlind (tP D w ty av) := fun a U g mk q => by
  obtain ⟨q0, qP, qK, qE⟩ := q
  exact ⟨q0, qP, va_K.moved (u := U) (U := U.calling g mk a) (Vm.Alike.refl U.vm) qK, tE_calling qE⟩
theorem tPS_blind {av : List Value} : FrameBlind (tPS av) := fun _ _ _ _ q => ⟨q.1, tE_calling q.2⟩
theorem tP_pre {D : va_G} {w : va_W} {ty : List (ClassId × FieldType)} {av : List Value} {s : State} (hP : va_P D vwCl w s.heap) (hK : va_K D vwCl ty s) (hE : tE s) : ∀ U : State, U.heap = s.heap → s.WarmedH U.vm → tP D w ty av av.toArray U :=
  fun U hU hW => ⟨rfl, by rw [hU]; exact hP, va_K.moved hW.alike hK, tE_warm hW hU hE⟩
theorem tPS_pre {av : List Value} {s : State} (hE : tE s) : ∀ U : State, U.heap = s.heap → s.WarmedH U.vm → tPS av av.toArray U :=
  fun U hU hW => ⟨rfl, tE_warm hW hU hE⟩
def nQ : Array Value → State → Outcome → State → Prop := fun _ _ _ _ => False
/-- it has thrown an E0, and no cell that was there is another one now -/
def tX (E0 : String) : String → State → State → Prop := fun E st t => E = E0 ∧ st.heap.size ≤ t.heap.size ∧ ∀ q : Nat, q < st.heap.size → t.heap[q]? = st.heap[q]?
/-- a call of a method that throws, not caught here -/
theorem q_callT {E0 : String} {av : Array Value} (hlocks : meth.locks = false) (hexc : ∀ x ∈ c.exceptionTable.toList, False) (hr : vx_Run p l e R s m args below meth c s.heap [] 0 0 1 6 (F0 m pc ls st0) rest (nQ av) (tX E0) nF) :
    W p l e R s m args below meth c s.heap [] 0 0 (vx_MQ below nQ (tX E0) args s 1 6 nF) (F0 m pc ls st0) := by
  intro T hT X
  rcases hr T hT X with ⟨v, st₀, t, T', L, h0, X', hL, e1, e2, hq, st⟩ | ⟨q, st₀, t, T', L, E, ce, h0, X', hL, e1, e2, hXC, hce, hcv, hcl, st⟩
  · exact hq.elim
  · have hL0 : L = [] := by
      cases L with
      | nil => rfl
      | cons z r => exact absurd (hL z List.mem_cons_self) (fun q => q)
    subst hL0
    obtain ⟨g1, g2, g3⟩ := hXC
    rw [h0] at g2 g3
    rw [← e1] at hce g2 g3
    obtain ⟨t2, a1, b1⟩ := vx_out (Qc := nQ) (XC := tX E0) (free := nF) (mc := 1) (ms := 6) (pc := pc) (ls := ls) (rest := rest) (H := T'.heap) (E := E) (ce := ce) (q := q) (fun x hx => (hexc x hx).elim) hlocks hce hcv hcl
      (fun t9 h9 _ => ⟨g1, by rw [h9]; exact g2, fun q9 h8 => by rw [h9]; exact g3 q9 h8⟩) (fun z hz => by cases hz) (Nat.le_refl 1) (Nat.le_refl 6) T' rfl X'
    exact ⟨t2, st.trans a1, b1⟩
end HB2
end
section
set_option maxRecDepth 20000 in
theorem iX0_init : ∀ w ∈ wsX00, w ∈ wsX0_init := by decide +kernel
set_option maxRecDepth 20000 in
theorem iX0_addGood : ∀ w ∈ wsX00, w ∈ wsX0_addGood := by decide +kernel
set_option maxRecDepth 20000 in
theorem iX0_move : ∀ w ∈ wsX00, w ∈ wsX0_move := by decide +kernel
set_option maxRecDepth 20000 in
theorem iX0_delete : ∀ w ∈ wsX00, w ∈ wsX0_delete := by decide +kernel
set_option maxRecDepth 20000 in
theorem iX0_addPart : ∀ w ∈ wsX00, w ∈ wsX0_addPart := by decide +kernel
set_option maxRecDepth 20000 in
theorem iX0_setDiscount : ∀ w ∈ wsX00, w ∈ wsX0_setDiscount := by decide +kernel
set_option maxRecDepth 20000 in
theorem iX0_isGood : ∀ w ∈ wsX00, w ∈ wsX0_isGood := by decide +kernel
set_option maxRecDepth 20000 in
theorem iX0_levelOf : ∀ w ∈ wsX00, w ∈ wsX0_levelOf := by decide +kernel
set_option maxRecDepth 20000 in
theorem iX0_isWithin : ∀ w ∈ wsX00, w ∈ wsX0_isWithin := by decide +kernel
set_option maxRecDepth 20000 in
theorem iX0_isParent : ∀ w ∈ wsX00, w ∈ wsX0_isParent := by decide +kernel
set_option maxRecDepth 20000 in
theorem iX0_isPart : ∀ w ∈ wsX00, w ∈ wsX0_isPart := by decide +kernel
set_option maxRecDepth 20000 in
theorem iX0_draft : ∀ w ∈ wsX00, w ∈ wsX0_draft := by decide +kernel
set_option maxRecDepth 20000 in
theorem iX0_approve : ∀ w ∈ wsX00, w ∈ wsX0_approve := by decide +kernel
set_option maxRecDepth 20000 in
theorem iX0_reject : ∀ w ∈ wsX00, w ∈ wsX0_reject := by decide +kernel
set_option maxRecDepth 20000 in
theorem iX0_pass : ∀ w ∈ wsX00, w ∈ wsX0_pass := by decide +kernel
set_option maxRecDepth 20000 in
theorem iX0_isEntered : ∀ w ∈ wsX00, w ∈ wsX0_isEntered := by decide +kernel
set_option maxRecDepth 20000 in
theorem iX0_checkDraft : ∀ w ∈ wsX00, w ∈ wsX0_checkDraft := by decide +kernel
set_option maxRecDepth 20000 in
theorem iX0_holdsAtItsPlace : ∀ w ∈ wsX00, w ∈ wsX0_holdsAtItsPlace := by decide +kernel
set_option maxRecDepth 20000 in
theorem iX0_deleteDraftsOf : ∀ w ∈ wsX00, w ∈ wsX0_deleteDraftsOf := by decide +kernel
set_option maxRecDepth 20000 in
theorem iX0_settleHolders : ∀ w ∈ wsX00, w ∈ wsX0_settleHolders := by decide +kernel
set_option maxRecDepth 20000 in
theorem iX0_putHolder : ∀ w ∈ wsX00, w ∈ wsX0_putHolder := by decide +kernel
set_option maxRecDepth 20000 in
theorem iX0_told : ∀ w ∈ wsX00, w ∈ wsX0_told := by decide +kernel
set_option maxRecDepth 20000 in
theorem iX0_toggleAsked : ∀ w ∈ wsX00, w ∈ wsX0_toggleAsked := by decide +kernel
set_option maxRecDepth 20000 in
theorem iX0_complete : ∀ w ∈ wsX00, w ∈ wsX0_complete := by decide +kernel
set_option maxRecDepth 20000 in
theorem iX0_findValue : ∀ w ∈ wsX00, w ∈ wsX0_findValue := by decide +kernel
set_option maxRecDepth 20000 in
theorem iX0_findOrigin : ∀ w ∈ wsX00, w ∈ wsX0_findOrigin := by decide +kernel
set_option maxRecDepth 20000 in
theorem iX0_findOwnOrigin : ∀ w ∈ wsX00, w ∈ wsX0_findOwnOrigin := by decide +kernel
set_option maxRecDepth 20000 in
theorem iX0_findMissing : ∀ w ∈ wsX00, w ∈ wsX0_findMissing := by decide +kernel
set_option maxRecDepth 20000 in
theorem iX0_findPrice : ∀ w ∈ wsX00, w ∈ wsX0_findPrice := by decide +kernel
set_option maxRecDepth 20000 in
theorem iX0_sumUpParts : ∀ w ∈ wsX00, w ∈ wsX0_sumUpParts := by decide +kernel
set_option maxRecDepth 20000 in
theorem iX0_looksChanged : ∀ w ∈ wsX00, w ∈ wsX0_looksChanged := by decide +kernel
set_option maxRecDepth 20000 in
theorem iX0_rememberSights : ∀ w ∈ wsX00, w ∈ wsX0_rememberSights := by decide +kernel
set_option maxRecDepth 20000 in
theorem iX1_init : ∀ w ∈ wsX10, w ∈ wsX1_init := by decide +kernel
set_option maxRecDepth 20000 in
theorem iX1_thrown : ∀ w ∈ wsX10, w ∈ wsX1_thrown := by decide +kernel
set_option maxRecDepth 20000 in
theorem iX1_fails : ∀ w ∈ wsX10, w ∈ wsX1_fails := by decide +kernel
set_option maxRecDepth 20000 in
theorem iX1_isGood : ∀ w ∈ wsX10, w ∈ wsX1_isGood := by decide +kernel
set_option maxRecDepth 20000 in
theorem iX1_level : ∀ w ∈ wsX10, w ∈ wsX1_level := by decide +kernel
set_option maxRecDepth 20000 in
theorem iX1_isBelow : ∀ w ∈ wsX10, w ∈ wsX1_isBelow := by decide +kernel
set_option maxRecDepth 20000 in
theorem iX1_addGood : ∀ w ∈ wsX10, w ∈ wsX1_addGood := by decide +kernel
set_option maxRecDepth 20000 in
theorem iX1_move : ∀ w ∈ wsX10, w ∈ wsX1_move := by decide +kernel
set_option maxRecDepth 20000 in
theorem iX1_delete : ∀ w ∈ wsX10, w ∈ wsX1_delete := by decide +kernel
set_option maxRecDepth 20000 in
theorem iX1_addPart : ∀ w ∈ wsX10, w ∈ wsX1_addPart := by decide +kernel
set_option maxRecDepth 20000 in
theorem iX1_setDiscount : ∀ w ∈ wsX10, w ∈ wsX1_setDiscount := by decide +kernel
set_option maxRecDepth 20000 in
theorem iX1_draft : ∀ w ∈ wsX10, w ∈ wsX1_draft := by decide +kernel
set_option maxRecDepth 20000 in
theorem iX1_holds : ∀ w ∈ wsX10, w ∈ wsX1_holds := by decide +kernel
set_option maxRecDepth 20000 in
theorem iX1_isHolding : ∀ w ∈ wsX10, w ∈ wsX1_isHolding := by decide +kernel
set_option maxRecDepth 20000 in
theorem iX1_isDraft : ∀ w ∈ wsX10, w ∈ wsX1_isDraft := by decide +kernel
set_option maxRecDepth 20000 in
theorem iX1_approve : ∀ w ∈ wsX10, w ∈ wsX1_approve := by decide +kernel
set_option maxRecDepth 20000 in
theorem iX1_reject : ∀ w ∈ wsX10, w ∈ wsX1_reject := by decide +kernel
set_option maxRecDepth 20000 in
theorem iX1_pass : ∀ w ∈ wsX10, w ∈ wsX1_pass := by decide +kernel
set_option maxRecDepth 20000 in
theorem iX1_originOf : ∀ w ∈ wsX10, w ∈ wsX1_originOf := by decide +kernel
set_option maxRecDepth 20000 in
theorem iX1_valueOf : ∀ w ∈ wsX10, w ∈ wsX1_valueOf := by decide +kernel
set_option maxRecDepth 20000 in
theorem iX1_told : ∀ w ∈ wsX10, w ∈ wsX1_told := by decide +kernel
set_option maxRecDepth 20000 in
theorem iX1_toggleAsked : ∀ w ∈ wsX10, w ∈ wsX1_toggleAsked := by decide +kernel
set_option maxRecDepth 20000 in
theorem iX1_lacks : ∀ w ∈ wsX10, w ∈ wsX1_lacks := by decide +kernel
set_option maxRecDepth 20000 in
theorem iX1_complete : ∀ w ∈ wsX10, w ∈ wsX1_complete := by decide +kernel
set_option maxRecDepth 20000 in
theorem iX1_bundle : ∀ w ∈ wsX10, w ∈ wsX1_bundle := by decide +kernel
set_option maxRecDepth 20000 in
theorem iX1_price : ∀ w ∈ wsX10, w ∈ wsX1_price := by decide +kernel
set_option maxRecDepth 20000 in
theorem iX1_sees : ∀ w ∈ wsX10, w ∈ wsX1_sees := by decide +kernel
set_option maxRecDepth 20000 in
theorem iX1_differs : ∀ w ∈ wsX10, w ∈ wsX1_differs := by decide +kernel
set_option maxRecDepth 20000 in
theorem iX1_feed : ∀ w ∈ wsX10, w ∈ wsX1_feed := by decide +kernel
set_option maxRecDepth 20000 in
theorem thI_checkParent : ∀ w ∈ (vx_atS RX0 126 "java/lang/IndexOutOfBoundsException" ["java/lang/RuntimeException", "java/lang/Exception"]).filter goodWord, w ∈ wsX0_checkParent := by decide +kernel
set_option maxRecDepth 20000 in
theorem thI_addGood : ∀ w ∈ (vx_atS RX0 126 "java/lang/IndexOutOfBoundsException" ["java/lang/RuntimeException", "java/lang/Exception"]).filter goodWord, w ∈ wsX0_addGood := by decide +kernel
set_option maxRecDepth 20000 in
theorem thS_addGood : ∀ w ∈ (vx_atS RX0 72 "java/lang/IllegalStateException" ["java/lang/RuntimeException", "java/lang/Exception"]).filter goodWord, w ∈ wsX0_addGood := by decide +kernel
set_option maxRecDepth 20000 in
theorem thI_checkGood : ∀ w ∈ (vx_atS RX0 126 "java/lang/IndexOutOfBoundsException" ["java/lang/RuntimeException", "java/lang/Exception"]).filter goodWord, w ∈ wsX0_checkGood := by decide +kernel
set_option maxRecDepth 20000 in
theorem thI_move : ∀ w ∈ (vx_atS RX0 126 "java/lang/IndexOutOfBoundsException" ["java/lang/RuntimeException", "java/lang/Exception"]).filter goodWord, w ∈ wsX0_move := by decide +kernel
set_option maxRecDepth 20000 in
theorem thS_move : ∀ w ∈ (vx_atS RX0 72 "java/lang/IllegalStateException" ["java/lang/RuntimeException", "java/lang/Exception"]).filter goodWord, w ∈ wsX0_move := by decide +kernel
set_option maxRecDepth 20000 in
theorem thI_delete : ∀ w ∈ (vx_atS RX0 126 "java/lang/IndexOutOfBoundsException" ["java/lang/RuntimeException", "java/lang/Exception"]).filter goodWord, w ∈ wsX0_delete := by decide +kernel
set_option maxRecDepth 20000 in
theorem thS_delete : ∀ w ∈ (vx_atS RX0 72 "java/lang/IllegalStateException" ["java/lang/RuntimeException", "java/lang/Exception"]).filter goodWord, w ∈ wsX0_delete := by decide +kernel
set_option maxRecDepth 20000 in
theorem thI_addPart : ∀ w ∈ (vx_atS RX0 126 "java/lang/IndexOutOfBoundsException" ["java/lang/RuntimeException", "java/lang/Exception"]).filter goodWord, w ∈ wsX0_addPart := by decide +kernel
set_option maxRecDepth 20000 in
theorem thS_addPart : ∀ w ∈ (vx_atS RX0 72 "java/lang/IllegalStateException" ["java/lang/RuntimeException", "java/lang/Exception"]).filter goodWord, w ∈ wsX0_addPart := by decide +kernel
set_option maxRecDepth 20000 in
theorem thA_addPart : ∀ w ∈ (vx_atS RX0 112 "java/lang/IllegalArgumentException" ["java/lang/RuntimeException", "java/lang/Exception"]).filter goodWord, w ∈ wsX0_addPart := by decide +kernel
set_option maxRecDepth 20000 in
theorem thI_setDiscount : ∀ w ∈ (vx_atS RX0 126 "java/lang/IndexOutOfBoundsException" ["java/lang/RuntimeException", "java/lang/Exception"]).filter goodWord, w ∈ wsX0_setDiscount := by decide +kernel
set_option maxRecDepth 20000 in
theorem thA_setDiscount : ∀ w ∈ (vx_atS RX0 112 "java/lang/IllegalArgumentException" ["java/lang/RuntimeException", "java/lang/Exception"]).filter goodWord, w ∈ wsX0_setDiscount := by decide +kernel
set_option maxRecDepth 20000 in
theorem thI_checkAttribute : ∀ w ∈ (vx_atS RX0 126 "java/lang/IndexOutOfBoundsException" ["java/lang/RuntimeException", "java/lang/Exception"]).filter goodWord, w ∈ wsX0_checkAttribute := by decide +kernel
set_option maxRecDepth 20000 in
theorem thI_checkShop : ∀ w ∈ (vx_atS RX0 126 "java/lang/IndexOutOfBoundsException" ["java/lang/RuntimeException", "java/lang/Exception"]).filter goodWord, w ∈ wsX0_checkShop := by decide +kernel
set_option maxRecDepth 20000 in
theorem thI_checkTongue : ∀ w ∈ (vx_atS RX0 126 "java/lang/IndexOutOfBoundsException" ["java/lang/RuntimeException", "java/lang/Exception"]).filter goodWord, w ∈ wsX0_checkTongue := by decide +kernel
set_option maxRecDepth 20000 in
theorem thI_draft : ∀ w ∈ (vx_atS RX0 126 "java/lang/IndexOutOfBoundsException" ["java/lang/RuntimeException", "java/lang/Exception"]).filter goodWord, w ∈ wsX0_draft := by decide +kernel
set_option maxRecDepth 20000 in
theorem thS_draft : ∀ w ∈ (vx_atS RX0 72 "java/lang/IllegalStateException" ["java/lang/RuntimeException", "java/lang/Exception"]).filter goodWord, w ∈ wsX0_draft := by decide +kernel
set_option maxRecDepth 20000 in
theorem thA_draft : ∀ w ∈ (vx_atS RX0 112 "java/lang/IllegalArgumentException" ["java/lang/RuntimeException", "java/lang/Exception"]).filter goodWord, w ∈ wsX0_draft := by decide +kernel
set_option maxRecDepth 20000 in
theorem thI_checkDraft : ∀ w ∈ (vx_atS RX0 126 "java/lang/IndexOutOfBoundsException" ["java/lang/RuntimeException", "java/lang/Exception"]).filter goodWord, w ∈ wsX0_checkDraft := by decide +kernel
set_option maxRecDepth 20000 in
theorem thI_approve : ∀ w ∈ (vx_atS RX0 126 "java/lang/IndexOutOfBoundsException" ["java/lang/RuntimeException", "java/lang/Exception"]).filter goodWord, w ∈ wsX0_approve := by decide +kernel
set_option maxRecDepth 20000 in
theorem thS_approve : ∀ w ∈ (vx_atS RX0 72 "java/lang/IllegalStateException" ["java/lang/RuntimeException", "java/lang/Exception"]).filter goodWord, w ∈ wsX0_approve := by decide +kernel
set_option maxRecDepth 20000 in
theorem thI_reject : ∀ w ∈ (vx_atS RX0 126 "java/lang/IndexOutOfBoundsException" ["java/lang/RuntimeException", "java/lang/Exception"]).filter goodWord, w ∈ wsX0_reject := by decide +kernel
set_option maxRecDepth 20000 in
theorem thS_reject : ∀ w ∈ (vx_atS RX0 72 "java/lang/IllegalStateException" ["java/lang/RuntimeException", "java/lang/Exception"]).filter goodWord, w ∈ wsX0_reject := by decide +kernel
set_option maxRecDepth 20000 in
theorem thA_pass : ∀ w ∈ (vx_atS RX0 112 "java/lang/IllegalArgumentException" ["java/lang/RuntimeException", "java/lang/Exception"]).filter goodWord, w ∈ wsX0_pass := by decide +kernel
set_option maxRecDepth 20000 in
theorem thI_value : ∀ w ∈ (vx_atS RX0 126 "java/lang/IndexOutOfBoundsException" ["java/lang/RuntimeException", "java/lang/Exception"]).filter goodWord, w ∈ wsX0_value := by decide +kernel
set_option maxRecDepth 20000 in
theorem thS_value : ∀ w ∈ (vx_atS RX0 72 "java/lang/IllegalStateException" ["java/lang/RuntimeException", "java/lang/Exception"]).filter goodWord, w ∈ wsX0_value := by decide +kernel
set_option maxRecDepth 20000 in
theorem thI_price : ∀ w ∈ (vx_atS RX0 126 "java/lang/IndexOutOfBoundsException" ["java/lang/RuntimeException", "java/lang/Exception"]).filter goodWord, w ∈ wsX0_price := by decide +kernel
set_option maxRecDepth 20000 in
theorem thS_price : ∀ w ∈ (vx_atS RX0 72 "java/lang/IllegalStateException" ["java/lang/RuntimeException", "java/lang/Exception"]).filter goodWord, w ∈ wsX0_price := by decide +kernel
end
section
/-! the two pictures: the cells of a hub, and of the reference -/
def hW (h : Nat) (ad : Nat → Nat) (cI cZ : ClassId) (ex : Nat → Bool) (pa : Nat → Option Nat) (di qu : Nat → Nat) (gc : Nat) (dg dp : Nat → Nat) (dv : Nat → Option Nat) (dd ds : Nat → Nat) (dc td : Nat) (ho : Nat → Option Nat) (ak : Nat → Bool) (se pr : Nat → Option Nat) : va_W :=
  [(h, .inr (0, [.ref (ad 0), .ref (ad 1), .ref (ad 2), .ref (ad 3), .int (nI gc), .ref (ad 5), .ref (ad 6), .ref (ad 7), .ref (ad 8), .ref (ad 9), .int (nI dc), .int (nI td), .ref (ad 12), .ref (ad 13), .ref (ad 14), .ref (ad 15)])),
   (ad 0, .inl (cZ, 16, .inl (fun j => bI (ex j)))),
   (ad 1, .inl (cI, 16, .inl (fun j => oI (pa j)))),
   (ad 2, .inl (cI, 16, .inl (fun j => nI (di j)))),
   (ad 3, .inl (cI, 256, .inl (fun j => nI (qu j)))),
   (ad 5, .inl (cI, 200, .inl (fun j => nI (dg j)))),
   (ad 6, .inl (cI, 200, .inl (fun j => nI (dp j)))),
   (ad 7, .inl (cI, 200, .inl (fun j => oI (dv j)))),
   (ad 8, .inl (cI, 200, .inl (fun j => nI (dd j)))),
   (ad 9, .inl (cI, 200, .inl (fun j => nI (ds j)))),
   (ad 12, .inl (cI, 1536, .inl (fun j => oI (ho j)))),
   (ad 13, .inl (cZ, 18, .inl (fun j => bI (ak j)))),
   (ad 14, .inl (cI, 864, .inl (fun j => oI (se j)))),
   (ad 15, .inl (cI, 16, .inl (fun j => oI (pr j))))]
abbrev hT (cI cZ : ClassId) : List (ClassId × FieldType) := [(cZ, .boolean), (cI, .int)]
def mW (h : Nat) (ad : Nat → Nat) (cI cJ cZ : ClassId) (td gc : Nat) (ex : Nat → Bool) (pa : Nat → Option Nat) (di qu : Nat → Nat) (dc : Nat) (dg da : Nat → Nat) (dh dt dv : Nat → Option Nat) (dd ds : Nat → Nat) (ak : Nat → Bool) (se pr : Nat → Option Nat) (th : Nat) : va_W :=
  [(h, .inr (1, [.int (nI td), .int (nI gc), .ref (ad 2), .ref (ad 3), .ref (ad 4), .ref (ad 5), .int (nI dc), .ref (ad 7), .ref (ad 8), .ref (ad 9), .ref (ad 10), .ref (ad 11), .ref (ad 12), .ref (ad 13), .ref (ad 14), .ref (ad 15), .ref (ad 16), .int (nI th)])),
   (ad 2, .inl (cZ, 16, .inl (fun j => bI (ex j)))),
   (ad 3, .inl (cI, 16, .inl (fun j => oI (pa j)))),
   (ad 4, .inl (cI, 16, .inl (fun j => nI (di j)))),
   (ad 5, .inl (cI, 256, .inl (fun j => nI (qu j)))),
   (ad 7, .inl (cI, 200, .inl (fun j => nI (dg j)))),
   (ad 8, .inl (cI, 200, .inl (fun j => nI (da j)))),
   (ad 9, .inl (cI, 200, .inl (fun j => oI (dh j)))),
   (ad 10, .inl (cI, 200, .inl (fun j => oI (dt j)))),
   (ad 11, .inl (cI, 200, .inl (fun j => oI (dv j)))),
   (ad 12, .inl (cI, 200, .inl (fun j => nI (dd j)))),
   (ad 13, .inl (cI, 200, .inl (fun j => nI (ds j)))),
   (ad 14, .inl (cZ, 18, .inl (fun j => bI (ak j)))),
   (ad 15, .inl (cI, 864, .inl (fun j => oI (se j)))),
   (ad 16, .inl (cJ, 16, .inr (.inl (fun j => oL (pr j)))))]
abbrev mT (cI cJ cZ : ClassId) : List (ClassId × FieldType) := [(cZ, .boolean), (cI, .int), (cJ, .long)]
/-- the forest: each good that is there has its level (ghost) and its parent; the others have none -/
def TI (ex : Nat → Bool) (pa : Nat → Option Nat) (lev : Nat → Nat) : Prop :=
  ∀ g, g < 16 → ex g = true → lev g ≤ 2 ∧ ((pa g = none ∧ lev g = 0) ∨ ∃ p, p < 16 ∧ ex p = true ∧ pa g = some p ∧ lev g = lev p + 1)
theorem TI_some {ex : Nat → Bool} {pa : Nat → Option Nat} {lev : Nat → Nat} (h : TI ex pa lev) {g p : Nat} (hg : g < 16) (he : ex g = true) (hp : pa g = some p) : p < 16 ∧ ex p = true ∧ lev g = lev p + 1 := by
  obtain ⟨-, ⟨h1, -⟩ | ⟨q, h1, h2, h3, h4⟩⟩ := h g hg he
  · rw [h1] at hp; cases hp
  · rw [h3] at hp
    cases hp
    exact ⟨h1, h2, h4⟩
theorem TI_none {ex : Nat → Bool} {pa : Nat → Option Nat} {lev : Nat → Nat} (h : TI ex pa lev) {g : Nat} (hg : g < 16) (he : ex g = true) (hp : pa g = none) : lev g = 0 := by
  obtain ⟨-, ⟨-, h1⟩ | ⟨q, h1, h2, h3, h4⟩⟩ := h g hg he
  · exact h1
  · rw [h3] at hp; cases hp
theorem TI_le {ex : Nat → Bool} {pa : Nat → Option Nat} {lev : Nat → Nat} (h : TI ex pa lev) {g : Nat} (hg : g < 16) (he : ex g = true) : lev g ≤ 2 := (h g hg he).1
/-- a parent or none: what it may be -/
def okO (ex : Nat → Bool) (o : Option Nat) : Prop := ∀ k, o = some k → k < 16 ∧ ex k = true
theorem TI_ok {ex : Nat → Bool} {pa : Nat → Option Nat} {lev : Nat → Nat} (h : TI ex pa lev) {g : Nat} (hg : g < 16) (he : ex g = true) : okO ex (pa g) := fun _ hk => ⟨(TI_some h hg he hk).1, (TI_some h hg he hk).2.1⟩
/-- the level of a good, -1 for none -/
def lvZ (lev : Nat → Nat) (o : Option Nat) : Int := match o with
  | none => -1
  | some g => (lev g : Int)
/-- t is k, or above it, within n steps -/
def bel (pa : Nat → Option Nat) (t : Nat) : Nat → Option Nat → Bool
  | 0, _ => false
  | _ + 1, none => false
  | n + 1, some k => (k == t) || bel pa t n (pa k)
/-- some number below n -/
def exU (f : Nat → Bool) : Nat → Bool
  | 0 => false
  | n + 1 => exU f n || f n
theorem exU_no {f : Nat → Bool} : ∀ {n : Nat}, exU f n = false ↔ ∀ k, k < n → f k = false
  | 0 => ⟨fun _ k hk => absurd hk (Nat.not_lt_zero k), fun _ => rfl⟩
  | n + 1 => by
    rw [exU, Bool.or_eq_false_iff, exU_no (n := n)]
    constructor
    · intro h k hk
      rcases Nat.lt_or_ge k n with q | q
      · exact h.1 k q
      · have e : k = n := by omega
        rw [e]; exact h.2
    · intro h
      exact ⟨fun k hk => h k (by omega), h n (by omega)⟩
theorem exU_yes {f : Nat → Bool} {n k : Nat} (hk : k < n) (h : f k = true) : exU f n = true := by
  cases e : exU f n with
  | true => rfl
  | false => rw [exU_no.mp e k hk] at h; cases h
/-- the place of a draft: shop and tongue count from 1, 0 is all -/
def plc (g a sh to : Nat) : Nat := (g * 6 + a) * 16 + (sh * 4 + to)
theorem lvZ_ge (lev : Nat → Nat) (o : Option Nat) : -1 ≤ lvZ lev o := by
  cases o with
  | none => exact Int.le_refl _
  | some g => show (-1 : Int) ≤ (lev g : Int); omega
theorem lvZ_le {ex : Nat → Bool} {pa : Nat → Option Nat} {lev : Nat → Nat} (h : TI ex pa lev) {o : Option Nat} (ho : okO ex o) : lvZ lev o ≤ 2 := by
  cases o with
  | none => show (-1 : Int) ≤ 2; omega
  | some g =>
    have h1 := TI_le h (ho g rfl).1 (ho g rfl).2
    show (lev g : Int) ≤ 2
    omega
theorem lvZ_pa {ex : Nat → Bool} {pa : Nat → Option Nat} {lev : Nat → Nat} (h : TI ex pa lev) {g : Nat} (hg : g < 16) (he : ex g = true) : lvZ lev (pa g) = (lev g : Int) - 1 := by
  cases hp : pa g with
  | none =>
    have h1 := TI_none h hg he hp
    show (-1 : Int) = (lev g : Int) - 1
    omega
  | some q =>
    have h1 := (TI_some h hg he hp).2.2
    show (lev q : Int) = (lev g : Int) - 1
    omega
/-- each parent is a number below 16 -/
def PR (pa : Nat → Option Nat) : Prop := ∀ g, g < 16 → ∀ k, pa g = some k → k < 16
/-- as bel, over goods that are there -/
def wth (ex : Nat → Bool) (pa : Nat → Option Nat) (t : Nat) : Nat → Option Nat → Bool
  | 0, _ => false
  | _ + 1, none => false
  | n + 1, some k => ex k && ((k == t) || wth ex pa t n (pa k))
theorem wth_some {ex : Nat → Bool} {pa : Nat → Option Nat} {t n m k : Nat} (h : n = m + 1) : wth ex pa t n (some k) = (ex k && ((k == t) || wth ex pa t m (pa k))) := by subst h; rfl
theorem wth_none {ex : Nat → Bool} {pa : Nat → Option Nat} {t n : Nat} : wth ex pa t n none = false := by cases n <;> rfl
theorem retT {b : Bool} (h : b = true) : nI 1 = bI b := by rw [h]; decide
theorem retF {b : Bool} (h : b = false) : nI 0 = bI b := by rw [h]; decide
/-- the first of two that is one -/
def orE : Option Nat → Option Nat → Option Nat
  | some x, _ => some x
  | none, y => y
theorem orE_l {x y : Option Nat} (h : x ≠ none) : orE x y = x := by
  cases x with
  | none => exact absurd rfl h
  | some k => rfl
theorem orE_r {x y : Option Nat} (h : x = none) : orE x y = y := by subst h; rfl
theorem orE_in {x y : Option Nat} {P : Nat → Prop} (hx : ∀ k, x = some k → P k) (hy : ∀ k, y = some k → P k) : ∀ k, orE x y = some k → P k := by
  intro k h
  cases x with
  | none => exact hy k h
  | some j => exact hx k h
/-- the draft that decides among a good's own places -/
def own (ho : Nat → Option Nat) (g a sh to : Nat) : Option Nat := orE (ho (plc g a sh to)) (orE (ho (plc g a sh 0)) (orE (ho (plc g a 0 to)) (ho (plc g a 0 0))))
theorem plc_lt {g a sh to : Nat} (hg : g < 16) (ha : a < 6) (hs : sh < 4) (ht : to < 4) : plc g a sh to < 1536 := by unfold plc; omega
/-- each holder is a draft that has been entered -/
def HO (ho : Nat → Option Nat) (dc : Nat) : Prop := ∀ q, q < 1536 → ∀ k, ho q = some k → k < dc
theorem own_in {ho : Nat → Option Nat} {dc g a sh to : Nat} (h : HO ho dc) (hg : g < 16) (ha : a < 6) (hs : sh < 4) (ht : to < 4) : ∀ k, own ho g a sh to = some k → k < dc :=
  orE_in (h _ (plc_lt hg ha hs ht)) (orE_in (h _ (plc_lt hg ha hs (by omega))) (orE_in (h _ (plc_lt hg ha (by omega) ht)) (h _ (plc_lt hg ha (by omega) (by omega)))))
/-- the draft that decides, in the good and above it -/
def org (ex : Nat → Bool) (pa ho : Nat → Option Nat) (a sh to : Nat) : Nat → Option Nat → Option Nat
  | 0, _ => none
  | _ + 1, none => none
  | n + 1, some k => if ex k = true then orE (own ho k a sh to) (org ex pa ho a sh to n (pa k)) else none
theorem org_some {ex : Nat → Bool} {pa ho : Nat → Option Nat} {a sh to n m k : Nat} (h : n = m + 1) : org ex pa ho a sh to n (some k) = if ex k = true then orE (own ho k a sh to) (org ex pa ho a sh to m (pa k)) else none := by subst h; rfl
theorem org_none {ex : Nat → Bool} {pa ho : Nat → Option Nat} {a sh to n : Nat} : org ex pa ho a sh to n none = none := by cases n <;> rfl
theorem org_in {ex : Nat → Bool} {pa ho : Nat → Option Nat} {dc a sh to : Nat} (h : HO ho dc) (hp : PR pa) (ha : a < 6) (hs : sh < 4) (ht : to < 4) : ∀ (n : Nat) (o : Option Nat), (∀ k, o = some k → k < 16) → ∀ k, org ex pa ho a sh to n o = some k → k < dc
  | 0, _, _, k, e => by cases e
  | _ + 1, none, _, k, e => by cases e
  | n + 1, some q, hq, k, e => by
    rw [org_some rfl] at e
    by_cases c : ex q = true
    · rw [if_pos c] at e
      exact orE_in (own_in h (hq q rfl) ha hs ht) (org_in h hp ha hs ht n (pa q) (hp q (hq q rfl))) k e
    · rw [if_neg c] at e; cases e
/-- the value that a good has -/
def vlu (ex : Nat → Bool) (pa ho dv : Nat → Option Nat) (a sh to g : Nat) : Option Nat := match org ex pa ho a sh to 3 (some g) with
  | none => none
  | some k => dv k
theorem vlu_none {ex : Nat → Bool} {pa ho dv : Nat → Option Nat} {a sh to g : Nat} (h : none = org ex pa ho a sh to 3 (some g)) : vlu ex pa ho dv a sh to g = none := by unfold vlu; rw [← h]
theorem vlu_some {ex : Nat → Bool} {pa ho dv : Nat → Option Nat} {a sh to g k : Nat} (h : some k = org ex pa ho a sh to 3 (some g)) : vlu ex pa ho dv a sh to g = dv k := by unfold vlu; rw [← h]
/-- the values that drafts tell are at most 100000 -/
def DV (dv : Nat → Option Nat) (dc : Nat) : Prop := ∀ k, k < dc → ∀ v, dv k = some v → v ≤ 100000
theorem vlu_in {ex : Nat → Bool} {pa ho dv : Nat → Option Nat} {dc a sh to g : Nat} (h : HO ho dc) (hp : PR pa) (hv : DV dv dc) (hg : g < 16) (ha : a < 6) (hs : sh < 4) (ht : to < 4) : ∀ v, vlu ex pa ho dv a sh to g = some v → v ≤ 100000 := by
  intro v e
  cases ho2 : org ex pa ho a sh to 3 (some g) with
  | none => rw [vlu_none ho2.symm] at e; cases e
  | some k =>
    rw [vlu_some ho2.symm] at e
    exact hv k (org_in h hp ha hs ht 3 (some g) (fun k hk => by cases hk; exact hg) k ho2) v e
/-- a set of numbers below n, as bits -/
def bset (f : Nat → Bool) : Nat → Nat
  | 0 => 0
  | n + 1 => if f n = true then bset f n ||| 2 ^ n else bset f n
theorem bset_t {f : Nat → Bool} {n : Nat} (h : f n = true) : bset f (n + 1) = bset f n ||| 2 ^ n := by rw [bset, if_pos h]
theorem bset_f {f : Nat → Bool} {n : Nat} (h : f n = false) : bset f (n + 1) = bset f n := by rw [bset, if_neg (by rw [h]; decide)]
theorem bset_lt (f : Nat → Bool) : ∀ n, bset f n < 2 ^ n
  | 0 => Nat.zero_lt_one
  | n + 1 => by
    have h := bset_lt f n
    rw [bset]
    by_cases c : f n = true
    · rw [if_pos c]
      exact Nat.or_lt_two_pow (Nat.lt_trans h (Nat.pow_lt_pow_right (by decide) (Nat.lt_succ_self n))) (Nat.pow_lt_pow_right (by decide) (Nat.lt_succ_self n))
    · rw [if_neg c]
      exact Nat.lt_trans h (Nat.pow_lt_pow_right (by decide) (Nat.lt_succ_self n))
theorem bset_lt' (f : Nat → Bool) {n m : Nat} (h : n ≤ m) : bset f n < 2 ^ m := Nat.lt_of_lt_of_le (bset_lt f n) (Nat.pow_le_pow_right (by decide) h)
theorem bset_ex {f : Nat → Bool} : ∀ {n : Nat}, bset f n = 0 ↔ exU f n = false
  | 0 => ⟨fun _ => rfl, fun _ => rfl⟩
  | n + 1 => by
    rw [bset, exU, Bool.or_eq_false_iff, ← bset_ex (n := n)]
    by_cases c : f n = true
    · rw [if_pos c, c]
      constructor
      · intro h
        have h1 : 2 ^ n ≤ bset f n ||| 2 ^ n := Nat.right_le_or
        have h2 : 0 < 2 ^ n := Nat.two_pow_pos n
        omega
      · intro h; cases h.2
    · rw [if_neg c]
      exact ⟨fun h => ⟨h, by cases h9 : f n with | false => rfl | true => exact absurd h9 c⟩, fun h => h.1⟩
theorem nI_or (a b : Nat) : nI a ||| nI b = nI (a ||| b) := by
  apply Int32.toBitVec_inj.1
  show BitVec.ofNat 32 a ||| BitVec.ofNat 32 b = BitVec.ofNat 32 (a ||| b)
  apply BitVec.eq_of_getLsbD_eq
  intro i hi
  simp [hi]
theorem shl1 : ∀ i, i < 16 → nI 1 <<< (nI i &&& 31) = nI (2 ^ i) := by decide
/-- what a shop lacks of a good -/
def lck (ex : Nat → Bool) (pa ho dv : Nat → Option Nat) (ak : Nat → Bool) (g sh to : Nat) : Nat → Bool := fun a => ak (sh * 6 + a) && decide (vlu ex pa ho dv a (sh + 1) (to + 1) g = none)
/-- what a shop has seen of a good is something else now -/
def lkj (ex : Nat → Bool) (pa ho dv se : Nat → Option Nat) (sp g : Nat) : Nat → Bool := fun j => decide (se (sp * 288 + g * 18 + j) ≠ vlu ex pa ho dv (j / 3) (sp + 1) (j % 3 + 1) g)
def lkd (ex : Nat → Bool) (pa ho dv se : Nat → Option Nat) (sp : Nat) : Nat → Bool := fun g => exU (lkj ex pa ho dv se sp g) 18
/-- of the drafts below n that f picks: the one with the latest day, of several the last -/
def bst (f : Nat → Bool) (dd : Nat → Nat) : Nat → Option Nat
  | 0 => none
  | n + 1 => if f n = true ∧ (∀ r, bst f dd n = some r → dd r ≤ dd n) then some n else bst f dd n
theorem bst_in {f : Nat → Bool} {dd : Nat → Nat} : ∀ (n k : Nat), bst f dd n = some k → k < n ∧ f k = true
  | 0, k, h => by cases h
  | n + 1, k, h => by
    rw [bst] at h
    by_cases c : f n = true ∧ (∀ r, bst f dd n = some r → dd r ≤ dd n)
    · rw [if_pos c] at h
      cases h
      exact ⟨Nat.lt_succ_self n, c.1⟩
    · rw [if_neg c] at h
      exact ⟨Nat.lt_succ_of_lt (bst_in n k h).1, (bst_in n k h).2⟩
theorem bst_skip {f : Nat → Bool} {dd : Nat → Nat} {n : Nat} (h : f n = false) : bst f dd (n + 1) = bst f dd n := by
  rw [bst, if_neg (fun c => by rw [h] at c; cases c.1)]
/-- one draft is put at its place -/
def phd (ho : Nat → Option Nat) (dp dd : Nat → Nat) (d : Nat) : Nat → Option Nat := if (∀ r, ho (dp d) = some r → dd r ≤ dd d) then va_up ho (dp d) (some d) else ho
theorem phd_none {ho : Nat → Option Nat} {dp dd : Nat → Nat} {d : Nat} (h : none = ho (dp d)) : phd ho dp dd d = va_up ho (dp d) (some d) := if_pos (fun r e => by rw [← h] at e; cases e)
theorem phd_ge {ho : Nat → Option Nat} {dp dd : Nat → Nat} {d q : Nat} (h : some q = ho (dp d)) (h2 : dd q ≤ dd d) : phd ho dp dd d = va_up ho (dp d) (some d) := if_pos (fun r e => by rw [← h] at e; cases e; exact h2)
theorem phd_lt {ho : Nat → Option Nat} {dp dd : Nat → Nat} {d q : Nat} (h : some q = ho (dp d)) (h2 : dd d < dd q) : phd ho dp dd d = ho := if_neg (fun e => Nat.not_le.mpr h2 (e q h.symm))
/-- the drafts that may hold at the place q -/
def drf (ds dd dp : Nat → Nat) (td q : Nat) : Nat → Bool := fun k => decide (ds k = 2) && (decide (dd k ≤ td) && decide (dp k = q))
/-- the holders, with the drafts below n settled -/
def stl (ho : Nat → Option Nat) (ds dd dp : Nat → Nat) (td n : Nat) : Nat → Option Nat := fun q => if q < 1536 then bst (drf ds dd dp td q) dd n else ho q
def cle (ho : Nat → Option Nat) (n : Nat) : Nat → Option Nat := fun q => if q < n then none else ho q
theorem cle_0 (ho : Nat → Option Nat) : cle ho 0 = ho := rfl
theorem cle_s (ho : Nat → Option Nat) (n : Nat) : cle ho (n + 1) = va_up (cle ho n) n none := by
  funext q
  unfold cle va_up
  by_cases h : q = n
  · rw [if_pos h, if_pos (by omega)]
  · rw [if_neg h]
    dsimp only
    by_cases h2 : q < n
    · rw [if_pos h2, if_pos (by omega)]
    · rw [if_neg h2, if_neg (by omega)]
theorem stl_HO {ho : Nat → Option Nat} {ds dd dp : Nat → Nat} {td n dc : Nat} (h : n ≤ dc) : HO (stl ho ds dd dp td n) dc := fun q hq k e => by
  unfold stl at e
  rw [if_pos hq] at e
  exact Nat.lt_of_lt_of_le (bst_in n k e).1 h
theorem stl_skip {ho : Nat → Option Nat} {ds dd dp : Nat → Nat} {td n : Nat} (h : ds n ≠ 2 ∨ td < dd n) : stl ho ds dd dp td (n + 1) = stl ho ds dd dp td n := by
  funext q
  unfold stl
  by_cases hq : q < 1536
  · rw [if_pos hq, if_pos hq, bst_skip]
    unfold drf
    rcases h with h | h
    · rw [decide_eq_false h]; rfl
    · rw [decide_eq_false (show ¬ dd n ≤ td by omega), Bool.false_and, Bool.and_false]
  · rw [if_neg hq, if_neg hq]
theorem stl_put {ho : Nat → Option Nat} {ds dd dp : Nat → Nat} {td n : Nat} (h1 : ds n = 2) (h2 : dd n ≤ td) (h3 : dp n < 1536) : stl ho ds dd dp td (n + 1) = phd (stl ho ds dd dp td n) dp dd n := by
  have hx : stl ho ds dd dp td n (dp n) = bst (drf ds dd dp td (dp n)) dd n := by unfold stl; rw [if_pos h3]
  have hy : drf ds dd dp td (dp n) n = true := by unfold drf; rw [decide_eq_true h1, decide_eq_true h2, decide_eq_true rfl]; rfl
  funext q
  unfold phd
  rw [hx]
  by_cases hq : q = dp n
  · subst hq
    show (if dp n < 1536 then bst (drf ds dd dp td (dp n)) dd (n + 1) else ho (dp n)) = _
    rw [if_pos h3, bst]
    by_cases c : (∀ r, bst (drf ds dd dp td (dp n)) dd n = some r → dd r ≤ dd n)
    · rw [if_pos ⟨hy, c⟩, if_pos c]
      unfold va_up
      rw [if_pos rfl]
    · rw [if_neg (fun z => c z.2), if_neg c, hx]
  · have h9 : drf ds dd dp td q n = false := by unfold drf; rw [decide_eq_false (show ¬ dp n = q from fun e => hq e.symm), Bool.and_false, Bool.and_false]
    have h8 : stl ho ds dd dp td (n + 1) q = stl ho ds dd dp td n q := by
      unfold stl
      by_cases hq2 : q < 1536
      · rw [if_pos hq2, if_pos hq2, bst_skip h9]
      · rw [if_neg hq2, if_neg hq2]
    rw [h8]
    by_cases c : (∀ r, bst (drf ds dd dp td (dp n)) dd n = some r → dd r ≤ dd n)
    · rw [if_pos c]
      unfold va_up
      rw [if_neg hq]
    · rw [if_neg c]
/-- the drafts of a good are deleted -/
def kil (ds dg : Nat → Nat) (g n : Nat) : Nat → Nat := fun k => if k < n ∧ dg k = g then 4 else ds k
theorem kil_0 (ds dg : Nat → Nat) (g : Nat) : kil ds dg g 0 = ds := by
  funext k
  unfold kil
  rw [if_neg (fun z => Nat.not_lt_zero k z.1)]
theorem kil_t {ds dg : Nat → Nat} {g n : Nat} (h : dg n = g) : kil ds dg g (n + 1) = va_up (kil ds dg g n) n 4 := by
  funext k
  unfold kil va_up
  by_cases e : k = n
  · rw [if_pos e, if_pos ⟨by omega, by rw [e]; exact h⟩]
  · rw [if_neg e]
    dsimp only
    by_cases c : k < n ∧ dg k = g
    · rw [if_pos c, if_pos ⟨by omega, c.2⟩]
    · rw [if_neg c, if_neg (fun z => c ⟨by omega, z.2⟩)]
theorem kil_f {ds dg : Nat → Nat} {g n : Nat} (h : dg n ≠ g) : kil ds dg g (n + 1) = kil ds dg g n := by
  funext k
  unfold kil
  by_cases c : k < n ∧ dg k = g
  · rw [if_pos c, if_pos ⟨by omega, c.2⟩]
  · rw [if_neg c, if_neg (fun z => c ⟨(Nat.lt_or_ge k n).elim id (fun h8 => absurd (show dg n = g by rw [show n = k by omega]; exact z.2) h), z.2⟩)]
/-- what a shop sees is kept -/
def rmb (se v : Nat → Option Nat) (b n : Nat) : Nat → Option Nat := fun k => if b ≤ k ∧ k < b + n then v (k - b) else se k
theorem rmb_0 (se v : Nat → Option Nat) (b : Nat) : rmb se v b 0 = se := by
  funext k
  unfold rmb
  rw [if_neg (by omega)]
theorem rmb_s (se v : Nat → Option Nat) (b n : Nat) : rmb se v b (n + 1) = va_up (rmb se v b n) (b + n) (v n) := by
  funext k
  unfold rmb va_up
  by_cases e : k = b + n
  · rw [if_pos e, if_pos ⟨by omega, by omega⟩, show k - b = n by omega]
  · rw [if_neg e]
    dsimp only
    by_cases c : b ≤ k ∧ k < b + n
    · rw [if_pos c, if_pos ⟨c.1, by omega⟩]
    · rw [if_neg c, if_neg (fun z => c ⟨z.1, by omega⟩)]
def sgt (ex : Nat → Bool) (pa ho dv : Nat → Option Nat) (sp g : Nat) : Nat → Option Nat := fun j => vlu ex pa ho dv (j / 3) (sp + 1) (j % 3 + 1) g
theorem wth_ex {ex : Nat → Bool} {pa : Nat → Option Nat} {t n k : Nat} (h : wth ex pa t n (some k) = true) : ex k = true := by
  cases n with
  | zero => cases h
  | succ m =>
    rw [wth_some rfl] at h
    cases e : ex k with
    | true => rfl
    | false => rw [e] at h; cases h
/-- the deepest level among those that f picks, b at least -/
def mxd (f : Nat → Bool) (lev : Nat → Nat) (b : Nat) : Nat → Nat
  | 0 => b
  | n + 1 => if f n = true then max (mxd f lev b n) (lev n) else mxd f lev b n
theorem mxd_t {f : Nat → Bool} {lev : Nat → Nat} {b n : Nat} (h : f n = true) : mxd f lev b (n + 1) = max (mxd f lev b n) (lev n) := by rw [mxd, if_pos h]
theorem mxd_f {f : Nat → Bool} {lev : Nat → Nat} {b n : Nat} (h : f n = false) : mxd f lev b (n + 1) = mxd f lev b n := by rw [mxd, if_neg (by rw [h]; decide)]
theorem zmax {a b : Nat} (ha : a ≤ 2) (hb : b ≤ 2) : (if zI ((a : Nat) : Int) < zI ((b : Nat) : Int) then zI ((b : Nat) : Int) else zI ((a : Nat) : Int)) = zI ((max a b : Nat) : Int) := by
  by_cases h : a < b
  · rw [if_pos ((zI_lt (by omega) (by omega)).mpr (by omega)), Nat.max_eq_right (by omega)]
  · rw [if_neg (fun e => h (by have := (zI_lt (by omega) (by omega)).mp e; omega)), Nat.max_eq_left (by omega)]
/-- prices of bundles -/
def vz (o : Option Nat) : Nat := match o with
  | none => 0
  | some v => v
def pos (qu : Nat → Nat) (g : Nat) : Nat → Bool := fun p => decide (0 < qu (g * 16 + p))
def nop (qu : Nat → Nat) (pr : Nat → Option Nat) (g : Nat) : Nat → Bool := fun p => decide (0 < qu (g * 16 + p)) && decide (pr p = none)
def psm (qu : Nat → Nat) (pr : Nat → Option Nat) (g : Nat) : Nat → Nat
  | 0 => 0
  | n + 1 => psm qu pr g n + vz (pr n) * qu (g * 16 + n)
def bnd (qu : Nat → Nat) (pr : Nat → Option Nat) (di : Nat → Nat) (g : Nat) : Option Nat :=
  if exU (nop qu pr g) g = true then none else if exU (pos qu g) g = true ∧ psm qu pr g g * (100 - di g) / 100 ≤ 1000000000 then some (psm qu pr g g * (100 - di g) / 100) else none
theorem psm_le {qu : Nat → Nat} {pr : Nat → Option Nat} {g : Nat} (hq : ∀ k, k < 256 → qu k ≤ 20) (hp : ∀ k, k < 16 → ∀ v, pr k = some v → v ≤ 1000000000) (hg : g < 16) : ∀ n, n ≤ 16 → psm qu pr g n ≤ n * 20000000000
  | 0, _ => Nat.le_of_eq rfl
  | n + 1, h => by
    have h1 := psm_le hq hp hg n (by omega)
    have h2 := hq (g * 16 + n) (by omega)
    have h3 : vz (pr n) ≤ 1000000000 := by
      cases e : pr n with
      | none => exact Nat.zero_le _
      | some v => exact hp n (by omega) v e
    have h4 : vz (pr n) * qu (g * 16 + n) ≤ 1000000000 * 20 := Nat.mul_le_mul h3 h2
    show psm qu pr g n + vz (pr n) * qu (g * 16 + n) ≤ (n + 1) * 20000000000
    omega
theorem psm_0 {qu : Nat → Nat} {pr : Nat → Option Nat} {g n : Nat} (h : qu (g * 16 + n) = 0) : psm qu pr g (n + 1) = psm qu pr g n := by
  show psm qu pr g n + vz (pr n) * qu (g * 16 + n) = psm qu pr g n
  rw [h, Nat.mul_zero, Nat.add_zero]
theorem psm_s {qu : Nat → Nat} {pr : Nat → Option Nat} {g n v : Nat} (h : pr n = some v) : psm qu pr g (n + 1) = psm qu pr g n + v * qu (g * 16 + n) := by
  show psm qu pr g n + vz (pr n) * qu (g * 16 + n) = psm qu pr g n + v * qu (g * 16 + n)
  rw [h]; rfl
theorem exU_s {f : Nat → Bool} {n : Nat} (h : f n = false) : exU f (n + 1) = exU f n := by rw [exU, h, Bool.or_false]
theorem exU_t {f : Nat → Bool} {n : Nat} (h : f n = true) : exU f (n + 1) = true := by rw [exU, h, Bool.or_true]
theorem dsc_le {x d : Nat} : x * (100 - d) / 100 ≤ x := by
  have h : x * (100 - d) ≤ x * 100 := Nat.mul_le_mul_left x (by omega)
  omega
theorem bnd_in {qu : Nat → Nat} {pr : Nat → Option Nat} {di : Nat → Nat} {g : Nat} : ∀ v, bnd qu pr di g = some v → v ≤ 1000000000 := by
  intro v e
  unfold bnd at e
  split at e
  · cases e
  · split at e
    · rename_i h
      cases e
      exact h.2
    · cases e
/-- the prices of the goods below n -/
def prs (vl : Nat → Option Nat) (qu di : Nat → Nat) (pr : Nat → Option Nat) : Nat → Nat → Option Nat
  | 0 => pr
  | n + 1 => va_up (prs vl qu di pr n) n (match vl n with | some v => some v | none => bnd qu (prs vl qu di pr n) di n)
theorem prs_v {vl : Nat → Option Nat} {qu di : Nat → Nat} {pr : Nat → Option Nat} {n : Nat} (h : vl n ≠ none) : prs vl qu di pr (n + 1) = va_up (prs vl qu di pr n) n (vl n) := by
  show va_up (prs vl qu di pr n) n (match vl n with | some v => some v | none => bnd qu (prs vl qu di pr n) di n) = _
  cases e : vl n with
  | none => exact absurd e h
  | some v => rfl
theorem prs_b {vl : Nat → Option Nat} {qu di : Nat → Nat} {pr : Nat → Option Nat} {n : Nat} (h : vl n = none) : prs vl qu di pr (n + 1) = va_up (prs vl qu di pr n) n (bnd qu (prs vl qu di pr n) di n) := by
  show va_up (prs vl qu di pr n) n (match vl n with | some v => some v | none => bnd qu (prs vl qu di pr n) di n) = _
  rw [h]
theorem prs_in {vl : Nat → Option Nat} {qu di : Nat → Nat} {pr : Nat → Option Nat} (hv : ∀ k, k < 16 → ∀ v, vl k = some v → v ≤ 100000) (hp : ∀ k, k < 16 → ∀ v, pr k = some v → v ≤ 1000000000) : ∀ n, n ≤ 16 → ∀ k, k < 16 → ∀ v, prs vl qu di pr n k = some v → v ≤ 1000000000
  | 0, _ => hp
  | n + 1, h => fun k hk v e => by
    have ih := prs_in hv hp (qu := qu) (di := di) n (by omega)
    by_cases c : vl n = none
    · rw [prs_b c] at e
      unfold va_up at e
      by_cases ek : k = n
      · rw [if_pos ek] at e; exact bnd_in v e
      · rw [if_neg ek] at e; exact ih k hk v e
    · rw [prs_v c] at e
      unfold va_up at e
      by_cases ek : k = n
      · rw [if_pos ek] at e
        exact Nat.le_trans (hv n (by omega) v e) (by decide)
      · rw [if_neg ek] at e; exact ih k hk v e
end
section
set_option maxHeartbeats 4000000 in
set_option maxRecDepth 100000 in
theorem kX0_isGoodN (l : Launch) (D : va_G) (h : Nat) (ad : Nat → Nat) (cI cZ : ClassId) (ex : Nat → Bool) (pa : Nat → Option Nat) (di : Nat → Nat) (qu : Nat → Nat) (gc : Nat) (dg : Nat → Nat) (dp : Nat → Nat) (dv : Nat → Option Nat) (dd : Nat → Nat) (ds : Nat → Nat) (dc : Nat) (td : Nat) (ho : Nat → Option Nat) (ak : Nat → Bool) (se : Nat → Option Nat) (pr : Nat → Option Nat) (j : Nat) (hj : j < 16) : Met l yX0_isGood wsX0_isGood ({ frames := 0, cells := 0, slots := 0, locals := 0 } : Room) (pP D (hW h ad cI cZ ex pa di qu gc dg dp dv dd ds dc td ho ak se pr) (hT cI cZ) [.ref h, .int (nI j)]) (pQ (some (.int (bI (ex j))))) 0 0 nF := by
  refine Met.ofW (cc := cX0_isGood) (maxL := 2) (ret := (some .boolean)) (by decide) rfl ?_
  intro p e s m args below meth c s₁ B hml hv
  obtain ⟨rfl, hP, hK⟩ := hv
  have hx := B.exec
  have hb := B.bytes
  have hr := B.returns
  have hts := atoms_spec (ws := wsX0_isGood) B.pre
  have hown : s.vm.findClass RX0 = some m.cls := findClass_of_methodNamed B.named
  have hlocks := B.notSynchronized
  have hl := lv_entry ([.ref h, .int (nI j)]) (n := 2) (Nat.le_of_ble_eq_true rfl)
  rw [lg_entry_eq]
  generalize (lg_sl ([.ref h, .int (nI j)]) ++ List.replicate (2 - (lg_sl ([.ref h, .int (nI j)])).length) Slot.unset).toArray = ls at hl ⊢
  have hl : lv_has ls 2 [(0, .ref h), (1, .int (nI j))] := hl
  refine lv_iload_n hx hb dX0_isGood_0 rfl (lv_at hl 1 rfl) ?_
  refine q_ifN_lt (a := j) 23 (by omega) hx hb dX0_isGood_1 (by decide) ?_
  refine lv_iload_n hx hb dX0_isGood_4 rfl (lv_at hl 1 rfl) ?_
  refine lv_bipush (v := nI 16) hx hb dX0_isGood_5 (by decide) ?_
  refine q_icmpN_ge (a := j) (b := 16) (tgt := 23) (by omega) (by omega) hx hb dX0_isGood_7 (by decide) (fun k7 => absurd k7 (by omega)) (fun k7 => ?_)
  refine lv_aload_n hx hb dX0_isGood_10 rfl (lv_at hl 0 rfl) ?_
  refine va_get (D := D) (ci := 0) (v := .ref (ad 0)) (C := RX0) (T := TX0) (N := 16) hx hb hts (iX0_isGood) hown hK hP 0 rfl rfl 0 (by decide) (hts (.fieldLink RX0 9 "ShopHub" "exists" "[Z") (by decide +kernel)) (fun _ h9 => h9) rfl dX0_isGood_11 ?_
  refine lv_iload_n hx hb dX0_isGood_14 rfl (lv_at hl 1 rfl) ?_
  refine q_zld ex hx hb hK hP 1 0 rfl rfl (k := j) (by omega) (Nat.le_of_ble_eq_true rfl) dX0_isGood_15 ?_
  refine q_ifB_eq (b := ex j) (tgt := 23) hx hb dX0_isGood_16 (by decide) (fun k16 => ?_) (fun k16 => ?_)
  · refine lv_iconst (v := nI 0) hx hb dX0_isGood_23 (by decide) ?_
    exact q_retZ hx hb hr hlocks (by first | exact retF k16 | exact retT k16) dX0_isGood_24
  · refine lv_iconst (v := nI 1) hx hb dX0_isGood_19 (by decide) ?_
    refine lv_goto (tgt := 24) hx hb dX0_isGood_20 (by decide) ?_
    exact q_retZ hx hb hr hlocks (by first | exact retF k16 | exact retT k16) dX0_isGood_24

set_option maxHeartbeats 4000000 in
set_option maxRecDepth 100000 in
theorem kX0_isGoodR (l : Launch) (D : va_G) (h : Nat) (ad : Nat → Nat) (cI cZ : ClassId) (ex : Nat → Bool) (pa : Nat → Option Nat) (di : Nat → Nat) (qu : Nat → Nat) (gc : Nat) (dg : Nat → Nat) (dp : Nat → Nat) (dv : Nat → Option Nat) (dd : Nat → Nat) (ds : Nat → Nat) (dc : Nat) (td : Nat) (ho : Nat → Option Nat) (ak : Nat → Bool) (se : Nat → Option Nat) (pr : Nat → Option Nat) (g : Int32) (hg : g < 0 ∨ nI 16 ≤ g) : Met l yX0_isGood wsX0_isGood ({ frames := 0, cells := 0, slots := 0, locals := 0 } : Room) (pP D (hW h ad cI cZ ex pa di qu gc dg dp dv dd ds dc td ho ak se pr) (hT cI cZ) [.ref h, .int g]) (pQ (some (.int (bI false)))) 0 0 nF := by
  refine Met.ofW (cc := cX0_isGood) (maxL := 2) (ret := (some .boolean)) (by decide) rfl ?_
  intro p e s m args below meth c s₁ B hml hv
  obtain ⟨rfl, hP, hK⟩ := hv
  have hx := B.exec
  have hb := B.bytes
  have hr := B.returns
  have hts := atoms_spec (ws := wsX0_isGood) B.pre
  have hown : s.vm.findClass RX0 = some m.cls := findClass_of_methodNamed B.named
  have hlocks := B.notSynchronized
  have hl := lv_entry ([.ref h, .int g]) (n := 2) (Nat.le_of_ble_eq_true rfl)
  rw [lg_entry_eq]
  generalize (lg_sl ([.ref h, .int g]) ++ List.replicate (2 - (lg_sl ([.ref h, .int g])).length) Slot.unset).toArray = ls at hl ⊢
  have hl : lv_has ls 2 [(0, .ref h), (1, .int g)] := hl
  refine lv_iload_n hx hb dX0_isGood_0 rfl (lv_at hl 1 rfl) ?_
  refine lv_if_lt (tgt := 23) hx hb dX0_isGood_1 (by decide) (fun k1 => ?_) (fun k1 => ?_)
  · refine lv_iconst (v := nI 0) hx hb dX0_isGood_23 (by decide) ?_
    exact q_retZ hx hb hr hlocks (by decide) dX0_isGood_24
  · refine lv_iload_n hx hb dX0_isGood_4 rfl (lv_at hl 1 rfl) ?_
    refine lv_bipush (v := nI 16) hx hb dX0_isGood_5 (by decide) ?_
    refine lv_icmp_ge (tgt := 23) hx hb dX0_isGood_7 (by decide) (fun k7 => ?_) (fun k7 => absurd (hg.resolve_left k1) k7)
    refine lv_iconst (v := nI 0) hx hb dX0_isGood_23 (by decide) ?_
    exact q_retZ hx hb hr hlocks (by decide) dX0_isGood_24

set_option maxHeartbeats 4000000 in
set_option maxRecDepth 100000 in
theorem kX0_isEnteredN (l : Launch) (D : va_G) (h : Nat) (ad : Nat → Nat) (cI cZ : ClassId) (ex : Nat → Bool) (pa : Nat → Option Nat) (di : Nat → Nat) (qu : Nat → Nat) (gc : Nat) (dg : Nat → Nat) (dp : Nat → Nat) (dv : Nat → Option Nat) (dd : Nat → Nat) (ds : Nat → Nat) (dc : Nat) (td : Nat) (ho : Nat → Option Nat) (ak : Nat → Bool) (se : Nat → Option Nat) (pr : Nat → Option Nat) (j : Nat) (hj : j < 2147483648) (hdc : dc ≤ 200) : Met l yX0_isEntered wsX0_isEntered ({ frames := 0, cells := 0, slots := 0, locals := 0 } : Room) (pP D (hW h ad cI cZ ex pa di qu gc dg dp dv dd ds dc td ho ak se pr) (hT cI cZ) [.ref h, .int (nI j)]) (pQ (some (.int (bI (decide (j < dc)))))) 0 0 nF := by
  refine Met.ofW (cc := cX0_isEntered) (maxL := 2) (ret := (some .boolean)) (by decide) rfl ?_
  intro p e s m args below meth c s₁ B hml hv
  obtain ⟨rfl, hP, hK⟩ := hv
  have hx := B.exec
  have hb := B.bytes
  have hr := B.returns
  have hts := atoms_spec (ws := wsX0_isEntered) B.pre
  have hown : s.vm.findClass RX0 = some m.cls := findClass_of_methodNamed B.named
  have hlocks := B.notSynchronized
  have hl := lv_entry ([.ref h, .int (nI j)]) (n := 2) (Nat.le_of_ble_eq_true rfl)
  rw [lg_entry_eq]
  generalize (lg_sl ([.ref h, .int (nI j)]) ++ List.replicate (2 - (lg_sl ([.ref h, .int (nI j)])).length) Slot.unset).toArray = ls at hl ⊢
  have hl : lv_has ls 2 [(0, .ref h), (1, .int (nI j))] := hl
  refine lv_iload_n hx hb dX0_isEntered_0 rfl (lv_at hl 1 rfl) ?_
  refine q_ifN_lt (a := j) 16 (by omega) hx hb dX0_isEntered_1 (by decide) ?_
  refine lv_iload_n hx hb dX0_isEntered_4 rfl (lv_at hl 1 rfl) ?_
  refine lv_aload_n hx hb dX0_isEntered_5 rfl (lv_at hl 0 rfl) ?_
  refine va_get (D := D) (ci := 0) (v := .int (nI dc)) (C := RX0) (T := TX0) (N := 16) hx hb hts (iX0_isEntered) hown hK hP 0 rfl rfl 10 (by decide) (hts (.fieldLink RX0 42 "ShopHub" "draftCount" "I") (by decide +kernel)) (fun _ h9 => h9) rfl dX0_isEntered_6 ?_
  refine q_icmpN_ge (a := j) (b := dc) (tgt := 16) (by omega) (by omega) hx hb dX0_isEntered_9 (by decide) (fun k9 => ?_) (fun k9 => ?_)
  · refine lv_iconst (v := nI 0) hx hb dX0_isEntered_16 (by decide) ?_
    exact q_retZ hx hb hr hlocks (retF (decide_eq_false (by omega))) dX0_isEntered_17
  · refine lv_iconst (v := nI 1) hx hb dX0_isEntered_12 (by decide) ?_
    refine lv_goto (tgt := 17) hx hb dX0_isEntered_13 (by decide) ?_
    exact q_retZ hx hb hr hlocks (retT (decide_eq_true (by omega))) dX0_isEntered_17

set_option maxHeartbeats 4000000 in
set_option maxRecDepth 100000 in
theorem kX0_isEnteredR (l : Launch) (D : va_G) (h : Nat) (ad : Nat → Nat) (cI cZ : ClassId) (ex : Nat → Bool) (pa : Nat → Option Nat) (di : Nat → Nat) (qu : Nat → Nat) (gc : Nat) (dg : Nat → Nat) (dp : Nat → Nat) (dv : Nat → Option Nat) (dd : Nat → Nat) (ds : Nat → Nat) (dc : Nat) (td : Nat) (ho : Nat → Option Nat) (ak : Nat → Bool) (se : Nat → Option Nat) (pr : Nat → Option Nat) (g : Int32) (hg : g < 0) : Met l yX0_isEntered wsX0_isEntered ({ frames := 0, cells := 0, slots := 0, locals := 0 } : Room) (pP D (hW h ad cI cZ ex pa di qu gc dg dp dv dd ds dc td ho ak se pr) (hT cI cZ) [.ref h, .int g]) (pQ (some (.int (bI false)))) 0 0 nF := by
  refine Met.ofW (cc := cX0_isEntered) (maxL := 2) (ret := (some .boolean)) (by decide) rfl ?_
  intro p e s m args below meth c s₁ B hml hv
  obtain ⟨rfl, hP, hK⟩ := hv
  have hx := B.exec
  have hb := B.bytes
  have hr := B.returns
  have hts := atoms_spec (ws := wsX0_isEntered) B.pre
  have hown : s.vm.findClass RX0 = some m.cls := findClass_of_methodNamed B.named
  have hlocks := B.notSynchronized
  have hl := lv_entry ([.ref h, .int g]) (n := 2) (Nat.le_of_ble_eq_true rfl)
  rw [lg_entry_eq]
  generalize (lg_sl ([.ref h, .int g]) ++ List.replicate (2 - (lg_sl ([.ref h, .int g])).length) Slot.unset).toArray = ls at hl ⊢
  have hl : lv_has ls 2 [(0, .ref h), (1, .int g)] := hl
  refine lv_iload_n hx hb dX0_isEntered_0 rfl (lv_at hl 1 rfl) ?_
  refine lv_if_lt (tgt := 16) hx hb dX0_isEntered_1 (by decide) (fun k1 => ?_) (fun k1 => absurd hg k1)
  refine lv_iconst (v := nI 0) hx hb dX0_isEntered_16 (by decide) ?_
  exact q_retZ hx hb hr hlocks (by decide) dX0_isEntered_17

set_option maxHeartbeats 4000000 in
set_option maxRecDepth 100000 in
theorem kX0_levelOf (l : Launch) (D : va_G) (h : Nat) (ad : Nat → Nat) (cI cZ : ClassId) (ex : Nat → Bool) (pa : Nat → Option Nat) (di : Nat → Nat) (qu : Nat → Nat) (gc : Nat) (dg : Nat → Nat) (dp : Nat → Nat) (dv : Nat → Option Nat) (dd : Nat → Nat) (ds : Nat → Nat) (dc : Nat) (td : Nat) (ho : Nat → Option Nat) (ak : Nat → Bool) (se : Nat → Option Nat) (pr : Nat → Option Nat) (o : Option Nat) (lev : Nat → Nat) (hti : TI ex pa lev) (hok : okO ex o) : Met l yX0_levelOf wsX0_levelOf ({ frames := 1, cells := 0, slots := 0, locals := 21 } : Room) (pP D (hW h ad cI cZ ex pa di qu gc dg dp dv dd ds dc td ho ak se pr) (hT cI cZ) [.ref h, .int (oI o)]) (pQ (some (.int (zI (lvZ lev o))))) 0 0 nF := by
  refine Met.ofW (cc := cX0_levelOf) (maxL := 5) (ret := (some .int)) (by decide) rfl ?_
  intro p e s m args below meth c s₁ B hml hv
  obtain ⟨rfl, hP, hK⟩ := hv
  have hx := B.exec
  have hb := B.bytes
  have hr := B.returns
  have hts := atoms_spec (ws := wsX0_levelOf) B.pre
  have hown : s.vm.findClass RX0 = some m.cls := findClass_of_methodNamed B.named
  have hlocks := B.notSynchronized
  have hl := lv_entry ([.ref h, .int (oI o)]) (n := 5) (Nat.le_of_ble_eq_true rfl)
  rw [lg_entry_eq]
  generalize (lg_sl ([.ref h, .int (oI o)]) ++ List.replicate (5 - (lg_sl ([.ref h, .int (oI o)])).length) Slot.unset).toArray = ls at hl ⊢
  have hl : lv_has ls 5 [(0, .ref h), (1, .int (oI o))] := hl
  refine lv_iconst (v := oI none) hx hb dX0_levelOf_0 (by decide) ?_
  refine q_top (y := zI (-1)) (zm1) ?_
  refine lv_istore_n (lv' := [(2, .int (zI (-1))), (0, .ref h), (1, .int (oI o))]) hx hb dX0_levelOf_1 rfl hl (by decide) rfl (fun ls hl => ?_)
  refine lv_iload_n hx hb dX0_levelOf_2 rfl (lv_at hl 2 rfl) ?_
  refine lv_istore_n (lv' := [(3, .int (oI o)), (2, .int (zI (-1))), (0, .ref h), (1, .int (oI o))]) hx hb dX0_levelOf_3 rfl hl (by decide) rfl (fun ls hl => ?_)
  refine lv_iconst (v := nI 0) hx hb dX0_levelOf_4 (by decide) ?_
  refine lv_istore (lv' := [(4, .int (nI 0)), (3, .int (oI o)), (2, .int (zI (-1))), (0, .ref h), (1, .int (oI o))]) hx hb dX0_levelOf_5 hl (by decide) rfl (fun ls hl => ?_)
  have loop7 : ∀ (n : Nat) (i : Nat) (o2 : Option Nat) (lv : Int), (i ≤ 3) → (4 ≤ i + n) → ((i : Int) = lv + 1) → (lv + 1 + lvZ lev o2 = lvZ lev o) → (okO ex o2) → ∀ ls : Array Slot, lv_has ls 5 [(0, .ref h), (2, .int (zI lv)), (3, .int (oI o2)), (4, .int (nI i))] → W p l e ({ frames := 1, cells := 0, slots := 0, locals := 21 } : Room) s m ([.ref h, .int (oI o)] : List Value).toArray below meth c s.heap [] 0 0 (MQ below (pQ (some (.int (zI (lvZ lev o))))) ([.ref h, .int (oI o)] : List Value).toArray s 0 0 nF) (F0 m 7 ls []) := by
    intro n
    induction n with
    | zero => intro i o2 lv hle hn hi hlv hok2; omega
    | succ n ih =>
      intro i o2 lv hle hn hi hlv hok2 ls hl
      have hA1 := lvZ_ge lev o2
      have hA2 := lvZ_le hti hok
      refine lv_iload hx hb dX0_levelOf_7 (lv_at hl 3 rfl) ?_
      refine lv_iconst (v := nI 3) hx hb dX0_levelOf_9 (by decide) ?_
      refine q_icmpN_ge (a := i) (b := 3) (tgt := 37) (by omega) (by omega) hx hb dX0_levelOf_10 (by decide) (fun k10 => ?_) (fun k10 => ?_)
      · refine lv_iload_n hx hb dX0_levelOf_37 rfl (lv_at hl 1 rfl) ?_
        exact q_retI hx hb hr hlocks (by rw [show lv = lvZ lev o from by omega]) dX0_levelOf_38
      · cases o2 with
        | none =>
          have hA3 : lvZ lev none = -1 := rfl
          refine lv_aload_n hx hb dX0_levelOf_13 rfl (lv_at hl 0 rfl) ?_
          refine lv_iload_n hx hb dX0_levelOf_14 rfl (lv_at hl 2 rfl) ?_
          refine q_callI (r := bI false) (va_runV (As := [.int (oI none)]) (rest := []) ⟨hx, hb, hml, hown, hts⟩ (kX0_isGoodR l D h ad cI cZ ex pa di qu gc dg dp dv dd ds dc td ho ak se pr (oI none) (Or.inl (by decide))) (cwV 1 hts gX0_levelOf_X0_isGood rfl rfl rfl (by decide +kernel) ⟨Nat.le_of_ble_eq_true rfl, Nat.le_of_ble_eq_true rfl⟩) ⟨pP_blind, va_recv hK hP (ci := 0) (q0 := 0) rfl rfl, pP_pre hP hK⟩ rfl rfl hl.1 rfl (lv_room (Nat.le_of_ble_eq_true rfl)) dX0_levelOf_15 ⟨Nat.zero_le _, Nat.zero_le _⟩) ?_
          refine q_ifB_eq (b := false) (tgt := 37) hx hb dX0_levelOf_18 (by decide) (fun k18 => ?_) (fun k18 => absurd k18 (by decide))
          refine lv_iload_n hx hb dX0_levelOf_37 rfl (lv_at hl 1 rfl) ?_
          exact q_retI hx hb hr hlocks (by rw [show lv = lvZ lev o from by omega]) dX0_levelOf_38
        | some q =>
          have hA3 : lvZ lev (some q) = (lev q : Int) := rfl
          have hA4 := lvZ_pa hti (hok2 q rfl).1 (hok2 q rfl).2
          refine lv_aload_n hx hb dX0_levelOf_13 rfl (lv_at hl 0 rfl) ?_
          refine lv_iload_n hx hb dX0_levelOf_14 rfl (lv_at hl 2 rfl) ?_
          refine q_callI (r := bI (ex q)) (va_runV (As := [.int (nI q)]) (rest := []) ⟨hx, hb, hml, hown, hts⟩ (kX0_isGoodN l D h ad cI cZ ex pa di qu gc dg dp dv dd ds dc td ho ak se pr q ((hok2 q rfl).1)) (cwV 1 hts gX0_levelOf_X0_isGood rfl rfl rfl (by decide +kernel) ⟨Nat.le_of_ble_eq_true rfl, Nat.le_of_ble_eq_true rfl⟩) ⟨pP_blind, va_recv hK hP (ci := 0) (q0 := 0) rfl rfl, pP_pre hP hK⟩ rfl rfl hl.1 rfl (lv_room (Nat.le_of_ble_eq_true rfl)) dX0_levelOf_15 ⟨Nat.zero_le _, Nat.zero_le _⟩) ?_
          refine q_ifB_eq (b := ex q) (tgt := 37) hx hb dX0_levelOf_18 (by decide) (fun k18 => absurd k18 (by rw [(hok2 q rfl).2]; decide)) (fun k18 => ?_)
          refine lv_iinc (v := zI (lv + 1)) (lv' := [(2, .int (zI (lv + 1))), (0, .ref h), (3, .int (nI q)), (4, .int (nI i))]) hx hb dX0_levelOf_21 hl (k := 1) rfl (i1_z lv) (by decide) rfl (fun ls hl => ?_)
          refine lv_aload_n hx hb dX0_levelOf_24 rfl (lv_at hl 1 rfl) ?_
          refine va_get (D := D) (ci := 0) (v := .ref (ad 1)) (C := RX0) (T := TX0) (N := 16) hx hb hts (iX0_levelOf) hown hK hP 0 rfl rfl 1 (by decide) (hts (.fieldLink RX0 13 "ShopHub" "parents" "[I") (by decide +kernel)) (fun _ h9 => h9) rfl dX0_levelOf_25 ?_
          refine lv_iload_n hx hb dX0_levelOf_28 rfl (lv_at hl 2 rfl) ?_
          refine q_ald oI pa hx hb hK hP 2 1 rfl rfl (k := q) ((hok2 q rfl).1) (Nat.le_of_ble_eq_true rfl) dX0_levelOf_29 ?_
          refine lv_istore_n (lv' := [(3, .int (oI (pa q))), (2, .int (zI (lv + 1))), (0, .ref h), (4, .int (nI i))]) hx hb dX0_levelOf_30 rfl hl (by decide) rfl (fun ls hl => ?_)
          refine lv_iinc (v := nI (i + 1)) (lv' := [(4, .int (nI (i + 1))), (3, .int (oI (pa q))), (2, .int (zI (lv + 1))), (0, .ref h)]) hx hb dX0_levelOf_31 hl (k := 3) rfl (i1_n i) (by decide) rfl (fun ls hl => ?_)
          refine lv_goto (tgt := 7) hx hb dX0_levelOf_34 (by decide) ?_
          exact ih (i + 1) (pa q) (lv + 1) (by omega) (by omega) (by omega) (by omega) (TI_ok hti (hok2 q rfl).1 (hok2 q rfl).2) _ (lv_sub hl [3, 2, 1, 0] rfl)
  exact loop7 4 0 o (-1) (by omega) (Nat.le_refl 4) (by decide) (by omega) hok _ (lv_sub hl [3, 2, 1, 0] rfl)

set_option maxHeartbeats 4000000 in
set_option maxRecDepth 100000 in
theorem kX0_isWithin (l : Launch) (D : va_G) (h : Nat) (ad : Nat → Nat) (cI cZ : ClassId) (ex : Nat → Bool) (pa : Nat → Option Nat) (di : Nat → Nat) (qu : Nat → Nat) (gc : Nat) (dg : Nat → Nat) (dp : Nat → Nat) (dv : Nat → Option Nat) (dd : Nat → Nat) (ds : Nat → Nat) (dc : Nat) (td : Nat) (ho : Nat → Option Nat) (ak : Nat → Bool) (se : Nat → Option Nat) (pr : Nat → Option Nat) (o : Option Nat) (t : Nat) (ht : t < 16) (hpr : PR pa) (hok : ∀ k, o = some k → k < 16) : Met l yX0_isWithin wsX0_isWithin ({ frames := 1, cells := 0, slots := 0, locals := 21 } : Room) (pP D (hW h ad cI cZ ex pa di qu gc dg dp dv dd ds dc td ho ak se pr) (hT cI cZ) [.ref h, .int (oI o), .int (nI t)]) (pQ (some (.int (bI (wth ex pa t 3 o))))) 0 0 nF := by
  refine Met.ofW (cc := cX0_isWithin) (maxL := 5) (ret := (some .boolean)) (by decide) rfl ?_
  intro p e s m args below meth c s₁ B hml hv
  obtain ⟨rfl, hP, hK⟩ := hv
  have hx := B.exec
  have hb := B.bytes
  have hr := B.returns
  have hts := atoms_spec (ws := wsX0_isWithin) B.pre
  have hown : s.vm.findClass RX0 = some m.cls := findClass_of_methodNamed B.named
  have hlocks := B.notSynchronized
  have hl := lv_entry ([.ref h, .int (oI o), .int (nI t)]) (n := 5) (Nat.le_of_ble_eq_true rfl)
  rw [lg_entry_eq]
  generalize (lg_sl ([.ref h, .int (oI o), .int (nI t)]) ++ List.replicate (5 - (lg_sl ([.ref h, .int (oI o), .int (nI t)])).length) Slot.unset).toArray = ls at hl ⊢
  have hl : lv_has ls 5 [(0, .ref h), (1, .int (oI o)), (2, .int (nI t))] := hl
  refine lv_iload_n hx hb dX0_isWithin_0 rfl (lv_at hl 1 rfl) ?_
  refine lv_istore_n (lv' := [(3, .int (oI o)), (0, .ref h), (1, .int (oI o)), (2, .int (nI t))]) hx hb dX0_isWithin_1 rfl hl (by decide) rfl (fun ls hl => ?_)
  refine lv_iconst (v := nI 0) hx hb dX0_isWithin_2 (by decide) ?_
  refine lv_istore (lv' := [(4, .int (nI 0)), (3, .int (oI o)), (0, .ref h), (1, .int (oI o)), (2, .int (nI t))]) hx hb dX0_isWithin_3 hl (by decide) rfl (fun ls hl => ?_)
  have loop5 : ∀ (n : Nat) (i : Nat) (o2 : Option Nat), (i ≤ 3) → (4 ≤ i + n) → (wth ex pa t (3 - i) o2 = wth ex pa t 3 o) → (∀ k, o2 = some k → k < 16) → ∀ ls : Array Slot, lv_has ls 5 [(0, .ref h), (2, .int (nI t)), (3, .int (oI o2)), (4, .int (nI i))] → W p l e ({ frames := 1, cells := 0, slots := 0, locals := 21 } : Room) s m ([.ref h, .int (oI o), .int (nI t)] : List Value).toArray below meth c s.heap [] 0 0 (MQ below (pQ (some (.int (bI (wth ex pa t 3 o))))) ([.ref h, .int (oI o), .int (nI t)] : List Value).toArray s 0 0 nF) (F0 m 5 ls []) := by
    intro n
    induction n with
    | zero => intro i o2 hle hn hw hok2; omega
    | succ n ih =>
      intro i o2 hle hn hw hok2 ls hl
      refine lv_iload hx hb dX0_isWithin_5 (lv_at hl 3 rfl) ?_
      refine lv_iconst (v := nI 3) hx hb dX0_isWithin_7 (by decide) ?_
      refine q_icmpN_ge (a := i) (b := 3) (tgt := 39) (by omega) (by omega) hx hb dX0_isWithin_8 (by decide) (fun k8 => ?_) (fun k8 => ?_)
      · refine lv_iconst (v := nI 0) hx hb dX0_isWithin_39 (by decide) ?_
        exact q_retZ hx hb hr hlocks (retF (by rw [← hw, show 3 - i = 0 by omega]; rfl)) dX0_isWithin_40
      · cases o2 with
        | none =>
          refine lv_aload_n hx hb dX0_isWithin_11 rfl (lv_at hl 0 rfl) ?_
          refine lv_iload_n hx hb dX0_isWithin_12 rfl (lv_at hl 2 rfl) ?_
          refine q_callI (r := bI false) (va_runV (As := [.int (oI none)]) (rest := []) ⟨hx, hb, hml, hown, hts⟩ (kX0_isGoodR l D h ad cI cZ ex pa di qu gc dg dp dv dd ds dc td ho ak se pr (oI none) (Or.inl (by decide))) (cwV 1 hts gX0_isWithin_X0_isGood rfl rfl rfl (by decide +kernel) ⟨Nat.le_of_ble_eq_true rfl, Nat.le_of_ble_eq_true rfl⟩) ⟨pP_blind, va_recv hK hP (ci := 0) (q0 := 0) rfl rfl, pP_pre hP hK⟩ rfl rfl hl.1 rfl (lv_room (Nat.le_of_ble_eq_true rfl)) dX0_isWithin_13 ⟨Nat.zero_le _, Nat.zero_le _⟩) ?_
          refine q_ifB_eq (b := false) (tgt := 39) hx hb dX0_isWithin_16 (by decide) (fun k16 => ?_) (fun k16 => absurd k16 (by decide))
          refine lv_iconst (v := nI 0) hx hb dX0_isWithin_39 (by decide) ?_
          exact q_retZ hx hb hr hlocks (retF (by rw [← hw, wth_none])) dX0_isWithin_40
        | some q =>
          have hq : q < 16 := hok2 q rfl
          refine lv_aload_n hx hb dX0_isWithin_11 rfl (lv_at hl 0 rfl) ?_
          refine lv_iload_n hx hb dX0_isWithin_12 rfl (lv_at hl 2 rfl) ?_
          refine q_callI (r := bI (ex q)) (va_runV (As := [.int (nI q)]) (rest := []) ⟨hx, hb, hml, hown, hts⟩ (kX0_isGoodN l D h ad cI cZ ex pa di qu gc dg dp dv dd ds dc td ho ak se pr q hq) (cwV 1 hts gX0_isWithin_X0_isGood rfl rfl rfl (by decide +kernel) ⟨Nat.le_of_ble_eq_true rfl, Nat.le_of_ble_eq_true rfl⟩) ⟨pP_blind, va_recv hK hP (ci := 0) (q0 := 0) rfl rfl, pP_pre hP hK⟩ rfl rfl hl.1 rfl (lv_room (Nat.le_of_ble_eq_true rfl)) dX0_isWithin_13 ⟨Nat.zero_le _, Nat.zero_le _⟩) ?_
          refine q_ifB_eq (b := ex q) (tgt := 39) hx hb dX0_isWithin_16 (by decide) (fun k16 => ?_) (fun k16 => ?_)
          · refine lv_iconst (v := nI 0) hx hb dX0_isWithin_39 (by decide) ?_
            exact q_retZ hx hb hr hlocks (retF (by rw [← hw, wth_some (show 3 - i = (3 - (i + 1)) + 1 by omega)]; simp [k16])) dX0_isWithin_40
          · refine lv_iload_n hx hb dX0_isWithin_19 rfl (lv_at hl 2 rfl) ?_
            refine lv_iload_n hx hb dX0_isWithin_20 rfl (lv_at hl 1 rfl) ?_
            refine q_icmpN_ne (a := q) (b := t) (tgt := 26) (by omega) (by omega) hx hb dX0_isWithin_21 (by decide) (fun k21 => ?_) (fun k21 => ?_)
            · refine lv_aload_n hx hb dX0_isWithin_26 rfl (lv_at hl 0 rfl) ?_
              refine va_get (D := D) (ci := 0) (v := .ref (ad 1)) (C := RX0) (T := TX0) (N := 16) hx hb hts (iX0_isWithin) hown hK hP 0 rfl rfl 1 (by decide) (hts (.fieldLink RX0 13 "ShopHub" "parents" "[I") (by decide +kernel)) (fun _ h9 => h9) rfl dX0_isWithin_27 ?_
              refine lv_iload_n hx hb dX0_isWithin_30 rfl (lv_at hl 2 rfl) ?_
              refine q_ald oI pa hx hb hK hP 2 1 rfl rfl (k := q) (by omega) (Nat.le_of_ble_eq_true rfl) dX0_isWithin_31 ?_
              refine lv_istore_n (lv' := [(3, .int (oI (pa q))), (0, .ref h), (2, .int (nI t)), (4, .int (nI i))]) hx hb dX0_isWithin_32 rfl hl (by decide) rfl (fun ls hl => ?_)
              refine lv_iinc (v := nI (i + 1)) (lv' := [(4, .int (nI (i + 1))), (3, .int (oI (pa q))), (0, .ref h), (2, .int (nI t))]) hx hb dX0_isWithin_33 hl (k := 3) rfl (i1_n i) (by decide) rfl (fun ls hl => ?_)
              refine lv_goto (tgt := 5) hx hb dX0_isWithin_36 (by decide) ?_
              exact ih (i + 1) (pa q) (by omega) (by omega) (by rw [← hw, wth_some (show 3 - i = (3 - (i + 1)) + 1 by omega)]; simp [k16, k21]) (hpr q (hok2 q rfl)) _ (lv_sub hl [2, 3, 1, 0] rfl)
            · refine lv_iconst (v := nI 1) hx hb dX0_isWithin_24 (by decide) ?_
              exact q_retZ hx hb hr hlocks (retT (by rw [← hw, wth_some (show 3 - i = (3 - (i + 1)) + 1 by omega), k16, k21]; simp)) dX0_isWithin_25
  exact loop5 4 0 o (by omega) (Nat.le_refl 4) rfl hok _ (lv_sub hl [2, 4, 1, 0] rfl)

set_option maxHeartbeats 4000000 in
set_option maxRecDepth 100000 in
theorem kX0_placeOf (l : Launch) (g a sh to : Nat) (hg : g < 16) (ha : a < 6) (hsh : sh < 4) (hto : to < 4) : Met l yX0_placeOf wsX0_placeOf ({ frames := 0, cells := 0, slots := 0, locals := 0 } : Room) (sP [.int (nI g), .int (nI a), .int (zI ((sh : Int) - 1)), .int (zI ((to : Int) - 1))]) (pQ (some (.int (nI (plc g a sh to))))) 0 0 nF := by
  refine Met.ofW (cc := cX0_placeOf) (maxL := 6) (ret := (some .int)) (by decide) rfl ?_
  intro p e s m args below meth c s₁ B hml hv
  obtain rfl := hv
  have hx := B.exec
  have hb := B.bytes
  have hr := B.returns
  have hts := atoms_spec (ws := wsX0_placeOf) B.pre
  have hown : s.vm.findClass RX0 = some m.cls := findClass_of_methodNamed B.named
  have hlocks := B.notSynchronized
  have hl := lv_entry ([.int (nI g), .int (nI a), .int (zI ((sh : Int) - 1)), .int (zI ((to : Int) - 1))]) (n := 6) (Nat.le_of_ble_eq_true rfl)
  rw [lg_entry_eq]
  generalize (lg_sl ([.int (nI g), .int (nI a), .int (zI ((sh : Int) - 1)), .int (zI ((to : Int) - 1))]) ++ List.replicate (6 - (lg_sl ([.int (nI g), .int (nI a), .int (zI ((sh : Int) - 1)), .int (zI ((to : Int) - 1))])).length) Slot.unset).toArray = ls at hl ⊢
  have hl : lv_has ls 6 [(0, .int (nI g)), (1, .int (nI a)), (2, .int (zI ((sh : Int) - 1))), (3, .int (zI ((to : Int) - 1)))] := hl
  refine lv_iload_n hx hb dX0_placeOf_0 rfl (lv_at hl 0 rfl) ?_
  refine lv_bipush (v := nI 6) hx hb dX0_placeOf_1 (by decide) ?_
  refine q_mulN (a := g) (b := 6) hx hb dX0_placeOf_3 ?_
  refine lv_iload_n hx hb dX0_placeOf_4 rfl (lv_at hl 1 rfl) ?_
  refine q_addN (a := g * 6) (b := a) hx hb dX0_placeOf_5 ?_
  refine lv_istore (lv' := [(4, .int (nI ((g * 6) + a))), (0, .int (nI g)), (1, .int (nI a)), (2, .int (zI ((sh : Int) - 1))), (3, .int (zI ((to : Int) - 1)))]) hx hb dX0_placeOf_6 hl (by decide) rfl (fun ls hl => ?_)
  refine lv_iload_n hx hb dX0_placeOf_8 rfl (lv_at hl 3 rfl) ?_
  refine lv_iconst (v := nI 1) hx hb dX0_placeOf_9 (by decide) ?_
  refine q_top (y := zI ((1 : Nat) : Int)) (nz 1) ?_
  refine q_addZ (a := (sh : Int) - 1) (b := ((1 : Nat) : Int)) hx hb dX0_placeOf_10 ?_
  refine q_top (y := nI sh) (by rw [nz]; exact congrArg zI (by omega)) ?_
  refine lv_iconst (v := nI 4) hx hb dX0_placeOf_11 (by decide) ?_
  refine q_mulN (a := sh) (b := 4) hx hb dX0_placeOf_12 ?_
  refine lv_iload_n hx hb dX0_placeOf_13 rfl (lv_at hl 4 rfl) ?_
  refine q_top2 (y := zI ((sh * 4 : Nat) : Int)) (nz (sh * 4)) ?_
  refine q_addZ (a := ((sh * 4 : Nat) : Int)) (b := (to : Int) - 1) hx hb dX0_placeOf_14 ?_
  refine lv_iconst (v := nI 1) hx hb dX0_placeOf_15 (by decide) ?_
  refine q_top (y := zI ((1 : Nat) : Int)) (nz 1) ?_
  refine q_addZ (a := ((sh * 4 : Nat) : Int) + ((to : Int) - 1)) (b := ((1 : Nat) : Int)) hx hb dX0_placeOf_16 ?_
  refine q_top (y := nI (sh * 4 + to)) (by rw [nz]; exact congrArg zI (by omega)) ?_
  refine lv_istore (lv' := [(5, .int (nI (sh * 4 + to))), (4, .int (nI ((g * 6) + a))), (0, .int (nI g)), (1, .int (nI a)), (2, .int (zI ((sh : Int) - 1))), (3, .int (zI ((to : Int) - 1)))]) hx hb dX0_placeOf_17 hl (by decide) rfl (fun ls hl => ?_)
  refine lv_iload hx hb dX0_placeOf_19 (lv_at hl 1 rfl) ?_
  refine lv_bipush (v := nI 16) hx hb dX0_placeOf_21 (by decide) ?_
  refine q_mulN (a := (g * 6) + a) (b := 16) hx hb dX0_placeOf_23 ?_
  refine lv_iload hx hb dX0_placeOf_24 (lv_at hl 0 rfl) ?_
  refine q_addN (a := ((g * 6) + a) * 16) (b := sh * 4 + to) hx hb dX0_placeOf_26 ?_
  exact q_retI hx hb hr hlocks (rfl) dX0_placeOf_27
end
section
set_option maxHeartbeats 4000000 in
set_option maxRecDepth 100000 in
theorem kX0_holdsAtItsPlace (l : Launch) (D : va_G) (h : Nat) (ad : Nat → Nat) (cI cZ : ClassId) (ex : Nat → Bool) (pa : Nat → Option Nat) (di : Nat → Nat) (qu : Nat → Nat) (gc : Nat) (dg : Nat → Nat) (dp : Nat → Nat) (dv : Nat → Option Nat) (dd : Nat → Nat) (ds : Nat → Nat) (dc : Nat) (td : Nat) (ho : Nat → Option Nat) (ak : Nat → Bool) (se : Nat → Option Nat) (pr : Nat → Option Nat) (d : Nat) (hd : d < 200) (hp : dp d < 1536) (hho : HO ho dc) (hdc : dc ≤ 200) : Met l yX0_holdsAtItsPlace wsX0_holdsAtItsPlace ({ frames := 0, cells := 0, slots := 0, locals := 0 } : Room) (pP D (hW h ad cI cZ ex pa di qu gc dg dp dv dd ds dc td ho ak se pr) (hT cI cZ) [.ref h, .int (nI d)]) (pQ (some (.int (bI (decide (ho (dp d) = some d)))))) 0 0 nF := by
  refine Met.ofW (cc := cX0_holdsAtItsPlace) (maxL := 2) (ret := (some .boolean)) (by decide) rfl ?_
  intro p e s m args below meth c s₁ B hml hv
  obtain ⟨rfl, hP, hK⟩ := hv
  have hx := B.exec
  have hb := B.bytes
  have hr := B.returns
  have hts := atoms_spec (ws := wsX0_holdsAtItsPlace) B.pre
  have hown : s.vm.findClass RX0 = some m.cls := findClass_of_methodNamed B.named
  have hlocks := B.notSynchronized
  have hl := lv_entry ([.ref h, .int (nI d)]) (n := 2) (Nat.le_of_ble_eq_true rfl)
  rw [lg_entry_eq]
  generalize (lg_sl ([.ref h, .int (nI d)]) ++ List.replicate (2 - (lg_sl ([.ref h, .int (nI d)])).length) Slot.unset).toArray = ls at hl ⊢
  have hl : lv_has ls 2 [(0, .ref h), (1, .int (nI d))] := hl
  refine lv_aload_n hx hb dX0_holdsAtItsPlace_0 rfl (lv_at hl 0 rfl) ?_
  refine va_get (D := D) (ci := 0) (v := .ref (ad 12)) (C := RX0) (T := TX0) (N := 16) hx hb hts (iX0_holdsAtItsPlace) hown hK hP 0 rfl rfl 12 (by decide) (hts (.fieldLink RX0 48 "ShopHub" "holders" "[I") (by decide +kernel)) (fun _ h9 => h9) rfl dX0_holdsAtItsPlace_1 ?_
  refine lv_aload_n hx hb dX0_holdsAtItsPlace_4 rfl (lv_at hl 0 rfl) ?_
  refine va_get (D := D) (ci := 0) (v := .ref (ad 6)) (C := RX0) (T := TX0) (N := 16) hx hb hts (iX0_holdsAtItsPlace) hown hK hP 0 rfl rfl 6 (by decide) (hts (.fieldLink RX0 30 "ShopHub" "draftPlaces" "[I") (by decide +kernel)) (fun _ h9 => h9) rfl dX0_holdsAtItsPlace_5 ?_
  refine lv_iload_n hx hb dX0_holdsAtItsPlace_8 rfl (lv_at hl 1 rfl) ?_
  refine q_ald nI dp hx hb hK hP 6 1 rfl rfl (k := d) (hd) (Nat.le_of_ble_eq_true rfl) dX0_holdsAtItsPlace_9 ?_
  refine q_ald oI ho hx hb hK hP 10 1 rfl rfl (k := dp d) (hp) (Nat.le_of_ble_eq_true rfl) dX0_holdsAtItsPlace_10 ?_
  refine lv_iload_n hx hb dX0_holdsAtItsPlace_11 rfl (lv_at hl 1 rfl) ?_
  refine q_top (y := oI (some d)) ((rfl : nI d = oI (some d))) ?_
  refine q_icmpO_ne (a := ho (dp d)) (b := some d) (tgt := 19) (fun k h9 => by have := hho _ (hp) k h9; omega) (fun k h9 => by cases h9; omega) hx hb dX0_holdsAtItsPlace_12 (by decide) (fun k12 => ?_) (fun k12 => ?_)
  · refine lv_iconst (v := nI 0) hx hb dX0_holdsAtItsPlace_19 (by decide) ?_
    exact q_retZ hx hb hr hlocks (by first | exact retF (decide_eq_false k12) | exact retT (decide_eq_true k12)) dX0_holdsAtItsPlace_20
  · refine lv_iconst (v := nI 1) hx hb dX0_holdsAtItsPlace_15 (by decide) ?_
    refine lv_goto (tgt := 20) hx hb dX0_holdsAtItsPlace_16 (by decide) ?_
    exact q_retZ hx hb hr hlocks (by first | exact retF (decide_eq_false k12) | exact retT (decide_eq_true k12)) dX0_holdsAtItsPlace_20

set_option maxHeartbeats 4000000 in
set_option maxRecDepth 100000 in
theorem kX0_findOwnOrigin (l : Launch) (D : va_G) (h : Nat) (ad : Nat → Nat) (cI cZ : ClassId) (ex : Nat → Bool) (pa : Nat → Option Nat) (di : Nat → Nat) (qu : Nat → Nat) (gc : Nat) (dg : Nat → Nat) (dp : Nat → Nat) (dv : Nat → Option Nat) (dd : Nat → Nat) (ds : Nat → Nat) (dc : Nat) (td : Nat) (ho : Nat → Option Nat) (ak : Nat → Bool) (se : Nat → Option Nat) (pr : Nat → Option Nat) (g a sp tp : Nat) (hg : g < 16) (ha : a < 6) (hs : sp < 3) (ht : tp < 3) (hho : HO ho dc) (hdc : dc ≤ 200) : Met l yX0_findOwnOrigin wsX0_findOwnOrigin ({ frames := 1, cells := 0, slots := 0, locals := 25 } : Room) (pP D (hW h ad cI cZ ex pa di qu gc dg dp dv dd ds dc td ho ak se pr) (hT cI cZ) [.ref h, .int (nI g), .int (nI a), .int (nI sp), .int (nI tp)]) (pQ (some (.int (oI (own ho g a (sp + 1) (tp + 1)))))) 0 0 nF := by
  refine Met.ofW (cc := cX0_findOwnOrigin) (maxL := 6) (ret := (some .int)) (by decide) rfl ?_
  intro p e s m args below meth c s₁ B hml hv
  obtain ⟨rfl, hP, hK⟩ := hv
  have hx := B.exec
  have hb := B.bytes
  have hr := B.returns
  have hts := atoms_spec (ws := wsX0_findOwnOrigin) B.pre
  have hown : s.vm.findClass RX0 = some m.cls := findClass_of_methodNamed B.named
  have hlocks := B.notSynchronized
  have hl := lv_entry ([.ref h, .int (nI g), .int (nI a), .int (nI sp), .int (nI tp)]) (n := 6) (Nat.le_of_ble_eq_true rfl)
  rw [lg_entry_eq]
  generalize (lg_sl ([.ref h, .int (nI g), .int (nI a), .int (nI sp), .int (nI tp)]) ++ List.replicate (6 - (lg_sl ([.ref h, .int (nI g), .int (nI a), .int (nI sp), .int (nI tp)])).length) Slot.unset).toArray = ls at hl ⊢
  have hl : lv_has ls 6 [(0, .ref h), (1, .int (nI g)), (2, .int (nI a)), (3, .int (nI sp)), (4, .int (nI tp))] := hl
  refine lv_aload_n hx hb dX0_findOwnOrigin_0 rfl (lv_at hl 0 rfl) ?_
  refine va_get (D := D) (ci := 0) (v := .ref (ad 12)) (C := RX0) (T := TX0) (N := 16) hx hb hts (iX0_findOwnOrigin) hown hK hP 0 rfl rfl 12 (by decide) (hts (.fieldLink RX0 48 "ShopHub" "holders" "[I") (by decide +kernel)) (fun _ h9 => h9) rfl dX0_findOwnOrigin_1 ?_
  refine lv_iload_n hx hb dX0_findOwnOrigin_4 rfl (lv_at hl 1 rfl) ?_
  refine lv_iload_n hx hb dX0_findOwnOrigin_5 rfl (lv_at hl 2 rfl) ?_
  refine lv_iload_n hx hb dX0_findOwnOrigin_6 rfl (lv_at hl 3 rfl) ?_
  refine lv_iload hx hb dX0_findOwnOrigin_7 (lv_at hl 4 rfl) ?_
  refine q_top (y := zI (((tp + 1 : Nat) : Int) - 1)) (by rw [nz]; exact congrArg zI (by omega)) ?_
  refine q_top2 (y := zI (((sp + 1 : Nat) : Int) - 1)) (by rw [nz]; exact congrArg zI (by omega)) ?_
  refine q_callI (r := nI (plc g a (sp + 1) (tp + 1))) (va_runS (As := [.int (nI g), .int (nI a), .int (zI (((sp + 1 : Nat) : Int) - 1)), .int (zI (((tp + 1 : Nat) : Int) - 1))]) (rest := [.ref (ad 12)]) ⟨hx, hb, hml, hown, hts⟩ (kX0_placeOf l g a (sp + 1) (tp + 1) hg ha (by omega) (by omega)) (cwS 4 hts gX0_findOwnOrigin_X0_placeOf rfl rfl rfl (by decide +kernel) ⟨Nat.le_of_ble_eq_true rfl, Nat.le_of_ble_eq_true rfl⟩) ⟨sP_blind, sP_pre⟩ rfl rfl hl.1 rfl (lv_room (Nat.le_of_ble_eq_true rfl)) dX0_findOwnOrigin_9 ⟨Nat.zero_le _, Nat.zero_le _⟩) ?_
  refine q_ald oI ho hx hb hK hP 10 1 rfl rfl (k := plc g a (sp + 1) (tp + 1)) (plc_lt hg ha (by omega) (by omega)) (Nat.le_of_ble_eq_true rfl) dX0_findOwnOrigin_12 ?_
  refine lv_istore (lv' := [(5, .int (oI (ho (plc g a (sp + 1) (tp + 1))))), (0, .ref h), (1, .int (nI g)), (2, .int (nI a)), (3, .int (nI sp)), (4, .int (nI tp))]) hx hb dX0_findOwnOrigin_13 hl (by decide) rfl (fun ls hl => ?_)
  refine lv_iload hx hb dX0_findOwnOrigin_15 (lv_at hl 0 rfl) ?_
  refine lv_iconst (v := oI none) hx hb dX0_findOwnOrigin_17 (by decide) ?_
  refine q_icmpO_ne (a := ho (plc g a (sp + 1) (tp + 1))) (b := none) (tgt := 35) (fun k h9 => by have := hho _ (plc_lt hg ha (by omega) (by omega)) k h9; omega) (fun k h9 => by cases h9) hx hb dX0_findOwnOrigin_18 (by decide) (fun k18 => ?_) (fun k18 => ?_)
  · refine lv_iload hx hb dX0_findOwnOrigin_35 (lv_at hl 0 rfl) ?_
    refine lv_iconst (v := oI none) hx hb dX0_findOwnOrigin_37 (by decide) ?_
    refine q_icmpO_ne (a := ho (plc g a (sp + 1) (tp + 1))) (b := none) (tgt := 56) (fun k h9 => by have := hho _ (plc_lt hg ha (by omega) (by omega)) k h9; omega) (fun k h9 => by cases h9) hx hb dX0_findOwnOrigin_38 (by decide) (fun k38 => ?_) (fun k38 => absurd k38 k18)
    refine lv_iload hx hb dX0_findOwnOrigin_56 (lv_at hl 0 rfl) ?_
    refine lv_iconst (v := oI none) hx hb dX0_findOwnOrigin_58 (by decide) ?_
    refine q_icmpO_ne (a := ho (plc g a (sp + 1) (tp + 1))) (b := none) (tgt := 76) (fun k h9 => by have := hho _ (plc_lt hg ha (by omega) (by omega)) k h9; omega) (fun k h9 => by cases h9) hx hb dX0_findOwnOrigin_59 (by decide) (fun k59 => ?_) (fun k59 => absurd k59 k18)
    refine lv_iload hx hb dX0_findOwnOrigin_76 (lv_at hl 0 rfl) ?_
    exact q_retI hx hb hr hlocks (by unfold own; rw [orE_l k18]) dX0_findOwnOrigin_78
  · refine lv_aload_n hx hb dX0_findOwnOrigin_21 rfl (lv_at hl 1 rfl) ?_
    refine va_get (D := D) (ci := 0) (v := .ref (ad 12)) (C := RX0) (T := TX0) (N := 16) hx hb hts (iX0_findOwnOrigin) hown hK hP 0 rfl rfl 12 (by decide) (hts (.fieldLink RX0 48 "ShopHub" "holders" "[I") (by decide +kernel)) (fun _ h9 => h9) rfl dX0_findOwnOrigin_22 ?_
    refine lv_iload_n hx hb dX0_findOwnOrigin_25 rfl (lv_at hl 2 rfl) ?_
    refine lv_iload_n hx hb dX0_findOwnOrigin_26 rfl (lv_at hl 3 rfl) ?_
    refine lv_iload_n hx hb dX0_findOwnOrigin_27 rfl (lv_at hl 4 rfl) ?_
    refine lv_iconst (v := oI none) hx hb dX0_findOwnOrigin_28 (by decide) ?_
    refine q_top (y := zI (((0 : Nat) : Int) - 1)) (by decide) ?_
    refine q_top2 (y := zI (((sp + 1 : Nat) : Int) - 1)) (by rw [nz]; exact congrArg zI (by omega)) ?_
    refine q_callI (r := nI (plc g a (sp + 1) 0)) (va_runS (As := [.int (nI g), .int (nI a), .int (zI (((sp + 1 : Nat) : Int) - 1)), .int (zI (((0 : Nat) : Int) - 1))]) (rest := [.ref (ad 12)]) ⟨hx, hb, hml, hown, hts⟩ (kX0_placeOf l g a (sp + 1) 0 hg ha (by omega) (by omega)) (cwS 4 hts gX0_findOwnOrigin_X0_placeOf rfl rfl rfl (by decide +kernel) ⟨Nat.le_of_ble_eq_true rfl, Nat.le_of_ble_eq_true rfl⟩) ⟨sP_blind, sP_pre⟩ rfl rfl hl.1 rfl (lv_room (Nat.le_of_ble_eq_true rfl)) dX0_findOwnOrigin_29 ⟨Nat.zero_le _, Nat.zero_le _⟩) ?_
    refine q_ald oI ho hx hb hK hP 10 1 rfl rfl (k := plc g a (sp + 1) 0) (plc_lt hg ha (by omega) (by omega)) (Nat.le_of_ble_eq_true rfl) dX0_findOwnOrigin_32 ?_
    refine lv_istore (lv' := [(5, .int (oI (ho (plc g a (sp + 1) 0)))), (0, .ref h), (1, .int (nI g)), (2, .int (nI a)), (3, .int (nI sp)), (4, .int (nI tp))]) hx hb dX0_findOwnOrigin_33 hl (by decide) rfl (fun ls hl => ?_)
    refine lv_iload hx hb dX0_findOwnOrigin_35 (lv_at hl 0 rfl) ?_
    refine lv_iconst (v := oI none) hx hb dX0_findOwnOrigin_37 (by decide) ?_
    refine q_icmpO_ne (a := ho (plc g a (sp + 1) 0)) (b := none) (tgt := 56) (fun k h9 => by have := hho _ (plc_lt hg ha (by omega) (by omega)) k h9; omega) (fun k h9 => by cases h9) hx hb dX0_findOwnOrigin_38 (by decide) (fun k38 => ?_) (fun k38 => ?_)
    · refine lv_iload hx hb dX0_findOwnOrigin_56 (lv_at hl 0 rfl) ?_
      refine lv_iconst (v := oI none) hx hb dX0_findOwnOrigin_58 (by decide) ?_
      refine q_icmpO_ne (a := ho (plc g a (sp + 1) 0)) (b := none) (tgt := 76) (fun k h9 => by have := hho _ (plc_lt hg ha (by omega) (by omega)) k h9; omega) (fun k h9 => by cases h9) hx hb dX0_findOwnOrigin_59 (by decide) (fun k59 => ?_) (fun k59 => absurd k59 k38)
      refine lv_iload hx hb dX0_findOwnOrigin_76 (lv_at hl 0 rfl) ?_
      exact q_retI hx hb hr hlocks (by unfold own; rw [orE_r k18, orE_l k38]) dX0_findOwnOrigin_78
    · refine lv_aload_n hx hb dX0_findOwnOrigin_41 rfl (lv_at hl 1 rfl) ?_
      refine va_get (D := D) (ci := 0) (v := .ref (ad 12)) (C := RX0) (T := TX0) (N := 16) hx hb hts (iX0_findOwnOrigin) hown hK hP 0 rfl rfl 12 (by decide) (hts (.fieldLink RX0 48 "ShopHub" "holders" "[I") (by decide +kernel)) (fun _ h9 => h9) rfl dX0_findOwnOrigin_42 ?_
      refine lv_iload_n hx hb dX0_findOwnOrigin_45 rfl (lv_at hl 2 rfl) ?_
      refine lv_iload_n hx hb dX0_findOwnOrigin_46 rfl (lv_at hl 3 rfl) ?_
      refine lv_iconst (v := oI none) hx hb dX0_findOwnOrigin_47 (by decide) ?_
      refine lv_iload hx hb dX0_findOwnOrigin_48 (lv_at hl 5 rfl) ?_
      refine q_top (y := zI (((tp + 1 : Nat) : Int) - 1)) (by rw [nz]; exact congrArg zI (by omega)) ?_
      refine q_top2 (y := zI (((0 : Nat) : Int) - 1)) (by decide) ?_
      refine q_callI (r := nI (plc g a 0 (tp + 1))) (va_runS (As := [.int (nI g), .int (nI a), .int (zI (((0 : Nat) : Int) - 1)), .int (zI (((tp + 1 : Nat) : Int) - 1))]) (rest := [.ref (ad 12)]) ⟨hx, hb, hml, hown, hts⟩ (kX0_placeOf l g a 0 (tp + 1) hg ha (by omega) (by omega)) (cwS 4 hts gX0_findOwnOrigin_X0_placeOf rfl rfl rfl (by decide +kernel) ⟨Nat.le_of_ble_eq_true rfl, Nat.le_of_ble_eq_true rfl⟩) ⟨sP_blind, sP_pre⟩ rfl rfl hl.1 rfl (lv_room (Nat.le_of_ble_eq_true rfl)) dX0_findOwnOrigin_50 ⟨Nat.zero_le _, Nat.zero_le _⟩) ?_
      refine q_ald oI ho hx hb hK hP 10 1 rfl rfl (k := plc g a 0 (tp + 1)) (plc_lt hg ha (by omega) (by omega)) (Nat.le_of_ble_eq_true rfl) dX0_findOwnOrigin_53 ?_
      refine lv_istore (lv' := [(5, .int (oI (ho (plc g a 0 (tp + 1))))), (0, .ref h), (1, .int (nI g)), (2, .int (nI a)), (3, .int (nI sp)), (4, .int (nI tp))]) hx hb dX0_findOwnOrigin_54 hl (by decide) rfl (fun ls hl => ?_)
      refine lv_iload hx hb dX0_findOwnOrigin_56 (lv_at hl 0 rfl) ?_
      refine lv_iconst (v := oI none) hx hb dX0_findOwnOrigin_58 (by decide) ?_
      refine q_icmpO_ne (a := ho (plc g a 0 (tp + 1))) (b := none) (tgt := 76) (fun k h9 => by have := hho _ (plc_lt hg ha (by omega) (by omega)) k h9; omega) (fun k h9 => by cases h9) hx hb dX0_findOwnOrigin_59 (by decide) (fun k59 => ?_) (fun k59 => ?_)
      · refine lv_iload hx hb dX0_findOwnOrigin_76 (lv_at hl 0 rfl) ?_
        exact q_retI hx hb hr hlocks (by unfold own; rw [orE_r k18, orE_r k38, orE_l k59]) dX0_findOwnOrigin_78
      · refine lv_aload_n hx hb dX0_findOwnOrigin_62 rfl (lv_at hl 1 rfl) ?_
        refine va_get (D := D) (ci := 0) (v := .ref (ad 12)) (C := RX0) (T := TX0) (N := 16) hx hb hts (iX0_findOwnOrigin) hown hK hP 0 rfl rfl 12 (by decide) (hts (.fieldLink RX0 48 "ShopHub" "holders" "[I") (by decide +kernel)) (fun _ h9 => h9) rfl dX0_findOwnOrigin_63 ?_
        refine lv_iload_n hx hb dX0_findOwnOrigin_66 rfl (lv_at hl 2 rfl) ?_
        refine lv_iload_n hx hb dX0_findOwnOrigin_67 rfl (lv_at hl 3 rfl) ?_
        refine lv_iconst (v := oI none) hx hb dX0_findOwnOrigin_68 (by decide) ?_
        refine lv_iconst (v := oI none) hx hb dX0_findOwnOrigin_69 (by decide) ?_
        refine q_top (y := zI (((0 : Nat) : Int) - 1)) (by decide) ?_
        refine q_top2 (y := zI (((0 : Nat) : Int) - 1)) (by decide) ?_
        refine q_callI (r := nI (plc g a 0 0)) (va_runS (As := [.int (nI g), .int (nI a), .int (zI (((0 : Nat) : Int) - 1)), .int (zI (((0 : Nat) : Int) - 1))]) (rest := [.ref (ad 12)]) ⟨hx, hb, hml, hown, hts⟩ (kX0_placeOf l g a 0 0 hg ha (by omega) (by omega)) (cwS 4 hts gX0_findOwnOrigin_X0_placeOf rfl rfl rfl (by decide +kernel) ⟨Nat.le_of_ble_eq_true rfl, Nat.le_of_ble_eq_true rfl⟩) ⟨sP_blind, sP_pre⟩ rfl rfl hl.1 rfl (lv_room (Nat.le_of_ble_eq_true rfl)) dX0_findOwnOrigin_70 ⟨Nat.zero_le _, Nat.zero_le _⟩) ?_
        refine q_ald oI ho hx hb hK hP 10 1 rfl rfl (k := plc g a 0 0) (plc_lt hg ha (by omega) (by omega)) (Nat.le_of_ble_eq_true rfl) dX0_findOwnOrigin_73 ?_
        refine lv_istore (lv' := [(5, .int (oI (ho (plc g a 0 0)))), (0, .ref h), (1, .int (nI g)), (2, .int (nI a)), (3, .int (nI sp)), (4, .int (nI tp))]) hx hb dX0_findOwnOrigin_74 hl (by decide) rfl (fun ls hl => ?_)
        refine lv_iload hx hb dX0_findOwnOrigin_76 (lv_at hl 0 rfl) ?_
        exact q_retI hx hb hr hlocks (by unfold own; rw [orE_r k18, orE_r k38, orE_r k59]) dX0_findOwnOrigin_78

set_option maxHeartbeats 4000000 in
set_option maxRecDepth 100000 in
theorem kX0_findOrigin (l : Launch) (D : va_G) (h : Nat) (ad : Nat → Nat) (cI cZ : ClassId) (ex : Nat → Bool) (pa : Nat → Option Nat) (di : Nat → Nat) (qu : Nat → Nat) (gc : Nat) (dg : Nat → Nat) (dp : Nat → Nat) (dv : Nat → Option Nat) (dd : Nat → Nat) (ds : Nat → Nat) (dc : Nat) (td : Nat) (ho : Nat → Option Nat) (ak : Nat → Bool) (se : Nat → Option Nat) (pr : Nat → Option Nat) (g a sp tp : Nat) (hg : g < 16) (ha : a < 6) (hs : sp < 3) (ht : tp < 3) (hpr : PR pa) (hho : HO ho dc) (hdc : dc ≤ 200) : Met l yX0_findOrigin wsX0_findOrigin ({ frames := 2, cells := 0, slots := 0, locals := 50 } : Room) (pP D (hW h ad cI cZ ex pa di qu gc dg dp dv dd ds dc td ho ak se pr) (hT cI cZ) [.ref h, .int (nI g), .int (nI a), .int (nI sp), .int (nI tp)]) (pQ (some (.int (oI (org ex pa ho a (sp + 1) (tp + 1) 3 (some g)))))) 0 0 nF := by
  refine Met.ofW (cc := cX0_findOrigin) (maxL := 8) (ret := (some .int)) (by decide) rfl ?_
  intro p e s m args below meth c s₁ B hml hv
  obtain ⟨rfl, hP, hK⟩ := hv
  have hx := B.exec
  have hb := B.bytes
  have hr := B.returns
  have hts := atoms_spec (ws := wsX0_findOrigin) B.pre
  have hown : s.vm.findClass RX0 = some m.cls := findClass_of_methodNamed B.named
  have hlocks := B.notSynchronized
  have hl := lv_entry ([.ref h, .int (nI g), .int (nI a), .int (nI sp), .int (nI tp)]) (n := 8) (Nat.le_of_ble_eq_true rfl)
  rw [lg_entry_eq]
  generalize (lg_sl ([.ref h, .int (nI g), .int (nI a), .int (nI sp), .int (nI tp)]) ++ List.replicate (8 - (lg_sl ([.ref h, .int (nI g), .int (nI a), .int (nI sp), .int (nI tp)])).length) Slot.unset).toArray = ls at hl ⊢
  have hl : lv_has ls 8 [(0, .ref h), (1, .int (nI g)), (2, .int (nI a)), (3, .int (nI sp)), (4, .int (nI tp))] := hl
  refine lv_iload_n hx hb dX0_findOrigin_0 rfl (lv_at hl 1 rfl) ?_
  refine lv_istore (lv' := [(5, .int (nI g)), (0, .ref h), (1, .int (nI g)), (2, .int (nI a)), (3, .int (nI sp)), (4, .int (nI tp))]) hx hb dX0_findOrigin_1 hl (by decide) rfl (fun ls hl => ?_)
  refine lv_iconst (v := nI 0) hx hb dX0_findOrigin_3 (by decide) ?_
  refine lv_istore (lv' := [(6, .int (nI 0)), (5, .int (nI g)), (0, .ref h), (1, .int (nI g)), (2, .int (nI a)), (3, .int (nI sp)), (4, .int (nI tp))]) hx hb dX0_findOrigin_4 hl (by decide) rfl (fun ls hl => ?_)
  have loop6 : ∀ (n : Nat) (i : Nat) (o2 : Option Nat), (i ≤ 3) → (4 ≤ i + n) → (org ex pa ho a (sp + 1) (tp + 1) (3 - i) o2 = org ex pa ho a (sp + 1) (tp + 1) 3 (some g)) → (∀ k, o2 = some k → k < 16) → ∀ ls : Array Slot, lv_has ls 8 [(0, .ref h), (2, .int (nI a)), (3, .int (nI sp)), (4, .int (nI tp)), (5, .int (oI o2)), (6, .int (nI i))] → W p l e ({ frames := 2, cells := 0, slots := 0, locals := 50 } : Room) s m ([.ref h, .int (nI g), .int (nI a), .int (nI sp), .int (nI tp)] : List Value).toArray below meth c s.heap [] 0 0 (MQ below (pQ (some (.int (oI (org ex pa ho a (sp + 1) (tp + 1) 3 (some g)))))) ([.ref h, .int (nI g), .int (nI a), .int (nI sp), .int (nI tp)] : List Value).toArray s 0 0 nF) (F0 m 6 ls []) := by
    intro n
    induction n with
    | zero => intro i o2 hle hn hw hok2; omega
    | succ n ih =>
      intro i o2 hle hn hw hok2 ls hl
      refine lv_iload hx hb dX0_findOrigin_6 (lv_at hl 5 rfl) ?_
      refine lv_iconst (v := nI 3) hx hb dX0_findOrigin_8 (by decide) ?_
      refine q_icmpN_ge (a := i) (b := 3) (tgt := 57) (by omega) (by omega) hx hb dX0_findOrigin_9 (by decide) (fun k9 => ?_) (fun k9 => ?_)
      · refine lv_iconst (v := oI none) hx hb dX0_findOrigin_57 (by decide) ?_
        exact q_retI hx hb hr hlocks (by rw [← hw, show 3 - i = 0 by omega]; rfl) dX0_findOrigin_58
      · cases o2 with
        | none =>
          refine lv_aload_n hx hb dX0_findOrigin_12 rfl (lv_at hl 0 rfl) ?_
          refine lv_iload hx hb dX0_findOrigin_13 (lv_at hl 4 rfl) ?_
          refine q_callI (r := bI false) (va_runV (As := [.int (oI none)]) (rest := []) ⟨hx, hb, hml, hown, hts⟩ (kX0_isGoodR l D h ad cI cZ ex pa di qu gc dg dp dv dd ds dc td ho ak se pr (oI none) (Or.inl (by decide))) (cwV 1 hts gX0_findOrigin_X0_isGood rfl rfl rfl (by decide +kernel) ⟨Nat.le_of_ble_eq_true rfl, Nat.le_of_ble_eq_true rfl⟩) ⟨pP_blind, va_recv hK hP (ci := 0) (q0 := 0) rfl rfl, pP_pre hP hK⟩ rfl rfl hl.1 rfl (lv_room (Nat.le_of_ble_eq_true rfl)) dX0_findOrigin_15 ⟨Nat.zero_le _, Nat.zero_le _⟩) ?_
          refine q_ifB_eq (b := false) (tgt := 57) hx hb dX0_findOrigin_18 (by decide) (fun k18 => ?_) (fun k18 => absurd k18 (by decide))
          refine lv_iconst (v := oI none) hx hb dX0_findOrigin_57 (by decide) ?_
          exact q_retI hx hb hr hlocks (by rw [← hw, org_none]) dX0_findOrigin_58
        | some q =>
          have hq : q < 16 := hok2 q rfl
          refine lv_aload_n hx hb dX0_findOrigin_12 rfl (lv_at hl 0 rfl) ?_
          refine lv_iload hx hb dX0_findOrigin_13 (lv_at hl 4 rfl) ?_
          refine q_callI (r := bI (ex q)) (va_runV (As := [.int (nI q)]) (rest := []) ⟨hx, hb, hml, hown, hts⟩ (kX0_isGoodN l D h ad cI cZ ex pa di qu gc dg dp dv dd ds dc td ho ak se pr q hq) (cwV 1 hts gX0_findOrigin_X0_isGood rfl rfl rfl (by decide +kernel) ⟨Nat.le_of_ble_eq_true rfl, Nat.le_of_ble_eq_true rfl⟩) ⟨pP_blind, va_recv hK hP (ci := 0) (q0 := 0) rfl rfl, pP_pre hP hK⟩ rfl rfl hl.1 rfl (lv_room (Nat.le_of_ble_eq_true rfl)) dX0_findOrigin_15 ⟨Nat.zero_le _, Nat.zero_le _⟩) ?_
          refine q_ifB_eq (b := ex q) (tgt := 57) hx hb dX0_findOrigin_18 (by decide) (fun k18 => ?_) (fun k18 => ?_)
          · refine lv_iconst (v := oI none) hx hb dX0_findOrigin_57 (by decide) ?_
            exact q_retI hx hb hr hlocks (by rw [← hw, org_some (show 3 - i = (3 - (i + 1)) + 1 by omega), if_neg (by rw [k18]; decide)]) dX0_findOrigin_58
          · refine lv_aload_n hx hb dX0_findOrigin_21 rfl (lv_at hl 0 rfl) ?_
            refine lv_iload hx hb dX0_findOrigin_22 (lv_at hl 4 rfl) ?_
            refine lv_iload_n hx hb dX0_findOrigin_24 rfl (lv_at hl 1 rfl) ?_
            refine lv_iload_n hx hb dX0_findOrigin_25 rfl (lv_at hl 2 rfl) ?_
            refine lv_iload hx hb dX0_findOrigin_26 (lv_at hl 3 rfl) ?_
            refine q_callI (r := oI (own ho q a (sp + 1) (tp + 1))) (va_runV (As := [.int (nI q), .int (nI a), .int (nI sp), .int (nI tp)]) (rest := []) ⟨hx, hb, hml, hown, hts⟩ (kX0_findOwnOrigin l D h ad cI cZ ex pa di qu gc dg dp dv dd ds dc td ho ak se pr q a sp tp hq ha hs ht hho hdc) (cwV 4 hts gX0_findOrigin_X0_findOwnOrigin rfl rfl rfl (by decide +kernel) ⟨Nat.le_of_ble_eq_true rfl, Nat.le_of_ble_eq_true rfl⟩) ⟨pP_blind, va_recv hK hP (ci := 0) (q0 := 0) rfl rfl, pP_pre hP hK⟩ rfl rfl hl.1 rfl (lv_room (Nat.le_of_ble_eq_true rfl)) dX0_findOrigin_28 ⟨Nat.zero_le _, Nat.zero_le _⟩) ?_
            refine lv_istore (lv' := [(7, .int (oI (own ho q a (sp + 1) (tp + 1)))), (0, .ref h), (2, .int (nI a)), (3, .int (nI sp)), (4, .int (nI tp)), (5, .int (nI q)), (6, .int (nI i))]) hx hb dX0_findOrigin_31 hl (by decide) rfl (fun ls hl => ?_)
            refine lv_iload hx hb dX0_findOrigin_33 (lv_at hl 0 rfl) ?_
            refine lv_iconst (v := oI none) hx hb dX0_findOrigin_35 (by decide) ?_
            refine q_icmpO_eq (a := own ho q a (sp + 1) (tp + 1)) (b := none) (tgt := 42) (fun k h9 => by have := own_in hho hq ha (show sp + 1 < 4 by omega) (show tp + 1 < 4 by omega) k h9; omega) (fun k h9 => by cases h9) hx hb dX0_findOrigin_36 (by decide) (fun k36 => ?_) (fun k36 => ?_)
            · refine lv_aload_n hx hb dX0_findOrigin_42 rfl (lv_at hl 1 rfl) ?_
              refine va_get (D := D) (ci := 0) (v := .ref (ad 1)) (C := RX0) (T := TX0) (N := 16) hx hb hts (iX0_findOrigin) hown hK hP 0 rfl rfl 1 (by decide) (hts (.fieldLink RX0 13 "ShopHub" "parents" "[I") (by decide +kernel)) (fun _ h9 => h9) rfl dX0_findOrigin_43 ?_
              refine lv_iload hx hb dX0_findOrigin_46 (lv_at hl 5 rfl) ?_
              refine q_ald oI pa hx hb hK hP 2 1 rfl rfl (k := q) (by omega) (Nat.le_of_ble_eq_true rfl) dX0_findOrigin_48 ?_
              refine lv_istore (lv' := [(5, .int (oI (pa q))), (7, .int (oI (own ho q a (sp + 1) (tp + 1)))), (0, .ref h), (2, .int (nI a)), (3, .int (nI sp)), (4, .int (nI tp)), (6, .int (nI i))]) hx hb dX0_findOrigin_49 hl (by decide) rfl (fun ls hl => ?_)
              refine lv_iinc (v := nI (i + 1)) (lv' := [(6, .int (nI (i + 1))), (5, .int (oI (pa q))), (7, .int (oI (own ho q a (sp + 1) (tp + 1)))), (0, .ref h), (2, .int (nI a)), (3, .int (nI sp)), (4, .int (nI tp))]) hx hb dX0_findOrigin_51 hl (k := 6) rfl (i1_n i) (by decide) rfl (fun ls hl => ?_)
              refine lv_goto (tgt := 6) hx hb dX0_findOrigin_54 (by decide) ?_
              exact ih (i + 1) (pa q) (by omega) (by omega) (by rw [← hw, org_some (show 3 - i = (3 - (i + 1)) + 1 by omega), if_pos k18, orE_r k36]) (hpr q hq) _ (lv_sub hl [3, 4, 5, 6, 1, 0] rfl)
            · refine lv_iload hx hb dX0_findOrigin_39 (lv_at hl 0 rfl) ?_
              exact q_retI hx hb hr hlocks (by rw [← hw, org_some (show 3 - i = (3 - (i + 1)) + 1 by omega), if_pos k18, orE_l k36]) dX0_findOrigin_41
  exact loop6 4 0 (some g) (by omega) (Nat.le_refl 4) rfl (fun k h9 => by cases h9; exact hg) _ (lv_sub hl [2, 4, 5, 6, 1, 0] rfl)

set_option maxHeartbeats 4000000 in
set_option maxRecDepth 100000 in
theorem kX0_findValue (l : Launch) (D : va_G) (h : Nat) (ad : Nat → Nat) (cI cZ : ClassId) (ex : Nat → Bool) (pa : Nat → Option Nat) (di : Nat → Nat) (qu : Nat → Nat) (gc : Nat) (dg : Nat → Nat) (dp : Nat → Nat) (dv : Nat → Option Nat) (dd : Nat → Nat) (ds : Nat → Nat) (dc : Nat) (td : Nat) (ho : Nat → Option Nat) (ak : Nat → Bool) (se : Nat → Option Nat) (pr : Nat → Option Nat) (g a sp tp : Nat) (hg : g < 16) (ha : a < 6) (hs : sp < 3) (ht : tp < 3) (hpr : PR pa) (hho : HO ho dc) (hdc : dc ≤ 200) : Met l yX0_findValue wsX0_findValue ({ frames := 3, cells := 0, slots := 0, locals := 77 } : Room) (pP D (hW h ad cI cZ ex pa di qu gc dg dp dv dd ds dc td ho ak se pr) (hT cI cZ) [.ref h, .int (nI g), .int (nI a), .int (nI sp), .int (nI tp)]) (pQ (some (.int (oI (vlu ex pa ho dv a (sp + 1) (tp + 1) g))))) 0 0 nF := by
  refine Met.ofW (cc := cX0_findValue) (maxL := 6) (ret := (some .int)) (by decide) rfl ?_
  intro p e s m args below meth c s₁ B hml hv
  obtain ⟨rfl, hP, hK⟩ := hv
  have hx := B.exec
  have hb := B.bytes
  have hr := B.returns
  have hts := atoms_spec (ws := wsX0_findValue) B.pre
  have hown : s.vm.findClass RX0 = some m.cls := findClass_of_methodNamed B.named
  have hlocks := B.notSynchronized
  have hl := lv_entry ([.ref h, .int (nI g), .int (nI a), .int (nI sp), .int (nI tp)]) (n := 6) (Nat.le_of_ble_eq_true rfl)
  rw [lg_entry_eq]
  generalize (lg_sl ([.ref h, .int (nI g), .int (nI a), .int (nI sp), .int (nI tp)]) ++ List.replicate (6 - (lg_sl ([.ref h, .int (nI g), .int (nI a), .int (nI sp), .int (nI tp)])).length) Slot.unset).toArray = ls at hl ⊢
  have hl : lv_has ls 6 [(0, .ref h), (1, .int (nI g)), (2, .int (nI a)), (3, .int (nI sp)), (4, .int (nI tp))] := hl
  refine lv_aload_n hx hb dX0_findValue_0 rfl (lv_at hl 0 rfl) ?_
  refine lv_iload_n hx hb dX0_findValue_1 rfl (lv_at hl 1 rfl) ?_
  refine lv_iload_n hx hb dX0_findValue_2 rfl (lv_at hl 2 rfl) ?_
  refine lv_iload_n hx hb dX0_findValue_3 rfl (lv_at hl 3 rfl) ?_
  refine lv_iload hx hb dX0_findValue_4 (lv_at hl 4 rfl) ?_
  refine q_callI (r := oI (org ex pa ho a (sp + 1) (tp + 1) 3 (some g))) (va_runV (As := [.int (nI g), .int (nI a), .int (nI sp), .int (nI tp)]) (rest := []) ⟨hx, hb, hml, hown, hts⟩ (kX0_findOrigin l D h ad cI cZ ex pa di qu gc dg dp dv dd ds dc td ho ak se pr g a sp tp hg ha hs ht hpr hho hdc) (cwV 4 hts gX0_findValue_X0_findOrigin rfl rfl rfl (by decide +kernel) ⟨Nat.le_of_ble_eq_true rfl, Nat.le_of_ble_eq_true rfl⟩) ⟨pP_blind, va_recv hK hP (ci := 0) (q0 := 0) rfl rfl, pP_pre hP hK⟩ rfl rfl hl.1 rfl (lv_room (Nat.le_of_ble_eq_true rfl)) dX0_findValue_6 ⟨Nat.zero_le _, Nat.zero_le _⟩) ?_
  obtain ⟨o5, eo5⟩ : ∃ z, z = org ex pa ho a (sp + 1) (tp + 1) 3 (some g) := ⟨_, rfl⟩
  refine q_top (y := oI o5) (by rw [eo5]) ?_
  refine lv_istore (lv' := [(5, .int (oI o5)), (0, .ref h), (1, .int (nI g)), (2, .int (nI a)), (3, .int (nI sp)), (4, .int (nI tp))]) hx hb dX0_findValue_9 hl (by decide) rfl (fun ls hl => ?_)
  cases o5 with
  | none =>
    refine lv_aload_n hx hb dX0_findValue_11 rfl (lv_at hl 1 rfl) ?_
    refine lv_iload hx hb dX0_findValue_12 (lv_at hl 0 rfl) ?_
    refine q_callI (r := bI false) (va_runV (As := [.int (oI none)]) (rest := []) ⟨hx, hb, hml, hown, hts⟩ (kX0_isEnteredR l D h ad cI cZ ex pa di qu gc dg dp dv dd ds dc td ho ak se pr (oI none) (by decide)) (cwV 1 hts gX0_findValue_X0_isEntered rfl rfl rfl (by decide +kernel) ⟨Nat.le_of_ble_eq_true rfl, Nat.le_of_ble_eq_true rfl⟩) ⟨pP_blind, va_recv hK hP (ci := 0) (q0 := 0) rfl rfl, pP_pre hP hK⟩ rfl rfl hl.1 rfl (lv_room (Nat.le_of_ble_eq_true rfl)) dX0_findValue_14 ⟨Nat.zero_le _, Nat.zero_le _⟩) ?_
    refine q_ifB_eq (b := false) (tgt := 30) hx hb dX0_findValue_17 (by decide) (fun k17 => ?_) (fun k17 => absurd k17 (by decide))
    refine lv_iconst (v := oI none) hx hb dX0_findValue_30 (by decide) ?_
    exact q_retI hx hb hr hlocks (by rw [vlu_none eo5]) dX0_findValue_31
  | some k =>
    have hk : k < dc := org_in hho hpr ha (show sp + 1 < 4 by omega) (show tp + 1 < 4 by omega) 3 (some g) (fun k h9 => by cases h9; exact hg) k eo5.symm
    refine lv_aload_n hx hb dX0_findValue_11 rfl (lv_at hl 1 rfl) ?_
    refine lv_iload hx hb dX0_findValue_12 (lv_at hl 0 rfl) ?_
    refine q_callI (r := bI (decide (k < dc))) (va_runV (As := [.int (nI k)]) (rest := []) ⟨hx, hb, hml, hown, hts⟩ (kX0_isEnteredN l D h ad cI cZ ex pa di qu gc dg dp dv dd ds dc td ho ak se pr k (by omega) hdc) (cwV 1 hts gX0_findValue_X0_isEntered rfl rfl rfl (by decide +kernel) ⟨Nat.le_of_ble_eq_true rfl, Nat.le_of_ble_eq_true rfl⟩) ⟨pP_blind, va_recv hK hP (ci := 0) (q0 := 0) rfl rfl, pP_pre hP hK⟩ rfl rfl hl.1 rfl (lv_room (Nat.le_of_ble_eq_true rfl)) dX0_findValue_14 ⟨Nat.zero_le _, Nat.zero_le _⟩) ?_
    refine q_ifB_eq (b := decide (k < dc)) (tgt := 30) hx hb dX0_findValue_17 (by decide) (fun k17 => absurd k17 (by rw [decide_eq_true hk]; decide)) (fun k17 => ?_)
    refine lv_aload_n hx hb dX0_findValue_20 rfl (lv_at hl 1 rfl) ?_
    refine va_get (D := D) (ci := 0) (v := .ref (ad 7)) (C := RX0) (T := TX0) (N := 16) hx hb hts (iX0_findValue) hown hK hP 0 rfl rfl 7 (by decide) (hts (.fieldLink RX0 33 "ShopHub" "draftValues" "[I") (by decide +kernel)) (fun _ h9 => h9) rfl dX0_findValue_21 ?_
    refine lv_iload hx hb dX0_findValue_24 (lv_at hl 0 rfl) ?_
    refine q_ald oI dv hx hb hK hP 7 1 rfl rfl (k := k) (by omega) (Nat.le_of_ble_eq_true rfl) dX0_findValue_26 ?_
    refine lv_goto (tgt := 31) hx hb dX0_findValue_27 (by decide) ?_
    exact q_retI hx hb hr hlocks (by rw [vlu_some eo5]) dX0_findValue_31

set_option maxHeartbeats 4000000 in
set_option maxRecDepth 100000 in
theorem kX0_findMissing (l : Launch) (D : va_G) (h : Nat) (ad : Nat → Nat) (cI cZ : ClassId) (ex : Nat → Bool) (pa : Nat → Option Nat) (di : Nat → Nat) (qu : Nat → Nat) (gc : Nat) (dg : Nat → Nat) (dp : Nat → Nat) (dv : Nat → Option Nat) (dd : Nat → Nat) (ds : Nat → Nat) (dc : Nat) (td : Nat) (ho : Nat → Option Nat) (ak : Nat → Bool) (se : Nat → Option Nat) (pr : Nat → Option Nat) (g sp tp : Nat) (hg : g < 16) (hs : sp < 3) (ht : tp < 3) (hpr : PR pa) (hho : HO ho dc) (hdc : dc ≤ 200) (hdv : DV dv dc) : Met l yX0_findMissing wsX0_findMissing ({ frames := 4, cells := 0, slots := 0, locals := 102 } : Room) (pP D (hW h ad cI cZ ex pa di qu gc dg dp dv dd ds dc td ho ak se pr) (hT cI cZ) [.ref h, .int (nI g), .int (nI sp), .int (nI tp)]) (pQ (some (.int (nI (bset (lck ex pa ho dv ak g sp tp) 6))))) 0 0 nF := by
  refine Met.ofW (cc := cX0_findMissing) (maxL := 6) (ret := (some .int)) (by decide) rfl ?_
  intro p e s m args below meth c s₁ B hml hv
  obtain ⟨rfl, hP, hK⟩ := hv
  have hx := B.exec
  have hb := B.bytes
  have hr := B.returns
  have hts := atoms_spec (ws := wsX0_findMissing) B.pre
  have hown : s.vm.findClass RX0 = some m.cls := findClass_of_methodNamed B.named
  have hlocks := B.notSynchronized
  have hl := lv_entry ([.ref h, .int (nI g), .int (nI sp), .int (nI tp)]) (n := 6) (Nat.le_of_ble_eq_true rfl)
  rw [lg_entry_eq]
  generalize (lg_sl ([.ref h, .int (nI g), .int (nI sp), .int (nI tp)]) ++ List.replicate (6 - (lg_sl ([.ref h, .int (nI g), .int (nI sp), .int (nI tp)])).length) Slot.unset).toArray = ls at hl ⊢
  have hl : lv_has ls 6 [(0, .ref h), (1, .int (nI g)), (2, .int (nI sp)), (3, .int (nI tp))] := hl
  refine lv_iconst (v := nI 0) hx hb dX0_findMissing_0 (by decide) ?_
  refine lv_istore (lv' := [(4, .int (nI 0)), (0, .ref h), (1, .int (nI g)), (2, .int (nI sp)), (3, .int (nI tp))]) hx hb dX0_findMissing_1 hl (by decide) rfl (fun ls hl => ?_)
  refine lv_iconst (v := nI 0) hx hb dX0_findMissing_3 (by decide) ?_
  refine lv_istore (lv' := [(5, .int (nI 0)), (4, .int (nI 0)), (0, .ref h), (1, .int (nI g)), (2, .int (nI sp)), (3, .int (nI tp))]) hx hb dX0_findMissing_4 hl (by decide) rfl (fun ls hl => ?_)
  have loop6 : ∀ (n : Nat) (i : Nat) (b : Nat), (i ≤ 6) → (7 ≤ i + n) → (b = bset (lck ex pa ho dv ak g sp tp) i) → ∀ ls : Array Slot, lv_has ls 6 [(0, .ref h), (1, .int (nI g)), (2, .int (nI sp)), (3, .int (nI tp)), (4, .int (nI b)), (5, .int (nI i))] → W p l e ({ frames := 4, cells := 0, slots := 0, locals := 102 } : Room) s m ([.ref h, .int (nI g), .int (nI sp), .int (nI tp)] : List Value).toArray below meth c s.heap [] 0 0 (MQ below (pQ (some (.int (nI (bset (lck ex pa ho dv ak g sp tp) 6))))) ([.ref h, .int (nI g), .int (nI sp), .int (nI tp)] : List Value).toArray s 0 0 nF) (F0 m 6 ls []) := by
    intro n
    induction n with
    | zero => intro i b hle hn hset; omega
    | succ n ih =>
      intro i b hle hn hset ls hl
      refine lv_iload hx hb dX0_findMissing_6 (lv_at hl 5 rfl) ?_
      refine lv_bipush (v := nI 6) hx hb dX0_findMissing_8 (by decide) ?_
      refine q_icmpN_ge (a := i) (b := 6) (tgt := 56) (by omega) (by omega) hx hb dX0_findMissing_10 (by decide) (fun k10 => ?_) (fun k10 => ?_)
      · refine lv_iload hx hb dX0_findMissing_56 (lv_at hl 4 rfl) ?_
        exact q_retI hx hb hr hlocks (by rw [hset, show i = 6 by omega]) dX0_findMissing_58
      · refine lv_aload_n hx hb dX0_findMissing_13 rfl (lv_at hl 0 rfl) ?_
        refine va_get (D := D) (ci := 0) (v := .ref (ad 13)) (C := RX0) (T := TX0) (N := 16) hx hb hts (iX0_findMissing) hown hK hP 0 rfl rfl 13 (by decide) (hts (.fieldLink RX0 51 "ShopHub" "asked" "[Z") (by decide +kernel)) (fun _ h9 => h9) rfl dX0_findMissing_14 ?_
        refine lv_iload_n hx hb dX0_findMissing_17 rfl (lv_at hl 2 rfl) ?_
        refine lv_bipush (v := nI 6) hx hb dX0_findMissing_18 (by decide) ?_
        refine q_mulN (a := sp) (b := 6) hx hb dX0_findMissing_20 ?_
        refine lv_iload hx hb dX0_findMissing_21 (lv_at hl 5 rfl) ?_
        refine q_addN (a := sp * 6) (b := i) hx hb dX0_findMissing_23 ?_
        refine q_zld ak hx hb hK hP 11 0 rfl rfl (k := (sp * 6) + i) (by omega) (Nat.le_of_ble_eq_true rfl) dX0_findMissing_24 ?_
        refine q_ifB_eq (b := ak ((sp * 6) + i)) (tgt := 50) hx hb dX0_findMissing_25 (by decide) (fun k25 => ?_) (fun k25 => ?_)
        · refine lv_iinc (v := nI (i + 1)) (lv' := [(5, .int (nI (i + 1))), (0, .ref h), (1, .int (nI g)), (2, .int (nI sp)), (3, .int (nI tp)), (4, .int (nI b))]) hx hb dX0_findMissing_50 hl (k := 5) rfl (i1_n i) (by decide) rfl (fun ls hl => ?_)
          refine lv_goto (tgt := 6) hx hb dX0_findMissing_53 (by decide) ?_
          exact ih (i + 1) b (by omega) (by omega) (by rw [bset_f (show lck ex pa ho dv ak g sp tp i = false by simp [lck, k25])]; exact hset) _ (lv_sub hl [1, 2, 3, 4, 5, 0] rfl)
        · refine lv_aload_n hx hb dX0_findMissing_28 rfl (lv_at hl 0 rfl) ?_
          refine lv_iload_n hx hb dX0_findMissing_29 rfl (lv_at hl 1 rfl) ?_
          refine lv_iload hx hb dX0_findMissing_30 (lv_at hl 5 rfl) ?_
          refine lv_iload_n hx hb dX0_findMissing_32 rfl (lv_at hl 2 rfl) ?_
          refine lv_iload_n hx hb dX0_findMissing_33 rfl (lv_at hl 3 rfl) ?_
          refine q_callI (r := oI (vlu ex pa ho dv i (sp + 1) (tp + 1) g)) (va_runV (As := [.int (nI g), .int (nI i), .int (nI sp), .int (nI tp)]) (rest := []) ⟨hx, hb, hml, hown, hts⟩ (kX0_findValue l D h ad cI cZ ex pa di qu gc dg dp dv dd ds dc td ho ak se pr g i sp tp hg (by omega) hs ht hpr hho hdc) (cwV 4 hts gX0_findMissing_X0_findValue rfl rfl rfl (by decide +kernel) ⟨Nat.le_of_ble_eq_true rfl, Nat.le_of_ble_eq_true rfl⟩) ⟨pP_blind, va_recv hK hP (ci := 0) (q0 := 0) rfl rfl, pP_pre hP hK⟩ rfl rfl hl.1 rfl (lv_room (Nat.le_of_ble_eq_true rfl)) dX0_findMissing_34 ⟨Nat.zero_le _, Nat.zero_le _⟩) ?_
          refine lv_iconst (v := oI none) hx hb dX0_findMissing_37 (by decide) ?_
          refine q_icmpO_ne (a := vlu ex pa ho dv i (sp + 1) (tp + 1) g) (b := none) (tgt := 50) (fun k h9 => by have := vlu_in hho hpr hdv hg (by omega) (show sp + 1 < 4 by omega) (by omega) k h9; omega) (fun k h9 => by cases h9) hx hb dX0_findMissing_38 (by decide) (fun k38 => ?_) (fun k38 => ?_)
          · refine lv_iinc (v := nI (i + 1)) (lv' := [(5, .int (nI (i + 1))), (0, .ref h), (1, .int (nI g)), (2, .int (nI sp)), (3, .int (nI tp)), (4, .int (nI b))]) hx hb dX0_findMissing_50 hl (k := 5) rfl (i1_n i) (by decide) rfl (fun ls hl => ?_)
            refine lv_goto (tgt := 6) hx hb dX0_findMissing_53 (by decide) ?_
            exact ih (i + 1) b (by omega) (by omega) (by rw [bset_f (show lck ex pa ho dv ak g sp tp i = false by simp [lck, k38])]; exact hset) _ (lv_sub hl [1, 2, 3, 4, 5, 0] rfl)
          · refine lv_iload hx hb dX0_findMissing_41 (lv_at hl 4 rfl) ?_
            refine lv_iconst (v := nI 1) hx hb dX0_findMissing_43 (by decide) ?_
            refine lv_iload hx hb dX0_findMissing_44 (lv_at hl 5 rfl) ?_
            refine lv_ishl hx hb dX0_findMissing_46 ?_
            refine q_top (y := nI (2 ^ i)) (shl1 i (by omega)) ?_
            refine lv_ior hx hb dX0_findMissing_47 ?_
            refine q_top (y := nI (b ||| 2 ^ i)) (nI_or b (2 ^ i)) ?_
            refine lv_istore (lv' := [(4, .int (nI (b ||| 2 ^ i))), (0, .ref h), (1, .int (nI g)), (2, .int (nI sp)), (3, .int (nI tp)), (5, .int (nI i))]) hx hb dX0_findMissing_48 hl (by decide) rfl (fun ls hl => ?_)
            refine lv_iinc (v := nI (i + 1)) (lv' := [(5, .int (nI (i + 1))), (4, .int (nI (b ||| 2 ^ i))), (0, .ref h), (1, .int (nI g)), (2, .int (nI sp)), (3, .int (nI tp))]) hx hb dX0_findMissing_50 hl (k := 5) rfl (i1_n i) (by decide) rfl (fun ls hl => ?_)
            refine lv_goto (tgt := 6) hx hb dX0_findMissing_53 (by decide) ?_
            exact ih (i + 1) (b ||| 2 ^ i) (by omega) (by omega) (by rw [bset_t (show lck ex pa ho dv ak g sp tp i = true by simp [lck, k25, k38]), ← hset]) _ (lv_sub hl [2, 3, 4, 5, 1, 0] rfl)
  exact loop6 7 0 0 (by omega) (Nat.le_refl 7) rfl _ (lv_sub hl [2, 3, 4, 5, 1, 0] rfl)

set_option maxHeartbeats 4000000 in
set_option maxRecDepth 100000 in
theorem kX0_isComplete (l : Launch) (D : va_G) (h : Nat) (ad : Nat → Nat) (cI cZ : ClassId) (ex : Nat → Bool) (pa : Nat → Option Nat) (di : Nat → Nat) (qu : Nat → Nat) (gc : Nat) (dg : Nat → Nat) (dp : Nat → Nat) (dv : Nat → Option Nat) (dd : Nat → Nat) (ds : Nat → Nat) (dc : Nat) (td : Nat) (ho : Nat → Option Nat) (ak : Nat → Bool) (se : Nat → Option Nat) (pr : Nat → Option Nat) (g sp : Nat) (hg : g < 16) (hs : sp < 3) (hpr : PR pa) (hho : HO ho dc) (hdc : dc ≤ 200) (hdv : DV dv dc) : Met l yX0_isComplete wsX0_isComplete ({ frames := 5, cells := 0, slots := 0, locals := 127 } : Room) (pP D (hW h ad cI cZ ex pa di qu gc dg dp dv dd ds dc td ho ak se pr) (hT cI cZ) [.ref h, .int (nI g), .int (nI sp)]) (pQ (some (.int (bI (!exU (fun t => decide (bset (lck ex pa ho dv ak g sp t) 6 ≠ 0)) 3))))) 0 0 nF := by
  refine Met.ofW (cc := cX0_isComplete) (maxL := 4) (ret := (some .boolean)) (by decide) rfl ?_
  intro p e s m args below meth c s₁ B hml hv
  obtain ⟨rfl, hP, hK⟩ := hv
  have hx := B.exec
  have hb := B.bytes
  have hr := B.returns
  have hts := atoms_spec (ws := wsX0_isComplete) B.pre
  have hown : s.vm.findClass RX0 = some m.cls := findClass_of_methodNamed B.named
  have hlocks := B.notSynchronized
  have hl := lv_entry ([.ref h, .int (nI g), .int (nI sp)]) (n := 4) (Nat.le_of_ble_eq_true rfl)
  rw [lg_entry_eq]
  generalize (lg_sl ([.ref h, .int (nI g), .int (nI sp)]) ++ List.replicate (4 - (lg_sl ([.ref h, .int (nI g), .int (nI sp)])).length) Slot.unset).toArray = ls at hl ⊢
  have hl : lv_has ls 4 [(0, .ref h), (1, .int (nI g)), (2, .int (nI sp))] := hl
  refine lv_iconst (v := nI 0) hx hb dX0_isComplete_0 (by decide) ?_
  refine lv_istore_n (lv' := [(3, .int (nI 0)), (0, .ref h), (1, .int (nI g)), (2, .int (nI sp))]) hx hb dX0_isComplete_1 rfl hl (by decide) rfl (fun ls hl => ?_)
  have loop2 : ∀ (n : Nat) (i : Nat), (i ≤ 3) → (4 ≤ i + n) → (∀ t, t < i → bset (lck ex pa ho dv ak g sp t) 6 = 0) → ∀ ls : Array Slot, lv_has ls 4 [(0, .ref h), (1, .int (nI g)), (2, .int (nI sp)), (3, .int (nI i))] → W p l e ({ frames := 5, cells := 0, slots := 0, locals := 127 } : Room) s m ([.ref h, .int (nI g), .int (nI sp)] : List Value).toArray below meth c s.heap [] 0 0 (MQ below (pQ (some (.int (bI (!exU (fun t => decide (bset (lck ex pa ho dv ak g sp t) 6 ≠ 0)) 3))))) ([.ref h, .int (nI g), .int (nI sp)] : List Value).toArray s 0 0 nF) (F0 m 2 ls []) := by
    intro n
    induction n with
    | zero => intro i hle hn hset; omega
    | succ n ih =>
      intro i hle hn hset ls hl
      refine lv_iload_n hx hb dX0_isComplete_2 rfl (lv_at hl 3 rfl) ?_
      refine lv_iconst (v := nI 3) hx hb dX0_isComplete_3 (by decide) ?_
      refine q_icmpN_ge (a := i) (b := 3) (tgt := 25) (by omega) (by omega) hx hb dX0_isComplete_4 (by decide) (fun k4 => ?_) (fun k4 => ?_)
      · refine lv_iconst (v := nI 1) hx hb dX0_isComplete_25 (by decide) ?_
        exact q_retZ hx hb hr hlocks (retT (by rw [exU_no.mpr (fun t h9 => show decide (bset (lck ex pa ho dv ak g sp t) 6 ≠ 0) = false from decide_eq_false (fun h8 => h8 (hset t (by omega))))]; rfl)) dX0_isComplete_26
      · refine lv_aload_n hx hb dX0_isComplete_7 rfl (lv_at hl 0 rfl) ?_
        refine lv_iload_n hx hb dX0_isComplete_8 rfl (lv_at hl 1 rfl) ?_
        refine lv_iload_n hx hb dX0_isComplete_9 rfl (lv_at hl 2 rfl) ?_
        refine lv_iload_n hx hb dX0_isComplete_10 rfl (lv_at hl 3 rfl) ?_
        refine q_callI (r := nI (bset (lck ex pa ho dv ak g sp i) 6)) (va_runV (As := [.int (nI g), .int (nI sp), .int (nI i)]) (rest := []) ⟨hx, hb, hml, hown, hts⟩ (kX0_findMissing l D h ad cI cZ ex pa di qu gc dg dp dv dd ds dc td ho ak se pr g sp i hg hs (by omega) hpr hho hdc hdv) (cwV 3 hts gX0_isComplete_X0_findMissing rfl rfl rfl (by decide +kernel) ⟨Nat.le_of_ble_eq_true rfl, Nat.le_of_ble_eq_true rfl⟩) ⟨pP_blind, va_recv hK hP (ci := 0) (q0 := 0) rfl rfl, pP_pre hP hK⟩ rfl rfl hl.1 rfl (lv_room (Nat.le_of_ble_eq_true rfl)) dX0_isComplete_11 ⟨Nat.zero_le _, Nat.zero_le _⟩) ?_
        refine q_ifN_eq (a := bset (lck ex pa ho dv ak g sp i) 6) (tgt := 19) (Nat.lt_trans (bset_lt _ 6) (by decide)) hx hb dX0_isComplete_14 (by decide) (fun k14 => ?_) (fun k14 => ?_)
        · refine lv_iinc (v := nI (i + 1)) (lv' := [(3, .int (nI (i + 1))), (0, .ref h), (1, .int (nI g)), (2, .int (nI sp))]) hx hb dX0_isComplete_19 hl (k := 3) rfl (i1_n i) (by decide) rfl (fun ls hl => ?_)
          refine lv_goto (tgt := 2) hx hb dX0_isComplete_22 (by decide) ?_
          exact ih (i + 1) (by omega) (by omega) (fun t h9 => (Nat.lt_or_ge t i).elim (hset t) (fun h8 => by rw [show t = i by omega]; exact k14)) _ (lv_sub hl [1, 2, 3, 0] rfl)
        · refine lv_iconst (v := nI 0) hx hb dX0_isComplete_17 (by decide) ?_
          exact q_retZ hx hb hr hlocks (retF (by rw [exU_yes (show i < 3 by omega) (show decide (bset (lck ex pa ho dv ak g sp i) 6 ≠ 0) = true from decide_eq_true k14)]; rfl)) dX0_isComplete_18
  exact loop2 4 0 (by omega) (Nat.le_refl 4) (fun t h9 => absurd h9 (Nat.not_lt_zero t)) _ (lv_sub hl [1, 2, 3, 0] rfl)

set_option maxHeartbeats 4000000 in
set_option maxRecDepth 100000 in
theorem kX0_looksChanged (l : Launch) (D : va_G) (h : Nat) (ad : Nat → Nat) (cI cZ : ClassId) (ex : Nat → Bool) (pa : Nat → Option Nat) (di : Nat → Nat) (qu : Nat → Nat) (gc : Nat) (dg : Nat → Nat) (dp : Nat → Nat) (dv : Nat → Option Nat) (dd : Nat → Nat) (ds : Nat → Nat) (dc : Nat) (td : Nat) (ho : Nat → Option Nat) (ak : Nat → Bool) (se : Nat → Option Nat) (pr : Nat → Option Nat) (g sp : Nat) (hg : g < 16) (hs : sp < 3) (hpr : PR pa) (hho : HO ho dc) (hdc : dc ≤ 200) (hdv : DV dv dc) (hse : ∀ k, k < 864 → ∀ v, se k = some v → v ≤ 100000) : Met l yX0_looksChanged wsX0_looksChanged ({ frames := 4, cells := 0, slots := 0, locals := 102 } : Room) (pP D (hW h ad cI cZ ex pa di qu gc dg dp dv dd ds dc td ho ak se pr) (hT cI cZ) [.ref h, .int (nI g), .int (nI sp)]) (pQ (some (.int (bI (lkd ex pa ho dv se sp g))))) 0 0 nF := by
  refine Met.ofW (cc := cX0_looksChanged) (maxL := 5) (ret := (some .boolean)) (by decide) rfl ?_
  intro p e s m args below meth c s₁ B hml hv
  obtain ⟨rfl, hP, hK⟩ := hv
  have hx := B.exec
  have hb := B.bytes
  have hr := B.returns
  have hts := atoms_spec (ws := wsX0_looksChanged) B.pre
  have hown : s.vm.findClass RX0 = some m.cls := findClass_of_methodNamed B.named
  have hlocks := B.notSynchronized
  have hl := lv_entry ([.ref h, .int (nI g), .int (nI sp)]) (n := 5) (Nat.le_of_ble_eq_true rfl)
  rw [lg_entry_eq]
  generalize (lg_sl ([.ref h, .int (nI g), .int (nI sp)]) ++ List.replicate (5 - (lg_sl ([.ref h, .int (nI g), .int (nI sp)])).length) Slot.unset).toArray = ls at hl ⊢
  have hl : lv_has ls 5 [(0, .ref h), (1, .int (nI g)), (2, .int (nI sp))] := hl
  refine lv_iload_n hx hb dX0_looksChanged_0 rfl (lv_at hl 2 rfl) ?_
  refine lv_sipush (v := nI 288) hx hb dX0_looksChanged_1 (by decide) ?_
  refine q_mulN (a := sp) (b := 288) hx hb dX0_looksChanged_4 ?_
  refine lv_iload_n hx hb dX0_looksChanged_5 rfl (lv_at hl 1 rfl) ?_
  refine lv_bipush (v := nI 18) hx hb dX0_looksChanged_6 (by decide) ?_
  refine q_mulN (a := g) (b := 18) hx hb dX0_looksChanged_8 ?_
  refine q_addN (a := sp * 288) (b := g * 18) hx hb dX0_looksChanged_9 ?_
  refine lv_istore_n (lv' := [(3, .int (nI ((sp * 288) + (g * 18)))), (0, .ref h), (1, .int (nI g)), (2, .int (nI sp))]) hx hb dX0_looksChanged_10 rfl hl (by decide) rfl (fun ls hl => ?_)
  refine lv_iconst (v := nI 0) hx hb dX0_looksChanged_11 (by decide) ?_
  refine lv_istore (lv' := [(4, .int (nI 0)), (3, .int (nI ((sp * 288) + (g * 18)))), (0, .ref h), (1, .int (nI g)), (2, .int (nI sp))]) hx hb dX0_looksChanged_12 hl (by decide) rfl (fun ls hl => ?_)
  have loop14 : ∀ (n : Nat) (i : Nat), (i ≤ 18) → (19 ≤ i + n) → (∀ t, t < i → lkj ex pa ho dv se sp g t = false) → ∀ ls : Array Slot, lv_has ls 5 [(0, .ref h), (1, .int (nI g)), (2, .int (nI sp)), (3, .int (nI ((sp * 288) + (g * 18)))), (4, .int (nI i))] → W p l e ({ frames := 4, cells := 0, slots := 0, locals := 102 } : Room) s m ([.ref h, .int (nI g), .int (nI sp)] : List Value).toArray below meth c s.heap [] 0 0 (MQ below (pQ (some (.int (bI (lkd ex pa ho dv se sp g))))) ([.ref h, .int (nI g), .int (nI sp)] : List Value).toArray s 0 0 nF) (F0 m 14 ls []) := by
    intro n
    induction n with
    | zero => intro i hle hn hset; omega
    | succ n ih =>
      intro i hle hn hset ls hl
      refine lv_iload hx hb dX0_looksChanged_14 (lv_at hl 4 rfl) ?_
      refine lv_bipush (v := nI 18) hx hb dX0_looksChanged_16 (by decide) ?_
      refine q_icmpN_ge (a := i) (b := 18) (tgt := 55) (by omega) (by omega) hx hb dX0_looksChanged_18 (by decide) (fun k18 => ?_) (fun k18 => ?_)
      · refine lv_iconst (v := nI 0) hx hb dX0_looksChanged_55 (by decide) ?_
        exact q_retZ hx hb hr hlocks (retF (show lkd ex pa ho dv se sp g = false from exU_no.mpr (fun t h9 => hset t (by omega)))) dX0_looksChanged_56
      · refine lv_aload_n hx hb dX0_looksChanged_21 rfl (lv_at hl 0 rfl) ?_
        refine va_get (D := D) (ci := 0) (v := .ref (ad 14)) (C := RX0) (T := TX0) (N := 16) hx hb hts (iX0_looksChanged) hown hK hP 0 rfl rfl 14 (by decide) (hts (.fieldLink RX0 54 "ShopHub" "seen" "[I") (by decide +kernel)) (fun _ h9 => h9) rfl dX0_looksChanged_22 ?_
        refine lv_iload_n hx hb dX0_looksChanged_25 rfl (lv_at hl 3 rfl) ?_
        refine lv_iload hx hb dX0_looksChanged_26 (lv_at hl 4 rfl) ?_
        refine q_addN (a := (sp * 288) + (g * 18)) (b := i) hx hb dX0_looksChanged_28 ?_
        refine q_ald oI se hx hb hK hP 12 1 rfl rfl (k := ((sp * 288) + (g * 18)) + i) (by omega) (Nat.le_of_ble_eq_true rfl) dX0_looksChanged_29 ?_
        refine lv_aload_n hx hb dX0_looksChanged_30 rfl (lv_at hl 0 rfl) ?_
        refine lv_iload_n hx hb dX0_looksChanged_31 rfl (lv_at hl 1 rfl) ?_
        refine lv_iload hx hb dX0_looksChanged_32 (lv_at hl 4 rfl) ?_
        refine lv_iconst (v := nI 3) hx hb dX0_looksChanged_34 (by decide) ?_
        refine q_divN (a := i) (b := 3) ((by omega)) (by decide) (by decide) hx hb dX0_looksChanged_35 ?_
        refine lv_iload_n hx hb dX0_looksChanged_36 rfl (lv_at hl 2 rfl) ?_
        refine lv_iload hx hb dX0_looksChanged_37 (lv_at hl 4 rfl) ?_
        refine lv_iconst (v := nI 3) hx hb dX0_looksChanged_39 (by decide) ?_
        refine q_remN (a := i) (b := 3) (by omega) (by decide) (by decide) hx hb dX0_looksChanged_40 ?_
        refine q_callI (r := oI (vlu ex pa ho dv (i / 3) (sp + 1) ((i % 3) + 1) g)) (va_runV (As := [.int (nI g), .int (nI (i / 3)), .int (nI sp), .int (nI (i % 3))]) (rest := [.int (oI (se (((sp * 288) + (g * 18)) + i)))]) ⟨hx, hb, hml, hown, hts⟩ (kX0_findValue l D h ad cI cZ ex pa di qu gc dg dp dv dd ds dc td ho ak se pr g (i / 3) sp (i % 3) hg (by omega) hs (by omega) hpr hho hdc) (cwV 4 hts gX0_looksChanged_X0_findValue rfl rfl rfl (by decide +kernel) ⟨Nat.le_of_ble_eq_true rfl, Nat.le_of_ble_eq_true rfl⟩) ⟨pP_blind, va_recv hK hP (ci := 0) (q0 := 0) rfl rfl, pP_pre hP hK⟩ rfl rfl hl.1 rfl (lv_room (Nat.le_of_ble_eq_true rfl)) dX0_looksChanged_41 ⟨Nat.zero_le _, Nat.zero_le _⟩) ?_
        refine q_icmpO_eq (a := se (((sp * 288) + (g * 18)) + i)) (b := vlu ex pa ho dv (i / 3) (sp + 1) ((i % 3) + 1) g) (tgt := 49) (fun k h9 => by have := hse _ (by omega) k h9; omega) (fun k h9 => by have := vlu_in hho hpr hdv hg (show i / 3 < 6 by omega) (show sp + 1 < 4 by omega) (show i % 3 + 1 < 4 by omega) k h9; omega) hx hb dX0_looksChanged_44 (by decide) (fun k44 => ?_) (fun k44 => ?_)
        · refine lv_iinc (v := nI (i + 1)) (lv' := [(4, .int (nI (i + 1))), (0, .ref h), (1, .int (nI g)), (2, .int (nI sp)), (3, .int (nI ((sp * 288) + (g * 18))))]) hx hb dX0_looksChanged_49 hl (k := 4) rfl (i1_n i) (by decide) rfl (fun ls hl => ?_)
          refine lv_goto (tgt := 14) hx hb dX0_looksChanged_52 (by decide) ?_
          exact ih (i + 1) (by omega) (by omega) (fun t h9 => (Nat.lt_or_ge t i).elim (hset t) (fun h8 => by rw [show t = i by omega]; exact decide_eq_false (fun h7 => h7 k44))) _ (lv_sub hl [1, 2, 3, 4, 0] rfl)
        · refine lv_iconst (v := nI 1) hx hb dX0_looksChanged_47 (by decide) ?_
          exact q_retZ hx hb hr hlocks (retT (show lkd ex pa ho dv se sp g = true from exU_yes (show i < 18 by omega) (decide_eq_true k44))) dX0_looksChanged_48
  exact loop14 19 0 (by omega) (Nat.le_refl 19) (fun t h9 => absurd h9 (Nat.not_lt_zero t)) _ (lv_sub hl [2, 3, 4, 1, 0] rfl)

set_option maxHeartbeats 4000000 in
set_option maxRecDepth 100000 in
theorem kX0_findChanged (l : Launch) (D : va_G) (h : Nat) (ad : Nat → Nat) (cI cZ : ClassId) (ex : Nat → Bool) (pa : Nat → Option Nat) (di : Nat → Nat) (qu : Nat → Nat) (gc : Nat) (dg : Nat → Nat) (dp : Nat → Nat) (dv : Nat → Option Nat) (dd : Nat → Nat) (ds : Nat → Nat) (dc : Nat) (td : Nat) (ho : Nat → Option Nat) (ak : Nat → Bool) (se : Nat → Option Nat) (pr : Nat → Option Nat) (sp : Nat) (hs : sp < 3) (hpr : PR pa) (hho : HO ho dc) (hdc : dc ≤ 200) (hdv : DV dv dc) (hse : ∀ k, k < 864 → ∀ v, se k = some v → v ≤ 100000) : Met l yX0_findChanged wsX0_findChanged ({ frames := 5, cells := 0, slots := 0, locals := 126 } : Room) (pP D (hW h ad cI cZ ex pa di qu gc dg dp dv dd ds dc td ho ak se pr) (hT cI cZ) [.ref h, .int (nI sp)]) (pQ (some (.int (nI (bset (lkd ex pa ho dv se sp) 16))))) 0 0 nF := by
  refine Met.ofW (cc := cX0_findChanged) (maxL := 4) (ret := (some .int)) (by decide) rfl ?_
  intro p e s m args below meth c s₁ B hml hv
  obtain ⟨rfl, hP, hK⟩ := hv
  have hx := B.exec
  have hb := B.bytes
  have hr := B.returns
  have hts := atoms_spec (ws := wsX0_findChanged) B.pre
  have hown : s.vm.findClass RX0 = some m.cls := findClass_of_methodNamed B.named
  have hlocks := B.notSynchronized
  have hl := lv_entry ([.ref h, .int (nI sp)]) (n := 4) (Nat.le_of_ble_eq_true rfl)
  rw [lg_entry_eq]
  generalize (lg_sl ([.ref h, .int (nI sp)]) ++ List.replicate (4 - (lg_sl ([.ref h, .int (nI sp)])).length) Slot.unset).toArray = ls at hl ⊢
  have hl : lv_has ls 4 [(0, .ref h), (1, .int (nI sp))] := hl
  refine lv_iconst (v := nI 0) hx hb dX0_findChanged_0 (by decide) ?_
  refine lv_istore_n (lv' := [(2, .int (nI 0)), (0, .ref h), (1, .int (nI sp))]) hx hb dX0_findChanged_1 rfl hl (by decide) rfl (fun ls hl => ?_)
  refine lv_iconst (v := nI 0) hx hb dX0_findChanged_2 (by decide) ?_
  refine lv_istore_n (lv' := [(3, .int (nI 0)), (2, .int (nI 0)), (0, .ref h), (1, .int (nI sp))]) hx hb dX0_findChanged_3 rfl hl (by decide) rfl (fun ls hl => ?_)
  have loop4 : ∀ (n : Nat) (i : Nat) (b : Nat), (i ≤ 16) → (17 ≤ i + n) → (b = bset (lkd ex pa ho dv se sp) i) → ∀ ls : Array Slot, lv_has ls 4 [(0, .ref h), (1, .int (nI sp)), (2, .int (nI b)), (3, .int (nI i))] → W p l e ({ frames := 5, cells := 0, slots := 0, locals := 126 } : Room) s m ([.ref h, .int (nI sp)] : List Value).toArray below meth c s.heap [] 0 0 (MQ below (pQ (some (.int (nI (bset (lkd ex pa ho dv se sp) 16))))) ([.ref h, .int (nI sp)] : List Value).toArray s 0 0 nF) (F0 m 4 ls []) := by
    intro n
    induction n with
    | zero => intro i b hle hn hset; omega
    | succ n ih =>
      intro i b hle hn hset ls hl
      refine lv_iload_n hx hb dX0_findChanged_4 rfl (lv_at hl 3 rfl) ?_
      refine lv_bipush (v := nI 16) hx hb dX0_findChanged_5 (by decide) ?_
      refine q_icmpN_ge (a := i) (b := 16) (tgt := 31) (by omega) (by omega) hx hb dX0_findChanged_7 (by decide) (fun k7 => ?_) (fun k7 => ?_)
      · refine lv_iload_n hx hb dX0_findChanged_31 rfl (lv_at hl 2 rfl) ?_
        exact q_retI hx hb hr hlocks (by rw [hset, show i = 16 by omega]) dX0_findChanged_32
      · refine lv_aload_n hx hb dX0_findChanged_10 rfl (lv_at hl 0 rfl) ?_
        refine lv_iload_n hx hb dX0_findChanged_11 rfl (lv_at hl 3 rfl) ?_
        refine lv_iload_n hx hb dX0_findChanged_12 rfl (lv_at hl 1 rfl) ?_
        refine q_callI (r := bI (lkd ex pa ho dv se sp i)) (va_runV (As := [.int (nI i), .int (nI sp)]) (rest := []) ⟨hx, hb, hml, hown, hts⟩ (kX0_looksChanged l D h ad cI cZ ex pa di qu gc dg dp dv dd ds dc td ho ak se pr i sp (by omega) hs hpr hho hdc hdv hse) (cwV 2 hts gX0_findChanged_X0_looksChanged rfl rfl rfl (by decide +kernel) ⟨Nat.le_of_ble_eq_true rfl, Nat.le_of_ble_eq_true rfl⟩) ⟨pP_blind, va_recv hK hP (ci := 0) (q0 := 0) rfl rfl, pP_pre hP hK⟩ rfl rfl hl.1 rfl (lv_room (Nat.le_of_ble_eq_true rfl)) dX0_findChanged_13 ⟨Nat.zero_le _, Nat.zero_le _⟩) ?_
        refine q_ifB_eq (b := lkd ex pa ho dv se sp i) (tgt := 25) hx hb dX0_findChanged_16 (by decide) (fun k16 => ?_) (fun k16 => ?_)
        · refine lv_iinc (v := nI (i + 1)) (lv' := [(3, .int (nI (i + 1))), (0, .ref h), (1, .int (nI sp)), (2, .int (nI b))]) hx hb dX0_findChanged_25 hl (k := 3) rfl (i1_n i) (by decide) rfl (fun ls hl => ?_)
          refine lv_goto (tgt := 4) hx hb dX0_findChanged_28 (by decide) ?_
          exact ih (i + 1) b (by omega) (by omega) (by rw [bset_f k16]; exact hset) _ (lv_sub hl [1, 2, 3, 0] rfl)
        · refine lv_iload_n hx hb dX0_findChanged_19 rfl (lv_at hl 2 rfl) ?_
          refine lv_iconst (v := nI 1) hx hb dX0_findChanged_20 (by decide) ?_
          refine lv_iload_n hx hb dX0_findChanged_21 rfl (lv_at hl 3 rfl) ?_
          refine lv_ishl hx hb dX0_findChanged_22 ?_
          refine q_top (y := nI (2 ^ i)) (shl1 i (by omega)) ?_
          refine lv_ior hx hb dX0_findChanged_23 ?_
          refine q_top (y := nI (b ||| 2 ^ i)) (nI_or b (2 ^ i)) ?_
          refine lv_istore_n (lv' := [(2, .int (nI (b ||| 2 ^ i))), (0, .ref h), (1, .int (nI sp)), (3, .int (nI i))]) hx hb dX0_findChanged_24 rfl hl (by decide) rfl (fun ls hl => ?_)
          refine lv_iinc (v := nI (i + 1)) (lv' := [(3, .int (nI (i + 1))), (2, .int (nI (b ||| 2 ^ i))), (0, .ref h), (1, .int (nI sp))]) hx hb dX0_findChanged_25 hl (k := 3) rfl (i1_n i) (by decide) rfl (fun ls hl => ?_)
          refine lv_goto (tgt := 4) hx hb dX0_findChanged_28 (by decide) ?_
          exact ih (i + 1) (b ||| 2 ^ i) (by omega) (by omega) (by rw [bset_t k16, ← hset]) _ (lv_sub hl [2, 3, 1, 0] rfl)
  exact loop4 17 0 0 (by omega) (Nat.le_refl 17) rfl _ (lv_sub hl [2, 3, 1, 0] rfl)
end
section
set_option maxHeartbeats 4000000 in
set_option maxRecDepth 100000 in
theorem kX0_putHolder (l : Launch) (D : va_G) (h : Nat) (ad : Nat → Nat) (cI cZ : ClassId) (ex : Nat → Bool) (pa : Nat → Option Nat) (di : Nat → Nat) (qu : Nat → Nat) (gc : Nat) (dg : Nat → Nat) (dp : Nat → Nat) (dv : Nat → Option Nat) (dd : Nat → Nat) (ds : Nat → Nat) (dc : Nat) (td : Nat) (ho : Nat → Option Nat) (ak : Nat → Bool) (se : Nat → Option Nat) (pr : Nat → Option Nat) (sz : Nat) (d : Nat) (hd : d < dc) (hdc : dc ≤ 200) (hdp : dp d < 1536) (hho : HO ho dc) (hdd : ∀ k, k < dc → dd k ≤ 1000) : Met l yX0_putHolder wsX0_putHolder ({ frames := 1, cells := 0, slots := 0, locals := 21 } : Room) (wP D (hW h ad cI cZ ex pa di qu gc dg dp dv dd ds dc td ho ak se pr) (hT cI cZ) [.ref h, .int (nI d)] sz) (wQ D (hW h ad cI cZ ex pa di qu gc dg dp dv dd ds dc td ho ak se pr) (hW h ad cI cZ ex pa di qu gc dg dp dv dd ds dc td (phd ho dp dd d) ak se pr) none) 0 0 (va_A (hW h ad cI cZ ex pa di qu gc dg dp dv dd ds dc td ho ak se pr) sz) := by
  refine Met.ofW (cc := cX0_putHolder) (maxL := 4) (ret := none) (by decide) rfl ?_
  intro p e s m args below meth c s₁ B hml hv
  obtain ⟨rfl, hsz, hP, hK, hD0⟩ := hv
  have hx := B.exec
  have hb := B.bytes
  have hr := B.returns
  have hts := atoms_spec (ws := wsX0_putHolder) B.pre
  have hown : s.vm.findClass RX0 = some m.cls := findClass_of_methodNamed B.named
  have hlocks := B.notSynchronized
  subst hsz
  have hD := hD0.self (sz := s.heap.size)
  generalize hAe : va_A (hW h ad cI cZ ex pa di qu gc dg dp dv dd ds dc td ho ak se pr) s.heap.size = A at hD ⊢
  have hA : ∀ q : Nat, s.heap.size ≤ q → A q := fun q h => by rw [← hAe]; exact Or.inr h
  have hS : va_S A s.heap s.heap [] := va_S.rf
  have hl := lv_entry ([.ref h, .int (nI d)]) (n := 4) (Nat.le_of_ble_eq_true rfl)
  rw [lg_entry_eq]
  generalize (lg_sl ([.ref h, .int (nI d)]) ++ List.replicate (4 - (lg_sl ([.ref h, .int (nI d)])).length) Slot.unset).toArray = ls at hl ⊢
  have hl : lv_has ls 4 [(0, .ref h), (1, .int (nI d))] := hl
  refine lv_aload_n hx hb dX0_putHolder_0 rfl (lv_at hl 0 rfl) ?_
  refine va_get (D := D) (ci := 0) (v := .ref (ad 6)) (C := RX0) (T := TX0) (N := 16) hx hb hts (iX0_putHolder) hown hK hP 0 rfl rfl 6 (by decide) (hts (.fieldLink RX0 30 "ShopHub" "draftPlaces" "[I") (by decide +kernel)) (fun _ h9 => h9) rfl dX0_putHolder_1 ?_
  refine lv_iload_n hx hb dX0_putHolder_4 rfl (lv_at hl 1 rfl) ?_
  refine q_ald nI dp hx hb hK hP 6 1 rfl rfl (k := d) (by omega) (Nat.le_of_ble_eq_true rfl) dX0_putHolder_5 ?_
  refine lv_istore_n (lv' := [(2, .int (nI (dp d))), (0, .ref h), (1, .int (nI d))]) hx hb dX0_putHolder_6 rfl hl (by decide) rfl (fun ls hl => ?_)
  refine lv_aload_n hx hb dX0_putHolder_7 rfl (lv_at hl 1 rfl) ?_
  refine va_get (D := D) (ci := 0) (v := .ref (ad 12)) (C := RX0) (T := TX0) (N := 16) hx hb hts (iX0_putHolder) hown hK hP 0 rfl rfl 12 (by decide) (hts (.fieldLink RX0 48 "ShopHub" "holders" "[I") (by decide +kernel)) (fun _ h9 => h9) rfl dX0_putHolder_8 ?_
  refine lv_iload_n hx hb dX0_putHolder_11 rfl (lv_at hl 0 rfl) ?_
  refine q_ald oI ho hx hb hK hP 10 1 rfl rfl (k := dp d) (hdp) (Nat.le_of_ble_eq_true rfl) dX0_putHolder_12 ?_
  obtain ⟨o5, eo5⟩ : ∃ z, z = ho (dp d) := ⟨_, rfl⟩
  refine q_top (y := oI o5) (by rw [eo5]) ?_
  refine lv_istore_n (lv' := [(3, .int (oI o5)), (2, .int (nI (dp d))), (0, .ref h), (1, .int (nI d))]) hx hb dX0_putHolder_13 rfl hl (by decide) rfl (fun ls hl => ?_)
  cases o5 with
  | none =>
    refine lv_aload_n hx hb dX0_putHolder_14 rfl (lv_at hl 2 rfl) ?_
    refine lv_iload_n hx hb dX0_putHolder_15 rfl (lv_at hl 0 rfl) ?_
    refine q_callI (r := bI false) (va_runV (As := [.int (oI none)]) (rest := []) ⟨hx, hb, hml, hown, hts⟩ (kX0_isEnteredR l D h ad cI cZ ex pa di qu gc dg dp dv dd ds dc td ho ak se pr (oI none) (by decide)) (cwV 1 hts gX0_putHolder_X0_isEntered rfl rfl rfl (by decide +kernel) ⟨Nat.le_of_ble_eq_true rfl, Nat.le_of_ble_eq_true rfl⟩) ⟨pP_blind, va_recv hK hP (ci := 0) (q0 := 0) rfl rfl, pP_pre hP hK⟩ rfl rfl hl.1 rfl (lv_room (Nat.le_of_ble_eq_true rfl)) dX0_putHolder_16 ⟨Nat.zero_le _, Nat.zero_le _⟩) ?_
    refine q_ifB_eq (b := false) (tgt := 37) hx hb dX0_putHolder_19 (by decide) (fun k19 => ?_) (fun k19 => absurd k19 (by decide))
    refine lv_aload_n hx hb dX0_putHolder_37 rfl (lv_at hl 2 rfl) ?_
    refine va_get (D := D) (ci := 0) (v := .ref (ad 12)) (C := RX0) (T := TX0) (N := 16) hx hb hts (iX0_putHolder) hown hK hP 0 rfl rfl 12 (by decide) (hts (.fieldLink RX0 48 "ShopHub" "holders" "[I") (by decide +kernel)) (fun _ h9 => h9) rfl dX0_putHolder_38 ?_
    refine lv_iload_n hx hb dX0_putHolder_41 rfl (lv_at hl 1 rfl) ?_
    refine lv_iload_n hx hb dX0_putHolder_42 rfl (lv_at hl 3 rfl) ?_
    refine q_top (y := oI (some d)) ((rfl : nI d = oI (some d))) ?_
    refine q_ast oI ho (some d) hx hb hK hP hD hS 10 1 rfl rfl (k := dp d) (hdp) (Nat.le_of_ble_eq_true rfl) dX0_putHolder_43 (fun H locs hP hD hS => ?_)
    have hP : va_P D vwCl (hW h ad cI cZ ex pa di qu gc dg dp dv dd ds dc td (va_up ho (dp d) (some d)) ak se pr) H := hP
    have hD : va_D A (hW h ad cI cZ ex pa di qu gc dg dp dv dd ds dc td (va_up ho (dp d) (some d)) ak se pr) := hD
    have hP : va_P D vwCl (hW h ad cI cZ ex pa di qu gc dg dp dv dd ds dc td (phd ho dp dd d) ak se pr) H := by rw [show phd ho dp dd d = va_up ho (dp d) (some d) from phd_none eo5]; exact hP
    exact q_wretV hx hb hr hlocks hAe hP hS dX0_putHolder_44
  | some q =>
    have hq : q < dc := hho _ hdp q eo5.symm
    have hA1 := hdd q hq
    have hA2 := hdd d hd
    refine lv_aload_n hx hb dX0_putHolder_14 rfl (lv_at hl 2 rfl) ?_
    refine lv_iload_n hx hb dX0_putHolder_15 rfl (lv_at hl 0 rfl) ?_
    refine q_callI (r := bI (decide (q < dc))) (va_runV (As := [.int (nI q)]) (rest := []) ⟨hx, hb, hml, hown, hts⟩ (kX0_isEnteredN l D h ad cI cZ ex pa di qu gc dg dp dv dd ds dc td ho ak se pr q (by omega) hdc) (cwV 1 hts gX0_putHolder_X0_isEntered rfl rfl rfl (by decide +kernel) ⟨Nat.le_of_ble_eq_true rfl, Nat.le_of_ble_eq_true rfl⟩) ⟨pP_blind, va_recv hK hP (ci := 0) (q0 := 0) rfl rfl, pP_pre hP hK⟩ rfl rfl hl.1 rfl (lv_room (Nat.le_of_ble_eq_true rfl)) dX0_putHolder_16 ⟨Nat.zero_le _, Nat.zero_le _⟩) ?_
    refine q_ifB_eq (b := decide (q < dc)) (tgt := 37) hx hb dX0_putHolder_19 (by decide) (fun k19 => absurd k19 (by rw [decide_eq_true hq]; decide)) (fun k19 => ?_)
    refine lv_aload_n hx hb dX0_putHolder_22 rfl (lv_at hl 2 rfl) ?_
    refine va_get (D := D) (ci := 0) (v := .ref (ad 8)) (C := RX0) (T := TX0) (N := 16) hx hb hts (iX0_putHolder) hown hK hP 0 rfl rfl 8 (by decide) (hts (.fieldLink RX0 36 "ShopHub" "draftDays" "[I") (by decide +kernel)) (fun _ h9 => h9) rfl dX0_putHolder_23 ?_
    refine lv_iload_n hx hb dX0_putHolder_26 rfl (lv_at hl 3 rfl) ?_
    refine q_ald nI dd hx hb hK hP 8 1 rfl rfl (k := d) (by omega) (Nat.le_of_ble_eq_true rfl) dX0_putHolder_27 ?_
    refine lv_aload_n hx hb dX0_putHolder_28 rfl (lv_at hl 2 rfl) ?_
    refine va_get (D := D) (ci := 0) (v := .ref (ad 8)) (C := RX0) (T := TX0) (N := 16) hx hb hts (iX0_putHolder) hown hK hP 0 rfl rfl 8 (by decide) (hts (.fieldLink RX0 36 "ShopHub" "draftDays" "[I") (by decide +kernel)) (fun _ h9 => h9) rfl dX0_putHolder_29 ?_
    refine lv_iload_n hx hb dX0_putHolder_32 rfl (lv_at hl 0 rfl) ?_
    refine q_ald nI dd hx hb hK hP 8 1 rfl rfl (k := q) (by omega) (Nat.le_of_ble_eq_true rfl) dX0_putHolder_33 ?_
    refine q_icmpN_lt (a := dd d) (b := dd q) (tgt := 44) (by omega) (by omega) hx hb dX0_putHolder_34 (by decide) (fun k34 => ?_) (fun k34 => ?_)
    · have hP : va_P D vwCl (hW h ad cI cZ ex pa di qu gc dg dp dv dd ds dc td (phd ho dp dd d) ak se pr) s.heap := by rw [show phd ho dp dd d = ho from phd_lt eo5 k34]; exact hP
      exact q_wretV hx hb hr hlocks hAe hP hS dX0_putHolder_44
    · refine lv_aload_n hx hb dX0_putHolder_37 rfl (lv_at hl 2 rfl) ?_
      refine va_get (D := D) (ci := 0) (v := .ref (ad 12)) (C := RX0) (T := TX0) (N := 16) hx hb hts (iX0_putHolder) hown hK hP 0 rfl rfl 12 (by decide) (hts (.fieldLink RX0 48 "ShopHub" "holders" "[I") (by decide +kernel)) (fun _ h9 => h9) rfl dX0_putHolder_38 ?_
      refine lv_iload_n hx hb dX0_putHolder_41 rfl (lv_at hl 1 rfl) ?_
      refine lv_iload_n hx hb dX0_putHolder_42 rfl (lv_at hl 3 rfl) ?_
      refine q_top (y := oI (some d)) ((rfl : nI d = oI (some d))) ?_
      refine q_ast oI ho (some d) hx hb hK hP hD hS 10 1 rfl rfl (k := dp d) (hdp) (Nat.le_of_ble_eq_true rfl) dX0_putHolder_43 (fun H locs hP hD hS => ?_)
      have hP : va_P D vwCl (hW h ad cI cZ ex pa di qu gc dg dp dv dd ds dc td (va_up ho (dp d) (some d)) ak se pr) H := hP
      have hD : va_D A (hW h ad cI cZ ex pa di qu gc dg dp dv dd ds dc td (va_up ho (dp d) (some d)) ak se pr) := hD
      have hP : va_P D vwCl (hW h ad cI cZ ex pa di qu gc dg dp dv dd ds dc td (phd ho dp dd d) ak se pr) H := by rw [show phd ho dp dd d = va_up ho (dp d) (some d) from phd_ge eo5 k34]; exact hP
      exact q_wretV hx hb hr hlocks hAe hP hS dX0_putHolder_44

set_option maxHeartbeats 4000000 in
set_option maxRecDepth 100000 in
theorem kX0_settleHolders (l : Launch) (D : va_G) (h : Nat) (ad : Nat → Nat) (cI cZ : ClassId) (ex : Nat → Bool) (pa : Nat → Option Nat) (di : Nat → Nat) (qu : Nat → Nat) (gc : Nat) (dg : Nat → Nat) (dp : Nat → Nat) (dv : Nat → Option Nat) (dd : Nat → Nat) (ds : Nat → Nat) (dc : Nat) (td : Nat) (ho : Nat → Option Nat) (ak : Nat → Bool) (se : Nat → Option Nat) (pr : Nat → Option Nat) (sz : Nat)  (hdc : dc ≤ 200) (htd : td < 2147483648) (hdp : ∀ k, k < dc → dp k < 1536) (hdd : ∀ k, k < dc → dd k ≤ 1000) (hds : ∀ k, k < dc → ds k ≤ 4) : Met l yX0_settleHolders wsX0_settleHolders ({ frames := 2, cells := 0, slots := 0, locals := 44 } : Room) (wP D (hW h ad cI cZ ex pa di qu gc dg dp dv dd ds dc td ho ak se pr) (hT cI cZ) [.ref h] sz) (wQ D (hW h ad cI cZ ex pa di qu gc dg dp dv dd ds dc td ho ak se pr) (hW h ad cI cZ ex pa di qu gc dg dp dv dd ds dc td (stl ho ds dd dp td dc) ak se pr) none) 0 0 (va_A (hW h ad cI cZ ex pa di qu gc dg dp dv dd ds dc td ho ak se pr) sz) := by
  refine Met.ofW (cc := cX0_settleHolders) (maxL := 2) (ret := none) (by decide) rfl ?_
  intro p e s m args below meth c s₁ B hml hv
  obtain ⟨rfl, hsz, hP, hK, hD0⟩ := hv
  have hx := B.exec
  have hb := B.bytes
  have hr := B.returns
  have hts := atoms_spec (ws := wsX0_settleHolders) B.pre
  have hown : s.vm.findClass RX0 = some m.cls := findClass_of_methodNamed B.named
  have hlocks := B.notSynchronized
  subst hsz
  have hD := hD0.self (sz := s.heap.size)
  generalize hAe : va_A (hW h ad cI cZ ex pa di qu gc dg dp dv dd ds dc td ho ak se pr) s.heap.size = A at hD ⊢
  have hA : ∀ q : Nat, s.heap.size ≤ q → A q := fun q h => by rw [← hAe]; exact Or.inr h
  have hS : va_S A s.heap s.heap [] := va_S.rf
  have hl := lv_entry ([.ref h]) (n := 2) (Nat.le_of_ble_eq_true rfl)
  rw [lg_entry_eq]
  generalize (lg_sl ([.ref h]) ++ List.replicate (2 - (lg_sl ([.ref h])).length) Slot.unset).toArray = ls at hl ⊢
  have hl : lv_has ls 2 [(0, .ref h)] := hl
  refine lv_iconst (v := nI 0) hx hb dX0_settleHolders_0 (by decide) ?_
  refine lv_istore_n (lv' := [(1, .int (nI 0)), (0, .ref h)]) hx hb dX0_settleHolders_1 rfl hl (by decide) rfl (fun ls hl => ?_)
  have loop2 : ∀ (n : Nat) (i : Nat), (i ≤ 1536) → (1537 ≤ i + n) → ∀ (H : Heap) (locs : List Loc), va_P D vwCl (hW h ad cI cZ ex pa di qu gc dg dp dv dd ds dc td (cle ho i) ak se pr) H → va_D A (hW h ad cI cZ ex pa di qu gc dg dp dv dd ds dc td (cle ho i) ak se pr) → va_S A s.heap H locs → ∀ ls : Array Slot, lv_has ls 2 [(0, .ref h), (1, .int (nI i))] → W p l e ({ frames := 2, cells := 0, slots := 0, locals := 44 } : Room) s m ([.ref h] : List Value).toArray below meth c H locs 0 0 (MQ below (wQ D (hW h ad cI cZ ex pa di qu gc dg dp dv dd ds dc td ho ak se pr) (hW h ad cI cZ ex pa di qu gc dg dp dv dd ds dc td (stl ho ds dd dp td dc) ak se pr) none) ([.ref h] : List Value).toArray s 0 0 A) (F0 m 2 ls []) := by
    intro n
    induction n with
    | zero => intro i hle hn; omega
    | succ n ih =>
      intro i hle hn H locs hP hD hS ls hl
      refine lv_iload_n hx hb dX0_settleHolders_2 rfl (lv_at hl 1 rfl) ?_
      refine lv_aload_n hx hb dX0_settleHolders_3 rfl (lv_at hl 0 rfl) ?_
      refine va_get (D := D) (ci := 0) (v := .ref (ad 12)) (C := RX0) (T := TX0) (N := 16) hx hb hts (iX0_settleHolders) hown hK hP 0 rfl rfl 12 (by decide) (hts (.fieldLink RX0 48 "ShopHub" "holders" "[I") (by decide +kernel)) (fun _ h9 => h9) rfl dX0_settleHolders_4 ?_
      refine va_alen hx hb hK hP 10 1 rfl rfl (v := nI 1536) rfl dX0_settleHolders_7 ?_
      refine q_icmpN_ge (a := i) (b := 1536) (tgt := 24) (by omega) (by omega) hx hb dX0_settleHolders_8 (by decide) (fun k8 => ?_) (fun k8 => ?_)
      · refine lv_iconst (v := nI 0) hx hb dX0_settleHolders_24 (by decide) ?_
        refine lv_istore_n (lv' := [(1, .int (nI 0)), (0, .ref h)]) hx hb dX0_settleHolders_25 rfl hl (by decide) rfl (fun ls hl => ?_)
        have loop26 : ∀ (n2 : Nat) (j : Nat), (j ≤ dc) → (dc + 1 ≤ j + n2) → ∀ (H : Heap) (locs : List Loc), va_P D vwCl (hW h ad cI cZ ex pa di qu gc dg dp dv dd ds dc td (stl ho ds dd dp td j) ak se pr) H → va_D A (hW h ad cI cZ ex pa di qu gc dg dp dv dd ds dc td (stl ho ds dd dp td j) ak se pr) → va_S A s.heap H locs → ∀ ls : Array Slot, lv_has ls 2 [(0, .ref h), (1, .int (nI j))] → W p l e ({ frames := 2, cells := 0, slots := 0, locals := 44 } : Room) s m ([.ref h] : List Value).toArray below meth c H locs 0 0 (MQ below (wQ D (hW h ad cI cZ ex pa di qu gc dg dp dv dd ds dc td ho ak se pr) (hW h ad cI cZ ex pa di qu gc dg dp dv dd ds dc td (stl ho ds dd dp td dc) ak se pr) none) ([.ref h] : List Value).toArray s 0 0 A) (F0 m 26 ls []) := by
          intro n2
          induction n2 with
          | zero => intro j hle2 hn2; omega
          | succ n2 ih2 =>
            intro j hle2 hn2 H locs hP hD hS ls hl
            have hB1 : j < dc → ds j ≤ 4 := hds j
            have hB2 : j < dc → dd j ≤ 1000 := hdd j
            refine lv_iload_n hx hb dX0_settleHolders_26 rfl (lv_at hl 1 rfl) ?_
            refine lv_aload_n hx hb dX0_settleHolders_27 rfl (lv_at hl 0 rfl) ?_
            refine va_get (D := D) (ci := 0) (v := .int (nI dc)) (C := RX0) (T := TX0) (N := 16) hx hb hts (iX0_settleHolders) hown hK hP 0 rfl rfl 10 (by decide) (hts (.fieldLink RX0 42 "ShopHub" "draftCount" "I") (by decide +kernel)) (fun _ h9 => h9) rfl dX0_settleHolders_28 ?_
            refine q_icmpN_ge (a := j) (b := dc) (tgt := 68) (by omega) (by omega) hx hb dX0_settleHolders_31 (by decide) (fun k31 => ?_) (fun k31 => ?_)
            · have hP : va_P D vwCl (hW h ad cI cZ ex pa di qu gc dg dp dv dd ds dc td (stl ho ds dd dp td dc) ak se pr) H := by rw [show stl ho ds dd dp td dc = stl ho ds dd dp td j from by rw [show j = dc by omega]]; exact hP
              exact q_wretV hx hb hr hlocks hAe hP hS dX0_settleHolders_68
            · refine lv_aload_n hx hb dX0_settleHolders_34 rfl (lv_at hl 0 rfl) ?_
              refine va_get (D := D) (ci := 0) (v := .ref (ad 9)) (C := RX0) (T := TX0) (N := 16) hx hb hts (iX0_settleHolders) hown hK hP 0 rfl rfl 9 (by decide) (hts (.fieldLink RX0 39 "ShopHub" "draftStates" "[I") (by decide +kernel)) (fun _ h9 => h9) rfl dX0_settleHolders_35 ?_
              refine lv_iload_n hx hb dX0_settleHolders_38 rfl (lv_at hl 1 rfl) ?_
              refine q_ald nI ds hx hb hK hP 9 1 rfl rfl (k := j) (by omega) (Nat.le_of_ble_eq_true rfl) dX0_settleHolders_39 ?_
              refine lv_iconst (v := nI 2) hx hb dX0_settleHolders_40 (by decide) ?_
              refine q_icmpN_ne (a := ds j) (b := 2) (tgt := 62) (by have := hds j (by omega); omega) (by omega) hx hb dX0_settleHolders_41 (by decide) (fun k41 => ?_) (fun k41 => ?_)
              · refine lv_iinc (v := nI (j + 1)) (lv' := [(1, .int (nI (j + 1))), (0, .ref h)]) hx hb dX0_settleHolders_62 hl (k := 1) rfl (i1_n j) (by decide) rfl (fun ls hl => ?_)
                refine lv_goto (tgt := 26) hx hb dX0_settleHolders_65 (by decide) ?_
                have hP : va_P D vwCl (hW h ad cI cZ ex pa di qu gc dg dp dv dd ds dc td (stl ho ds dd dp td (j + 1)) ak se pr) H := by rw [show stl ho ds dd dp td (j + 1) = stl ho ds dd dp td j from stl_skip (Or.inl k41)]; exact hP
                have hD : va_D A (hW h ad cI cZ ex pa di qu gc dg dp dv dd ds dc td (stl ho ds dd dp td (j + 1)) ak se pr) := by rw [show stl ho ds dd dp td (j + 1) = stl ho ds dd dp td j from stl_skip (Or.inl k41)]; exact hD
                exact ih2 (j + 1) (by omega) (by omega) _ _ hP hD hS _ (lv_sub hl [1, 0] rfl)
              · refine lv_aload_n hx hb dX0_settleHolders_44 rfl (lv_at hl 0 rfl) ?_
                refine va_get (D := D) (ci := 0) (v := .ref (ad 8)) (C := RX0) (T := TX0) (N := 16) hx hb hts (iX0_settleHolders) hown hK hP 0 rfl rfl 8 (by decide) (hts (.fieldLink RX0 36 "ShopHub" "draftDays" "[I") (by decide +kernel)) (fun _ h9 => h9) rfl dX0_settleHolders_45 ?_
                refine lv_iload_n hx hb dX0_settleHolders_48 rfl (lv_at hl 1 rfl) ?_
                refine q_ald nI dd hx hb hK hP 8 1 rfl rfl (k := j) (by omega) (Nat.le_of_ble_eq_true rfl) dX0_settleHolders_49 ?_
                refine lv_aload_n hx hb dX0_settleHolders_50 rfl (lv_at hl 0 rfl) ?_
                refine va_get (D := D) (ci := 0) (v := .int (nI td)) (C := RX0) (T := TX0) (N := 16) hx hb hts (iX0_settleHolders) hown hK hP 0 rfl rfl 11 (by decide) (hts (.fieldLink RX0 45 "ShopHub" "today" "I") (by decide +kernel)) (fun _ h9 => h9) rfl dX0_settleHolders_51 ?_
                refine q_icmpN_gt (a := dd j) (b := td) (tgt := 62) (by have := hdd j (by omega); omega) (by omega) hx hb dX0_settleHolders_54 (by decide) (fun k54 => ?_) (fun k54 => ?_)
                · refine lv_iinc (v := nI (j + 1)) (lv' := [(1, .int (nI (j + 1))), (0, .ref h)]) hx hb dX0_settleHolders_62 hl (k := 1) rfl (i1_n j) (by decide) rfl (fun ls hl => ?_)
                  refine lv_goto (tgt := 26) hx hb dX0_settleHolders_65 (by decide) ?_
                  have hP : va_P D vwCl (hW h ad cI cZ ex pa di qu gc dg dp dv dd ds dc td (stl ho ds dd dp td (j + 1)) ak se pr) H := by rw [show stl ho ds dd dp td (j + 1) = stl ho ds dd dp td j from stl_skip (Or.inr k54)]; exact hP
                  have hD : va_D A (hW h ad cI cZ ex pa di qu gc dg dp dv dd ds dc td (stl ho ds dd dp td (j + 1)) ak se pr) := by rw [show stl ho ds dd dp td (j + 1) = stl ho ds dd dp td j from stl_skip (Or.inr k54)]; exact hD
                  exact ih2 (j + 1) (by omega) (by omega) _ _ hP hD hS _ (lv_sub hl [1, 0] rfl)
                · refine lv_aload_n hx hb dX0_settleHolders_57 rfl (lv_at hl 0 rfl) ?_
                  refine lv_iload_n hx hb dX0_settleHolders_58 rfl (lv_at hl 1 rfl) ?_
                  refine q_wcallV (w' := (hW h ad cI cZ ex pa di qu gc dg dp dv dd ds dc td (phd (stl ho ds dd dp td j) dp dd j) ak se pr)) (va_runV (As := [.int (nI j)]) (rest := []) ⟨hx, hb, hml, hown, hts⟩ (kX0_putHolder l D h ad cI cZ ex pa di qu gc dg dp dv dd ds dc td (stl ho ds dd dp td j) ak se pr _ j (by omega) hdc (hdp j (by omega)) (stl_HO hle2) hdd) (cwV 1 hts gX0_settleHolders_X0_putHolder rfl rfl rfl (by decide +kernel) ⟨Nat.le_of_ble_eq_true rfl, Nat.le_of_ble_eq_true rfl⟩) ⟨wP_blind, va_recv hK hP (ci := 0) (q0 := 0) rfl rfl, wP_pre hP hK hD⟩ rfl rfl hl.1 rfl (lv_room (Nat.le_of_ble_eq_true rfl)) dX0_settleHolders_59 ⟨Nat.zero_le _, Nat.zero_le _⟩) hD hS hA rfl (fun H locs hP hD hS => ?_)
                  refine lv_iinc (v := nI (j + 1)) (lv' := [(1, .int (nI (j + 1))), (0, .ref h)]) hx hb dX0_settleHolders_62 hl (k := 1) rfl (i1_n j) (by decide) rfl (fun ls hl => ?_)
                  refine lv_goto (tgt := 26) hx hb dX0_settleHolders_65 (by decide) ?_
                  have hP : va_P D vwCl (hW h ad cI cZ ex pa di qu gc dg dp dv dd ds dc td (stl ho ds dd dp td (j + 1)) ak se pr) H := by rw [show stl ho ds dd dp td (j + 1) = phd (stl ho ds dd dp td j) dp dd j from stl_put k41 k54 (hdp j (by omega))]; exact hP
                  have hD : va_D A (hW h ad cI cZ ex pa di qu gc dg dp dv dd ds dc td (stl ho ds dd dp td (j + 1)) ak se pr) := by rw [show stl ho ds dd dp td (j + 1) = phd (stl ho ds dd dp td j) dp dd j from stl_put k41 k54 (hdp j (by omega))]; exact hD
                  exact ih2 (j + 1) (by omega) (by omega) _ _ hP hD hS _ (lv_sub hl [1, 0] rfl)
        have hP : va_P D vwCl (hW h ad cI cZ ex pa di qu gc dg dp dv dd ds dc td (stl ho ds dd dp td 0) ak se pr) H := by rw [show stl ho ds dd dp td 0 = cle ho i from by rw [show i = 1536 by omega]; rfl]; exact hP
        have hD : va_D A (hW h ad cI cZ ex pa di qu gc dg dp dv dd ds dc td (stl ho ds dd dp td 0) ak se pr) := by rw [show stl ho ds dd dp td 0 = cle ho i from by rw [show i = 1536 by omega]; rfl]; exact hD
        exact loop26 (dc + 1) 0 (by omega) (by omega) _ _ hP hD hS _ (lv_sub hl [1, 0] rfl)
      · refine lv_aload_n hx hb dX0_settleHolders_11 rfl (lv_at hl 0 rfl) ?_
        refine va_get (D := D) (ci := 0) (v := .ref (ad 12)) (C := RX0) (T := TX0) (N := 16) hx hb hts (iX0_settleHolders) hown hK hP 0 rfl rfl 12 (by decide) (hts (.fieldLink RX0 48 "ShopHub" "holders" "[I") (by decide +kernel)) (fun _ h9 => h9) rfl dX0_settleHolders_12 ?_
        refine lv_iload_n hx hb dX0_settleHolders_15 rfl (lv_at hl 1 rfl) ?_
        refine lv_iconst (v := oI none) hx hb dX0_settleHolders_16 (by decide) ?_
        refine q_ast oI (cle ho i) none hx hb hK hP hD hS 10 1 rfl rfl (k := i) (by omega) (Nat.le_of_ble_eq_true rfl) dX0_settleHolders_17 (fun H locs hP hD hS => ?_)
        have hP : va_P D vwCl (hW h ad cI cZ ex pa di qu gc dg dp dv dd ds dc td (va_up (cle ho i) i none) ak se pr) H := hP
        have hD : va_D A (hW h ad cI cZ ex pa di qu gc dg dp dv dd ds dc td (va_up (cle ho i) i none) ak se pr) := hD
        refine lv_iinc (v := nI (i + 1)) (lv' := [(1, .int (nI (i + 1))), (0, .ref h)]) hx hb dX0_settleHolders_18 hl (k := 1) rfl (i1_n i) (by decide) rfl (fun ls hl => ?_)
        refine lv_goto (tgt := 2) hx hb dX0_settleHolders_21 (by decide) ?_
        have hP : va_P D vwCl (hW h ad cI cZ ex pa di qu gc dg dp dv dd ds dc td (cle ho (i + 1)) ak se pr) H := by rw [show cle ho (i + 1) = va_up (cle ho i) i none from cle_s ho i]; exact hP
        have hD : va_D A (hW h ad cI cZ ex pa di qu gc dg dp dv dd ds dc td (cle ho (i + 1)) ak se pr) := by rw [show cle ho (i + 1) = va_up (cle ho i) i none from cle_s ho i]; exact hD
        exact ih (i + 1) (by omega) (by omega) _ _ hP hD hS _ (lv_sub hl [1, 0] rfl)
  have hP : va_P D vwCl (hW h ad cI cZ ex pa di qu gc dg dp dv dd ds dc td (cle ho 0) ak se pr) s.heap := by rw [show cle ho 0 = ho from cle_0 ho]; exact hP
  have hD : va_D A (hW h ad cI cZ ex pa di qu gc dg dp dv dd ds dc td (cle ho 0) ak se pr) := by rw [show cle ho 0 = ho from cle_0 ho]; exact hD
  exact loop2 1537 0 (by omega) (Nat.le_refl 1537) _ _ hP hD hS _ (lv_sub hl [1, 0] rfl)

set_option maxHeartbeats 4000000 in
set_option maxRecDepth 100000 in
theorem kX0_deleteDraftsOf (l : Launch) (D : va_G) (h : Nat) (ad : Nat → Nat) (cI cZ : ClassId) (ex : Nat → Bool) (pa : Nat → Option Nat) (di : Nat → Nat) (qu : Nat → Nat) (gc : Nat) (dg : Nat → Nat) (dp : Nat → Nat) (dv : Nat → Option Nat) (dd : Nat → Nat) (ds : Nat → Nat) (dc : Nat) (td : Nat) (ho : Nat → Option Nat) (ak : Nat → Bool) (se : Nat → Option Nat) (pr : Nat → Option Nat) (sz : Nat) (g : Nat) (hdc : dc ≤ 200) (hg : g < 16) (hdg : ∀ k, k < dc → dg k < 16) : Met l yX0_deleteDraftsOf wsX0_deleteDraftsOf ({ frames := 0, cells := 0, slots := 0, locals := 0 } : Room) (wP D (hW h ad cI cZ ex pa di qu gc dg dp dv dd ds dc td ho ak se pr) (hT cI cZ) [.ref h, .int (nI g)] sz) (wQ D (hW h ad cI cZ ex pa di qu gc dg dp dv dd ds dc td ho ak se pr) (hW h ad cI cZ ex pa di qu gc dg dp dv dd (kil ds dg g dc) dc td ho ak se pr) none) 0 0 (va_A (hW h ad cI cZ ex pa di qu gc dg dp dv dd ds dc td ho ak se pr) sz) := by
  refine Met.ofW (cc := cX0_deleteDraftsOf) (maxL := 3) (ret := none) (by decide) rfl ?_
  intro p e s m args below meth c s₁ B hml hv
  obtain ⟨rfl, hsz, hP, hK, hD0⟩ := hv
  have hx := B.exec
  have hb := B.bytes
  have hr := B.returns
  have hts := atoms_spec (ws := wsX0_deleteDraftsOf) B.pre
  have hown : s.vm.findClass RX0 = some m.cls := findClass_of_methodNamed B.named
  have hlocks := B.notSynchronized
  subst hsz
  have hD := hD0.self (sz := s.heap.size)
  generalize hAe : va_A (hW h ad cI cZ ex pa di qu gc dg dp dv dd ds dc td ho ak se pr) s.heap.size = A at hD ⊢
  have hA : ∀ q : Nat, s.heap.size ≤ q → A q := fun q h => by rw [← hAe]; exact Or.inr h
  have hS : va_S A s.heap s.heap [] := va_S.rf
  have hl := lv_entry ([.ref h, .int (nI g)]) (n := 3) (Nat.le_of_ble_eq_true rfl)
  rw [lg_entry_eq]
  generalize (lg_sl ([.ref h, .int (nI g)]) ++ List.replicate (3 - (lg_sl ([.ref h, .int (nI g)])).length) Slot.unset).toArray = ls at hl ⊢
  have hl : lv_has ls 3 [(0, .ref h), (1, .int (nI g))] := hl
  refine lv_iconst (v := nI 0) hx hb dX0_deleteDraftsOf_0 (by decide) ?_
  refine lv_istore_n (lv' := [(2, .int (nI 0)), (0, .ref h), (1, .int (nI g))]) hx hb dX0_deleteDraftsOf_1 rfl hl (by decide) rfl (fun ls hl => ?_)
  have loop2 : ∀ (n : Nat) (i : Nat), (i ≤ dc) → (dc + 1 ≤ i + n) → ∀ (H : Heap) (locs : List Loc), va_P D vwCl (hW h ad cI cZ ex pa di qu gc dg dp dv dd (kil ds dg g i) dc td ho ak se pr) H → va_D A (hW h ad cI cZ ex pa di qu gc dg dp dv dd (kil ds dg g i) dc td ho ak se pr) → va_S A s.heap H locs → ∀ ls : Array Slot, lv_has ls 3 [(0, .ref h), (1, .int (nI g)), (2, .int (nI i))] → W p l e ({ frames := 0, cells := 0, slots := 0, locals := 0 } : Room) s m ([.ref h, .int (nI g)] : List Value).toArray below meth c H locs 0 0 (MQ below (wQ D (hW h ad cI cZ ex pa di qu gc dg dp dv dd ds dc td ho ak se pr) (hW h ad cI cZ ex pa di qu gc dg dp dv dd (kil ds dg g dc) dc td ho ak se pr) none) ([.ref h, .int (nI g)] : List Value).toArray s 0 0 A) (F0 m 2 ls []) := by
    intro n
    induction n with
    | zero => intro i hle hn; omega
    | succ n ih =>
      intro i hle hn H locs hP hD hS ls hl
      refine lv_iload_n hx hb dX0_deleteDraftsOf_2 rfl (lv_at hl 2 rfl) ?_
      refine lv_aload_n hx hb dX0_deleteDraftsOf_3 rfl (lv_at hl 0 rfl) ?_
      refine va_get (D := D) (ci := 0) (v := .int (nI dc)) (C := RX0) (T := TX0) (N := 16) hx hb hts (iX0_deleteDraftsOf) hown hK hP 0 rfl rfl 10 (by decide) (hts (.fieldLink RX0 42 "ShopHub" "draftCount" "I") (by decide +kernel)) (fun _ h9 => h9) rfl dX0_deleteDraftsOf_4 ?_
      refine q_icmpN_ge (a := i) (b := dc) (tgt := 33) (by omega) (by omega) hx hb dX0_deleteDraftsOf_7 (by decide) (fun k7 => ?_) (fun k7 => ?_)
      · have hP : va_P D vwCl (hW h ad cI cZ ex pa di qu gc dg dp dv dd (kil ds dg g dc) dc td ho ak se pr) H := by rw [show kil ds dg g dc = kil ds dg g i from by rw [show i = dc by omega]]; exact hP
        exact q_wretV hx hb hr hlocks hAe hP hS dX0_deleteDraftsOf_33
      · refine lv_aload_n hx hb dX0_deleteDraftsOf_10 rfl (lv_at hl 0 rfl) ?_
        refine va_get (D := D) (ci := 0) (v := .ref (ad 5)) (C := RX0) (T := TX0) (N := 16) hx hb hts (iX0_deleteDraftsOf) hown hK hP 0 rfl rfl 5 (by decide) (hts (.fieldLink RX0 27 "ShopHub" "draftGoods" "[I") (by decide +kernel)) (fun _ h9 => h9) rfl dX0_deleteDraftsOf_11 ?_
        refine lv_iload_n hx hb dX0_deleteDraftsOf_14 rfl (lv_at hl 2 rfl) ?_
        refine q_ald nI dg hx hb hK hP 5 1 rfl rfl (k := i) (by omega) (Nat.le_of_ble_eq_true rfl) dX0_deleteDraftsOf_15 ?_
        refine lv_iload_n hx hb dX0_deleteDraftsOf_16 rfl (lv_at hl 1 rfl) ?_
        refine q_icmpN_ne (a := dg i) (b := g) (tgt := 27) (by have := hdg i (by omega); omega) (by omega) hx hb dX0_deleteDraftsOf_17 (by decide) (fun k17 => ?_) (fun k17 => ?_)
        · refine lv_iinc (v := nI (i + 1)) (lv' := [(2, .int (nI (i + 1))), (0, .ref h), (1, .int (nI g))]) hx hb dX0_deleteDraftsOf_27 hl (k := 2) rfl (i1_n i) (by decide) rfl (fun ls hl => ?_)
          refine lv_goto (tgt := 2) hx hb dX0_deleteDraftsOf_30 (by decide) ?_
          have hP : va_P D vwCl (hW h ad cI cZ ex pa di qu gc dg dp dv dd (kil ds dg g (i + 1)) dc td ho ak se pr) H := by rw [show kil ds dg g (i + 1) = kil ds dg g i from kil_f k17]; exact hP
          have hD : va_D A (hW h ad cI cZ ex pa di qu gc dg dp dv dd (kil ds dg g (i + 1)) dc td ho ak se pr) := by rw [show kil ds dg g (i + 1) = kil ds dg g i from kil_f k17]; exact hD
          exact ih (i + 1) (by omega) (by omega) _ _ hP hD hS _ (lv_sub hl [1, 2, 0] rfl)
        · refine lv_aload_n hx hb dX0_deleteDraftsOf_20 rfl (lv_at hl 0 rfl) ?_
          refine va_get (D := D) (ci := 0) (v := .ref (ad 9)) (C := RX0) (T := TX0) (N := 16) hx hb hts (iX0_deleteDraftsOf) hown hK hP 0 rfl rfl 9 (by decide) (hts (.fieldLink RX0 39 "ShopHub" "draftStates" "[I") (by decide +kernel)) (fun _ h9 => h9) rfl dX0_deleteDraftsOf_21 ?_
          refine lv_iload_n hx hb dX0_deleteDraftsOf_24 rfl (lv_at hl 2 rfl) ?_
          refine lv_iconst (v := nI 4) hx hb dX0_deleteDraftsOf_25 (by decide) ?_
          refine q_ast nI (kil ds dg g i) 4 hx hb hK hP hD hS 9 1 rfl rfl (k := i) (by omega) (Nat.le_of_ble_eq_true rfl) dX0_deleteDraftsOf_26 (fun H locs hP hD hS => ?_)
          have hP : va_P D vwCl (hW h ad cI cZ ex pa di qu gc dg dp dv dd (va_up (kil ds dg g i) i 4) dc td ho ak se pr) H := hP
          have hD : va_D A (hW h ad cI cZ ex pa di qu gc dg dp dv dd (va_up (kil ds dg g i) i 4) dc td ho ak se pr) := hD
          refine lv_iinc (v := nI (i + 1)) (lv' := [(2, .int (nI (i + 1))), (0, .ref h), (1, .int (nI g))]) hx hb dX0_deleteDraftsOf_27 hl (k := 2) rfl (i1_n i) (by decide) rfl (fun ls hl => ?_)
          refine lv_goto (tgt := 2) hx hb dX0_deleteDraftsOf_30 (by decide) ?_
          have hP : va_P D vwCl (hW h ad cI cZ ex pa di qu gc dg dp dv dd (kil ds dg g (i + 1)) dc td ho ak se pr) H := by rw [show kil ds dg g (i + 1) = va_up (kil ds dg g i) i 4 from kil_t k17]; exact hP
          have hD : va_D A (hW h ad cI cZ ex pa di qu gc dg dp dv dd (kil ds dg g (i + 1)) dc td ho ak se pr) := by rw [show kil ds dg g (i + 1) = va_up (kil ds dg g i) i 4 from kil_t k17]; exact hD
          exact ih (i + 1) (by omega) (by omega) _ _ hP hD hS _ (lv_sub hl [1, 2, 0] rfl)
  have hP : va_P D vwCl (hW h ad cI cZ ex pa di qu gc dg dp dv dd (kil ds dg g 0) dc td ho ak se pr) s.heap := by rw [show kil ds dg g 0 = ds from kil_0 ds dg g]; exact hP
  have hD : va_D A (hW h ad cI cZ ex pa di qu gc dg dp dv dd (kil ds dg g 0) dc td ho ak se pr) := by rw [show kil ds dg g 0 = ds from kil_0 ds dg g]; exact hD
  exact loop2 (dc + 1) 0 (by omega) (by omega) _ _ hP hD hS _ (lv_sub hl [1, 2, 0] rfl)

set_option maxHeartbeats 4000000 in
set_option maxRecDepth 100000 in
theorem kX0_rememberSights (l : Launch) (D : va_G) (h : Nat) (ad : Nat → Nat) (cI cZ : ClassId) (ex : Nat → Bool) (pa : Nat → Option Nat) (di : Nat → Nat) (qu : Nat → Nat) (gc : Nat) (dg : Nat → Nat) (dp : Nat → Nat) (dv : Nat → Option Nat) (dd : Nat → Nat) (ds : Nat → Nat) (dc : Nat) (td : Nat) (ho : Nat → Option Nat) (ak : Nat → Bool) (se : Nat → Option Nat) (pr : Nat → Option Nat) (sz : Nat) (g sp : Nat) (hg : g < 16) (hs : sp < 3) (hpr : PR pa) (hho : HO ho dc) (hdc : dc ≤ 200) : Met l yX0_rememberSights wsX0_rememberSights ({ frames := 4, cells := 0, slots := 0, locals := 102 } : Room) (wP D (hW h ad cI cZ ex pa di qu gc dg dp dv dd ds dc td ho ak se pr) (hT cI cZ) [.ref h, .int (nI g), .int (nI sp)] sz) (wQ D (hW h ad cI cZ ex pa di qu gc dg dp dv dd ds dc td ho ak se pr) (hW h ad cI cZ ex pa di qu gc dg dp dv dd ds dc td ho ak (rmb se (sgt ex pa ho dv sp g) (sp * 288 + g * 18) 18) pr) none) 0 0 (va_A (hW h ad cI cZ ex pa di qu gc dg dp dv dd ds dc td ho ak se pr) sz) := by
  refine Met.ofW (cc := cX0_rememberSights) (maxL := 5) (ret := none) (by decide) rfl ?_
  intro p e s m args below meth c s₁ B hml hv
  obtain ⟨rfl, hsz, hP, hK, hD0⟩ := hv
  have hx := B.exec
  have hb := B.bytes
  have hr := B.returns
  have hts := atoms_spec (ws := wsX0_rememberSights) B.pre
  have hown : s.vm.findClass RX0 = some m.cls := findClass_of_methodNamed B.named
  have hlocks := B.notSynchronized
  subst hsz
  have hD := hD0.self (sz := s.heap.size)
  generalize hAe : va_A (hW h ad cI cZ ex pa di qu gc dg dp dv dd ds dc td ho ak se pr) s.heap.size = A at hD ⊢
  have hA : ∀ q : Nat, s.heap.size ≤ q → A q := fun q h => by rw [← hAe]; exact Or.inr h
  have hS : va_S A s.heap s.heap [] := va_S.rf
  have hl := lv_entry ([.ref h, .int (nI g), .int (nI sp)]) (n := 5) (Nat.le_of_ble_eq_true rfl)
  rw [lg_entry_eq]
  generalize (lg_sl ([.ref h, .int (nI g), .int (nI sp)]) ++ List.replicate (5 - (lg_sl ([.ref h, .int (nI g), .int (nI sp)])).length) Slot.unset).toArray = ls at hl ⊢
  have hl : lv_has ls 5 [(0, .ref h), (1, .int (nI g)), (2, .int (nI sp))] := hl
  refine lv_iload_n hx hb dX0_rememberSights_0 rfl (lv_at hl 2 rfl) ?_
  refine lv_sipush (v := nI 288) hx hb dX0_rememberSights_1 (by decide) ?_
  refine q_mulN (a := sp) (b := 288) hx hb dX0_rememberSights_4 ?_
  refine lv_iload_n hx hb dX0_rememberSights_5 rfl (lv_at hl 1 rfl) ?_
  refine lv_bipush (v := nI 18) hx hb dX0_rememberSights_6 (by decide) ?_
  refine q_mulN (a := g) (b := 18) hx hb dX0_rememberSights_8 ?_
  refine q_addN (a := sp * 288) (b := g * 18) hx hb dX0_rememberSights_9 ?_
  refine lv_istore_n (lv' := [(3, .int (nI ((sp * 288) + (g * 18)))), (0, .ref h), (1, .int (nI g)), (2, .int (nI sp))]) hx hb dX0_rememberSights_10 rfl hl (by decide) rfl (fun ls hl => ?_)
  refine lv_iconst (v := nI 0) hx hb dX0_rememberSights_11 (by decide) ?_
  refine lv_istore (lv' := [(4, .int (nI 0)), (3, .int (nI ((sp * 288) + (g * 18)))), (0, .ref h), (1, .int (nI g)), (2, .int (nI sp))]) hx hb dX0_rememberSights_12 hl (by decide) rfl (fun ls hl => ?_)
  have loop14 : ∀ (n : Nat) (i : Nat), (i ≤ 18) → (19 ≤ i + n) → ∀ (H : Heap) (locs : List Loc), va_P D vwCl (hW h ad cI cZ ex pa di qu gc dg dp dv dd ds dc td ho ak (rmb se (sgt ex pa ho dv sp g) (sp * 288 + g * 18) i) pr) H → va_D A (hW h ad cI cZ ex pa di qu gc dg dp dv dd ds dc td ho ak (rmb se (sgt ex pa ho dv sp g) (sp * 288 + g * 18) i) pr) → va_S A s.heap H locs → ∀ ls : Array Slot, lv_has ls 5 [(0, .ref h), (1, .int (nI g)), (2, .int (nI sp)), (3, .int (nI ((sp * 288) + (g * 18)))), (4, .int (nI i))] → W p l e ({ frames := 4, cells := 0, slots := 0, locals := 102 } : Room) s m ([.ref h, .int (nI g), .int (nI sp)] : List Value).toArray below meth c H locs 0 0 (MQ below (wQ D (hW h ad cI cZ ex pa di qu gc dg dp dv dd ds dc td ho ak se pr) (hW h ad cI cZ ex pa di qu gc dg dp dv dd ds dc td ho ak (rmb se (sgt ex pa ho dv sp g) (sp * 288 + g * 18) 18) pr) none) ([.ref h, .int (nI g), .int (nI sp)] : List Value).toArray s 0 0 A) (F0 m 14 ls []) := by
    intro n
    induction n with
    | zero => intro i hle hn; omega
    | succ n ih =>
      intro i hle hn H locs hP hD hS ls hl
      refine lv_iload hx hb dX0_rememberSights_14 (lv_at hl 4 rfl) ?_
      refine lv_bipush (v := nI 18) hx hb dX0_rememberSights_16 (by decide) ?_
      refine q_icmpN_ge (a := i) (b := 18) (tgt := 50) (by omega) (by omega) hx hb dX0_rememberSights_18 (by decide) (fun k18 => ?_) (fun k18 => ?_)
      · have hP : va_P D vwCl (hW h ad cI cZ ex pa di qu gc dg dp dv dd ds dc td ho ak (rmb se (sgt ex pa ho dv sp g) (sp * 288 + g * 18) 18) pr) H := by rw [show rmb se (sgt ex pa ho dv sp g) (sp * 288 + g * 18) 18 = rmb se (sgt ex pa ho dv sp g) (sp * 288 + g * 18) i from by rw [show i = 18 by omega]]; exact hP
        exact q_wretV hx hb hr hlocks hAe hP hS dX0_rememberSights_50
      · refine lv_aload_n hx hb dX0_rememberSights_21 rfl (lv_at hl 0 rfl) ?_
        refine va_get (D := D) (ci := 0) (v := .ref (ad 14)) (C := RX0) (T := TX0) (N := 16) hx hb hts (iX0_rememberSights) hown hK hP 0 rfl rfl 14 (by decide) (hts (.fieldLink RX0 54 "ShopHub" "seen" "[I") (by decide +kernel)) (fun _ h9 => h9) rfl dX0_rememberSights_22 ?_
        refine lv_iload_n hx hb dX0_rememberSights_25 rfl (lv_at hl 3 rfl) ?_
        refine lv_iload hx hb dX0_rememberSights_26 (lv_at hl 4 rfl) ?_
        refine q_addN (a := (sp * 288) + (g * 18)) (b := i) hx hb dX0_rememberSights_28 ?_
        refine lv_aload_n hx hb dX0_rememberSights_29 rfl (lv_at hl 0 rfl) ?_
        refine lv_iload_n hx hb dX0_rememberSights_30 rfl (lv_at hl 1 rfl) ?_
        refine lv_iload hx hb dX0_rememberSights_31 (lv_at hl 4 rfl) ?_
        refine lv_iconst (v := nI 3) hx hb dX0_rememberSights_33 (by decide) ?_
        refine q_divN (a := i) (b := 3) (by omega) (by decide) (by decide) hx hb dX0_rememberSights_34 ?_
        refine lv_iload_n hx hb dX0_rememberSights_35 rfl (lv_at hl 2 rfl) ?_
        refine lv_iload hx hb dX0_rememberSights_36 (lv_at hl 4 rfl) ?_
        refine lv_iconst (v := nI 3) hx hb dX0_rememberSights_38 (by decide) ?_
        refine q_remN (a := i) (b := 3) (by omega) (by decide) (by decide) hx hb dX0_rememberSights_39 ?_
        refine q_callI (r := oI (vlu ex pa ho dv (i / 3) (sp + 1) ((i % 3) + 1) g)) (va_runV (As := [.int (nI g), .int (nI (i / 3)), .int (nI sp), .int (nI (i % 3))]) (rest := [.int (nI (((sp * 288) + (g * 18)) + i)), .ref (ad 14)]) ⟨hx, hb, hml, hown, hts⟩ (kX0_findValue l D h ad cI cZ ex pa di qu gc dg dp dv dd ds dc td ho ak (rmb se (sgt ex pa ho dv sp g) (sp * 288 + g * 18) i) pr g (i / 3) sp (i % 3) hg (by omega) hs (by omega) hpr hho hdc) (cwV 4 hts gX0_rememberSights_X0_findValue rfl rfl rfl (by decide +kernel) ⟨Nat.le_of_ble_eq_true rfl, Nat.le_of_ble_eq_true rfl⟩) ⟨pP_blind, va_recv hK hP (ci := 0) (q0 := 0) rfl rfl, pP_pre hP hK⟩ rfl rfl hl.1 rfl (lv_room (Nat.le_of_ble_eq_true rfl)) dX0_rememberSights_40 ⟨Nat.zero_le _, Nat.zero_le _⟩) ?_
        refine q_ast oI (rmb se (sgt ex pa ho dv sp g) (sp * 288 + g * 18) i) (vlu ex pa ho dv (i / 3) (sp + 1) ((i % 3) + 1) g) hx hb hK hP hD hS 12 1 rfl rfl (k := ((sp * 288) + (g * 18)) + i) (by omega) (Nat.le_of_ble_eq_true rfl) dX0_rememberSights_43 (fun H locs hP hD hS => ?_)
        have hP : va_P D vwCl (hW h ad cI cZ ex pa di qu gc dg dp dv dd ds dc td ho ak (va_up (rmb se (sgt ex pa ho dv sp g) (sp * 288 + g * 18) i) (((sp * 288) + (g * 18)) + i) (vlu ex pa ho dv (i / 3) (sp + 1) ((i % 3) + 1) g)) pr) H := hP
        have hD : va_D A (hW h ad cI cZ ex pa di qu gc dg dp dv dd ds dc td ho ak (va_up (rmb se (sgt ex pa ho dv sp g) (sp * 288 + g * 18) i) (((sp * 288) + (g * 18)) + i) (vlu ex pa ho dv (i / 3) (sp + 1) ((i % 3) + 1) g)) pr) := hD
        refine lv_iinc (v := nI (i + 1)) (lv' := [(4, .int (nI (i + 1))), (0, .ref h), (1, .int (nI g)), (2, .int (nI sp)), (3, .int (nI ((sp * 288) + (g * 18))))]) hx hb dX0_rememberSights_44 hl (k := 4) rfl (i1_n i) (by decide) rfl (fun ls hl => ?_)
        refine lv_goto (tgt := 14) hx hb dX0_rememberSights_47 (by decide) ?_
        have hP : va_P D vwCl (hW h ad cI cZ ex pa di qu gc dg dp dv dd ds dc td ho ak (rmb se (sgt ex pa ho dv sp g) (sp * 288 + g * 18) (i + 1)) pr) H := by rw [show rmb se (sgt ex pa ho dv sp g) (sp * 288 + g * 18) (i + 1) = va_up (rmb se (sgt ex pa ho dv sp g) (sp * 288 + g * 18) i) (((sp * 288) + (g * 18)) + i) (vlu ex pa ho dv (i / 3) (sp + 1) ((i % 3) + 1) g) from rmb_s _ _ _ _]; exact hP
        have hD : va_D A (hW h ad cI cZ ex pa di qu gc dg dp dv dd ds dc td ho ak (rmb se (sgt ex pa ho dv sp g) (sp * 288 + g * 18) (i + 1)) pr) := by rw [show rmb se (sgt ex pa ho dv sp g) (sp * 288 + g * 18) (i + 1) = va_up (rmb se (sgt ex pa ho dv sp g) (sp * 288 + g * 18) i) (((sp * 288) + (g * 18)) + i) (vlu ex pa ho dv (i / 3) (sp + 1) ((i % 3) + 1) g) from rmb_s _ _ _ _]; exact hD
        exact ih (i + 1) (by omega) (by omega) _ _ hP hD hS _ (lv_sub hl [1, 2, 3, 4, 0] rfl)
  have hP : va_P D vwCl (hW h ad cI cZ ex pa di qu gc dg dp dv dd ds dc td ho ak (rmb se (sgt ex pa ho dv sp g) (sp * 288 + g * 18) 0) pr) s.heap := by rw [show rmb se (sgt ex pa ho dv sp g) (sp * 288 + g * 18) 0 = se from rmb_0 _ _ _]; exact hP
  have hD : va_D A (hW h ad cI cZ ex pa di qu gc dg dp dv dd ds dc td ho ak (rmb se (sgt ex pa ho dv sp g) (sp * 288 + g * 18) 0) pr) := by rw [show rmb se (sgt ex pa ho dv sp g) (sp * 288 + g * 18) 0 = se from rmb_0 _ _ _]; exact hD
  exact loop14 19 0 (by omega) (Nat.le_refl 19) _ _ hP hD hS _ (lv_sub hl [2, 3, 4, 1, 0] rfl)
end
section
set_option maxHeartbeats 4000000 in
set_option maxRecDepth 100000 in
theorem kX0_isParent (l : Launch) (D : va_G) (h : Nat) (ad : Nat → Nat) (cI cZ : ClassId) (ex : Nat → Bool) (pa : Nat → Option Nat) (di : Nat → Nat) (qu : Nat → Nat) (gc : Nat) (dg : Nat → Nat) (dp : Nat → Nat) (dv : Nat → Option Nat) (dd : Nat → Nat) (ds : Nat → Nat) (dc : Nat) (td : Nat) (ho : Nat → Option Nat) (ak : Nat → Bool) (se : Nat → Option Nat) (pr : Nat → Option Nat) (g : Nat) (hg : g < 16) (hpr : PR pa) : Met l yX0_isParent wsX0_isParent ({ frames := 0, cells := 0, slots := 0, locals := 0 } : Room) (pP D (hW h ad cI cZ ex pa di qu gc dg dp dv dd ds dc td ho ak se pr) (hT cI cZ) [.ref h, .int (nI g)]) (pQ (some (.int (bI (exU (fun k => decide (pa k = some g)) 16))))) 0 0 nF := by
  refine Met.ofW (cc := cX0_isParent) (maxL := 3) (ret := (some .boolean)) (by decide) rfl ?_
  intro p e s m args below meth c s₁ B hml hv
  obtain ⟨rfl, hP, hK⟩ := hv
  have hx := B.exec
  have hb := B.bytes
  have hr := B.returns
  have hts := atoms_spec (ws := wsX0_isParent) B.pre
  have hown : s.vm.findClass RX0 = some m.cls := findClass_of_methodNamed B.named
  have hlocks := B.notSynchronized
  have hl := lv_entry ([.ref h, .int (nI g)]) (n := 3) (Nat.le_of_ble_eq_true rfl)
  rw [lg_entry_eq]
  generalize (lg_sl ([.ref h, .int (nI g)]) ++ List.replicate (3 - (lg_sl ([.ref h, .int (nI g)])).length) Slot.unset).toArray = ls at hl ⊢
  have hl : lv_has ls 3 [(0, .ref h), (1, .int (nI g))] := hl
  refine lv_iconst (v := nI 0) hx hb dX0_isParent_0 (by decide) ?_
  refine lv_istore_n (lv' := [(2, .int (nI 0)), (0, .ref h), (1, .int (nI g))]) hx hb dX0_isParent_1 rfl hl (by decide) rfl (fun ls hl => ?_)
  have loop2 : ∀ (n : Nat) (i : Nat), (i ≤ 16) → (17 ≤ i + n) → (∀ t, t < i → decide (pa t = some g) = false) → ∀ ls : Array Slot, lv_has ls 3 [(0, .ref h), (1, .int (nI g)), (2, .int (nI i))] → W p l e ({ frames := 0, cells := 0, slots := 0, locals := 0 } : Room) s m ([.ref h, .int (nI g)] : List Value).toArray below meth c s.heap [] 0 0 (MQ below (pQ (some (.int (bI (exU (fun k => decide (pa k = some g)) 16))))) ([.ref h, .int (nI g)] : List Value).toArray s 0 0 nF) (F0 m 2 ls []) := by
    intro n
    induction n with
    | zero => intro i hle hn hset; omega
    | succ n ih =>
      intro i hle hn hset ls hl
      refine lv_iload_n hx hb dX0_isParent_2 rfl (lv_at hl 2 rfl) ?_
      refine lv_bipush (v := nI 16) hx hb dX0_isParent_3 (by decide) ?_
      refine q_icmpN_ge (a := i) (b := 16) (tgt := 26) (by omega) (by omega) hx hb dX0_isParent_5 (by decide) (fun k5 => ?_) (fun k5 => ?_)
      · refine lv_iconst (v := nI 0) hx hb dX0_isParent_26 (by decide) ?_
        exact q_retZ hx hb hr hlocks (retF (exU_no.mpr (fun t h9 => hset t (by omega)))) dX0_isParent_27
      · refine lv_aload_n hx hb dX0_isParent_8 rfl (lv_at hl 0 rfl) ?_
        refine va_get (D := D) (ci := 0) (v := .ref (ad 1)) (C := RX0) (T := TX0) (N := 16) hx hb hts (iX0_isParent) hown hK hP 0 rfl rfl 1 (by decide) (hts (.fieldLink RX0 13 "ShopHub" "parents" "[I") (by decide +kernel)) (fun _ h9 => h9) rfl dX0_isParent_9 ?_
        refine lv_iload_n hx hb dX0_isParent_12 rfl (lv_at hl 2 rfl) ?_
        refine q_ald oI pa hx hb hK hP 2 1 rfl rfl (k := i) (by omega) (Nat.le_of_ble_eq_true rfl) dX0_isParent_13 ?_
        refine lv_iload_n hx hb dX0_isParent_14 rfl (lv_at hl 1 rfl) ?_
        refine q_top (y := oI (some g)) ((rfl : nI g = oI (some g))) ?_
        refine q_icmpO_ne (a := pa i) (b := some g) (tgt := 20) (fun k h9 => by have := hpr i (by omega) k h9; omega) (fun k h9 => by cases h9; omega) hx hb dX0_isParent_15 (by decide) (fun k15 => ?_) (fun k15 => ?_)
        · refine lv_iinc (v := nI (i + 1)) (lv' := [(2, .int (nI (i + 1))), (0, .ref h), (1, .int (nI g))]) hx hb dX0_isParent_20 hl (k := 2) rfl (i1_n i) (by decide) rfl (fun ls hl => ?_)
          refine lv_goto (tgt := 2) hx hb dX0_isParent_23 (by decide) ?_
          exact ih (i + 1) (by omega) (by omega) (fun t h9 => (Nat.lt_or_ge t i).elim (hset t) (fun h8 => by rw [show t = i by omega]; exact decide_eq_false k15)) _ (lv_sub hl [1, 2, 0] rfl)
        · refine lv_iconst (v := nI 1) hx hb dX0_isParent_18 (by decide) ?_
          exact q_retZ hx hb hr hlocks (retT (exU_yes (show i < 16 by omega) (decide_eq_true k15))) dX0_isParent_19
  exact loop2 17 0 (by omega) (Nat.le_refl 17) (fun t h9 => absurd h9 (Nat.not_lt_zero t)) _ (lv_sub hl [1, 2, 0] rfl)

set_option maxHeartbeats 4000000 in
set_option maxRecDepth 100000 in
theorem kX0_isPart (l : Launch) (D : va_G) (h : Nat) (ad : Nat → Nat) (cI cZ : ClassId) (ex : Nat → Bool) (pa : Nat → Option Nat) (di : Nat → Nat) (qu : Nat → Nat) (gc : Nat) (dg : Nat → Nat) (dp : Nat → Nat) (dv : Nat → Option Nat) (dd : Nat → Nat) (ds : Nat → Nat) (dc : Nat) (td : Nat) (ho : Nat → Option Nat) (ak : Nat → Bool) (se : Nat → Option Nat) (pr : Nat → Option Nat) (g : Nat) (hg : g < 16) (hqu : ∀ k, k < 256 → qu k ≤ 20) : Met l yX0_isPart wsX0_isPart ({ frames := 0, cells := 0, slots := 0, locals := 0 } : Room) (pP D (hW h ad cI cZ ex pa di qu gc dg dp dv dd ds dc td ho ak se pr) (hT cI cZ) [.ref h, .int (nI g)]) (pQ (some (.int (bI (exU (fun k => decide (0 < qu (k * 16 + g))) 16))))) 0 0 nF := by
  refine Met.ofW (cc := cX0_isPart) (maxL := 3) (ret := (some .boolean)) (by decide) rfl ?_
  intro p e s m args below meth c s₁ B hml hv
  obtain ⟨rfl, hP, hK⟩ := hv
  have hx := B.exec
  have hb := B.bytes
  have hr := B.returns
  have hts := atoms_spec (ws := wsX0_isPart) B.pre
  have hown : s.vm.findClass RX0 = some m.cls := findClass_of_methodNamed B.named
  have hlocks := B.notSynchronized
  have hl := lv_entry ([.ref h, .int (nI g)]) (n := 3) (Nat.le_of_ble_eq_true rfl)
  rw [lg_entry_eq]
  generalize (lg_sl ([.ref h, .int (nI g)]) ++ List.replicate (3 - (lg_sl ([.ref h, .int (nI g)])).length) Slot.unset).toArray = ls at hl ⊢
  have hl : lv_has ls 3 [(0, .ref h), (1, .int (nI g))] := hl
  refine lv_iconst (v := nI 0) hx hb dX0_isPart_0 (by decide) ?_
  refine lv_istore_n (lv' := [(2, .int (nI 0)), (0, .ref h), (1, .int (nI g))]) hx hb dX0_isPart_1 rfl hl (by decide) rfl (fun ls hl => ?_)
  have loop2 : ∀ (n : Nat) (i : Nat), (i ≤ 16) → (17 ≤ i + n) → (∀ t, t < i → decide (0 < qu (t * 16 + g)) = false) → ∀ ls : Array Slot, lv_has ls 3 [(0, .ref h), (1, .int (nI g)), (2, .int (nI i))] → W p l e ({ frames := 0, cells := 0, slots := 0, locals := 0 } : Room) s m ([.ref h, .int (nI g)] : List Value).toArray below meth c s.heap [] 0 0 (MQ below (pQ (some (.int (bI (exU (fun k => decide (0 < qu (k * 16 + g))) 16))))) ([.ref h, .int (nI g)] : List Value).toArray s 0 0 nF) (F0 m 2 ls []) := by
    intro n
    induction n with
    | zero => intro i hle hn hset; omega
    | succ n ih =>
      intro i hle hn hset ls hl
      refine lv_iload_n hx hb dX0_isPart_2 rfl (lv_at hl 2 rfl) ?_
      refine lv_bipush (v := nI 16) hx hb dX0_isPart_3 (by decide) ?_
      refine q_icmpN_ge (a := i) (b := 16) (tgt := 30) (by omega) (by omega) hx hb dX0_isPart_5 (by decide) (fun k5 => ?_) (fun k5 => ?_)
      · refine lv_iconst (v := nI 0) hx hb dX0_isPart_30 (by decide) ?_
        exact q_retZ hx hb hr hlocks (retF (exU_no.mpr (fun t h9 => hset t (by omega)))) dX0_isPart_31
      · refine lv_aload_n hx hb dX0_isPart_8 rfl (lv_at hl 0 rfl) ?_
        refine va_get (D := D) (ci := 0) (v := .ref (ad 3)) (C := RX0) (T := TX0) (N := 16) hx hb hts (iX0_isPart) hown hK hP 0 rfl rfl 3 (by decide) (hts (.fieldLink RX0 20 "ShopHub" "quantities" "[I") (by decide +kernel)) (fun _ h9 => h9) rfl dX0_isPart_9 ?_
        refine lv_iload_n hx hb dX0_isPart_12 rfl (lv_at hl 2 rfl) ?_
        refine lv_bipush (v := nI 16) hx hb dX0_isPart_13 (by decide) ?_
        refine q_mulN (a := i) (b := 16) hx hb dX0_isPart_15 ?_
        refine lv_iload_n hx hb dX0_isPart_16 rfl (lv_at hl 1 rfl) ?_
        refine q_addN (a := i * 16) (b := g) hx hb dX0_isPart_17 ?_
        refine q_ald nI qu hx hb hK hP 4 1 rfl rfl (k := (i * 16) + g) (by omega) (Nat.le_of_ble_eq_true rfl) dX0_isPart_18 ?_
        refine q_ifN_le (a := qu ((i * 16) + g)) (tgt := 24) (by have := hqu (i * 16 + g) (by omega); omega) hx hb dX0_isPart_19 (by decide) (fun k19 => ?_) (fun k19 => ?_)
        · refine lv_iinc (v := nI (i + 1)) (lv' := [(2, .int (nI (i + 1))), (0, .ref h), (1, .int (nI g))]) hx hb dX0_isPart_24 hl (k := 2) rfl (i1_n i) (by decide) rfl (fun ls hl => ?_)
          refine lv_goto (tgt := 2) hx hb dX0_isPart_27 (by decide) ?_
          exact ih (i + 1) (by omega) (by omega) (fun t h9 => (Nat.lt_or_ge t i).elim (hset t) (fun h8 => by rw [show t = i by omega]; exact decide_eq_false (by omega))) _ (lv_sub hl [1, 2, 0] rfl)
        · refine lv_iconst (v := nI 1) hx hb dX0_isPart_22 (by decide) ?_
          exact q_retZ hx hb hr hlocks (retT (exU_yes (show i < 16 by omega) (decide_eq_true k19))) dX0_isPart_23
  exact loop2 17 0 (by omega) (Nat.le_refl 17) (fun t h9 => absurd h9 (Nat.not_lt_zero t)) _ (lv_sub hl [1, 2, 0] rfl)

set_option maxHeartbeats 4000000 in
set_option maxRecDepth 100000 in
theorem kX0_levelsWithin (l : Launch) (D : va_G) (h : Nat) (ad : Nat → Nat) (cI cZ : ClassId) (ex : Nat → Bool) (pa : Nat → Option Nat) (di : Nat → Nat) (qu : Nat → Nat) (gc : Nat) (dg : Nat → Nat) (dp : Nat → Nat) (dv : Nat → Option Nat) (dd : Nat → Nat) (ds : Nat → Nat) (dc : Nat) (td : Nat) (ho : Nat → Option Nat) (ak : Nat → Bool) (se : Nat → Option Nat) (pr : Nat → Option Nat) (t : Nat) (lev : Nat → Nat) (ht : t < 16) (het : ex t = true) (hti : TI ex pa lev) (hpr : PR pa) : Met l yX0_levelsWithin wsX0_levelsWithin ({ frames := 2, cells := 0, slots := 0, locals := 45 } : Room) (pP D (hW h ad cI cZ ex pa di qu gc dg dp dv dd ds dc td ho ak se pr) (hT cI cZ) [.ref h, .int (nI t)]) (pQ (some (.int (zI (((mxd (fun g => wth ex pa t 3 (some g)) lev (lev t) 16 : Nat) : Int) - ((lev t : Nat) : Int) + 1))))) 0 0 nF := by
  refine Met.ofW (cc := cX0_levelsWithin) (maxL := 4) (ret := (some .int)) (by decide) rfl ?_
  intro p e s m args below meth c s₁ B hml hv
  obtain ⟨rfl, hP, hK⟩ := hv
  have hx := B.exec
  have hb := B.bytes
  have hr := B.returns
  have hts := atoms_spec (ws := wsX0_levelsWithin) B.pre
  have hown : s.vm.findClass RX0 = some m.cls := findClass_of_methodNamed B.named
  have hlocks := B.notSynchronized
  have hl := lv_entry ([.ref h, .int (nI t)]) (n := 4) (Nat.le_of_ble_eq_true rfl)
  rw [lg_entry_eq]
  generalize (lg_sl ([.ref h, .int (nI t)]) ++ List.replicate (4 - (lg_sl ([.ref h, .int (nI t)])).length) Slot.unset).toArray = ls at hl ⊢
  have hl : lv_has ls 4 [(0, .ref h), (1, .int (nI t))] := hl
  have hL := TI_le hti ht het
  refine lv_aload_n hx hb dX0_levelsWithin_0 rfl (lv_at hl 0 rfl) ?_
  refine lv_iload_n hx hb dX0_levelsWithin_1 rfl (lv_at hl 1 rfl) ?_
  refine q_callI (r := zI ((lev t : Nat) : Int)) (va_runV (As := [.int (nI t)]) (rest := []) ⟨hx, hb, hml, hown, hts⟩ (kX0_levelOf l D h ad cI cZ ex pa di qu gc dg dp dv dd ds dc td ho ak se pr (some t) lev hti (fun k h9 => by cases h9; exact ⟨ht, het⟩)) (cwV 1 hts gX0_levelsWithin_X0_levelOf rfl rfl rfl (by decide +kernel) ⟨Nat.le_of_ble_eq_true rfl, Nat.le_of_ble_eq_true rfl⟩) ⟨pP_blind, va_recv hK hP (ci := 0) (q0 := 0) rfl rfl, pP_pre hP hK⟩ rfl rfl hl.1 rfl (lv_room (Nat.le_of_ble_eq_true rfl)) dX0_levelsWithin_2 ⟨Nat.zero_le _, Nat.zero_le _⟩) ?_
  refine lv_istore_n (lv' := [(2, .int (zI ((lev t : Nat) : Int))), (0, .ref h), (1, .int (nI t))]) hx hb dX0_levelsWithin_5 rfl hl (by decide) rfl (fun ls hl => ?_)
  refine lv_iconst (v := nI 0) hx hb dX0_levelsWithin_6 (by decide) ?_
  refine lv_istore_n (lv' := [(3, .int (nI 0)), (2, .int (zI ((lev t : Nat) : Int))), (0, .ref h), (1, .int (nI t))]) hx hb dX0_levelsWithin_7 rfl hl (by decide) rfl (fun ls hl => ?_)
  have loop8 : ∀ (n : Nat) (i : Nat) (d : Nat), (i ≤ 16) → (17 ≤ i + n) → (d = mxd (fun g => wth ex pa t 3 (some g)) lev (lev t) i) → (d ≤ 2) → ∀ ls : Array Slot, lv_has ls 4 [(0, .ref h), (1, .int (nI t)), (2, .int (zI ((d : Nat) : Int))), (3, .int (nI i))] → W p l e ({ frames := 2, cells := 0, slots := 0, locals := 45 } : Room) s m ([.ref h, .int (nI t)] : List Value).toArray below meth c s.heap [] 0 0 (MQ below (pQ (some (.int (zI (((mxd (fun g => wth ex pa t 3 (some g)) lev (lev t) 16 : Nat) : Int) - ((lev t : Nat) : Int) + 1))))) ([.ref h, .int (nI t)] : List Value).toArray s 0 0 nF) (F0 m 8 ls []) := by
    intro n
    induction n with
    | zero => intro i d hle hn hset hd2; omega
    | succ n ih =>
      intro i d hle hn hset hd2 ls hl
      refine lv_iload_n hx hb dX0_levelsWithin_8 rfl (lv_at hl 3 rfl) ?_
      refine lv_bipush (v := nI 16) hx hb dX0_levelsWithin_9 (by decide) ?_
      refine q_icmpN_ge (a := i) (b := 16) (tgt := 39) (by omega) (by omega) hx hb dX0_levelsWithin_11 (by decide) (fun k11 => ?_) (fun k11 => ?_)
      · refine lv_iload_n hx hb dX0_levelsWithin_39 rfl (lv_at hl 2 rfl) ?_
        refine lv_aload_n hx hb dX0_levelsWithin_40 rfl (lv_at hl 0 rfl) ?_
        refine lv_iload_n hx hb dX0_levelsWithin_41 rfl (lv_at hl 1 rfl) ?_
        refine q_callI (r := zI ((lev t : Nat) : Int)) (va_runV (As := [.int (nI t)]) (rest := [.int (zI ((d : Nat) : Int))]) ⟨hx, hb, hml, hown, hts⟩ (kX0_levelOf l D h ad cI cZ ex pa di qu gc dg dp dv dd ds dc td ho ak se pr (some t) lev hti (fun k h9 => by cases h9; exact ⟨ht, het⟩)) (cwV 1 hts gX0_levelsWithin_X0_levelOf rfl rfl rfl (by decide +kernel) ⟨Nat.le_of_ble_eq_true rfl, Nat.le_of_ble_eq_true rfl⟩) ⟨pP_blind, va_recv hK hP (ci := 0) (q0 := 0) rfl rfl, pP_pre hP hK⟩ rfl rfl hl.1 rfl (lv_room (Nat.le_of_ble_eq_true rfl)) dX0_levelsWithin_42 ⟨Nat.zero_le _, Nat.zero_le _⟩) ?_
        refine q_subZ (a := ((d : Nat) : Int)) (b := ((lev t : Nat) : Int)) hx hb dX0_levelsWithin_45 ?_
        refine lv_iconst (v := nI 1) hx hb dX0_levelsWithin_46 (by decide) ?_
        refine q_top (y := zI ((1 : Nat) : Int)) (nz 1) ?_
        refine q_addZ (a := ((d : Nat) : Int) - ((lev t : Nat) : Int)) (b := ((1 : Nat) : Int)) hx hb dX0_levelsWithin_47 ?_
        exact q_retI hx hb hr hlocks (by rw [hset, show i = 16 by omega]; rfl) dX0_levelsWithin_48
      · refine lv_aload_n hx hb dX0_levelsWithin_14 rfl (lv_at hl 0 rfl) ?_
        refine lv_iload_n hx hb dX0_levelsWithin_15 rfl (lv_at hl 3 rfl) ?_
        refine lv_iload_n hx hb dX0_levelsWithin_16 rfl (lv_at hl 1 rfl) ?_
        refine q_callI (r := bI (wth ex pa t 3 (some i))) (va_runV (As := [.int (nI i), .int (nI t)]) (rest := []) ⟨hx, hb, hml, hown, hts⟩ (kX0_isWithin l D h ad cI cZ ex pa di qu gc dg dp dv dd ds dc td ho ak se pr (some i) t ht hpr (fun k h9 => by cases h9; omega)) (cwV 2 hts gX0_levelsWithin_X0_isWithin rfl rfl rfl (by decide +kernel) ⟨Nat.le_of_ble_eq_true rfl, Nat.le_of_ble_eq_true rfl⟩) ⟨pP_blind, va_recv hK hP (ci := 0) (q0 := 0) rfl rfl, pP_pre hP hK⟩ rfl rfl hl.1 rfl (lv_room (Nat.le_of_ble_eq_true rfl)) dX0_levelsWithin_17 ⟨Nat.zero_le _, Nat.zero_le _⟩) ?_
        refine q_ifB_eq (b := wth ex pa t 3 (some i)) (tgt := 33) hx hb dX0_levelsWithin_20 (by decide) (fun k20 => ?_) (fun k20 => ?_)
        · refine lv_iinc (v := nI (i + 1)) (lv' := [(3, .int (nI (i + 1))), (0, .ref h), (1, .int (nI t)), (2, .int (zI ((d : Nat) : Int)))]) hx hb dX0_levelsWithin_33 hl (k := 3) rfl (i1_n i) (by decide) rfl (fun ls hl => ?_)
          refine lv_goto (tgt := 8) hx hb dX0_levelsWithin_36 (by decide) ?_
          exact ih (i + 1) d (by omega) (by omega) (by rw [mxd_f (f := (fun g => wth ex pa t 3 (some g))) k20]; exact hset) hd2 _ (lv_sub hl [1, 2, 3, 0] rfl)
        · have hex := wth_ex k20
          have hi2 := TI_le hti (show i < 16 by omega) hex
          refine lv_iload_n hx hb dX0_levelsWithin_23 rfl (lv_at hl 2 rfl) ?_
          refine lv_aload_n hx hb dX0_levelsWithin_24 rfl (lv_at hl 0 rfl) ?_
          refine lv_iload_n hx hb dX0_levelsWithin_25 rfl (lv_at hl 3 rfl) ?_
          refine q_callI (r := zI ((lev i : Nat) : Int)) (va_runV (As := [.int (nI i)]) (rest := [.int (zI ((d : Nat) : Int))]) ⟨hx, hb, hml, hown, hts⟩ (kX0_levelOf l D h ad cI cZ ex pa di qu gc dg dp dv dd ds dc td ho ak se pr (some i) lev hti (fun k h9 => by cases h9; exact ⟨by omega, hex⟩)) (cwV 1 hts gX0_levelsWithin_X0_levelOf rfl rfl rfl (by decide +kernel) ⟨Nat.le_of_ble_eq_true rfl, Nat.le_of_ble_eq_true rfl⟩) ⟨pP_blind, va_recv hK hP (ci := 0) (q0 := 0) rfl rfl, pP_pre hP hK⟩ rfl rfl hl.1 rfl (lv_room (Nat.le_of_ble_eq_true rfl)) dX0_levelsWithin_26 ⟨Nat.zero_le _, Nat.zero_le _⟩) ?_
          refine va_mmax hx hb (hml.trans hl.1.symm) hown (hts (.methodLink RX0 129 Lib.Math.max.name) (by decide +kernel)) (hts (.static Lib.Math.max.name) (by decide +kernel)) (hts (.initialized "java/lang/Math") (by decide +kernel)) (hts (.code Lib.Math.max.name Lib.Math.max.code 2 (some .int)) (by decide +kernel)) (Nat.le_of_ble_eq_true rfl) (Nat.le_of_ble_eq_true rfl) (Nat.le_of_ble_eq_true rfl) (Nat.le_of_ble_eq_true rfl) dX0_levelsWithin_29 ?_
          refine q_top (y := zI ((max d (lev i) : Nat) : Int)) (zmax hd2 hi2) ?_
          refine lv_istore_n (lv' := [(2, .int (zI ((max d (lev i) : Nat) : Int))), (0, .ref h), (1, .int (nI t)), (3, .int (nI i))]) hx hb dX0_levelsWithin_32 rfl hl (by decide) rfl (fun ls hl => ?_)
          refine lv_iinc (v := nI (i + 1)) (lv' := [(3, .int (nI (i + 1))), (2, .int (zI ((max d (lev i) : Nat) : Int))), (0, .ref h), (1, .int (nI t))]) hx hb dX0_levelsWithin_33 hl (k := 3) rfl (i1_n i) (by decide) rfl (fun ls hl => ?_)
          refine lv_goto (tgt := 8) hx hb dX0_levelsWithin_36 (by decide) ?_
          exact ih (i + 1) (max d (lev i)) (by omega) (by omega) (by rw [mxd_t (f := (fun g => wth ex pa t 3 (some g))) k20, ← hset]) (Nat.max_le.mpr ⟨hd2, hi2⟩) _ (lv_sub hl [2, 3, 1, 0] rfl)
  exact loop8 17 0 (lev t) (by omega) (Nat.le_refl 17) rfl hL _ (lv_sub hl [2, 3, 1, 0] rfl)

set_option maxHeartbeats 4000000 in
set_option maxRecDepth 100000 in
theorem kX0_sumUpParts (l : Launch) (D : va_G) (h : Nat) (ad : Nat → Nat) (cI cZ : ClassId) (ex : Nat → Bool) (pa : Nat → Option Nat) (di : Nat → Nat) (qu : Nat → Nat) (gc : Nat) (dg : Nat → Nat) (dp : Nat → Nat) (dv : Nat → Option Nat) (dd : Nat → Nat) (ds : Nat → Nat) (dc : Nat) (td : Nat) (ho : Nat → Option Nat) (ak : Nat → Bool) (se : Nat → Option Nat) (pr : Nat → Option Nat) (g : Nat) (hg : g < 16) (hqu : ∀ k, k < 256 → qu k ≤ 20) (hdi : ∀ k, k < 16 → di k ≤ 100) (hpb : ∀ k, k < 16 → ∀ v, pr k = some v → v ≤ 1000000000) : Met l yX0_sumUpParts wsX0_sumUpParts ({ frames := 0, cells := 0, slots := 0, locals := 0 } : Room) (pP D (hW h ad cI cZ ex pa di qu gc dg dp dv dd ds dc td ho ak se pr) (hT cI cZ) [.ref h, .int (nI g)]) (pQ (some (.int (oI (bnd qu pr di g))))) 0 0 nF := by
  refine Met.ofW (cc := cX0_sumUpParts) (maxL := 7) (ret := (some .int)) (by decide) rfl ?_
  intro p e s m args below meth c s₁ B hml hv
  obtain ⟨rfl, hP, hK⟩ := hv
  have hx := B.exec
  have hb := B.bytes
  have hr := B.returns
  have hts := atoms_spec (ws := wsX0_sumUpParts) B.pre
  have hown : s.vm.findClass RX0 = some m.cls := findClass_of_methodNamed B.named
  have hlocks := B.notSynchronized
  have hl := lv_entry ([.ref h, .int (nI g)]) (n := 7) (Nat.le_of_ble_eq_true rfl)
  rw [lg_entry_eq]
  generalize (lg_sl ([.ref h, .int (nI g)]) ++ List.replicate (7 - (lg_sl ([.ref h, .int (nI g)])).length) Slot.unset).toArray = ls at hl ⊢
  have hl : lv_has ls 7 [(0, .ref h), (1, .int (nI g))] := hl
  have hDg := hdi g hg
  refine lv_iconst (v := nI 0) hx hb dX0_sumUpParts_0 (by decide) ?_
  refine q_top (y := bI false) ((by decide : nI 0 = bI false)) ?_
  refine lv_istore_n (lv' := [(2, .int (bI false)), (0, .ref h), (1, .int (nI g))]) hx hb dX0_sumUpParts_1 rfl hl (by decide) rfl (fun ls hl => ?_)
  refine lv_lconst (v := lN 0) hx hb dX0_sumUpParts_2 (by decide) ?_
  refine lv_lstore_n (lv' := [(3, .long (lN 0)), (2, .int (bI false)), (0, .ref h), (1, .int (nI g))]) hx hb dX0_sumUpParts_3 rfl hl (by decide) rfl (fun ls hl => ?_)
  refine lv_iconst (v := nI 0) hx hb dX0_sumUpParts_4 (by decide) ?_
  refine lv_istore (lv' := [(5, .int (nI 0)), (3, .long (lN 0)), (2, .int (bI false)), (0, .ref h), (1, .int (nI g))]) hx hb dX0_sumUpParts_5 hl (by decide) rfl (fun ls hl => ?_)
  have loop7 : ∀ (n : Nat) (i : Nat) (b : Bool) (sm : Nat), (i ≤ g) → (g + 1 ≤ i + n) → (b = exU (pos qu g) i) → (sm = psm qu pr g i) → (∀ t, t < i → nop qu pr g t = false) → ∀ ls : Array Slot, lv_has ls 7 [(0, .ref h), (1, .int (nI g)), (2, .int (bI b)), (3, .long (lN sm)), (5, .int (nI i))] → W p l e ({ frames := 0, cells := 0, slots := 0, locals := 0 } : Room) s m ([.ref h, .int (nI g)] : List Value).toArray below meth c s.heap [] 0 0 (MQ below (pQ (some (.int (oI (bnd qu pr di g))))) ([.ref h, .int (nI g)] : List Value).toArray s 0 0 nF) (F0 m 7 ls []) := by
    intro n
    induction n with
    | zero => intro i b sm hle hn hb1 hs1 hset; omega
    | succ n ih =>
      intro i b sm hle hn hb1 hs1 hset ls hl
      have hSm : sm ≤ i * 20000000000 := by rw [hs1]; exact psm_le hqu hpb hg i (by omega)
      refine lv_iload hx hb dX0_sumUpParts_7 (lv_at hl 4 rfl) ?_
      refine lv_iload_n hx hb dX0_sumUpParts_9 rfl (lv_at hl 1 rfl) ?_
      refine q_icmpN_ge (a := i) (b := g) (tgt := 68) (by omega) (by omega) hx hb dX0_sumUpParts_10 (by decide) (fun k10 => ?_) (fun k10 => ?_)
      · have hig : i = g := by omega
        have hb2 : b = exU (pos qu g) g := by rw [hb1, hig]
        have hs2 : sm = psm qu pr g g := by rw [hs1, hig]
        have hno : ¬ exU (nop qu pr g) g = true := by rw [exU_no.mpr (fun t h9 => hset t (by omega))]; decide
        refine lv_lload_n hx hb dX0_sumUpParts_68 rfl (lv_at hl 3 rfl) ?_
        refine lv_bipush (v := nI 100) hx hb dX0_sumUpParts_69 (by decide) ?_
        refine lv_aload_n hx hb dX0_sumUpParts_71 rfl (lv_at hl 0 rfl) ?_
        refine va_get (D := D) (ci := 0) (v := .ref (ad 2)) (C := RX0) (T := TX0) (N := 16) hx hb hts (iX0_sumUpParts) hown hK hP 0 rfl rfl 2 (by decide) (hts (.fieldLink RX0 17 "ShopHub" "discounts" "[I") (by decide +kernel)) (fun _ h9 => h9) rfl dX0_sumUpParts_72 ?_
        refine lv_iload_n hx hb dX0_sumUpParts_75 rfl (lv_at hl 1 rfl) ?_
        refine q_ald nI di hx hb hK hP 3 1 rfl rfl (k := g) (by omega) (Nat.le_of_ble_eq_true rfl) dX0_sumUpParts_76 ?_
        refine q_subN (a := 100) (b := di g) (by omega) hx hb dX0_sumUpParts_77 ?_
        refine lv_i2l (v := (lN (100 - (di g)))) hx hb dX0_sumUpParts_78 (nI_l (by omega)) ?_
        refine lv_lmul hx hb dX0_sumUpParts_79 ?_
        refine q_topL (y := (lN (sm * (100 - (di g))))) (lN_mul _ _) ?_
        refine lv_ldc2 (v := 100) hx hb hown (hts (.constantLong RX0 211 (100)) (by decide +kernel)) dX0_sumUpParts_80 ?_
        refine q_topL (y := (lN 100)) (by decide) ?_
        refine lv_ldiv hx hb dX0_sumUpParts_83 (by decide) ?_
        refine q_topL (y := (lN ((sm * (100 - di g)) / 100))) (pk_lDiv (by have : sm * (100 - di g) ≤ sm * 100 := Nat.mul_le_mul_left sm (by omega); omega) (by decide) (by decide)) ?_
        refine lv_lstore (lv' := [(5, .long (lN ((sm * (100 - di g)) / 100))), (0, .ref h), (1, .int (nI g)), (2, .int (bI b)), (3, .long (lN sm))]) hx hb dX0_sumUpParts_84 hl (by decide) rfl (fun ls hl => ?_)
        refine lv_iload_n hx hb dX0_sumUpParts_86 rfl (lv_at hl 3 rfl) ?_
        refine q_ifB_eq (b := b) (tgt := 105) hx hb dX0_sumUpParts_87 (by decide) (fun k87 => ?_) (fun k87 => ?_)
        · refine lv_iconst (v := oI none) hx hb dX0_sumUpParts_105 (by decide) ?_
          exact q_retI hx hb hr hlocks (by unfold bnd; rw [if_neg hno, if_neg (fun z => by rw [← hb2, k87] at z; cases z.1)]) dX0_sumUpParts_106
        · refine lv_lload hx hb dX0_sumUpParts_90 (lv_at hl 0 rfl) ?_
          refine lv_ldc2 (v := 1000000000) hx hb hown (hts (.constantLong RX0 213 (1000000000)) (by decide +kernel)) dX0_sumUpParts_92 ?_
          refine q_topL (y := (lN 1000000000)) (by decide) ?_
          refine W.lcmp hx hb dX0_sumUpParts_95 ?_
          refine q_top (y := lg_cmp (lN (sm * (100 - di g) / 100)) (lN 1000000000)) (rfl) ?_
          refine lv_if_gt (tgt := 105) hx hb dX0_sumUpParts_96 (by decide) (fun k96 => ?_) (fun k96 => ?_)
          · have k97 := (pk_lLT (by decide) (by have := @dsc_le sm (di g); omega)).mp ((lg_cmp_gt _ _).mp k96)
            refine lv_iconst (v := oI none) hx hb dX0_sumUpParts_105 (by decide) ?_
            exact q_retI hx hb hr hlocks (by unfold bnd; rw [if_neg hno, if_neg (fun z => by rw [← hs2] at z; omega)]) dX0_sumUpParts_106
          · have k97 := Nat.le_of_not_lt (fun e9 => k96 ((lg_cmp_gt _ _).mpr ((pk_lLT (by decide) (by have := @dsc_le sm (di g); omega)).mpr e9)))
            refine lv_lload hx hb dX0_sumUpParts_99 (lv_at hl 0 rfl) ?_
            refine lv_l2i (v := nI (sm * (100 - di g) / 100)) hx hb dX0_sumUpParts_101 (lN_i _) ?_
            refine lv_goto (tgt := 106) hx hb dX0_sumUpParts_102 (by decide) ?_
            exact q_retI hx hb hr hlocks (by unfold bnd; rw [if_neg hno, if_pos ⟨by rw [← hb2]; exact k87, by rw [← hs2]; exact k97⟩, ← hs2]; rfl) dX0_sumUpParts_106
      · refine lv_aload_n hx hb dX0_sumUpParts_13 rfl (lv_at hl 0 rfl) ?_
        refine va_get (D := D) (ci := 0) (v := .ref (ad 3)) (C := RX0) (T := TX0) (N := 16) hx hb hts (iX0_sumUpParts) hown hK hP 0 rfl rfl 3 (by decide) (hts (.fieldLink RX0 20 "ShopHub" "quantities" "[I") (by decide +kernel)) (fun _ h9 => h9) rfl dX0_sumUpParts_14 ?_
        refine lv_iload_n hx hb dX0_sumUpParts_17 rfl (lv_at hl 1 rfl) ?_
        refine lv_bipush (v := nI 16) hx hb dX0_sumUpParts_18 (by decide) ?_
        refine q_mulN (a := g) (b := 16) hx hb dX0_sumUpParts_20 ?_
        refine lv_iload hx hb dX0_sumUpParts_21 (lv_at hl 4 rfl) ?_
        refine q_addN (a := g * 16) (b := i) hx hb dX0_sumUpParts_23 ?_
        refine q_ald nI qu hx hb hK hP 4 1 rfl rfl (k := (g * 16) + i) (by omega) (Nat.le_of_ble_eq_true rfl) dX0_sumUpParts_24 ?_
        refine lv_istore (lv' := [(6, .int (nI (qu ((g * 16) + i)))), (0, .ref h), (1, .int (nI g)), (2, .int (bI b)), (3, .long (lN sm)), (5, .int (nI i))]) hx hb dX0_sumUpParts_25 hl (by decide) rfl (fun ls hl => ?_)
        refine lv_iload hx hb dX0_sumUpParts_27 (lv_at hl 0 rfl) ?_
        refine q_ifN_le (a := qu ((g * 16) + i)) (tgt := 62) (by have := hqu (g * 16 + i) (by omega); omega) hx hb dX0_sumUpParts_29 (by decide) (fun k29 => ?_) (fun k29 => ?_)
        · refine lv_iinc (v := nI (i + 1)) (lv' := [(5, .int (nI (i + 1))), (6, .int (nI (qu ((g * 16) + i)))), (0, .ref h), (1, .int (nI g)), (2, .int (bI b)), (3, .long (lN sm))]) hx hb dX0_sumUpParts_62 hl (k := 5) rfl (i1_n i) (by decide) rfl (fun ls hl => ?_)
          refine lv_goto (tgt := 7) hx hb dX0_sumUpParts_65 (by decide) ?_
          exact ih (i + 1) b sm (by omega) (by omega) (by rw [exU_s (show pos qu g i = false from decide_eq_false (by omega))]; exact hb1) (by rw [psm_0 k29]; exact hs1) (fun t h9 => (Nat.lt_or_ge t i).elim (hset t) (fun h8 => by rw [show t = i by omega]; unfold nop; rw [decide_eq_false (by omega), Bool.false_and])) _ (lv_sub hl [2, 3, 4, 5, 0] rfl)
        · have hq20 := hqu (g * 16 + i) (by omega)
          refine lv_aload_n hx hb dX0_sumUpParts_32 rfl (lv_at hl 1 rfl) ?_
          refine va_get (D := D) (ci := 0) (v := .ref (ad 15)) (C := RX0) (T := TX0) (N := 16) hx hb hts (iX0_sumUpParts) hown hK hP 0 rfl rfl 15 (by decide) (hts (.fieldLink RX0 57 "ShopHub" "prices" "[I") (by decide +kernel)) (fun _ h9 => h9) rfl dX0_sumUpParts_33 ?_
          refine lv_iload hx hb dX0_sumUpParts_36 (lv_at hl 5 rfl) ?_
          refine q_ald oI pr hx hb hK hP 13 1 rfl rfl (k := i) (by omega) (Nat.le_of_ble_eq_true rfl) dX0_sumUpParts_38 ?_
          refine lv_iconst (v := oI none) hx hb dX0_sumUpParts_39 (by decide) ?_
          refine q_icmpO_ne (a := pr i) (b := none) (tgt := 45) (fun k h9 => by have := hpb i (by omega) k h9; omega) (fun k h9 => by cases h9) hx hb dX0_sumUpParts_40 (by decide) (fun k40 => ?_) (fun k40 => ?_)
          · obtain ⟨v, hv⟩ : ∃ v, pr i = some v := Option.ne_none_iff_exists'.mp k40
            have hv9 := hpb i (by omega) v hv
            refine lv_iconst (v := nI 1) hx hb dX0_sumUpParts_45 (by decide) ?_
            refine q_top (y := bI true) ((by decide : nI 1 = bI true)) ?_
            refine lv_istore_n (lv' := [(2, .int (bI true)), (6, .int (nI (qu ((g * 16) + i)))), (0, .ref h), (1, .int (nI g)), (3, .long (lN sm)), (5, .int (nI i))]) hx hb dX0_sumUpParts_46 rfl hl (by decide) rfl (fun ls hl => ?_)
            refine lv_lload_n hx hb dX0_sumUpParts_47 rfl (lv_at hl 4 rfl) ?_
            refine lv_aload_n hx hb dX0_sumUpParts_48 rfl (lv_at hl 2 rfl) ?_
            refine va_get (D := D) (ci := 0) (v := .ref (ad 15)) (C := RX0) (T := TX0) (N := 16) hx hb hts (iX0_sumUpParts) hown hK hP 0 rfl rfl 15 (by decide) (hts (.fieldLink RX0 57 "ShopHub" "prices" "[I") (by decide +kernel)) (fun _ h9 => h9) rfl dX0_sumUpParts_49 ?_
            refine lv_iload hx hb dX0_sumUpParts_52 (lv_at hl 5 rfl) ?_
            refine q_ald oI pr hx hb hK hP 13 1 rfl rfl (k := i) (by omega) (Nat.le_of_ble_eq_true rfl) dX0_sumUpParts_54 ?_
            refine q_top (y := nI v) (by rw [hv]; rfl) ?_
            refine lv_i2l (v := (lN v)) hx hb dX0_sumUpParts_55 (nI_l (by omega)) ?_
            refine lv_iload hx hb dX0_sumUpParts_56 (lv_at hl 1 rfl) ?_
            refine lv_i2l (v := (lN (qu ((g * 16) + i)))) hx hb dX0_sumUpParts_58 (nI_l (by omega)) ?_
            refine lv_lmul hx hb dX0_sumUpParts_59 ?_
            refine q_topL (y := (lN (v * (qu ((g * 16) + i))))) (lN_mul _ _) ?_
            refine lv_ladd hx hb dX0_sumUpParts_60 ?_
            refine q_topL (y := (lN (sm + (v * (qu ((g * 16) + i)))))) (lN_add _ _) ?_
            refine lv_lstore_n (lv' := [(3, .long (lN (sm + (v * (qu ((g * 16) + i)))))), (2, .int (bI true)), (6, .int (nI (qu ((g * 16) + i)))), (0, .ref h), (1, .int (nI g)), (5, .int (nI i))]) hx hb dX0_sumUpParts_61 rfl hl (by decide) rfl (fun ls hl => ?_)
            refine lv_iinc (v := nI (i + 1)) (lv' := [(5, .int (nI (i + 1))), (3, .long (lN (sm + (v * (qu ((g * 16) + i)))))), (2, .int (bI true)), (6, .int (nI (qu ((g * 16) + i)))), (0, .ref h), (1, .int (nI g))]) hx hb dX0_sumUpParts_62 hl (k := 5) rfl (i1_n i) (by decide) rfl (fun ls hl => ?_)
            refine lv_goto (tgt := 7) hx hb dX0_sumUpParts_65 (by decide) ?_
            exact ih (i + 1) true (sm + v * qu (g * 16 + i)) (by omega) (by omega) ((exU_t (show pos qu g i = true from decide_eq_true k29)).symm) (by rw [psm_s hv, ← hs1]) (fun t h9 => (Nat.lt_or_ge t i).elim (hset t) (fun h8 => by rw [show t = i by omega]; unfold nop; rw [decide_eq_false k40, Bool.and_false])) _ (lv_sub hl [4, 5, 2, 1, 0] rfl)
          · refine lv_iconst (v := oI none) hx hb dX0_sumUpParts_43 (by decide) ?_
            exact q_retI hx hb hr hlocks (by unfold bnd; rw [if_pos (exU_yes (show i < g by omega) (show nop qu pr g i = true by unfold nop; rw [decide_eq_true k29, decide_eq_true k40]; rfl))]) dX0_sumUpParts_44
  exact loop7 (g + 1) 0 false 0 (by omega) (by omega) rfl rfl (fun t h9 => absurd h9 (Nat.not_lt_zero t)) _ (lv_sub hl [3, 4, 2, 1, 0] rfl)

set_option maxHeartbeats 4000000 in
set_option maxRecDepth 100000 in
theorem kX0_findPrice (l : Launch) (D : va_G) (h : Nat) (ad : Nat → Nat) (cI cZ : ClassId) (ex : Nat → Bool) (pa : Nat → Option Nat) (di : Nat → Nat) (qu : Nat → Nat) (gc : Nat) (dg : Nat → Nat) (dp : Nat → Nat) (dv : Nat → Option Nat) (dd : Nat → Nat) (ds : Nat → Nat) (dc : Nat) (td : Nat) (ho : Nat → Option Nat) (ak : Nat → Bool) (se : Nat → Option Nat) (pr : Nat → Option Nat) (sz : Nat) (g sp : Nat) (hg : g < 16) (hs : sp < 3) (hpr : PR pa) (hho : HO ho dc) (hdc : dc ≤ 200) (hdv : DV dv dc) (hqu : ∀ k, k < 256 → qu k ≤ 20) (hdi : ∀ k, k < 16 → di k ≤ 100) (hpb : ∀ k, k < 16 → ∀ v, pr k = some v → v ≤ 1000000000) : Met l yX0_findPrice wsX0_findPrice ({ frames := 4, cells := 0, slots := 0, locals := 102 } : Room) (wP D (hW h ad cI cZ ex pa di qu gc dg dp dv dd ds dc td ho ak se pr) (hT cI cZ) [.ref h, .int (nI g), .int (nI sp)] sz) (wQ D (hW h ad cI cZ ex pa di qu gc dg dp dv dd ds dc td ho ak se pr) (hW h ad cI cZ ex pa di qu gc dg dp dv dd ds dc td ho ak se (prs (vlu ex pa ho dv 0 (sp + 1) (0 + 1)) qu di pr (g + 1))) (some (.int (oI (prs (vlu ex pa ho dv 0 (sp + 1) (0 + 1)) qu di pr (g + 1) g))))) 0 0 (va_A (hW h ad cI cZ ex pa di qu gc dg dp dv dd ds dc td ho ak se pr) sz) := by
  refine Met.ofW (cc := cX0_findPrice) (maxL := 5) (ret := (some .int)) (by decide) rfl ?_
  intro p e s m args below meth c s₁ B hml hv
  obtain ⟨rfl, hsz, hP, hK, hD0⟩ := hv
  have hx := B.exec
  have hb := B.bytes
  have hr := B.returns
  have hts := atoms_spec (ws := wsX0_findPrice) B.pre
  have hown : s.vm.findClass RX0 = some m.cls := findClass_of_methodNamed B.named
  have hlocks := B.notSynchronized
  subst hsz
  have hD := hD0.self (sz := s.heap.size)
  generalize hAe : va_A (hW h ad cI cZ ex pa di qu gc dg dp dv dd ds dc td ho ak se pr) s.heap.size = A at hD ⊢
  have hA : ∀ q : Nat, s.heap.size ≤ q → A q := fun q h => by rw [← hAe]; exact Or.inr h
  have hS : va_S A s.heap s.heap [] := va_S.rf
  have hl := lv_entry ([.ref h, .int (nI g), .int (nI sp)]) (n := 5) (Nat.le_of_ble_eq_true rfl)
  rw [lg_entry_eq]
  generalize (lg_sl ([.ref h, .int (nI g), .int (nI sp)]) ++ List.replicate (5 - (lg_sl ([.ref h, .int (nI g), .int (nI sp)])).length) Slot.unset).toArray = ls at hl ⊢
  have hl : lv_has ls 5 [(0, .ref h), (1, .int (nI g)), (2, .int (nI sp))] := hl
  have hvb : ∀ k, k < 16 → ∀ v, (vlu ex pa ho dv 0 (sp + 1) (0 + 1)) k = some v → v ≤ 100000 := fun k hk => vlu_in hho hpr hdv hk (by omega) (show sp + 1 < 4 by omega) (by omega)
  refine lv_iconst (v := nI 0) hx hb dX0_findPrice_0 (by decide) ?_
  refine lv_istore_n (lv' := [(3, .int (nI 0)), (0, .ref h), (1, .int (nI g)), (2, .int (nI sp))]) hx hb dX0_findPrice_1 rfl hl (by decide) rfl (fun ls hl => ?_)
  have loop2 : ∀ (n : Nat) (i : Nat), (i ≤ g + 1) → (g + 2 ≤ i + n) → ∀ (H : Heap) (locs : List Loc), va_P D vwCl (hW h ad cI cZ ex pa di qu gc dg dp dv dd ds dc td ho ak se (prs (vlu ex pa ho dv 0 (sp + 1) (0 + 1)) qu di pr i)) H → va_D A (hW h ad cI cZ ex pa di qu gc dg dp dv dd ds dc td ho ak se (prs (vlu ex pa ho dv 0 (sp + 1) (0 + 1)) qu di pr i)) → va_S A s.heap H locs → ∀ ls : Array Slot, lv_has ls 5 [(0, .ref h), (1, .int (nI g)), (2, .int (nI sp)), (3, .int (nI i))] → W p l e ({ frames := 4, cells := 0, slots := 0, locals := 102 } : Room) s m ([.ref h, .int (nI g), .int (nI sp)] : List Value).toArray below meth c H locs 0 0 (MQ below (wQ D (hW h ad cI cZ ex pa di qu gc dg dp dv dd ds dc td ho ak se pr) (hW h ad cI cZ ex pa di qu gc dg dp dv dd ds dc td ho ak se (prs (vlu ex pa ho dv 0 (sp + 1) (0 + 1)) qu di pr (g + 1))) (some (.int (oI (prs (vlu ex pa ho dv 0 (sp + 1) (0 + 1)) qu di pr (g + 1) g))))) ([.ref h, .int (nI g), .int (nI sp)] : List Value).toArray s 0 0 A) (F0 m 2 ls []) := by
    intro n
    induction n with
    | zero => intro i hle hn; omega
    | succ n ih =>
      intro i hle hn H locs hP hD hS ls hl
      refine lv_iload_n hx hb dX0_findPrice_2 rfl (lv_at hl 3 rfl) ?_
      refine lv_iload_n hx hb dX0_findPrice_3 rfl (lv_at hl 1 rfl) ?_
      refine q_icmpN_gt (a := i) (b := g) (tgt := 45) (by omega) (by omega) hx hb dX0_findPrice_4 (by decide) (fun k4 => ?_) (fun k4 => ?_)
      · refine lv_aload_n hx hb dX0_findPrice_45 rfl (lv_at hl 0 rfl) ?_
        refine va_get (D := D) (ci := 0) (v := .ref (ad 15)) (C := RX0) (T := TX0) (N := 16) hx hb hts (iX0_findPrice) hown hK hP 0 rfl rfl 15 (by decide) (hts (.fieldLink RX0 57 "ShopHub" "prices" "[I") (by decide +kernel)) (fun _ h9 => h9) rfl dX0_findPrice_46 ?_
        refine lv_iload_n hx hb dX0_findPrice_49 rfl (lv_at hl 1 rfl) ?_
        refine q_ald oI (prs (vlu ex pa ho dv 0 (sp + 1) (0 + 1)) qu di pr i) hx hb hK hP 13 1 rfl rfl (k := g) (hg) (Nat.le_of_ble_eq_true rfl) dX0_findPrice_50 ?_
        have hP : va_P D vwCl (hW h ad cI cZ ex pa di qu gc dg dp dv dd ds dc td ho ak se (prs (vlu ex pa ho dv 0 (sp + 1) (0 + 1)) qu di pr (g + 1))) H := by rw [show prs (vlu ex pa ho dv 0 (sp + 1) (0 + 1)) qu di pr (g + 1) = prs (vlu ex pa ho dv 0 (sp + 1) (0 + 1)) qu di pr i from by rw [show i = g + 1 by omega]]; exact hP
        exact q_wretI hx hb hr hlocks hAe hP hS (by rw [show i = g + 1 by omega]) dX0_findPrice_51
      · refine lv_aload_n hx hb dX0_findPrice_7 rfl (lv_at hl 0 rfl) ?_
        refine lv_iload_n hx hb dX0_findPrice_8 rfl (lv_at hl 3 rfl) ?_
        refine lv_iconst (v := nI 0) hx hb dX0_findPrice_9 (by decide) ?_
        refine lv_iload_n hx hb dX0_findPrice_10 rfl (lv_at hl 2 rfl) ?_
        refine lv_iconst (v := nI 0) hx hb dX0_findPrice_11 (by decide) ?_
        refine q_callI (r := oI ((vlu ex pa ho dv 0 (sp + 1) (0 + 1)) i)) (va_runV (As := [.int (nI i), .int (nI 0), .int (nI sp), .int (nI 0)]) (rest := []) ⟨hx, hb, hml, hown, hts⟩ (kX0_findValue l D h ad cI cZ ex pa di qu gc dg dp dv dd ds dc td ho ak se (prs (vlu ex pa ho dv 0 (sp + 1) (0 + 1)) qu di pr i) i 0 sp 0 (by omega) (by omega) hs (by omega) hpr hho hdc) (cwV 4 hts gX0_findPrice_X0_findValue rfl rfl rfl (by decide +kernel) ⟨Nat.le_of_ble_eq_true rfl, Nat.le_of_ble_eq_true rfl⟩) ⟨pP_blind, va_recv hK hP (ci := 0) (q0 := 0) rfl rfl, pP_pre hP hK⟩ rfl rfl hl.1 rfl (lv_room (Nat.le_of_ble_eq_true rfl)) dX0_findPrice_12 ⟨Nat.zero_le _, Nat.zero_le _⟩) ?_
        refine lv_istore (lv' := [(4, .int (oI ((vlu ex pa ho dv 0 (sp + 1) (0 + 1)) i))), (0, .ref h), (1, .int (nI g)), (2, .int (nI sp)), (3, .int (nI i))]) hx hb dX0_findPrice_15 hl (by decide) rfl (fun ls hl => ?_)
        refine lv_aload_n hx hb dX0_findPrice_17 rfl (lv_at hl 1 rfl) ?_
        refine va_get (D := D) (ci := 0) (v := .ref (ad 15)) (C := RX0) (T := TX0) (N := 16) hx hb hts (iX0_findPrice) hown hK hP 0 rfl rfl 15 (by decide) (hts (.fieldLink RX0 57 "ShopHub" "prices" "[I") (by decide +kernel)) (fun _ h9 => h9) rfl dX0_findPrice_18 ?_
        refine lv_iload_n hx hb dX0_findPrice_21 rfl (lv_at hl 4 rfl) ?_
        refine lv_iload hx hb dX0_findPrice_22 (lv_at hl 0 rfl) ?_
        refine lv_iconst (v := oI none) hx hb dX0_findPrice_24 (by decide) ?_
        refine q_icmpO_ne (a := (vlu ex pa ho dv 0 (sp + 1) (0 + 1)) i) (b := none) (tgt := 36) (fun k h9 => by have := hvb i (by omega) k h9; omega) (fun k h9 => by cases h9) hx hb dX0_findPrice_25 (by decide) (fun k25 => ?_) (fun k25 => ?_)
        · refine lv_iload hx hb dX0_findPrice_36 (lv_at hl 0 rfl) ?_
          refine q_ast oI (prs (vlu ex pa ho dv 0 (sp + 1) (0 + 1)) qu di pr i) ((vlu ex pa ho dv 0 (sp + 1) (0 + 1)) i) hx hb hK hP hD hS 13 1 rfl rfl (k := i) (by omega) (Nat.le_of_ble_eq_true rfl) dX0_findPrice_38 (fun H locs hP hD hS => ?_)
          have hP : va_P D vwCl (hW h ad cI cZ ex pa di qu gc dg dp dv dd ds dc td ho ak se (va_up (prs (vlu ex pa ho dv 0 (sp + 1) (0 + 1)) qu di pr i) i ((vlu ex pa ho dv 0 (sp + 1) (0 + 1)) i))) H := hP
          have hD : va_D A (hW h ad cI cZ ex pa di qu gc dg dp dv dd ds dc td ho ak se (va_up (prs (vlu ex pa ho dv 0 (sp + 1) (0 + 1)) qu di pr i) i ((vlu ex pa ho dv 0 (sp + 1) (0 + 1)) i))) := hD
          refine lv_iinc (v := nI (i + 1)) (lv' := [(3, .int (nI (i + 1))), (4, .int (oI ((vlu ex pa ho dv 0 (sp + 1) (0 + 1)) i))), (0, .ref h), (1, .int (nI g)), (2, .int (nI sp))]) hx hb dX0_findPrice_39 hl (k := 4) rfl (i1_n i) (by decide) rfl (fun ls hl => ?_)
          refine lv_goto (tgt := 2) hx hb dX0_findPrice_42 (by decide) ?_
          have hP : va_P D vwCl (hW h ad cI cZ ex pa di qu gc dg dp dv dd ds dc td ho ak se (prs (vlu ex pa ho dv 0 (sp + 1) (0 + 1)) qu di pr (i + 1))) H := by rw [show prs (vlu ex pa ho dv 0 (sp + 1) (0 + 1)) qu di pr (i + 1) = va_up (prs (vlu ex pa ho dv 0 (sp + 1) (0 + 1)) qu di pr i) i ((vlu ex pa ho dv 0 (sp + 1) (0 + 1)) i) from prs_v k25]; exact hP
          have hD : va_D A (hW h ad cI cZ ex pa di qu gc dg dp dv dd ds dc td ho ak se (prs (vlu ex pa ho dv 0 (sp + 1) (0 + 1)) qu di pr (i + 1))) := by rw [show prs (vlu ex pa ho dv 0 (sp + 1) (0 + 1)) qu di pr (i + 1) = va_up (prs (vlu ex pa ho dv 0 (sp + 1) (0 + 1)) qu di pr i) i ((vlu ex pa ho dv 0 (sp + 1) (0 + 1)) i) from prs_v k25]; exact hD
          exact ih (i + 1) (by omega) (by omega) _ _ hP hD hS _ (lv_sub hl [2, 3, 4, 0] rfl)
        · refine lv_aload_n hx hb dX0_findPrice_28 rfl (lv_at hl 1 rfl) ?_
          refine lv_iload_n hx hb dX0_findPrice_29 rfl (lv_at hl 4 rfl) ?_
          refine q_callI (r := oI (bnd qu (prs (vlu ex pa ho dv 0 (sp + 1) (0 + 1)) qu di pr i) di i)) (va_runV (As := [.int (nI i)]) (rest := [.int (nI i), .ref (ad 15)]) ⟨hx, hb, hml, hown, hts⟩ (kX0_sumUpParts l D h ad cI cZ ex pa di qu gc dg dp dv dd ds dc td ho ak se (prs (vlu ex pa ho dv 0 (sp + 1) (0 + 1)) qu di pr i) i (by omega) hqu hdi (prs_in hvb hpb i (by omega))) (cwV 1 hts gX0_findPrice_X0_sumUpParts rfl rfl rfl (by decide +kernel) ⟨Nat.le_of_ble_eq_true rfl, Nat.le_of_ble_eq_true rfl⟩) ⟨pP_blind, va_recv hK hP (ci := 0) (q0 := 0) rfl rfl, pP_pre hP hK⟩ rfl rfl hl.1 rfl (lv_room (Nat.le_of_ble_eq_true rfl)) dX0_findPrice_30 ⟨Nat.zero_le _, Nat.zero_le _⟩) ?_
          refine lv_goto (tgt := 38) hx hb dX0_findPrice_33 (by decide) ?_
          refine q_ast oI (prs (vlu ex pa ho dv 0 (sp + 1) (0 + 1)) qu di pr i) (bnd qu (prs (vlu ex pa ho dv 0 (sp + 1) (0 + 1)) qu di pr i) di i) hx hb hK hP hD hS 13 1 rfl rfl (k := i) (by omega) (Nat.le_of_ble_eq_true rfl) dX0_findPrice_38 (fun H locs hP hD hS => ?_)
          have hP : va_P D vwCl (hW h ad cI cZ ex pa di qu gc dg dp dv dd ds dc td ho ak se (va_up (prs (vlu ex pa ho dv 0 (sp + 1) (0 + 1)) qu di pr i) i (bnd qu (prs (vlu ex pa ho dv 0 (sp + 1) (0 + 1)) qu di pr i) di i))) H := hP
          have hD : va_D A (hW h ad cI cZ ex pa di qu gc dg dp dv dd ds dc td ho ak se (va_up (prs (vlu ex pa ho dv 0 (sp + 1) (0 + 1)) qu di pr i) i (bnd qu (prs (vlu ex pa ho dv 0 (sp + 1) (0 + 1)) qu di pr i) di i))) := hD
          refine lv_iinc (v := nI (i + 1)) (lv' := [(3, .int (nI (i + 1))), (4, .int (oI ((vlu ex pa ho dv 0 (sp + 1) (0 + 1)) i))), (0, .ref h), (1, .int (nI g)), (2, .int (nI sp))]) hx hb dX0_findPrice_39 hl (k := 4) rfl (i1_n i) (by decide) rfl (fun ls hl => ?_)
          refine lv_goto (tgt := 2) hx hb dX0_findPrice_42 (by decide) ?_
          have hP : va_P D vwCl (hW h ad cI cZ ex pa di qu gc dg dp dv dd ds dc td ho ak se (prs (vlu ex pa ho dv 0 (sp + 1) (0 + 1)) qu di pr (i + 1))) H := by rw [show prs (vlu ex pa ho dv 0 (sp + 1) (0 + 1)) qu di pr (i + 1) = va_up (prs (vlu ex pa ho dv 0 (sp + 1) (0 + 1)) qu di pr i) i (bnd qu (prs (vlu ex pa ho dv 0 (sp + 1) (0 + 1)) qu di pr i) di i) from prs_b k25]; exact hP
          have hD : va_D A (hW h ad cI cZ ex pa di qu gc dg dp dv dd ds dc td ho ak se (prs (vlu ex pa ho dv 0 (sp + 1) (0 + 1)) qu di pr (i + 1))) := by rw [show prs (vlu ex pa ho dv 0 (sp + 1) (0 + 1)) qu di pr (i + 1) = va_up (prs (vlu ex pa ho dv 0 (sp + 1) (0 + 1)) qu di pr i) i (bnd qu (prs (vlu ex pa ho dv 0 (sp + 1) (0 + 1)) qu di pr i) di i) from prs_b k25]; exact hD
          exact ih (i + 1) (by omega) (by omega) _ _ hP hD hS _ (lv_sub hl [2, 3, 4, 0] rfl)
  have hP : va_P D vwCl (hW h ad cI cZ ex pa di qu gc dg dp dv dd ds dc td ho ak se (prs (vlu ex pa ho dv 0 (sp + 1) (0 + 1)) qu di pr 0)) s.heap := by rw [show prs (vlu ex pa ho dv 0 (sp + 1) (0 + 1)) qu di pr 0 = pr from rfl]; exact hP
  have hD : va_D A (hW h ad cI cZ ex pa di qu gc dg dp dv dd ds dc td ho ak se (prs (vlu ex pa ho dv 0 (sp + 1) (0 + 1)) qu di pr 0)) := by rw [show prs (vlu ex pa ho dv 0 (sp + 1) (0 + 1)) qu di pr 0 = pr from rfl]; exact hD
  exact loop2 (g + 2) 0 (by omega) (by omega) _ _ hP hD hS _ (lv_sub hl [1, 2, 3, 0] rfl)
end
