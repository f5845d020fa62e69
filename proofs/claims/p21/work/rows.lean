section
-- ===== PART A: goes FIRST, ahead of the names: the tables' words, and 'selects' of the private methods out of them =====
/-- a private method of a class that the tables say can be made, by its rows of tables_1 -/
def lw_okq (q : MethodName × Nat) : Prop := (q.1.cls ≠ "java/lang/invoke/MethodHandle" ∧ q.1.cls ≠ "java/lang/invoke/VarHandle") ∧ Cond.instantiable q.1.cls q.2 ∈ tables_1 ∧ Cond.privateMethod q.1 ∈ tables_1 ∧ Cond.instanceMethod q.1 ∈ tables_1
theorem lw_p0 : lw_okq (⟨"ShopHub", "checkParent", "(I)V"⟩, 16) := ⟨⟨by decide +kernel, by decide +kernel⟩, List.mem_of_getElem? (i := 11) (by decide +kernel), List.mem_of_getElem? (i := 80) (by decide +kernel), List.mem_of_getElem? (i := 81) (by decide +kernel)⟩
theorem lw_p1 : lw_okq (⟨"ShopHub", "isGood", "(I)Z"⟩, 16) := ⟨⟨by decide +kernel, by decide +kernel⟩, List.mem_of_getElem? (i := 11) (by decide +kernel), List.mem_of_getElem? (i := 84) (by decide +kernel), List.mem_of_getElem? (i := 85) (by decide +kernel)⟩
theorem lw_p2 : lw_okq (⟨"java/lang/Throwable", "fillInStackTrace", "(I)Ljava/lang/Throwable;"⟩, 6) := ⟨⟨by decide +kernel, by decide +kernel⟩, List.mem_of_getElem? (i := 126) (by decide +kernel), List.mem_of_getElem? (i := 124) (by decide +kernel), List.mem_of_getElem? (i := 125) (by decide +kernel)⟩
theorem lw_p3 : lw_okq (⟨"ShopHub", "levelOf", "(I)I"⟩, 16) := ⟨⟨by decide +kernel, by decide +kernel⟩, List.mem_of_getElem? (i := 11) (by decide +kernel), List.mem_of_getElem? (i := 156) (by decide +kernel), List.mem_of_getElem? (i := 157) (by decide +kernel)⟩
theorem lw_p4 : lw_okq (⟨"ShopHub", "checkGood", "(I)V"⟩, 16) := ⟨⟨by decide +kernel, by decide +kernel⟩, List.mem_of_getElem? (i := 11) (by decide +kernel), List.mem_of_getElem? (i := 181) (by decide +kernel), List.mem_of_getElem? (i := 182) (by decide +kernel)⟩
theorem lw_p5 : lw_okq (⟨"ShopHub", "isWithin", "(II)Z"⟩, 16) := ⟨⟨by decide +kernel, by decide +kernel⟩, List.mem_of_getElem? (i := 11) (by decide +kernel), List.mem_of_getElem? (i := 186) (by decide +kernel), List.mem_of_getElem? (i := 187) (by decide +kernel)⟩
theorem lw_p6 : lw_okq (⟨"ShopHub", "levelsWithin", "(I)I"⟩, 16) := ⟨⟨by decide +kernel, by decide +kernel⟩, List.mem_of_getElem? (i := 11) (by decide +kernel), List.mem_of_getElem? (i := 191) (by decide +kernel), List.mem_of_getElem? (i := 192) (by decide +kernel)⟩
theorem lw_p7 : lw_okq (⟨"ShopHub", "isParent", "(I)Z"⟩, 16) := ⟨⟨by decide +kernel, by decide +kernel⟩, List.mem_of_getElem? (i := 11) (by decide +kernel), List.mem_of_getElem? (i := 206) (by decide +kernel), List.mem_of_getElem? (i := 207) (by decide +kernel)⟩
theorem lw_p8 : lw_okq (⟨"ShopHub", "isPart", "(I)Z"⟩, 16) := ⟨⟨by decide +kernel, by decide +kernel⟩, List.mem_of_getElem? (i := 11) (by decide +kernel), List.mem_of_getElem? (i := 211) (by decide +kernel), List.mem_of_getElem? (i := 212) (by decide +kernel)⟩
theorem lw_p9 : lw_okq (⟨"ShopHub", "deleteDraftsOf", "(I)V"⟩, 16) := ⟨⟨by decide +kernel, by decide +kernel⟩, List.mem_of_getElem? (i := 11) (by decide +kernel), List.mem_of_getElem? (i := 216) (by decide +kernel), List.mem_of_getElem? (i := 217) (by decide +kernel)⟩
theorem lw_p10 : lw_okq (⟨"ShopHub", "settleHolders", "()V"⟩, 16) := ⟨⟨by decide +kernel, by decide +kernel⟩, List.mem_of_getElem? (i := 11) (by decide +kernel), List.mem_of_getElem? (i := 220) (by decide +kernel), List.mem_of_getElem? (i := 221) (by decide +kernel)⟩
theorem lw_p11 : lw_okq (⟨"ShopHub", "putHolder", "(I)V"⟩, 16) := ⟨⟨by decide +kernel, by decide +kernel⟩, List.mem_of_getElem? (i := 11) (by decide +kernel), List.mem_of_getElem? (i := 224) (by decide +kernel), List.mem_of_getElem? (i := 225) (by decide +kernel)⟩
theorem lw_p12 : lw_okq (⟨"ShopHub", "isEntered", "(I)Z"⟩, 16) := ⟨⟨by decide +kernel, by decide +kernel⟩, List.mem_of_getElem? (i := 11) (by decide +kernel), List.mem_of_getElem? (i := 228) (by decide +kernel), List.mem_of_getElem? (i := 229) (by decide +kernel)⟩
theorem lw_p13 : lw_okq (⟨"ShopHub", "checkDraft", "(I)V"⟩, 16) := ⟨⟨by decide +kernel, by decide +kernel⟩, List.mem_of_getElem? (i := 11) (by decide +kernel), List.mem_of_getElem? (i := 263) (by decide +kernel), List.mem_of_getElem? (i := 264) (by decide +kernel)⟩
theorem lw_p14 : lw_okq (⟨"ShopHub", "holdsAtItsPlace", "(I)Z"⟩, 16) := ⟨⟨by decide +kernel, by decide +kernel⟩, List.mem_of_getElem? (i := 11) (by decide +kernel), List.mem_of_getElem? (i := 269) (by decide +kernel), List.mem_of_getElem? (i := 270) (by decide +kernel)⟩
theorem lw_p15 : lw_okq (⟨"ShopHub", "findChanged", "(I)I"⟩, 16) := ⟨⟨by decide +kernel, by decide +kernel⟩, List.mem_of_getElem? (i := 11) (by decide +kernel), List.mem_of_getElem? (i := 299) (by decide +kernel), List.mem_of_getElem? (i := 300) (by decide +kernel)⟩
def lw_privs_1 : List (MethodName × Nat) := [(⟨"ShopHub", "checkParent", "(I)V"⟩, 16), (⟨"ShopHub", "isGood", "(I)Z"⟩, 16), (⟨"java/lang/Throwable", "fillInStackTrace", "(I)Ljava/lang/Throwable;"⟩, 6), (⟨"ShopHub", "levelOf", "(I)I"⟩, 16), (⟨"ShopHub", "checkGood", "(I)V"⟩, 16), (⟨"ShopHub", "isWithin", "(II)Z"⟩, 16), (⟨"ShopHub", "levelsWithin", "(I)I"⟩, 16), (⟨"ShopHub", "isParent", "(I)Z"⟩, 16), (⟨"ShopHub", "isPart", "(I)Z"⟩, 16), (⟨"ShopHub", "deleteDraftsOf", "(I)V"⟩, 16), (⟨"ShopHub", "settleHolders", "()V"⟩, 16), (⟨"ShopHub", "putHolder", "(I)V"⟩, 16), (⟨"ShopHub", "isEntered", "(I)Z"⟩, 16), (⟨"ShopHub", "checkDraft", "(I)V"⟩, 16), (⟨"ShopHub", "holdsAtItsPlace", "(I)Z"⟩, 16), (⟨"ShopHub", "findChanged", "(I)I"⟩, 16)]
theorem lw_r1 : ∀ q ∈ lw_privs_1, lw_okq q := List.forall_mem_cons.mpr ⟨lw_p0, List.forall_mem_cons.mpr ⟨lw_p1, List.forall_mem_cons.mpr ⟨lw_p2, List.forall_mem_cons.mpr ⟨lw_p3, List.forall_mem_cons.mpr ⟨lw_p4, List.forall_mem_cons.mpr ⟨lw_p5, List.forall_mem_cons.mpr ⟨lw_p6, List.forall_mem_cons.mpr ⟨lw_p7, List.forall_mem_cons.mpr ⟨lw_p8, List.forall_mem_cons.mpr ⟨lw_p9, List.forall_mem_cons.mpr ⟨lw_p10, List.forall_mem_cons.mpr ⟨lw_p11, List.forall_mem_cons.mpr ⟨lw_p12, List.forall_mem_cons.mpr ⟨lw_p13, List.forall_mem_cons.mpr ⟨lw_p14, List.forall_mem_cons.mpr ⟨lw_p15, fun _ h => absurd h List.not_mem_nil⟩⟩⟩⟩⟩⟩⟩⟩⟩⟩⟩⟩⟩⟩⟩⟩
theorem lw_p16 : lw_okq (⟨"ShopHub", "looksChanged", "(II)Z"⟩, 16) := ⟨⟨by decide +kernel, by decide +kernel⟩, List.mem_of_getElem? (i := 11) (by decide +kernel), List.mem_of_getElem? (i := 303) (by decide +kernel), List.mem_of_getElem? (i := 304) (by decide +kernel)⟩
theorem lw_p17 : lw_okq (⟨"ShopHub", "findValue", "(IIII)I"⟩, 16) := ⟨⟨by decide +kernel, by decide +kernel⟩, List.mem_of_getElem? (i := 11) (by decide +kernel), List.mem_of_getElem? (i := 307) (by decide +kernel), List.mem_of_getElem? (i := 308) (by decide +kernel)⟩
theorem lw_p18 : lw_okq (⟨"ShopHub", "findOrigin", "(IIII)I"⟩, 16) := ⟨⟨by decide +kernel, by decide +kernel⟩, List.mem_of_getElem? (i := 11) (by decide +kernel), List.mem_of_getElem? (i := 311) (by decide +kernel), List.mem_of_getElem? (i := 312) (by decide +kernel)⟩
theorem lw_p19 : lw_okq (⟨"ShopHub", "findOwnOrigin", "(IIII)I"⟩, 16) := ⟨⟨by decide +kernel, by decide +kernel⟩, List.mem_of_getElem? (i := 11) (by decide +kernel), List.mem_of_getElem? (i := 315) (by decide +kernel), List.mem_of_getElem? (i := 316) (by decide +kernel)⟩
theorem lw_p20 : lw_okq (⟨"ShopHub", "rememberSights", "(II)V"⟩, 16) := ⟨⟨by decide +kernel, by decide +kernel⟩, List.mem_of_getElem? (i := 11) (by decide +kernel), List.mem_of_getElem? (i := 322) (by decide +kernel), List.mem_of_getElem? (i := 323) (by decide +kernel)⟩
theorem lw_p21 : lw_okq (⟨"ShopHub", "checkSight", "(IIII)V"⟩, 16) := ⟨⟨by decide +kernel, by decide +kernel⟩, List.mem_of_getElem? (i := 11) (by decide +kernel), List.mem_of_getElem? (i := 357) (by decide +kernel), List.mem_of_getElem? (i := 358) (by decide +kernel)⟩
theorem lw_p22 : lw_okq (⟨"ShopHub", "findMissing", "(III)I"⟩, 16) := ⟨⟨by decide +kernel, by decide +kernel⟩, List.mem_of_getElem? (i := 11) (by decide +kernel), List.mem_of_getElem? (i := 374) (by decide +kernel), List.mem_of_getElem? (i := 375) (by decide +kernel)⟩
theorem lw_p23 : lw_okq (⟨"ShopHub", "isComplete", "(II)Z"⟩, 16) := ⟨⟨by decide +kernel, by decide +kernel⟩, List.mem_of_getElem? (i := 11) (by decide +kernel), List.mem_of_getElem? (i := 382) (by decide +kernel), List.mem_of_getElem? (i := 383) (by decide +kernel)⟩
theorem lw_p24 : lw_okq (⟨"ShopHub", "findPrice", "(II)I"⟩, 16) := ⟨⟨by decide +kernel, by decide +kernel⟩, List.mem_of_getElem? (i := 11) (by decide +kernel), List.mem_of_getElem? (i := 390) (by decide +kernel), List.mem_of_getElem? (i := 391) (by decide +kernel)⟩
theorem lw_p25 : lw_okq (⟨"ShopHub", "sumUpParts", "(I)I"⟩, 16) := ⟨⟨by decide +kernel, by decide +kernel⟩, List.mem_of_getElem? (i := 11) (by decide +kernel), List.mem_of_getElem? (i := 394) (by decide +kernel), List.mem_of_getElem? (i := 395) (by decide +kernel)⟩
def lw_privs_2 : List (MethodName × Nat) := [(⟨"ShopHub", "looksChanged", "(II)Z"⟩, 16), (⟨"ShopHub", "findValue", "(IIII)I"⟩, 16), (⟨"ShopHub", "findOrigin", "(IIII)I"⟩, 16), (⟨"ShopHub", "findOwnOrigin", "(IIII)I"⟩, 16), (⟨"ShopHub", "rememberSights", "(II)V"⟩, 16), (⟨"ShopHub", "checkSight", "(IIII)V"⟩, 16), (⟨"ShopHub", "findMissing", "(III)I"⟩, 16), (⟨"ShopHub", "isComplete", "(II)Z"⟩, 16), (⟨"ShopHub", "findPrice", "(II)I"⟩, 16), (⟨"ShopHub", "sumUpParts", "(I)I"⟩, 16)]
theorem lw_r2 : ∀ q ∈ lw_privs_2, lw_okq q := List.forall_mem_cons.mpr ⟨lw_p16, List.forall_mem_cons.mpr ⟨lw_p17, List.forall_mem_cons.mpr ⟨lw_p18, List.forall_mem_cons.mpr ⟨lw_p19, List.forall_mem_cons.mpr ⟨lw_p20, List.forall_mem_cons.mpr ⟨lw_p21, List.forall_mem_cons.mpr ⟨lw_p22, List.forall_mem_cons.mpr ⟨lw_p23, List.forall_mem_cons.mpr ⟨lw_p24, List.forall_mem_cons.mpr ⟨lw_p25, fun _ h => absurd h List.not_mem_nil⟩⟩⟩⟩⟩⟩⟩⟩⟩⟩
def lw_privs : List (MethodName × Nat) := lw_privs_1 ++ (lw_privs_2)
def lw_tbl : List Cond := k2_sels lw_privs ++ tables_1
theorem lw_privs_ok : ∀ q ∈ lw_privs, lw_okq q := by
  show ∀ q ∈ lw_privs_1 ++ (lw_privs_2), lw_okq q
  exact List.forall_mem_append.mpr ⟨lw_r1, lw_r2⟩
end
section
/-! ===== BEGIN words of one list among another's, by their places ===== -/
theorem goodIn_r {big : List Cond} (ws : List Cond) (ps : List Nat) (hp : ws = ps.filterMap (fun i => big[i]?)) (h : ws.all goodWord = true) : GoodIn big ws := by
  intro w hw
  have h1 := List.all_eq_true.mp h w hw
  rw [hp] at hw
  obtain ⟨i, -, hi⟩ := List.mem_filterMap.mp hw
  have hm : w ∈ big := by first | exact List.mem_of_getElem? hi | exact List.getElem?_mem hi
  exact ⟨hm, good_of_word h1⟩
theorem goodIn_app {big a b : List Cond} (ha : GoodIn big a) (hb : GoodIn big b) : GoodIn big (a ++ b) := fun w h => (List.mem_append.mp h).elim (ha w) (hb w)
theorem goodIn_ca {big a b : List Cond} {c : Cond} (ha : GoodIn big (c :: a)) (hb : GoodIn big b) : GoodIn big (c :: (a ++ b)) := fun w h => (List.mem_cons.mp h).elim (fun e => ha w (List.mem_cons.mpr (Or.inl e))) (fun h => (List.mem_append.mp h).elim (fun h => ha w (List.mem_cons.mpr (Or.inr h))) (hb w))
theorem goodIn_sub {big ws : List Cond} (hm : ∀ w ∈ ws, w ∈ big) (h : ws.all goodWord = true) : GoodIn big ws := fun w hw => ⟨hm w hw, good_of_word (List.all_eq_true.mp h w hw)⟩
/-! ===== END ===== -/

/-! ===== BEGIN exceptions that leave a method, and their catching by the caller (launches without stack traces) ===== -/
section VXA
/-! The laws vx_back, vx_callV, vx_callS, vx_callSW, vx_throw0, vx_throwS follow proofs of the library, with one case more: JvmDerived/Free/Laws.lean (Back.of_free), Shelf42/LK1.lean (callV, callS), Shelf/KitTraced.lean (throwNew0V, throwNewS). -/
/-- where a method has thrown q: the class by its name, the cell, what was written, the world -/
def vx_T (XC : String → State → State → Prop) (st : State) (q : Addr) (t : State) (mc ms : Nat) (free : Addr → Prop) : Prop :=
  ∃ (E : String) (ce : Cell) (L : List Loc), XC E st t ∧ t.heap[q]? = some ce ∧ ce.vm = .none ∧ st.vm.findClass E = some ce.cls ∧ st.WarmedH t.vm ∧ st.sameButNew ({ t with vm := st.vm } : State) L mc ms ∧ ∀ z ∈ L, free z.base
def vx_Q (Qc : Array Value → State → Outcome → State → Prop) (XC : String → State → State → Prop) (mc ms : Nat) (free : Addr → Prop) : Array Value → State → Outcome → State → Prop := fun a st o t =>
  (Qc a st o t ∧ ∃ L, FrameEnd st o t L mc ms ∧ ∀ q ∈ L, free q.base) ∨ ∃ q, o = .threw q ∧ vx_T XC st q t mc ms free
/-- a callee that returns or throws -/
def vx_Met (l : Launch) (y : MethodName) (ws : List Cond) (rm : Room) (Pc : Array Value → State → Prop) (Qc : Array Value → State → Outcome → State → Prop) (XC : String → State → State → Prop) (mc ms : Nat) (free : Addr → Prop) : Prop :=
  MetFree l y (headSpec ws rm) Pc (fun _ _ _ _ _ => True) (vx_Q Qc XC mc ms free)
def vx_Post (XC : String → State → State → Prop) (mc ms : Nat) (free : Addr → Prop) : Pt → Array Value → Addr → Pt → Prop := fun A a q B =>
  ∃ (g : JFrame) (mk : MethodId) (t : State) (L : List Loc) (E : String) (ce : Cell), B.U.heap = t.heap ∧ B.U.vm = t.vm ∧ XC E (A.U.calling g mk a) t ∧ t.heap[q]? = some ce ∧ ce.vm = .none ∧ A.U.vm.findClass E = some ce.cls ∧ B.locs = A.locs ++ L ∧ (∀ z ∈ L, free z.base) ∧ B.cells = A.cells + mc ∧ B.slots = A.slots + ms
def vx_Back (l : Launch) (R : Room) (p : Program) (e : Env) (below : List Frame) (s : State) (sargs : Array Value) (y : MethodName) (len W9 : Nat)
    (Pre : Pt → Array Value → Prop) (Post : Pt → Array Value → Option Value → Pt → Prop) (PostX : Pt → Array Value → Addr → Pt → Prop) : Prop :=
  ∀ (m : MethodId) (meth : Method) (c : Code) (A : Pt) (g : JFrame) (ig : Instr) (mk : MethodId) (a : Array Value),
    Stand p l e R s m sargs below meth c A.U A.locs A.cells A.slots → g.method = m → g.locals.size = c.maxLocals → decode c.code g.pc = .ok (ig, len) →
    2 * g.monitorRoom + (g.stack.map fun v => v.category).sum ≤ W9 → A.U.methodNamed? y = some mk → Pre A a →
    (∃ (v : Option Value) (B : Pt), Stand p l e R s m sargs below meth c B.U B.locs B.cells B.slots ∧ Post A a v B ∧
      Steps p.tables e below (doInvoke e (A.U.setTop g) [] mk a).1 (B.U.setTop { g with pc := g.pc + len, stack := v.toList ++ g.stack })) ∨
    (∃ (q : Addr) (B : Pt), Stand p l e R s m sargs below meth c B.U B.locs B.cells B.slots ∧ PostX A a q B ∧
      Steps p.tables e below (doInvoke e (A.U.setTop g) [] mk a).1 ((B.U.setTop g).pushFrame (.throwing q)))
section Payer
variable {l : Launch} {R : Room} {p : Program} {e : Env} {below : List Frame} {s : State} {sargs : Array Value} {y : MethodName} {len W9 : Nat}
theorem vx_back {ws : List Cond} {rm : Room} {Pc : Array Value → State → Prop} {Qc : Array Value → State → Outcome → State → Prop} {XC : String → State → State → Prop} {mc ms : Nat} {free : Addr → Prop} {bytes : ByteArray} {maxL : Nat} {ret : Option FieldType}
    (hM : vx_Met l y ws rm Pc Qc XC mc ms free) (hblind : FrameBlind Pc) (hrc : rm.cells = mc) (hrs : rm.slots = ms)
    (hframes : rm.frames + 1 ≤ R.frames) (hlocals : W9 + (maxL + 11) + rm.locals ≤ R.locals)
    (hws : ∀ w ∈ ws, ∀ a' U, s.WarmedH U.vm → w.before a' U = true) (hcode : Cond.code y bytes maxL ret ∈ ws) (hinit : ∀ a' U, s.WarmedH U.vm → (Cond.initialized y.cls).before a' U = true) :
    vx_Back l R p e below s sargs y len W9 (PreOf R mc ms Pc) (PostOf Qc mc ms free) (vx_Post XC mc ms free) := by
  intro m meth c A g ig mk a X hg hsize hdg hW hn hp
  have h1 : (headSpec ws rm).pre.before a A.U = true := atoms_intro fun w hw => hws w hw _ _ X.warmed
  have h2 : (Cond.code y bytes maxL ret).before a A.U = true := hws _ hcode _ _ X.warmed
  have h3 : (Cond.initialized y.cls).before a A.U = true := hinit _ _ X.warmed
  have h4 : A.cells + (headSpec ws rm).room.cells ≤ R.cells := by rw [show (headSpec ws rm).room.cells = mc from hrc]; exact hp.1
  have h5 : A.slots + (headSpec ws rm).room.slots ≤ R.slots := by rw [show (headSpec ws rm).room.slots = ms from hrs]; exact hp.2.1
  have hPc : Pc a (A.U.calling g mk a) := hblind _ _ _ _ hp.2.2
  obtain ⟨U, Ls, c0, s0⟩ := A
  dsimp only [Pt.U, Pt.locs, Pt.cells, Pt.slots] at h1 h2 h3 h4 h5 X hn hPc ⊢
  obtain ⟨methY, cY, hmY, hcY, -, hlY, -, -, -, -⟩ := Cond.code_spec hn h2
  obtain ⟨kY, hkY, -⟩ := className_of_methodNamed hn
  have hinitY : kY.init = .initialized := Cond.initialized_spec (findClass_of_methodNamed hn) hkY h3
  have h : At U g.method c below := by rw [hg]; exact X.here
  have hlocals9 : W9 + (maxL + 11) + (headSpec ws rm).room.locals ≤ R.locals := hlocals
  have happ : (headSpec ws rm).appliesLoose y e.platform (U.calling g mk a) = true :=
    Spec.appliesLoose_calling (g := g) h hdg hn hkY hinitY
      (X.room_calling (g := g) (R' := (headSpec ws rm).room) hsize hmY hcY hframes (by rw [hlY]; omega) h4 h5) h1
  obtain ⟨mid, hmid⟩ := h.above
  have hfr : (U.setTop g).frames = (.java g :: mid) ++ below := by rw [State.frames_setTop' g h.top, hmid]; rfl
  obtain ⟨o, s₂, hsteps, -, hend, hq⟩ := Steps.callFree hM p X.admits X.cas X.clock (acts := []) hfr happ hPc trivial
  have hq' : vx_Q Qc XC mc ms free a (U.calling g mk a) o s₂ := hq
  rw [State.frames_setTop' g h.top] at hend
  obtain ⟨g₀, hg0⟩ := Option.isSome_iff_exists.mp h.top
  obtain ⟨r, hr⟩ := State.topJava?_eq_some.mp hg0
  have hr' : (({ U with heap := s₂.heap, slotsUsed := s₂.slotsUsed } : State).setVm s₂.vm).frames = .java g₀ :: r := hr
  rcases hq' with ⟨hqc, L, hfe, hL⟩ | ⟨q, rfl, E, ce, L, hx, hce, hcv, hcl, hW₂, hsm, hL⟩
  · obtain ⟨⟨v, rfl⟩, hW₂, e2, q2, q3, q4, q5, q6⟩ := id hfe
    have e3 : s₂ = ({ (U.calling g mk a).setFrames s₂.frames with heap := s₂.heap, slotsUsed := s₂.slotsUsed } : State).setVm s₂.vm := by
      have : s₂ = ({ s₂ with vm := (U.calling g mk a).vm } : State).setVm s₂.vm := rfl
      rw [e2] at this
      exact this
    obtain ⟨c₂, i₂, len₂, hc₂, hd₂, hf₂⟩ := hend
    have hW' : U.WarmedH s₂.vm := hW₂
    have hcc : c₂ = c := by
      have h1 : s₂.code? g.method = U.code? g.method := by
        rw [State.code?_eq, State.code?_eq, hW'.alike.method?]
      exact Option.some.inj (hc₂.symm.trans (h1.trans h.code))
    subst hcc
    have hlen : len₂ = len := by rw [hdg] at hd₂; cases hd₂; rfl
    subst hlen
    have hs₂ : s₂ = (({ U with heap := s₂.heap, slotsUsed := s₂.slotsUsed } : State).setVm s₂.vm).setTop { g with pc := g.pc + len₂, stack := v.toList ++ g.stack } := by
      refine e3.trans ?_
      rw [hf₂, State.calling_eq h.top, State.setFrames_setFrames, State.setTop_of_frames _ hr', hr]
      rfl
    have hsame : U.sameButNew ({ U with heap := s₂.heap, slotsUsed := s₂.slotsUsed } : State) L mc ms := by
      refine ⟨?_, q2, q3, q4, q5, q6⟩
      obtain ⟨t, ht, -⟩ := State.frames_cons hr
      show ({ U with heap := s₂.heap, slotsUsed := s₂.slotsUsed } : State) = { U.setFrames U.frames with heap := s₂.heap, slotsUsed := s₂.slotsUsed }
      rw [State.setFrames_self ht]
    subst hg
    refine Or.inl ⟨v, ⟨(({ U with heap := s₂.heap, slotsUsed := s₂.slotsUsed } : State).setVm s₂.vm), Ls ++ L, c0 + mc, s0 + ms⟩,
      ⟨X.admits, X.cas, X.clock, X.frames, X.room, X.hears, X.method, X.code, (X.here.setHeapUsed s₂.heap s₂.slotsUsed).setVm hW'.alike, X.tail, State.WarmedH.trans X.warmed hW', X.limits, X.bytes, X.same.trans (hsame.setVm s.vm)⟩,
      ⟨g, mk, s₂, L, rfl, rfl, hqc, rfl, hL, rfl, rfl⟩, ?_⟩
    show Steps p.tables e below _ ((({ U with heap := s₂.heap, slotsUsed := s₂.slotsUsed } : State).setVm s₂.vm).setTop { g with pc := g.pc + len₂, stack := v.toList ++ g.stack })
    rw [← hs₂]
    exact hsteps
  · obtain ⟨e2, q2, q3, q4, q5, q6⟩ := id hsm
    have e3 : s₂ = ({ (U.calling g mk a).setFrames s₂.frames with heap := s₂.heap, slotsUsed := s₂.slotsUsed } : State).setVm s₂.vm := by
      have : s₂ = ({ s₂ with vm := (U.calling g mk a).vm } : State).setVm s₂.vm := rfl
      rw [e2] at this
      exact this
    have hf₂ : s₂.frames = .throwing q :: .java g :: U.frames.tail := hend
    have hW' : U.WarmedH s₂.vm := hW₂
    have hs₂ : s₂ = ((({ U with heap := s₂.heap, slotsUsed := s₂.slotsUsed } : State).setVm s₂.vm).setTop g).pushFrame (.throwing q) := by
      refine e3.trans ?_
      rw [hf₂, State.calling_eq h.top, State.setFrames_setFrames, State.pushFrame, State.frames_setTop _ hr', State.setTop_of_frames _ hr', State.setFrames_setFrames, hr]
      rfl
    have hsame : U.sameButNew ({ U with heap := s₂.heap, slotsUsed := s₂.slotsUsed } : State) L mc ms := by
      refine ⟨?_, q2, q3, q4, q5, q6⟩
      obtain ⟨t, ht, -⟩ := State.frames_cons hr
      show ({ U with heap := s₂.heap, slotsUsed := s₂.slotsUsed } : State) = { U.setFrames U.frames with heap := s₂.heap, slotsUsed := s₂.slotsUsed }
      rw [State.setFrames_self ht]
    subst hg
    refine Or.inr ⟨q, ⟨(({ U with heap := s₂.heap, slotsUsed := s₂.slotsUsed } : State).setVm s₂.vm), Ls ++ L, c0 + mc, s0 + ms⟩,
      ⟨X.admits, X.cas, X.clock, X.frames, X.room, X.hears, X.method, X.code, (X.here.setHeapUsed s₂.heap s₂.slotsUsed).setVm hW'.alike, X.tail, State.WarmedH.trans X.warmed hW', X.limits, X.bytes, X.same.trans (hsame.setVm s.vm)⟩,
      ⟨g, mk, s₂, L, E, ce, rfl, rfl, hx, hce, hcv, hcl, rfl, hL, rfl, rfl⟩, ?_⟩
    show Steps p.tables e below _ (((({ U with heap := s₂.heap, slotsUsed := s₂.slotsUsed } : State).setVm s₂.vm).setTop g).pushFrame (.throwing q))
    rw [← hs₂]
    exact hsteps
end Payer
section Calls
variable {p : Program} {l : Launch} {e : Env} {R : Room} {s : State} {m : MethodId} {args : Array Value} {below : List Frame} {meth : Method} {c : Code} {T : State} {locs : List Loc} {cells slots : Nat}
theorem vx_callV (X : Stand p l e R s m args below meth c T locs cells slots) (hexec : p.tables.exec = Jvm.exec) {own C : String} {index : Nat} {y : MethodName} {bytes : ByteArray} {maxL : Nat} {ret : Option FieldType}
    (hown : s.vm.findClass own = some m.cls) (hlink : (Cond.methodLink own index y).before args s = true) (hinst : (Cond.instanceMethod y).before args s = true) (hsel : (Cond.selects C y y).before args s = true)
    (hcode : (Cond.code y bytes maxL ret).before args s = true) (hy : y.cls ≠ "java/lang/invoke/MethodHandle" ∧ y.cls ≠ "java/lang/invoke/VarHandle")
    {W9 : Nat} {Pre : Pt → Array Value → Prop} {Post : Pt → Array Value → Option Value → Pt → Prop} {PostX : Pt → Array Value → Addr → Pt → Prop} (hK : vx_Back l R p e below s args y 3 W9 Pre Post PostX)
    {b : Addr} {cellB : Cell} (hcell : T.heap[b]? = some cellB) (hobj : cellB.vm.isStatics = false) (hcls : s.vm.findClass C = some cellB.cls)
    {g : JFrame} (hg : g.method = m) (hsize : g.locals.size = c.maxLocals) {argsL rest : List Value} (hlen : ∀ sig, parseMethodDescriptor y.desc = some sig → argsL.length = sig.parameters.length)
    (hstack : g.stack = argsL.reverse ++ .ref b :: rest) (hW : 2 * g.monitorRoom + (rest.map fun v => v.category).sum ≤ W9) (hdg : decode c.code g.pc = .ok (.invokevirtual index, 3))
    (hpre : ∀ vm₁, s.WarmedH vm₁ → Pre ⟨T.setVm vm₁, locs, cells, slots⟩ (Value.ref b :: argsL).toArray) :
    (∃ (v : Option Value) (vm₁ : Vm) (B : Pt), s.WarmedH vm₁ ∧ Stand p l e R s m args below meth c B.U B.locs B.cells B.slots ∧ Post ⟨T.setVm vm₁, locs, cells, slots⟩ (Value.ref b :: argsL).toArray v B ∧
      ∀ target, Steps p.tables e below (B.U.setTop { g with pc := g.pc + 3, stack := v.toList ++ rest }) target → Steps p.tables e below (T.setTop g) target) ∨
    (∃ (q : Addr) (vm₁ : Vm) (B : Pt), s.WarmedH vm₁ ∧ Stand p l e R s m args below meth c B.U B.locs B.cells B.slots ∧ PostX ⟨T.setVm vm₁, locs, cells, slots⟩ (Value.ref b :: argsL).toArray q B ∧
      Steps p.tables e below (T.setTop g) ((B.U.setTop { g with stack := rest }).pushFrame (.throwing q))) := by
  obtain ⟨mk, methM, hnamed, hmethM, hstM, habM⟩ := Cond.instanceMethod_spec hinst
  obtain ⟨methM', cM, hmethM', -, -, -, -, -, -, hsigM⟩ := Cond.code_spec hnamed hcode
  cases hmethM.symm.trans hmethM'
  obtain ⟨c2, r2, m2, q1, q2, q3, q4, kP, hkP, hkPi⟩ := Cond.selects_spec hsel
  cases hcls.symm.trans q1
  cases (State.methodFound?_of_named hnamed hy).symm.trans q2
  cases hnamed.symm.trans q3
  have hselP : selectMethod e.platform s.vm cellB.cls mk = .method mk := by rw [Launch.admits_selectMethod X.admits]; exact q4
  obtain ⟨vm₁, X₁, hstep₁⟩ := X.invokevirtual hexec hown hlink hnamed hmethM hstM hkP hkPi hy (a := b) (cell := cellB) hcell
    (fun z h => by rw [h] at hobj; cases hobj) hselP hmethM habM hkP hkPi (g := g) hg (argsL := argsL) (rest := rest) (hlen _ hsigM) hstack hdg
  rcases hK m meth c ⟨T.setVm vm₁, locs, cells, slots⟩ { g with stack := rest } (.invokevirtual index) mk (Value.ref b :: argsL).toArray X₁ hg hsize hdg hW (X₁.named hnamed) (hpre vm₁ X₁.warmed) with ⟨v, B, X', hpost, hsteps⟩ | ⟨q, B, X', hpost, hsteps⟩
  · exact Or.inl ⟨v, vm₁, B, X₁.warmed, X', hpost, fun target h => hstep₁ _ fun acts => by rw [doInvoke_state]; exact hsteps.trans h⟩
  · exact Or.inr ⟨q, vm₁, B, X₁.warmed, X', hpost, hstep₁ _ fun acts => by rw [doInvoke_state]; exact hsteps⟩
theorem vx_callS (X : Stand p l e R s m args below meth c T locs cells slots) (hexec : p.tables.exec = Jvm.exec) {own : String} {index : Nat} {y : MethodName} {bytes : ByteArray} {maxL : Nat} {ret : Option FieldType}
    (hown : s.vm.findClass own = some m.cls) (hlink : (Cond.methodLink own index y).before args s = true) (hstat : (Cond.static y).before args s = true) (hinit : (Cond.initialized y.cls).before args s = true)
    (hcode : (Cond.code y bytes maxL ret).before args s = true) (hy : y.cls ≠ "java/lang/invoke/MethodHandle" ∧ y.cls ≠ "java/lang/invoke/VarHandle")
    {W9 : Nat} {Pre : Pt → Array Value → Prop} {Post : Pt → Array Value → Option Value → Pt → Prop} {PostX : Pt → Array Value → Addr → Pt → Prop} (hK : vx_Back l R p e below s args y 3 W9 Pre Post PostX)
    {g : JFrame} (hg : g.method = m) (hsize : g.locals.size = c.maxLocals) {argsL rest : List Value} (hlen : ∀ sig, parseMethodDescriptor y.desc = some sig → argsL.length = sig.parameters.length)
    (hstack : g.stack = argsL.reverse ++ rest) (hW : 2 * g.monitorRoom + (rest.map fun v => v.category).sum ≤ W9) (hdg : decode c.code g.pc = .ok (.invokestatic index, 3))
    (hpre : ∀ vm₁, s.WarmedH vm₁ → Pre ⟨T.setVm vm₁, locs, cells, slots⟩ argsL.toArray) :
    (∃ (v : Option Value) (vm₁ : Vm) (B : Pt), s.WarmedH vm₁ ∧ Stand p l e R s m args below meth c B.U B.locs B.cells B.slots ∧ Post ⟨T.setVm vm₁, locs, cells, slots⟩ argsL.toArray v B ∧
      ∀ target, Steps p.tables e below (B.U.setTop { g with pc := g.pc + 3, stack := v.toList ++ rest }) target → Steps p.tables e below (T.setTop g) target) ∨
    (∃ (q : Addr) (vm₁ : Vm) (B : Pt), s.WarmedH vm₁ ∧ Stand p l e R s m args below meth c B.U B.locs B.cells B.slots ∧ PostX ⟨T.setVm vm₁, locs, cells, slots⟩ argsL.toArray q B ∧
      Steps p.tables e below (T.setTop g) ((B.U.setTop { g with stack := rest }).pushFrame (.throwing q))) := by
  obtain ⟨mk, hnamed⟩ := Cond.code_named hcode
  obtain ⟨methM, cM, hmethM, -, -, -, -, -, -, hsigM⟩ := Cond.code_spec hnamed hcode
  have hstatic : methM.isStatic = true := Cond.static_spec hnamed hmethM hstat
  obtain ⟨kP, hkP, -⟩ := className_of_methodNamed hnamed
  have hinitP : kP.init = .initialized := Cond.initialized_spec (findClass_of_methodNamed hnamed) hkP hinit
  obtain ⟨vm₁, X₁, hstep₁⟩ := X.invokestatic hexec hown hlink hnamed hmethM hstatic hkP hinitP hy (g := g) hg (argsL := argsL) (rest := rest) (hlen _ hsigM) hstack hdg
  rcases hK m meth c ⟨T.setVm vm₁, locs, cells, slots⟩ { g with stack := rest } (.invokestatic index) mk argsL.toArray X₁ hg hsize hdg hW (X₁.named hnamed) (hpre vm₁ X₁.warmed) with ⟨v, B, X', hpost, hsteps⟩ | ⟨q, B, X', hpost, hsteps⟩
  · exact Or.inl ⟨v, vm₁, B, X₁.warmed, X', hpost, fun target h => hstep₁ _ fun acts => by rw [doInvoke_state]; exact hsteps.trans h⟩
  · exact Or.inr ⟨q, vm₁, B, X₁.warmed, X', hpost, hstep₁ _ fun acts => by rw [doInvoke_state]; exact hsteps⟩
end Calls
theorem vx_cls {s : State} {T : State} {vm₁ : Vm} {E : String} {k : ClassId} (hW : s.WarmedH vm₁) (h : (T.setVm vm₁).vm.findClass E = some k) : s.vm.findClass E = some k := by
  have h1 : vm₁.findClass E = some k := h
  rw [hW.alike.findClass] at h1
  exact h1
/-- the method's frame g, with q thrown over it -/
def vx_W (p : Program) (l : Launch) (e : Env) (R : Room) (s : State) (m : MethodId) (args : Array Value) (below : List Frame) (meth : Method) (c : Code) (H : Heap) (locs : List Loc) (cells slots : Nat) (Q : State → Prop) (g : JFrame) (q : Addr) : Prop :=
  ∀ T : State, T.heap = H → Stand p l e R s m args below meth c T locs cells slots → ∃ t, Steps p.tables e below ((T.setTop g).pushFrame (.throwing q)) t ∧ Q t
def vx_Run (p : Program) (l : Launch) (e : Env) (R : Room) (s : State) (m : MethodId) (args : Array Value) (below : List Frame) (meth : Method) (c : Code) (H : Heap) (locs : List Loc) (cells slots mc ms : Nat) (g : JFrame) (rest : List Value) (Qa : State → Outcome → State → Prop) (XC : String → State → State → Prop) (free : Addr → Prop) : Prop :=
  ∀ T : State, T.heap = H → Stand p l e R s m args below meth c T locs cells slots →
    (∃ (v : Option Value) (st₀ t T' : State) (L : List Loc), st₀.heap = H ∧ Stand p l e R s m args below meth c T' (locs ++ L) (cells + mc) (slots + ms) ∧ (∀ q ∈ L, free q.base) ∧ T'.heap = t.heap ∧ T'.vm = t.vm ∧ Qa st₀ (.returned v) t ∧
      Goes p e below T g T' { g with pc := g.pc + 3, stack := v.toList ++ rest }) ∨
    (∃ (q : Addr) (st₀ t T' : State) (L : List Loc) (E : String) (ce : Cell), st₀.heap = H ∧ Stand p l e R s m args below meth c T' (locs ++ L) (cells + mc) (slots + ms) ∧ (∀ z ∈ L, free z.base) ∧ T'.heap = t.heap ∧ T'.vm = t.vm ∧ XC E st₀ t ∧ t.heap[q]? = some ce ∧ ce.vm = .none ∧ s.vm.findClass E = some ce.cls ∧
      Steps p.tables e below (T.setTop g) ((T'.setTop { g with stack := rest }).pushFrame (.throwing q)))
def vx_X {S : Type} (px : S → Prop) (B : String → S → State → Prop) (A : Nat → Prop) : String → State → State → Prop := fun E st t => ∃ u : S, px u ∧ B E u t ∧ va_F A st t
section Runs
variable {p : Program} {l : Launch} {e : Env} {R : Room} {s : State} {m : MethodId} {args : Array Value} {below : List Frame} {meth : Method} {c : Code} {H : Heap} {locs : List Loc} {cells slots : Nat}
variable {y : MethodName} {bytes cc : ByteArray} {maxL nL mc ms n index : Nat} {ret : Option FieldType} {ws : List Cond} {rm : Room} {Pc : Array Value → State → Prop} {Qc : Array Value → State → Outcome → State → Prop} {XC : String → State → State → Prop} {free : Addr → Prop} {Ts : List Cond} {own C : String} {b : Addr} {As rest : List Value} {g : JFrame}
theorem vx_callBack (cb : CallB R s args own index y bytes maxL ret ws rm mc ms n) (hM : vx_Met l y ws rm Pc Qc XC mc ms free) (hbl : FrameBlind Pc) : vx_Back l R p e below s args y 3 8 (PreOf R mc ms Pc) (PostOf Qc mc ms free) (vx_Post XC mc ms free) := by
  obtain ⟨hrc, hrs, hfr, hlo, hws, hcw, -, hini, -⟩ := cb
  exact vx_back (bytes := bytes) (maxL := maxL) (ret := ret) hM hbl hrc hrs hfr hlo hws hcw (fun a' U hW => word_at hW (Or.inl (by first | rfl | simp [Cond.onTables, Cond.keeps, Cond.steady])) hini)
theorem vx_runV (S : CallFix p m c cc nL s args Ts own) (hM : vx_Met l y ws rm Pc Qc XC mc ms free) (cw : CallW R s args own C index y bytes maxL ret ws rm mc ms n) (hp : PreV s H C b Pc As)
    (hg : g.method = m) (hn : As.length = n) (hsize : g.locals.size = nL) (hstack : g.stack = As.reverse ++ .ref b :: rest) (hW : 2 * g.monitorRoom + (rest.map fun v => v.category).sum ≤ 8) (hdg : decode cc g.pc = .ok (.invokevirtual index, 3)) (hf : cells + mc ≤ R.cells ∧ slots + ms ≤ R.slots) :
    vx_Run p l e R s m args below meth c H locs cells slots mc ms g rest (Qc (Value.ref b :: As).toArray) XC free := by
  have hK : vx_Back l R p e below s args y 3 8 (PreOf R mc ms Pc) (PostOf Qc mc ms free) (vx_Post XC mc ms free) := vx_callBack cw.1 hM hp.1
  obtain ⟨⟨-, -, -, -, -, -, hcode, -, hy, hlen, hl⟩, hin, hse⟩ := cw
  obtain ⟨hx, hb, hml, ho, -⟩ := S
  obtain ⟨-, ⟨cellB, hcB, hoB, hclB⟩, hPc⟩ := hp
  intro T hT X
  rcases vx_callV X hx (C := C) (bytes := bytes) (maxL := maxL) (ret := ret) ho hl hin hse hcode hy hK (by rw [hT]; exact hcB) hoB hclB hg (hsize.trans hml.symm) (argsL := As) (rest := rest) (fun sig h => hn.trans (hlen sig h)) hstack hW (by rw [hb]; exact hdg)
    (fun vm₁ hW₁ => ⟨hf.1, hf.2, hPc (T.setVm vm₁) hT hW₁⟩) with ⟨v, vm₁, ⟨U', l2, c2, s2⟩, hW₁, X', ⟨g', mk, t, L, e1, e2, hq, h1, hL, h2, h3⟩, st⟩ | ⟨q, vm₁, ⟨U', l2, c2, s2⟩, hW₁, X', ⟨g', mk, t, L, E, ce, e1, e2, hq, hce, hcv, hcl, h1, hL, h2, h3⟩, st⟩
  · dsimp only [Pt.U, Pt.locs, Pt.cells, Pt.slots] at X' e1 e2 h1 h2 h3 st
    subst h1; subst h2; subst h3
    exact Or.inl ⟨v, (T.setVm vm₁).calling g' mk (Value.ref b :: As).toArray, t, U', L, hT, X', hL, e1, e2, hq, st⟩
  · dsimp only [Pt.U, Pt.locs, Pt.cells, Pt.slots] at X' e1 e2 h1 h2 h3 st hcl
    subst h1; subst h2; subst h3
    exact Or.inr ⟨q, (T.setVm vm₁).calling g' mk (Value.ref b :: As).toArray, t, U', L, E, ce, hT, X', hL, e1, e2, hq, hce, hcv, vx_cls hW₁ hcl, st⟩
theorem vx_runS (S : CallFix p m c cc nL s args Ts own) (hM : vx_Met l y ws rm Pc Qc XC mc ms free) (cw : CallB R s args own index y bytes maxL ret ws rm mc ms n ∧ (Cond.static y).before args s = true) (hp : PreS s H Pc As)
    (hg : g.method = m) (hn : As.length = n) (hsize : g.locals.size = nL) (hstack : g.stack = As.reverse ++ rest) (hW : 2 * g.monitorRoom + (rest.map fun v => v.category).sum ≤ 8) (hdg : decode cc g.pc = .ok (.invokestatic index, 3)) (hf : cells + mc ≤ R.cells ∧ slots + ms ≤ R.slots) :
    vx_Run p l e R s m args below meth c H locs cells slots mc ms g rest (Qc As.toArray) XC free := by
  have hK : vx_Back l R p e below s args y 3 8 (PreOf R mc ms Pc) (PostOf Qc mc ms free) (vx_Post XC mc ms free) := vx_callBack cw.1 hM hp.1
  obtain ⟨⟨-, -, -, -, -, -, hcode, hini, hy, hlen, hl⟩, hstt⟩ := cw
  obtain ⟨hx, hb, hml, ho, -⟩ := S
  intro T hT X
  rcases vx_callS X hx (bytes := bytes) (maxL := maxL) (ret := ret) ho hl hstt hini hcode hy hK hg (hsize.trans hml.symm) (argsL := As) (rest := rest) (fun sig h => hn.trans (hlen sig h)) hstack hW (by rw [hb]; exact hdg)
    (fun vm₁ hW₁ => ⟨hf.1, hf.2, hp.2 (T.setVm vm₁) hT hW₁⟩) with ⟨v, vm₁, ⟨U', l2, c2, s2⟩, hW₁, X', ⟨g', mk, t, L, e1, e2, hq, h1, hL, h2, h3⟩, st⟩ | ⟨q, vm₁, ⟨U', l2, c2, s2⟩, hW₁, X', ⟨g', mk, t, L, E, ce, e1, e2, hq, hce, hcv, hcl, h1, hL, h2, h3⟩, st⟩
  · dsimp only [Pt.U, Pt.locs, Pt.cells, Pt.slots] at X' e1 e2 h1 h2 h3 st
    subst h1; subst h2; subst h3
    exact Or.inl ⟨v, (T.setVm vm₁).calling g' mk As.toArray, t, U', L, hT, X', hL, e1, e2, hq, st⟩
  · dsimp only [Pt.U, Pt.locs, Pt.cells, Pt.slots] at X' e1 e2 h1 h2 h3 st hcl
    subst h1; subst h2; subst h3
    exact Or.inr ⟨q, (T.setVm vm₁).calling g' mk As.toArray, t, U', L, E, ce, hT, X', hL, e1, e2, hq, hce, hcv, vx_cls hW₁ hcl, st⟩
end Runs
section Rows
variable {p : Program} {l : Launch} {e : Env} {R : Room} {s : State} {m : MethodId} {args : Array Value} {below : List Frame} {meth : Method} {c : Code} {H : Heap} {locs : List Loc} {cells slots : Nat} {Q : State → Prop}
variable {mc ms : Nat} {free : Addr → Prop} {A0 A1 : Nat → Prop} {H0 : Heap} {a : Array Value} {pc : Nat} {ls : Array Slot} {st0 rest : List Value}
theorem vx_keep {st₀ t T' : State} {L : List Loc} (h0 : st₀.heap = H) (e1 : T'.heap = t.heap) (hS : va_S A0 H0 H locs) (hA : ∀ q, q < H.size → A1 q → A0 q) (hf : ∀ q, free q → A0 q) (hL : ∀ q ∈ L, free q.base) (hF : va_F A1 st₀ t) :
    H.size ≤ T'.heap.size ∧ (∀ q : Nat, q < H.size → ¬ A1 q → T'.heap[q]? = H[q]?) ∧ va_S A0 H0 T'.heap (locs ++ L) := by
  obtain ⟨hz, hk⟩ := hF
  rw [h0] at hz hk
  exact ⟨by rw [e1]; exact hz, fun q h1 h2 => by rw [e1]; exact hk q h1 h2,
    ⟨Nat.le_trans hS.1 (by rw [e1]; exact hz), fun q h1 h2 => by rw [e1, hk q (Nat.lt_of_lt_of_le h1 hS.1) (fun z => h2 (hA q (Nat.lt_of_lt_of_le h1 hS.1) z))]; exact hS.2.1 q h1 h2, fun q hq => by
      rcases List.mem_append.mp hq with h | h
      · exact hS.2.2 q h
      · exact hf _ (hL q h)⟩⟩
theorem vx_calli {S SX : Type} {post : Int32 → S → Prop} {px : SX → Prop} {B : S → State → Prop} {BX : String → SX → State → Prop} {AX : Nat → Prop} (hr : vx_Run p l e R s m args below meth c H locs cells slots mc ms (F0 m pc ls st0) rest (va_Qi post B A1 a) (vx_X px BX AX) free) (hS : va_S A0 H0 H locs) (hA : ∀ q, q < H.size → A1 q → A0 q) (hf : ∀ q, free q → A0 q) (hAX : ∀ q, q < H.size → AX q → A0 q)
    (kx : ∀ (E : String) (ce : Cell) (q9 : Addr) (u : SX) (t : State) (H1 : Heap) (locs1 : List Loc), t.heap = H1 → s.vm.Alike t.vm → px u → BX E u t → H.size ≤ H1.size → (∀ q : Nat, q < H.size → ¬ AX q → H1[q]? = H[q]?) → va_S A0 H0 H1 locs1 → H1[q9]? = some ce → ce.vm = .none → s.vm.findClass E = some ce.cls → vx_W p l e R s m args below meth c H1 locs1 (cells + mc) (slots + ms) Q (F0 m pc ls rest) q9)
    (kk : ∀ (r : Int32) (u : S) (t : State) (H1 : Heap) (locs1 : List Loc), t.heap = H1 → s.vm.Alike t.vm → post r u → B u t → H.size ≤ H1.size → (∀ q : Nat, q < H.size → ¬ A1 q → H1[q]? = H[q]?) → va_S A0 H0 H1 locs1 → W p l e R s m args below meth c H1 locs1 (cells + mc) (slots + ms) Q (F0 m (pc + 3) ls (.int r :: rest))) : W p l e R s m args below meth c H locs cells slots Q (F0 m pc ls st0) := by
  intro T hT X
  rcases hr T hT X with ⟨v, st₀, t, T', L, h0, X', hL, e1, e2, ⟨⟨r, u, hv, hp, hb⟩, hF⟩, st⟩ | ⟨q, st₀, t, T', L, E, ce, h0, X', hL, e1, e2, ⟨u, hp, hb, hF⟩, hce, hcv, hcl, st⟩
  · cases hv
    obtain ⟨k1, k2, k3⟩ := vx_keep h0 e1 hS hA hf hL hF
    obtain ⟨t2, a1, b1⟩ := kk r u t T'.heap (locs ++ L) e1.symm (by rw [← e2]; exact X'.warmed.alike) hp hb k1 k2 k3 T' rfl X'
    exact ⟨t2, st t2 a1, b1⟩
  · obtain ⟨k1, k2, k3⟩ := vx_keep h0 e1 hS hAX hf hL hF
    obtain ⟨t2, a1, b1⟩ := kx E ce q u t T'.heap (locs ++ L) e1.symm (by rw [← e2]; exact X'.warmed.alike) hp hb k1 k2 k3 (by rw [e1]; exact hce) hcv hcl T' rfl X'
    exact ⟨t2, st.trans a1, b1⟩
theorem vx_calll {S SX : Type} {post : Int64 → S → Prop} {px : SX → Prop} {B : S → State → Prop} {BX : String → SX → State → Prop} {AX : Nat → Prop} (hr : vx_Run p l e R s m args below meth c H locs cells slots mc ms (F0 m pc ls st0) rest (va_Ql post B A1 a) (vx_X px BX AX) free) (hS : va_S A0 H0 H locs) (hA : ∀ q, q < H.size → A1 q → A0 q) (hf : ∀ q, free q → A0 q) (hAX : ∀ q, q < H.size → AX q → A0 q)
    (kx : ∀ (E : String) (ce : Cell) (q9 : Addr) (u : SX) (t : State) (H1 : Heap) (locs1 : List Loc), t.heap = H1 → s.vm.Alike t.vm → px u → BX E u t → H.size ≤ H1.size → (∀ q : Nat, q < H.size → ¬ AX q → H1[q]? = H[q]?) → va_S A0 H0 H1 locs1 → H1[q9]? = some ce → ce.vm = .none → s.vm.findClass E = some ce.cls → vx_W p l e R s m args below meth c H1 locs1 (cells + mc) (slots + ms) Q (F0 m pc ls rest) q9)
    (kk : ∀ (r : Int64) (u : S) (t : State) (H1 : Heap) (locs1 : List Loc), t.heap = H1 → s.vm.Alike t.vm → post r u → B u t → H.size ≤ H1.size → (∀ q : Nat, q < H.size → ¬ A1 q → H1[q]? = H[q]?) → va_S A0 H0 H1 locs1 → W p l e R s m args below meth c H1 locs1 (cells + mc) (slots + ms) Q (F0 m (pc + 3) ls (.long r :: rest))) : W p l e R s m args below meth c H locs cells slots Q (F0 m pc ls st0) := by
  intro T hT X
  rcases hr T hT X with ⟨v, st₀, t, T', L, h0, X', hL, e1, e2, ⟨⟨r, u, hv, hp, hb⟩, hF⟩, st⟩ | ⟨q, st₀, t, T', L, E, ce, h0, X', hL, e1, e2, ⟨u, hp, hb, hF⟩, hce, hcv, hcl, st⟩
  · cases hv
    obtain ⟨k1, k2, k3⟩ := vx_keep h0 e1 hS hA hf hL hF
    obtain ⟨t2, a1, b1⟩ := kk r u t T'.heap (locs ++ L) e1.symm (by rw [← e2]; exact X'.warmed.alike) hp hb k1 k2 k3 T' rfl X'
    exact ⟨t2, st t2 a1, b1⟩
  · obtain ⟨k1, k2, k3⟩ := vx_keep h0 e1 hS hAX hf hL hF
    obtain ⟨t2, a1, b1⟩ := kx E ce q u t T'.heap (locs ++ L) e1.symm (by rw [← e2]; exact X'.warmed.alike) hp hb k1 k2 k3 (by rw [e1]; exact hce) hcv hcl T' rfl X'
    exact ⟨t2, st.trans a1, b1⟩
theorem vx_callf {S SX : Type} {post : UInt32 → S → Prop} {px : SX → Prop} {B : S → State → Prop} {BX : String → SX → State → Prop} {AX : Nat → Prop} (hr : vx_Run p l e R s m args below meth c H locs cells slots mc ms (F0 m pc ls st0) rest (va_Qf post B A1 a) (vx_X px BX AX) free) (hS : va_S A0 H0 H locs) (hA : ∀ q, q < H.size → A1 q → A0 q) (hf : ∀ q, free q → A0 q) (hAX : ∀ q, q < H.size → AX q → A0 q)
    (kx : ∀ (E : String) (ce : Cell) (q9 : Addr) (u : SX) (t : State) (H1 : Heap) (locs1 : List Loc), t.heap = H1 → s.vm.Alike t.vm → px u → BX E u t → H.size ≤ H1.size → (∀ q : Nat, q < H.size → ¬ AX q → H1[q]? = H[q]?) → va_S A0 H0 H1 locs1 → H1[q9]? = some ce → ce.vm = .none → s.vm.findClass E = some ce.cls → vx_W p l e R s m args below meth c H1 locs1 (cells + mc) (slots + ms) Q (F0 m pc ls rest) q9)
    (kk : ∀ (r : UInt32) (u : S) (t : State) (H1 : Heap) (locs1 : List Loc), t.heap = H1 → s.vm.Alike t.vm → post r u → B u t → H.size ≤ H1.size → (∀ q : Nat, q < H.size → ¬ A1 q → H1[q]? = H[q]?) → va_S A0 H0 H1 locs1 → W p l e R s m args below meth c H1 locs1 (cells + mc) (slots + ms) Q (F0 m (pc + 3) ls (.float r :: rest))) : W p l e R s m args below meth c H locs cells slots Q (F0 m pc ls st0) := by
  intro T hT X
  rcases hr T hT X with ⟨v, st₀, t, T', L, h0, X', hL, e1, e2, ⟨⟨r, u, hv, hp, hb⟩, hF⟩, st⟩ | ⟨q, st₀, t, T', L, E, ce, h0, X', hL, e1, e2, ⟨u, hp, hb, hF⟩, hce, hcv, hcl, st⟩
  · cases hv
    obtain ⟨k1, k2, k3⟩ := vx_keep h0 e1 hS hA hf hL hF
    obtain ⟨t2, a1, b1⟩ := kk r u t T'.heap (locs ++ L) e1.symm (by rw [← e2]; exact X'.warmed.alike) hp hb k1 k2 k3 T' rfl X'
    exact ⟨t2, st t2 a1, b1⟩
  · obtain ⟨k1, k2, k3⟩ := vx_keep h0 e1 hS hAX hf hL hF
    obtain ⟨t2, a1, b1⟩ := kx E ce q u t T'.heap (locs ++ L) e1.symm (by rw [← e2]; exact X'.warmed.alike) hp hb k1 k2 k3 (by rw [e1]; exact hce) hcv hcl T' rfl X'
    exact ⟨t2, st.trans a1, b1⟩
theorem vx_calld {S SX : Type} {post : UInt64 → S → Prop} {px : SX → Prop} {B : S → State → Prop} {BX : String → SX → State → Prop} {AX : Nat → Prop} (hr : vx_Run p l e R s m args below meth c H locs cells slots mc ms (F0 m pc ls st0) rest (va_Qd post B A1 a) (vx_X px BX AX) free) (hS : va_S A0 H0 H locs) (hA : ∀ q, q < H.size → A1 q → A0 q) (hf : ∀ q, free q → A0 q) (hAX : ∀ q, q < H.size → AX q → A0 q)
    (kx : ∀ (E : String) (ce : Cell) (q9 : Addr) (u : SX) (t : State) (H1 : Heap) (locs1 : List Loc), t.heap = H1 → s.vm.Alike t.vm → px u → BX E u t → H.size ≤ H1.size → (∀ q : Nat, q < H.size → ¬ AX q → H1[q]? = H[q]?) → va_S A0 H0 H1 locs1 → H1[q9]? = some ce → ce.vm = .none → s.vm.findClass E = some ce.cls → vx_W p l e R s m args below meth c H1 locs1 (cells + mc) (slots + ms) Q (F0 m pc ls rest) q9)
    (kk : ∀ (r : UInt64) (u : S) (t : State) (H1 : Heap) (locs1 : List Loc), t.heap = H1 → s.vm.Alike t.vm → post r u → B u t → H.size ≤ H1.size → (∀ q : Nat, q < H.size → ¬ A1 q → H1[q]? = H[q]?) → va_S A0 H0 H1 locs1 → W p l e R s m args below meth c H1 locs1 (cells + mc) (slots + ms) Q (F0 m (pc + 3) ls (.double r :: rest))) : W p l e R s m args below meth c H locs cells slots Q (F0 m pc ls st0) := by
  intro T hT X
  rcases hr T hT X with ⟨v, st₀, t, T', L, h0, X', hL, e1, e2, ⟨⟨r, u, hv, hp, hb⟩, hF⟩, st⟩ | ⟨q, st₀, t, T', L, E, ce, h0, X', hL, e1, e2, ⟨u, hp, hb, hF⟩, hce, hcv, hcl, st⟩
  · cases hv
    obtain ⟨k1, k2, k3⟩ := vx_keep h0 e1 hS hA hf hL hF
    obtain ⟨t2, a1, b1⟩ := kk r u t T'.heap (locs ++ L) e1.symm (by rw [← e2]; exact X'.warmed.alike) hp hb k1 k2 k3 T' rfl X'
    exact ⟨t2, st t2 a1, b1⟩
  · obtain ⟨k1, k2, k3⟩ := vx_keep h0 e1 hS hAX hf hL hF
    obtain ⟨t2, a1, b1⟩ := kx E ce q u t T'.heap (locs ++ L) e1.symm (by rw [← e2]; exact X'.warmed.alike) hp hb k1 k2 k3 (by rw [e1]; exact hce) hcv hcl T' rfl X'
    exact ⟨t2, st.trans a1, b1⟩
theorem vx_callv {S SX : Type} {post : S → Prop} {px : SX → Prop} {B : S → State → Prop} {BX : String → SX → State → Prop} {AX : Nat → Prop} (hr : vx_Run p l e R s m args below meth c H locs cells slots mc ms (F0 m pc ls st0) rest (va_Qv post B A1 a) (vx_X px BX AX) free) (hS : va_S A0 H0 H locs) (hA : ∀ q, q < H.size → A1 q → A0 q) (hf : ∀ q, free q → A0 q) (hAX : ∀ q, q < H.size → AX q → A0 q)
    (kx : ∀ (E : String) (ce : Cell) (q9 : Addr) (u : SX) (t : State) (H1 : Heap) (locs1 : List Loc), t.heap = H1 → s.vm.Alike t.vm → px u → BX E u t → H.size ≤ H1.size → (∀ q : Nat, q < H.size → ¬ AX q → H1[q]? = H[q]?) → va_S A0 H0 H1 locs1 → H1[q9]? = some ce → ce.vm = .none → s.vm.findClass E = some ce.cls → vx_W p l e R s m args below meth c H1 locs1 (cells + mc) (slots + ms) Q (F0 m pc ls rest) q9)
    (kk : ∀ (u : S) (t : State) (H1 : Heap) (locs1 : List Loc), t.heap = H1 → s.vm.Alike t.vm → post u → B u t → H.size ≤ H1.size → (∀ q : Nat, q < H.size → ¬ A1 q → H1[q]? = H[q]?) → va_S A0 H0 H1 locs1 → W p l e R s m args below meth c H1 locs1 (cells + mc) (slots + ms) Q (F0 m (pc + 3) ls (rest))) : W p l e R s m args below meth c H locs cells slots Q (F0 m pc ls st0) := by
  intro T hT X
  rcases hr T hT X with ⟨v, st₀, t, T', L, h0, X', hL, e1, e2, ⟨⟨u, hv, hp, hb⟩, hF⟩, st⟩ | ⟨q, st₀, t, T', L, E, ce, h0, X', hL, e1, e2, ⟨u, hp, hb, hF⟩, hce, hcv, hcl, st⟩
  · cases hv
    obtain ⟨k1, k2, k3⟩ := vx_keep h0 e1 hS hA hf hL hF
    obtain ⟨t2, a1, b1⟩ := kk u t T'.heap (locs ++ L) e1.symm (by rw [← e2]; exact X'.warmed.alike) hp hb k1 k2 k3 T' rfl X'
    exact ⟨t2, st t2 a1, b1⟩
  · obtain ⟨k1, k2, k3⟩ := vx_keep h0 e1 hS hAX hf hL hF
    obtain ⟨t2, a1, b1⟩ := kx E ce q u t T'.heap (locs ++ L) e1.symm (by rw [← e2]; exact X'.warmed.alike) hp hb k1 k2 k3 (by rw [e1]; exact hce) hcv hcl T' rfl X'
    exact ⟨t2, st.trans a1, b1⟩
/-- caught by the row x of this method's table; the rows ahead don't take it -/
theorem vx_catch {own name : String} {E : String} {ce : Cell} {q : Addr} (hown : s.vm.findClass own = some m.cls) (pre : List ExceptionTableEntry) (x : ExceptionTableEntry) (suf : List ExceptionTableEntry) (hsplit : c.exceptionTable.toList = pre ++ x :: suf)
    (hpass : ∀ z ∈ pre, covers z pc = false ∨ (z.catchType ≠ 0 ∧ ∃ nm : String, (Cond.classLink own z.catchType nm).before args s = true ∧ va_Nc E nm s)) (hx : covers x pc = true) (h0 : x.catchType ≠ 0)
    (hlink : (Cond.classLink own x.catchType name).before args s = true) (hcast : (Cond.castable E name).before args s = true) (hcell : H[q]? = some ce) (hv : ce.vm = .none) (hcl : s.vm.findClass E = some ce.cls)
    (kk : W p l e R s m args below meth c H locs cells slots Q (F0 m x.handlerPc ls [.ref q])) : vx_W p l e R s m args below meth c H locs cells slots Q (F0 m pc ls rest) q := by
  intro T hT X
  have hpl : e.platform.magicAccessors = ({} : Platform).magicAccessors := by rw [X.admits.platform]
  obtain ⟨c3, c4, hc3, hc4, hasg⟩ := Cond.castable_spec hcast
  cases Option.some.inj (hc3.symm.trans hcl)
  obtain ⟨c5, hc5, hcl5⟩ := Cond.classLink_spec hown hlink e.platform hpl
  cases Option.some.inj (hc4.symm.trans hc5)
  obtain ⟨vm', X', st⟩ := X.thenCaughtThrough q (g := F0 m pc ls rest) rfl (Steps.refl _) (by rw [hT]; exact hcell) (by rw [hv]; rfl) (by obtain ⟨k9, h9, -⟩ := Vm.findClass_spec hcl; exact ⟨k9, h9⟩) pre x suf hsplit
    (fun z hz => by
      rcases hpass z hz with h | ⟨hz0, nm, hl1, hn1⟩
      · exact Or.inl h
      · obtain ⟨c6, hc6, hcl6⟩ := Cond.classLink_spec hown hl1 e.platform hpl
        obtain ⟨a8, b8, h1, h2, h3⟩ := hn1
        cases Option.some.inj (h1.symm.trans hcl)
        cases Option.some.inj (h2.symm.trans hc6)
        exact Or.inr ⟨hz0, _, hcl6, h3⟩) hx (Or.inr ⟨h0, c4, hcl5, hasg⟩)
  obtain ⟨t, a1, b1⟩ := kk (T.setVm vm') hT X'
  exact ⟨t, st.trans a1, b1⟩
end Rows
section Ends
variable {p : Program} {l : Launch} {e : Env} {R : Room} {s : State} {m : MethodId} {args : Array Value} {below : List Frame} {meth : Method} {c : Code} {H : Heap} {locs : List Loc} {cells slots : Nat} {Q : State → Prop}
variable {mc ms : Nat} {free : Addr → Prop} {A0 A1 : Nat → Prop} {H0 : Heap} {a : Array Value} {ls : Array Slot} {st0 rest : List Value}
variable {Qc : Array Value → State → Outcome → State → Prop} {XC : String → State → State → Prop}
/-- what a body that may throw owes at its end -/
def vx_MQ (below : List Frame) (Qc : Array Value → State → Outcome → State → Prop) (XC : String → State → State → Prop) (a : Array Value) (s : State) (mc ms : Nat) (free : Addr → Prop) : State → Prop := fun t =>
  ∃ o, t.status = .running ∧ Ended t below o ∧ vx_Q Qc XC mc ms free a s o t
theorem vx_ret {g : JFrame} {mc ms : Nat} (k : W p l e R s m args below meth c H locs cells slots (MQ below Qc args s mc ms free) g) : W p l e R s m args below meth c H locs cells slots (vx_MQ below Qc XC args s mc ms free) g := by
  intro T hT X
  obtain ⟨t, a1, o, b1, b2, b3, b4⟩ := k T hT X
  exact ⟨t, a1, o, b1, b2, Or.inl ⟨b3, b4⟩⟩
/-- not caught here: it goes on to the caller -/
theorem vx_widen {g : JFrame} {q : Addr} {k n : Nat} (h1 : cells ≤ k) (h2 : slots ≤ n) (kk : vx_W p l e R s m args below meth c H locs k n Q g q) : vx_W p l e R s m args below meth c H locs cells slots Q g q := fun T hT X => kk T hT (stand_widen X h1 h2)
theorem vx_out {pc : Nat} {E : String} {ce : Cell} {q : Addr} {mc ms : Nat} (hout : ∀ x ∈ c.exceptionTable.toList, covers x pc = false) (hlocks : meth.locks = false) (hcell : H[q]? = some ce) (hv : ce.vm = .none) (hcl : s.vm.findClass E = some ce.cls)
    (hx : ∀ t : State, t.heap = H → s.vm.Alike t.vm → XC E s t) (hf : ∀ z ∈ locs, free z.base) (hc : cells ≤ mc) (hs : slots ≤ ms) :
    vx_W p l e R s m args below meth c H locs cells slots (vx_MQ below Qc XC args s mc ms free) (F0 m pc ls rest) q := by
  intro T hT X
  obtain ⟨st1, hrun, hend, hW, hsm⟩ := X.leaveThrown q (g := F0 m pc ls rest) rfl rfl rfl hout hlocks
  have hcell9 : (T.setFrames (.throwing q :: below)).heap[q]? = some ce := by
    show T.heap[q]? = some ce
    rw [hT]; exact hcell
  exact ⟨_, st1, .threw q, hrun, hend, Or.inr ⟨q, rfl, E, ce, locs, hx _ hT hW.alike, hcell9, hv, hcl, hW, hsm.mono hc hs, hf⟩⟩
theorem vx_frame {U : State} {k n : Nat} (h : s.sameButNew ({ U with vm := s.vm } : State) locs k n) : s.heap.size ≤ U.heap.size ∧ ∀ q : Nat, q < s.heap.size → (∀ z ∈ locs, z.base ≠ q) → U.heap[q]? = s.heap[q]? := by
  obtain ⟨-, h2, -, -, -, h6⟩ := h
  refine ⟨h2, fun q hq hz => ?_⟩
  obtain ⟨c9, e1, e2, e3, e4⟩ := h6 q _ (Array.getElem?_eq_getElem hq)
  have hs : c9.slots = (s.heap[q]).slots := Array.ext_getElem? fun i => e4 i fun hm => hz _ hm rfl
  have h9 : c9 = s.heap[q] := by
    rw [hs] at e2
    exact e2
  have e5 : U.heap[q]? = some c9 := e1
  rw [e5, h9, Array.getElem?_eq_getElem hq]
/-- the words of a throw but the four that speak of the heap -/
def vx_no (w : Cond) : Bool := decide (w ≠ .isRef (.static Bundle.tN "UNASSIGNED_STACK" Bundle.steD)) && decide (w ≠ .isRef (.static Bundle.tN "SUPPRESSED_SENTINEL" Bundle.listD)) && decide (w ≠ .laysStatic Bundle.tN "UNASSIGNED_STACK" Bundle.steD) && decide (w ≠ .laysStatic Bundle.tN "SUPPRESSED_SENTINEL" Bundle.listD)
def vx_at0 (own : String) (ic : Nat) (X : String) (names : List String) : List Cond := (Bundle.ownAtoms0 own ic X names).filter vx_no
def vx_atS (own : String) (ic : Nat) (X : String) (names : List String) : List Cond := (Bundle.ownAtoms own ic X names).filter vx_no
/-- a word that the tables alone decide, or a good one -/
def vx_ot (w : Cond) : Bool := w.onTables || goodWord w
theorem vx_ot_at {args a' : Array Value} {s U : State} {w : Cond} (hW : s.WarmedH U.vm) (hvm : s.vm = U.vm) (hg : vx_ot w = true) (h : w.before args s = true) : w.before a' U = true := by
  simp only [vx_ot, Bool.or_eq_true] at hg
  rcases hg with hg | hg
  · exact va_tabs hg hvm h
  · exact word_at hW (good_of_word hg) h
/-- a list's words: the good ones out of the method's own list, the others by premises of their own -/
theorem vx_hat {args : Array Value} {s : State} {L B : List Cond} (h1 : ∀ w ∈ L.filter goodWord, w.before args s = true) (h2 : ∀ w ∈ L.filter (fun w => !goodWord w), w ∈ B) (h3 : ∀ w ∈ B, w.before args s = true) : ∀ w ∈ L, w.before args s = true := by
  intro w hw
  by_cases g : goodWord w = true
  · exact h1 w (List.mem_filter.mpr ⟨hw, g⟩)
  · refine h3 w (h2 w (List.mem_filter.mpr ⟨hw, ?_⟩))
    show (!goodWord w) = true
    cases hgw : goodWord w
    · rfl
    · exact absurd hgw g
theorem vx_c {args : Array Value} {s : State} {w : Cond} {B : List Cond} (h : w.before args s = true) (t : ∀ w ∈ B, w.before args s = true) : ∀ w' ∈ w :: B, w'.before args s = true := fun w' h' => (List.mem_cons.mp h').elim (fun e => by rw [e]; exact h) (t w')
theorem vx_n {args : Array Value} {s : State} : ∀ w ∈ ([] : List Cond), w.before args s = true := fun _ h => nomatch h
theorem vx_own {args : Array Value} {s : State} {L : List Cond} (h1 : ∀ w ∈ L.filter vx_no, w.before args s = true)
    (hU : (Cond.isRef (.static Bundle.tN "UNASSIGNED_STACK" Bundle.steD)).before args s = true) (hN : (Cond.isRef (.static Bundle.tN "SUPPRESSED_SENTINEL" Bundle.listD)).before args s = true)
    (lU : (Cond.laysStatic Bundle.tN "UNASSIGNED_STACK" Bundle.steD).before args s = true) (lN : (Cond.laysStatic Bundle.tN "SUPPRESSED_SENTINEL" Bundle.listD).before args s = true) : ∀ w ∈ L, w.before args s = true := by
  intro w hw
  by_cases e1 : w = .isRef (.static Bundle.tN "UNASSIGNED_STACK" Bundle.steD)
  · rw [e1]; exact hU
  · by_cases e2 : w = .isRef (.static Bundle.tN "SUPPRESSED_SENTINEL" Bundle.listD)
    · rw [e2]; exact hN
    · by_cases e3 : w = .laysStatic Bundle.tN "UNASSIGNED_STACK" Bundle.steD
      · rw [e3]; exact lU
      · by_cases e4 : w = .laysStatic Bundle.tN "SUPPRESSED_SENTINEL" Bundle.listD
        · rw [e4]; exact lN
        · exact h1 w (List.mem_filter.mpr ⟨hw, by unfold vx_no; rw [decide_eq_true e1, decide_eq_true e2, decide_eq_true e3, decide_eq_true e4]; rfl⟩)
/-- where a static field lies, its class's statics cell in H -/
def vx_L (C n d : String) (A : Nat → Prop) (U : State) (H : Heap) : Prop := ∃ (c : ClassId) (k : Class) (i : Nat) (f : Field) (a : Nat) (cell : Cell), U.vm.findClass C = some c ∧ U.fieldFound? C n d = some (c, k, i, f) ∧ f.isStatic = true ∧ k.statics = some a ∧ H[a]? = some cell ∧ cell.vm.isStatics = true ∧ cell.cls = c ∧ f.slot < cell.slots.size ∧ k.staticTypes[f.slot]? = some f.type ∧ ¬ A a
theorem vx_L.moved {C n d : String} {A : Nat → Prop} {u U : State} {H : Heap} (hvm : u.vm.Alike U.vm) (h : vx_L C n d A u H) : vx_L C n d A U H := by
  obtain ⟨c, k, i, f, a, cell, h1, h2, h3, h4, h5, h6, h7, h8, h9, h10⟩ := h
  obtain ⟨k', hi', he⟩ := State.fieldFound?_setVm hvm h2
  exact ⟨c, k', i, f, a, cell, by rw [hvm.findClass]; exact h1, hi', h3, by rw [he]; exact h4, h5, h6, h7, h8, by rw [he]; exact h9, h10⟩
theorem vx_L.kept {C n d : String} {A : Nat → Prop} {U : State} {H H1 : Heap} (h : vx_L C n d A U H) (hq : ∀ a : Nat, a < H.size → ¬ A a → H1[a]? = H[a]?) : vx_L C n d A U H1 := by
  obtain ⟨c, k, i, f, a, cell, h1, h2, h3, h4, h5, h6, h7, h8, h9, h10⟩ := h
  exact ⟨c, k, i, f, a, cell, h1, h2, h3, h4, by rw [hq a (Array.getElem?_eq_some_iff.mp h5).1 h10]; exact h5, h6, h7, h8, h9, h10⟩
theorem vx_L.narrow {C n d : String} {A B : Nat → Prop} {U : State} {H : Heap} (h : vx_L C n d A U H) (hAB : ∀ q, B q → A q) : vx_L C n d B U H := by
  obtain ⟨c, k, i, f, a, cell, h1, h2, h3, h4, h5, h6, h7, h8, h9, h10⟩ := h
  exact ⟨c, k, i, f, a, cell, h1, h2, h3, h4, h5, h6, h7, h8, h9, fun z => h10 (hAB _ z)⟩
theorem vx_L.word {C n d : String} {A : Nat → Prop} {s : State} {args : Array Value} (h : vx_L C n d A s s.heap) : (Cond.laysStatic C n d).before args s = true := by
  obtain ⟨c, k, i, f, a, cell, h1, h2, h3, h4, h5, h6, h7, h8, h9, -⟩ := h
  show (Cond.laysStatic C n d).holds args s none s [] = true
  exact Cond.laysStatic_of h1 h2 h3 h4 h5 h6 h7 h8 h9
/-- .. and what it holds: null or some reference -/
def vx_Zq (C n d : String) (A : Nat → Prop) (U : State) (H : Heap) : Prop := va_Zq C n d A U H ∧ vx_L C n d A U H
theorem vx_Zq.moved {C n d : String} {A : Nat → Prop} {u U : State} {H : Heap} (hvm : u.vm.Alike U.vm) (h : vx_Zq C n d A u H) : vx_Zq C n d A U H := ⟨va_Zq.moved hvm h.1, vx_L.moved hvm h.2⟩
theorem vx_Zq.kept {C n d : String} {A : Nat → Prop} {U : State} {H H1 : Heap} (h : vx_Zq C n d A U H) (hq : ∀ a : Nat, a < H.size → ¬ A a → H1[a]? = H[a]?) : vx_Zq C n d A U H1 := ⟨va_Zq.kept h.1 hq, vx_L.kept h.2 hq⟩
theorem vx_Zq.narrow {C n d : String} {A B : Nat → Prop} {U : State} {H : Heap} (h : vx_Zq C n d A U H) (hAB : ∀ q, B q → A q) : vx_Zq C n d B U H := ⟨va_Zq.narrow h.1 hAB, vx_L.narrow h.2 hAB⟩
theorem vx_Zqof {args : Array Value} {s : State} {C n d : String} {A : Nat → Prop} (hl : (Cond.laysStatic C n d).before args s = true) (hini : (Cond.initialized C).before args s = true) (h : (Cond.isRef (.static C n d)).before args s = true) (hA : ∀ a : Nat, a < s.heap.size → ¬ A a) : vx_Zq C n d A s s.heap := by
  refine ⟨va_Zqof hl hini h hA, ?_⟩
  obtain ⟨c, k, i, f, a, cell, h1, h2, h3, h4, h5, h6, h7, h8, h9⟩ := Cond.laysStatic_spec hl
  exact ⟨c, k, i, f, a, cell, h1, h2, h3, h4, h5, h6, h7, h8, h9, hA a (Array.getElem?_eq_some_iff.mp h5).1⟩
theorem vx_isRef {C n d : String} {v : Value} {A : Nat → Prop} {s : State} {args : Array Value} (h : va_Z C n d v A s s.heap) (hv : v.isRef = true) : (Cond.isRef (.static C n d)).before args s = true := by
  obtain ⟨cf, kf, fi, f, a, cell, h1, h2, h3, h4, h5, h6, h7, -⟩ := h
  have he : (Term.static C n d).eval args s none [] s = some v := by
    simp [Term.eval, State.fieldNamed?, h1, h2, h4, h5, h6, h7]
  simp only [Cond.before, Cond.holds, Cond.value, he]
  cases v <;> simp_all [Value.isRef]
theorem vx_isRefq {C n d : String} {A : Nat → Prop} {s : State} {args : Array Value} (h : va_Zq C n d A s s.heap) : (Cond.isRef (.static C n d)).before args s = true := by
  rcases h with h | ⟨t, h⟩
  · exact vx_isRef h rfl
  · exact vx_isRef h rfl
/-- the same frame, seen from here: as if the method were called anew in this heap -/
theorem vx_rebase {T : State} (X : Stand p l e R s m args below meth c T locs cells slots) {R' : Room} (hf : R'.frames ≤ R.frames) (hl : R'.locals ≤ R.locals) (hc : cells + R'.cells ≤ R.cells) (hs : slots + R'.slots ≤ R.slots) :
    Stand p l e R' ((T.setVm s.vm).setFrames (.invoking m args :: below)) m args below meth c T [] 0 0 := by
  have htop : (T.setVm s.vm).topJava?.isSome := X.here.top
  have hF : ((T.setVm s.vm).setFrames (.invoking m args :: below)).frames = .invoking m args :: below := State.frames_setFrames _ (State.cur_lt_of_top htop)
  obtain ⟨g₀, hg0⟩ := Option.isSome_iff_exists.mp htop
  obtain ⟨r, hr⟩ := State.topJava?_eq_some.mp hg0
  have hl9 : e.platform.stackLimits (T.setVm s.vm).me = e.platform.stackLimits s.me := X.limits
  have hb9 : (T.setVm s.vm).me.stackBytes = s.me.stackBytes := X.bytes
  refine ⟨X.admits, X.cas, X.clock, hF, ?_, X.hears, X.method, X.code, X.here, X.tail, X.warmed, ?_, ?_, ?_⟩
  · have h := X.room
    have hU : ((T.setVm s.vm).setFrames (.invoking m args :: below)).localsInUse = s.localsInUse := by
      rw [State.localsInUse_invoking hF (meth := meth) (c := c) X.method X.code, State.localsInUse_invoking X.frames X.method X.code]
    simp only [State.hasRoom, Bool.and_eq_true, decide_eq_true_eq] at h ⊢
    obtain ⟨⟨⟨⟨h1, h2, h3, h4, h5, h6⟩, h7⟩, h8⟩, h9⟩ := h
    rw [X.frames, List.length_cons] at h2 h3
    have q1 := X.heapSize
    have q2 := X.used
    simp only [hF, hU, List.length_cons, State.stackLimits_setFrames, State.stackBytes_setFrames, hl9, hb9]
    refine ⟨⟨⟨⟨by omega, by omega, by omega, by omega, by omega, h6⟩, ?_⟩, ?_⟩, X.book⟩
    · show T.heap.size + R'.cells ≤ e.platform.maxCells
      omega
    · show T.slotsUsed + R'.slots ≤ e.platform.maxSlots
      omega
  · rw [State.stackLimits_setFrames]; rfl
  · rw [State.stackBytes_setFrames]; rfl
  · refine ⟨?_, Nat.le_refl _, Nat.le_refl _, ?_, ?_, fun a c9 h9 => ⟨c9, h9, rfl, rfl, fun _ _ => rfl⟩⟩
    · obtain ⟨t, ht, -⟩ := State.frames_cons hr
      show T.setVm s.vm = { ((T.setVm s.vm).setFrames (.invoking m args :: below)).setFrames (T.setVm s.vm).frames with heap := T.heap, slotsUsed := T.slotsUsed }
      rw [State.setFrames_setFrames, State.setFrames_self ht]
      rfl
    · show T.slotsUsed = T.slotsUsed + ((T.heap.toList.drop T.heap.size).map (·.slots.size)).sum
      rw [List.drop_eq_nil_of_le (Nat.le_of_eq Array.length_toList)]
      rfl
    · show ((T.heap.toList.drop T.heap.size).map (·.slots.size)).sum ≤ 0
      rw [List.drop_eq_nil_of_le (Nat.le_of_eq Array.length_toList)]
      exact Nat.le_refl _
/-- 'throw new E()': new; dup; invokespecial; athrow -/
theorem vx_throw0 {cc : ByteArray} {pc : Nat} (hexec : p.tables.exec = Jvm.exec) (hb : c.code = cc) (hl : l.stackTraces = false) {own cls : String} {names : List String} {ik ic mc ms : Nat} {A : Nat → Prop}
    (hown : s.vm.findClass own = some m.cls) (hcls : Bundle.fit cls = true) (hnames : ∀ n ∈ names, Bundle.fit n = true)
    (hk : (Cond.classLink own ik cls).before args s = true) (hini : (Cond.initialized cls).before args s = true) (hat : ∀ w ∈ vx_at0 own ic cls names, w.before args s = true)
    (hgood : ∀ w ∈ Cond.classLink own ik cls :: Cond.initialized cls :: vx_at0 own ic cls names, vx_ot w = true)
    (hU : vx_Zq Bundle.tN "UNASSIGNED_STACK" Bundle.steD A s s.heap) (hN : vx_Zq Bundle.tN "SUPPRESSED_SENTINEL" Bundle.listD A s s.heap) (hS : va_S A s.heap H locs) (hsize : ls.size = c.maxLocals)
    (d0 : decode cc pc = .ok (.new ik, 3)) (d3 : decode cc (pc + 3) = .ok (.dup, 1)) (d4 : decode cc (pc + 4) = .ok (.invokespecial ic, 3)) (d7 : decode cc (pc + 7) = .ok (.athrow, 1))
    (hout : ∀ x ∈ c.exceptionTable.toList, covers x (pc + 7) = false)
    (hRframes : names.length + 3 < R.frames) (hRlocals : (rest.map fun v => v.category).sum + (13 * (names.length + 1) + 42) ≤ R.locals) (hRcells : cells + 1 ≤ R.cells) (hRslots : slots + 6 ≤ R.slots) (hlocks : meth.locks = false)
    (hx : ∀ t : State, s.vm.Alike t.vm → H.size ≤ t.heap.size → (∀ q : Nat, q < H.size → t.heap[q]? = H[q]?) → XC cls s t)
    (hf : ∀ z ∈ locs, free z.base) (hc : cells + 1 ≤ mc) (hs : slots + 6 ≤ ms) :
    W p l e R s m args below meth c H locs cells slots (vx_MQ below Qc XC args s mc ms free) (F0 m pc ls rest) := by
  intro T hT X
  have htr : e.platform.stackTraces = false := (show e.platform.stackTraces = l.stackTraces by rw [X.admits.platform]).trans hl
  have Y := vx_rebase X (R' := { frames := R.frames, locals := R.locals, cells := 1, slots := 6 }) (Nat.le_refl _) (Nat.le_refl _) hRcells hRslots
  obtain ⟨s', hA⟩ : ∃ z, z = (T.setVm s.vm).setFrames (.invoking m args :: below) := ⟨_, rfl⟩
  rw [← hA] at Y
  have hvm : s'.vm = s.vm := by rw [hA]; rfl
  have hhp : s'.heap = H := by rw [hA]; exact hT
  have hW0 : s.WarmedH s'.vm := by rw [hvm]; exact State.WarmedH.refl s
  have hat' : ∀ w ∈ vx_at0 own ic cls names, w.before args s' = true := fun w hw => vx_ot_at hW0 hvm.symm (hgood w (List.mem_cons_of_mem _ (List.mem_cons_of_mem _ hw))) (hat w hw)
  have hk' : (Cond.classLink own ik cls).before args s' = true := vx_ot_at hW0 hvm.symm (hgood _ List.mem_cons_self) hk
  have hini' : (Cond.initialized cls).before args s' = true := vx_ot_at hW0 hvm.symm (hgood _ (List.mem_cons_of_mem _ List.mem_cons_self)) hini
  have hU' : vx_Zq Bundle.tN "UNASSIGNED_STACK" Bundle.steD A s' s'.heap := by rw [hhp]; exact vx_Zq.moved hW0.alike (hU.kept hS.2.1)
  have hN' : vx_Zq Bundle.tN "SUPPRESSED_SENTINEL" Bundle.listD A s' s'.heap := by rw [hhp]; exact vx_Zq.moved hW0.alike (hN.kept hS.2.1)
  have h : ∀ w ∈ Bundle.ownAtoms0 own ic cls names, w.before args s' = true := vx_own hat' (vx_isRefq hU'.1) (vx_isRefq hN'.1) hU'.2.word hN'.2.word
  have hown' : s'.vm.findClass own = some m.cls := by rw [hvm]; exact hown
  have hins : (Cond.instantiable cls 6).before args s' = true := h _ (by simp [Bundle.ownAtoms0])
  obtain ⟨vm₁, cX, kX, hfX, hkX, -, -, X₁, st1⟩ := Y.newCold hexec (own := own) (C := cls) (index := ik) (n := 6) hown' hk' hins hini'
    (g := F0 m pc ls rest) rfl (by rw [hb]; exact d0) (Nat.le_refl _) (Nat.le_refl _)
  generalize hT1 : (T.setVm vm₁).pushCell { cls := cX, slots := kX.instanceTypes.map defaultValue, vm := .none } = T1 at X₁ st1
  have hcat : (Value.ref T.heap.size).category = 1 := rfl
  have hcellA : T1.heap[T.heap.size]? = some (freshCell cX kX) := by rw [← hT1]; exact State.heap_pushCell_size _ _
  have d3' : decode c.code (pc + 3) = .ok (.dup, 1) := by rw [hb]; exact d3
  obtain ⟨U, hsteps, hrun, hend, hW, hsame, ce, hce, hO⟩ := X₁.ctorThrow0 hexec htr (own := own) (cls := cls) (names := names) (ic := ic) hown' hcls hnames h (fun x hx => nomatch hx) hfX hkX hcellA (by rw [hhp, hT]; exact Nat.le_refl _)
    (g := { method := m, pc := pc + 4, locals := ls, stack := .ref T.heap.size :: .ref T.heap.size :: rest, locked := none }) rfl hsize rfl rfl (rest := rest) rfl
    (by rw [hb]; exact d4) (by rw [hb]; exact d7) hout hRframes (by simp only [List.map_cons, List.sum_cons, hcat]; omega) hlocks
  obtain ⟨f1, f2⟩ := vx_frame hsame
  rw [hhp] at f1 f2
  have hWs : s.WarmedH U.vm := State.WarmedH.trans hW0 hW
  have hcl : s.vm.findClass cls = some ce.cls := by
    have h9 := hO.cls
    rw [hvm] at h9
    exact h9
  have hall : s.sameButNew ({ U with vm := s.vm } : State) locs mc ms := by
    subst hA
    obtain ⟨e1, e2⟩ := hsame
    rw [State.setFrames_setFrames] at e1
    have h2 : (T.setVm s.vm).sameButNew ({ U with vm := s.vm } : State) [] (0 + 1) (0 + 6) := ⟨e1, e2⟩
    have h3 := X.same.trans h2
    rw [List.append_nil] at h3
    exact h3.mono hc hs
  refine ⟨U, ?_, .threw T.heap.size, hrun, hend, Or.inr ⟨T.heap.size, rfl, cls, ce, locs, hx U hWs.alike f1 (fun q hq => f2 q hq (fun z hz => nomatch hz)), hce, hO.vm, hcl, hWs, hall, hf⟩⟩
  refine st1 _ ?_
  show Steps p.tables e below (T1.setTop { method := m, pc := pc + 3, locals := ls, stack := .ref T.heap.size :: rest, locked := none }) _
  jvm_step X₁.here [X₁.here.top, hexec, d3', Value.category]
  exact hsteps
/-- 'throw new E("text")': new; dup; ldc; invokespecial; athrow -/
theorem vx_throwS {cc : ByteArray} {pc : Nat} (hexec : p.tables.exec = Jvm.exec) (hb : c.code = cc) (hl : l.stackTraces = false) {own cls text : String} {names : List String} {ik is ic mc ms sa : Nat} {A : Nat → Prop}
    (hown : s.vm.findClass own = some m.cls) (hcls : Bundle.fit cls = true) (hnames : ∀ n ∈ names, Bundle.fit n = true)
    (hk : (Cond.classLink own ik cls).before args s = true) (hini : (Cond.initialized cls).before args s = true) (hstr : vk_R own is text sa s) (hat : ∀ w ∈ vx_atS own ic cls names, w.before args s = true)
    (hgood : ∀ w ∈ Cond.classLink own ik cls :: Cond.initialized cls :: vx_atS own ic cls names, vx_ot w = true)
    (hU : vx_Zq Bundle.tN "UNASSIGNED_STACK" Bundle.steD A s s.heap) (hN : vx_Zq Bundle.tN "SUPPRESSED_SENTINEL" Bundle.listD A s s.heap) (hS : va_S A s.heap H locs) (hsize : ls.size = c.maxLocals)
    (d0 : decode cc pc = .ok (.new ik, 3)) (d3 : decode cc (pc + 3) = .ok (.dup, 1)) (d4 : decode cc (pc + 4) = .ok (.ldc is, 2)) (d6 : decode cc (pc + 6) = .ok (.invokespecial ic, 3)) (d9 : decode cc (pc + 9) = .ok (.athrow, 1))
    (hout : ∀ x ∈ c.exceptionTable.toList, covers x (pc + 9) = false)
    (hRframes : names.length + 3 < R.frames) (hRlocals : (rest.map fun v => v.category).sum + (13 * (names.length + 1) + 43) ≤ R.locals) (hRcells : cells + 1 ≤ R.cells) (hRslots : slots + 6 ≤ R.slots) (hlocks : meth.locks = false)
    (hx : ∀ t : State, s.vm.Alike t.vm → H.size ≤ t.heap.size → (∀ q : Nat, q < H.size → t.heap[q]? = H[q]?) → XC cls s t)
    (hf : ∀ z ∈ locs, free z.base) (hc : cells + 1 ≤ mc) (hs : slots + 6 ≤ ms) :
    W p l e R s m args below meth c H locs cells slots (vx_MQ below Qc XC args s mc ms free) (F0 m pc ls rest) := by
  intro T hT X
  have htr : e.platform.stackTraces = false := (show e.platform.stackTraces = l.stackTraces by rw [X.admits.platform]).trans hl
  have Y := vx_rebase X (R' := { frames := R.frames, locals := R.locals, cells := 1, slots := 6 }) (Nat.le_refl _) (Nat.le_refl _) hRcells hRslots
  obtain ⟨s', hA⟩ : ∃ z, z = (T.setVm s.vm).setFrames (.invoking m args :: below) := ⟨_, rfl⟩
  rw [← hA] at Y
  have hvm : s'.vm = s.vm := by rw [hA]; rfl
  have hhp : s'.heap = H := by rw [hA]; exact hT
  have hW0 : s.WarmedH s'.vm := by rw [hvm]; exact State.WarmedH.refl s
  have hat' : ∀ w ∈ vx_atS own ic cls names, w.before args s' = true := fun w hw => vx_ot_at hW0 hvm.symm (hgood w (List.mem_cons_of_mem _ (List.mem_cons_of_mem _ hw))) (hat w hw)
  have hk' : (Cond.classLink own ik cls).before args s' = true := vx_ot_at hW0 hvm.symm (hgood _ List.mem_cons_self) hk
  have hini' : (Cond.initialized cls).before args s' = true := vx_ot_at hW0 hvm.symm (hgood _ (List.mem_cons_of_mem _ List.mem_cons_self)) hini
  have hU' : vx_Zq Bundle.tN "UNASSIGNED_STACK" Bundle.steD A s' s'.heap := by rw [hhp]; exact vx_Zq.moved hW0.alike (hU.kept hS.2.1)
  have hN' : vx_Zq Bundle.tN "SUPPRESSED_SENTINEL" Bundle.listD A s' s'.heap := by rw [hhp]; exact vx_Zq.moved hW0.alike (hN.kept hS.2.1)
  have h : ∀ w ∈ Bundle.ownAtoms own ic cls names, w.before args s' = true := vx_own hat' (vx_isRefq hU'.1) (vx_isRefq hN'.1) hU'.2.word hN'.2.word
  have hown' : s'.vm.findClass own = some m.cls := by rw [hvm]; exact hown
  have hins : (Cond.instantiable cls 6).before args s' = true := h _ (by simp [Bundle.ownAtoms])
  obtain ⟨vm₁, cX, kX, hfX, hkX, -, -, X₁, st1⟩ := Y.newCold hexec (own := own) (C := cls) (index := ik) (n := 6) hown' hk' hins hini'
    (g := F0 m pc ls rest) rfl (by rw [hb]; exact d0) (Nat.le_refl _) (Nat.le_refl _)
  generalize hT1 : (T.setVm vm₁).pushCell { cls := cX, slots := kX.instanceTypes.map defaultValue, vm := .none } = T1 at X₁ st1
  have hcat : (Value.ref T.heap.size).category = 1 := rfl
  have hcellA : T1.heap[T.heap.size]? = some (freshCell cX kX) := by rw [← hT1]; exact State.heap_pushCell_size _ _
  have d3' : decode c.code (pc + 3) = .ok (.dup, 1) := by rw [hb]; exact d3
  have d4' : decode c.code (pc + 4) = .ok (.ldc is, 2) := by rw [hb]; exact d4
  have hstr' : vk_R own is text sa s' := vk_R.warm hW0 hstr
  obtain ⟨U, hsteps, hrun, hend, hW, hsame, ce, hce, hO⟩ := X₁.ctorThrowS hexec htr (own := own) (cls := cls) (names := names) (ic := ic) hown' hcls hnames h (fun x hx => nomatch hx) hfX hkX hcellA (by rw [hhp, hT]; exact Nat.le_refl _) (msg := .ref sa) rfl
    (g := { method := m, pc := pc + 6, locals := ls, stack := .ref sa :: .ref T.heap.size :: .ref T.heap.size :: rest, locked := none }) rfl hsize rfl rfl (rest := rest) rfl
    (by rw [hb]; exact d6) (by rw [hb]; exact d9) hout hRframes (by simp only [List.map_cons, List.sum_cons, hcat]; omega) hlocks
  obtain ⟨f1, f2⟩ := vx_frame hsame
  rw [hhp] at f1 f2
  have hWs : s.WarmedH U.vm := State.WarmedH.trans hW0 hW
  have hcl : s.vm.findClass cls = some ce.cls := by
    have h9 := hO.cls
    rw [hvm] at h9
    exact h9
  have hall : s.sameButNew ({ U with vm := s.vm } : State) locs mc ms := by
    subst hA
    obtain ⟨e1, e2⟩ := hsame
    rw [State.setFrames_setFrames] at e1
    have h2 : (T.setVm s.vm).sameButNew ({ U with vm := s.vm } : State) [] (0 + 1) (0 + 6) := ⟨e1, e2⟩
    have h3 := X.same.trans h2
    rw [List.append_nil] at h3
    exact h3.mono hc hs
  refine ⟨U, ?_, .threw T.heap.size, hrun, hend, Or.inr ⟨T.heap.size, rfl, cls, ce, locs, hx U hWs.alike f1 (fun q hq => f2 q hq (fun z hz => nomatch hz)), hce, hO.vm, hcl, hWs, hall, hf⟩⟩
  refine st1 _ ?_
  show Steps p.tables e below (T1.setTop { method := m, pc := pc + 3, locals := ls, stack := .ref T.heap.size :: rest, locked := none }) _
  jvm_step X₁.here [X₁.here.top, hexec, d3', Value.category]
  exact X₁.ldcString hexec (own := own) (text := text) (index := is) (a := sa) hown' hstr'.1 hstr'.2
    (g := { method := m, pc := pc + 4, locals := ls, stack := .ref T.heap.size :: .ref T.heap.size :: rest, locked := none }) rfl d4' _ hsteps
/-- 'throw new E("text")', the text by a wide index -/
theorem vx_throwSW {cc : ByteArray} {pc : Nat} (hexec : p.tables.exec = Jvm.exec) (hb : c.code = cc) (hl : l.stackTraces = false) {own cls text : String} {names : List String} {ik is ic mc ms sa : Nat} {A : Nat → Prop}
    (hown : s.vm.findClass own = some m.cls) (hcls : Bundle.fit cls = true) (hnames : ∀ n ∈ names, Bundle.fit n = true)
    (hk : (Cond.classLink own ik cls).before args s = true) (hini : (Cond.initialized cls).before args s = true) (hstr : vk_R own is text sa s) (hat : ∀ w ∈ vx_atS own ic cls names, w.before args s = true)
    (hgood : ∀ w ∈ Cond.classLink own ik cls :: Cond.initialized cls :: vx_atS own ic cls names, vx_ot w = true)
    (hU : vx_Zq Bundle.tN "UNASSIGNED_STACK" Bundle.steD A s s.heap) (hN : vx_Zq Bundle.tN "SUPPRESSED_SENTINEL" Bundle.listD A s s.heap) (hS : va_S A s.heap H locs) (hsize : ls.size = c.maxLocals)
    (d0 : decode cc pc = .ok (.new ik, 3)) (d3 : decode cc (pc + 3) = .ok (.dup, 1)) (d4 : decode cc (pc + 4) = .ok (.ldc_w is, 3)) (d7 : decode cc (pc + 7) = .ok (.invokespecial ic, 3)) (d10 : decode cc (pc + 10) = .ok (.athrow, 1))
    (hout : ∀ x ∈ c.exceptionTable.toList, covers x (pc + 10) = false)
    (hRframes : names.length + 3 < R.frames) (hRlocals : (rest.map fun v => v.category).sum + (13 * (names.length + 1) + 43) ≤ R.locals) (hRcells : cells + 1 ≤ R.cells) (hRslots : slots + 6 ≤ R.slots) (hlocks : meth.locks = false)
    (hx : ∀ t : State, s.vm.Alike t.vm → H.size ≤ t.heap.size → (∀ q : Nat, q < H.size → t.heap[q]? = H[q]?) → XC cls s t)
    (hf : ∀ z ∈ locs, free z.base) (hc : cells + 1 ≤ mc) (hs : slots + 6 ≤ ms) :
    W p l e R s m args below meth c H locs cells slots (vx_MQ below Qc XC args s mc ms free) (F0 m pc ls rest) := by
  intro T hT X
  have htr : e.platform.stackTraces = false := (show e.platform.stackTraces = l.stackTraces by rw [X.admits.platform]).trans hl
  have Y := vx_rebase X (R' := { frames := R.frames, locals := R.locals, cells := 1, slots := 6 }) (Nat.le_refl _) (Nat.le_refl _) hRcells hRslots
  obtain ⟨s', hA⟩ : ∃ z, z = (T.setVm s.vm).setFrames (.invoking m args :: below) := ⟨_, rfl⟩
  rw [← hA] at Y
  have hvm : s'.vm = s.vm := by rw [hA]; rfl
  have hhp : s'.heap = H := by rw [hA]; exact hT
  have hW0 : s.WarmedH s'.vm := by rw [hvm]; exact State.WarmedH.refl s
  have hat' : ∀ w ∈ vx_atS own ic cls names, w.before args s' = true := fun w hw => vx_ot_at hW0 hvm.symm (hgood w (List.mem_cons_of_mem _ (List.mem_cons_of_mem _ hw))) (hat w hw)
  have hk' : (Cond.classLink own ik cls).before args s' = true := vx_ot_at hW0 hvm.symm (hgood _ List.mem_cons_self) hk
  have hini' : (Cond.initialized cls).before args s' = true := vx_ot_at hW0 hvm.symm (hgood _ (List.mem_cons_of_mem _ List.mem_cons_self)) hini
  have hU' : vx_Zq Bundle.tN "UNASSIGNED_STACK" Bundle.steD A s' s'.heap := by rw [hhp]; exact vx_Zq.moved hW0.alike (hU.kept hS.2.1)
  have hN' : vx_Zq Bundle.tN "SUPPRESSED_SENTINEL" Bundle.listD A s' s'.heap := by rw [hhp]; exact vx_Zq.moved hW0.alike (hN.kept hS.2.1)
  have h : ∀ w ∈ Bundle.ownAtoms own ic cls names, w.before args s' = true := vx_own hat' (vx_isRefq hU'.1) (vx_isRefq hN'.1) hU'.2.word hN'.2.word
  have hown' : s'.vm.findClass own = some m.cls := by rw [hvm]; exact hown
  have hins : (Cond.instantiable cls 6).before args s' = true := h _ (by simp [Bundle.ownAtoms])
  obtain ⟨vm₁, cX, kX, hfX, hkX, -, -, X₁, st1⟩ := Y.newCold hexec (own := own) (C := cls) (index := ik) (n := 6) hown' hk' hins hini'
    (g := F0 m pc ls rest) rfl (by rw [hb]; exact d0) (Nat.le_refl _) (Nat.le_refl _)
  generalize hT1 : (T.setVm vm₁).pushCell { cls := cX, slots := kX.instanceTypes.map defaultValue, vm := .none } = T1 at X₁ st1
  have hcat : (Value.ref T.heap.size).category = 1 := rfl
  have hcellA : T1.heap[T.heap.size]? = some (freshCell cX kX) := by rw [← hT1]; exact State.heap_pushCell_size _ _
  have d3' : decode c.code (pc + 3) = .ok (.dup, 1) := by rw [hb]; exact d3
  have d4' : decode c.code (pc + 4) = .ok (.ldc_w is, 3) := by rw [hb]; exact d4
  have hstr' : vk_R own is text sa s' := vk_R.warm hW0 hstr
  obtain ⟨U, hsteps, hrun, hend, hW, hsame, ce, hce, hO⟩ := X₁.ctorThrowS hexec htr (own := own) (cls := cls) (names := names) (ic := ic) hown' hcls hnames h (fun x hx => nomatch hx) hfX hkX hcellA (by rw [hhp, hT]; exact Nat.le_refl _) (msg := .ref sa) rfl
    (g := { method := m, pc := pc + 7, locals := ls, stack := .ref sa :: .ref T.heap.size :: .ref T.heap.size :: rest, locked := none }) rfl hsize rfl rfl (rest := rest) rfl
    (by rw [hb]; exact d7) (by rw [hb]; exact d10) hout hRframes (by simp only [List.map_cons, List.sum_cons, hcat]; omega) hlocks
  obtain ⟨f1, f2⟩ := vx_frame hsame
  rw [hhp] at f1 f2
  have hWs : s.WarmedH U.vm := State.WarmedH.trans hW0 hW
  have hcl : s.vm.findClass cls = some ce.cls := by
    have h9 := hO.cls
    rw [hvm] at h9
    exact h9
  have hall : s.sameButNew ({ U with vm := s.vm } : State) locs mc ms := by
    subst hA
    obtain ⟨e1, e2⟩ := hsame
    rw [State.setFrames_setFrames] at e1
    have h2 : (T.setVm s.vm).sameButNew ({ U with vm := s.vm } : State) [] (0 + 1) (0 + 6) := ⟨e1, e2⟩
    have h3 := X.same.trans h2
    rw [List.append_nil] at h3
    exact h3.mono hc hs
  refine ⟨U, ?_, .threw T.heap.size, hrun, hend, Or.inr ⟨T.heap.size, rfl, cls, ce, locs, hx U hWs.alike f1 (fun q hq => f2 q hq (fun z hz => nomatch hz)), hce, hO.vm, hcl, hWs, hall, hf⟩⟩
  refine st1 _ ?_
  show Steps p.tables e below (T1.setTop { method := m, pc := pc + 3, locals := ls, stack := .ref T.heap.size :: rest, locked := none }) _
  jvm_step X₁.here [X₁.here.top, hexec, d3', Value.category]
  exact X₁.ldcStringW hexec (own := own) (text := text) (index := is) (a := sa) hown' hstr'.1 hstr'.2
    (g := { method := m, pc := pc + 4, locals := ls, stack := .ref T.heap.size :: .ref T.heap.size :: rest, locked := none }) rfl d4' _ hsteps
end Ends
section Bodies
variable {l : Launch}
theorem vx_ofW {y : MethodName} {ws ws' : List Cond} {rm : Room} {Pc : Array Value → State → Prop} {Qc : Array Value → State → Outcome → State → Prop} {XC : String → State → State → Prop} {mc ms : Nat} {free : Addr → Prop} {cc : ByteArray} {maxL : Nat} {ret : Option FieldType}
    (hy : plainName y.cls = true) (hw : ws = Cond.code y cc maxL ret :: ws')
    (body : ∀ p e s m args below meth c s₁, BodyLoose p l y (headSpec ws rm) cc maxL ret e s m args below meth c s₁ → c.maxLocals = maxL → (∀ x ∈ c.exceptionTable.toList, False) → Pc args s →
      W p l e (headSpec ws rm).room s m args below meth c s.heap [] 0 0 (vx_MQ below Qc XC args s mc ms free) (entryFrame m args maxL)) : vx_Met l y ws rm Pc Qc XC mc ms free := by
  refine MetFree.of_bodyS (code := cc) (maxLocals := maxL) (ret := ret) hy ?_ ?_
  · intro args s m h hn
    obtain ⟨meth, c, h1, h2, h3, h4, h5, h6, -, -⟩ := Cond.code_spec hn (atoms_spec (ws := ws) h _ (by rw [hw]; exact List.mem_cons_self))
    exact ⟨meth, c, h1, h2, h3, h4, h5, h6⟩
  · intro p e s m args below meth c s₁ B hml hP _
    have hh0 : s₁.heap = s.heap := by rw [B.state]; rfl
    have ht : ∀ x ∈ c.exceptionTable.toList, False := by
      obtain ⟨meth9, c9, h1, h2, -, -, -, -, h7, -⟩ := Cond.code_spec B.named (atoms_spec (ws := ws) B.pre _ (by rw [hw]; exact List.mem_cons_self))
      cases Option.some.inj (h1.symm.trans B.method)
      cases Option.some.inj (h2.symm.trans (Stand.of_body B).code)
      intro x hx
      rw [Array.isEmpty_iff.mp h7] at hx
      cases hx
    obtain ⟨t, a1, o, b1, b2, b3⟩ := body p e s m args below meth c s₁ B hml ht hP s₁ hh0 (Stand.of_body B)
    exact ⟨t, o, a1, b1, b2, b3⟩
/-- the table of a body with handlers -/
theorem vx_table {p : Program} {x y : MethodName} {S : Spec} {cc bytes : ByteArray} {maxL maxL' : Nat} {ret ret' : Option FieldType} {e : Env} {s s₁ : State} {m : MethodId} {args : Array Value} {below : List Frame} {meth : Method} {c : Code} {hh : List (Nat × Nat × Nat × Nat)}
    (B : BodyLoose p l y S cc maxL ret e s m args below meth c s₁) (h : (Cond.codeWith y bytes maxL' ret' hh).before args s = true) : c.exceptionTable.toList = tableOf hh := by
  obtain ⟨m9, meth9, c9, hn9, h1, h2, -, -, h6, -⟩ := Cond.codeWith_spec h
  cases Option.some.inj (hn9.symm.trans B.named)
  cases Option.some.inj (h1.symm.trans B.method)
  cases Option.some.inj (h2.symm.trans (Stand.of_body B).code)
  rw [← h6, table_eq]
end Bodies
end VXA
/-! ===== END ===== -/
/-! ===== BEGIN a static call of a method with an exception table ===== -/
section VXS
variable {p : Program} {l : Launch} {e : Env} {R : Room} {s : State} {m : MethodId} {args : Array Value} {below : List Frame} {meth : Method} {c : Code} {T : State} {H : Heap} {locs : List Loc} {cells slots : Nat}
abbrev vx_CSW (R : Room) (s : State) (args : Array Value) (own : String) (index : Nat) (y : MethodName) (bytes : ByteArray) (maxL : Nat) (ret : Option FieldType) (hh : List (Nat × Nat × Nat × Nat)) (ws : List Cond) (rm : Room) (mc ms n : Nat) : Prop :=
  (rm.cells = mc ∧ rm.slots = ms ∧ rm.frames + 1 ≤ R.frames ∧ 8 + (maxL + 11) + rm.locals ≤ R.locals ∧ (∀ w ∈ ws, ∀ (a' : Array Value) (U : State), s.WarmedH U.vm → w.before a' U = true) ∧ Cond.codeWith y bytes maxL ret hh ∈ ws) ∧
  (Cond.codeWith y bytes maxL ret hh).before args s = true ∧ (Cond.initialized y.cls).before args s = true ∧ (y.cls ≠ "java/lang/invoke/MethodHandle" ∧ y.cls ≠ "java/lang/invoke/VarHandle") ∧
  (∀ sig, parseMethodDescriptor y.desc = some sig → n = sig.parameters.length) ∧ (Cond.methodLink own index y).before args s = true ∧ (Cond.static y).before args s = true
theorem vx_cwSW {own : String} {index maxL mc ms : Nat} {y : MethodName} {bytes : ByteArray} {ret : Option FieldType} {hh : List (Nat × Nat × Nat × Nat)} {Ts ws ws' : List Cond} {rm : Room} (n : Nat) (ht : ∀ w ∈ Ts, w.before args s = true) (hT : GoodIn Ts (va_wsS own index y ws)) (hw : ws = Cond.codeWith y bytes maxL ret hh :: ws') (hrc : rm.cells = mc) (hrs : rm.slots = ms)
    (hd : y.cls ≠ "java/lang/invoke/MethodHandle" ∧ y.cls ≠ "java/lang/invoke/VarHandle" ∧ (parseMethodDescriptor y.desc).map (fun d => d.parameters.length) = some n) (hR : rm.frames + 1 ≤ R.frames ∧ 8 + (maxL + 11) + rm.locals ≤ R.locals) :
    vx_CSW R s args own index y bytes maxL ret hh ws rm mc ms n := by
  have ok : ∀ w ∈ va_wsS own index y ws, w.before args s = true := fun w h => ht w (hT w h).1
  have hG : GoodIn Ts ws := fun w h => hT w (by unfold va_wsS; exact List.mem_append_right _ h)
  have hc : Cond.codeWith y bytes maxL ret hh ∈ ws := by rw [hw]; exact List.mem_cons_self
  refine ⟨⟨hrc, hrs, hR.1, hR.2, pay_in ht hG, hc⟩, ht _ (hG _ hc).1, ok _ (by simp [va_wsS]), ⟨hd.1, hd.2.1⟩, fun sig h => ?_, ok _ (by simp [va_wsS]), ok _ (by simp [va_wsS])⟩
  have h2 := hd.2.2
  rw [h] at h2
  exact (Option.some.inj h2).symm
theorem vx_callSW (X : Stand p l e R s m args below meth c T locs cells slots) (hexec : p.tables.exec = Jvm.exec) {own : String} {index : Nat} {y : MethodName} {bytes : ByteArray} {maxL : Nat} {ret : Option FieldType} {hh : List (Nat × Nat × Nat × Nat)}
    (hown : s.vm.findClass own = some m.cls) (hlink : (Cond.methodLink own index y).before args s = true) (hstat : (Cond.static y).before args s = true) (hinit : (Cond.initialized y.cls).before args s = true)
    (hcode : (Cond.codeWith y bytes maxL ret hh).before args s = true) (hy : y.cls ≠ "java/lang/invoke/MethodHandle" ∧ y.cls ≠ "java/lang/invoke/VarHandle")
    {W9 : Nat} {Pre : Pt → Array Value → Prop} {Post : Pt → Array Value → Option Value → Pt → Prop} (hK : Back l R p e below s args y 3 W9 Pre Post)
    {g : JFrame} (hg : g.method = m) (hsize : g.locals.size = c.maxLocals) {argsL rest : List Value} (hlen : ∀ sig, parseMethodDescriptor y.desc = some sig → argsL.length = sig.parameters.length)
    (hstack : g.stack = argsL.reverse ++ rest) (hW : 2 * g.monitorRoom + (rest.map fun v => v.category).sum ≤ W9) (hdg : decode c.code g.pc = .ok (.invokestatic index, 3))
    (hpre : ∀ vm₁, s.WarmedH vm₁ → Pre ⟨T.setVm vm₁, locs, cells, slots⟩ argsL.toArray) :
    ∃ (v : Option Value) (vm₁ : Vm) (B : Pt), s.WarmedH vm₁ ∧ Stand p l e R s m args below meth c B.U B.locs B.cells B.slots ∧ Post ⟨T.setVm vm₁, locs, cells, slots⟩ argsL.toArray v B ∧
      ∀ target, Steps p.tables e below (B.U.setTop { g with pc := g.pc + 3, stack := v.toList ++ rest }) target → Steps p.tables e below (T.setTop g) target := by
  obtain ⟨mk, methM, cM, hnamed, hmethM, -, -, -, -, -, -, hsigM⟩ := Cond.codeWith_spec hcode
  have hstatic : methM.isStatic = true := Cond.static_spec hnamed hmethM hstat
  obtain ⟨kP, hkP, -⟩ := className_of_methodNamed hnamed
  have hinitP : kP.init = .initialized := Cond.initialized_spec (findClass_of_methodNamed hnamed) hkP hinit
  obtain ⟨vm₁, X₁, hstep₁⟩ := X.invokestatic hexec hown hlink hnamed hmethM hstatic hkP hinitP hy (g := g) hg (argsL := argsL) (rest := rest) (hlen _ hsigM) hstack hdg
  obtain ⟨v, B, X', hpost, hsteps⟩ := hK m meth c ⟨T.setVm vm₁, locs, cells, slots⟩ { g with stack := rest } (.invokestatic index) mk argsL.toArray X₁ hg hsize hdg hW (X₁.named hnamed) (hpre vm₁ X₁.warmed)
  exact ⟨v, vm₁, B, X₁.warmed, X', hpost, fun target h => hstep₁ _ fun acts => by rw [doInvoke_state]; exact hsteps.trans h⟩
theorem vx_runSW {y : MethodName} {bytes cc : ByteArray} {maxL nL mc ms n index : Nat} {ret : Option FieldType} {hh : List (Nat × Nat × Nat × Nat)} {ws : List Cond} {rm : Room} {Pc : Array Value → State → Prop} {Qc : Array Value → State → Outcome → State → Prop} {free : Addr → Prop} {Ts : List Cond} {own : String} {As rest : List Value} {g : JFrame}
    (S : CallFix p m c cc nL s args Ts own) (hM : Met l y ws rm Pc Qc mc ms free) (cw : vx_CSW R s args own index y bytes maxL ret hh ws rm mc ms n) (hp : PreS s H Pc As)
    (hg : g.method = m) (hn : As.length = n) (hsize : g.locals.size = nL) (hstack : g.stack = As.reverse ++ rest) (hW : 2 * g.monitorRoom + (rest.map fun v => v.category).sum ≤ 8) (hdg : decode cc g.pc = .ok (.invokestatic index, 3)) (hf : cells + mc ≤ R.cells ∧ slots + ms ≤ R.slots) :
    va_Run p l e R s m args below meth c H locs cells slots mc ms g rest (Qc As.toArray) (free) := by
  obtain ⟨⟨hrc, hrs, hfr, hlo, hws, hcw⟩, hcode, hini, hy, hlen, hl, hstt⟩ := cw
  have hK : Back l R p e below s args y 3 8 (PreOf R mc ms Pc) (PostOf Qc mc ms free) := va_backW (hh := hh) (bytes := bytes) (maxL := maxL) (ret := ret) hM hp.1 hrc hrs hfr hlo hws hcw (fun a' U hW => word_at hW (Or.inl (by first | rfl | simp [Cond.onTables, Cond.keeps, Cond.steady])) hini)
  obtain ⟨hx, hb, hml, ho, -⟩ := S
  intro T hT X
  obtain ⟨v, vm₁, ⟨U', l2, c2, s2⟩, hW₁, X', ⟨g', mk, t, L, e1, e2, hq, h1, hL, h2, h3⟩, st⟩ := vx_callSW X hx (hh := hh) (bytes := bytes) (maxL := maxL) (ret := ret) ho hl hstt hini hcode hy hK hg (hsize.trans hml.symm) (argsL := As) (rest := rest) (fun sig h => hn.trans (hlen sig h)) hstack hW (by rw [hb]; exact hdg)
    (fun vm₁ hW₁ => ⟨hf.1, hf.2, hp.2 (T.setVm vm₁) hT hW₁⟩)
  dsimp only [Pt.U, Pt.locs, Pt.cells, Pt.slots] at X' e1 e2 h1 h2 h3 st
  subst h1; subst h2; subst h3
  exact ⟨v, (T.setVm vm₁).calling g' mk As.toArray, t, U', L, hT, X', hL, e1, e2, hq, st⟩
/-- not caught here, past rows that name other classes: it goes on to the caller -/
theorem vx_outP {p : Program} {l : Launch} {e : Env} {R : Room} {s : State} {m : MethodId} {args : Array Value} {below : List Frame} {meth : Method} {c : Code} {H : Heap} {locs : List Loc} {cells slots : Nat} {free : Addr → Prop} {ls : Array Slot} {rest : List Value} {Qc : Array Value → State → Outcome → State → Prop} {XC : String → State → State → Prop}
    {pc : Nat} {own E : String} {ce : Cell} {q : Addr} {mc ms : Nat} (hown : s.vm.findClass own = some m.cls) (hlocks : meth.locks = false)
    (hpass : ∀ z ∈ c.exceptionTable.toList, covers z pc = false ∨ (z.catchType ≠ 0 ∧ ∃ nm : String, (Cond.classLink own z.catchType nm).before args s = true ∧ va_Nc E nm s)) (hcell : H[q]? = some ce) (hv : ce.vm = .none) (hcl : s.vm.findClass E = some ce.cls)
    (hx : ∀ t : State, t.heap = H → s.vm.Alike t.vm → XC E s t) (hf : ∀ z ∈ locs, free z.base) (hc : cells ≤ mc) (hs : slots ≤ ms) :
    vx_W p l e R s m args below meth c H locs cells slots (vx_MQ below Qc XC args s mc ms free) (F0 m pc ls rest) q := by
  intro T hT X
  have hpl : e.platform.magicAccessors = ({} : Platform).magicAccessors := by rw [X.admits.platform]
  obtain ⟨vm', hW', X', st⟩ := X.outThrough hlocks q (g := F0 m pc ls rest) rfl rfl rfl (cell := ce) (by rw [hT]; exact hcell) (by rw [hv]; rfl)
    (by obtain ⟨k9, h9, -⟩ := Vm.findClass_spec hcl; exact ⟨k9, h9⟩) (fun z hz => by
      rcases hpass z hz with h | ⟨hz0, nm, hl1, hn1⟩
      · exact Or.inl h
      · obtain ⟨c6, hc6, hcl6⟩ := Cond.classLink_spec hown hl1 e.platform hpl
        obtain ⟨a8, b8, h1, h2, h3⟩ := hn1
        cases Option.some.inj (h1.symm.trans hcl)
        cases Option.some.inj (h2.symm.trans hc6)
        exact Or.inr ⟨hz0, _, hcl6, h3⟩)
  obtain ⟨g₀, hfr⟩ := X'.frames_eq
  have hcell9 : ((T.setVm vm').setFrames (.throwing q :: below)).heap[q]? = some ce := by
    show T.heap[q]? = some ce
    rw [hT]; exact hcell
  have hend : Ended ((T.setVm vm').setFrames (.throwing q :: below)) below (.threw q) := State.frames_setFrames _ (State.cur_lt_of_frames hfr)
  refine ⟨(T.setVm vm').setFrames (.throwing q :: below), ?_, .threw q, X'.here.running, hend, Or.inr ⟨q, rfl, E, ce, locs, hx _ hT (X'.ends _).1.alike, hcell9, hv, hcl, (X'.ends _).1, (X'.ends _).2.mono hc hs, hf⟩⟩
  rw [X.pushThrowing_eq]
  exact st
/-- a thing of a world lies in the heap -/
theorem vx_lt {D : va_G} {cl : List vw_C} {ws : va_W} {H1 : Heap} (h : va_P D cl ws H1) {k : Nat} {q : Nat × va_E} (hk : ws[k]? = some q) : q.1 < H1.size := (h k q hk).lt
end VXS
/-! ===== END ===== -/
/-! ===== BEGIN methods with a table of their own: called by a name, returning or throwing ===== -/
section VXH
/-! vx_backW, vx_callVX, vx_callSX, vx_callVW, vx_runVW, vx_runVX, vx_runSX, vx_ofWH follow the same proofs as their sisters above (Free/Laws.lean, Shelf42/LK1.lean); vx_outP calls Shelf42/NT130.lean (outThrough). -/
section
variable {l : Launch} {R : Room} {p : Program} {e : Env} {below : List Frame} {s : State} {sargs : Array Value} {y : MethodName} {len W9 : Nat}
theorem vx_backW {ws : List Cond} {rm : Room} {Pc : Array Value → State → Prop} {Qc : Array Value → State → Outcome → State → Prop} {XC : String → State → State → Prop} {mc ms : Nat} {free : Addr → Prop} {bytes : ByteArray} {maxL : Nat} {ret : Option FieldType} {hh : List (Nat × Nat × Nat × Nat)}
    (hM : vx_Met l y ws rm Pc Qc XC mc ms free) (hblind : FrameBlind Pc) (hrc : rm.cells = mc) (hrs : rm.slots = ms)
    (hframes : rm.frames + 1 ≤ R.frames) (hlocals : W9 + (maxL + 11) + rm.locals ≤ R.locals)
    (hws : ∀ w ∈ ws, ∀ a' U, s.WarmedH U.vm → w.before a' U = true) (hcode : Cond.codeWith y bytes maxL ret hh ∈ ws) (hinit : ∀ a' U, s.WarmedH U.vm → (Cond.initialized y.cls).before a' U = true) :
    vx_Back l R p e below s sargs y len W9 (PreOf R mc ms Pc) (PostOf Qc mc ms free) (vx_Post XC mc ms free) := by
  intro m meth c A g ig mk a X hg hsize hdg hW hn hp
  have h1 : (headSpec ws rm).pre.before a A.U = true := atoms_intro fun w hw => hws w hw _ _ X.warmed
  have h2 : (Cond.codeWith y bytes maxL ret hh).before a A.U = true := hws _ hcode _ _ X.warmed
  have h3 : (Cond.initialized y.cls).before a A.U = true := hinit _ _ X.warmed
  have h4 : A.cells + (headSpec ws rm).room.cells ≤ R.cells := by rw [show (headSpec ws rm).room.cells = mc from hrc]; exact hp.1
  have h5 : A.slots + (headSpec ws rm).room.slots ≤ R.slots := by rw [show (headSpec ws rm).room.slots = ms from hrs]; exact hp.2.1
  have hPc : Pc a (A.U.calling g mk a) := hblind _ _ _ _ hp.2.2
  obtain ⟨U, Ls, c0, s0⟩ := A
  dsimp only [Pt.U, Pt.locs, Pt.cells, Pt.slots] at h1 h2 h3 h4 h5 X hn hPc ⊢
  obtain ⟨m9, methY, cY, hn9, hmY, hcY, -, hlY, -⟩ := Cond.codeWith_spec h2
  cases Option.some.inj (hn9.symm.trans hn)
  obtain ⟨kY, hkY, -⟩ := className_of_methodNamed hn
  have hinitY : kY.init = .initialized := Cond.initialized_spec (findClass_of_methodNamed hn) hkY h3
  have h : At U g.method c below := by rw [hg]; exact X.here
  have hlocals9 : W9 + (maxL + 11) + (headSpec ws rm).room.locals ≤ R.locals := hlocals
  have happ : (headSpec ws rm).appliesLoose y e.platform (U.calling g mk a) = true :=
    Spec.appliesLoose_calling (g := g) h hdg hn hkY hinitY
      (X.room_calling (g := g) (R' := (headSpec ws rm).room) hsize hmY hcY hframes (by rw [hlY]; omega) h4 h5) h1
  obtain ⟨mid, hmid⟩ := h.above
  have hfr : (U.setTop g).frames = (.java g :: mid) ++ below := by rw [State.frames_setTop' g h.top, hmid]; rfl
  obtain ⟨o, s₂, hsteps, -, hend, hq⟩ := Steps.callFree hM p X.admits X.cas X.clock (acts := []) hfr happ hPc trivial
  have hq' : vx_Q Qc XC mc ms free a (U.calling g mk a) o s₂ := hq
  rw [State.frames_setTop' g h.top] at hend
  obtain ⟨g₀, hg0⟩ := Option.isSome_iff_exists.mp h.top
  obtain ⟨r, hr⟩ := State.topJava?_eq_some.mp hg0
  have hr' : (({ U with heap := s₂.heap, slotsUsed := s₂.slotsUsed } : State).setVm s₂.vm).frames = .java g₀ :: r := hr
  rcases hq' with ⟨hqc, L, hfe, hL⟩ | ⟨q, rfl, E, ce, L, hx, hce, hcv, hcl, hW₂, hsm, hL⟩
  · obtain ⟨⟨v, rfl⟩, hW₂, e2, q2, q3, q4, q5, q6⟩ := id hfe
    have e3 : s₂ = ({ (U.calling g mk a).setFrames s₂.frames with heap := s₂.heap, slotsUsed := s₂.slotsUsed } : State).setVm s₂.vm := by
      have : s₂ = ({ s₂ with vm := (U.calling g mk a).vm } : State).setVm s₂.vm := rfl
      rw [e2] at this
      exact this
    obtain ⟨c₂, i₂, len₂, hc₂, hd₂, hf₂⟩ := hend
    have hW' : U.WarmedH s₂.vm := hW₂
    have hcc : c₂ = c := by
      have h1 : s₂.code? g.method = U.code? g.method := by
        rw [State.code?_eq, State.code?_eq, hW'.alike.method?]
      exact Option.some.inj (hc₂.symm.trans (h1.trans h.code))
    subst hcc
    have hlen : len₂ = len := by rw [hdg] at hd₂; cases hd₂; rfl
    subst hlen
    have hs₂ : s₂ = (({ U with heap := s₂.heap, slotsUsed := s₂.slotsUsed } : State).setVm s₂.vm).setTop { g with pc := g.pc + len₂, stack := v.toList ++ g.stack } := by
      refine e3.trans ?_
      rw [hf₂, State.calling_eq h.top, State.setFrames_setFrames, State.setTop_of_frames _ hr', hr]
      rfl
    have hsame : U.sameButNew ({ U with heap := s₂.heap, slotsUsed := s₂.slotsUsed } : State) L mc ms := by
      refine ⟨?_, q2, q3, q4, q5, q6⟩
      obtain ⟨t, ht, -⟩ := State.frames_cons hr
      show ({ U with heap := s₂.heap, slotsUsed := s₂.slotsUsed } : State) = { U.setFrames U.frames with heap := s₂.heap, slotsUsed := s₂.slotsUsed }
      rw [State.setFrames_self ht]
    subst hg
    refine Or.inl ⟨v, ⟨(({ U with heap := s₂.heap, slotsUsed := s₂.slotsUsed } : State).setVm s₂.vm), Ls ++ L, c0 + mc, s0 + ms⟩,
      ⟨X.admits, X.cas, X.clock, X.frames, X.room, X.hears, X.method, X.code, (X.here.setHeapUsed s₂.heap s₂.slotsUsed).setVm hW'.alike, X.tail, State.WarmedH.trans X.warmed hW', X.limits, X.bytes, X.same.trans (hsame.setVm s.vm)⟩,
      ⟨g, mk, s₂, L, rfl, rfl, hqc, rfl, hL, rfl, rfl⟩, ?_⟩
    show Steps p.tables e below _ ((({ U with heap := s₂.heap, slotsUsed := s₂.slotsUsed } : State).setVm s₂.vm).setTop { g with pc := g.pc + len₂, stack := v.toList ++ g.stack })
    rw [← hs₂]
    exact hsteps
  · obtain ⟨e2, q2, q3, q4, q5, q6⟩ := id hsm
    have e3 : s₂ = ({ (U.calling g mk a).setFrames s₂.frames with heap := s₂.heap, slotsUsed := s₂.slotsUsed } : State).setVm s₂.vm := by
      have : s₂ = ({ s₂ with vm := (U.calling g mk a).vm } : State).setVm s₂.vm := rfl
      rw [e2] at this
      exact this
    have hf₂ : s₂.frames = .throwing q :: .java g :: U.frames.tail := hend
    have hW' : U.WarmedH s₂.vm := hW₂
    have hs₂ : s₂ = ((({ U with heap := s₂.heap, slotsUsed := s₂.slotsUsed } : State).setVm s₂.vm).setTop g).pushFrame (.throwing q) := by
      refine e3.trans ?_
      rw [hf₂, State.calling_eq h.top, State.setFrames_setFrames, State.pushFrame, State.frames_setTop _ hr', State.setTop_of_frames _ hr', State.setFrames_setFrames, hr]
      rfl
    have hsame : U.sameButNew ({ U with heap := s₂.heap, slotsUsed := s₂.slotsUsed } : State) L mc ms := by
      refine ⟨?_, q2, q3, q4, q5, q6⟩
      obtain ⟨t, ht, -⟩ := State.frames_cons hr
      show ({ U with heap := s₂.heap, slotsUsed := s₂.slotsUsed } : State) = { U.setFrames U.frames with heap := s₂.heap, slotsUsed := s₂.slotsUsed }
      rw [State.setFrames_self ht]
    subst hg
    refine Or.inr ⟨q, ⟨(({ U with heap := s₂.heap, slotsUsed := s₂.slotsUsed } : State).setVm s₂.vm), Ls ++ L, c0 + mc, s0 + ms⟩,
      ⟨X.admits, X.cas, X.clock, X.frames, X.room, X.hears, X.method, X.code, (X.here.setHeapUsed s₂.heap s₂.slotsUsed).setVm hW'.alike, X.tail, State.WarmedH.trans X.warmed hW', X.limits, X.bytes, X.same.trans (hsame.setVm s.vm)⟩,
      ⟨g, mk, s₂, L, E, ce, rfl, rfl, hx, hce, hcv, hcl, rfl, hL, rfl, rfl⟩, ?_⟩
    show Steps p.tables e below _ (((({ U with heap := s₂.heap, slotsUsed := s₂.slotsUsed } : State).setVm s₂.vm).setTop g).pushFrame (.throwing q))
    rw [← hs₂]
    exact hsteps
end
variable {p : Program} {l : Launch} {e : Env} {R : Room} {s : State} {m : MethodId} {args : Array Value} {below : List Frame} {meth : Method} {c : Code} {T : State} {H : Heap} {locs : List Loc} {cells slots : Nat}
theorem vx_callVX (X : Stand p l e R s m args below meth c T locs cells slots) (hexec : p.tables.exec = Jvm.exec) {own C : String} {index : Nat} {y : MethodName} {bytes : ByteArray} {maxL : Nat} {ret : Option FieldType} {hh : List (Nat × Nat × Nat × Nat)}
    (hown : s.vm.findClass own = some m.cls) (hlink : (Cond.methodLink own index y).before args s = true) (hinst : (Cond.instanceMethod y).before args s = true) (hsel : (Cond.selects C y y).before args s = true)
    (hcode : (Cond.codeWith y bytes maxL ret hh).before args s = true) (hy : y.cls ≠ "java/lang/invoke/MethodHandle" ∧ y.cls ≠ "java/lang/invoke/VarHandle")
    {W9 : Nat} {Pre : Pt → Array Value → Prop} {Post : Pt → Array Value → Option Value → Pt → Prop} {PostX : Pt → Array Value → Addr → Pt → Prop} (hK : vx_Back l R p e below s args y 3 W9 Pre Post PostX)
    {b : Addr} {cellB : Cell} (hcell : T.heap[b]? = some cellB) (hobj : cellB.vm.isStatics = false) (hcls : s.vm.findClass C = some cellB.cls)
    {g : JFrame} (hg : g.method = m) (hsize : g.locals.size = c.maxLocals) {argsL rest : List Value} (hlen : ∀ sig, parseMethodDescriptor y.desc = some sig → argsL.length = sig.parameters.length)
    (hstack : g.stack = argsL.reverse ++ .ref b :: rest) (hW : 2 * g.monitorRoom + (rest.map fun v => v.category).sum ≤ W9) (hdg : decode c.code g.pc = .ok (.invokevirtual index, 3))
    (hpre : ∀ vm₁, s.WarmedH vm₁ → Pre ⟨T.setVm vm₁, locs, cells, slots⟩ (Value.ref b :: argsL).toArray) :
    (∃ (v : Option Value) (vm₁ : Vm) (B : Pt), s.WarmedH vm₁ ∧ Stand p l e R s m args below meth c B.U B.locs B.cells B.slots ∧ Post ⟨T.setVm vm₁, locs, cells, slots⟩ (Value.ref b :: argsL).toArray v B ∧
      ∀ target, Steps p.tables e below (B.U.setTop { g with pc := g.pc + 3, stack := v.toList ++ rest }) target → Steps p.tables e below (T.setTop g) target) ∨
    (∃ (q : Addr) (vm₁ : Vm) (B : Pt), s.WarmedH vm₁ ∧ Stand p l e R s m args below meth c B.U B.locs B.cells B.slots ∧ PostX ⟨T.setVm vm₁, locs, cells, slots⟩ (Value.ref b :: argsL).toArray q B ∧
      Steps p.tables e below (T.setTop g) ((B.U.setTop { g with stack := rest }).pushFrame (.throwing q))) := by
  obtain ⟨mk, methM, hnamed, hmethM, hstM, habM⟩ := Cond.instanceMethod_spec hinst
  obtain ⟨m8, methM', cM, hn8, hmethM', -, -, -, -, -, -, hsigM⟩ := Cond.codeWith_spec hcode
  cases Option.some.inj (hn8.symm.trans hnamed)
  cases hmethM.symm.trans hmethM'
  obtain ⟨c2, r2, m2, q1, q2, q3, q4, kP, hkP, hkPi⟩ := Cond.selects_spec hsel
  cases hcls.symm.trans q1
  cases (State.methodFound?_of_named hnamed hy).symm.trans q2
  cases hnamed.symm.trans q3
  have hselP : selectMethod e.platform s.vm cellB.cls mk = .method mk := by rw [Launch.admits_selectMethod X.admits]; exact q4
  obtain ⟨vm₁, X₁, hstep₁⟩ := X.invokevirtual hexec hown hlink hnamed hmethM hstM hkP hkPi hy (a := b) (cell := cellB) hcell
    (fun z h => by rw [h] at hobj; cases hobj) hselP hmethM habM hkP hkPi (g := g) hg (argsL := argsL) (rest := rest) (hlen _ hsigM) hstack hdg
  rcases hK m meth c ⟨T.setVm vm₁, locs, cells, slots⟩ { g with stack := rest } (.invokevirtual index) mk (Value.ref b :: argsL).toArray X₁ hg hsize hdg hW (X₁.named hnamed) (hpre vm₁ X₁.warmed) with ⟨v, B, X', hpost, hsteps⟩ | ⟨q, B, X', hpost, hsteps⟩
  · exact Or.inl ⟨v, vm₁, B, X₁.warmed, X', hpost, fun target h => hstep₁ _ fun acts => by rw [doInvoke_state]; exact hsteps.trans h⟩
  · exact Or.inr ⟨q, vm₁, B, X₁.warmed, X', hpost, hstep₁ _ fun acts => by rw [doInvoke_state]; exact hsteps⟩
theorem vx_callSX (X : Stand p l e R s m args below meth c T locs cells slots) (hexec : p.tables.exec = Jvm.exec) {own : String} {index : Nat} {y : MethodName} {bytes : ByteArray} {maxL : Nat} {ret : Option FieldType} {hh : List (Nat × Nat × Nat × Nat)}
    (hown : s.vm.findClass own = some m.cls) (hlink : (Cond.methodLink own index y).before args s = true) (hstat : (Cond.static y).before args s = true) (hinit : (Cond.initialized y.cls).before args s = true)
    (hcode : (Cond.codeWith y bytes maxL ret hh).before args s = true) (hy : y.cls ≠ "java/lang/invoke/MethodHandle" ∧ y.cls ≠ "java/lang/invoke/VarHandle")
    {W9 : Nat} {Pre : Pt → Array Value → Prop} {Post : Pt → Array Value → Option Value → Pt → Prop} {PostX : Pt → Array Value → Addr → Pt → Prop} (hK : vx_Back l R p e below s args y 3 W9 Pre Post PostX)
    {g : JFrame} (hg : g.method = m) (hsize : g.locals.size = c.maxLocals) {argsL rest : List Value} (hlen : ∀ sig, parseMethodDescriptor y.desc = some sig → argsL.length = sig.parameters.length)
    (hstack : g.stack = argsL.reverse ++ rest) (hW : 2 * g.monitorRoom + (rest.map fun v => v.category).sum ≤ W9) (hdg : decode c.code g.pc = .ok (.invokestatic index, 3))
    (hpre : ∀ vm₁, s.WarmedH vm₁ → Pre ⟨T.setVm vm₁, locs, cells, slots⟩ argsL.toArray) :
    (∃ (v : Option Value) (vm₁ : Vm) (B : Pt), s.WarmedH vm₁ ∧ Stand p l e R s m args below meth c B.U B.locs B.cells B.slots ∧ Post ⟨T.setVm vm₁, locs, cells, slots⟩ argsL.toArray v B ∧
      ∀ target, Steps p.tables e below (B.U.setTop { g with pc := g.pc + 3, stack := v.toList ++ rest }) target → Steps p.tables e below (T.setTop g) target) ∨
    (∃ (q : Addr) (vm₁ : Vm) (B : Pt), s.WarmedH vm₁ ∧ Stand p l e R s m args below meth c B.U B.locs B.cells B.slots ∧ PostX ⟨T.setVm vm₁, locs, cells, slots⟩ argsL.toArray q B ∧
      Steps p.tables e below (T.setTop g) ((B.U.setTop { g with stack := rest }).pushFrame (.throwing q))) := by
  obtain ⟨mk, methM, cM, hnamed, hmethM, -, -, -, -, -, -, hsigM⟩ := Cond.codeWith_spec hcode
  have hstatic : methM.isStatic = true := Cond.static_spec hnamed hmethM hstat
  obtain ⟨kP, hkP, -⟩ := className_of_methodNamed hnamed
  have hinitP : kP.init = .initialized := Cond.initialized_spec (findClass_of_methodNamed hnamed) hkP hinit
  obtain ⟨vm₁, X₁, hstep₁⟩ := X.invokestatic hexec hown hlink hnamed hmethM hstatic hkP hinitP hy (g := g) hg (argsL := argsL) (rest := rest) (hlen _ hsigM) hstack hdg
  rcases hK m meth c ⟨T.setVm vm₁, locs, cells, slots⟩ { g with stack := rest } (.invokestatic index) mk argsL.toArray X₁ hg hsize hdg hW (X₁.named hnamed) (hpre vm₁ X₁.warmed) with ⟨v, B, X', hpost, hsteps⟩ | ⟨q, B, X', hpost, hsteps⟩
  · exact Or.inl ⟨v, vm₁, B, X₁.warmed, X', hpost, fun target h => hstep₁ _ fun acts => by rw [doInvoke_state]; exact hsteps.trans h⟩
  · exact Or.inr ⟨q, vm₁, B, X₁.warmed, X', hpost, hstep₁ _ fun acts => by rw [doInvoke_state]; exact hsteps⟩
theorem vx_callVW (X : Stand p l e R s m args below meth c T locs cells slots) (hexec : p.tables.exec = Jvm.exec) {own C : String} {index : Nat} {y : MethodName} {bytes : ByteArray} {maxL : Nat} {ret : Option FieldType} {hh : List (Nat × Nat × Nat × Nat)}
    (hown : s.vm.findClass own = some m.cls) (hlink : (Cond.methodLink own index y).before args s = true) (hinst : (Cond.instanceMethod y).before args s = true) (hsel : (Cond.selects C y y).before args s = true)
    (hcode : (Cond.codeWith y bytes maxL ret hh).before args s = true) (hy : y.cls ≠ "java/lang/invoke/MethodHandle" ∧ y.cls ≠ "java/lang/invoke/VarHandle")
    {W9 : Nat} {Pre : Pt → Array Value → Prop} {Post : Pt → Array Value → Option Value → Pt → Prop} (hK : Back l R p e below s args y 3 W9 Pre Post)
    {b : Addr} {cellB : Cell} (hcell : T.heap[b]? = some cellB) (hobj : cellB.vm.isStatics = false) (hcls : s.vm.findClass C = some cellB.cls)
    {g : JFrame} (hg : g.method = m) (hsize : g.locals.size = c.maxLocals) {argsL rest : List Value} (hlen : ∀ sig, parseMethodDescriptor y.desc = some sig → argsL.length = sig.parameters.length)
    (hstack : g.stack = argsL.reverse ++ .ref b :: rest) (hW : 2 * g.monitorRoom + (rest.map fun v => v.category).sum ≤ W9) (hdg : decode c.code g.pc = .ok (.invokevirtual index, 3))
    (hpre : ∀ vm₁, s.WarmedH vm₁ → Pre ⟨T.setVm vm₁, locs, cells, slots⟩ (Value.ref b :: argsL).toArray) :
    ∃ (v : Option Value) (vm₁ : Vm) (B : Pt), s.WarmedH vm₁ ∧ Stand p l e R s m args below meth c B.U B.locs B.cells B.slots ∧ Post ⟨T.setVm vm₁, locs, cells, slots⟩ (Value.ref b :: argsL).toArray v B ∧
      ∀ target, Steps p.tables e below (B.U.setTop { g with pc := g.pc + 3, stack := v.toList ++ rest }) target → Steps p.tables e below (T.setTop g) target := by
  obtain ⟨mk, methM, hnamed, hmethM, hstM, habM⟩ := Cond.instanceMethod_spec hinst
  obtain ⟨m8, methM', cM, hn8, hmethM', -, -, -, -, -, -, hsigM⟩ := Cond.codeWith_spec hcode
  cases Option.some.inj (hn8.symm.trans hnamed)
  cases hmethM.symm.trans hmethM'
  obtain ⟨c2, r2, m2, q1, q2, q3, q4, kP, hkP, hkPi⟩ := Cond.selects_spec hsel
  cases hcls.symm.trans q1
  cases (State.methodFound?_of_named hnamed hy).symm.trans q2
  cases hnamed.symm.trans q3
  have hselP : selectMethod e.platform s.vm cellB.cls mk = .method mk := by rw [Launch.admits_selectMethod X.admits]; exact q4
  obtain ⟨vm₁, X₁, hstep₁⟩ := X.invokevirtual hexec hown hlink hnamed hmethM hstM hkP hkPi hy (a := b) (cell := cellB) hcell
    (fun z h => by rw [h] at hobj; cases hobj) hselP hmethM habM hkP hkPi (g := g) hg (argsL := argsL) (rest := rest) (hlen _ hsigM) hstack hdg
  obtain ⟨v, B, X', hpost, hsteps⟩ := hK m meth c ⟨T.setVm vm₁, locs, cells, slots⟩ { g with stack := rest } (.invokevirtual index) mk (Value.ref b :: argsL).toArray X₁ hg hsize hdg hW (X₁.named hnamed) (hpre vm₁ X₁.warmed)
  exact ⟨v, vm₁, B, X₁.warmed, X', hpost, fun target h => hstep₁ _ fun acts => by rw [doInvoke_state]; exact hsteps.trans h⟩
abbrev vx_CVW (R : Room) (s : State) (args : Array Value) (own C : String) (index : Nat) (y : MethodName) (bytes : ByteArray) (maxL : Nat) (ret : Option FieldType) (hh : List (Nat × Nat × Nat × Nat)) (ws : List Cond) (rm : Room) (mc ms n : Nat) : Prop :=
  (rm.cells = mc ∧ rm.slots = ms ∧ rm.frames + 1 ≤ R.frames ∧ 8 + (maxL + 11) + rm.locals ≤ R.locals ∧ (∀ w ∈ ws, ∀ (a' : Array Value) (U : State), s.WarmedH U.vm → w.before a' U = true) ∧ Cond.codeWith y bytes maxL ret hh ∈ ws) ∧
  (Cond.codeWith y bytes maxL ret hh).before args s = true ∧ (Cond.initialized y.cls).before args s = true ∧ (y.cls ≠ "java/lang/invoke/MethodHandle" ∧ y.cls ≠ "java/lang/invoke/VarHandle") ∧
  (∀ sig, parseMethodDescriptor y.desc = some sig → n = sig.parameters.length) ∧ (Cond.methodLink own index y).before args s = true ∧ (Cond.instanceMethod y).before args s = true ∧ (Cond.selects C y y).before args s = true
theorem vx_cwVW {own C : String} {index maxL mc ms : Nat} {y : MethodName} {bytes : ByteArray} {ret : Option FieldType} {hh : List (Nat × Nat × Nat × Nat)} {Ts ws ws' : List Cond} {rm : Room} (n : Nat) (ht : ∀ w ∈ Ts, w.before args s = true) (hT : GoodIn Ts (wsV own index C y ws)) (hw : ws = Cond.codeWith y bytes maxL ret hh :: ws') (hrc : rm.cells = mc) (hrs : rm.slots = ms)
    (hd : y.cls = C ∧ y.cls ≠ "java/lang/invoke/MethodHandle" ∧ y.cls ≠ "java/lang/invoke/VarHandle" ∧ (parseMethodDescriptor y.desc).map (fun d => d.parameters.length) = some n) (hR : rm.frames + 1 ≤ R.frames ∧ 8 + (maxL + 11) + rm.locals ≤ R.locals) :
    vx_CVW R s args own C index y bytes maxL ret hh ws rm mc ms n := by
  obtain ⟨hC, hd⟩ := hd
  subst hC
  have ok : ∀ w ∈ wsV own index y.cls y ws, w.before args s = true := fun w h => ht w (hT w h).1
  have hG : GoodIn Ts ws := fun w h => hT w (by unfold wsV; exact List.mem_append_right _ h)
  have hc : Cond.codeWith y bytes maxL ret hh ∈ ws := by rw [hw]; exact List.mem_cons_self
  refine ⟨⟨hrc, hrs, hR.1, hR.2, pay_in ht hG, hc⟩, ht _ (hG _ hc).1, ok _ (by simp [wsV]), ⟨hd.1, hd.2.1⟩, fun sig h => ?_, ok _ (by simp [wsV]), ok _ (by simp [wsV]), ok _ (by simp [wsV])⟩
  have h2 := hd.2.2
  rw [h] at h2
  exact (Option.some.inj h2).symm
theorem vx_runVW {y : MethodName} {bytes cc : ByteArray} {maxL nL mc ms n index : Nat} {ret : Option FieldType} {hh : List (Nat × Nat × Nat × Nat)} {ws : List Cond} {rm : Room} {Pc : Array Value → State → Prop} {Qc : Array Value → State → Outcome → State → Prop} {free : Addr → Prop} {Ts : List Cond} {own C : String} {b : Addr} {As rest : List Value} {g : JFrame}
    (S : CallFix p m c cc nL s args Ts own) (hM : Met l y ws rm Pc Qc mc ms free) (cw : vx_CVW R s args own C index y bytes maxL ret hh ws rm mc ms n) (hp : PreV s H C b Pc As)
    (hg : g.method = m) (hn : As.length = n) (hsize : g.locals.size = nL) (hstack : g.stack = As.reverse ++ .ref b :: rest) (hW : 2 * g.monitorRoom + (rest.map fun v => v.category).sum ≤ 8) (hdg : decode cc g.pc = .ok (.invokevirtual index, 3)) (hf : cells + mc ≤ R.cells ∧ slots + ms ≤ R.slots) :
    va_Run p l e R s m args below meth c H locs cells slots mc ms g rest (Qc (Value.ref b :: As).toArray) free := by
  obtain ⟨⟨hrc, hrs, hfr, hlo, hws, hcw⟩, hcode, hini, hy, hlen, hl, hin, hse⟩ := cw
  have hK : Back l R p e below s args y 3 8 (PreOf R mc ms Pc) (PostOf Qc mc ms free) := va_backW (hh := hh) (bytes := bytes) (maxL := maxL) (ret := ret) hM hp.1 hrc hrs hfr hlo hws hcw (fun a' U hW => word_at hW (Or.inl (by first | rfl | simp [Cond.onTables, Cond.keeps, Cond.steady])) hini)
  obtain ⟨hx, hb, hml, ho, -⟩ := S
  obtain ⟨-, ⟨cellB, hcB, hoB, hclB⟩, hPc⟩ := hp
  intro T hT X
  obtain ⟨v, vm₁, ⟨U', l2, c2, s2⟩, hW₁, X', ⟨g', mk, t, L, e1, e2, hq, h1, hL, h2, h3⟩, st⟩ := vx_callVW X hx (C := C) (hh := hh) (bytes := bytes) (maxL := maxL) (ret := ret) ho hl hin hse hcode hy hK (by rw [hT]; exact hcB) hoB hclB hg (hsize.trans hml.symm) (argsL := As) (rest := rest) (fun sig h => hn.trans (hlen sig h)) hstack hW (by rw [hb]; exact hdg)
    (fun vm₁ hW₁ => ⟨hf.1, hf.2, hPc (T.setVm vm₁) hT hW₁⟩)
  dsimp only [Pt.U, Pt.locs, Pt.cells, Pt.slots] at X' e1 e2 h1 h2 h3 st
  subst h1; subst h2; subst h3
  exact ⟨v, (T.setVm vm₁).calling g' mk (Value.ref b :: As).toArray, t, U', L, hT, X', hL, e1, e2, hq, st⟩
section
variable {y : MethodName} {bytes cc : ByteArray} {maxL nL mc ms n index : Nat} {ret : Option FieldType} {ws : List Cond} {rm : Room} {Pc : Array Value → State → Prop} {Qc : Array Value → State → Outcome → State → Prop} {XC : String → State → State → Prop} {free : Addr → Prop} {Ts : List Cond} {own C : String} {b : Addr} {As rest : List Value} {g : JFrame}
theorem vx_runVX {hh : List (Nat × Nat × Nat × Nat)} (S : CallFix p m c cc nL s args Ts own) (hM : vx_Met l y ws rm Pc Qc XC mc ms free) (cw : vx_CVW R s args own C index y bytes maxL ret hh ws rm mc ms n) (hp : PreV s H C b Pc As)
    (hg : g.method = m) (hn : As.length = n) (hsize : g.locals.size = nL) (hstack : g.stack = As.reverse ++ .ref b :: rest) (hW : 2 * g.monitorRoom + (rest.map fun v => v.category).sum ≤ 8) (hdg : decode cc g.pc = .ok (.invokevirtual index, 3)) (hf : cells + mc ≤ R.cells ∧ slots + ms ≤ R.slots) :
    vx_Run p l e R s m args below meth c H locs cells slots mc ms g rest (Qc (Value.ref b :: As).toArray) XC free := by
  obtain ⟨⟨hrc, hrs, hfr, hlo, hws, hcw⟩, hcode, hini, hy, hlen, hl, hin, hse⟩ := cw
  have hK : vx_Back l R p e below s args y 3 8 (PreOf R mc ms Pc) (PostOf Qc mc ms free) (vx_Post XC mc ms free) := vx_backW (hh := hh) (bytes := bytes) (maxL := maxL) (ret := ret) hM hp.1 hrc hrs hfr hlo hws hcw (fun a' U hW => word_at hW (Or.inl (by first | rfl | simp [Cond.onTables, Cond.keeps, Cond.steady])) hini)
  obtain ⟨hx, hb, hml, ho, -⟩ := S
  obtain ⟨-, ⟨cellB, hcB, hoB, hclB⟩, hPc⟩ := hp
  intro T hT X
  rcases vx_callVX X hx (C := C) (hh := hh) (bytes := bytes) (maxL := maxL) (ret := ret) ho hl hin hse hcode hy hK (by rw [hT]; exact hcB) hoB hclB hg (hsize.trans hml.symm) (argsL := As) (rest := rest) (fun sig h => hn.trans (hlen sig h)) hstack hW (by rw [hb]; exact hdg)
    (fun vm₁ hW₁ => ⟨hf.1, hf.2, hPc (T.setVm vm₁) hT hW₁⟩) with ⟨v, vm₁, ⟨U', l2, c2, s2⟩, hW₁, X', ⟨g', mk, t, L, e1, e2, hq, h1, hL, h2, h3⟩, st⟩ | ⟨q, vm₁, ⟨U', l2, c2, s2⟩, hW₁, X', ⟨g', mk, t, L, E, ce, e1, e2, hq, hce, hcv, hcl, h1, hL, h2, h3⟩, st⟩
  · dsimp only [Pt.U, Pt.locs, Pt.cells, Pt.slots] at X' e1 e2 h1 h2 h3 st
    subst h1; subst h2; subst h3
    exact Or.inl ⟨v, (T.setVm vm₁).calling g' mk (Value.ref b :: As).toArray, t, U', L, hT, X', hL, e1, e2, hq, st⟩
  · dsimp only [Pt.U, Pt.locs, Pt.cells, Pt.slots] at X' e1 e2 h1 h2 h3 st hcl
    subst h1; subst h2; subst h3
    exact Or.inr ⟨q, (T.setVm vm₁).calling g' mk (Value.ref b :: As).toArray, t, U', L, E, ce, hT, X', hL, e1, e2, hq, hce, hcv, vx_cls hW₁ hcl, st⟩
theorem vx_runSX {hh : List (Nat × Nat × Nat × Nat)} (S : CallFix p m c cc nL s args Ts own) (hM : vx_Met l y ws rm Pc Qc XC mc ms free) (cw : vx_CSW R s args own index y bytes maxL ret hh ws rm mc ms n) (hp : PreS s H Pc As)
    (hg : g.method = m) (hn : As.length = n) (hsize : g.locals.size = nL) (hstack : g.stack = As.reverse ++ rest) (hW : 2 * g.monitorRoom + (rest.map fun v => v.category).sum ≤ 8) (hdg : decode cc g.pc = .ok (.invokestatic index, 3)) (hf : cells + mc ≤ R.cells ∧ slots + ms ≤ R.slots) :
    vx_Run p l e R s m args below meth c H locs cells slots mc ms g rest (Qc As.toArray) XC free := by
  obtain ⟨⟨hrc, hrs, hfr, hlo, hws, hcw⟩, hcode, hini, hy, hlen, hl, hstt⟩ := cw
  have hK : vx_Back l R p e below s args y 3 8 (PreOf R mc ms Pc) (PostOf Qc mc ms free) (vx_Post XC mc ms free) := vx_backW (hh := hh) (bytes := bytes) (maxL := maxL) (ret := ret) hM hp.1 hrc hrs hfr hlo hws hcw (fun a' U hW => word_at hW (Or.inl (by first | rfl | simp [Cond.onTables, Cond.keeps, Cond.steady])) hini)
  obtain ⟨hx, hb, hml, ho, -⟩ := S
  intro T hT X
  rcases vx_callSX X hx (hh := hh) (bytes := bytes) (maxL := maxL) (ret := ret) ho hl hstt hini hcode hy hK hg (hsize.trans hml.symm) (argsL := As) (rest := rest) (fun sig h => hn.trans (hlen sig h)) hstack hW (by rw [hb]; exact hdg)
    (fun vm₁ hW₁ => ⟨hf.1, hf.2, hp.2 (T.setVm vm₁) hT hW₁⟩) with ⟨v, vm₁, ⟨U', l2, c2, s2⟩, hW₁, X', ⟨g', mk, t, L, e1, e2, hq, h1, hL, h2, h3⟩, st⟩ | ⟨q, vm₁, ⟨U', l2, c2, s2⟩, hW₁, X', ⟨g', mk, t, L, E, ce, e1, e2, hq, hce, hcv, hcl, h1, hL, h2, h3⟩, st⟩
  · dsimp only [Pt.U, Pt.locs, Pt.cells, Pt.slots] at X' e1 e2 h1 h2 h3 st
    subst h1; subst h2; subst h3
    exact Or.inl ⟨v, (T.setVm vm₁).calling g' mk As.toArray, t, U', L, hT, X', hL, e1, e2, hq, st⟩
  · dsimp only [Pt.U, Pt.locs, Pt.cells, Pt.slots] at X' e1 e2 h1 h2 h3 st hcl
    subst h1; subst h2; subst h3
    exact Or.inr ⟨q, (T.setVm vm₁).calling g' mk As.toArray, t, U', L, E, ce, hT, X', hL, e1, e2, hq, hce, hcv, vx_cls hW₁ hcl, st⟩
end
end VXH
theorem vx_ofWH {l : Launch} {y : MethodName} {ws ws' : List Cond} {rm : Room} {Pc : Array Value → State → Prop} {Qc : Array Value → State → Outcome → State → Prop} {XC : String → State → State → Prop} {mc ms : Nat} {free : Addr → Prop} {cc : ByteArray} {maxL : Nat} {ret : Option FieldType} {hh : List (Nat × Nat × Nat × Nat)}
    (hy : plainName y.cls = true) (hw : ws = Cond.codeWith y cc maxL ret hh :: ws')
    (body : ∀ p e s m args below meth c s₁, BodyLoose p l y (headSpec ws rm) cc maxL ret e s m args below meth c s₁ → c.maxLocals = maxL → Pc args s →
      W p l e (headSpec ws rm).room s m args below meth c s.heap [] 0 0 (vx_MQ below Qc XC args s mc ms free) (entryFrame m args maxL)) : vx_Met l y ws rm Pc Qc XC mc ms free := by
  refine MetFree.of_bodyS (code := cc) (maxLocals := maxL) (ret := ret) hy ?_ ?_
  · intro args s m h hn
    obtain ⟨m9, meth, c, hn9, h1, h2, h3, h4, -, h5, h6, -⟩ := Cond.codeWith_spec (atoms_spec (ws := ws) h _ (by rw [hw]; exact List.mem_cons_self))
    cases hn.symm.trans hn9
    exact ⟨meth, c, h1, h2, h3, h4, h5, h6⟩
  · intro p e s m args below meth c s₁ B hml hP _
    have hh0 : s₁.heap = s.heap := by rw [B.state]; rfl
    obtain ⟨t, a1, o, b1, b2, b3⟩ := body p e s m args below meth c s₁ B hml hP s₁ hh0 (Stand.of_body B)
    exact ⟨t, o, a1, b1, b2, b3⟩
/-! ===== END ===== -/
end
section
/-! as the printed row for a throw of a new exception, told of the heap that it is one cell larger -/
section VY
variable {p : Program} {l : Launch} {e : Env} {R : Room} {s : State} {m : MethodId} {args : Array Value} {below : List Frame} {meth : Method} {c : Code} {H : Heap} {locs : List Loc} {cells slots : Nat} {Q : State → Prop}
variable {mc ms : Nat} {free : Addr → Prop} {A0 A1 : Nat → Prop} {H0 : Heap} {a : Array Value} {ls : Array Slot} {st0 rest : List Value}
variable {Qc : Array Value → State → Outcome → State → Prop} {XC : String → State → State → Prop}
theorem vy_throwS {cc : ByteArray} {pc : Nat} (hexec : p.tables.exec = Jvm.exec) (hb : c.code = cc) (hl : l.stackTraces = false) {own cls text : String} {names : List String} {ik is ic mc ms sa : Nat} {A : Nat → Prop}
    (hown : s.vm.findClass own = some m.cls) (hcls : Bundle.fit cls = true) (hnames : ∀ n ∈ names, Bundle.fit n = true)
    (hk : (Cond.classLink own ik cls).before args s = true) (hini : (Cond.initialized cls).before args s = true) (hstr : vk_R own is text sa s) (hat : ∀ w ∈ vx_atS own ic cls names, w.before args s = true)
    (hgood : ∀ w ∈ Cond.classLink own ik cls :: Cond.initialized cls :: vx_atS own ic cls names, vx_ot w = true)
    (hU : vx_Zq Bundle.tN "UNASSIGNED_STACK" Bundle.steD A s s.heap) (hN : vx_Zq Bundle.tN "SUPPRESSED_SENTINEL" Bundle.listD A s s.heap) (hS : va_S A s.heap H locs) (hsize : ls.size = c.maxLocals)
    (d0 : decode cc pc = .ok (.new ik, 3)) (d3 : decode cc (pc + 3) = .ok (.dup, 1)) (d4 : decode cc (pc + 4) = .ok (.ldc is, 2)) (d6 : decode cc (pc + 6) = .ok (.invokespecial ic, 3)) (d9 : decode cc (pc + 9) = .ok (.athrow, 1))
    (hout : ∀ x ∈ c.exceptionTable.toList, covers x (pc + 9) = false)
    (hRframes : names.length + 3 < R.frames) (hRlocals : (rest.map fun v => v.category).sum + (13 * (names.length + 1) + 43) ≤ R.locals) (hRcells : cells + 1 ≤ R.cells) (hRslots : slots + 6 ≤ R.slots) (hlocks : meth.locks = false)
    (hx : ∀ t : State, s.vm.Alike t.vm → H.size < t.heap.size → (∀ q : Nat, q < H.size → t.heap[q]? = H[q]?) → XC cls s t)
    (hf : ∀ z ∈ locs, free z.base) (hc : cells + 1 ≤ mc) (hs : slots + 6 ≤ ms) :
    W p l e R s m args below meth c H locs cells slots (vx_MQ below Qc XC args s mc ms free) (F0 m pc ls rest) := by
  intro T hT X
  have htr : e.platform.stackTraces = false := (show e.platform.stackTraces = l.stackTraces by rw [X.admits.platform]).trans hl
  have Y := vx_rebase X (R' := { frames := R.frames, locals := R.locals, cells := 1, slots := 6 }) (Nat.le_refl _) (Nat.le_refl _) hRcells hRslots
  obtain ⟨s', hA⟩ : ∃ z, z = (T.setVm s.vm).setFrames (.invoking m args :: below) := ⟨_, rfl⟩
  rw [← hA] at Y
  have hvm : s'.vm = s.vm := by rw [hA]; rfl
  have hhp : s'.heap = H := by rw [hA]; exact hT
  have hW0 : s.WarmedH s'.vm := by rw [hvm]; exact State.WarmedH.refl s
  have hat' : ∀ w ∈ vx_atS own ic cls names, w.before args s' = true := fun w hw => vx_ot_at hW0 hvm.symm (hgood w (List.mem_cons_of_mem _ (List.mem_cons_of_mem _ hw))) (hat w hw)
  have hk' : (Cond.classLink own ik cls).before args s' = true := vx_ot_at hW0 hvm.symm (hgood _ List.mem_cons_self) hk
  have hini' : (Cond.initialized cls).before args s' = true := vx_ot_at hW0 hvm.symm (hgood _ (List.mem_cons_of_mem _ List.mem_cons_self)) hini
  have hU' : vx_Zq Bundle.tN "UNASSIGNED_STACK" Bundle.steD A s' s'.heap := by rw [hhp]; exact vx_Zq.moved hW0.alike (hU.kept hS.2.1)
  have hN' : vx_Zq Bundle.tN "SUPPRESSED_SENTINEL" Bundle.listD A s' s'.heap := by rw [hhp]; exact vx_Zq.moved hW0.alike (hN.kept hS.2.1)
  have h : ∀ w ∈ Bundle.ownAtoms own ic cls names, w.before args s' = true := vx_own hat' (vx_isRefq hU'.1) (vx_isRefq hN'.1) hU'.2.word hN'.2.word
  have hown' : s'.vm.findClass own = some m.cls := by rw [hvm]; exact hown
  have hins : (Cond.instantiable cls 6).before args s' = true := h _ (by simp [Bundle.ownAtoms])
  obtain ⟨vm₁, cX, kX, hfX, hkX, -, -, X₁, st1⟩ := Y.newCold hexec (own := own) (C := cls) (index := ik) (n := 6) hown' hk' hins hini'
    (g := F0 m pc ls rest) rfl (by rw [hb]; exact d0) (Nat.le_refl _) (Nat.le_refl _)
  generalize hT1 : (T.setVm vm₁).pushCell { cls := cX, slots := kX.instanceTypes.map defaultValue, vm := .none } = T1 at X₁ st1
  have hcat : (Value.ref T.heap.size).category = 1 := rfl
  have hcellA : T1.heap[T.heap.size]? = some (freshCell cX kX) := by rw [← hT1]; exact State.heap_pushCell_size _ _
  have d3' : decode c.code (pc + 3) = .ok (.dup, 1) := by rw [hb]; exact d3
  have d4' : decode c.code (pc + 4) = .ok (.ldc is, 2) := by rw [hb]; exact d4
  have hstr' : vk_R own is text sa s' := vk_R.warm hW0 hstr
  obtain ⟨U, hsteps, hrun, hend, hW, hsame, ce, hce, hO⟩ := X₁.ctorThrowS hexec htr (own := own) (cls := cls) (names := names) (ic := ic) hown' hcls hnames h (fun x hx => nomatch hx) hfX hkX hcellA (by rw [hhp, hT]; exact Nat.le_refl _) (msg := .ref sa) rfl
    (g := { method := m, pc := pc + 6, locals := ls, stack := .ref sa :: .ref T.heap.size :: .ref T.heap.size :: rest, locked := none }) rfl hsize rfl rfl (rest := rest) rfl
    (by rw [hb]; exact d6) (by rw [hb]; exact d9) hout hRframes (by simp only [List.map_cons, List.sum_cons, hcat]; omega) hlocks
  obtain ⟨f1, f2⟩ := vx_frame hsame
  rw [hhp] at f1 f2
  have hWs : s.WarmedH U.vm := State.WarmedH.trans hW0 hW
  have hcl : s.vm.findClass cls = some ce.cls := by
    have h9 := hO.cls
    rw [hvm] at h9
    exact h9
  have hall : s.sameButNew ({ U with vm := s.vm } : State) locs mc ms := by
    subst hA
    obtain ⟨e1, e2⟩ := hsame
    rw [State.setFrames_setFrames] at e1
    have h2 : (T.setVm s.vm).sameButNew ({ U with vm := s.vm } : State) [] (0 + 1) (0 + 6) := ⟨e1, e2⟩
    have h3 := X.same.trans h2
    rw [List.append_nil] at h3
    exact h3.mono hc hs
  refine ⟨U, ?_, .threw T.heap.size, hrun, hend, Or.inr ⟨T.heap.size, rfl, cls, ce, locs, hx U hWs.alike (by rw [← hT]; exact (Array.getElem?_eq_some_iff.mp hce).1) (fun q hq => f2 q hq (fun z hz => nomatch hz)), hce, hO.vm, hcl, hWs, hall, hf⟩⟩
  refine st1 _ ?_
  show Steps p.tables e below (T1.setTop { method := m, pc := pc + 3, locals := ls, stack := .ref T.heap.size :: rest, locked := none }) _
  jvm_step X₁.here [X₁.here.top, hexec, d3', Value.category]
  exact X₁.ldcString hexec (own := own) (text := text) (index := is) (a := sa) hown' hstr'.1 hstr'.2
    (g := { method := m, pc := pc + 4, locals := ls, stack := .ref T.heap.size :: .ref T.heap.size :: rest, locked := none }) rfl d4' _ hsteps
end VY
end
section
/-! ===== BEGIN printed: names, fields, word lists, decode rows ===== -/
def RX0 : String := "ShopHub"
def TX0 : u_T := fun k => match k with
  | 0 => ("ShopHub", "exists", "[Z", true)
  | 1 => ("ShopHub", "parents", "[I", true)
  | 2 => ("ShopHub", "discounts", "[I", true)
  | 3 => ("ShopHub", "quantities", "[I", true)
  | 4 => ("ShopHub", "goodCount", "I", false)
  | 5 => ("ShopHub", "draftGoods", "[I", true)
  | 6 => ("ShopHub", "draftPlaces", "[I", true)
  | 7 => ("ShopHub", "draftValues", "[I", true)
  | 8 => ("ShopHub", "draftDays", "[I", true)
  | 9 => ("ShopHub", "draftStates", "[I", true)
  | 10 => ("ShopHub", "draftCount", "I", false)
  | 11 => ("ShopHub", "today", "I", false)
  | 12 => ("ShopHub", "holders", "[I", true)
  | 13 => ("ShopHub", "asked", "[Z", true)
  | 14 => ("ShopHub", "seen", "[I", true)
  | _ => ("ShopHub", "prices", "[I", true)
def tyX0 : Nat → FieldType := fun k => match k with
  | 0 => .array .boolean
  | 1 => .array .int
  | 2 => .array .int
  | 3 => .array .int
  | 4 => .int
  | 5 => .array .int
  | 6 => .array .int
  | 7 => .array .int
  | 8 => .array .int
  | 9 => .array .int
  | 10 => .int
  | 11 => .int
  | 12 => .array .int
  | 13 => .array .boolean
  | 14 => .array .int
  | _ => .array .int
abbrev wsX00 : List Cond := u_ws RX0 TX0 16
theorem nmX0 : ∀ a, a < 16 → ∀ b, b < 16 → a ≠ b → (TX0 a).2.1 ≠ (TX0 b).2.1 := by decide +kernel
theorem tyX0_ok : ∀ k, k < 16 → parseFieldDescriptor (TX0 k).2.2.1 = some (tyX0 k) := by decide +kernel
abbrev cX0_init : ByteArray := prog_1_method_1_code
def yX0_init : MethodName := ⟨RX0, "<init>", "()V"⟩
abbrev cX0_addGood : ByteArray := prog_1_method_2_code
def yX0_addGood : MethodName := ⟨RX0, "addGood", "(I)I"⟩
abbrev cX0_move : ByteArray := prog_1_method_3_code
def yX0_move : MethodName := ⟨RX0, "move", "(II)I"⟩
abbrev cX0_delete : ByteArray := prog_1_method_4_code
def yX0_delete : MethodName := ⟨RX0, "delete", "(I)V"⟩
abbrev cX0_addPart : ByteArray := prog_1_method_5_code
def yX0_addPart : MethodName := ⟨RX0, "addPart", "(III)I"⟩
abbrev cX0_setDiscount : ByteArray := prog_1_method_6_code
def yX0_setDiscount : MethodName := ⟨RX0, "setDiscount", "(II)I"⟩
abbrev cX0_isGood : ByteArray := prog_1_method_7_code
def yX0_isGood : MethodName := ⟨RX0, "isGood", "(I)Z"⟩
abbrev cX0_checkGood : ByteArray := prog_1_method_8_code
def yX0_checkGood : MethodName := ⟨RX0, "checkGood", "(I)V"⟩
abbrev cX0_checkParent : ByteArray := prog_1_method_9_code
def yX0_checkParent : MethodName := ⟨RX0, "checkParent", "(I)V"⟩
abbrev cX0_levelOf : ByteArray := prog_1_method_10_code
def yX0_levelOf : MethodName := ⟨RX0, "levelOf", "(I)I"⟩
abbrev cX0_isWithin : ByteArray := prog_1_method_11_code
def yX0_isWithin : MethodName := ⟨RX0, "isWithin", "(II)Z"⟩
abbrev cX0_levelsWithin : ByteArray := prog_1_method_12_code
def yX0_levelsWithin : MethodName := ⟨RX0, "levelsWithin", "(I)I"⟩
abbrev cX0_isParent : ByteArray := prog_1_method_13_code
def yX0_isParent : MethodName := ⟨RX0, "isParent", "(I)Z"⟩
abbrev cX0_isPart : ByteArray := prog_1_method_14_code
def yX0_isPart : MethodName := ⟨RX0, "isPart", "(I)Z"⟩
abbrev cX0_draft : ByteArray := prog_1_method_15_code
def yX0_draft : MethodName := ⟨RX0, "draft", "(IIIIII)I"⟩
abbrev cX0_approve : ByteArray := prog_1_method_16_code
def yX0_approve : MethodName := ⟨RX0, "approve", "(I)Z"⟩
abbrev cX0_reject : ByteArray := prog_1_method_17_code
def yX0_reject : MethodName := ⟨RX0, "reject", "(I)Z"⟩
abbrev cX0_pass : ByteArray := prog_1_method_18_code
def yX0_pass : MethodName := ⟨RX0, "pass", "(I)I"⟩
abbrev cX0_isEntered : ByteArray := prog_1_method_19_code
def yX0_isEntered : MethodName := ⟨RX0, "isEntered", "(I)Z"⟩
abbrev cX0_checkDraft : ByteArray := prog_1_method_20_code
def yX0_checkDraft : MethodName := ⟨RX0, "checkDraft", "(I)V"⟩
abbrev cX0_placeOf : ByteArray := prog_1_method_21_code
def yX0_placeOf : MethodName := ⟨RX0, "placeOf", "(IIII)I"⟩
abbrev cX0_holdsAtItsPlace : ByteArray := prog_1_method_22_code
def yX0_holdsAtItsPlace : MethodName := ⟨RX0, "holdsAtItsPlace", "(I)Z"⟩
abbrev cX0_deleteDraftsOf : ByteArray := prog_1_method_23_code
def yX0_deleteDraftsOf : MethodName := ⟨RX0, "deleteDraftsOf", "(I)V"⟩
abbrev cX0_settleHolders : ByteArray := prog_1_method_24_code
def yX0_settleHolders : MethodName := ⟨RX0, "settleHolders", "()V"⟩
abbrev cX0_putHolder : ByteArray := prog_1_method_25_code
def yX0_putHolder : MethodName := ⟨RX0, "putHolder", "(I)V"⟩
abbrev cX0_value : ByteArray := prog_1_method_26_code
def yX0_value : MethodName := ⟨RX0, "value", "(IIII)I"⟩
abbrev cX0_origin : ByteArray := prog_1_method_27_code
def yX0_origin : MethodName := ⟨RX0, "origin", "(IIII)I"⟩
abbrev cX0_told : ByteArray := prog_1_method_28_code
def yX0_told : MethodName := ⟨RX0, "told", "(I)I"⟩
abbrev cX0_toggleAsked : ByteArray := prog_1_method_29_code
def yX0_toggleAsked : MethodName := ⟨RX0, "toggleAsked", "(II)Z"⟩
abbrev cX0_missing : ByteArray := prog_1_method_30_code
def yX0_missing : MethodName := ⟨RX0, "missing", "(III)I"⟩
abbrev cX0_complete : ByteArray := prog_1_method_31_code
def yX0_complete : MethodName := ⟨RX0, "complete", "(I)I"⟩
abbrev cX0_price : ByteArray := prog_1_method_32_code
def yX0_price : MethodName := ⟨RX0, "price", "(II)I"⟩
abbrev cX0_checkAttribute : ByteArray := prog_1_method_33_code
def yX0_checkAttribute : MethodName := ⟨RX0, "checkAttribute", "(I)V"⟩
abbrev cX0_checkShop : ByteArray := prog_1_method_34_code
def yX0_checkShop : MethodName := ⟨RX0, "checkShop", "(I)V"⟩
abbrev cX0_checkTongue : ByteArray := prog_1_method_35_code
def yX0_checkTongue : MethodName := ⟨RX0, "checkTongue", "(I)V"⟩
abbrev cX0_checkSight : ByteArray := prog_1_method_36_code
def yX0_checkSight : MethodName := ⟨RX0, "checkSight", "(IIII)V"⟩
abbrev cX0_findValue : ByteArray := prog_1_method_37_code
def yX0_findValue : MethodName := ⟨RX0, "findValue", "(IIII)I"⟩
abbrev cX0_findOrigin : ByteArray := prog_1_method_38_code
def yX0_findOrigin : MethodName := ⟨RX0, "findOrigin", "(IIII)I"⟩
abbrev cX0_findOwnOrigin : ByteArray := prog_1_method_39_code
def yX0_findOwnOrigin : MethodName := ⟨RX0, "findOwnOrigin", "(IIII)I"⟩
abbrev cX0_findMissing : ByteArray := prog_1_method_40_code
def yX0_findMissing : MethodName := ⟨RX0, "findMissing", "(III)I"⟩
abbrev cX0_isComplete : ByteArray := prog_1_method_41_code
def yX0_isComplete : MethodName := ⟨RX0, "isComplete", "(II)Z"⟩
abbrev cX0_findPrice : ByteArray := prog_1_method_42_code
def yX0_findPrice : MethodName := ⟨RX0, "findPrice", "(II)I"⟩
abbrev cX0_sumUpParts : ByteArray := prog_1_method_43_code
def yX0_sumUpParts : MethodName := ⟨RX0, "sumUpParts", "(I)I"⟩
abbrev cX0_changed : ByteArray := prog_1_method_44_code
def yX0_changed : MethodName := ⟨RX0, "changed", "(I)I"⟩
abbrev cX0_feed : ByteArray := prog_1_method_45_code
def yX0_feed : MethodName := ⟨RX0, "feed", "(I)I"⟩
abbrev cX0_findChanged : ByteArray := prog_1_method_46_code
def yX0_findChanged : MethodName := ⟨RX0, "findChanged", "(I)I"⟩
abbrev cX0_looksChanged : ByteArray := prog_1_method_47_code
def yX0_looksChanged : MethodName := ⟨RX0, "looksChanged", "(II)Z"⟩
abbrev cX0_rememberSights : ByteArray := prog_1_method_48_code
def yX0_rememberSights : MethodName := ⟨RX0, "rememberSights", "(II)V"⟩
def RX1 : String := "ShopHubModel"
def TX1 : u_T := fun k => match k with
  | _ => ("", "", "", false)
def tyX1 : Nat → FieldType := fun k => match k with
  | _ => .int
abbrev wsX10 : List Cond := u_ws RX1 TX1 0
theorem nmX1 : ∀ a, a < 0 → ∀ b, b < 0 → a ≠ b → (TX1 a).2.1 ≠ (TX1 b).2.1 := by decide +kernel
theorem tyX1_ok : ∀ k, k < 0 → parseFieldDescriptor (TX1 k).2.2.1 = some (tyX1 k) := by decide +kernel
def RJ6 : String := "java/lang/Integer"
def TJ6 : u_T := fun k => match k with
  | _ => ("", "", "", false)
def tyJ6 : Nat → FieldType := fun k => match k with
  | _ => .int
abbrev wsJ60 : List Cond := u_ws RJ6 TJ6 0
theorem nmJ6 : ∀ a, a < 0 → ∀ b, b < 0 → a ≠ b → (TJ6 a).2.1 ≠ (TJ6 b).2.1 := by decide +kernel
theorem tyJ6_ok : ∀ k, k < 0 → parseFieldDescriptor (TJ6 k).2.2.1 = some (tyJ6 k) := by decide +kernel
abbrev cJ6_bitCount_0f7a4 : ByteArray := prog_8_method_49_code
def yJ6_bitCount_0f7a4 : MethodName := ⟨RJ6, "bitCount", "(I)I"⟩
def RJ9 : String := "java/lang/Math"
def TJ9 : u_T := fun k => match k with
  | _ => ("", "", "", false)
def tyJ9 : Nat → FieldType := fun k => match k with
  | _ => .int
abbrev wsJ90 : List Cond := u_ws RJ9 TJ9 0
theorem nmJ9 : ∀ a, a < 0 → ∀ b, b < 0 → a ≠ b → (TJ9 a).2.1 ≠ (TJ9 b).2.1 := by decide +kernel
theorem tyJ9_ok : ∀ k, k < 0 → parseFieldDescriptor (TJ9 k).2.2.1 = some (tyJ9 k) := by decide +kernel
abbrev cJ9_max_7cf53 : ByteArray := prog_9_method_65_code
def yJ9_max_7cf53 : MethodName := ⟨RJ9, "max", "(II)I"⟩
def RJ0 : String := "java/lang/String"
def TJ0 : u_T := fun k => match k with
  | _ => ("", "", "", false)
def tyJ0 : Nat → FieldType := fun k => match k with
  | _ => .int
abbrev wsJ00 : List Cond := u_ws RJ0 TJ0 0
theorem nmJ0 : ∀ a, a < 0 → ∀ b, b < 0 → a ≠ b → (TJ0 a).2.1 ≠ (TJ0 b).2.1 := by decide +kernel
theorem tyJ0_ok : ∀ k, k < 0 → parseFieldDescriptor (TJ0 k).2.2.1 = some (tyJ0 k) := by decide +kernel
def RL : String := "ShopHubLaw"
abbrev cL_part : ByteArray := method_2_code
def yL_part : MethodName := ⟨RL, "part", "([III)I"⟩
abbrev cL_deletes : ByteArray := method_3_code
def yL_deletes : MethodName := ⟨RL, "deletes", "(LShopHub;I)I"⟩
abbrev cL_does : ByteArray := method_4_code
def yL_does : MethodName := ⟨RL, "does", "(LShopHub;IIII)I"⟩
abbrev cL_drafts : ByteArray := method_5_code
def yL_drafts : MethodName := ⟨RL, "drafts", "(LShopHub;IIIIII)I"⟩
abbrev cL_asks : ByteArray := method_6_code
def yL_asks : MethodName := ⟨RL, "asks", "(LShopHub;IIIII)I"⟩
abbrev cL_place : ByteArray := method_7_code
def yL_place : MethodName := ⟨RL, "place", "(IIII)I"⟩
abbrev cL_holds : ByteArray := method_8_code
def yL_holds : MethodName := ⟨RL, "holds", "([I[I[II)I"⟩
abbrev cL_origin : ByteArray := method_9_code
def yL_origin : MethodName := ⟨RL, "origin", "([I[I[I[IIIII)I"⟩
abbrev cL_isGood : ByteArray := method_10_code
def yL_isGood : MethodName := ⟨RL, "isGood", "(LShopHub;[I[I[I[I[II)Z"⟩
abbrev cL_areShops : ByteArray := method_11_code
def yL_areShops : MethodName := ⟨RL, "areShops", "(LShopHub;[I[I[I)Z"⟩
abbrev cL_level : ByteArray := method_12_code
def yL_level : MethodName := ⟨RL, "level", "([II)I"⟩
abbrev cL_isBelow : ByteArray := method_13_code
def yL_isBelow : MethodName := ⟨RL, "isBelow", "([III)Z"⟩
abbrev cL_isIn : ByteArray := method_14_code
def yL_isIn : MethodName := ⟨RL, "isIn", "([I[II)Z"⟩
abbrev cL_isTree : ByteArray := method_15_code
def yL_isTree : MethodName := ⟨RL, "isTree", "(LShopHub;[I[I[IIII)Z"⟩
abbrev cL_isPart : ByteArray := method_16_code
def yL_isPart : MethodName := ⟨RL, "isPart", "(LShopHub;[I[I[IIII)Z"⟩
abbrev cL_isDraft : ByteArray := method_17_code
def yL_isDraft : MethodName := ⟨RL, "isDraft", "(LShopHub;[I[I[I[IIII)Z"⟩
abbrev cL_isDecided : ByteArray := method_18_code
def yL_isDecided : MethodName := ⟨RL, "isDecided", "(LShopHub;[I[I[I[IIZ)Z"⟩
abbrev cL_isDone : ByteArray := method_19_code
def yL_isDone : MethodName := ⟨RL, "isDone", "(LShopHub;[II[I[I[I[I[I[I)Z"⟩
abbrev cL_law : ByteArray := code
def yL_law : MethodName := ⟨RL, "law", "([I)Z"⟩
def wsX0_init : List Cond := .code yX0_init cX0_init 2 none :: ([.methodLink RX0 3 objectInit, .instanceMethod objectInit, .code objectInit ⟨#[0xb1]⟩ 1 none, .arrayClass .boolean, .fieldLink RX0 9 "ShopHub" "exists" "[Z", .arrayClass .int, .fieldLink RX0 13 "ShopHub" "parents" "[I", .fieldLink RX0 17 "ShopHub" "discounts" "[I", .fieldLink RX0 20 "ShopHub" "quantities" "[I", .fieldLink RX0 23 "ShopHub" "goodCount" "I", .fieldLink RX0 27 "ShopHub" "draftGoods" "[I", .fieldLink RX0 30 "ShopHub" "draftPlaces" "[I", .fieldLink RX0 33 "ShopHub" "draftValues" "[I", .fieldLink RX0 36 "ShopHub" "draftDays" "[I", .fieldLink RX0 39 "ShopHub" "draftStates" "[I", .fieldLink RX0 42 "ShopHub" "draftCount" "I", .fieldLink RX0 45 "ShopHub" "today" "I", .fieldLink RX0 48 "ShopHub" "holders" "[I", .fieldLink RX0 51 "ShopHub" "asked" "[Z", .fieldLink RX0 54 "ShopHub" "seen" "[I", .fieldLink RX0 57 "ShopHub" "prices" "[I"] ++ wsX00)
def wsX0_isGood : List Cond := .code yX0_isGood cX0_isGood 2 (some .boolean) :: ([.fieldLink RX0 9 "ShopHub" "exists" "[Z"] ++ wsX00)
def wsX0_checkParent : List Cond := .code yX0_checkParent cX0_checkParent 2 none :: ([.classLink RX0 122 "java/lang/IndexOutOfBoundsException", .initialized "java/lang/IndexOutOfBoundsException", .methodLink RX0 119 yX0_isGood, .instanceMethod yX0_isGood, .selects RX0 yX0_isGood yX0_isGood, .initialized RX0, .code yX0_isGood cX0_isGood 2 (some .boolean), .fieldLink RX0 9 "ShopHub" "exists" "[Z"] ++ wsX00 ++ (vx_atS RX0 126 "java/lang/IndexOutOfBoundsException" ["java/lang/RuntimeException", "java/lang/Exception"]).filter goodWord)
def wsX0_levelOf : List Cond := .code yX0_levelOf cX0_levelOf 5 (some .int) :: ([.fieldLink RX0 13 "ShopHub" "parents" "[I", .methodLink RX0 119 yX0_isGood, .instanceMethod yX0_isGood, .selects RX0 yX0_isGood yX0_isGood, .initialized RX0, .code yX0_isGood cX0_isGood 2 (some .boolean), .fieldLink RX0 9 "ShopHub" "exists" "[Z"] ++ wsX00)
def wsX0_addGood : List Cond := .code yX0_addGood cX0_addGood 3 (some .int) :: ([.classLink RX0 68 "java/lang/IllegalStateException", .initialized "java/lang/IllegalStateException", .fieldLink RX0 23 "ShopHub" "goodCount" "I", .fieldLink RX0 9 "ShopHub" "exists" "[Z", .fieldLink RX0 13 "ShopHub" "parents" "[I", .methodLink RX0 60 yX0_checkParent, .instanceMethod yX0_checkParent, .selects RX0 yX0_checkParent yX0_checkParent, .initialized RX0, .code yX0_checkParent cX0_checkParent 2 none, .classLink RX0 122 "java/lang/IndexOutOfBoundsException", .initialized "java/lang/IndexOutOfBoundsException", .methodLink RX0 119 yX0_isGood, .instanceMethod yX0_isGood, .selects RX0 yX0_isGood yX0_isGood, .code yX0_isGood cX0_isGood 2 (some .boolean), .methodLink RX0 64 yX0_levelOf, .instanceMethod yX0_levelOf, .selects RX0 yX0_levelOf yX0_levelOf, .code yX0_levelOf cX0_levelOf 5 (some .int)] ++ wsX00 ++ (vx_atS RX0 72 "java/lang/IllegalStateException" ["java/lang/RuntimeException", "java/lang/Exception"]).filter goodWord ++ (vx_atS RX0 126 "java/lang/IndexOutOfBoundsException" ["java/lang/RuntimeException", "java/lang/Exception"]).filter goodWord)
def wsX0_checkGood : List Cond := .code yX0_checkGood cX0_checkGood 2 none :: ([.classLink RX0 122 "java/lang/IndexOutOfBoundsException", .initialized "java/lang/IndexOutOfBoundsException", .methodLink RX0 119 yX0_isGood, .instanceMethod yX0_isGood, .selects RX0 yX0_isGood yX0_isGood, .initialized RX0, .code yX0_isGood cX0_isGood 2 (some .boolean), .fieldLink RX0 9 "ShopHub" "exists" "[Z"] ++ wsX00 ++ (vx_atS RX0 126 "java/lang/IndexOutOfBoundsException" ["java/lang/RuntimeException", "java/lang/Exception"]).filter goodWord)
def wsX0_isWithin : List Cond := .code yX0_isWithin cX0_isWithin 5 (some .boolean) :: ([.fieldLink RX0 13 "ShopHub" "parents" "[I", .methodLink RX0 119 yX0_isGood, .instanceMethod yX0_isGood, .selects RX0 yX0_isGood yX0_isGood, .initialized RX0, .code yX0_isGood cX0_isGood 2 (some .boolean), .fieldLink RX0 9 "ShopHub" "exists" "[Z"] ++ wsX00)
def wsX0_levelsWithin : List Cond := .code yX0_levelsWithin cX0_levelsWithin 4 (some .int) :: ([.methodLink RX0 129 Lib.Math.max.name, .static Lib.Math.max.name, .initialized "java/lang/Math", .code Lib.Math.max.name Lib.Math.max.code 2 (some .int), .methodLink RX0 64 yX0_levelOf, .instanceMethod yX0_levelOf, .selects RX0 yX0_levelOf yX0_levelOf, .initialized RX0, .code yX0_levelOf cX0_levelOf 5 (some .int), .fieldLink RX0 13 "ShopHub" "parents" "[I", .methodLink RX0 119 yX0_isGood, .instanceMethod yX0_isGood, .selects RX0 yX0_isGood yX0_isGood, .code yX0_isGood cX0_isGood 2 (some .boolean), .fieldLink RX0 9 "ShopHub" "exists" "[Z", .methodLink RX0 80 yX0_isWithin, .instanceMethod yX0_isWithin, .selects RX0 yX0_isWithin yX0_isWithin, .code yX0_isWithin cX0_isWithin 5 (some .boolean)] ++ wsX00)
def wsX0_move_r1 : List Cond := [Cond.classLink RX0 68 "java/lang/IllegalStateException", Cond.initialized "java/lang/IllegalStateException", Cond.fieldLink RX0 13 "ShopHub" "parents" "[I", Cond.methodLink RX0 77 yX0_checkGood, Cond.instanceMethod yX0_checkGood, Cond.selects RX0 yX0_checkGood yX0_checkGood, Cond.initialized RX0, Cond.code yX0_checkGood cX0_checkGood 2 none, Cond.classLink RX0 122 "java/lang/IndexOutOfBoundsException", Cond.initialized "java/lang/IndexOutOfBoundsException", Cond.methodLink RX0 119 yX0_isGood, Cond.instanceMethod yX0_isGood, Cond.selects RX0 yX0_isGood yX0_isGood, Cond.code yX0_isGood cX0_isGood 2 (some .boolean), Cond.fieldLink RX0 9 "ShopHub" "exists" "[Z", Cond.methodLink RX0 60 yX0_checkParent, Cond.instanceMethod yX0_checkParent, Cond.selects RX0 yX0_checkParent yX0_checkParent, Cond.code yX0_checkParent cX0_checkParent 2 none, Cond.methodLink RX0 80 yX0_isWithin, Cond.instanceMethod yX0_isWithin, Cond.selects RX0 yX0_isWithin yX0_isWithin, Cond.code yX0_isWithin cX0_isWithin 5 (some .boolean), Cond.methodLink RX0 64 yX0_levelOf]
def wsX0_move_r2 : List Cond := [Cond.instanceMethod yX0_levelOf, Cond.selects RX0 yX0_levelOf yX0_levelOf, Cond.code yX0_levelOf cX0_levelOf 5 (some .int), Cond.methodLink RX0 86 yX0_levelsWithin, Cond.instanceMethod yX0_levelsWithin, Cond.selects RX0 yX0_levelsWithin yX0_levelsWithin, Cond.code yX0_levelsWithin cX0_levelsWithin 4 (some .int), Cond.methodLink RX0 129 Lib.Math.max.name, Cond.static Lib.Math.max.name, Cond.initialized "java/lang/Math", Cond.code Lib.Math.max.name Lib.Math.max.code 2 (some .int)]
def wsX0_move : List Cond := .code yX0_move cX0_move 4 (some .int) :: ((wsX0_move_r1 ++ wsX0_move_r2) ++ wsX00 ++ (vx_atS RX0 72 "java/lang/IllegalStateException" ["java/lang/RuntimeException", "java/lang/Exception"]).filter goodWord ++ (vx_atS RX0 126 "java/lang/IndexOutOfBoundsException" ["java/lang/RuntimeException", "java/lang/Exception"]).filter goodWord)
def wsX0_isParent : List Cond := .code yX0_isParent cX0_isParent 3 (some .boolean) :: ([.fieldLink RX0 13 "ShopHub" "parents" "[I"] ++ wsX00)
def wsX0_isPart : List Cond := .code yX0_isPart cX0_isPart 3 (some .boolean) :: ([.fieldLink RX0 20 "ShopHub" "quantities" "[I"] ++ wsX00)
def wsX0_deleteDraftsOf : List Cond := .code yX0_deleteDraftsOf cX0_deleteDraftsOf 3 none :: ([.fieldLink RX0 42 "ShopHub" "draftCount" "I", .fieldLink RX0 27 "ShopHub" "draftGoods" "[I", .fieldLink RX0 39 "ShopHub" "draftStates" "[I"] ++ wsX00)
def wsX0_isEntered : List Cond := .code yX0_isEntered cX0_isEntered 2 (some .boolean) :: ([.fieldLink RX0 42 "ShopHub" "draftCount" "I"] ++ wsX00)
def wsX0_putHolder : List Cond := .code yX0_putHolder cX0_putHolder 4 none :: ([.fieldLink RX0 30 "ShopHub" "draftPlaces" "[I", .fieldLink RX0 48 "ShopHub" "holders" "[I", .fieldLink RX0 36 "ShopHub" "draftDays" "[I", .methodLink RX0 167 yX0_isEntered, .instanceMethod yX0_isEntered, .selects RX0 yX0_isEntered yX0_isEntered, .initialized RX0, .code yX0_isEntered cX0_isEntered 2 (some .boolean), .fieldLink RX0 42 "ShopHub" "draftCount" "I"] ++ wsX00)
def wsX0_settleHolders : List Cond := .code yX0_settleHolders cX0_settleHolders 2 none :: ([.fieldLink RX0 48 "ShopHub" "holders" "[I", .fieldLink RX0 42 "ShopHub" "draftCount" "I", .fieldLink RX0 39 "ShopHub" "draftStates" "[I", .fieldLink RX0 36 "ShopHub" "draftDays" "[I", .fieldLink RX0 45 "ShopHub" "today" "I", .methodLink RX0 172 yX0_putHolder, .instanceMethod yX0_putHolder, .selects RX0 yX0_putHolder yX0_putHolder, .initialized RX0, .code yX0_putHolder cX0_putHolder 4 none, .fieldLink RX0 30 "ShopHub" "draftPlaces" "[I", .methodLink RX0 167 yX0_isEntered, .instanceMethod yX0_isEntered, .selects RX0 yX0_isEntered yX0_isEntered, .code yX0_isEntered cX0_isEntered 2 (some .boolean)] ++ wsX00)
def wsX0_delete_r1 : List Cond := [Cond.classLink RX0 68 "java/lang/IllegalStateException", Cond.initialized "java/lang/IllegalStateException", Cond.fieldLink RX0 9 "ShopHub" "exists" "[Z", Cond.fieldLink RX0 13 "ShopHub" "parents" "[I", Cond.fieldLink RX0 20 "ShopHub" "quantities" "[I", Cond.methodLink RX0 77 yX0_checkGood, Cond.instanceMethod yX0_checkGood, Cond.selects RX0 yX0_checkGood yX0_checkGood, Cond.initialized RX0, Cond.code yX0_checkGood cX0_checkGood 2 none, Cond.classLink RX0 122 "java/lang/IndexOutOfBoundsException", Cond.initialized "java/lang/IndexOutOfBoundsException", Cond.methodLink RX0 119 yX0_isGood, Cond.instanceMethod yX0_isGood, Cond.selects RX0 yX0_isGood yX0_isGood, Cond.code yX0_isGood cX0_isGood 2 (some .boolean), Cond.methodLink RX0 91 yX0_isParent, Cond.instanceMethod yX0_isParent, Cond.selects RX0 yX0_isParent yX0_isParent, Cond.code yX0_isParent cX0_isParent 3 (some .boolean), Cond.methodLink RX0 97 yX0_isPart, Cond.instanceMethod yX0_isPart, Cond.selects RX0 yX0_isPart yX0_isPart, Cond.code yX0_isPart cX0_isPart 3 (some .boolean)]
def wsX0_delete_r2 : List Cond := [Cond.methodLink RX0 102 yX0_deleteDraftsOf, Cond.instanceMethod yX0_deleteDraftsOf, Cond.selects RX0 yX0_deleteDraftsOf yX0_deleteDraftsOf, Cond.code yX0_deleteDraftsOf cX0_deleteDraftsOf 3 none, Cond.fieldLink RX0 42 "ShopHub" "draftCount" "I", Cond.fieldLink RX0 27 "ShopHub" "draftGoods" "[I", Cond.fieldLink RX0 39 "ShopHub" "draftStates" "[I", Cond.methodLink RX0 105 yX0_settleHolders, Cond.instanceMethod yX0_settleHolders, Cond.selects RX0 yX0_settleHolders yX0_settleHolders, Cond.code yX0_settleHolders cX0_settleHolders 2 none, Cond.fieldLink RX0 48 "ShopHub" "holders" "[I", Cond.fieldLink RX0 36 "ShopHub" "draftDays" "[I", Cond.fieldLink RX0 45 "ShopHub" "today" "I", Cond.methodLink RX0 172 yX0_putHolder, Cond.instanceMethod yX0_putHolder, Cond.selects RX0 yX0_putHolder yX0_putHolder, Cond.code yX0_putHolder cX0_putHolder 4 none, Cond.fieldLink RX0 30 "ShopHub" "draftPlaces" "[I", Cond.methodLink RX0 167 yX0_isEntered, Cond.instanceMethod yX0_isEntered, Cond.selects RX0 yX0_isEntered yX0_isEntered, Cond.code yX0_isEntered cX0_isEntered 2 (some .boolean)]
def wsX0_delete : List Cond := .code yX0_delete cX0_delete 3 none :: ((wsX0_delete_r1 ++ wsX0_delete_r2) ++ wsX00 ++ (vx_atS RX0 72 "java/lang/IllegalStateException" ["java/lang/RuntimeException", "java/lang/Exception"]).filter goodWord ++ (vx_atS RX0 126 "java/lang/IndexOutOfBoundsException" ["java/lang/RuntimeException", "java/lang/Exception"]).filter goodWord)
def wsX0_addPart : List Cond := .code yX0_addPart cX0_addPart 6 (some .int) :: ([.classLink RX0 108 "java/lang/IllegalArgumentException", .initialized "java/lang/IllegalArgumentException", .classLink RX0 68 "java/lang/IllegalStateException", .initialized "java/lang/IllegalStateException", .fieldLink RX0 20 "ShopHub" "quantities" "[I", .methodLink RX0 77 yX0_checkGood, .instanceMethod yX0_checkGood, .selects RX0 yX0_checkGood yX0_checkGood, .initialized RX0, .code yX0_checkGood cX0_checkGood 2 none, .classLink RX0 122 "java/lang/IndexOutOfBoundsException", .initialized "java/lang/IndexOutOfBoundsException", .methodLink RX0 119 yX0_isGood, .instanceMethod yX0_isGood, .selects RX0 yX0_isGood yX0_isGood, .code yX0_isGood cX0_isGood 2 (some .boolean), .fieldLink RX0 9 "ShopHub" "exists" "[Z"] ++ wsX00 ++ (vx_atS RX0 112 "java/lang/IllegalArgumentException" ["java/lang/RuntimeException", "java/lang/Exception"]).filter goodWord ++ (vx_atS RX0 72 "java/lang/IllegalStateException" ["java/lang/RuntimeException", "java/lang/Exception"]).filter goodWord ++ (vx_atS RX0 126 "java/lang/IndexOutOfBoundsException" ["java/lang/RuntimeException", "java/lang/Exception"]).filter goodWord)
def wsX0_setDiscount : List Cond := .code yX0_setDiscount cX0_setDiscount 4 (some .int) :: ([.classLink RX0 108 "java/lang/IllegalArgumentException", .initialized "java/lang/IllegalArgumentException", .fieldLink RX0 17 "ShopHub" "discounts" "[I", .methodLink RX0 77 yX0_checkGood, .instanceMethod yX0_checkGood, .selects RX0 yX0_checkGood yX0_checkGood, .initialized RX0, .code yX0_checkGood cX0_checkGood 2 none, .classLink RX0 122 "java/lang/IndexOutOfBoundsException", .initialized "java/lang/IndexOutOfBoundsException", .methodLink RX0 119 yX0_isGood, .instanceMethod yX0_isGood, .selects RX0 yX0_isGood yX0_isGood, .code yX0_isGood cX0_isGood 2 (some .boolean), .fieldLink RX0 9 "ShopHub" "exists" "[Z"] ++ wsX00 ++ (vx_atS RX0 112 "java/lang/IllegalArgumentException" ["java/lang/RuntimeException", "java/lang/Exception"]).filter goodWord ++ (vx_atS RX0 126 "java/lang/IndexOutOfBoundsException" ["java/lang/RuntimeException", "java/lang/Exception"]).filter goodWord)
def wsX0_checkAttribute : List Cond := .code yX0_checkAttribute cX0_checkAttribute 1 none :: ([.classLink RX0 122 "java/lang/IndexOutOfBoundsException", .initialized "java/lang/IndexOutOfBoundsException"] ++ (vx_atS RX0 126 "java/lang/IndexOutOfBoundsException" ["java/lang/RuntimeException", "java/lang/Exception"]).filter goodWord)
def wsX0_checkShop : List Cond := .code yX0_checkShop cX0_checkShop 1 none :: ([.classLink RX0 122 "java/lang/IndexOutOfBoundsException", .initialized "java/lang/IndexOutOfBoundsException"] ++ (vx_atS RX0 126 "java/lang/IndexOutOfBoundsException" ["java/lang/RuntimeException", "java/lang/Exception"]).filter goodWord)
def wsX0_checkTongue : List Cond := .code yX0_checkTongue cX0_checkTongue 1 none :: ([.classLink RX0 122 "java/lang/IndexOutOfBoundsException", .initialized "java/lang/IndexOutOfBoundsException"] ++ (vx_atS RX0 126 "java/lang/IndexOutOfBoundsException" ["java/lang/RuntimeException", "java/lang/Exception"]).filter goodWord)
def wsX0_placeOf : List Cond := .code yX0_placeOf cX0_placeOf 6 (some .int) :: ([])
def wsX0_draft_r1 : List Cond := [Cond.classLink RX0 108 "java/lang/IllegalArgumentException", Cond.initialized "java/lang/IllegalArgumentException", Cond.classLink RX0 68 "java/lang/IllegalStateException", Cond.initialized "java/lang/IllegalStateException", Cond.constant RX0 144 (100000), Cond.fieldLink RX0 42 "ShopHub" "draftCount" "I", Cond.fieldLink RX0 27 "ShopHub" "draftGoods" "[I", Cond.fieldLink RX0 30 "ShopHub" "draftPlaces" "[I", Cond.fieldLink RX0 33 "ShopHub" "draftValues" "[I", Cond.fieldLink RX0 36 "ShopHub" "draftDays" "[I", Cond.fieldLink RX0 39 "ShopHub" "draftStates" "[I", Cond.methodLink RX0 77 yX0_checkGood, Cond.instanceMethod yX0_checkGood, Cond.selects RX0 yX0_checkGood yX0_checkGood, Cond.initialized RX0, Cond.code yX0_checkGood cX0_checkGood 2 none, Cond.classLink RX0 122 "java/lang/IndexOutOfBoundsException", Cond.initialized "java/lang/IndexOutOfBoundsException", Cond.methodLink RX0 119 yX0_isGood, Cond.instanceMethod yX0_isGood, Cond.selects RX0 yX0_isGood yX0_isGood, Cond.code yX0_isGood cX0_isGood 2 (some .boolean), Cond.fieldLink RX0 9 "ShopHub" "exists" "[Z", Cond.methodLink RX0 135 yX0_checkAttribute]
def wsX0_draft_r2 : List Cond := [Cond.static yX0_checkAttribute, Cond.code yX0_checkAttribute cX0_checkAttribute 1 none, Cond.methodLink RX0 138 yX0_checkShop, Cond.static yX0_checkShop, Cond.code yX0_checkShop cX0_checkShop 1 none, Cond.methodLink RX0 141 yX0_checkTongue, Cond.static yX0_checkTongue, Cond.code yX0_checkTongue cX0_checkTongue 1 none, Cond.methodLink RX0 151 yX0_placeOf, Cond.static yX0_placeOf, Cond.code yX0_placeOf cX0_placeOf 6 (some .int)]
def wsX0_draft : List Cond := .code yX0_draft cX0_draft 8 (some .int) :: ((wsX0_draft_r1 ++ wsX0_draft_r2) ++ wsX00 ++ (vx_atS RX0 112 "java/lang/IllegalArgumentException" ["java/lang/RuntimeException", "java/lang/Exception"]).filter goodWord ++ (vx_atS RX0 72 "java/lang/IllegalStateException" ["java/lang/RuntimeException", "java/lang/Exception"]).filter goodWord ++ (vx_atS RX0 126 "java/lang/IndexOutOfBoundsException" ["java/lang/RuntimeException", "java/lang/Exception"]).filter goodWord)
def wsX0_checkDraft : List Cond := .code yX0_checkDraft cX0_checkDraft 2 none :: ([.classLink RX0 122 "java/lang/IndexOutOfBoundsException", .initialized "java/lang/IndexOutOfBoundsException", .fieldLink RX0 39 "ShopHub" "draftStates" "[I", .methodLink RX0 167 yX0_isEntered, .instanceMethod yX0_isEntered, .selects RX0 yX0_isEntered yX0_isEntered, .initialized RX0, .code yX0_isEntered cX0_isEntered 2 (some .boolean), .fieldLink RX0 42 "ShopHub" "draftCount" "I"] ++ wsX00 ++ (vx_atS RX0 126 "java/lang/IndexOutOfBoundsException" ["java/lang/RuntimeException", "java/lang/Exception"]).filter goodWord)
def wsX0_holdsAtItsPlace : List Cond := .code yX0_holdsAtItsPlace cX0_holdsAtItsPlace 2 (some .boolean) :: ([.fieldLink RX0 48 "ShopHub" "holders" "[I", .fieldLink RX0 30 "ShopHub" "draftPlaces" "[I"] ++ wsX00)
def wsX0_approve_r1 : List Cond := [Cond.classLink RX0 68 "java/lang/IllegalStateException", Cond.initialized "java/lang/IllegalStateException", Cond.fieldLink RX0 39 "ShopHub" "draftStates" "[I", Cond.methodLink RX0 155 yX0_checkDraft, Cond.instanceMethod yX0_checkDraft, Cond.selects RX0 yX0_checkDraft yX0_checkDraft, Cond.initialized RX0, Cond.code yX0_checkDraft cX0_checkDraft 2 none, Cond.classLink RX0 122 "java/lang/IndexOutOfBoundsException", Cond.initialized "java/lang/IndexOutOfBoundsException", Cond.methodLink RX0 167 yX0_isEntered, Cond.instanceMethod yX0_isEntered, Cond.selects RX0 yX0_isEntered yX0_isEntered, Cond.code yX0_isEntered cX0_isEntered 2 (some .boolean), Cond.fieldLink RX0 42 "ShopHub" "draftCount" "I", Cond.methodLink RX0 105 yX0_settleHolders, Cond.instanceMethod yX0_settleHolders, Cond.selects RX0 yX0_settleHolders yX0_settleHolders, Cond.code yX0_settleHolders cX0_settleHolders 2 none, Cond.fieldLink RX0 48 "ShopHub" "holders" "[I", Cond.fieldLink RX0 36 "ShopHub" "draftDays" "[I", Cond.fieldLink RX0 45 "ShopHub" "today" "I", Cond.methodLink RX0 172 yX0_putHolder, Cond.instanceMethod yX0_putHolder]
def wsX0_approve_r2 : List Cond := [Cond.selects RX0 yX0_putHolder yX0_putHolder, Cond.code yX0_putHolder cX0_putHolder 4 none, Cond.fieldLink RX0 30 "ShopHub" "draftPlaces" "[I", Cond.methodLink RX0 160 yX0_holdsAtItsPlace, Cond.instanceMethod yX0_holdsAtItsPlace, Cond.selects RX0 yX0_holdsAtItsPlace yX0_holdsAtItsPlace, Cond.code yX0_holdsAtItsPlace cX0_holdsAtItsPlace 2 (some .boolean)]
def wsX0_approve : List Cond := .code yX0_approve cX0_approve 2 (some .boolean) :: ((wsX0_approve_r1 ++ wsX0_approve_r2) ++ wsX00 ++ (vx_atS RX0 72 "java/lang/IllegalStateException" ["java/lang/RuntimeException", "java/lang/Exception"]).filter goodWord ++ (vx_atS RX0 126 "java/lang/IndexOutOfBoundsException" ["java/lang/RuntimeException", "java/lang/Exception"]).filter goodWord)
def wsX0_reject_r1 : List Cond := [Cond.classLink RX0 68 "java/lang/IllegalStateException", Cond.initialized "java/lang/IllegalStateException", Cond.fieldLink RX0 39 "ShopHub" "draftStates" "[I", Cond.methodLink RX0 155 yX0_checkDraft, Cond.instanceMethod yX0_checkDraft, Cond.selects RX0 yX0_checkDraft yX0_checkDraft, Cond.initialized RX0, Cond.code yX0_checkDraft cX0_checkDraft 2 none, Cond.classLink RX0 122 "java/lang/IndexOutOfBoundsException", Cond.initialized "java/lang/IndexOutOfBoundsException", Cond.methodLink RX0 167 yX0_isEntered, Cond.instanceMethod yX0_isEntered, Cond.selects RX0 yX0_isEntered yX0_isEntered, Cond.code yX0_isEntered cX0_isEntered 2 (some .boolean), Cond.fieldLink RX0 42 "ShopHub" "draftCount" "I", Cond.methodLink RX0 160 yX0_holdsAtItsPlace, Cond.instanceMethod yX0_holdsAtItsPlace, Cond.selects RX0 yX0_holdsAtItsPlace yX0_holdsAtItsPlace, Cond.code yX0_holdsAtItsPlace cX0_holdsAtItsPlace 2 (some .boolean), Cond.fieldLink RX0 48 "ShopHub" "holders" "[I", Cond.fieldLink RX0 30 "ShopHub" "draftPlaces" "[I", Cond.methodLink RX0 105 yX0_settleHolders, Cond.instanceMethod yX0_settleHolders, Cond.selects RX0 yX0_settleHolders yX0_settleHolders]
def wsX0_reject_r2 : List Cond := [Cond.code yX0_settleHolders cX0_settleHolders 2 none, Cond.fieldLink RX0 36 "ShopHub" "draftDays" "[I", Cond.fieldLink RX0 45 "ShopHub" "today" "I", Cond.methodLink RX0 172 yX0_putHolder, Cond.instanceMethod yX0_putHolder, Cond.selects RX0 yX0_putHolder yX0_putHolder, Cond.code yX0_putHolder cX0_putHolder 4 none]
def wsX0_reject : List Cond := .code yX0_reject cX0_reject 3 (some .boolean) :: ((wsX0_reject_r1 ++ wsX0_reject_r2) ++ wsX00 ++ (vx_atS RX0 72 "java/lang/IllegalStateException" ["java/lang/RuntimeException", "java/lang/Exception"]).filter goodWord ++ (vx_atS RX0 126 "java/lang/IndexOutOfBoundsException" ["java/lang/RuntimeException", "java/lang/Exception"]).filter goodWord)
def wsX0_pass : List Cond := .code yX0_pass cX0_pass 2 (some .int) :: ([.classLink RX0 108 "java/lang/IllegalArgumentException", .initialized "java/lang/IllegalArgumentException", .fieldLink RX0 45 "ShopHub" "today" "I", .methodLink RX0 105 yX0_settleHolders, .instanceMethod yX0_settleHolders, .selects RX0 yX0_settleHolders yX0_settleHolders, .initialized RX0, .code yX0_settleHolders cX0_settleHolders 2 none, .fieldLink RX0 48 "ShopHub" "holders" "[I", .fieldLink RX0 42 "ShopHub" "draftCount" "I", .fieldLink RX0 39 "ShopHub" "draftStates" "[I", .fieldLink RX0 36 "ShopHub" "draftDays" "[I", .methodLink RX0 172 yX0_putHolder, .instanceMethod yX0_putHolder, .selects RX0 yX0_putHolder yX0_putHolder, .code yX0_putHolder cX0_putHolder 4 none, .fieldLink RX0 30 "ShopHub" "draftPlaces" "[I", .methodLink RX0 167 yX0_isEntered, .instanceMethod yX0_isEntered, .selects RX0 yX0_isEntered yX0_isEntered, .code yX0_isEntered cX0_isEntered 2 (some .boolean)] ++ wsX00 ++ (vx_atS RX0 112 "java/lang/IllegalArgumentException" ["java/lang/RuntimeException", "java/lang/Exception"]).filter goodWord)
def wsX0_checkSight : List Cond := .code yX0_checkSight cX0_checkSight 5 none :: ([.methodLink RX0 77 yX0_checkGood, .instanceMethod yX0_checkGood, .selects RX0 yX0_checkGood yX0_checkGood, .initialized RX0, .code yX0_checkGood cX0_checkGood 2 none, .classLink RX0 122 "java/lang/IndexOutOfBoundsException", .initialized "java/lang/IndexOutOfBoundsException", .methodLink RX0 119 yX0_isGood, .instanceMethod yX0_isGood, .selects RX0 yX0_isGood yX0_isGood, .code yX0_isGood cX0_isGood 2 (some .boolean), .fieldLink RX0 9 "ShopHub" "exists" "[Z", .methodLink RX0 135 yX0_checkAttribute, .static yX0_checkAttribute, .code yX0_checkAttribute cX0_checkAttribute 1 none, .methodLink RX0 138 yX0_checkShop, .static yX0_checkShop, .code yX0_checkShop cX0_checkShop 1 none, .methodLink RX0 141 yX0_checkTongue, .static yX0_checkTongue, .code yX0_checkTongue cX0_checkTongue 1 none] ++ wsX00 ++ (vx_atS RX0 126 "java/lang/IndexOutOfBoundsException" ["java/lang/RuntimeException", "java/lang/Exception"]).filter goodWord)
def wsX0_findOwnOrigin : List Cond := .code yX0_findOwnOrigin cX0_findOwnOrigin 6 (some .int) :: ([.fieldLink RX0 48 "ShopHub" "holders" "[I", .methodLink RX0 151 yX0_placeOf, .static yX0_placeOf, .initialized RX0, .code yX0_placeOf cX0_placeOf 6 (some .int)] ++ wsX00)
def wsX0_findOrigin : List Cond := .code yX0_findOrigin cX0_findOrigin 8 (some .int) :: ([.fieldLink RX0 13 "ShopHub" "parents" "[I", .methodLink RX0 119 yX0_isGood, .instanceMethod yX0_isGood, .selects RX0 yX0_isGood yX0_isGood, .initialized RX0, .code yX0_isGood cX0_isGood 2 (some .boolean), .fieldLink RX0 9 "ShopHub" "exists" "[Z", .methodLink RX0 205 yX0_findOwnOrigin, .instanceMethod yX0_findOwnOrigin, .selects RX0 yX0_findOwnOrigin yX0_findOwnOrigin, .code yX0_findOwnOrigin cX0_findOwnOrigin 6 (some .int), .fieldLink RX0 48 "ShopHub" "holders" "[I", .methodLink RX0 151 yX0_placeOf, .static yX0_placeOf, .code yX0_placeOf cX0_placeOf 6 (some .int)] ++ wsX00)
def wsX0_findValue_r1 : List Cond := [Cond.fieldLink RX0 33 "ShopHub" "draftValues" "[I", Cond.methodLink RX0 184 yX0_findOrigin, Cond.instanceMethod yX0_findOrigin, Cond.selects RX0 yX0_findOrigin yX0_findOrigin, Cond.initialized RX0, Cond.code yX0_findOrigin cX0_findOrigin 8 (some .int), Cond.fieldLink RX0 13 "ShopHub" "parents" "[I", Cond.methodLink RX0 119 yX0_isGood, Cond.instanceMethod yX0_isGood, Cond.selects RX0 yX0_isGood yX0_isGood, Cond.code yX0_isGood cX0_isGood 2 (some .boolean), Cond.fieldLink RX0 9 "ShopHub" "exists" "[Z", Cond.methodLink RX0 205 yX0_findOwnOrigin, Cond.instanceMethod yX0_findOwnOrigin, Cond.selects RX0 yX0_findOwnOrigin yX0_findOwnOrigin, Cond.code yX0_findOwnOrigin cX0_findOwnOrigin 6 (some .int), Cond.fieldLink RX0 48 "ShopHub" "holders" "[I", Cond.methodLink RX0 151 yX0_placeOf, Cond.static yX0_placeOf, Cond.code yX0_placeOf cX0_placeOf 6 (some .int), Cond.methodLink RX0 167 yX0_isEntered, Cond.instanceMethod yX0_isEntered, Cond.selects RX0 yX0_isEntered yX0_isEntered, Cond.code yX0_isEntered cX0_isEntered 2 (some .boolean)]
def wsX0_findValue_r2 : List Cond := [Cond.fieldLink RX0 42 "ShopHub" "draftCount" "I"]
def wsX0_findValue : List Cond := .code yX0_findValue cX0_findValue 6 (some .int) :: ((wsX0_findValue_r1 ++ wsX0_findValue_r2) ++ wsX00)
def wsX0_value_r1 : List Cond := [Cond.classLink RX0 68 "java/lang/IllegalStateException", Cond.initialized "java/lang/IllegalStateException", Cond.methodLink RX0 175 yX0_checkSight, Cond.instanceMethod yX0_checkSight, Cond.selects RX0 yX0_checkSight yX0_checkSight, Cond.initialized RX0, Cond.code yX0_checkSight cX0_checkSight 5 none, Cond.methodLink RX0 77 yX0_checkGood, Cond.instanceMethod yX0_checkGood, Cond.selects RX0 yX0_checkGood yX0_checkGood, Cond.code yX0_checkGood cX0_checkGood 2 none, Cond.classLink RX0 122 "java/lang/IndexOutOfBoundsException", Cond.initialized "java/lang/IndexOutOfBoundsException", Cond.methodLink RX0 119 yX0_isGood, Cond.instanceMethod yX0_isGood, Cond.selects RX0 yX0_isGood yX0_isGood, Cond.code yX0_isGood cX0_isGood 2 (some .boolean), Cond.fieldLink RX0 9 "ShopHub" "exists" "[Z", Cond.methodLink RX0 135 yX0_checkAttribute, Cond.static yX0_checkAttribute, Cond.code yX0_checkAttribute cX0_checkAttribute 1 none, Cond.methodLink RX0 138 yX0_checkShop, Cond.static yX0_checkShop, Cond.code yX0_checkShop cX0_checkShop 1 none]
def wsX0_value_r2 : List Cond := [Cond.methodLink RX0 141 yX0_checkTongue, Cond.static yX0_checkTongue, Cond.code yX0_checkTongue cX0_checkTongue 1 none, Cond.methodLink RX0 179 yX0_findValue, Cond.instanceMethod yX0_findValue, Cond.selects RX0 yX0_findValue yX0_findValue, Cond.code yX0_findValue cX0_findValue 6 (some .int), Cond.fieldLink RX0 33 "ShopHub" "draftValues" "[I", Cond.methodLink RX0 184 yX0_findOrigin, Cond.instanceMethod yX0_findOrigin, Cond.selects RX0 yX0_findOrigin yX0_findOrigin, Cond.code yX0_findOrigin cX0_findOrigin 8 (some .int), Cond.fieldLink RX0 13 "ShopHub" "parents" "[I", Cond.methodLink RX0 205 yX0_findOwnOrigin, Cond.instanceMethod yX0_findOwnOrigin, Cond.selects RX0 yX0_findOwnOrigin yX0_findOwnOrigin, Cond.code yX0_findOwnOrigin cX0_findOwnOrigin 6 (some .int), Cond.fieldLink RX0 48 "ShopHub" "holders" "[I", Cond.methodLink RX0 151 yX0_placeOf, Cond.static yX0_placeOf, Cond.code yX0_placeOf cX0_placeOf 6 (some .int), Cond.methodLink RX0 167 yX0_isEntered, Cond.instanceMethod yX0_isEntered, Cond.selects RX0 yX0_isEntered yX0_isEntered]
def wsX0_value_r3 : List Cond := [Cond.code yX0_isEntered cX0_isEntered 2 (some .boolean), Cond.fieldLink RX0 42 "ShopHub" "draftCount" "I"]
def wsX0_value : List Cond := .code yX0_value cX0_value 6 (some .int) :: ((wsX0_value_r1 ++ (wsX0_value_r2 ++ wsX0_value_r3)) ++ wsX00 ++ (vx_atS RX0 72 "java/lang/IllegalStateException" ["java/lang/RuntimeException", "java/lang/Exception"]).filter goodWord ++ (vx_atS RX0 126 "java/lang/IndexOutOfBoundsException" ["java/lang/RuntimeException", "java/lang/Exception"]).filter goodWord)
def wsX0_origin_r1 : List Cond := [Cond.methodLink RX0 175 yX0_checkSight, Cond.instanceMethod yX0_checkSight, Cond.selects RX0 yX0_checkSight yX0_checkSight, Cond.initialized RX0, Cond.code yX0_checkSight cX0_checkSight 5 none, Cond.methodLink RX0 77 yX0_checkGood, Cond.instanceMethod yX0_checkGood, Cond.selects RX0 yX0_checkGood yX0_checkGood, Cond.code yX0_checkGood cX0_checkGood 2 none, Cond.classLink RX0 122 "java/lang/IndexOutOfBoundsException", Cond.initialized "java/lang/IndexOutOfBoundsException", Cond.methodLink RX0 119 yX0_isGood, Cond.instanceMethod yX0_isGood, Cond.selects RX0 yX0_isGood yX0_isGood, Cond.code yX0_isGood cX0_isGood 2 (some .boolean), Cond.fieldLink RX0 9 "ShopHub" "exists" "[Z", Cond.methodLink RX0 135 yX0_checkAttribute, Cond.static yX0_checkAttribute, Cond.code yX0_checkAttribute cX0_checkAttribute 1 none, Cond.methodLink RX0 138 yX0_checkShop, Cond.static yX0_checkShop, Cond.code yX0_checkShop cX0_checkShop 1 none, Cond.methodLink RX0 141 yX0_checkTongue, Cond.static yX0_checkTongue]
def wsX0_origin_r2 : List Cond := [Cond.code yX0_checkTongue cX0_checkTongue 1 none, Cond.methodLink RX0 184 yX0_findOrigin, Cond.instanceMethod yX0_findOrigin, Cond.selects RX0 yX0_findOrigin yX0_findOrigin, Cond.code yX0_findOrigin cX0_findOrigin 8 (some .int), Cond.fieldLink RX0 13 "ShopHub" "parents" "[I", Cond.methodLink RX0 205 yX0_findOwnOrigin, Cond.instanceMethod yX0_findOwnOrigin, Cond.selects RX0 yX0_findOwnOrigin yX0_findOwnOrigin, Cond.code yX0_findOwnOrigin cX0_findOwnOrigin 6 (some .int), Cond.fieldLink RX0 48 "ShopHub" "holders" "[I", Cond.methodLink RX0 151 yX0_placeOf, Cond.static yX0_placeOf, Cond.code yX0_placeOf cX0_placeOf 6 (some .int)]
def wsX0_origin : List Cond := .code yX0_origin cX0_origin 5 (some .int) :: ((wsX0_origin_r1 ++ wsX0_origin_r2) ++ wsX00 ++ (vx_atS RX0 126 "java/lang/IndexOutOfBoundsException" ["java/lang/RuntimeException", "java/lang/Exception"]).filter goodWord)
def wsX0_told : List Cond := .code yX0_told cX0_told 5 (some .int) :: ([.fieldLink RX0 48 "ShopHub" "holders" "[I", .methodLink RX0 77 yX0_checkGood, .instanceMethod yX0_checkGood, .selects RX0 yX0_checkGood yX0_checkGood, .initialized RX0, .code yX0_checkGood cX0_checkGood 2 none, .classLink RX0 122 "java/lang/IndexOutOfBoundsException", .initialized "java/lang/IndexOutOfBoundsException", .methodLink RX0 119 yX0_isGood, .instanceMethod yX0_isGood, .selects RX0 yX0_isGood yX0_isGood, .code yX0_isGood cX0_isGood 2 (some .boolean), .fieldLink RX0 9 "ShopHub" "exists" "[Z"] ++ wsX00 ++ (vx_atS RX0 126 "java/lang/IndexOutOfBoundsException" ["java/lang/RuntimeException", "java/lang/Exception"]).filter goodWord)
def wsX0_toggleAsked : List Cond := .code yX0_toggleAsked cX0_toggleAsked 4 (some .boolean) :: ([.fieldLink RX0 51 "ShopHub" "asked" "[Z", .methodLink RX0 138 yX0_checkShop, .static yX0_checkShop, .initialized RX0, .code yX0_checkShop cX0_checkShop 1 none, .classLink RX0 122 "java/lang/IndexOutOfBoundsException", .initialized "java/lang/IndexOutOfBoundsException", .methodLink RX0 135 yX0_checkAttribute, .static yX0_checkAttribute, .code yX0_checkAttribute cX0_checkAttribute 1 none] ++ wsX00 ++ (vx_atS RX0 126 "java/lang/IndexOutOfBoundsException" ["java/lang/RuntimeException", "java/lang/Exception"]).filter goodWord)
def wsX0_findMissing_r1 : List Cond := [Cond.fieldLink RX0 51 "ShopHub" "asked" "[Z", Cond.methodLink RX0 179 yX0_findValue, Cond.instanceMethod yX0_findValue, Cond.selects RX0 yX0_findValue yX0_findValue, Cond.initialized RX0, Cond.code yX0_findValue cX0_findValue 6 (some .int), Cond.fieldLink RX0 33 "ShopHub" "draftValues" "[I", Cond.methodLink RX0 184 yX0_findOrigin, Cond.instanceMethod yX0_findOrigin, Cond.selects RX0 yX0_findOrigin yX0_findOrigin, Cond.code yX0_findOrigin cX0_findOrigin 8 (some .int), Cond.fieldLink RX0 13 "ShopHub" "parents" "[I", Cond.methodLink RX0 119 yX0_isGood, Cond.instanceMethod yX0_isGood, Cond.selects RX0 yX0_isGood yX0_isGood, Cond.code yX0_isGood cX0_isGood 2 (some .boolean), Cond.fieldLink RX0 9 "ShopHub" "exists" "[Z", Cond.methodLink RX0 205 yX0_findOwnOrigin, Cond.instanceMethod yX0_findOwnOrigin, Cond.selects RX0 yX0_findOwnOrigin yX0_findOwnOrigin, Cond.code yX0_findOwnOrigin cX0_findOwnOrigin 6 (some .int), Cond.fieldLink RX0 48 "ShopHub" "holders" "[I", Cond.methodLink RX0 151 yX0_placeOf, Cond.static yX0_placeOf]
def wsX0_findMissing_r2 : List Cond := [Cond.code yX0_placeOf cX0_placeOf 6 (some .int), Cond.methodLink RX0 167 yX0_isEntered, Cond.instanceMethod yX0_isEntered, Cond.selects RX0 yX0_isEntered yX0_isEntered, Cond.code yX0_isEntered cX0_isEntered 2 (some .boolean), Cond.fieldLink RX0 42 "ShopHub" "draftCount" "I"]
def wsX0_findMissing : List Cond := .code yX0_findMissing cX0_findMissing 6 (some .int) :: ((wsX0_findMissing_r1 ++ wsX0_findMissing_r2) ++ wsX00)
def wsX0_missing_r1 : List Cond := [Cond.methodLink RX0 77 yX0_checkGood, Cond.instanceMethod yX0_checkGood, Cond.selects RX0 yX0_checkGood yX0_checkGood, Cond.initialized RX0, Cond.code yX0_checkGood cX0_checkGood 2 none, Cond.classLink RX0 122 "java/lang/IndexOutOfBoundsException", Cond.initialized "java/lang/IndexOutOfBoundsException", Cond.methodLink RX0 119 yX0_isGood, Cond.instanceMethod yX0_isGood, Cond.selects RX0 yX0_isGood yX0_isGood, Cond.code yX0_isGood cX0_isGood 2 (some .boolean), Cond.fieldLink RX0 9 "ShopHub" "exists" "[Z", Cond.methodLink RX0 138 yX0_checkShop, Cond.static yX0_checkShop, Cond.code yX0_checkShop cX0_checkShop 1 none, Cond.methodLink RX0 141 yX0_checkTongue, Cond.static yX0_checkTongue, Cond.code yX0_checkTongue cX0_checkTongue 1 none, Cond.methodLink RX0 187 yX0_findMissing, Cond.instanceMethod yX0_findMissing, Cond.selects RX0 yX0_findMissing yX0_findMissing, Cond.code yX0_findMissing cX0_findMissing 6 (some .int), Cond.fieldLink RX0 51 "ShopHub" "asked" "[Z", Cond.methodLink RX0 179 yX0_findValue]
def wsX0_missing_r2 : List Cond := [Cond.instanceMethod yX0_findValue, Cond.selects RX0 yX0_findValue yX0_findValue, Cond.code yX0_findValue cX0_findValue 6 (some .int), Cond.fieldLink RX0 33 "ShopHub" "draftValues" "[I", Cond.methodLink RX0 184 yX0_findOrigin, Cond.instanceMethod yX0_findOrigin, Cond.selects RX0 yX0_findOrigin yX0_findOrigin, Cond.code yX0_findOrigin cX0_findOrigin 8 (some .int), Cond.fieldLink RX0 13 "ShopHub" "parents" "[I", Cond.methodLink RX0 205 yX0_findOwnOrigin, Cond.instanceMethod yX0_findOwnOrigin, Cond.selects RX0 yX0_findOwnOrigin yX0_findOwnOrigin, Cond.code yX0_findOwnOrigin cX0_findOwnOrigin 6 (some .int), Cond.fieldLink RX0 48 "ShopHub" "holders" "[I", Cond.methodLink RX0 151 yX0_placeOf, Cond.static yX0_placeOf, Cond.code yX0_placeOf cX0_placeOf 6 (some .int), Cond.methodLink RX0 167 yX0_isEntered, Cond.instanceMethod yX0_isEntered, Cond.selects RX0 yX0_isEntered yX0_isEntered, Cond.code yX0_isEntered cX0_isEntered 2 (some .boolean), Cond.fieldLink RX0 42 "ShopHub" "draftCount" "I"]
def wsX0_missing : List Cond := .code yX0_missing cX0_missing 4 (some .int) :: ((wsX0_missing_r1 ++ wsX0_missing_r2) ++ wsX00 ++ (vx_atS RX0 126 "java/lang/IndexOutOfBoundsException" ["java/lang/RuntimeException", "java/lang/Exception"]).filter goodWord)
def wsX0_isComplete_r1 : List Cond := [Cond.methodLink RX0 187 yX0_findMissing, Cond.instanceMethod yX0_findMissing, Cond.selects RX0 yX0_findMissing yX0_findMissing, Cond.initialized RX0, Cond.code yX0_findMissing cX0_findMissing 6 (some .int), Cond.fieldLink RX0 51 "ShopHub" "asked" "[Z", Cond.methodLink RX0 179 yX0_findValue, Cond.instanceMethod yX0_findValue, Cond.selects RX0 yX0_findValue yX0_findValue, Cond.code yX0_findValue cX0_findValue 6 (some .int), Cond.fieldLink RX0 33 "ShopHub" "draftValues" "[I", Cond.methodLink RX0 184 yX0_findOrigin, Cond.instanceMethod yX0_findOrigin, Cond.selects RX0 yX0_findOrigin yX0_findOrigin, Cond.code yX0_findOrigin cX0_findOrigin 8 (some .int), Cond.fieldLink RX0 13 "ShopHub" "parents" "[I", Cond.methodLink RX0 119 yX0_isGood, Cond.instanceMethod yX0_isGood, Cond.selects RX0 yX0_isGood yX0_isGood, Cond.code yX0_isGood cX0_isGood 2 (some .boolean), Cond.fieldLink RX0 9 "ShopHub" "exists" "[Z", Cond.methodLink RX0 205 yX0_findOwnOrigin, Cond.instanceMethod yX0_findOwnOrigin, Cond.selects RX0 yX0_findOwnOrigin yX0_findOwnOrigin]
def wsX0_isComplete_r2 : List Cond := [Cond.code yX0_findOwnOrigin cX0_findOwnOrigin 6 (some .int), Cond.fieldLink RX0 48 "ShopHub" "holders" "[I", Cond.methodLink RX0 151 yX0_placeOf, Cond.static yX0_placeOf, Cond.code yX0_placeOf cX0_placeOf 6 (some .int), Cond.methodLink RX0 167 yX0_isEntered, Cond.instanceMethod yX0_isEntered, Cond.selects RX0 yX0_isEntered yX0_isEntered, Cond.code yX0_isEntered cX0_isEntered 2 (some .boolean), Cond.fieldLink RX0 42 "ShopHub" "draftCount" "I"]
def wsX0_isComplete : List Cond := .code yX0_isComplete cX0_isComplete 4 (some .boolean) :: ((wsX0_isComplete_r1 ++ wsX0_isComplete_r2) ++ wsX00)
def wsX0_complete_r1 : List Cond := [Cond.fieldLink RX0 9 "ShopHub" "exists" "[Z", Cond.methodLink RX0 138 yX0_checkShop, Cond.static yX0_checkShop, Cond.initialized RX0, Cond.code yX0_checkShop cX0_checkShop 1 none, Cond.classLink RX0 122 "java/lang/IndexOutOfBoundsException", Cond.initialized "java/lang/IndexOutOfBoundsException", Cond.methodLink RX0 191 yX0_isComplete, Cond.instanceMethod yX0_isComplete, Cond.selects RX0 yX0_isComplete yX0_isComplete, Cond.code yX0_isComplete cX0_isComplete 4 (some .boolean), Cond.methodLink RX0 187 yX0_findMissing, Cond.instanceMethod yX0_findMissing, Cond.selects RX0 yX0_findMissing yX0_findMissing, Cond.code yX0_findMissing cX0_findMissing 6 (some .int), Cond.fieldLink RX0 51 "ShopHub" "asked" "[Z", Cond.methodLink RX0 179 yX0_findValue, Cond.instanceMethod yX0_findValue, Cond.selects RX0 yX0_findValue yX0_findValue, Cond.code yX0_findValue cX0_findValue 6 (some .int), Cond.fieldLink RX0 33 "ShopHub" "draftValues" "[I", Cond.methodLink RX0 184 yX0_findOrigin, Cond.instanceMethod yX0_findOrigin, Cond.selects RX0 yX0_findOrigin yX0_findOrigin]
def wsX0_complete_r2 : List Cond := [Cond.code yX0_findOrigin cX0_findOrigin 8 (some .int), Cond.fieldLink RX0 13 "ShopHub" "parents" "[I", Cond.methodLink RX0 119 yX0_isGood, Cond.instanceMethod yX0_isGood, Cond.selects RX0 yX0_isGood yX0_isGood, Cond.code yX0_isGood cX0_isGood 2 (some .boolean), Cond.methodLink RX0 205 yX0_findOwnOrigin, Cond.instanceMethod yX0_findOwnOrigin, Cond.selects RX0 yX0_findOwnOrigin yX0_findOwnOrigin, Cond.code yX0_findOwnOrigin cX0_findOwnOrigin 6 (some .int), Cond.fieldLink RX0 48 "ShopHub" "holders" "[I", Cond.methodLink RX0 151 yX0_placeOf, Cond.static yX0_placeOf, Cond.code yX0_placeOf cX0_placeOf 6 (some .int), Cond.methodLink RX0 167 yX0_isEntered, Cond.instanceMethod yX0_isEntered, Cond.selects RX0 yX0_isEntered yX0_isEntered, Cond.code yX0_isEntered cX0_isEntered 2 (some .boolean), Cond.fieldLink RX0 42 "ShopHub" "draftCount" "I"]
def wsX0_complete : List Cond := .code yX0_complete cX0_complete 4 (some .int) :: ((wsX0_complete_r1 ++ wsX0_complete_r2) ++ wsX00 ++ (vx_atS RX0 126 "java/lang/IndexOutOfBoundsException" ["java/lang/RuntimeException", "java/lang/Exception"]).filter goodWord)
def wsX0_sumUpParts : List Cond := .code yX0_sumUpParts cX0_sumUpParts 7 (some .int) :: ([.fieldLink RX0 20 "ShopHub" "quantities" "[I", .fieldLink RX0 57 "ShopHub" "prices" "[I", .fieldLink RX0 17 "ShopHub" "discounts" "[I", .constantLong RX0 211 (100), .constantLong RX0 213 (1000000000)] ++ wsX00)
def wsX0_findPrice_r1 : List Cond := [Cond.fieldLink RX0 57 "ShopHub" "prices" "[I", Cond.methodLink RX0 179 yX0_findValue, Cond.instanceMethod yX0_findValue, Cond.selects RX0 yX0_findValue yX0_findValue, Cond.initialized RX0, Cond.code yX0_findValue cX0_findValue 6 (some .int), Cond.fieldLink RX0 33 "ShopHub" "draftValues" "[I", Cond.methodLink RX0 184 yX0_findOrigin, Cond.instanceMethod yX0_findOrigin, Cond.selects RX0 yX0_findOrigin yX0_findOrigin, Cond.code yX0_findOrigin cX0_findOrigin 8 (some .int), Cond.fieldLink RX0 13 "ShopHub" "parents" "[I", Cond.methodLink RX0 119 yX0_isGood, Cond.instanceMethod yX0_isGood, Cond.selects RX0 yX0_isGood yX0_isGood, Cond.code yX0_isGood cX0_isGood 2 (some .boolean), Cond.fieldLink RX0 9 "ShopHub" "exists" "[Z", Cond.methodLink RX0 205 yX0_findOwnOrigin, Cond.instanceMethod yX0_findOwnOrigin, Cond.selects RX0 yX0_findOwnOrigin yX0_findOwnOrigin, Cond.code yX0_findOwnOrigin cX0_findOwnOrigin 6 (some .int), Cond.fieldLink RX0 48 "ShopHub" "holders" "[I", Cond.methodLink RX0 151 yX0_placeOf, Cond.static yX0_placeOf]
def wsX0_findPrice_r2 : List Cond := [Cond.code yX0_placeOf cX0_placeOf 6 (some .int), Cond.methodLink RX0 167 yX0_isEntered, Cond.instanceMethod yX0_isEntered, Cond.selects RX0 yX0_isEntered yX0_isEntered, Cond.code yX0_isEntered cX0_isEntered 2 (some .boolean), Cond.fieldLink RX0 42 "ShopHub" "draftCount" "I", Cond.methodLink RX0 208 yX0_sumUpParts, Cond.instanceMethod yX0_sumUpParts, Cond.selects RX0 yX0_sumUpParts yX0_sumUpParts, Cond.code yX0_sumUpParts cX0_sumUpParts 7 (some .int), Cond.fieldLink RX0 20 "ShopHub" "quantities" "[I", Cond.fieldLink RX0 17 "ShopHub" "discounts" "[I", Cond.constantLong RX0 211 (100), Cond.constantLong RX0 213 (1000000000)]
def wsX0_findPrice : List Cond := .code yX0_findPrice cX0_findPrice 5 (some .int) :: ((wsX0_findPrice_r1 ++ wsX0_findPrice_r2) ++ wsX00)
def wsX0_price_r1 : List Cond := [Cond.classLink RX0 68 "java/lang/IllegalStateException", Cond.initialized "java/lang/IllegalStateException", Cond.methodLink RX0 77 yX0_checkGood, Cond.instanceMethod yX0_checkGood, Cond.selects RX0 yX0_checkGood yX0_checkGood, Cond.initialized RX0, Cond.code yX0_checkGood cX0_checkGood 2 none, Cond.classLink RX0 122 "java/lang/IndexOutOfBoundsException", Cond.initialized "java/lang/IndexOutOfBoundsException", Cond.methodLink RX0 119 yX0_isGood, Cond.instanceMethod yX0_isGood, Cond.selects RX0 yX0_isGood yX0_isGood, Cond.code yX0_isGood cX0_isGood 2 (some .boolean), Cond.fieldLink RX0 9 "ShopHub" "exists" "[Z", Cond.methodLink RX0 138 yX0_checkShop, Cond.static yX0_checkShop, Cond.code yX0_checkShop cX0_checkShop 1 none, Cond.methodLink RX0 194 yX0_findPrice, Cond.instanceMethod yX0_findPrice, Cond.selects RX0 yX0_findPrice yX0_findPrice, Cond.code yX0_findPrice cX0_findPrice 5 (some .int), Cond.fieldLink RX0 57 "ShopHub" "prices" "[I", Cond.methodLink RX0 179 yX0_findValue, Cond.instanceMethod yX0_findValue]
def wsX0_price_r2 : List Cond := [Cond.selects RX0 yX0_findValue yX0_findValue, Cond.code yX0_findValue cX0_findValue 6 (some .int), Cond.fieldLink RX0 33 "ShopHub" "draftValues" "[I", Cond.methodLink RX0 184 yX0_findOrigin, Cond.instanceMethod yX0_findOrigin, Cond.selects RX0 yX0_findOrigin yX0_findOrigin, Cond.code yX0_findOrigin cX0_findOrigin 8 (some .int), Cond.fieldLink RX0 13 "ShopHub" "parents" "[I", Cond.methodLink RX0 205 yX0_findOwnOrigin, Cond.instanceMethod yX0_findOwnOrigin, Cond.selects RX0 yX0_findOwnOrigin yX0_findOwnOrigin, Cond.code yX0_findOwnOrigin cX0_findOwnOrigin 6 (some .int), Cond.fieldLink RX0 48 "ShopHub" "holders" "[I", Cond.methodLink RX0 151 yX0_placeOf, Cond.static yX0_placeOf, Cond.code yX0_placeOf cX0_placeOf 6 (some .int), Cond.methodLink RX0 167 yX0_isEntered, Cond.instanceMethod yX0_isEntered, Cond.selects RX0 yX0_isEntered yX0_isEntered, Cond.code yX0_isEntered cX0_isEntered 2 (some .boolean), Cond.fieldLink RX0 42 "ShopHub" "draftCount" "I", Cond.methodLink RX0 208 yX0_sumUpParts, Cond.instanceMethod yX0_sumUpParts, Cond.selects RX0 yX0_sumUpParts yX0_sumUpParts]
def wsX0_price_r3 : List Cond := [Cond.code yX0_sumUpParts cX0_sumUpParts 7 (some .int), Cond.fieldLink RX0 20 "ShopHub" "quantities" "[I", Cond.fieldLink RX0 17 "ShopHub" "discounts" "[I", Cond.constantLong RX0 211 (100), Cond.constantLong RX0 213 (1000000000)]
def wsX0_price : List Cond := .code yX0_price cX0_price 4 (some .int) :: ((wsX0_price_r1 ++ (wsX0_price_r2 ++ wsX0_price_r3)) ++ wsX00 ++ (vx_atS RX0 72 "java/lang/IllegalStateException" ["java/lang/RuntimeException", "java/lang/Exception"]).filter goodWord ++ (vx_atS RX0 126 "java/lang/IndexOutOfBoundsException" ["java/lang/RuntimeException", "java/lang/Exception"]).filter goodWord)
def wsX0_looksChanged_r1 : List Cond := [Cond.fieldLink RX0 54 "ShopHub" "seen" "[I", Cond.methodLink RX0 179 yX0_findValue, Cond.instanceMethod yX0_findValue, Cond.selects RX0 yX0_findValue yX0_findValue, Cond.initialized RX0, Cond.code yX0_findValue cX0_findValue 6 (some .int), Cond.fieldLink RX0 33 "ShopHub" "draftValues" "[I", Cond.methodLink RX0 184 yX0_findOrigin, Cond.instanceMethod yX0_findOrigin, Cond.selects RX0 yX0_findOrigin yX0_findOrigin, Cond.code yX0_findOrigin cX0_findOrigin 8 (some .int), Cond.fieldLink RX0 13 "ShopHub" "parents" "[I", Cond.methodLink RX0 119 yX0_isGood, Cond.instanceMethod yX0_isGood, Cond.selects RX0 yX0_isGood yX0_isGood, Cond.code yX0_isGood cX0_isGood 2 (some .boolean), Cond.fieldLink RX0 9 "ShopHub" "exists" "[Z", Cond.methodLink RX0 205 yX0_findOwnOrigin, Cond.instanceMethod yX0_findOwnOrigin, Cond.selects RX0 yX0_findOwnOrigin yX0_findOwnOrigin, Cond.code yX0_findOwnOrigin cX0_findOwnOrigin 6 (some .int), Cond.fieldLink RX0 48 "ShopHub" "holders" "[I", Cond.methodLink RX0 151 yX0_placeOf, Cond.static yX0_placeOf]
def wsX0_looksChanged_r2 : List Cond := [Cond.code yX0_placeOf cX0_placeOf 6 (some .int), Cond.methodLink RX0 167 yX0_isEntered, Cond.instanceMethod yX0_isEntered, Cond.selects RX0 yX0_isEntered yX0_isEntered, Cond.code yX0_isEntered cX0_isEntered 2 (some .boolean), Cond.fieldLink RX0 42 "ShopHub" "draftCount" "I"]
def wsX0_looksChanged : List Cond := .code yX0_looksChanged cX0_looksChanged 5 (some .boolean) :: ((wsX0_looksChanged_r1 ++ wsX0_looksChanged_r2) ++ wsX00)
def wsX0_findChanged_r1 : List Cond := [Cond.methodLink RX0 227 yX0_looksChanged, Cond.instanceMethod yX0_looksChanged, Cond.selects RX0 yX0_looksChanged yX0_looksChanged, Cond.initialized RX0, Cond.code yX0_looksChanged cX0_looksChanged 5 (some .boolean), Cond.fieldLink RX0 54 "ShopHub" "seen" "[I", Cond.methodLink RX0 179 yX0_findValue, Cond.instanceMethod yX0_findValue, Cond.selects RX0 yX0_findValue yX0_findValue, Cond.code yX0_findValue cX0_findValue 6 (some .int), Cond.fieldLink RX0 33 "ShopHub" "draftValues" "[I", Cond.methodLink RX0 184 yX0_findOrigin, Cond.instanceMethod yX0_findOrigin, Cond.selects RX0 yX0_findOrigin yX0_findOrigin, Cond.code yX0_findOrigin cX0_findOrigin 8 (some .int), Cond.fieldLink RX0 13 "ShopHub" "parents" "[I", Cond.methodLink RX0 119 yX0_isGood, Cond.instanceMethod yX0_isGood, Cond.selects RX0 yX0_isGood yX0_isGood, Cond.code yX0_isGood cX0_isGood 2 (some .boolean), Cond.fieldLink RX0 9 "ShopHub" "exists" "[Z", Cond.methodLink RX0 205 yX0_findOwnOrigin, Cond.instanceMethod yX0_findOwnOrigin, Cond.selects RX0 yX0_findOwnOrigin yX0_findOwnOrigin]
def wsX0_findChanged_r2 : List Cond := [Cond.code yX0_findOwnOrigin cX0_findOwnOrigin 6 (some .int), Cond.fieldLink RX0 48 "ShopHub" "holders" "[I", Cond.methodLink RX0 151 yX0_placeOf, Cond.static yX0_placeOf, Cond.code yX0_placeOf cX0_placeOf 6 (some .int), Cond.methodLink RX0 167 yX0_isEntered, Cond.instanceMethod yX0_isEntered, Cond.selects RX0 yX0_isEntered yX0_isEntered, Cond.code yX0_isEntered cX0_isEntered 2 (some .boolean), Cond.fieldLink RX0 42 "ShopHub" "draftCount" "I"]
def wsX0_findChanged : List Cond := .code yX0_findChanged cX0_findChanged 4 (some .int) :: ((wsX0_findChanged_r1 ++ wsX0_findChanged_r2) ++ wsX00)
def wsX0_changed_r1 : List Cond := [Cond.methodLink RX0 138 yX0_checkShop, Cond.static yX0_checkShop, Cond.initialized RX0, Cond.code yX0_checkShop cX0_checkShop 1 none, Cond.classLink RX0 122 "java/lang/IndexOutOfBoundsException", Cond.initialized "java/lang/IndexOutOfBoundsException", Cond.methodLink RX0 215 yX0_findChanged, Cond.instanceMethod yX0_findChanged, Cond.selects RX0 yX0_findChanged yX0_findChanged, Cond.code yX0_findChanged cX0_findChanged 4 (some .int), Cond.methodLink RX0 227 yX0_looksChanged, Cond.instanceMethod yX0_looksChanged, Cond.selects RX0 yX0_looksChanged yX0_looksChanged, Cond.code yX0_looksChanged cX0_looksChanged 5 (some .boolean), Cond.fieldLink RX0 54 "ShopHub" "seen" "[I", Cond.methodLink RX0 179 yX0_findValue, Cond.instanceMethod yX0_findValue, Cond.selects RX0 yX0_findValue yX0_findValue, Cond.code yX0_findValue cX0_findValue 6 (some .int), Cond.fieldLink RX0 33 "ShopHub" "draftValues" "[I", Cond.methodLink RX0 184 yX0_findOrigin, Cond.instanceMethod yX0_findOrigin, Cond.selects RX0 yX0_findOrigin yX0_findOrigin, Cond.code yX0_findOrigin cX0_findOrigin 8 (some .int)]
def wsX0_changed_r2 : List Cond := [Cond.fieldLink RX0 13 "ShopHub" "parents" "[I", Cond.methodLink RX0 119 yX0_isGood, Cond.instanceMethod yX0_isGood, Cond.selects RX0 yX0_isGood yX0_isGood, Cond.code yX0_isGood cX0_isGood 2 (some .boolean), Cond.fieldLink RX0 9 "ShopHub" "exists" "[Z", Cond.methodLink RX0 205 yX0_findOwnOrigin, Cond.instanceMethod yX0_findOwnOrigin, Cond.selects RX0 yX0_findOwnOrigin yX0_findOwnOrigin, Cond.code yX0_findOwnOrigin cX0_findOwnOrigin 6 (some .int), Cond.fieldLink RX0 48 "ShopHub" "holders" "[I", Cond.methodLink RX0 151 yX0_placeOf, Cond.static yX0_placeOf, Cond.code yX0_placeOf cX0_placeOf 6 (some .int), Cond.methodLink RX0 167 yX0_isEntered, Cond.instanceMethod yX0_isEntered, Cond.selects RX0 yX0_isEntered yX0_isEntered, Cond.code yX0_isEntered cX0_isEntered 2 (some .boolean), Cond.fieldLink RX0 42 "ShopHub" "draftCount" "I"]
def wsX0_changed : List Cond := .code yX0_changed cX0_changed 2 (some .int) :: ((wsX0_changed_r1 ++ wsX0_changed_r2) ++ wsX00 ++ (vx_atS RX0 126 "java/lang/IndexOutOfBoundsException" ["java/lang/RuntimeException", "java/lang/Exception"]).filter goodWord)
def wsX0_rememberSights_r1 : List Cond := [Cond.fieldLink RX0 54 "ShopHub" "seen" "[I", Cond.methodLink RX0 179 yX0_findValue, Cond.instanceMethod yX0_findValue, Cond.selects RX0 yX0_findValue yX0_findValue, Cond.initialized RX0, Cond.code yX0_findValue cX0_findValue 6 (some .int), Cond.fieldLink RX0 33 "ShopHub" "draftValues" "[I", Cond.methodLink RX0 184 yX0_findOrigin, Cond.instanceMethod yX0_findOrigin, Cond.selects RX0 yX0_findOrigin yX0_findOrigin, Cond.code yX0_findOrigin cX0_findOrigin 8 (some .int), Cond.fieldLink RX0 13 "ShopHub" "parents" "[I", Cond.methodLink RX0 119 yX0_isGood, Cond.instanceMethod yX0_isGood, Cond.selects RX0 yX0_isGood yX0_isGood, Cond.code yX0_isGood cX0_isGood 2 (some .boolean), Cond.fieldLink RX0 9 "ShopHub" "exists" "[Z", Cond.methodLink RX0 205 yX0_findOwnOrigin, Cond.instanceMethod yX0_findOwnOrigin, Cond.selects RX0 yX0_findOwnOrigin yX0_findOwnOrigin, Cond.code yX0_findOwnOrigin cX0_findOwnOrigin 6 (some .int), Cond.fieldLink RX0 48 "ShopHub" "holders" "[I", Cond.methodLink RX0 151 yX0_placeOf, Cond.static yX0_placeOf]
def wsX0_rememberSights_r2 : List Cond := [Cond.code yX0_placeOf cX0_placeOf 6 (some .int), Cond.methodLink RX0 167 yX0_isEntered, Cond.instanceMethod yX0_isEntered, Cond.selects RX0 yX0_isEntered yX0_isEntered, Cond.code yX0_isEntered cX0_isEntered 2 (some .boolean), Cond.fieldLink RX0 42 "ShopHub" "draftCount" "I"]
def wsX0_rememberSights : List Cond := .code yX0_rememberSights cX0_rememberSights 5 none :: ((wsX0_rememberSights_r1 ++ wsX0_rememberSights_r2) ++ wsX00)
def wsJ6_bitCount_0f7a4 : List Cond := .code yJ6_bitCount_0f7a4 cJ6_bitCount_0f7a4 1 (some .int) :: ([.constant RJ6 265 (1431655765), .constant RJ6 266 (858993459), .constant RJ6 267 (252645135)])
def wsX0_feed_r1 : List Cond := [Cond.methodLink RX0 138 yX0_checkShop, Cond.static yX0_checkShop, Cond.initialized RX0, Cond.code yX0_checkShop cX0_checkShop 1 none, Cond.classLink RX0 122 "java/lang/IndexOutOfBoundsException", Cond.initialized "java/lang/IndexOutOfBoundsException", Cond.methodLink RX0 215 yX0_findChanged, Cond.instanceMethod yX0_findChanged, Cond.selects RX0 yX0_findChanged yX0_findChanged, Cond.code yX0_findChanged cX0_findChanged 4 (some .int), Cond.methodLink RX0 227 yX0_looksChanged, Cond.instanceMethod yX0_looksChanged, Cond.selects RX0 yX0_looksChanged yX0_looksChanged, Cond.code yX0_looksChanged cX0_looksChanged 5 (some .boolean), Cond.fieldLink RX0 54 "ShopHub" "seen" "[I", Cond.methodLink RX0 179 yX0_findValue, Cond.instanceMethod yX0_findValue, Cond.selects RX0 yX0_findValue yX0_findValue, Cond.code yX0_findValue cX0_findValue 6 (some .int), Cond.fieldLink RX0 33 "ShopHub" "draftValues" "[I", Cond.methodLink RX0 184 yX0_findOrigin, Cond.instanceMethod yX0_findOrigin, Cond.selects RX0 yX0_findOrigin yX0_findOrigin, Cond.code yX0_findOrigin cX0_findOrigin 8 (some .int)]
def wsX0_feed_r2 : List Cond := [Cond.fieldLink RX0 13 "ShopHub" "parents" "[I", Cond.methodLink RX0 119 yX0_isGood, Cond.instanceMethod yX0_isGood, Cond.selects RX0 yX0_isGood yX0_isGood, Cond.code yX0_isGood cX0_isGood 2 (some .boolean), Cond.fieldLink RX0 9 "ShopHub" "exists" "[Z", Cond.methodLink RX0 205 yX0_findOwnOrigin, Cond.instanceMethod yX0_findOwnOrigin, Cond.selects RX0 yX0_findOwnOrigin yX0_findOwnOrigin, Cond.code yX0_findOwnOrigin cX0_findOwnOrigin 6 (some .int), Cond.fieldLink RX0 48 "ShopHub" "holders" "[I", Cond.methodLink RX0 151 yX0_placeOf, Cond.static yX0_placeOf, Cond.code yX0_placeOf cX0_placeOf 6 (some .int), Cond.methodLink RX0 167 yX0_isEntered, Cond.instanceMethod yX0_isEntered, Cond.selects RX0 yX0_isEntered yX0_isEntered, Cond.code yX0_isEntered cX0_isEntered 2 (some .boolean), Cond.fieldLink RX0 42 "ShopHub" "draftCount" "I", Cond.methodLink RX0 218 yX0_rememberSights, Cond.instanceMethod yX0_rememberSights, Cond.selects RX0 yX0_rememberSights yX0_rememberSights, Cond.code yX0_rememberSights cX0_rememberSights 5 none, Cond.methodLink RX0 222 yJ6_bitCount_0f7a4]
def wsX0_feed_r3 : List Cond := [Cond.static yJ6_bitCount_0f7a4, Cond.initialized RJ6, Cond.code yJ6_bitCount_0f7a4 cJ6_bitCount_0f7a4 1 (some .int), Cond.constant RJ6 265 (1431655765), Cond.constant RJ6 266 (858993459), Cond.constant RJ6 267 (252645135)]
def wsX0_feed : List Cond := .code yX0_feed cX0_feed 4 (some .int) :: ((wsX0_feed_r1 ++ (wsX0_feed_r2 ++ wsX0_feed_r3)) ++ wsX00 ++ (vx_atS RX0 126 "java/lang/IndexOutOfBoundsException" ["java/lang/RuntimeException", "java/lang/Exception"]).filter goodWord)
def wsJ9_max_7cf53 : List Cond := .code yJ9_max_7cf53 cJ9_max_7cf53 2 (some .int) :: ([])
def wsL_part : List Cond := .code yL_part cL_part 4 (some .int) :: ([.constant RL 7 (2147483647)])
def wsL_deletes_r1 : List Cond := [Cond.methodLink RL 8 yX0_delete, Cond.instanceMethod yX0_delete, Cond.selects RX0 yX0_delete yX0_delete, Cond.initialized RX0, Cond.code yX0_delete cX0_delete 3 none, Cond.classLink RX0 68 "java/lang/IllegalStateException", Cond.initialized "java/lang/IllegalStateException", Cond.fieldLink RX0 9 "ShopHub" "exists" "[Z", Cond.fieldLink RX0 13 "ShopHub" "parents" "[I", Cond.fieldLink RX0 20 "ShopHub" "quantities" "[I", Cond.methodLink RX0 77 yX0_checkGood, Cond.instanceMethod yX0_checkGood, Cond.selects RX0 yX0_checkGood yX0_checkGood, Cond.code yX0_checkGood cX0_checkGood 2 none, Cond.classLink RX0 122 "java/lang/IndexOutOfBoundsException", Cond.initialized "java/lang/IndexOutOfBoundsException", Cond.methodLink RX0 119 yX0_isGood, Cond.instanceMethod yX0_isGood, Cond.selects RX0 yX0_isGood yX0_isGood, Cond.code yX0_isGood cX0_isGood 2 (some .boolean), Cond.methodLink RX0 91 yX0_isParent, Cond.instanceMethod yX0_isParent, Cond.selects RX0 yX0_isParent yX0_isParent, Cond.code yX0_isParent cX0_isParent 3 (some .boolean)]
def wsL_deletes_r2 : List Cond := [Cond.methodLink RX0 97 yX0_isPart, Cond.instanceMethod yX0_isPart, Cond.selects RX0 yX0_isPart yX0_isPart, Cond.code yX0_isPart cX0_isPart 3 (some .boolean), Cond.methodLink RX0 102 yX0_deleteDraftsOf, Cond.instanceMethod yX0_deleteDraftsOf, Cond.selects RX0 yX0_deleteDraftsOf yX0_deleteDraftsOf, Cond.code yX0_deleteDraftsOf cX0_deleteDraftsOf 3 none, Cond.fieldLink RX0 42 "ShopHub" "draftCount" "I", Cond.fieldLink RX0 27 "ShopHub" "draftGoods" "[I", Cond.fieldLink RX0 39 "ShopHub" "draftStates" "[I", Cond.methodLink RX0 105 yX0_settleHolders, Cond.instanceMethod yX0_settleHolders, Cond.selects RX0 yX0_settleHolders yX0_settleHolders, Cond.code yX0_settleHolders cX0_settleHolders 2 none, Cond.fieldLink RX0 48 "ShopHub" "holders" "[I", Cond.fieldLink RX0 36 "ShopHub" "draftDays" "[I", Cond.fieldLink RX0 45 "ShopHub" "today" "I", Cond.methodLink RX0 172 yX0_putHolder, Cond.instanceMethod yX0_putHolder, Cond.selects RX0 yX0_putHolder yX0_putHolder, Cond.code yX0_putHolder cX0_putHolder 4 none, Cond.fieldLink RX0 30 "ShopHub" "draftPlaces" "[I", Cond.methodLink RX0 167 yX0_isEntered]
def wsL_deletes_r3 : List Cond := [Cond.instanceMethod yX0_isEntered, Cond.selects RX0 yX0_isEntered yX0_isEntered, Cond.code yX0_isEntered cX0_isEntered 2 (some .boolean)]
def wsL_deletes : List Cond := .code yL_deletes cL_deletes 2 (some .int) :: ((wsL_deletes_r1 ++ (wsL_deletes_r2 ++ wsL_deletes_r3)) ++ wsX00 ++ (vx_atS RX0 72 "java/lang/IllegalStateException" ["java/lang/RuntimeException", "java/lang/Exception"]).filter goodWord ++ (vx_atS RX0 126 "java/lang/IndexOutOfBoundsException" ["java/lang/RuntimeException", "java/lang/Exception"]).filter goodWord)
def wsL_does_r1 : List Cond := [Cond.classLink RL 52 "java/lang/IndexOutOfBoundsException", Cond.classLink RL 54 "java/lang/IllegalArgumentException", Cond.classLink RL 56 "java/lang/IllegalStateException", Cond.methodLink RL 14 yX0_addGood, Cond.instanceMethod yX0_addGood, Cond.selects RX0 yX0_addGood yX0_addGood, Cond.initialized RX0, Cond.code yX0_addGood cX0_addGood 3 (some .int), Cond.classLink RX0 68 "java/lang/IllegalStateException", Cond.initialized "java/lang/IllegalStateException", Cond.fieldLink RX0 23 "ShopHub" "goodCount" "I", Cond.fieldLink RX0 9 "ShopHub" "exists" "[Z", Cond.fieldLink RX0 13 "ShopHub" "parents" "[I", Cond.methodLink RX0 60 yX0_checkParent, Cond.instanceMethod yX0_checkParent, Cond.selects RX0 yX0_checkParent yX0_checkParent, Cond.code yX0_checkParent cX0_checkParent 2 none, Cond.classLink RX0 122 "java/lang/IndexOutOfBoundsException", Cond.initialized "java/lang/IndexOutOfBoundsException", Cond.methodLink RX0 119 yX0_isGood, Cond.instanceMethod yX0_isGood, Cond.selects RX0 yX0_isGood yX0_isGood, Cond.code yX0_isGood cX0_isGood 2 (some .boolean), Cond.methodLink RX0 64 yX0_levelOf]
def wsL_does_r2 : List Cond := [Cond.instanceMethod yX0_levelOf, Cond.selects RX0 yX0_levelOf yX0_levelOf, Cond.code yX0_levelOf cX0_levelOf 5 (some .int), Cond.methodLink RL 18 yX0_move, Cond.instanceMethod yX0_move, Cond.selects RX0 yX0_move yX0_move, Cond.code yX0_move cX0_move 4 (some .int), Cond.methodLink RX0 77 yX0_checkGood, Cond.instanceMethod yX0_checkGood, Cond.selects RX0 yX0_checkGood yX0_checkGood, Cond.code yX0_checkGood cX0_checkGood 2 none, Cond.methodLink RX0 80 yX0_isWithin, Cond.instanceMethod yX0_isWithin, Cond.selects RX0 yX0_isWithin yX0_isWithin, Cond.code yX0_isWithin cX0_isWithin 5 (some .boolean), Cond.methodLink RX0 86 yX0_levelsWithin, Cond.instanceMethod yX0_levelsWithin, Cond.selects RX0 yX0_levelsWithin yX0_levelsWithin, Cond.code yX0_levelsWithin cX0_levelsWithin 4 (some .int), Cond.methodLink RX0 129 Lib.Math.max.name, Cond.static Lib.Math.max.name, Cond.initialized "java/lang/Math", Cond.code Lib.Math.max.name Lib.Math.max.code 2 (some .int), Cond.methodLink RL 22 yL_deletes]
def wsL_does_r3 : List Cond := [Cond.static yL_deletes, Cond.initialized RL, Cond.code yL_deletes cL_deletes 2 (some .int), Cond.methodLink RL 8 yX0_delete, Cond.instanceMethod yX0_delete, Cond.selects RX0 yX0_delete yX0_delete, Cond.code yX0_delete cX0_delete 3 none, Cond.fieldLink RX0 20 "ShopHub" "quantities" "[I", Cond.methodLink RX0 91 yX0_isParent, Cond.instanceMethod yX0_isParent, Cond.selects RX0 yX0_isParent yX0_isParent, Cond.code yX0_isParent cX0_isParent 3 (some .boolean), Cond.methodLink RX0 97 yX0_isPart, Cond.instanceMethod yX0_isPart, Cond.selects RX0 yX0_isPart yX0_isPart, Cond.code yX0_isPart cX0_isPart 3 (some .boolean), Cond.methodLink RX0 102 yX0_deleteDraftsOf, Cond.instanceMethod yX0_deleteDraftsOf, Cond.selects RX0 yX0_deleteDraftsOf yX0_deleteDraftsOf, Cond.code yX0_deleteDraftsOf cX0_deleteDraftsOf 3 none, Cond.fieldLink RX0 42 "ShopHub" "draftCount" "I", Cond.fieldLink RX0 27 "ShopHub" "draftGoods" "[I", Cond.fieldLink RX0 39 "ShopHub" "draftStates" "[I", Cond.methodLink RX0 105 yX0_settleHolders]
def wsL_does_r4 : List Cond := [Cond.instanceMethod yX0_settleHolders, Cond.selects RX0 yX0_settleHolders yX0_settleHolders, Cond.code yX0_settleHolders cX0_settleHolders 2 none, Cond.fieldLink RX0 48 "ShopHub" "holders" "[I", Cond.fieldLink RX0 36 "ShopHub" "draftDays" "[I", Cond.fieldLink RX0 45 "ShopHub" "today" "I", Cond.methodLink RX0 172 yX0_putHolder, Cond.instanceMethod yX0_putHolder, Cond.selects RX0 yX0_putHolder yX0_putHolder, Cond.code yX0_putHolder cX0_putHolder 4 none, Cond.fieldLink RX0 30 "ShopHub" "draftPlaces" "[I", Cond.methodLink RX0 167 yX0_isEntered, Cond.instanceMethod yX0_isEntered, Cond.selects RX0 yX0_isEntered yX0_isEntered, Cond.code yX0_isEntered cX0_isEntered 2 (some .boolean), Cond.methodLink RL 28 yX0_addPart, Cond.instanceMethod yX0_addPart, Cond.selects RX0 yX0_addPart yX0_addPart, Cond.code yX0_addPart cX0_addPart 6 (some .int), Cond.classLink RX0 108 "java/lang/IllegalArgumentException", Cond.initialized "java/lang/IllegalArgumentException", Cond.methodLink RL 32 yX0_setDiscount, Cond.instanceMethod yX0_setDiscount, Cond.selects RX0 yX0_setDiscount yX0_setDiscount]
def wsL_does_r5 : List Cond := [Cond.code yX0_setDiscount cX0_setDiscount 4 (some .int), Cond.fieldLink RX0 17 "ShopHub" "discounts" "[I", Cond.methodLink RL 35 yX0_approve, Cond.instanceMethod yX0_approve, Cond.selects RX0 yX0_approve yX0_approve, Cond.code yX0_approve cX0_approve 2 (some .boolean), Cond.methodLink RX0 155 yX0_checkDraft, Cond.instanceMethod yX0_checkDraft, Cond.selects RX0 yX0_checkDraft yX0_checkDraft, Cond.code yX0_checkDraft cX0_checkDraft 2 none, Cond.methodLink RX0 160 yX0_holdsAtItsPlace, Cond.instanceMethod yX0_holdsAtItsPlace, Cond.selects RX0 yX0_holdsAtItsPlace yX0_holdsAtItsPlace, Cond.code yX0_holdsAtItsPlace cX0_holdsAtItsPlace 2 (some .boolean), Cond.methodLink RL 39 yX0_reject, Cond.instanceMethod yX0_reject, Cond.selects RX0 yX0_reject yX0_reject, Cond.code yX0_reject cX0_reject 3 (some .boolean), Cond.methodLink RL 42 yX0_pass, Cond.instanceMethod yX0_pass, Cond.selects RX0 yX0_pass yX0_pass, Cond.code yX0_pass cX0_pass 2 (some .int), Cond.methodLink RL 45 yX0_toggleAsked, Cond.instanceMethod yX0_toggleAsked]
def wsL_does_r6 : List Cond := [Cond.selects RX0 yX0_toggleAsked yX0_toggleAsked, Cond.code yX0_toggleAsked cX0_toggleAsked 4 (some .boolean), Cond.fieldLink RX0 51 "ShopHub" "asked" "[Z", Cond.methodLink RX0 138 yX0_checkShop, Cond.static yX0_checkShop, Cond.code yX0_checkShop cX0_checkShop 1 none, Cond.methodLink RX0 135 yX0_checkAttribute, Cond.static yX0_checkAttribute, Cond.code yX0_checkAttribute cX0_checkAttribute 1 none, Cond.methodLink RL 49 yX0_feed, Cond.instanceMethod yX0_feed, Cond.selects RX0 yX0_feed yX0_feed, Cond.code yX0_feed cX0_feed 4 (some .int), Cond.methodLink RX0 215 yX0_findChanged, Cond.instanceMethod yX0_findChanged, Cond.selects RX0 yX0_findChanged yX0_findChanged, Cond.code yX0_findChanged cX0_findChanged 4 (some .int), Cond.methodLink RX0 227 yX0_looksChanged, Cond.instanceMethod yX0_looksChanged, Cond.selects RX0 yX0_looksChanged yX0_looksChanged, Cond.code yX0_looksChanged cX0_looksChanged 5 (some .boolean), Cond.fieldLink RX0 54 "ShopHub" "seen" "[I", Cond.methodLink RX0 179 yX0_findValue, Cond.instanceMethod yX0_findValue]
def wsL_does_r7 : List Cond := [Cond.selects RX0 yX0_findValue yX0_findValue, Cond.code yX0_findValue cX0_findValue 6 (some .int), Cond.fieldLink RX0 33 "ShopHub" "draftValues" "[I", Cond.methodLink RX0 184 yX0_findOrigin, Cond.instanceMethod yX0_findOrigin, Cond.selects RX0 yX0_findOrigin yX0_findOrigin, Cond.code yX0_findOrigin cX0_findOrigin 8 (some .int), Cond.methodLink RX0 205 yX0_findOwnOrigin, Cond.instanceMethod yX0_findOwnOrigin, Cond.selects RX0 yX0_findOwnOrigin yX0_findOwnOrigin, Cond.code yX0_findOwnOrigin cX0_findOwnOrigin 6 (some .int), Cond.methodLink RX0 151 yX0_placeOf, Cond.static yX0_placeOf, Cond.code yX0_placeOf cX0_placeOf 6 (some .int), Cond.methodLink RX0 218 yX0_rememberSights, Cond.instanceMethod yX0_rememberSights, Cond.selects RX0 yX0_rememberSights yX0_rememberSights, Cond.code yX0_rememberSights cX0_rememberSights 5 none, Cond.methodLink RX0 222 yJ6_bitCount_0f7a4, Cond.static yJ6_bitCount_0f7a4, Cond.initialized RJ6, Cond.code yJ6_bitCount_0f7a4 cJ6_bitCount_0f7a4 1 (some .int), Cond.constant RJ6 265 (1431655765), Cond.constant RJ6 266 (858993459)]
def wsL_does_r8 : List Cond := [Cond.constant RJ6 267 (252645135)]
def wsL_does : List Cond := .codeWith yL_does cL_does 6 (some .int) [(0, 154, 155, 52), (0, 154, 160, 54), (0, 154, 165, 56)] :: ((wsL_does_r1 ++ (wsL_does_r2 ++ (wsL_does_r3 ++ (wsL_does_r4 ++ (wsL_does_r5 ++ (wsL_does_r6 ++ (wsL_does_r7 ++ wsL_does_r8))))))) ++ wsX00 ++ (vx_atS RX0 72 "java/lang/IllegalStateException" ["java/lang/RuntimeException", "java/lang/Exception"]).filter goodWord ++ (vx_atS RX0 126 "java/lang/IndexOutOfBoundsException" ["java/lang/RuntimeException", "java/lang/Exception"]).filter goodWord ++ (vx_atS RX0 112 "java/lang/IllegalArgumentException" ["java/lang/RuntimeException", "java/lang/Exception"]).filter goodWord)
def wsL_drafts_r1 : List Cond := [Cond.classLink RL 52 "java/lang/IndexOutOfBoundsException", Cond.classLink RL 54 "java/lang/IllegalArgumentException", Cond.classLink RL 56 "java/lang/IllegalStateException", Cond.methodLink RL 58 yX0_draft, Cond.instanceMethod yX0_draft, Cond.selects RX0 yX0_draft yX0_draft, Cond.initialized RX0, Cond.code yX0_draft cX0_draft 8 (some .int), Cond.classLink RX0 108 "java/lang/IllegalArgumentException", Cond.initialized "java/lang/IllegalArgumentException", Cond.classLink RX0 68 "java/lang/IllegalStateException", Cond.initialized "java/lang/IllegalStateException", Cond.constant RX0 144 (100000), Cond.fieldLink RX0 42 "ShopHub" "draftCount" "I", Cond.fieldLink RX0 27 "ShopHub" "draftGoods" "[I", Cond.fieldLink RX0 30 "ShopHub" "draftPlaces" "[I", Cond.fieldLink RX0 33 "ShopHub" "draftValues" "[I", Cond.fieldLink RX0 36 "ShopHub" "draftDays" "[I", Cond.fieldLink RX0 39 "ShopHub" "draftStates" "[I", Cond.methodLink RX0 77 yX0_checkGood, Cond.instanceMethod yX0_checkGood, Cond.selects RX0 yX0_checkGood yX0_checkGood, Cond.code yX0_checkGood cX0_checkGood 2 none, Cond.classLink RX0 122 "java/lang/IndexOutOfBoundsException"]
def wsL_drafts_r2 : List Cond := [Cond.initialized "java/lang/IndexOutOfBoundsException", Cond.methodLink RX0 119 yX0_isGood, Cond.instanceMethod yX0_isGood, Cond.selects RX0 yX0_isGood yX0_isGood, Cond.code yX0_isGood cX0_isGood 2 (some .boolean), Cond.fieldLink RX0 9 "ShopHub" "exists" "[Z", Cond.methodLink RX0 135 yX0_checkAttribute, Cond.static yX0_checkAttribute, Cond.code yX0_checkAttribute cX0_checkAttribute 1 none, Cond.methodLink RX0 138 yX0_checkShop, Cond.static yX0_checkShop, Cond.code yX0_checkShop cX0_checkShop 1 none, Cond.methodLink RX0 141 yX0_checkTongue, Cond.static yX0_checkTongue, Cond.code yX0_checkTongue cX0_checkTongue 1 none, Cond.methodLink RX0 151 yX0_placeOf, Cond.static yX0_placeOf, Cond.code yX0_placeOf cX0_placeOf 6 (some .int)]
def wsL_drafts : List Cond := .codeWith yL_drafts cL_drafts 8 (some .int) [(0, 13, 14, 52), (0, 13, 19, 54), (0, 13, 24, 56)] :: ((wsL_drafts_r1 ++ wsL_drafts_r2) ++ wsX00 ++ (vx_atS RX0 112 "java/lang/IllegalArgumentException" ["java/lang/RuntimeException", "java/lang/Exception"]).filter goodWord ++ (vx_atS RX0 72 "java/lang/IllegalStateException" ["java/lang/RuntimeException", "java/lang/Exception"]).filter goodWord ++ (vx_atS RX0 126 "java/lang/IndexOutOfBoundsException" ["java/lang/RuntimeException", "java/lang/Exception"]).filter goodWord)
def wsL_asks_r1 : List Cond := [Cond.classLink RL 52 "java/lang/IndexOutOfBoundsException", Cond.classLink RL 56 "java/lang/IllegalStateException", Cond.methodLink RL 62 yX0_value, Cond.instanceMethod yX0_value, Cond.selects RX0 yX0_value yX0_value, Cond.initialized RX0, Cond.code yX0_value cX0_value 6 (some .int), Cond.classLink RX0 68 "java/lang/IllegalStateException", Cond.initialized "java/lang/IllegalStateException", Cond.methodLink RX0 175 yX0_checkSight, Cond.instanceMethod yX0_checkSight, Cond.selects RX0 yX0_checkSight yX0_checkSight, Cond.code yX0_checkSight cX0_checkSight 5 none, Cond.methodLink RX0 77 yX0_checkGood, Cond.instanceMethod yX0_checkGood, Cond.selects RX0 yX0_checkGood yX0_checkGood, Cond.code yX0_checkGood cX0_checkGood 2 none, Cond.classLink RX0 122 "java/lang/IndexOutOfBoundsException", Cond.initialized "java/lang/IndexOutOfBoundsException", Cond.methodLink RX0 119 yX0_isGood, Cond.instanceMethod yX0_isGood, Cond.selects RX0 yX0_isGood yX0_isGood, Cond.code yX0_isGood cX0_isGood 2 (some .boolean), Cond.fieldLink RX0 9 "ShopHub" "exists" "[Z"]
def wsL_asks_r2 : List Cond := [Cond.methodLink RX0 135 yX0_checkAttribute, Cond.static yX0_checkAttribute, Cond.code yX0_checkAttribute cX0_checkAttribute 1 none, Cond.methodLink RX0 138 yX0_checkShop, Cond.static yX0_checkShop, Cond.code yX0_checkShop cX0_checkShop 1 none, Cond.methodLink RX0 141 yX0_checkTongue, Cond.static yX0_checkTongue, Cond.code yX0_checkTongue cX0_checkTongue 1 none, Cond.methodLink RX0 179 yX0_findValue, Cond.instanceMethod yX0_findValue, Cond.selects RX0 yX0_findValue yX0_findValue, Cond.code yX0_findValue cX0_findValue 6 (some .int), Cond.fieldLink RX0 33 "ShopHub" "draftValues" "[I", Cond.methodLink RX0 184 yX0_findOrigin, Cond.instanceMethod yX0_findOrigin, Cond.selects RX0 yX0_findOrigin yX0_findOrigin, Cond.code yX0_findOrigin cX0_findOrigin 8 (some .int), Cond.fieldLink RX0 13 "ShopHub" "parents" "[I", Cond.methodLink RX0 205 yX0_findOwnOrigin, Cond.instanceMethod yX0_findOwnOrigin, Cond.selects RX0 yX0_findOwnOrigin yX0_findOwnOrigin, Cond.code yX0_findOwnOrigin cX0_findOwnOrigin 6 (some .int), Cond.fieldLink RX0 48 "ShopHub" "holders" "[I"]
def wsL_asks_r3 : List Cond := [Cond.methodLink RX0 151 yX0_placeOf, Cond.static yX0_placeOf, Cond.code yX0_placeOf cX0_placeOf 6 (some .int), Cond.methodLink RX0 167 yX0_isEntered, Cond.instanceMethod yX0_isEntered, Cond.selects RX0 yX0_isEntered yX0_isEntered, Cond.code yX0_isEntered cX0_isEntered 2 (some .boolean), Cond.fieldLink RX0 42 "ShopHub" "draftCount" "I", Cond.methodLink RL 66 yX0_origin, Cond.instanceMethod yX0_origin, Cond.selects RX0 yX0_origin yX0_origin, Cond.code yX0_origin cX0_origin 5 (some .int), Cond.methodLink RL 69 yX0_told, Cond.instanceMethod yX0_told, Cond.selects RX0 yX0_told yX0_told, Cond.code yX0_told cX0_told 5 (some .int), Cond.methodLink RL 72 yX0_missing, Cond.instanceMethod yX0_missing, Cond.selects RX0 yX0_missing yX0_missing, Cond.code yX0_missing cX0_missing 4 (some .int), Cond.methodLink RX0 187 yX0_findMissing, Cond.instanceMethod yX0_findMissing, Cond.selects RX0 yX0_findMissing yX0_findMissing, Cond.code yX0_findMissing cX0_findMissing 6 (some .int)]
def wsL_asks_r4 : List Cond := [Cond.fieldLink RX0 51 "ShopHub" "asked" "[Z", Cond.methodLink RL 75 yX0_complete, Cond.instanceMethod yX0_complete, Cond.selects RX0 yX0_complete yX0_complete, Cond.code yX0_complete cX0_complete 4 (some .int), Cond.methodLink RX0 191 yX0_isComplete, Cond.instanceMethod yX0_isComplete, Cond.selects RX0 yX0_isComplete yX0_isComplete, Cond.code yX0_isComplete cX0_isComplete 4 (some .boolean), Cond.methodLink RL 78 yX0_price, Cond.instanceMethod yX0_price, Cond.selects RX0 yX0_price yX0_price, Cond.code yX0_price cX0_price 4 (some .int), Cond.methodLink RX0 194 yX0_findPrice, Cond.instanceMethod yX0_findPrice, Cond.selects RX0 yX0_findPrice yX0_findPrice, Cond.code yX0_findPrice cX0_findPrice 5 (some .int), Cond.fieldLink RX0 57 "ShopHub" "prices" "[I", Cond.methodLink RX0 208 yX0_sumUpParts, Cond.instanceMethod yX0_sumUpParts, Cond.selects RX0 yX0_sumUpParts yX0_sumUpParts, Cond.code yX0_sumUpParts cX0_sumUpParts 7 (some .int), Cond.fieldLink RX0 20 "ShopHub" "quantities" "[I", Cond.fieldLink RX0 17 "ShopHub" "discounts" "[I"]
def wsL_asks_r5 : List Cond := [Cond.constantLong RX0 211 (100), Cond.constantLong RX0 213 (1000000000), Cond.methodLink RL 81 yX0_changed, Cond.instanceMethod yX0_changed, Cond.selects RX0 yX0_changed yX0_changed, Cond.code yX0_changed cX0_changed 2 (some .int), Cond.methodLink RX0 215 yX0_findChanged, Cond.instanceMethod yX0_findChanged, Cond.selects RX0 yX0_findChanged yX0_findChanged, Cond.code yX0_findChanged cX0_findChanged 4 (some .int), Cond.methodLink RX0 227 yX0_looksChanged, Cond.instanceMethod yX0_looksChanged, Cond.selects RX0 yX0_looksChanged yX0_looksChanged, Cond.code yX0_looksChanged cX0_looksChanged 5 (some .boolean), Cond.fieldLink RX0 54 "ShopHub" "seen" "[I"]
def wsL_asks : List Cond := .codeWith yL_asks cL_asks 7 (some .int) [(0, 96, 97, 52), (0, 96, 102, 56)] :: ((wsL_asks_r1 ++ (wsL_asks_r2 ++ (wsL_asks_r3 ++ (wsL_asks_r4 ++ wsL_asks_r5)))) ++ wsX00 ++ (vx_atS RX0 72 "java/lang/IllegalStateException" ["java/lang/RuntimeException", "java/lang/Exception"]).filter goodWord ++ (vx_atS RX0 126 "java/lang/IndexOutOfBoundsException" ["java/lang/RuntimeException", "java/lang/Exception"]).filter goodWord)
def wsL_place : List Cond := .code yL_place cL_place 4 (some .int) :: ([])
def wsL_holds : List Cond := .code yL_holds cL_holds 7 (some .int) :: ([])
def wsL_origin : List Cond := .code yL_origin cL_origin 10 (some .int) :: ([.methodLink RL 84 yL_place, .static yL_place, .initialized RL, .code yL_place cL_place 4 (some .int), .methodLink RL 87 yL_holds, .static yL_holds, .code yL_holds cL_holds 7 (some .int)])
def wsL_isGood_r1 : List Cond := [Cond.methodLink RL 91 yL_asks, Cond.static yL_asks, Cond.initialized RL, Cond.codeWith yL_asks cL_asks 7 (some .int) [(0, 96, 97, 52), (0, 96, 102, 56)], Cond.classLink RL 52 "java/lang/IndexOutOfBoundsException", Cond.classLink RL 56 "java/lang/IllegalStateException", Cond.methodLink RL 62 yX0_value, Cond.instanceMethod yX0_value, Cond.selects RX0 yX0_value yX0_value, Cond.initialized RX0, Cond.code yX0_value cX0_value 6 (some .int), Cond.classLink RX0 68 "java/lang/IllegalStateException", Cond.initialized "java/lang/IllegalStateException", Cond.methodLink RX0 175 yX0_checkSight, Cond.instanceMethod yX0_checkSight, Cond.selects RX0 yX0_checkSight yX0_checkSight, Cond.code yX0_checkSight cX0_checkSight 5 none, Cond.methodLink RX0 77 yX0_checkGood, Cond.instanceMethod yX0_checkGood, Cond.selects RX0 yX0_checkGood yX0_checkGood, Cond.code yX0_checkGood cX0_checkGood 2 none, Cond.classLink RX0 122 "java/lang/IndexOutOfBoundsException", Cond.initialized "java/lang/IndexOutOfBoundsException", Cond.methodLink RX0 119 yX0_isGood]
def wsL_isGood_r2 : List Cond := [Cond.instanceMethod yX0_isGood, Cond.selects RX0 yX0_isGood yX0_isGood, Cond.code yX0_isGood cX0_isGood 2 (some .boolean), Cond.fieldLink RX0 9 "ShopHub" "exists" "[Z", Cond.methodLink RX0 135 yX0_checkAttribute, Cond.static yX0_checkAttribute, Cond.code yX0_checkAttribute cX0_checkAttribute 1 none, Cond.methodLink RX0 138 yX0_checkShop, Cond.static yX0_checkShop, Cond.code yX0_checkShop cX0_checkShop 1 none, Cond.methodLink RX0 141 yX0_checkTongue, Cond.static yX0_checkTongue, Cond.code yX0_checkTongue cX0_checkTongue 1 none, Cond.methodLink RX0 179 yX0_findValue, Cond.instanceMethod yX0_findValue, Cond.selects RX0 yX0_findValue yX0_findValue, Cond.code yX0_findValue cX0_findValue 6 (some .int), Cond.fieldLink RX0 33 "ShopHub" "draftValues" "[I", Cond.methodLink RX0 184 yX0_findOrigin, Cond.instanceMethod yX0_findOrigin, Cond.selects RX0 yX0_findOrigin yX0_findOrigin, Cond.code yX0_findOrigin cX0_findOrigin 8 (some .int), Cond.fieldLink RX0 13 "ShopHub" "parents" "[I", Cond.methodLink RX0 205 yX0_findOwnOrigin]
def wsL_isGood_r3 : List Cond := [Cond.instanceMethod yX0_findOwnOrigin, Cond.selects RX0 yX0_findOwnOrigin yX0_findOwnOrigin, Cond.code yX0_findOwnOrigin cX0_findOwnOrigin 6 (some .int), Cond.fieldLink RX0 48 "ShopHub" "holders" "[I", Cond.methodLink RX0 151 yX0_placeOf, Cond.static yX0_placeOf, Cond.code yX0_placeOf cX0_placeOf 6 (some .int), Cond.methodLink RX0 167 yX0_isEntered, Cond.instanceMethod yX0_isEntered, Cond.selects RX0 yX0_isEntered yX0_isEntered, Cond.code yX0_isEntered cX0_isEntered 2 (some .boolean), Cond.fieldLink RX0 42 "ShopHub" "draftCount" "I", Cond.methodLink RL 66 yX0_origin, Cond.instanceMethod yX0_origin, Cond.selects RX0 yX0_origin yX0_origin, Cond.code yX0_origin cX0_origin 5 (some .int), Cond.methodLink RL 69 yX0_told, Cond.instanceMethod yX0_told, Cond.selects RX0 yX0_told yX0_told, Cond.code yX0_told cX0_told 5 (some .int), Cond.methodLink RL 72 yX0_missing, Cond.instanceMethod yX0_missing, Cond.selects RX0 yX0_missing yX0_missing, Cond.code yX0_missing cX0_missing 4 (some .int)]
def wsL_isGood_r4 : List Cond := [Cond.methodLink RX0 187 yX0_findMissing, Cond.instanceMethod yX0_findMissing, Cond.selects RX0 yX0_findMissing yX0_findMissing, Cond.code yX0_findMissing cX0_findMissing 6 (some .int), Cond.fieldLink RX0 51 "ShopHub" "asked" "[Z", Cond.methodLink RL 75 yX0_complete, Cond.instanceMethod yX0_complete, Cond.selects RX0 yX0_complete yX0_complete, Cond.code yX0_complete cX0_complete 4 (some .int), Cond.methodLink RX0 191 yX0_isComplete, Cond.instanceMethod yX0_isComplete, Cond.selects RX0 yX0_isComplete yX0_isComplete, Cond.code yX0_isComplete cX0_isComplete 4 (some .boolean), Cond.methodLink RL 78 yX0_price, Cond.instanceMethod yX0_price, Cond.selects RX0 yX0_price yX0_price, Cond.code yX0_price cX0_price 4 (some .int), Cond.methodLink RX0 194 yX0_findPrice, Cond.instanceMethod yX0_findPrice, Cond.selects RX0 yX0_findPrice yX0_findPrice, Cond.code yX0_findPrice cX0_findPrice 5 (some .int), Cond.fieldLink RX0 57 "ShopHub" "prices" "[I", Cond.methodLink RX0 208 yX0_sumUpParts, Cond.instanceMethod yX0_sumUpParts]
def wsL_isGood_r5 : List Cond := [Cond.selects RX0 yX0_sumUpParts yX0_sumUpParts, Cond.code yX0_sumUpParts cX0_sumUpParts 7 (some .int), Cond.fieldLink RX0 20 "ShopHub" "quantities" "[I", Cond.fieldLink RX0 17 "ShopHub" "discounts" "[I", Cond.constantLong RX0 211 (100), Cond.constantLong RX0 213 (1000000000), Cond.methodLink RL 81 yX0_changed, Cond.instanceMethod yX0_changed, Cond.selects RX0 yX0_changed yX0_changed, Cond.code yX0_changed cX0_changed 2 (some .int), Cond.methodLink RX0 215 yX0_findChanged, Cond.instanceMethod yX0_findChanged, Cond.selects RX0 yX0_findChanged yX0_findChanged, Cond.code yX0_findChanged cX0_findChanged 4 (some .int), Cond.methodLink RX0 227 yX0_looksChanged, Cond.instanceMethod yX0_looksChanged, Cond.selects RX0 yX0_looksChanged yX0_looksChanged, Cond.code yX0_looksChanged cX0_looksChanged 5 (some .boolean), Cond.fieldLink RX0 54 "ShopHub" "seen" "[I", Cond.methodLink RL 95 yL_origin, Cond.static yL_origin, Cond.code yL_origin cL_origin 10 (some .int), Cond.methodLink RL 84 yL_place, Cond.static yL_place]
def wsL_isGood_r6 : List Cond := [Cond.code yL_place cL_place 4 (some .int), Cond.methodLink RL 87 yL_holds, Cond.static yL_holds, Cond.code yL_holds cL_holds 7 (some .int)]
def wsL_isGood : List Cond := .code yL_isGood cL_isGood 14 (some .boolean) :: ((wsL_isGood_r1 ++ (wsL_isGood_r2 ++ (wsL_isGood_r3 ++ (wsL_isGood_r4 ++ (wsL_isGood_r5 ++ wsL_isGood_r6))))) ++ wsX00 ++ (vx_atS RX0 72 "java/lang/IllegalStateException" ["java/lang/RuntimeException", "java/lang/Exception"]).filter goodWord ++ (vx_atS RX0 126 "java/lang/IndexOutOfBoundsException" ["java/lang/RuntimeException", "java/lang/Exception"]).filter goodWord)
def wsL_areShops_r1 : List Cond := [Cond.constantLong RL 98 (100), Cond.constantLong RL 100 (1000000000), Cond.methodLink RL 91 yL_asks, Cond.static yL_asks, Cond.initialized RL, Cond.codeWith yL_asks cL_asks 7 (some .int) [(0, 96, 97, 52), (0, 96, 102, 56)], Cond.classLink RL 52 "java/lang/IndexOutOfBoundsException", Cond.classLink RL 56 "java/lang/IllegalStateException", Cond.methodLink RL 62 yX0_value, Cond.instanceMethod yX0_value, Cond.selects RX0 yX0_value yX0_value, Cond.initialized RX0, Cond.code yX0_value cX0_value 6 (some .int), Cond.classLink RX0 68 "java/lang/IllegalStateException", Cond.initialized "java/lang/IllegalStateException", Cond.methodLink RX0 175 yX0_checkSight, Cond.instanceMethod yX0_checkSight, Cond.selects RX0 yX0_checkSight yX0_checkSight, Cond.code yX0_checkSight cX0_checkSight 5 none, Cond.methodLink RX0 77 yX0_checkGood, Cond.instanceMethod yX0_checkGood, Cond.selects RX0 yX0_checkGood yX0_checkGood, Cond.code yX0_checkGood cX0_checkGood 2 none, Cond.classLink RX0 122 "java/lang/IndexOutOfBoundsException"]
def wsL_areShops_r2 : List Cond := [Cond.initialized "java/lang/IndexOutOfBoundsException", Cond.methodLink RX0 119 yX0_isGood, Cond.instanceMethod yX0_isGood, Cond.selects RX0 yX0_isGood yX0_isGood, Cond.code yX0_isGood cX0_isGood 2 (some .boolean), Cond.fieldLink RX0 9 "ShopHub" "exists" "[Z", Cond.methodLink RX0 135 yX0_checkAttribute, Cond.static yX0_checkAttribute, Cond.code yX0_checkAttribute cX0_checkAttribute 1 none, Cond.methodLink RX0 138 yX0_checkShop, Cond.static yX0_checkShop, Cond.code yX0_checkShop cX0_checkShop 1 none, Cond.methodLink RX0 141 yX0_checkTongue, Cond.static yX0_checkTongue, Cond.code yX0_checkTongue cX0_checkTongue 1 none, Cond.methodLink RX0 179 yX0_findValue, Cond.instanceMethod yX0_findValue, Cond.selects RX0 yX0_findValue yX0_findValue, Cond.code yX0_findValue cX0_findValue 6 (some .int), Cond.fieldLink RX0 33 "ShopHub" "draftValues" "[I", Cond.methodLink RX0 184 yX0_findOrigin, Cond.instanceMethod yX0_findOrigin, Cond.selects RX0 yX0_findOrigin yX0_findOrigin, Cond.code yX0_findOrigin cX0_findOrigin 8 (some .int)]
def wsL_areShops_r3 : List Cond := [Cond.fieldLink RX0 13 "ShopHub" "parents" "[I", Cond.methodLink RX0 205 yX0_findOwnOrigin, Cond.instanceMethod yX0_findOwnOrigin, Cond.selects RX0 yX0_findOwnOrigin yX0_findOwnOrigin, Cond.code yX0_findOwnOrigin cX0_findOwnOrigin 6 (some .int), Cond.fieldLink RX0 48 "ShopHub" "holders" "[I", Cond.methodLink RX0 151 yX0_placeOf, Cond.static yX0_placeOf, Cond.code yX0_placeOf cX0_placeOf 6 (some .int), Cond.methodLink RX0 167 yX0_isEntered, Cond.instanceMethod yX0_isEntered, Cond.selects RX0 yX0_isEntered yX0_isEntered, Cond.code yX0_isEntered cX0_isEntered 2 (some .boolean), Cond.fieldLink RX0 42 "ShopHub" "draftCount" "I", Cond.methodLink RL 66 yX0_origin, Cond.instanceMethod yX0_origin, Cond.selects RX0 yX0_origin yX0_origin, Cond.code yX0_origin cX0_origin 5 (some .int), Cond.methodLink RL 69 yX0_told, Cond.instanceMethod yX0_told, Cond.selects RX0 yX0_told yX0_told, Cond.code yX0_told cX0_told 5 (some .int), Cond.methodLink RL 72 yX0_missing, Cond.instanceMethod yX0_missing]
def wsL_areShops_r4 : List Cond := [Cond.selects RX0 yX0_missing yX0_missing, Cond.code yX0_missing cX0_missing 4 (some .int), Cond.methodLink RX0 187 yX0_findMissing, Cond.instanceMethod yX0_findMissing, Cond.selects RX0 yX0_findMissing yX0_findMissing, Cond.code yX0_findMissing cX0_findMissing 6 (some .int), Cond.fieldLink RX0 51 "ShopHub" "asked" "[Z", Cond.methodLink RL 75 yX0_complete, Cond.instanceMethod yX0_complete, Cond.selects RX0 yX0_complete yX0_complete, Cond.code yX0_complete cX0_complete 4 (some .int), Cond.methodLink RX0 191 yX0_isComplete, Cond.instanceMethod yX0_isComplete, Cond.selects RX0 yX0_isComplete yX0_isComplete, Cond.code yX0_isComplete cX0_isComplete 4 (some .boolean), Cond.methodLink RL 78 yX0_price, Cond.instanceMethod yX0_price, Cond.selects RX0 yX0_price yX0_price, Cond.code yX0_price cX0_price 4 (some .int), Cond.methodLink RX0 194 yX0_findPrice, Cond.instanceMethod yX0_findPrice, Cond.selects RX0 yX0_findPrice yX0_findPrice, Cond.code yX0_findPrice cX0_findPrice 5 (some .int), Cond.fieldLink RX0 57 "ShopHub" "prices" "[I"]
def wsL_areShops_r5 : List Cond := [Cond.methodLink RX0 208 yX0_sumUpParts, Cond.instanceMethod yX0_sumUpParts, Cond.selects RX0 yX0_sumUpParts yX0_sumUpParts, Cond.code yX0_sumUpParts cX0_sumUpParts 7 (some .int), Cond.fieldLink RX0 20 "ShopHub" "quantities" "[I", Cond.fieldLink RX0 17 "ShopHub" "discounts" "[I", Cond.constantLong RX0 211 (100), Cond.constantLong RX0 213 (1000000000), Cond.methodLink RL 81 yX0_changed, Cond.instanceMethod yX0_changed, Cond.selects RX0 yX0_changed yX0_changed, Cond.code yX0_changed cX0_changed 2 (some .int), Cond.methodLink RX0 215 yX0_findChanged, Cond.instanceMethod yX0_findChanged, Cond.selects RX0 yX0_findChanged yX0_findChanged, Cond.code yX0_findChanged cX0_findChanged 4 (some .int), Cond.methodLink RX0 227 yX0_looksChanged, Cond.instanceMethod yX0_looksChanged, Cond.selects RX0 yX0_looksChanged yX0_looksChanged, Cond.code yX0_looksChanged cX0_looksChanged 5 (some .boolean), Cond.fieldLink RX0 54 "ShopHub" "seen" "[I"]
def wsL_areShops : List Cond := .code yL_areShops cL_areShops 17 (some .boolean) :: ((wsL_areShops_r1 ++ (wsL_areShops_r2 ++ (wsL_areShops_r3 ++ (wsL_areShops_r4 ++ wsL_areShops_r5)))) ++ wsX00 ++ (vx_atS RX0 72 "java/lang/IllegalStateException" ["java/lang/RuntimeException", "java/lang/Exception"]).filter goodWord ++ (vx_atS RX0 126 "java/lang/IndexOutOfBoundsException" ["java/lang/RuntimeException", "java/lang/Exception"]).filter goodWord)
def wsL_level : List Cond := .code yL_level cL_level 4 (some .int) :: ([])
def wsL_isBelow : List Cond := .code yL_isBelow cL_isBelow 4 (some .boolean) :: ([])
def wsL_isIn : List Cond := .code yL_isIn cL_isIn 3 (some .boolean) :: ([])
def wsL_isTree_r1 : List Cond := [Cond.methodLink RL 102 yL_isIn, Cond.static yL_isIn, Cond.initialized RL, Cond.code yL_isIn cL_isIn 3 (some .boolean), Cond.methodLink RL 106 yL_level, Cond.static yL_level, Cond.code yL_level cL_level 4 (some .int), Cond.methodLink RL 75 yX0_complete, Cond.instanceMethod yX0_complete, Cond.selects RX0 yX0_complete yX0_complete, Cond.initialized RX0, Cond.code yX0_complete cX0_complete 4 (some .int), Cond.fieldLink RX0 9 "ShopHub" "exists" "[Z", Cond.methodLink RX0 138 yX0_checkShop, Cond.static yX0_checkShop, Cond.code yX0_checkShop cX0_checkShop 1 none, Cond.classLink RX0 122 "java/lang/IndexOutOfBoundsException", Cond.initialized "java/lang/IndexOutOfBoundsException", Cond.methodLink RX0 191 yX0_isComplete, Cond.instanceMethod yX0_isComplete, Cond.selects RX0 yX0_isComplete yX0_isComplete, Cond.code yX0_isComplete cX0_isComplete 4 (some .boolean), Cond.methodLink RX0 187 yX0_findMissing, Cond.instanceMethod yX0_findMissing]
def wsL_isTree_r2 : List Cond := [Cond.selects RX0 yX0_findMissing yX0_findMissing, Cond.code yX0_findMissing cX0_findMissing 6 (some .int), Cond.fieldLink RX0 51 "ShopHub" "asked" "[Z", Cond.methodLink RX0 179 yX0_findValue, Cond.instanceMethod yX0_findValue, Cond.selects RX0 yX0_findValue yX0_findValue, Cond.code yX0_findValue cX0_findValue 6 (some .int), Cond.fieldLink RX0 33 "ShopHub" "draftValues" "[I", Cond.methodLink RX0 184 yX0_findOrigin, Cond.instanceMethod yX0_findOrigin, Cond.selects RX0 yX0_findOrigin yX0_findOrigin, Cond.code yX0_findOrigin cX0_findOrigin 8 (some .int), Cond.fieldLink RX0 13 "ShopHub" "parents" "[I", Cond.methodLink RX0 119 yX0_isGood, Cond.instanceMethod yX0_isGood, Cond.selects RX0 yX0_isGood yX0_isGood, Cond.code yX0_isGood cX0_isGood 2 (some .boolean), Cond.methodLink RX0 205 yX0_findOwnOrigin, Cond.instanceMethod yX0_findOwnOrigin, Cond.selects RX0 yX0_findOwnOrigin yX0_findOwnOrigin, Cond.code yX0_findOwnOrigin cX0_findOwnOrigin 6 (some .int), Cond.fieldLink RX0 48 "ShopHub" "holders" "[I", Cond.methodLink RX0 151 yX0_placeOf, Cond.static yX0_placeOf]
def wsL_isTree_r3 : List Cond := [Cond.code yX0_placeOf cX0_placeOf 6 (some .int), Cond.methodLink RX0 167 yX0_isEntered, Cond.instanceMethod yX0_isEntered, Cond.selects RX0 yX0_isEntered yX0_isEntered, Cond.code yX0_isEntered cX0_isEntered 2 (some .boolean), Cond.fieldLink RX0 42 "ShopHub" "draftCount" "I", Cond.methodLink RL 110 yL_does, Cond.static yL_does, Cond.codeWith yL_does cL_does 6 (some .int) [(0, 154, 155, 52), (0, 154, 160, 54), (0, 154, 165, 56)], Cond.classLink RL 52 "java/lang/IndexOutOfBoundsException", Cond.classLink RL 54 "java/lang/IllegalArgumentException", Cond.classLink RL 56 "java/lang/IllegalStateException", Cond.methodLink RL 14 yX0_addGood, Cond.instanceMethod yX0_addGood, Cond.selects RX0 yX0_addGood yX0_addGood, Cond.code yX0_addGood cX0_addGood 3 (some .int), Cond.classLink RX0 68 "java/lang/IllegalStateException", Cond.initialized "java/lang/IllegalStateException", Cond.fieldLink RX0 23 "ShopHub" "goodCount" "I", Cond.methodLink RX0 60 yX0_checkParent, Cond.instanceMethod yX0_checkParent, Cond.selects RX0 yX0_checkParent yX0_checkParent, Cond.code yX0_checkParent cX0_checkParent 2 none, Cond.methodLink RX0 64 yX0_levelOf]
def wsL_isTree_r4 : List Cond := [Cond.instanceMethod yX0_levelOf, Cond.selects RX0 yX0_levelOf yX0_levelOf, Cond.code yX0_levelOf cX0_levelOf 5 (some .int), Cond.methodLink RL 18 yX0_move, Cond.instanceMethod yX0_move, Cond.selects RX0 yX0_move yX0_move, Cond.code yX0_move cX0_move 4 (some .int), Cond.methodLink RX0 77 yX0_checkGood, Cond.instanceMethod yX0_checkGood, Cond.selects RX0 yX0_checkGood yX0_checkGood, Cond.code yX0_checkGood cX0_checkGood 2 none, Cond.methodLink RX0 80 yX0_isWithin, Cond.instanceMethod yX0_isWithin, Cond.selects RX0 yX0_isWithin yX0_isWithin, Cond.code yX0_isWithin cX0_isWithin 5 (some .boolean), Cond.methodLink RX0 86 yX0_levelsWithin, Cond.instanceMethod yX0_levelsWithin, Cond.selects RX0 yX0_levelsWithin yX0_levelsWithin, Cond.code yX0_levelsWithin cX0_levelsWithin 4 (some .int), Cond.methodLink RX0 129 Lib.Math.max.name, Cond.static Lib.Math.max.name, Cond.initialized "java/lang/Math", Cond.code Lib.Math.max.name Lib.Math.max.code 2 (some .int), Cond.methodLink RL 22 yL_deletes]
def wsL_isTree_r5 : List Cond := [Cond.static yL_deletes, Cond.code yL_deletes cL_deletes 2 (some .int), Cond.methodLink RL 8 yX0_delete, Cond.instanceMethod yX0_delete, Cond.selects RX0 yX0_delete yX0_delete, Cond.code yX0_delete cX0_delete 3 none, Cond.fieldLink RX0 20 "ShopHub" "quantities" "[I", Cond.methodLink RX0 91 yX0_isParent, Cond.instanceMethod yX0_isParent, Cond.selects RX0 yX0_isParent yX0_isParent, Cond.code yX0_isParent cX0_isParent 3 (some .boolean), Cond.methodLink RX0 97 yX0_isPart, Cond.instanceMethod yX0_isPart, Cond.selects RX0 yX0_isPart yX0_isPart, Cond.code yX0_isPart cX0_isPart 3 (some .boolean), Cond.methodLink RX0 102 yX0_deleteDraftsOf, Cond.instanceMethod yX0_deleteDraftsOf, Cond.selects RX0 yX0_deleteDraftsOf yX0_deleteDraftsOf, Cond.code yX0_deleteDraftsOf cX0_deleteDraftsOf 3 none, Cond.fieldLink RX0 27 "ShopHub" "draftGoods" "[I", Cond.fieldLink RX0 39 "ShopHub" "draftStates" "[I", Cond.methodLink RX0 105 yX0_settleHolders, Cond.instanceMethod yX0_settleHolders, Cond.selects RX0 yX0_settleHolders yX0_settleHolders]
def wsL_isTree_r6 : List Cond := [Cond.code yX0_settleHolders cX0_settleHolders 2 none, Cond.fieldLink RX0 36 "ShopHub" "draftDays" "[I", Cond.fieldLink RX0 45 "ShopHub" "today" "I", Cond.methodLink RX0 172 yX0_putHolder, Cond.instanceMethod yX0_putHolder, Cond.selects RX0 yX0_putHolder yX0_putHolder, Cond.code yX0_putHolder cX0_putHolder 4 none, Cond.fieldLink RX0 30 "ShopHub" "draftPlaces" "[I", Cond.methodLink RL 28 yX0_addPart, Cond.instanceMethod yX0_addPart, Cond.selects RX0 yX0_addPart yX0_addPart, Cond.code yX0_addPart cX0_addPart 6 (some .int), Cond.classLink RX0 108 "java/lang/IllegalArgumentException", Cond.initialized "java/lang/IllegalArgumentException", Cond.methodLink RL 32 yX0_setDiscount, Cond.instanceMethod yX0_setDiscount, Cond.selects RX0 yX0_setDiscount yX0_setDiscount, Cond.code yX0_setDiscount cX0_setDiscount 4 (some .int), Cond.fieldLink RX0 17 "ShopHub" "discounts" "[I", Cond.methodLink RL 35 yX0_approve, Cond.instanceMethod yX0_approve, Cond.selects RX0 yX0_approve yX0_approve, Cond.code yX0_approve cX0_approve 2 (some .boolean), Cond.methodLink RX0 155 yX0_checkDraft]
def wsL_isTree_r7 : List Cond := [Cond.instanceMethod yX0_checkDraft, Cond.selects RX0 yX0_checkDraft yX0_checkDraft, Cond.code yX0_checkDraft cX0_checkDraft 2 none, Cond.methodLink RX0 160 yX0_holdsAtItsPlace, Cond.instanceMethod yX0_holdsAtItsPlace, Cond.selects RX0 yX0_holdsAtItsPlace yX0_holdsAtItsPlace, Cond.code yX0_holdsAtItsPlace cX0_holdsAtItsPlace 2 (some .boolean), Cond.methodLink RL 39 yX0_reject, Cond.instanceMethod yX0_reject, Cond.selects RX0 yX0_reject yX0_reject, Cond.code yX0_reject cX0_reject 3 (some .boolean), Cond.methodLink RL 42 yX0_pass, Cond.instanceMethod yX0_pass, Cond.selects RX0 yX0_pass yX0_pass, Cond.code yX0_pass cX0_pass 2 (some .int), Cond.methodLink RL 45 yX0_toggleAsked, Cond.instanceMethod yX0_toggleAsked, Cond.selects RX0 yX0_toggleAsked yX0_toggleAsked, Cond.code yX0_toggleAsked cX0_toggleAsked 4 (some .boolean), Cond.methodLink RX0 135 yX0_checkAttribute, Cond.static yX0_checkAttribute, Cond.code yX0_checkAttribute cX0_checkAttribute 1 none, Cond.methodLink RL 49 yX0_feed, Cond.instanceMethod yX0_feed]
def wsL_isTree_r8 : List Cond := [Cond.selects RX0 yX0_feed yX0_feed, Cond.code yX0_feed cX0_feed 4 (some .int), Cond.methodLink RX0 215 yX0_findChanged, Cond.instanceMethod yX0_findChanged, Cond.selects RX0 yX0_findChanged yX0_findChanged, Cond.code yX0_findChanged cX0_findChanged 4 (some .int), Cond.methodLink RX0 227 yX0_looksChanged, Cond.instanceMethod yX0_looksChanged, Cond.selects RX0 yX0_looksChanged yX0_looksChanged, Cond.code yX0_looksChanged cX0_looksChanged 5 (some .boolean), Cond.fieldLink RX0 54 "ShopHub" "seen" "[I", Cond.methodLink RX0 218 yX0_rememberSights, Cond.instanceMethod yX0_rememberSights, Cond.selects RX0 yX0_rememberSights yX0_rememberSights, Cond.code yX0_rememberSights cX0_rememberSights 5 none, Cond.methodLink RX0 222 yJ6_bitCount_0f7a4, Cond.static yJ6_bitCount_0f7a4, Cond.initialized RJ6, Cond.code yJ6_bitCount_0f7a4 cJ6_bitCount_0f7a4 1 (some .int), Cond.constant RJ6 265 (1431655765), Cond.constant RJ6 266 (858993459), Cond.constant RJ6 267 (252645135), Cond.methodLink RL 114 yL_isBelow, Cond.static yL_isBelow]
def wsL_isTree_r9 : List Cond := [Cond.code yL_isBelow cL_isBelow 4 (some .boolean)]
def wsL_isTree : List Cond := .code yL_isTree cL_isTree 13 (some .boolean) :: ((wsL_isTree_r1 ++ (wsL_isTree_r2 ++ (wsL_isTree_r3 ++ (wsL_isTree_r4 ++ (wsL_isTree_r5 ++ (wsL_isTree_r6 ++ (wsL_isTree_r7 ++ (wsL_isTree_r8 ++ wsL_isTree_r9)))))))) ++ wsX00 ++ (vx_atS RX0 126 "java/lang/IndexOutOfBoundsException" ["java/lang/RuntimeException", "java/lang/Exception"]).filter goodWord ++ (vx_atS RX0 72 "java/lang/IllegalStateException" ["java/lang/RuntimeException", "java/lang/Exception"]).filter goodWord ++ (vx_atS RX0 112 "java/lang/IllegalArgumentException" ["java/lang/RuntimeException", "java/lang/Exception"]).filter goodWord)
def wsL_isPart_r1 : List Cond := [Cond.methodLink RL 102 yL_isIn, Cond.static yL_isIn, Cond.initialized RL, Cond.code yL_isIn cL_isIn 3 (some .boolean), Cond.methodLink RL 110 yL_does, Cond.static yL_does, Cond.codeWith yL_does cL_does 6 (some .int) [(0, 154, 155, 52), (0, 154, 160, 54), (0, 154, 165, 56)], Cond.classLink RL 52 "java/lang/IndexOutOfBoundsException", Cond.classLink RL 54 "java/lang/IllegalArgumentException", Cond.classLink RL 56 "java/lang/IllegalStateException", Cond.methodLink RL 14 yX0_addGood, Cond.instanceMethod yX0_addGood, Cond.selects RX0 yX0_addGood yX0_addGood, Cond.initialized RX0, Cond.code yX0_addGood cX0_addGood 3 (some .int), Cond.classLink RX0 68 "java/lang/IllegalStateException", Cond.initialized "java/lang/IllegalStateException", Cond.fieldLink RX0 23 "ShopHub" "goodCount" "I", Cond.fieldLink RX0 9 "ShopHub" "exists" "[Z", Cond.fieldLink RX0 13 "ShopHub" "parents" "[I", Cond.methodLink RX0 60 yX0_checkParent, Cond.instanceMethod yX0_checkParent, Cond.selects RX0 yX0_checkParent yX0_checkParent, Cond.code yX0_checkParent cX0_checkParent 2 none]
def wsL_isPart_r2 : List Cond := [Cond.classLink RX0 122 "java/lang/IndexOutOfBoundsException", Cond.initialized "java/lang/IndexOutOfBoundsException", Cond.methodLink RX0 119 yX0_isGood, Cond.instanceMethod yX0_isGood, Cond.selects RX0 yX0_isGood yX0_isGood, Cond.code yX0_isGood cX0_isGood 2 (some .boolean), Cond.methodLink RX0 64 yX0_levelOf, Cond.instanceMethod yX0_levelOf, Cond.selects RX0 yX0_levelOf yX0_levelOf, Cond.code yX0_levelOf cX0_levelOf 5 (some .int), Cond.methodLink RL 18 yX0_move, Cond.instanceMethod yX0_move, Cond.selects RX0 yX0_move yX0_move, Cond.code yX0_move cX0_move 4 (some .int), Cond.methodLink RX0 77 yX0_checkGood, Cond.instanceMethod yX0_checkGood, Cond.selects RX0 yX0_checkGood yX0_checkGood, Cond.code yX0_checkGood cX0_checkGood 2 none, Cond.methodLink RX0 80 yX0_isWithin, Cond.instanceMethod yX0_isWithin, Cond.selects RX0 yX0_isWithin yX0_isWithin, Cond.code yX0_isWithin cX0_isWithin 5 (some .boolean), Cond.methodLink RX0 86 yX0_levelsWithin, Cond.instanceMethod yX0_levelsWithin]
def wsL_isPart_r3 : List Cond := [Cond.selects RX0 yX0_levelsWithin yX0_levelsWithin, Cond.code yX0_levelsWithin cX0_levelsWithin 4 (some .int), Cond.methodLink RX0 129 Lib.Math.max.name, Cond.static Lib.Math.max.name, Cond.initialized "java/lang/Math", Cond.code Lib.Math.max.name Lib.Math.max.code 2 (some .int), Cond.methodLink RL 22 yL_deletes, Cond.static yL_deletes, Cond.code yL_deletes cL_deletes 2 (some .int), Cond.methodLink RL 8 yX0_delete, Cond.instanceMethod yX0_delete, Cond.selects RX0 yX0_delete yX0_delete, Cond.code yX0_delete cX0_delete 3 none, Cond.fieldLink RX0 20 "ShopHub" "quantities" "[I", Cond.methodLink RX0 91 yX0_isParent, Cond.instanceMethod yX0_isParent, Cond.selects RX0 yX0_isParent yX0_isParent, Cond.code yX0_isParent cX0_isParent 3 (some .boolean), Cond.methodLink RX0 97 yX0_isPart, Cond.instanceMethod yX0_isPart, Cond.selects RX0 yX0_isPart yX0_isPart, Cond.code yX0_isPart cX0_isPart 3 (some .boolean), Cond.methodLink RX0 102 yX0_deleteDraftsOf, Cond.instanceMethod yX0_deleteDraftsOf]
def wsL_isPart_r4 : List Cond := [Cond.selects RX0 yX0_deleteDraftsOf yX0_deleteDraftsOf, Cond.code yX0_deleteDraftsOf cX0_deleteDraftsOf 3 none, Cond.fieldLink RX0 42 "ShopHub" "draftCount" "I", Cond.fieldLink RX0 27 "ShopHub" "draftGoods" "[I", Cond.fieldLink RX0 39 "ShopHub" "draftStates" "[I", Cond.methodLink RX0 105 yX0_settleHolders, Cond.instanceMethod yX0_settleHolders, Cond.selects RX0 yX0_settleHolders yX0_settleHolders, Cond.code yX0_settleHolders cX0_settleHolders 2 none, Cond.fieldLink RX0 48 "ShopHub" "holders" "[I", Cond.fieldLink RX0 36 "ShopHub" "draftDays" "[I", Cond.fieldLink RX0 45 "ShopHub" "today" "I", Cond.methodLink RX0 172 yX0_putHolder, Cond.instanceMethod yX0_putHolder, Cond.selects RX0 yX0_putHolder yX0_putHolder, Cond.code yX0_putHolder cX0_putHolder 4 none, Cond.fieldLink RX0 30 "ShopHub" "draftPlaces" "[I", Cond.methodLink RX0 167 yX0_isEntered, Cond.instanceMethod yX0_isEntered, Cond.selects RX0 yX0_isEntered yX0_isEntered, Cond.code yX0_isEntered cX0_isEntered 2 (some .boolean), Cond.methodLink RL 28 yX0_addPart, Cond.instanceMethod yX0_addPart, Cond.selects RX0 yX0_addPart yX0_addPart]
def wsL_isPart_r5 : List Cond := [Cond.code yX0_addPart cX0_addPart 6 (some .int), Cond.classLink RX0 108 "java/lang/IllegalArgumentException", Cond.initialized "java/lang/IllegalArgumentException", Cond.methodLink RL 32 yX0_setDiscount, Cond.instanceMethod yX0_setDiscount, Cond.selects RX0 yX0_setDiscount yX0_setDiscount, Cond.code yX0_setDiscount cX0_setDiscount 4 (some .int), Cond.fieldLink RX0 17 "ShopHub" "discounts" "[I", Cond.methodLink RL 35 yX0_approve, Cond.instanceMethod yX0_approve, Cond.selects RX0 yX0_approve yX0_approve, Cond.code yX0_approve cX0_approve 2 (some .boolean), Cond.methodLink RX0 155 yX0_checkDraft, Cond.instanceMethod yX0_checkDraft, Cond.selects RX0 yX0_checkDraft yX0_checkDraft, Cond.code yX0_checkDraft cX0_checkDraft 2 none, Cond.methodLink RX0 160 yX0_holdsAtItsPlace, Cond.instanceMethod yX0_holdsAtItsPlace, Cond.selects RX0 yX0_holdsAtItsPlace yX0_holdsAtItsPlace, Cond.code yX0_holdsAtItsPlace cX0_holdsAtItsPlace 2 (some .boolean), Cond.methodLink RL 39 yX0_reject, Cond.instanceMethod yX0_reject, Cond.selects RX0 yX0_reject yX0_reject, Cond.code yX0_reject cX0_reject 3 (some .boolean)]
def wsL_isPart_r6 : List Cond := [Cond.methodLink RL 42 yX0_pass, Cond.instanceMethod yX0_pass, Cond.selects RX0 yX0_pass yX0_pass, Cond.code yX0_pass cX0_pass 2 (some .int), Cond.methodLink RL 45 yX0_toggleAsked, Cond.instanceMethod yX0_toggleAsked, Cond.selects RX0 yX0_toggleAsked yX0_toggleAsked, Cond.code yX0_toggleAsked cX0_toggleAsked 4 (some .boolean), Cond.fieldLink RX0 51 "ShopHub" "asked" "[Z", Cond.methodLink RX0 138 yX0_checkShop, Cond.static yX0_checkShop, Cond.code yX0_checkShop cX0_checkShop 1 none, Cond.methodLink RX0 135 yX0_checkAttribute, Cond.static yX0_checkAttribute, Cond.code yX0_checkAttribute cX0_checkAttribute 1 none, Cond.methodLink RL 49 yX0_feed, Cond.instanceMethod yX0_feed, Cond.selects RX0 yX0_feed yX0_feed, Cond.code yX0_feed cX0_feed 4 (some .int), Cond.methodLink RX0 215 yX0_findChanged, Cond.instanceMethod yX0_findChanged, Cond.selects RX0 yX0_findChanged yX0_findChanged, Cond.code yX0_findChanged cX0_findChanged 4 (some .int), Cond.methodLink RX0 227 yX0_looksChanged]
def wsL_isPart_r7 : List Cond := [Cond.instanceMethod yX0_looksChanged, Cond.selects RX0 yX0_looksChanged yX0_looksChanged, Cond.code yX0_looksChanged cX0_looksChanged 5 (some .boolean), Cond.fieldLink RX0 54 "ShopHub" "seen" "[I", Cond.methodLink RX0 179 yX0_findValue, Cond.instanceMethod yX0_findValue, Cond.selects RX0 yX0_findValue yX0_findValue, Cond.code yX0_findValue cX0_findValue 6 (some .int), Cond.fieldLink RX0 33 "ShopHub" "draftValues" "[I", Cond.methodLink RX0 184 yX0_findOrigin, Cond.instanceMethod yX0_findOrigin, Cond.selects RX0 yX0_findOrigin yX0_findOrigin, Cond.code yX0_findOrigin cX0_findOrigin 8 (some .int), Cond.methodLink RX0 205 yX0_findOwnOrigin, Cond.instanceMethod yX0_findOwnOrigin, Cond.selects RX0 yX0_findOwnOrigin yX0_findOwnOrigin, Cond.code yX0_findOwnOrigin cX0_findOwnOrigin 6 (some .int), Cond.methodLink RX0 151 yX0_placeOf, Cond.static yX0_placeOf, Cond.code yX0_placeOf cX0_placeOf 6 (some .int), Cond.methodLink RX0 218 yX0_rememberSights, Cond.instanceMethod yX0_rememberSights, Cond.selects RX0 yX0_rememberSights yX0_rememberSights, Cond.code yX0_rememberSights cX0_rememberSights 5 none]
def wsL_isPart_r8 : List Cond := [Cond.methodLink RX0 222 yJ6_bitCount_0f7a4, Cond.static yJ6_bitCount_0f7a4, Cond.initialized RJ6, Cond.code yJ6_bitCount_0f7a4 cJ6_bitCount_0f7a4 1 (some .int), Cond.constant RJ6 265 (1431655765), Cond.constant RJ6 266 (858993459), Cond.constant RJ6 267 (252645135)]
def wsL_isPart : List Cond := .code yL_isPart cL_isPart 14 (some .boolean) :: ((wsL_isPart_r1 ++ (wsL_isPart_r2 ++ (wsL_isPart_r3 ++ (wsL_isPart_r4 ++ (wsL_isPart_r5 ++ (wsL_isPart_r6 ++ (wsL_isPart_r7 ++ wsL_isPart_r8))))))) ++ wsX00 ++ (vx_atS RX0 72 "java/lang/IllegalStateException" ["java/lang/RuntimeException", "java/lang/Exception"]).filter goodWord ++ (vx_atS RX0 126 "java/lang/IndexOutOfBoundsException" ["java/lang/RuntimeException", "java/lang/Exception"]).filter goodWord ++ (vx_atS RX0 112 "java/lang/IllegalArgumentException" ["java/lang/RuntimeException", "java/lang/Exception"]).filter goodWord)
def wsL_isDraft_r1 : List Cond := [Cond.constant RL 118 (100001), Cond.constant RL 119 (100000), Cond.methodLink RL 102 yL_isIn, Cond.static yL_isIn, Cond.initialized RL, Cond.code yL_isIn cL_isIn 3 (some .boolean), Cond.methodLink RL 84 yL_place, Cond.static yL_place, Cond.code yL_place cL_place 4 (some .int), Cond.methodLink RL 120 yL_drafts, Cond.static yL_drafts, Cond.codeWith yL_drafts cL_drafts 8 (some .int) [(0, 13, 14, 52), (0, 13, 19, 54), (0, 13, 24, 56)], Cond.classLink RL 52 "java/lang/IndexOutOfBoundsException", Cond.classLink RL 54 "java/lang/IllegalArgumentException", Cond.classLink RL 56 "java/lang/IllegalStateException", Cond.methodLink RL 58 yX0_draft, Cond.instanceMethod yX0_draft, Cond.selects RX0 yX0_draft yX0_draft, Cond.initialized RX0, Cond.code yX0_draft cX0_draft 8 (some .int), Cond.classLink RX0 108 "java/lang/IllegalArgumentException", Cond.initialized "java/lang/IllegalArgumentException", Cond.classLink RX0 68 "java/lang/IllegalStateException", Cond.initialized "java/lang/IllegalStateException"]
def wsL_isDraft_r2 : List Cond := [Cond.constant RX0 144 (100000), Cond.fieldLink RX0 42 "ShopHub" "draftCount" "I", Cond.fieldLink RX0 27 "ShopHub" "draftGoods" "[I", Cond.fieldLink RX0 30 "ShopHub" "draftPlaces" "[I", Cond.fieldLink RX0 33 "ShopHub" "draftValues" "[I", Cond.fieldLink RX0 36 "ShopHub" "draftDays" "[I", Cond.fieldLink RX0 39 "ShopHub" "draftStates" "[I", Cond.methodLink RX0 77 yX0_checkGood, Cond.instanceMethod yX0_checkGood, Cond.selects RX0 yX0_checkGood yX0_checkGood, Cond.code yX0_checkGood cX0_checkGood 2 none, Cond.classLink RX0 122 "java/lang/IndexOutOfBoundsException", Cond.initialized "java/lang/IndexOutOfBoundsException", Cond.methodLink RX0 119 yX0_isGood, Cond.instanceMethod yX0_isGood, Cond.selects RX0 yX0_isGood yX0_isGood, Cond.code yX0_isGood cX0_isGood 2 (some .boolean), Cond.fieldLink RX0 9 "ShopHub" "exists" "[Z", Cond.methodLink RX0 135 yX0_checkAttribute, Cond.static yX0_checkAttribute, Cond.code yX0_checkAttribute cX0_checkAttribute 1 none, Cond.methodLink RX0 138 yX0_checkShop, Cond.static yX0_checkShop, Cond.code yX0_checkShop cX0_checkShop 1 none]
def wsL_isDraft_r3 : List Cond := [Cond.methodLink RX0 141 yX0_checkTongue, Cond.static yX0_checkTongue, Cond.code yX0_checkTongue cX0_checkTongue 1 none, Cond.methodLink RX0 151 yX0_placeOf, Cond.static yX0_placeOf, Cond.code yX0_placeOf cX0_placeOf 6 (some .int)]
def wsL_isDraft : List Cond := .code yL_isDraft cL_isDraft 17 (some .boolean) :: ((wsL_isDraft_r1 ++ (wsL_isDraft_r2 ++ wsL_isDraft_r3)) ++ wsX00 ++ (vx_atS RX0 112 "java/lang/IllegalArgumentException" ["java/lang/RuntimeException", "java/lang/Exception"]).filter goodWord ++ (vx_atS RX0 72 "java/lang/IllegalStateException" ["java/lang/RuntimeException", "java/lang/Exception"]).filter goodWord ++ (vx_atS RX0 126 "java/lang/IndexOutOfBoundsException" ["java/lang/RuntimeException", "java/lang/Exception"]).filter goodWord)
def wsL_isDecided_r1 : List Cond := [Cond.methodLink RL 110 yL_does, Cond.static yL_does, Cond.initialized RL, Cond.codeWith yL_does cL_does 6 (some .int) [(0, 154, 155, 52), (0, 154, 160, 54), (0, 154, 165, 56)], Cond.classLink RL 52 "java/lang/IndexOutOfBoundsException", Cond.classLink RL 54 "java/lang/IllegalArgumentException", Cond.classLink RL 56 "java/lang/IllegalStateException", Cond.methodLink RL 14 yX0_addGood, Cond.instanceMethod yX0_addGood, Cond.selects RX0 yX0_addGood yX0_addGood, Cond.initialized RX0, Cond.code yX0_addGood cX0_addGood 3 (some .int), Cond.classLink RX0 68 "java/lang/IllegalStateException", Cond.initialized "java/lang/IllegalStateException", Cond.fieldLink RX0 23 "ShopHub" "goodCount" "I", Cond.fieldLink RX0 9 "ShopHub" "exists" "[Z", Cond.fieldLink RX0 13 "ShopHub" "parents" "[I", Cond.methodLink RX0 60 yX0_checkParent, Cond.instanceMethod yX0_checkParent, Cond.selects RX0 yX0_checkParent yX0_checkParent, Cond.code yX0_checkParent cX0_checkParent 2 none, Cond.classLink RX0 122 "java/lang/IndexOutOfBoundsException", Cond.initialized "java/lang/IndexOutOfBoundsException", Cond.methodLink RX0 119 yX0_isGood]
def wsL_isDecided_r2 : List Cond := [Cond.instanceMethod yX0_isGood, Cond.selects RX0 yX0_isGood yX0_isGood, Cond.code yX0_isGood cX0_isGood 2 (some .boolean), Cond.methodLink RX0 64 yX0_levelOf, Cond.instanceMethod yX0_levelOf, Cond.selects RX0 yX0_levelOf yX0_levelOf, Cond.code yX0_levelOf cX0_levelOf 5 (some .int), Cond.methodLink RL 18 yX0_move, Cond.instanceMethod yX0_move, Cond.selects RX0 yX0_move yX0_move, Cond.code yX0_move cX0_move 4 (some .int), Cond.methodLink RX0 77 yX0_checkGood, Cond.instanceMethod yX0_checkGood, Cond.selects RX0 yX0_checkGood yX0_checkGood, Cond.code yX0_checkGood cX0_checkGood 2 none, Cond.methodLink RX0 80 yX0_isWithin, Cond.instanceMethod yX0_isWithin, Cond.selects RX0 yX0_isWithin yX0_isWithin, Cond.code yX0_isWithin cX0_isWithin 5 (some .boolean), Cond.methodLink RX0 86 yX0_levelsWithin, Cond.instanceMethod yX0_levelsWithin, Cond.selects RX0 yX0_levelsWithin yX0_levelsWithin, Cond.code yX0_levelsWithin cX0_levelsWithin 4 (some .int), Cond.methodLink RX0 129 Lib.Math.max.name]
def wsL_isDecided_r3 : List Cond := [Cond.static Lib.Math.max.name, Cond.initialized "java/lang/Math", Cond.code Lib.Math.max.name Lib.Math.max.code 2 (some .int), Cond.methodLink RL 22 yL_deletes, Cond.static yL_deletes, Cond.code yL_deletes cL_deletes 2 (some .int), Cond.methodLink RL 8 yX0_delete, Cond.instanceMethod yX0_delete, Cond.selects RX0 yX0_delete yX0_delete, Cond.code yX0_delete cX0_delete 3 none, Cond.fieldLink RX0 20 "ShopHub" "quantities" "[I", Cond.methodLink RX0 91 yX0_isParent, Cond.instanceMethod yX0_isParent, Cond.selects RX0 yX0_isParent yX0_isParent, Cond.code yX0_isParent cX0_isParent 3 (some .boolean), Cond.methodLink RX0 97 yX0_isPart, Cond.instanceMethod yX0_isPart, Cond.selects RX0 yX0_isPart yX0_isPart, Cond.code yX0_isPart cX0_isPart 3 (some .boolean), Cond.methodLink RX0 102 yX0_deleteDraftsOf, Cond.instanceMethod yX0_deleteDraftsOf, Cond.selects RX0 yX0_deleteDraftsOf yX0_deleteDraftsOf, Cond.code yX0_deleteDraftsOf cX0_deleteDraftsOf 3 none, Cond.fieldLink RX0 42 "ShopHub" "draftCount" "I"]
def wsL_isDecided_r4 : List Cond := [Cond.fieldLink RX0 27 "ShopHub" "draftGoods" "[I", Cond.fieldLink RX0 39 "ShopHub" "draftStates" "[I", Cond.methodLink RX0 105 yX0_settleHolders, Cond.instanceMethod yX0_settleHolders, Cond.selects RX0 yX0_settleHolders yX0_settleHolders, Cond.code yX0_settleHolders cX0_settleHolders 2 none, Cond.fieldLink RX0 48 "ShopHub" "holders" "[I", Cond.fieldLink RX0 36 "ShopHub" "draftDays" "[I", Cond.fieldLink RX0 45 "ShopHub" "today" "I", Cond.methodLink RX0 172 yX0_putHolder, Cond.instanceMethod yX0_putHolder, Cond.selects RX0 yX0_putHolder yX0_putHolder, Cond.code yX0_putHolder cX0_putHolder 4 none, Cond.fieldLink RX0 30 "ShopHub" "draftPlaces" "[I", Cond.methodLink RX0 167 yX0_isEntered, Cond.instanceMethod yX0_isEntered, Cond.selects RX0 yX0_isEntered yX0_isEntered, Cond.code yX0_isEntered cX0_isEntered 2 (some .boolean), Cond.methodLink RL 28 yX0_addPart, Cond.instanceMethod yX0_addPart, Cond.selects RX0 yX0_addPart yX0_addPart, Cond.code yX0_addPart cX0_addPart 6 (some .int), Cond.classLink RX0 108 "java/lang/IllegalArgumentException", Cond.initialized "java/lang/IllegalArgumentException"]
def wsL_isDecided_r5 : List Cond := [Cond.methodLink RL 32 yX0_setDiscount, Cond.instanceMethod yX0_setDiscount, Cond.selects RX0 yX0_setDiscount yX0_setDiscount, Cond.code yX0_setDiscount cX0_setDiscount 4 (some .int), Cond.fieldLink RX0 17 "ShopHub" "discounts" "[I", Cond.methodLink RL 35 yX0_approve, Cond.instanceMethod yX0_approve, Cond.selects RX0 yX0_approve yX0_approve, Cond.code yX0_approve cX0_approve 2 (some .boolean), Cond.methodLink RX0 155 yX0_checkDraft, Cond.instanceMethod yX0_checkDraft, Cond.selects RX0 yX0_checkDraft yX0_checkDraft, Cond.code yX0_checkDraft cX0_checkDraft 2 none, Cond.methodLink RX0 160 yX0_holdsAtItsPlace, Cond.instanceMethod yX0_holdsAtItsPlace, Cond.selects RX0 yX0_holdsAtItsPlace yX0_holdsAtItsPlace, Cond.code yX0_holdsAtItsPlace cX0_holdsAtItsPlace 2 (some .boolean), Cond.methodLink RL 39 yX0_reject, Cond.instanceMethod yX0_reject, Cond.selects RX0 yX0_reject yX0_reject, Cond.code yX0_reject cX0_reject 3 (some .boolean), Cond.methodLink RL 42 yX0_pass, Cond.instanceMethod yX0_pass, Cond.selects RX0 yX0_pass yX0_pass]
def wsL_isDecided_r6 : List Cond := [Cond.code yX0_pass cX0_pass 2 (some .int), Cond.methodLink RL 45 yX0_toggleAsked, Cond.instanceMethod yX0_toggleAsked, Cond.selects RX0 yX0_toggleAsked yX0_toggleAsked, Cond.code yX0_toggleAsked cX0_toggleAsked 4 (some .boolean), Cond.fieldLink RX0 51 "ShopHub" "asked" "[Z", Cond.methodLink RX0 138 yX0_checkShop, Cond.static yX0_checkShop, Cond.code yX0_checkShop cX0_checkShop 1 none, Cond.methodLink RX0 135 yX0_checkAttribute, Cond.static yX0_checkAttribute, Cond.code yX0_checkAttribute cX0_checkAttribute 1 none, Cond.methodLink RL 49 yX0_feed, Cond.instanceMethod yX0_feed, Cond.selects RX0 yX0_feed yX0_feed, Cond.code yX0_feed cX0_feed 4 (some .int), Cond.methodLink RX0 215 yX0_findChanged, Cond.instanceMethod yX0_findChanged, Cond.selects RX0 yX0_findChanged yX0_findChanged, Cond.code yX0_findChanged cX0_findChanged 4 (some .int), Cond.methodLink RX0 227 yX0_looksChanged, Cond.instanceMethod yX0_looksChanged, Cond.selects RX0 yX0_looksChanged yX0_looksChanged, Cond.code yX0_looksChanged cX0_looksChanged 5 (some .boolean)]
def wsL_isDecided_r7 : List Cond := [Cond.fieldLink RX0 54 "ShopHub" "seen" "[I", Cond.methodLink RX0 179 yX0_findValue, Cond.instanceMethod yX0_findValue, Cond.selects RX0 yX0_findValue yX0_findValue, Cond.code yX0_findValue cX0_findValue 6 (some .int), Cond.fieldLink RX0 33 "ShopHub" "draftValues" "[I", Cond.methodLink RX0 184 yX0_findOrigin, Cond.instanceMethod yX0_findOrigin, Cond.selects RX0 yX0_findOrigin yX0_findOrigin, Cond.code yX0_findOrigin cX0_findOrigin 8 (some .int), Cond.methodLink RX0 205 yX0_findOwnOrigin, Cond.instanceMethod yX0_findOwnOrigin, Cond.selects RX0 yX0_findOwnOrigin yX0_findOwnOrigin, Cond.code yX0_findOwnOrigin cX0_findOwnOrigin 6 (some .int), Cond.methodLink RX0 151 yX0_placeOf, Cond.static yX0_placeOf, Cond.code yX0_placeOf cX0_placeOf 6 (some .int), Cond.methodLink RX0 218 yX0_rememberSights, Cond.instanceMethod yX0_rememberSights, Cond.selects RX0 yX0_rememberSights yX0_rememberSights, Cond.code yX0_rememberSights cX0_rememberSights 5 none, Cond.methodLink RX0 222 yJ6_bitCount_0f7a4, Cond.static yJ6_bitCount_0f7a4, Cond.initialized RJ6]
def wsL_isDecided_r8 : List Cond := [Cond.code yJ6_bitCount_0f7a4 cJ6_bitCount_0f7a4 1 (some .int), Cond.constant RJ6 265 (1431655765), Cond.constant RJ6 266 (858993459), Cond.constant RJ6 267 (252645135), Cond.methodLink RL 87 yL_holds, Cond.static yL_holds, Cond.code yL_holds cL_holds 7 (some .int)]
def wsL_isDecided : List Cond := .code yL_isDecided cL_isDecided 11 (some .boolean) :: ((wsL_isDecided_r1 ++ (wsL_isDecided_r2 ++ (wsL_isDecided_r3 ++ (wsL_isDecided_r4 ++ (wsL_isDecided_r5 ++ (wsL_isDecided_r6 ++ (wsL_isDecided_r7 ++ wsL_isDecided_r8))))))) ++ wsX00 ++ (vx_atS RX0 72 "java/lang/IllegalStateException" ["java/lang/RuntimeException", "java/lang/Exception"]).filter goodWord ++ (vx_atS RX0 126 "java/lang/IndexOutOfBoundsException" ["java/lang/RuntimeException", "java/lang/Exception"]).filter goodWord ++ (vx_atS RX0 112 "java/lang/IllegalArgumentException" ["java/lang/RuntimeException", "java/lang/Exception"]).filter goodWord)
def wsL_isDone_r1 : List Cond := [Cond.methodLink RL 124 yL_part, Cond.static yL_part, Cond.initialized RL, Cond.code yL_part cL_part 4 (some .int), Cond.constant RL 7 (2147483647), Cond.methodLink RL 128 yL_isTree, Cond.static yL_isTree, Cond.code yL_isTree cL_isTree 13 (some .boolean), Cond.methodLink RL 102 yL_isIn, Cond.static yL_isIn, Cond.code yL_isIn cL_isIn 3 (some .boolean), Cond.methodLink RL 106 yL_level, Cond.static yL_level, Cond.code yL_level cL_level 4 (some .int), Cond.methodLink RL 75 yX0_complete, Cond.instanceMethod yX0_complete, Cond.selects RX0 yX0_complete yX0_complete, Cond.initialized RX0, Cond.code yX0_complete cX0_complete 4 (some .int), Cond.fieldLink RX0 9 "ShopHub" "exists" "[Z", Cond.methodLink RX0 138 yX0_checkShop, Cond.static yX0_checkShop, Cond.code yX0_checkShop cX0_checkShop 1 none, Cond.classLink RX0 122 "java/lang/IndexOutOfBoundsException"]
def wsL_isDone_r2 : List Cond := [Cond.initialized "java/lang/IndexOutOfBoundsException", Cond.methodLink RX0 191 yX0_isComplete, Cond.instanceMethod yX0_isComplete, Cond.selects RX0 yX0_isComplete yX0_isComplete, Cond.code yX0_isComplete cX0_isComplete 4 (some .boolean), Cond.methodLink RX0 187 yX0_findMissing, Cond.instanceMethod yX0_findMissing, Cond.selects RX0 yX0_findMissing yX0_findMissing, Cond.code yX0_findMissing cX0_findMissing 6 (some .int), Cond.fieldLink RX0 51 "ShopHub" "asked" "[Z", Cond.methodLink RX0 179 yX0_findValue, Cond.instanceMethod yX0_findValue, Cond.selects RX0 yX0_findValue yX0_findValue, Cond.code yX0_findValue cX0_findValue 6 (some .int), Cond.fieldLink RX0 33 "ShopHub" "draftValues" "[I", Cond.methodLink RX0 184 yX0_findOrigin, Cond.instanceMethod yX0_findOrigin, Cond.selects RX0 yX0_findOrigin yX0_findOrigin, Cond.code yX0_findOrigin cX0_findOrigin 8 (some .int), Cond.fieldLink RX0 13 "ShopHub" "parents" "[I", Cond.methodLink RX0 119 yX0_isGood, Cond.instanceMethod yX0_isGood, Cond.selects RX0 yX0_isGood yX0_isGood, Cond.code yX0_isGood cX0_isGood 2 (some .boolean)]
def wsL_isDone_r3 : List Cond := [Cond.methodLink RX0 205 yX0_findOwnOrigin, Cond.instanceMethod yX0_findOwnOrigin, Cond.selects RX0 yX0_findOwnOrigin yX0_findOwnOrigin, Cond.code yX0_findOwnOrigin cX0_findOwnOrigin 6 (some .int), Cond.fieldLink RX0 48 "ShopHub" "holders" "[I", Cond.methodLink RX0 151 yX0_placeOf, Cond.static yX0_placeOf, Cond.code yX0_placeOf cX0_placeOf 6 (some .int), Cond.methodLink RX0 167 yX0_isEntered, Cond.instanceMethod yX0_isEntered, Cond.selects RX0 yX0_isEntered yX0_isEntered, Cond.code yX0_isEntered cX0_isEntered 2 (some .boolean), Cond.fieldLink RX0 42 "ShopHub" "draftCount" "I", Cond.methodLink RL 110 yL_does, Cond.static yL_does, Cond.codeWith yL_does cL_does 6 (some .int) [(0, 154, 155, 52), (0, 154, 160, 54), (0, 154, 165, 56)], Cond.classLink RL 52 "java/lang/IndexOutOfBoundsException", Cond.classLink RL 54 "java/lang/IllegalArgumentException", Cond.classLink RL 56 "java/lang/IllegalStateException", Cond.methodLink RL 14 yX0_addGood, Cond.instanceMethod yX0_addGood, Cond.selects RX0 yX0_addGood yX0_addGood, Cond.code yX0_addGood cX0_addGood 3 (some .int), Cond.classLink RX0 68 "java/lang/IllegalStateException"]
def wsL_isDone_r4 : List Cond := [Cond.initialized "java/lang/IllegalStateException", Cond.fieldLink RX0 23 "ShopHub" "goodCount" "I", Cond.methodLink RX0 60 yX0_checkParent, Cond.instanceMethod yX0_checkParent, Cond.selects RX0 yX0_checkParent yX0_checkParent, Cond.code yX0_checkParent cX0_checkParent 2 none, Cond.methodLink RX0 64 yX0_levelOf, Cond.instanceMethod yX0_levelOf, Cond.selects RX0 yX0_levelOf yX0_levelOf, Cond.code yX0_levelOf cX0_levelOf 5 (some .int), Cond.methodLink RL 18 yX0_move, Cond.instanceMethod yX0_move, Cond.selects RX0 yX0_move yX0_move, Cond.code yX0_move cX0_move 4 (some .int), Cond.methodLink RX0 77 yX0_checkGood, Cond.instanceMethod yX0_checkGood, Cond.selects RX0 yX0_checkGood yX0_checkGood, Cond.code yX0_checkGood cX0_checkGood 2 none, Cond.methodLink RX0 80 yX0_isWithin, Cond.instanceMethod yX0_isWithin, Cond.selects RX0 yX0_isWithin yX0_isWithin, Cond.code yX0_isWithin cX0_isWithin 5 (some .boolean), Cond.methodLink RX0 86 yX0_levelsWithin, Cond.instanceMethod yX0_levelsWithin]
def wsL_isDone_r5 : List Cond := [Cond.selects RX0 yX0_levelsWithin yX0_levelsWithin, Cond.code yX0_levelsWithin cX0_levelsWithin 4 (some .int), Cond.methodLink RX0 129 Lib.Math.max.name, Cond.static Lib.Math.max.name, Cond.initialized "java/lang/Math", Cond.code Lib.Math.max.name Lib.Math.max.code 2 (some .int), Cond.methodLink RL 22 yL_deletes, Cond.static yL_deletes, Cond.code yL_deletes cL_deletes 2 (some .int), Cond.methodLink RL 8 yX0_delete, Cond.instanceMethod yX0_delete, Cond.selects RX0 yX0_delete yX0_delete, Cond.code yX0_delete cX0_delete 3 none, Cond.fieldLink RX0 20 "ShopHub" "quantities" "[I", Cond.methodLink RX0 91 yX0_isParent, Cond.instanceMethod yX0_isParent, Cond.selects RX0 yX0_isParent yX0_isParent, Cond.code yX0_isParent cX0_isParent 3 (some .boolean), Cond.methodLink RX0 97 yX0_isPart, Cond.instanceMethod yX0_isPart, Cond.selects RX0 yX0_isPart yX0_isPart, Cond.code yX0_isPart cX0_isPart 3 (some .boolean), Cond.methodLink RX0 102 yX0_deleteDraftsOf, Cond.instanceMethod yX0_deleteDraftsOf]
def wsL_isDone_r6 : List Cond := [Cond.selects RX0 yX0_deleteDraftsOf yX0_deleteDraftsOf, Cond.code yX0_deleteDraftsOf cX0_deleteDraftsOf 3 none, Cond.fieldLink RX0 27 "ShopHub" "draftGoods" "[I", Cond.fieldLink RX0 39 "ShopHub" "draftStates" "[I", Cond.methodLink RX0 105 yX0_settleHolders, Cond.instanceMethod yX0_settleHolders, Cond.selects RX0 yX0_settleHolders yX0_settleHolders, Cond.code yX0_settleHolders cX0_settleHolders 2 none, Cond.fieldLink RX0 36 "ShopHub" "draftDays" "[I", Cond.fieldLink RX0 45 "ShopHub" "today" "I", Cond.methodLink RX0 172 yX0_putHolder, Cond.instanceMethod yX0_putHolder, Cond.selects RX0 yX0_putHolder yX0_putHolder, Cond.code yX0_putHolder cX0_putHolder 4 none, Cond.fieldLink RX0 30 "ShopHub" "draftPlaces" "[I", Cond.methodLink RL 28 yX0_addPart, Cond.instanceMethod yX0_addPart, Cond.selects RX0 yX0_addPart yX0_addPart, Cond.code yX0_addPart cX0_addPart 6 (some .int), Cond.classLink RX0 108 "java/lang/IllegalArgumentException", Cond.initialized "java/lang/IllegalArgumentException", Cond.methodLink RL 32 yX0_setDiscount, Cond.instanceMethod yX0_setDiscount, Cond.selects RX0 yX0_setDiscount yX0_setDiscount]
def wsL_isDone_r7 : List Cond := [Cond.code yX0_setDiscount cX0_setDiscount 4 (some .int), Cond.fieldLink RX0 17 "ShopHub" "discounts" "[I", Cond.methodLink RL 35 yX0_approve, Cond.instanceMethod yX0_approve, Cond.selects RX0 yX0_approve yX0_approve, Cond.code yX0_approve cX0_approve 2 (some .boolean), Cond.methodLink RX0 155 yX0_checkDraft, Cond.instanceMethod yX0_checkDraft, Cond.selects RX0 yX0_checkDraft yX0_checkDraft, Cond.code yX0_checkDraft cX0_checkDraft 2 none, Cond.methodLink RX0 160 yX0_holdsAtItsPlace, Cond.instanceMethod yX0_holdsAtItsPlace, Cond.selects RX0 yX0_holdsAtItsPlace yX0_holdsAtItsPlace, Cond.code yX0_holdsAtItsPlace cX0_holdsAtItsPlace 2 (some .boolean), Cond.methodLink RL 39 yX0_reject, Cond.instanceMethod yX0_reject, Cond.selects RX0 yX0_reject yX0_reject, Cond.code yX0_reject cX0_reject 3 (some .boolean), Cond.methodLink RL 42 yX0_pass, Cond.instanceMethod yX0_pass, Cond.selects RX0 yX0_pass yX0_pass, Cond.code yX0_pass cX0_pass 2 (some .int), Cond.methodLink RL 45 yX0_toggleAsked, Cond.instanceMethod yX0_toggleAsked]
def wsL_isDone_r8 : List Cond := [Cond.selects RX0 yX0_toggleAsked yX0_toggleAsked, Cond.code yX0_toggleAsked cX0_toggleAsked 4 (some .boolean), Cond.methodLink RX0 135 yX0_checkAttribute, Cond.static yX0_checkAttribute, Cond.code yX0_checkAttribute cX0_checkAttribute 1 none, Cond.methodLink RL 49 yX0_feed, Cond.instanceMethod yX0_feed, Cond.selects RX0 yX0_feed yX0_feed, Cond.code yX0_feed cX0_feed 4 (some .int), Cond.methodLink RX0 215 yX0_findChanged, Cond.instanceMethod yX0_findChanged, Cond.selects RX0 yX0_findChanged yX0_findChanged, Cond.code yX0_findChanged cX0_findChanged 4 (some .int), Cond.methodLink RX0 227 yX0_looksChanged, Cond.instanceMethod yX0_looksChanged, Cond.selects RX0 yX0_looksChanged yX0_looksChanged, Cond.code yX0_looksChanged cX0_looksChanged 5 (some .boolean), Cond.fieldLink RX0 54 "ShopHub" "seen" "[I", Cond.methodLink RX0 218 yX0_rememberSights, Cond.instanceMethod yX0_rememberSights, Cond.selects RX0 yX0_rememberSights yX0_rememberSights, Cond.code yX0_rememberSights cX0_rememberSights 5 none, Cond.methodLink RX0 222 yJ6_bitCount_0f7a4, Cond.static yJ6_bitCount_0f7a4]
def wsL_isDone_r9 : List Cond := [Cond.initialized RJ6, Cond.code yJ6_bitCount_0f7a4 cJ6_bitCount_0f7a4 1 (some .int), Cond.constant RJ6 265 (1431655765), Cond.constant RJ6 266 (858993459), Cond.constant RJ6 267 (252645135), Cond.methodLink RL 114 yL_isBelow, Cond.static yL_isBelow, Cond.code yL_isBelow cL_isBelow 4 (some .boolean), Cond.methodLink RL 132 yL_isPart, Cond.static yL_isPart, Cond.code yL_isPart cL_isPart 14 (some .boolean), Cond.methodLink RL 135 yL_isDraft, Cond.static yL_isDraft, Cond.code yL_isDraft cL_isDraft 17 (some .boolean), Cond.constant RL 118 (100001), Cond.constant RL 119 (100000), Cond.methodLink RL 84 yL_place, Cond.static yL_place, Cond.code yL_place cL_place 4 (some .int), Cond.methodLink RL 120 yL_drafts, Cond.static yL_drafts, Cond.codeWith yL_drafts cL_drafts 8 (some .int) [(0, 13, 14, 52), (0, 13, 19, 54), (0, 13, 24, 56)], Cond.methodLink RL 58 yX0_draft, Cond.instanceMethod yX0_draft]
def wsL_isDone_r10 : List Cond := [Cond.selects RX0 yX0_draft yX0_draft, Cond.code yX0_draft cX0_draft 8 (some .int), Cond.constant RX0 144 (100000), Cond.methodLink RX0 141 yX0_checkTongue, Cond.static yX0_checkTongue, Cond.code yX0_checkTongue cX0_checkTongue 1 none, Cond.methodLink RL 139 yL_isDecided, Cond.static yL_isDecided, Cond.code yL_isDecided cL_isDecided 11 (some .boolean), Cond.methodLink RL 87 yL_holds, Cond.static yL_holds, Cond.code yL_holds cL_holds 7 (some .int), Cond.methodLink RL 81 yX0_changed, Cond.instanceMethod yX0_changed, Cond.selects RX0 yX0_changed yX0_changed, Cond.code yX0_changed cX0_changed 2 (some .int)]
def wsL_isDone : List Cond := .code yL_isDone cL_isDone 17 (some .boolean) :: ((wsL_isDone_r1 ++ (wsL_isDone_r2 ++ (wsL_isDone_r3 ++ (wsL_isDone_r4 ++ (wsL_isDone_r5 ++ (wsL_isDone_r6 ++ (wsL_isDone_r7 ++ (wsL_isDone_r8 ++ (wsL_isDone_r9 ++ wsL_isDone_r10))))))))) ++ wsX00 ++ (vx_atS RX0 126 "java/lang/IndexOutOfBoundsException" ["java/lang/RuntimeException", "java/lang/Exception"]).filter goodWord ++ (vx_atS RX0 72 "java/lang/IllegalStateException" ["java/lang/RuntimeException", "java/lang/Exception"]).filter goodWord ++ (vx_atS RX0 112 "java/lang/IllegalArgumentException" ["java/lang/RuntimeException", "java/lang/Exception"]).filter goodWord)
def wsL_law0_r1 : List Cond := [Cond.classLink RL 9 RX0, Cond.instantiable RX0 16, Cond.initialized RX0, Cond.arrayClass .int, Cond.methodLink RL 143 yX0_init, Cond.instanceMethod yX0_init, Cond.code yX0_init cX0_init 2 none, Cond.methodLink RX0 3 objectInit, Cond.instanceMethod objectInit, Cond.code objectInit ⟨#[0xb1]⟩ 1 none, Cond.arrayClass .boolean, Cond.fieldLink RX0 9 "ShopHub" "exists" "[Z", Cond.fieldLink RX0 13 "ShopHub" "parents" "[I", Cond.fieldLink RX0 17 "ShopHub" "discounts" "[I", Cond.fieldLink RX0 20 "ShopHub" "quantities" "[I", Cond.fieldLink RX0 23 "ShopHub" "goodCount" "I", Cond.fieldLink RX0 27 "ShopHub" "draftGoods" "[I", Cond.fieldLink RX0 30 "ShopHub" "draftPlaces" "[I", Cond.fieldLink RX0 33 "ShopHub" "draftValues" "[I", Cond.fieldLink RX0 36 "ShopHub" "draftDays" "[I", Cond.fieldLink RX0 39 "ShopHub" "draftStates" "[I", Cond.fieldLink RX0 42 "ShopHub" "draftCount" "I", Cond.fieldLink RX0 45 "ShopHub" "today" "I", Cond.fieldLink RX0 48 "ShopHub" "holders" "[I"]
def wsL_law0_r2 : List Cond := [Cond.fieldLink RX0 51 "ShopHub" "asked" "[Z", Cond.fieldLink RX0 54 "ShopHub" "seen" "[I", Cond.fieldLink RX0 57 "ShopHub" "prices" "[I", Cond.methodLink RL 144 yL_areShops, Cond.static yL_areShops, Cond.initialized RL, Cond.code yL_areShops cL_areShops 17 (some .boolean), Cond.constantLong RL 98 (100), Cond.constantLong RL 100 (1000000000), Cond.methodLink RL 91 yL_asks, Cond.static yL_asks, Cond.codeWith yL_asks cL_asks 7 (some .int) [(0, 96, 97, 52), (0, 96, 102, 56)], Cond.classLink RL 52 "java/lang/IndexOutOfBoundsException", Cond.classLink RL 56 "java/lang/IllegalStateException", Cond.methodLink RL 62 yX0_value, Cond.instanceMethod yX0_value, Cond.selects RX0 yX0_value yX0_value, Cond.code yX0_value cX0_value 6 (some .int), Cond.classLink RX0 68 "java/lang/IllegalStateException", Cond.initialized "java/lang/IllegalStateException", Cond.methodLink RX0 175 yX0_checkSight, Cond.instanceMethod yX0_checkSight, Cond.selects RX0 yX0_checkSight yX0_checkSight, Cond.code yX0_checkSight cX0_checkSight 5 none]
def wsL_law0_r3 : List Cond := [Cond.methodLink RX0 77 yX0_checkGood, Cond.instanceMethod yX0_checkGood, Cond.selects RX0 yX0_checkGood yX0_checkGood, Cond.code yX0_checkGood cX0_checkGood 2 none, Cond.classLink RX0 122 "java/lang/IndexOutOfBoundsException", Cond.initialized "java/lang/IndexOutOfBoundsException", Cond.methodLink RX0 119 yX0_isGood, Cond.instanceMethod yX0_isGood, Cond.selects RX0 yX0_isGood yX0_isGood, Cond.code yX0_isGood cX0_isGood 2 (some .boolean), Cond.methodLink RX0 135 yX0_checkAttribute, Cond.static yX0_checkAttribute, Cond.code yX0_checkAttribute cX0_checkAttribute 1 none, Cond.methodLink RX0 138 yX0_checkShop, Cond.static yX0_checkShop, Cond.code yX0_checkShop cX0_checkShop 1 none, Cond.methodLink RX0 141 yX0_checkTongue, Cond.static yX0_checkTongue, Cond.code yX0_checkTongue cX0_checkTongue 1 none, Cond.methodLink RX0 179 yX0_findValue, Cond.instanceMethod yX0_findValue, Cond.selects RX0 yX0_findValue yX0_findValue, Cond.code yX0_findValue cX0_findValue 6 (some .int), Cond.methodLink RX0 184 yX0_findOrigin]
def wsL_law0_r4 : List Cond := [Cond.instanceMethod yX0_findOrigin, Cond.selects RX0 yX0_findOrigin yX0_findOrigin, Cond.code yX0_findOrigin cX0_findOrigin 8 (some .int), Cond.methodLink RX0 205 yX0_findOwnOrigin, Cond.instanceMethod yX0_findOwnOrigin, Cond.selects RX0 yX0_findOwnOrigin yX0_findOwnOrigin, Cond.code yX0_findOwnOrigin cX0_findOwnOrigin 6 (some .int), Cond.methodLink RX0 151 yX0_placeOf, Cond.static yX0_placeOf, Cond.code yX0_placeOf cX0_placeOf 6 (some .int), Cond.methodLink RX0 167 yX0_isEntered, Cond.instanceMethod yX0_isEntered, Cond.selects RX0 yX0_isEntered yX0_isEntered, Cond.code yX0_isEntered cX0_isEntered 2 (some .boolean), Cond.methodLink RL 66 yX0_origin, Cond.instanceMethod yX0_origin, Cond.selects RX0 yX0_origin yX0_origin, Cond.code yX0_origin cX0_origin 5 (some .int), Cond.methodLink RL 69 yX0_told, Cond.instanceMethod yX0_told, Cond.selects RX0 yX0_told yX0_told, Cond.code yX0_told cX0_told 5 (some .int), Cond.methodLink RL 72 yX0_missing, Cond.instanceMethod yX0_missing]
def wsL_law0_r5 : List Cond := [Cond.selects RX0 yX0_missing yX0_missing, Cond.code yX0_missing cX0_missing 4 (some .int), Cond.methodLink RX0 187 yX0_findMissing, Cond.instanceMethod yX0_findMissing, Cond.selects RX0 yX0_findMissing yX0_findMissing, Cond.code yX0_findMissing cX0_findMissing 6 (some .int), Cond.methodLink RL 75 yX0_complete, Cond.instanceMethod yX0_complete, Cond.selects RX0 yX0_complete yX0_complete, Cond.code yX0_complete cX0_complete 4 (some .int), Cond.methodLink RX0 191 yX0_isComplete, Cond.instanceMethod yX0_isComplete, Cond.selects RX0 yX0_isComplete yX0_isComplete, Cond.code yX0_isComplete cX0_isComplete 4 (some .boolean), Cond.methodLink RL 78 yX0_price, Cond.instanceMethod yX0_price, Cond.selects RX0 yX0_price yX0_price, Cond.code yX0_price cX0_price 4 (some .int), Cond.methodLink RX0 194 yX0_findPrice, Cond.instanceMethod yX0_findPrice, Cond.selects RX0 yX0_findPrice yX0_findPrice, Cond.code yX0_findPrice cX0_findPrice 5 (some .int), Cond.methodLink RX0 208 yX0_sumUpParts, Cond.instanceMethod yX0_sumUpParts]
def wsL_law0_r6 : List Cond := [Cond.selects RX0 yX0_sumUpParts yX0_sumUpParts, Cond.code yX0_sumUpParts cX0_sumUpParts 7 (some .int), Cond.constantLong RX0 211 (100), Cond.constantLong RX0 213 (1000000000), Cond.methodLink RL 81 yX0_changed, Cond.instanceMethod yX0_changed, Cond.selects RX0 yX0_changed yX0_changed, Cond.code yX0_changed cX0_changed 2 (some .int), Cond.methodLink RX0 215 yX0_findChanged, Cond.instanceMethod yX0_findChanged, Cond.selects RX0 yX0_findChanged yX0_findChanged, Cond.code yX0_findChanged cX0_findChanged 4 (some .int), Cond.methodLink RX0 227 yX0_looksChanged, Cond.instanceMethod yX0_looksChanged, Cond.selects RX0 yX0_looksChanged yX0_looksChanged, Cond.code yX0_looksChanged cX0_looksChanged 5 (some .boolean), Cond.methodLink RL 148 yL_isDone, Cond.static yL_isDone, Cond.code yL_isDone cL_isDone 17 (some .boolean), Cond.methodLink RL 124 yL_part, Cond.static yL_part, Cond.code yL_part cL_part 4 (some .int), Cond.constant RL 7 (2147483647), Cond.methodLink RL 128 yL_isTree]
def wsL_law0_r7 : List Cond := [Cond.static yL_isTree, Cond.code yL_isTree cL_isTree 13 (some .boolean), Cond.methodLink RL 102 yL_isIn, Cond.static yL_isIn, Cond.code yL_isIn cL_isIn 3 (some .boolean), Cond.methodLink RL 106 yL_level, Cond.static yL_level, Cond.code yL_level cL_level 4 (some .int), Cond.methodLink RL 110 yL_does, Cond.static yL_does, Cond.codeWith yL_does cL_does 6 (some .int) [(0, 154, 155, 52), (0, 154, 160, 54), (0, 154, 165, 56)], Cond.classLink RL 54 "java/lang/IllegalArgumentException", Cond.methodLink RL 14 yX0_addGood, Cond.instanceMethod yX0_addGood, Cond.selects RX0 yX0_addGood yX0_addGood, Cond.code yX0_addGood cX0_addGood 3 (some .int), Cond.methodLink RX0 60 yX0_checkParent, Cond.instanceMethod yX0_checkParent, Cond.selects RX0 yX0_checkParent yX0_checkParent, Cond.code yX0_checkParent cX0_checkParent 2 none, Cond.methodLink RX0 64 yX0_levelOf, Cond.instanceMethod yX0_levelOf, Cond.selects RX0 yX0_levelOf yX0_levelOf, Cond.code yX0_levelOf cX0_levelOf 5 (some .int)]
def wsL_law0_r8 : List Cond := [Cond.methodLink RL 18 yX0_move, Cond.instanceMethod yX0_move, Cond.selects RX0 yX0_move yX0_move, Cond.code yX0_move cX0_move 4 (some .int), Cond.methodLink RX0 80 yX0_isWithin, Cond.instanceMethod yX0_isWithin, Cond.selects RX0 yX0_isWithin yX0_isWithin, Cond.code yX0_isWithin cX0_isWithin 5 (some .boolean), Cond.methodLink RX0 86 yX0_levelsWithin, Cond.instanceMethod yX0_levelsWithin, Cond.selects RX0 yX0_levelsWithin yX0_levelsWithin, Cond.code yX0_levelsWithin cX0_levelsWithin 4 (some .int), Cond.methodLink RX0 129 Lib.Math.max.name, Cond.static Lib.Math.max.name, Cond.initialized "java/lang/Math", Cond.code Lib.Math.max.name Lib.Math.max.code 2 (some .int), Cond.methodLink RL 22 yL_deletes, Cond.static yL_deletes, Cond.code yL_deletes cL_deletes 2 (some .int), Cond.methodLink RL 8 yX0_delete, Cond.instanceMethod yX0_delete, Cond.selects RX0 yX0_delete yX0_delete, Cond.code yX0_delete cX0_delete 3 none, Cond.methodLink RX0 91 yX0_isParent]
def wsL_law0_r9 : List Cond := [Cond.instanceMethod yX0_isParent, Cond.selects RX0 yX0_isParent yX0_isParent, Cond.code yX0_isParent cX0_isParent 3 (some .boolean), Cond.methodLink RX0 97 yX0_isPart, Cond.instanceMethod yX0_isPart, Cond.selects RX0 yX0_isPart yX0_isPart, Cond.code yX0_isPart cX0_isPart 3 (some .boolean), Cond.methodLink RX0 102 yX0_deleteDraftsOf, Cond.instanceMethod yX0_deleteDraftsOf, Cond.selects RX0 yX0_deleteDraftsOf yX0_deleteDraftsOf, Cond.code yX0_deleteDraftsOf cX0_deleteDraftsOf 3 none, Cond.methodLink RX0 105 yX0_settleHolders, Cond.instanceMethod yX0_settleHolders, Cond.selects RX0 yX0_settleHolders yX0_settleHolders, Cond.code yX0_settleHolders cX0_settleHolders 2 none, Cond.methodLink RX0 172 yX0_putHolder, Cond.instanceMethod yX0_putHolder, Cond.selects RX0 yX0_putHolder yX0_putHolder, Cond.code yX0_putHolder cX0_putHolder 4 none, Cond.methodLink RL 28 yX0_addPart, Cond.instanceMethod yX0_addPart, Cond.selects RX0 yX0_addPart yX0_addPart, Cond.code yX0_addPart cX0_addPart 6 (some .int), Cond.classLink RX0 108 "java/lang/IllegalArgumentException"]
def wsL_law0_r10 : List Cond := [Cond.initialized "java/lang/IllegalArgumentException", Cond.methodLink RL 32 yX0_setDiscount, Cond.instanceMethod yX0_setDiscount, Cond.selects RX0 yX0_setDiscount yX0_setDiscount, Cond.code yX0_setDiscount cX0_setDiscount 4 (some .int), Cond.methodLink RL 35 yX0_approve, Cond.instanceMethod yX0_approve, Cond.selects RX0 yX0_approve yX0_approve, Cond.code yX0_approve cX0_approve 2 (some .boolean), Cond.methodLink RX0 155 yX0_checkDraft, Cond.instanceMethod yX0_checkDraft, Cond.selects RX0 yX0_checkDraft yX0_checkDraft, Cond.code yX0_checkDraft cX0_checkDraft 2 none, Cond.methodLink RX0 160 yX0_holdsAtItsPlace, Cond.instanceMethod yX0_holdsAtItsPlace, Cond.selects RX0 yX0_holdsAtItsPlace yX0_holdsAtItsPlace, Cond.code yX0_holdsAtItsPlace cX0_holdsAtItsPlace 2 (some .boolean), Cond.methodLink RL 39 yX0_reject, Cond.instanceMethod yX0_reject, Cond.selects RX0 yX0_reject yX0_reject, Cond.code yX0_reject cX0_reject 3 (some .boolean), Cond.methodLink RL 42 yX0_pass, Cond.instanceMethod yX0_pass, Cond.selects RX0 yX0_pass yX0_pass]
def wsL_law0_r11 : List Cond := [Cond.code yX0_pass cX0_pass 2 (some .int), Cond.methodLink RL 45 yX0_toggleAsked, Cond.instanceMethod yX0_toggleAsked, Cond.selects RX0 yX0_toggleAsked yX0_toggleAsked, Cond.code yX0_toggleAsked cX0_toggleAsked 4 (some .boolean), Cond.methodLink RL 49 yX0_feed, Cond.instanceMethod yX0_feed, Cond.selects RX0 yX0_feed yX0_feed, Cond.code yX0_feed cX0_feed 4 (some .int), Cond.methodLink RX0 218 yX0_rememberSights, Cond.instanceMethod yX0_rememberSights, Cond.selects RX0 yX0_rememberSights yX0_rememberSights, Cond.code yX0_rememberSights cX0_rememberSights 5 none, Cond.methodLink RX0 222 yJ6_bitCount_0f7a4, Cond.static yJ6_bitCount_0f7a4, Cond.initialized RJ6, Cond.code yJ6_bitCount_0f7a4 cJ6_bitCount_0f7a4 1 (some .int), Cond.constant RJ6 265 (1431655765), Cond.constant RJ6 266 (858993459), Cond.constant RJ6 267 (252645135), Cond.methodLink RL 114 yL_isBelow, Cond.static yL_isBelow, Cond.code yL_isBelow cL_isBelow 4 (some .boolean), Cond.methodLink RL 132 yL_isPart]
def wsL_law0_r12 : List Cond := [Cond.static yL_isPart, Cond.code yL_isPart cL_isPart 14 (some .boolean), Cond.methodLink RL 135 yL_isDraft, Cond.static yL_isDraft, Cond.code yL_isDraft cL_isDraft 17 (some .boolean), Cond.constant RL 118 (100001), Cond.constant RL 119 (100000), Cond.methodLink RL 84 yL_place, Cond.static yL_place, Cond.code yL_place cL_place 4 (some .int), Cond.methodLink RL 120 yL_drafts, Cond.static yL_drafts, Cond.codeWith yL_drafts cL_drafts 8 (some .int) [(0, 13, 14, 52), (0, 13, 19, 54), (0, 13, 24, 56)], Cond.methodLink RL 58 yX0_draft, Cond.instanceMethod yX0_draft, Cond.selects RX0 yX0_draft yX0_draft, Cond.code yX0_draft cX0_draft 8 (some .int), Cond.constant RX0 144 (100000), Cond.methodLink RL 139 yL_isDecided, Cond.static yL_isDecided, Cond.code yL_isDecided cL_isDecided 11 (some .boolean), Cond.methodLink RL 87 yL_holds, Cond.static yL_holds, Cond.code yL_holds cL_holds 7 (some .int)]
def wsL_law0_r13 : List Cond := [Cond.methodLink RL 152 yL_isGood, Cond.static yL_isGood, Cond.code yL_isGood cL_isGood 14 (some .boolean), Cond.methodLink RL 95 yL_origin, Cond.static yL_origin, Cond.code yL_origin cL_origin 10 (some .int)]
def wsL_law0 : List Cond := (wsL_law0_r1 ++ (wsL_law0_r2 ++ (wsL_law0_r3 ++ (wsL_law0_r4 ++ (wsL_law0_r5 ++ (wsL_law0_r6 ++ (wsL_law0_r7 ++ (wsL_law0_r8 ++ (wsL_law0_r9 ++ (wsL_law0_r10 ++ (wsL_law0_r11 ++ (wsL_law0_r12 ++ wsL_law0_r13)))))))))))) ++ wsX00 ++ ([] : List Cond)
def wsL_law : List Cond := wsL_law0 ++ (vx_atS RX0 72 "java/lang/IllegalStateException" ["java/lang/RuntimeException", "java/lang/Exception"]).filter goodWord ++ (vx_atS RX0 126 "java/lang/IndexOutOfBoundsException" ["java/lang/RuntimeException", "java/lang/Exception"]).filter goodWord ++ (vx_atS RX0 112 "java/lang/IllegalArgumentException" ["java/lang/RuntimeException", "java/lang/Exception"]).filter goodWord
theorem in_pos {big : List Cond} (ws : List Cond) (ps : List Nat) (hp : ws = ps.filterMap (fun i => big[i]?)) : ∀ w ∈ ws, w ∈ big := by
  intro w hw
  rw [hp] at hw
  obtain ⟨i, -, hi⟩ := List.mem_filterMap.mp hw
  exact List.mem_of_getElem? hi
theorem mem_app {P : Cond → Prop} {a b : List Cond} (h1 : ∀ w ∈ a, P w) (h2 : ∀ w ∈ b, P w) : ∀ w ∈ a ++ b, P w := fun w h => (List.mem_append.mp h).elim (h1 w) (h2 w)
set_option maxRecDepth 20000 in
theorem in_wsL_law0_r1 : ∀ w ∈ wsL_law0_r1, w ∈ lw_tbl := in_pos _ [36, 37, 27, 94, 38, 39, 40, 41, 42, 43, 93, 44, 45, 46, 47, 48, 49, 50, 51, 52, 53, 54, 55, 56] (by decide +kernel)
set_option maxRecDepth 20000 in
theorem in_wsL_law0_r2 : ∀ w ∈ wsL_law0_r2, w ∈ lw_tbl := in_pos _ [57, 58, 59, 439, 440, 26, 441, 442, 443, 375, 376, 377, 98, 100, 378, 379, 380, 381, 185, 32, 382, 384, 21, 385] (by decide +kernel)
set_option maxRecDepth 20000 in
theorem in_wsL_law0_r3 : ∀ w ∈ wsL_law0_r3, w ∈ lw_tbl := in_pos _ [206, 208, 4, 209, 113, 31, 109, 111, 1, 112, 316, 317, 318, 312, 313, 314, 364, 365, 366, 332, 334, 17, 335, 336] (by decide +kernel)
set_option maxRecDepth 20000 in
theorem in_wsL_law0_r4 : ∀ w ∈ wsL_law0_r4, w ∈ lw_tbl := in_pos _ [338, 18, 339, 340, 342, 19, 343, 344, 345, 346, 253, 255, 12, 256, 387, 388, 389, 390, 391, 392, 393, 394, 395, 396] (by decide +kernel)
set_option maxRecDepth 20000 in
theorem in_wsL_law0_r5 : ∀ w ∈ wsL_law0_r5, w ∈ lw_tbl := in_pos _ [397, 398, 399, 401, 22, 402, 403, 404, 405, 406, 407, 409, 23, 410, 411, 412, 413, 414, 415, 417, 24, 418, 419, 421] (by decide +kernel)
set_option maxRecDepth 20000 in
theorem in_wsL_law0_r6 : ∀ w ∈ wsL_law0_r6, w ∈ lw_tbl := in_pos _ [25, 422, 423, 424, 426, 427, 428, 429, 324, 326, 15, 327, 328, 330, 16, 331, 444, 445, 446, 447, 448, 449, 450, 451] (by decide +kernel)
set_option maxRecDepth 20000 in
theorem in_wsL_law0_r7 : ∀ w ∈ wsL_law0_r7, w ∈ lw_tbl := in_pos _ [452, 453, 454, 455, 456, 457, 458, 459, 95, 96, 97, 99, 101, 102, 103, 104, 105, 107, 0, 108, 181, 183, 3, 184] (by decide +kernel)
set_option maxRecDepth 20000 in
theorem in_wsL_law0_r8 : ∀ w ∈ wsL_law0_r8, w ∈ lw_tbl := in_pos _ [202, 203, 204, 205, 211, 213, 5, 214, 216, 218, 6, 219, 220, 221, 33, 222, 224, 225, 226, 227, 228, 229, 230, 231] (by decide +kernel)
set_option maxRecDepth 20000 in
theorem in_wsL_law0_r9 : ∀ w ∈ wsL_law0_r9, w ∈ lw_tbl := in_pos _ [233, 7, 234, 236, 238, 8, 239, 241, 243, 9, 244, 245, 247, 10, 248, 249, 251, 11, 252, 257, 258, 259, 260, 261] (by decide +kernel)
set_option maxRecDepth 20000 in
theorem in_wsL_law0_r10 : ∀ w ∈ wsL_law0_r10, w ∈ lw_tbl := in_pos _ [34, 279, 280, 281, 282, 284, 285, 286, 287, 288, 290, 13, 291, 294, 296, 14, 297, 298, 299, 300, 301, 303, 304, 305] (by decide +kernel)
set_option maxRecDepth 20000 in
theorem in_wsL_law0_r11 : ∀ w ∈ wsL_law0_r11, w ∈ lw_tbl := in_pos _ [306, 308, 309, 310, 311, 320, 321, 322, 323, 347, 349, 20, 350, 351, 352, 35, 353, 354, 355, 356, 460, 461, 462, 463] (by decide +kernel)
set_option maxRecDepth 20000 in
theorem in_wsL_law0_r12 : ∀ w ∈ wsL_law0_r12, w ∈ lw_tbl := in_pos _ [464, 465, 466, 467, 468, 469, 470, 433, 434, 435, 357, 358, 359, 360, 361, 362, 363, 368, 471, 472, 473, 436, 437, 438] (by decide +kernel)
set_option maxRecDepth 20000 in
theorem in_wsL_law0_r13 : ∀ w ∈ wsL_law0_r13, w ∈ lw_tbl := in_pos _ [372, 373, 374, 430, 431, 432] (by decide +kernel)
set_option maxRecDepth 20000 in
theorem in_wsX00 : ∀ w ∈ wsX00, w ∈ lw_tbl := by decide +kernel
theorem wsL_law_in0 : ∀ w ∈ wsL_law0, w ∈ lw_tbl := mem_app (mem_app (mem_app in_wsL_law0_r1 (mem_app in_wsL_law0_r2 (mem_app in_wsL_law0_r3 (mem_app in_wsL_law0_r4 (mem_app in_wsL_law0_r5 (mem_app in_wsL_law0_r6 (mem_app in_wsL_law0_r7 (mem_app in_wsL_law0_r8 (mem_app in_wsL_law0_r9 (mem_app in_wsL_law0_r10 (mem_app in_wsL_law0_r11 (mem_app in_wsL_law0_r12 (in_wsL_law0_r13))))))))))))) in_wsX00) (fun _ h => absurd h List.not_mem_nil)
theorem wsL_law_x0 : ∀ w ∈ (vx_atS RX0 72 "java/lang/IllegalStateException" ["java/lang/RuntimeException", "java/lang/Exception"]).filter goodWord, w ∈ lw_tbl := by decide +kernel
theorem wsL_law_x1 : ∀ w ∈ (vx_atS RX0 126 "java/lang/IndexOutOfBoundsException" ["java/lang/RuntimeException", "java/lang/Exception"]).filter goodWord, w ∈ lw_tbl := by decide +kernel
theorem wsL_law_x2 : ∀ w ∈ (vx_atS RX0 112 "java/lang/IllegalArgumentException" ["java/lang/RuntimeException", "java/lang/Exception"]).filter goodWord, w ∈ lw_tbl := by decide +kernel
theorem wsL_law_in : ∀ w ∈ wsL_law, w ∈ lw_tbl := fun w h => (List.mem_append.mp h).elim (fun h => (List.mem_append.mp h).elim (fun h => (List.mem_append.mp h).elim (fun h => wsL_law_in0 w h) (fun h => wsL_law_x0 w h)) (fun h => wsL_law_x1 w h)) (fun h => wsL_law_x2 w h)
theorem inlX0 : ∀ w ∈ wsX00, w ∈ wsL_law := fun _ h => List.mem_append_left _ (List.mem_append_left _ (List.mem_append_left _ (List.mem_append_left _ (List.mem_append_right _ h))))
theorem inX0 : ∀ w ∈ wsX00, w ∈ lw_tbl := fun w h => wsL_law_in w (inlX0 w h)
theorem inX1 : ∀ w ∈ wsX10, w ∈ lw_tbl := by decide +kernel
theorem inJ6 : ∀ w ∈ wsJ60, w ∈ lw_tbl := by decide +kernel
theorem inJ9 : ∀ w ∈ wsJ90, w ∈ lw_tbl := by decide +kernel
theorem inJ0 : ∀ w ∈ wsJ00, w ∈ lw_tbl := by decide +kernel
abbrev vwCl : List vw_C := [(RX0, TX0, 16)]
end
section
theorem dX0_init_0 : decode cX0_init 0 = .ok (.aload_n 0, 1) := by decide +kernel
theorem dX0_init_1 : decode cX0_init 1 = .ok (.invokespecial 3, 3) := by decide +kernel
theorem dX0_init_4 : decode cX0_init 4 = .ok (.aload_n 0, 1) := by decide +kernel
theorem dX0_init_5 : decode cX0_init 5 = .ok (.bipush 16, 2) := by decide +kernel
theorem dX0_init_7 : decode cX0_init 7 = .ok (.newarray .boolean, 2) := by decide +kernel
theorem dX0_init_9 : decode cX0_init 9 = .ok (.putfield 9, 3) := by decide +kernel
theorem dX0_init_12 : decode cX0_init 12 = .ok (.aload_n 0, 1) := by decide +kernel
theorem dX0_init_13 : decode cX0_init 13 = .ok (.bipush 16, 2) := by decide +kernel
theorem dX0_init_15 : decode cX0_init 15 = .ok (.newarray .int, 2) := by decide +kernel
theorem dX0_init_17 : decode cX0_init 17 = .ok (.putfield 13, 3) := by decide +kernel
theorem dX0_init_20 : decode cX0_init 20 = .ok (.aload_n 0, 1) := by decide +kernel
theorem dX0_init_21 : decode cX0_init 21 = .ok (.bipush 16, 2) := by decide +kernel
theorem dX0_init_23 : decode cX0_init 23 = .ok (.newarray .int, 2) := by decide +kernel
theorem dX0_init_25 : decode cX0_init 25 = .ok (.putfield 17, 3) := by decide +kernel
theorem dX0_init_28 : decode cX0_init 28 = .ok (.aload_n 0, 1) := by decide +kernel
theorem dX0_init_29 : decode cX0_init 29 = .ok (.sipush 256, 3) := by decide +kernel
theorem dX0_init_32 : decode cX0_init 32 = .ok (.newarray .int, 2) := by decide +kernel
theorem dX0_init_34 : decode cX0_init 34 = .ok (.putfield 20, 3) := by decide +kernel
theorem dX0_init_37 : decode cX0_init 37 = .ok (.aload_n 0, 1) := by decide +kernel
theorem dX0_init_38 : decode cX0_init 38 = .ok (.iconst 0, 1) := by decide +kernel
theorem dX0_init_39 : decode cX0_init 39 = .ok (.putfield 23, 3) := by decide +kernel
theorem dX0_init_42 : decode cX0_init 42 = .ok (.aload_n 0, 1) := by decide +kernel
theorem dX0_init_43 : decode cX0_init 43 = .ok (.sipush 200, 3) := by decide +kernel
theorem dX0_init_46 : decode cX0_init 46 = .ok (.newarray .int, 2) := by decide +kernel
theorem dX0_init_48 : decode cX0_init 48 = .ok (.putfield 27, 3) := by decide +kernel
theorem dX0_init_51 : decode cX0_init 51 = .ok (.aload_n 0, 1) := by decide +kernel
theorem dX0_init_52 : decode cX0_init 52 = .ok (.sipush 200, 3) := by decide +kernel
theorem dX0_init_55 : decode cX0_init 55 = .ok (.newarray .int, 2) := by decide +kernel
theorem dX0_init_57 : decode cX0_init 57 = .ok (.putfield 30, 3) := by decide +kernel
theorem dX0_init_60 : decode cX0_init 60 = .ok (.aload_n 0, 1) := by decide +kernel
theorem dX0_init_61 : decode cX0_init 61 = .ok (.sipush 200, 3) := by decide +kernel
theorem dX0_init_64 : decode cX0_init 64 = .ok (.newarray .int, 2) := by decide +kernel
theorem dX0_init_66 : decode cX0_init 66 = .ok (.putfield 33, 3) := by decide +kernel
theorem dX0_init_69 : decode cX0_init 69 = .ok (.aload_n 0, 1) := by decide +kernel
theorem dX0_init_70 : decode cX0_init 70 = .ok (.sipush 200, 3) := by decide +kernel
theorem dX0_init_73 : decode cX0_init 73 = .ok (.newarray .int, 2) := by decide +kernel
theorem dX0_init_75 : decode cX0_init 75 = .ok (.putfield 36, 3) := by decide +kernel
theorem dX0_init_78 : decode cX0_init 78 = .ok (.aload_n 0, 1) := by decide +kernel
theorem dX0_init_79 : decode cX0_init 79 = .ok (.sipush 200, 3) := by decide +kernel
theorem dX0_init_82 : decode cX0_init 82 = .ok (.newarray .int, 2) := by decide +kernel
theorem dX0_init_84 : decode cX0_init 84 = .ok (.putfield 39, 3) := by decide +kernel
theorem dX0_init_87 : decode cX0_init 87 = .ok (.aload_n 0, 1) := by decide +kernel
theorem dX0_init_88 : decode cX0_init 88 = .ok (.iconst 0, 1) := by decide +kernel
theorem dX0_init_89 : decode cX0_init 89 = .ok (.putfield 42, 3) := by decide +kernel
theorem dX0_init_92 : decode cX0_init 92 = .ok (.aload_n 0, 1) := by decide +kernel
theorem dX0_init_93 : decode cX0_init 93 = .ok (.iconst 0, 1) := by decide +kernel
theorem dX0_init_94 : decode cX0_init 94 = .ok (.putfield 45, 3) := by decide +kernel
theorem dX0_init_97 : decode cX0_init 97 = .ok (.aload_n 0, 1) := by decide +kernel
theorem dX0_init_98 : decode cX0_init 98 = .ok (.sipush 1536, 3) := by decide +kernel
theorem dX0_init_101 : decode cX0_init 101 = .ok (.newarray .int, 2) := by decide +kernel
theorem dX0_init_103 : decode cX0_init 103 = .ok (.putfield 48, 3) := by decide +kernel
theorem dX0_init_106 : decode cX0_init 106 = .ok (.aload_n 0, 1) := by decide +kernel
theorem dX0_init_107 : decode cX0_init 107 = .ok (.bipush 18, 2) := by decide +kernel
theorem dX0_init_109 : decode cX0_init 109 = .ok (.newarray .boolean, 2) := by decide +kernel
theorem dX0_init_111 : decode cX0_init 111 = .ok (.putfield 51, 3) := by decide +kernel
theorem dX0_init_114 : decode cX0_init 114 = .ok (.aload_n 0, 1) := by decide +kernel
theorem dX0_init_115 : decode cX0_init 115 = .ok (.sipush 864, 3) := by decide +kernel
theorem dX0_init_118 : decode cX0_init 118 = .ok (.newarray .int, 2) := by decide +kernel
theorem dX0_init_120 : decode cX0_init 120 = .ok (.putfield 54, 3) := by decide +kernel
theorem dX0_init_123 : decode cX0_init 123 = .ok (.aload_n 0, 1) := by decide +kernel
theorem dX0_init_124 : decode cX0_init 124 = .ok (.bipush 16, 2) := by decide +kernel
theorem dX0_init_126 : decode cX0_init 126 = .ok (.newarray .int, 2) := by decide +kernel
theorem dX0_init_128 : decode cX0_init 128 = .ok (.putfield 57, 3) := by decide +kernel
theorem dX0_init_131 : decode cX0_init 131 = .ok (.iconst 0, 1) := by decide +kernel
theorem dX0_init_132 : decode cX0_init 132 = .ok (.istore_n 1, 1) := by decide +kernel
theorem dX0_init_133 : decode cX0_init 133 = .ok (.iload_n 1, 1) := by decide +kernel
theorem dX0_init_134 : decode cX0_init 134 = .ok (.aload_n 0, 1) := by decide +kernel
theorem dX0_init_135 : decode cX0_init 135 = .ok (.getfield 13, 3) := by decide +kernel
theorem dX0_init_138 : decode cX0_init 138 = .ok (.arraylength, 1) := by decide +kernel
theorem dX0_init_139 : decode cX0_init 139 = .ok (.if_icmp .ge 16, 3) := by decide +kernel
theorem dX0_init_142 : decode cX0_init 142 = .ok (.aload_n 0, 1) := by decide +kernel
theorem dX0_init_143 : decode cX0_init 143 = .ok (.getfield 13, 3) := by decide +kernel
theorem dX0_init_146 : decode cX0_init 146 = .ok (.iload_n 1, 1) := by decide +kernel
theorem dX0_init_147 : decode cX0_init 147 = .ok (.iconst (-1), 1) := by decide +kernel
theorem dX0_init_148 : decode cX0_init 148 = .ok (.iastore, 1) := by decide +kernel
theorem dX0_init_149 : decode cX0_init 149 = .ok (.iinc 1 1, 3) := by decide +kernel
theorem dX0_init_152 : decode cX0_init 152 = .ok (.goto (-19), 3) := by decide +kernel
theorem dX0_init_155 : decode cX0_init 155 = .ok (.iconst 0, 1) := by decide +kernel
theorem dX0_init_156 : decode cX0_init 156 = .ok (.istore_n 1, 1) := by decide +kernel
theorem dX0_init_157 : decode cX0_init 157 = .ok (.iload_n 1, 1) := by decide +kernel
theorem dX0_init_158 : decode cX0_init 158 = .ok (.aload_n 0, 1) := by decide +kernel
theorem dX0_init_159 : decode cX0_init 159 = .ok (.getfield 48, 3) := by decide +kernel
theorem dX0_init_162 : decode cX0_init 162 = .ok (.arraylength, 1) := by decide +kernel
theorem dX0_init_163 : decode cX0_init 163 = .ok (.if_icmp .ge 16, 3) := by decide +kernel
theorem dX0_init_166 : decode cX0_init 166 = .ok (.aload_n 0, 1) := by decide +kernel
theorem dX0_init_167 : decode cX0_init 167 = .ok (.getfield 48, 3) := by decide +kernel
theorem dX0_init_170 : decode cX0_init 170 = .ok (.iload_n 1, 1) := by decide +kernel
theorem dX0_init_171 : decode cX0_init 171 = .ok (.iconst (-1), 1) := by decide +kernel
theorem dX0_init_172 : decode cX0_init 172 = .ok (.iastore, 1) := by decide +kernel
theorem dX0_init_173 : decode cX0_init 173 = .ok (.iinc 1 1, 3) := by decide +kernel
theorem dX0_init_176 : decode cX0_init 176 = .ok (.goto (-19), 3) := by decide +kernel
theorem dX0_init_179 : decode cX0_init 179 = .ok (.iconst 0, 1) := by decide +kernel
theorem dX0_init_180 : decode cX0_init 180 = .ok (.istore_n 1, 1) := by decide +kernel
theorem dX0_init_181 : decode cX0_init 181 = .ok (.iload_n 1, 1) := by decide +kernel
theorem dX0_init_182 : decode cX0_init 182 = .ok (.aload_n 0, 1) := by decide +kernel
theorem dX0_init_183 : decode cX0_init 183 = .ok (.getfield 54, 3) := by decide +kernel
theorem dX0_init_186 : decode cX0_init 186 = .ok (.arraylength, 1) := by decide +kernel
theorem dX0_init_187 : decode cX0_init 187 = .ok (.if_icmp .ge 16, 3) := by decide +kernel
theorem dX0_init_190 : decode cX0_init 190 = .ok (.aload_n 0, 1) := by decide +kernel
theorem dX0_init_191 : decode cX0_init 191 = .ok (.getfield 54, 3) := by decide +kernel
theorem dX0_init_194 : decode cX0_init 194 = .ok (.iload_n 1, 1) := by decide +kernel
theorem dX0_init_195 : decode cX0_init 195 = .ok (.iconst (-1), 1) := by decide +kernel
theorem dX0_init_196 : decode cX0_init 196 = .ok (.iastore, 1) := by decide +kernel
theorem dX0_init_197 : decode cX0_init 197 = .ok (.iinc 1 1, 3) := by decide +kernel
theorem dX0_init_200 : decode cX0_init 200 = .ok (.goto (-19), 3) := by decide +kernel
theorem dX0_init_203 : decode cX0_init 203 = .ok (.return_, 1) := by decide +kernel
theorem dX0_isGood_0 : decode cX0_isGood 0 = .ok (.iload_n 1, 1) := by decide +kernel
theorem dX0_isGood_1 : decode cX0_isGood 1 = .ok (.ifCond .lt 22, 3) := by decide +kernel
theorem dX0_isGood_4 : decode cX0_isGood 4 = .ok (.iload_n 1, 1) := by decide +kernel
theorem dX0_isGood_5 : decode cX0_isGood 5 = .ok (.bipush 16, 2) := by decide +kernel
theorem dX0_isGood_7 : decode cX0_isGood 7 = .ok (.if_icmp .ge 16, 3) := by decide +kernel
theorem dX0_isGood_10 : decode cX0_isGood 10 = .ok (.aload_n 0, 1) := by decide +kernel
theorem dX0_isGood_11 : decode cX0_isGood 11 = .ok (.getfield 9, 3) := by decide +kernel
theorem dX0_isGood_14 : decode cX0_isGood 14 = .ok (.iload_n 1, 1) := by decide +kernel
theorem dX0_isGood_15 : decode cX0_isGood 15 = .ok (.baload, 1) := by decide +kernel
theorem dX0_isGood_16 : decode cX0_isGood 16 = .ok (.ifCond .eq 7, 3) := by decide +kernel
theorem dX0_isGood_19 : decode cX0_isGood 19 = .ok (.iconst 1, 1) := by decide +kernel
theorem dX0_isGood_20 : decode cX0_isGood 20 = .ok (.goto 4, 3) := by decide +kernel
theorem dX0_isGood_23 : decode cX0_isGood 23 = .ok (.iconst 0, 1) := by decide +kernel
theorem dX0_isGood_24 : decode cX0_isGood 24 = .ok (.ireturn, 1) := by decide +kernel
set_option maxRecDepth 20000 in
theorem ggX0_checkGood_X0_isGood : GoodIn wsX0_checkGood wsX0_isGood := goodIn_r _ [7, 8, 9, 10, 11, 12, 13, 14, 15, 16, 17, 18, 19, 20, 21, 22, 23, 24] (by decide +kernel) (by decide +kernel)
set_option maxRecDepth 20000 in
theorem gX0_checkGood_X0_isGood : GoodIn wsX0_checkGood (wsV RX0 119 RX0 yX0_isGood wsX0_isGood) := goodIn_app (goodIn_of _ (by decide +kernel)) ggX0_checkGood_X0_isGood
theorem dX0_checkGood_0 : decode cX0_checkGood 0 = .ok (.aload_n 0, 1) := by decide +kernel
theorem dX0_checkGood_1 : decode cX0_checkGood 1 = .ok (.iload_n 1, 1) := by decide +kernel
theorem dX0_checkGood_2 : decode cX0_checkGood 2 = .ok (.invokevirtual 119, 3) := by decide +kernel
theorem dX0_checkGood_5 : decode cX0_checkGood 5 = .ok (.ifCond .ne 13, 3) := by decide +kernel
theorem dX0_checkGood_8 : decode cX0_checkGood 8 = .ok (.new 122, 3) := by decide +kernel
theorem dX0_checkGood_11 : decode cX0_checkGood 11 = .ok (.dup, 1) := by decide +kernel
theorem dX0_checkGood_12 : decode cX0_checkGood 12 = .ok (.ldc 124, 2) := by decide +kernel
theorem dX0_checkGood_14 : decode cX0_checkGood 14 = .ok (.invokespecial 126, 3) := by decide +kernel
theorem dX0_checkGood_17 : decode cX0_checkGood 17 = .ok (.athrow, 1) := by decide +kernel
theorem dX0_checkGood_18 : decode cX0_checkGood 18 = .ok (.return_, 1) := by decide +kernel
theorem dX0_isEntered_0 : decode cX0_isEntered 0 = .ok (.iload_n 1, 1) := by decide +kernel
theorem dX0_isEntered_1 : decode cX0_isEntered 1 = .ok (.ifCond .lt 15, 3) := by decide +kernel
theorem dX0_isEntered_4 : decode cX0_isEntered 4 = .ok (.iload_n 1, 1) := by decide +kernel
theorem dX0_isEntered_5 : decode cX0_isEntered 5 = .ok (.aload_n 0, 1) := by decide +kernel
theorem dX0_isEntered_6 : decode cX0_isEntered 6 = .ok (.getfield 42, 3) := by decide +kernel
theorem dX0_isEntered_9 : decode cX0_isEntered 9 = .ok (.if_icmp .ge 7, 3) := by decide +kernel
theorem dX0_isEntered_12 : decode cX0_isEntered 12 = .ok (.iconst 1, 1) := by decide +kernel
theorem dX0_isEntered_13 : decode cX0_isEntered 13 = .ok (.goto 4, 3) := by decide +kernel
theorem dX0_isEntered_16 : decode cX0_isEntered 16 = .ok (.iconst 0, 1) := by decide +kernel
theorem dX0_isEntered_17 : decode cX0_isEntered 17 = .ok (.ireturn, 1) := by decide +kernel
theorem dX0_placeOf_0 : decode cX0_placeOf 0 = .ok (.iload_n 0, 1) := by decide +kernel
theorem dX0_placeOf_1 : decode cX0_placeOf 1 = .ok (.bipush 6, 2) := by decide +kernel
theorem dX0_placeOf_3 : decode cX0_placeOf 3 = .ok (.imul, 1) := by decide +kernel
theorem dX0_placeOf_4 : decode cX0_placeOf 4 = .ok (.iload_n 1, 1) := by decide +kernel
theorem dX0_placeOf_5 : decode cX0_placeOf 5 = .ok (.iadd, 1) := by decide +kernel
theorem dX0_placeOf_6 : decode cX0_placeOf 6 = .ok (.istore 4, 2) := by decide +kernel
theorem dX0_placeOf_8 : decode cX0_placeOf 8 = .ok (.iload_n 2, 1) := by decide +kernel
theorem dX0_placeOf_9 : decode cX0_placeOf 9 = .ok (.iconst 1, 1) := by decide +kernel
theorem dX0_placeOf_10 : decode cX0_placeOf 10 = .ok (.iadd, 1) := by decide +kernel
theorem dX0_placeOf_11 : decode cX0_placeOf 11 = .ok (.iconst 4, 1) := by decide +kernel
theorem dX0_placeOf_12 : decode cX0_placeOf 12 = .ok (.imul, 1) := by decide +kernel
theorem dX0_placeOf_13 : decode cX0_placeOf 13 = .ok (.iload_n 3, 1) := by decide +kernel
theorem dX0_placeOf_14 : decode cX0_placeOf 14 = .ok (.iadd, 1) := by decide +kernel
theorem dX0_placeOf_15 : decode cX0_placeOf 15 = .ok (.iconst 1, 1) := by decide +kernel
theorem dX0_placeOf_16 : decode cX0_placeOf 16 = .ok (.iadd, 1) := by decide +kernel
theorem dX0_placeOf_17 : decode cX0_placeOf 17 = .ok (.istore 5, 2) := by decide +kernel
theorem dX0_placeOf_19 : decode cX0_placeOf 19 = .ok (.iload 4, 2) := by decide +kernel
theorem dX0_placeOf_21 : decode cX0_placeOf 21 = .ok (.bipush 16, 2) := by decide +kernel
theorem dX0_placeOf_23 : decode cX0_placeOf 23 = .ok (.imul, 1) := by decide +kernel
theorem dX0_placeOf_24 : decode cX0_placeOf 24 = .ok (.iload 5, 2) := by decide +kernel
theorem dX0_placeOf_26 : decode cX0_placeOf 26 = .ok (.iadd, 1) := by decide +kernel
theorem dX0_placeOf_27 : decode cX0_placeOf 27 = .ok (.ireturn, 1) := by decide +kernel
set_option maxRecDepth 20000 in
theorem ggX0_value_X0_checkSight : GoodIn wsX0_value wsX0_checkSight := goodIn_ca (goodIn_r _ [7, 8, 9, 10, 6, 11, 12, 13, 14, 15, 16, 17, 18, 19, 20, 21, 22, 23, 24, 25, 26, 27, 51, 52, 53, 54, 55, 56, 57, 58, 59, 60, 61, 62, 63, 64, 65, 66] (by decide +kernel) (by decide +kernel)) (goodIn_sub (fun _ h => List.mem_cons_of_mem _ (List.mem_append_right _ h)) (by decide +kernel))
set_option maxRecDepth 20000 in
theorem gX0_value_X0_checkSight : GoodIn wsX0_value (wsV RX0 175 RX0 yX0_checkSight wsX0_checkSight) := goodIn_app (goodIn_of _ (by decide +kernel)) ggX0_value_X0_checkSight
theorem dX0_value_0 : decode cX0_value 0 = .ok (.aload_n 0, 1) := by decide +kernel
theorem dX0_value_1 : decode cX0_value 1 = .ok (.iload_n 1, 1) := by decide +kernel
theorem dX0_value_2 : decode cX0_value 2 = .ok (.iload_n 2, 1) := by decide +kernel
theorem dX0_value_3 : decode cX0_value 3 = .ok (.iload_n 3, 1) := by decide +kernel
theorem dX0_value_4 : decode cX0_value 4 = .ok (.iload 4, 2) := by decide +kernel
theorem dX0_value_6 : decode cX0_value 6 = .ok (.invokevirtual 175, 3) := by decide +kernel
set_option maxRecDepth 20000 in
theorem ggX0_origin_X0_checkSight : GoodIn wsX0_origin wsX0_checkSight := goodIn_ca (goodIn_r _ [5, 6, 7, 8, 4, 9, 10, 11, 12, 13, 14, 15, 16, 17, 18, 19, 20, 21, 22, 23, 24, 25, 39, 40, 41, 42, 43, 44, 45, 46, 47, 48, 49, 50, 51, 52, 53, 54] (by decide +kernel) (by decide +kernel)) (goodIn_sub (fun _ h => List.mem_cons_of_mem _ (List.mem_append_right _ h)) (by decide +kernel))
set_option maxRecDepth 20000 in
theorem gX0_origin_X0_checkSight : GoodIn wsX0_origin (wsV RX0 175 RX0 yX0_checkSight wsX0_checkSight) := goodIn_app (goodIn_of _ (by decide +kernel)) ggX0_origin_X0_checkSight
theorem dX0_origin_0 : decode cX0_origin 0 = .ok (.aload_n 0, 1) := by decide +kernel
theorem dX0_origin_1 : decode cX0_origin 1 = .ok (.iload_n 1, 1) := by decide +kernel
theorem dX0_origin_2 : decode cX0_origin 2 = .ok (.iload_n 2, 1) := by decide +kernel
theorem dX0_origin_3 : decode cX0_origin 3 = .ok (.iload_n 3, 1) := by decide +kernel
theorem dX0_origin_4 : decode cX0_origin 4 = .ok (.iload 4, 2) := by decide +kernel
theorem dX0_origin_6 : decode cX0_origin 6 = .ok (.invokevirtual 175, 3) := by decide +kernel
set_option maxRecDepth 20000 in
theorem ggX0_missing_X0_checkGood : GoodIn wsX0_missing wsX0_checkGood := goodIn_ca (goodIn_r _ [5, 6, 7, 8, 9, 10, 4, 11, 12, 47, 48, 49, 50, 51, 52, 53, 54, 55, 56, 57, 58, 59, 60, 61, 62] (by decide +kernel) (by decide +kernel)) (goodIn_sub (fun _ h => List.mem_cons_of_mem _ (List.mem_append_right _ h)) (by decide +kernel))
set_option maxRecDepth 20000 in
theorem gX0_missing_X0_checkGood : GoodIn wsX0_missing (wsV RX0 77 RX0 yX0_checkGood wsX0_checkGood) := goodIn_app (goodIn_of _ (by decide +kernel)) ggX0_missing_X0_checkGood
set_option maxRecDepth 20000 in
theorem ggX0_missing_X0_checkShop : GoodIn wsX0_missing wsX0_checkShop := goodIn_ca (goodIn_r _ [15, 6, 7] (by decide +kernel) (by decide +kernel)) (goodIn_sub (fun _ h => List.mem_cons_of_mem _ (List.mem_append_right _ h)) (by decide +kernel))
set_option maxRecDepth 20000 in
theorem gX0_missing_X0_checkShop : GoodIn wsX0_missing (va_wsS RX0 138 yX0_checkShop wsX0_checkShop) := goodIn_app (goodIn_of _ (by decide +kernel)) ggX0_missing_X0_checkShop
set_option maxRecDepth 20000 in
theorem ggX0_missing_X0_checkTongue : GoodIn wsX0_missing wsX0_checkTongue := goodIn_ca (goodIn_r _ [18, 6, 7] (by decide +kernel) (by decide +kernel)) (goodIn_sub (fun _ h => List.mem_cons_of_mem _ (List.mem_append_right _ h)) (by decide +kernel))
set_option maxRecDepth 20000 in
theorem gX0_missing_X0_checkTongue : GoodIn wsX0_missing (va_wsS RX0 141 yX0_checkTongue wsX0_checkTongue) := goodIn_app (goodIn_of _ (by decide +kernel)) ggX0_missing_X0_checkTongue
theorem dX0_missing_0 : decode cX0_missing 0 = .ok (.aload_n 0, 1) := by decide +kernel
theorem dX0_missing_1 : decode cX0_missing 1 = .ok (.iload_n 1, 1) := by decide +kernel
theorem dX0_missing_2 : decode cX0_missing 2 = .ok (.invokevirtual 77, 3) := by decide +kernel
theorem dX0_missing_5 : decode cX0_missing 5 = .ok (.iload_n 2, 1) := by decide +kernel
theorem dX0_missing_6 : decode cX0_missing 6 = .ok (.invokestatic 138, 3) := by decide +kernel
theorem dX0_missing_9 : decode cX0_missing 9 = .ok (.iload_n 3, 1) := by decide +kernel
theorem dX0_missing_10 : decode cX0_missing 10 = .ok (.invokestatic 141, 3) := by decide +kernel
set_option maxRecDepth 20000 in
theorem ggX0_complete_X0_checkShop : GoodIn wsX0_complete wsX0_checkShop := goodIn_ca (goodIn_r _ [5, 6, 7] (by decide +kernel) (by decide +kernel)) (goodIn_sub (fun _ h => List.mem_cons_of_mem _ (List.mem_append_right _ h)) (by decide +kernel))
set_option maxRecDepth 20000 in
theorem gX0_complete_X0_checkShop : GoodIn wsX0_complete (va_wsS RX0 138 yX0_checkShop wsX0_checkShop) := goodIn_app (goodIn_of _ (by decide +kernel)) ggX0_complete_X0_checkShop
set_option maxRecDepth 20000 in
theorem ggX0_complete_X0_isComplete : GoodIn wsX0_complete wsX0_isComplete := goodIn_r _ [11, 12, 13, 14, 4, 15, 16, 17, 18, 19, 20, 21, 22, 23, 24, 25, 26, 27, 28, 29, 30, 1, 31, 32, 33, 34, 35, 36, 37, 38, 39, 40, 41, 42, 43, 44, 45, 46, 47, 48, 49, 50, 51, 52, 53, 54, 55, 56, 57, 58, 59] (by decide +kernel) (by decide +kernel)
set_option maxRecDepth 20000 in
theorem gX0_complete_X0_isComplete : GoodIn wsX0_complete (wsV RX0 191 RX0 yX0_isComplete wsX0_isComplete) := goodIn_app (goodIn_of _ (by decide +kernel)) ggX0_complete_X0_isComplete
theorem dX0_complete_0 : decode cX0_complete 0 = .ok (.iload_n 1, 1) := by decide +kernel
theorem dX0_complete_1 : decode cX0_complete 1 = .ok (.invokestatic 138, 3) := by decide +kernel
theorem dX0_complete_4 : decode cX0_complete 4 = .ok (.iconst 0, 1) := by decide +kernel
theorem dX0_complete_5 : decode cX0_complete 5 = .ok (.istore_n 2, 1) := by decide +kernel
theorem dX0_complete_6 : decode cX0_complete 6 = .ok (.iconst 0, 1) := by decide +kernel
theorem dX0_complete_7 : decode cX0_complete 7 = .ok (.istore_n 3, 1) := by decide +kernel
theorem dX0_complete_8 : decode cX0_complete 8 = .ok (.iload_n 3, 1) := by decide +kernel
theorem dX0_complete_9 : decode cX0_complete 9 = .ok (.bipush 16, 2) := by decide +kernel
theorem dX0_complete_11 : decode cX0_complete 11 = .ok (.if_icmp .ge 30, 3) := by decide +kernel
theorem dX0_complete_14 : decode cX0_complete 14 = .ok (.aload_n 0, 1) := by decide +kernel
theorem dX0_complete_15 : decode cX0_complete 15 = .ok (.getfield 9, 3) := by decide +kernel
theorem dX0_complete_18 : decode cX0_complete 18 = .ok (.iload_n 3, 1) := by decide +kernel
theorem dX0_complete_19 : decode cX0_complete 19 = .ok (.baload, 1) := by decide +kernel
theorem dX0_complete_20 : decode cX0_complete 20 = .ok (.ifCond .eq 15, 3) := by decide +kernel
theorem dX0_complete_23 : decode cX0_complete 23 = .ok (.aload_n 0, 1) := by decide +kernel
theorem dX0_complete_24 : decode cX0_complete 24 = .ok (.iload_n 3, 1) := by decide +kernel
theorem dX0_complete_25 : decode cX0_complete 25 = .ok (.iload_n 1, 1) := by decide +kernel
theorem dX0_complete_26 : decode cX0_complete 26 = .ok (.invokevirtual 191, 3) := by decide +kernel
theorem dX0_complete_29 : decode cX0_complete 29 = .ok (.ifCond .eq 6, 3) := by decide +kernel
theorem dX0_complete_32 : decode cX0_complete 32 = .ok (.iinc 2 1, 3) := by decide +kernel
theorem dX0_complete_35 : decode cX0_complete 35 = .ok (.iinc 3 1, 3) := by decide +kernel
theorem dX0_complete_38 : decode cX0_complete 38 = .ok (.goto (-30), 3) := by decide +kernel
theorem dX0_complete_41 : decode cX0_complete 41 = .ok (.iload_n 2, 1) := by decide +kernel
theorem dX0_complete_42 : decode cX0_complete 42 = .ok (.ireturn, 1) := by decide +kernel
set_option maxRecDepth 20000 in
theorem ggX0_price_X0_checkGood : GoodIn wsX0_price wsX0_checkGood := goodIn_ca (goodIn_r _ [7, 8, 9, 10, 11, 12, 6, 13, 14, 54, 55, 56, 57, 58, 59, 60, 61, 62, 63, 64, 65, 66, 67, 68, 69] (by decide +kernel) (by decide +kernel)) (goodIn_sub (fun _ h => List.mem_cons_of_mem _ (List.mem_append_right _ h)) (by decide +kernel))
set_option maxRecDepth 20000 in
theorem gX0_price_X0_checkGood : GoodIn wsX0_price (wsV RX0 77 RX0 yX0_checkGood wsX0_checkGood) := goodIn_app (goodIn_of _ (by decide +kernel)) ggX0_price_X0_checkGood
set_option maxRecDepth 20000 in
theorem ggX0_price_X0_checkShop : GoodIn wsX0_price wsX0_checkShop := goodIn_ca (goodIn_r _ [17, 8, 9] (by decide +kernel) (by decide +kernel)) (goodIn_sub (fun _ h => List.mem_cons_of_mem _ (List.mem_append_right _ h)) (by decide +kernel))
set_option maxRecDepth 20000 in
theorem gX0_price_X0_checkShop : GoodIn wsX0_price (va_wsS RX0 138 yX0_checkShop wsX0_checkShop) := goodIn_app (goodIn_of _ (by decide +kernel)) ggX0_price_X0_checkShop
theorem dX0_price_0 : decode cX0_price 0 = .ok (.aload_n 0, 1) := by decide +kernel
theorem dX0_price_1 : decode cX0_price 1 = .ok (.iload_n 1, 1) := by decide +kernel
theorem dX0_price_2 : decode cX0_price 2 = .ok (.invokevirtual 77, 3) := by decide +kernel
theorem dX0_price_5 : decode cX0_price 5 = .ok (.iload_n 2, 1) := by decide +kernel
theorem dX0_price_6 : decode cX0_price 6 = .ok (.invokestatic 138, 3) := by decide +kernel
theorem dX0_checkAttribute_0 : decode cX0_checkAttribute 0 = .ok (.iload_n 0, 1) := by decide +kernel
theorem dX0_checkAttribute_1 : decode cX0_checkAttribute 1 = .ok (.ifCond .lt 9, 3) := by decide +kernel
theorem dX0_checkAttribute_4 : decode cX0_checkAttribute 4 = .ok (.iload_n 0, 1) := by decide +kernel
theorem dX0_checkAttribute_5 : decode cX0_checkAttribute 5 = .ok (.bipush 6, 2) := by decide +kernel
theorem dX0_checkAttribute_7 : decode cX0_checkAttribute 7 = .ok (.if_icmp .lt 13, 3) := by decide +kernel
theorem dX0_checkAttribute_10 : decode cX0_checkAttribute 10 = .ok (.new 122, 3) := by decide +kernel
theorem dX0_checkAttribute_13 : decode cX0_checkAttribute 13 = .ok (.dup, 1) := by decide +kernel
theorem dX0_checkAttribute_14 : decode cX0_checkAttribute 14 = .ok (.ldc 199, 2) := by decide +kernel
theorem dX0_checkAttribute_16 : decode cX0_checkAttribute 16 = .ok (.invokespecial 126, 3) := by decide +kernel
theorem dX0_checkAttribute_19 : decode cX0_checkAttribute 19 = .ok (.athrow, 1) := by decide +kernel
theorem dX0_checkAttribute_20 : decode cX0_checkAttribute 20 = .ok (.return_, 1) := by decide +kernel
theorem dX0_checkShop_0 : decode cX0_checkShop 0 = .ok (.iload_n 0, 1) := by decide +kernel
theorem dX0_checkShop_1 : decode cX0_checkShop 1 = .ok (.ifCond .lt 8, 3) := by decide +kernel
theorem dX0_checkShop_4 : decode cX0_checkShop 4 = .ok (.iload_n 0, 1) := by decide +kernel
theorem dX0_checkShop_5 : decode cX0_checkShop 5 = .ok (.iconst 3, 1) := by decide +kernel
theorem dX0_checkShop_6 : decode cX0_checkShop 6 = .ok (.if_icmp .lt 13, 3) := by decide +kernel
theorem dX0_checkShop_9 : decode cX0_checkShop 9 = .ok (.new 122, 3) := by decide +kernel
theorem dX0_checkShop_12 : decode cX0_checkShop 12 = .ok (.dup, 1) := by decide +kernel
theorem dX0_checkShop_13 : decode cX0_checkShop 13 = .ok (.ldc 201, 2) := by decide +kernel
theorem dX0_checkShop_15 : decode cX0_checkShop 15 = .ok (.invokespecial 126, 3) := by decide +kernel
theorem dX0_checkShop_18 : decode cX0_checkShop 18 = .ok (.athrow, 1) := by decide +kernel
theorem dX0_checkShop_19 : decode cX0_checkShop 19 = .ok (.return_, 1) := by decide +kernel
theorem dX0_checkTongue_0 : decode cX0_checkTongue 0 = .ok (.iload_n 0, 1) := by decide +kernel
theorem dX0_checkTongue_1 : decode cX0_checkTongue 1 = .ok (.ifCond .lt 8, 3) := by decide +kernel
theorem dX0_checkTongue_4 : decode cX0_checkTongue 4 = .ok (.iload_n 0, 1) := by decide +kernel
theorem dX0_checkTongue_5 : decode cX0_checkTongue 5 = .ok (.iconst 3, 1) := by decide +kernel
theorem dX0_checkTongue_6 : decode cX0_checkTongue 6 = .ok (.if_icmp .lt 13, 3) := by decide +kernel
theorem dX0_checkTongue_9 : decode cX0_checkTongue 9 = .ok (.new 122, 3) := by decide +kernel
theorem dX0_checkTongue_12 : decode cX0_checkTongue 12 = .ok (.dup, 1) := by decide +kernel
theorem dX0_checkTongue_13 : decode cX0_checkTongue 13 = .ok (.ldc 203, 2) := by decide +kernel
theorem dX0_checkTongue_15 : decode cX0_checkTongue 15 = .ok (.invokespecial 126, 3) := by decide +kernel
theorem dX0_checkTongue_18 : decode cX0_checkTongue 18 = .ok (.athrow, 1) := by decide +kernel
theorem dX0_checkTongue_19 : decode cX0_checkTongue 19 = .ok (.return_, 1) := by decide +kernel
set_option maxRecDepth 20000 in
theorem ggX0_checkSight_X0_checkGood : GoodIn wsX0_checkSight wsX0_checkGood := goodIn_ca (goodIn_r _ [5, 6, 7, 8, 9, 10, 4, 11, 12, 22, 23, 24, 25, 26, 27, 28, 29, 30, 31, 32, 33, 34, 35, 36, 37] (by decide +kernel) (by decide +kernel)) (goodIn_sub (fun _ h => List.mem_cons_of_mem _ (List.mem_append_right _ h)) (by decide +kernel))
set_option maxRecDepth 20000 in
theorem gX0_checkSight_X0_checkGood : GoodIn wsX0_checkSight (wsV RX0 77 RX0 yX0_checkGood wsX0_checkGood) := goodIn_app (goodIn_of _ (by decide +kernel)) ggX0_checkSight_X0_checkGood
set_option maxRecDepth 20000 in
theorem ggX0_checkSight_X0_checkAttribute : GoodIn wsX0_checkSight wsX0_checkAttribute := goodIn_ca (goodIn_r _ [15, 6, 7] (by decide +kernel) (by decide +kernel)) (goodIn_sub (fun _ h => List.mem_cons_of_mem _ (List.mem_append_right _ h)) (by decide +kernel))
set_option maxRecDepth 20000 in
theorem gX0_checkSight_X0_checkAttribute : GoodIn wsX0_checkSight (va_wsS RX0 135 yX0_checkAttribute wsX0_checkAttribute) := goodIn_app (goodIn_of _ (by decide +kernel)) ggX0_checkSight_X0_checkAttribute
set_option maxRecDepth 20000 in
theorem ggX0_checkSight_X0_checkShop : GoodIn wsX0_checkSight wsX0_checkShop := goodIn_ca (goodIn_r _ [18, 6, 7] (by decide +kernel) (by decide +kernel)) (goodIn_sub (fun _ h => List.mem_cons_of_mem _ (List.mem_append_right _ h)) (by decide +kernel))
set_option maxRecDepth 20000 in
theorem gX0_checkSight_X0_checkShop : GoodIn wsX0_checkSight (va_wsS RX0 138 yX0_checkShop wsX0_checkShop) := goodIn_app (goodIn_of _ (by decide +kernel)) ggX0_checkSight_X0_checkShop
set_option maxRecDepth 20000 in
theorem ggX0_checkSight_X0_checkTongue : GoodIn wsX0_checkSight wsX0_checkTongue := goodIn_ca (goodIn_r _ [21, 6, 7] (by decide +kernel) (by decide +kernel)) (goodIn_sub (fun _ h => List.mem_cons_of_mem _ (List.mem_append_right _ h)) (by decide +kernel))
set_option maxRecDepth 20000 in
theorem gX0_checkSight_X0_checkTongue : GoodIn wsX0_checkSight (va_wsS RX0 141 yX0_checkTongue wsX0_checkTongue) := goodIn_app (goodIn_of _ (by decide +kernel)) ggX0_checkSight_X0_checkTongue
theorem dX0_checkSight_0 : decode cX0_checkSight 0 = .ok (.aload_n 0, 1) := by decide +kernel
theorem dX0_checkSight_1 : decode cX0_checkSight 1 = .ok (.iload_n 1, 1) := by decide +kernel
theorem dX0_checkSight_2 : decode cX0_checkSight 2 = .ok (.invokevirtual 77, 3) := by decide +kernel
theorem dX0_checkSight_5 : decode cX0_checkSight 5 = .ok (.iload_n 2, 1) := by decide +kernel
theorem dX0_checkSight_6 : decode cX0_checkSight 6 = .ok (.invokestatic 135, 3) := by decide +kernel
theorem dX0_checkSight_9 : decode cX0_checkSight 9 = .ok (.iload_n 3, 1) := by decide +kernel
theorem dX0_checkSight_10 : decode cX0_checkSight 10 = .ok (.invokestatic 138, 3) := by decide +kernel
theorem dX0_checkSight_13 : decode cX0_checkSight 13 = .ok (.iload 4, 2) := by decide +kernel
theorem dX0_checkSight_15 : decode cX0_checkSight 15 = .ok (.invokestatic 141, 3) := by decide +kernel
set_option maxRecDepth 20000 in
theorem ggX0_findValue_X0_findOrigin : GoodIn wsX0_findValue wsX0_findOrigin := goodIn_r _ [6, 7, 8, 9, 10, 5, 11, 12, 13, 14, 15, 16, 17, 18, 19, 20, 26, 27, 28, 29, 30, 31, 32, 33, 34, 35, 36, 37, 38, 39, 40, 41] (by decide +kernel) (by decide +kernel)
set_option maxRecDepth 20000 in
theorem gX0_findValue_X0_findOrigin : GoodIn wsX0_findValue (wsV RX0 184 RX0 yX0_findOrigin wsX0_findOrigin) := goodIn_app (goodIn_of _ (by decide +kernel)) ggX0_findValue_X0_findOrigin
set_option maxRecDepth 20000 in
theorem ggX0_findValue_X0_isEntered : GoodIn wsX0_findValue wsX0_isEntered := goodIn_r _ [24, 25, 26, 27, 28, 29, 30, 31, 32, 33, 34, 35, 36, 37, 38, 39, 40, 41] (by decide +kernel) (by decide +kernel)
set_option maxRecDepth 20000 in
theorem gX0_findValue_X0_isEntered : GoodIn wsX0_findValue (wsV RX0 167 RX0 yX0_isEntered wsX0_isEntered) := goodIn_app (goodIn_of _ (by decide +kernel)) ggX0_findValue_X0_isEntered
theorem dX0_findValue_0 : decode cX0_findValue 0 = .ok (.aload_n 0, 1) := by decide +kernel
theorem dX0_findValue_1 : decode cX0_findValue 1 = .ok (.iload_n 1, 1) := by decide +kernel
theorem dX0_findValue_2 : decode cX0_findValue 2 = .ok (.iload_n 2, 1) := by decide +kernel
theorem dX0_findValue_3 : decode cX0_findValue 3 = .ok (.iload_n 3, 1) := by decide +kernel
theorem dX0_findValue_4 : decode cX0_findValue 4 = .ok (.iload 4, 2) := by decide +kernel
theorem dX0_findValue_6 : decode cX0_findValue 6 = .ok (.invokevirtual 184, 3) := by decide +kernel
theorem dX0_findValue_9 : decode cX0_findValue 9 = .ok (.istore 5, 2) := by decide +kernel
theorem dX0_findValue_11 : decode cX0_findValue 11 = .ok (.aload_n 0, 1) := by decide +kernel
theorem dX0_findValue_12 : decode cX0_findValue 12 = .ok (.iload 5, 2) := by decide +kernel
theorem dX0_findValue_14 : decode cX0_findValue 14 = .ok (.invokevirtual 167, 3) := by decide +kernel
theorem dX0_findValue_17 : decode cX0_findValue 17 = .ok (.ifCond .eq 13, 3) := by decide +kernel
theorem dX0_findValue_20 : decode cX0_findValue 20 = .ok (.aload_n 0, 1) := by decide +kernel
theorem dX0_findValue_21 : decode cX0_findValue 21 = .ok (.getfield 33, 3) := by decide +kernel
theorem dX0_findValue_24 : decode cX0_findValue 24 = .ok (.iload 5, 2) := by decide +kernel
theorem dX0_findValue_26 : decode cX0_findValue 26 = .ok (.iaload, 1) := by decide +kernel
theorem dX0_findValue_27 : decode cX0_findValue 27 = .ok (.goto 4, 3) := by decide +kernel
theorem dX0_findValue_30 : decode cX0_findValue 30 = .ok (.iconst (-1), 1) := by decide +kernel
theorem dX0_findValue_31 : decode cX0_findValue 31 = .ok (.ireturn, 1) := by decide +kernel
set_option maxRecDepth 20000 in
theorem ggX0_findOrigin_X0_isGood : GoodIn wsX0_findOrigin wsX0_isGood := goodIn_r _ [6, 7, 16, 17, 18, 19, 20, 21, 22, 23, 24, 25, 26, 27, 28, 29, 30, 31] (by decide +kernel) (by decide +kernel)
set_option maxRecDepth 20000 in
theorem gX0_findOrigin_X0_isGood : GoodIn wsX0_findOrigin (wsV RX0 119 RX0 yX0_isGood wsX0_isGood) := goodIn_app (goodIn_of _ (by decide +kernel)) ggX0_findOrigin_X0_isGood
set_option maxRecDepth 20000 in
theorem ggX0_findOrigin_X0_findOwnOrigin : GoodIn wsX0_findOrigin wsX0_findOwnOrigin := goodIn_r _ [11, 12, 13, 14, 5, 15, 16, 17, 18, 19, 20, 21, 22, 23, 24, 25, 26, 27, 28, 29, 30, 31] (by decide +kernel) (by decide +kernel)
set_option maxRecDepth 20000 in
theorem gX0_findOrigin_X0_findOwnOrigin : GoodIn wsX0_findOrigin (wsV RX0 205 RX0 yX0_findOwnOrigin wsX0_findOwnOrigin) := goodIn_app (goodIn_of _ (by decide +kernel)) ggX0_findOrigin_X0_findOwnOrigin
theorem dX0_findOrigin_0 : decode cX0_findOrigin 0 = .ok (.iload_n 1, 1) := by decide +kernel
theorem dX0_findOrigin_1 : decode cX0_findOrigin 1 = .ok (.istore 5, 2) := by decide +kernel
theorem dX0_findOrigin_3 : decode cX0_findOrigin 3 = .ok (.iconst 0, 1) := by decide +kernel
theorem dX0_findOrigin_4 : decode cX0_findOrigin 4 = .ok (.istore 6, 2) := by decide +kernel
theorem dX0_findOrigin_6 : decode cX0_findOrigin 6 = .ok (.iload 6, 2) := by decide +kernel
theorem dX0_findOrigin_8 : decode cX0_findOrigin 8 = .ok (.iconst 3, 1) := by decide +kernel
theorem dX0_findOrigin_9 : decode cX0_findOrigin 9 = .ok (.if_icmp .ge 48, 3) := by decide +kernel
theorem dX0_findOrigin_12 : decode cX0_findOrigin 12 = .ok (.aload_n 0, 1) := by decide +kernel
theorem dX0_findOrigin_13 : decode cX0_findOrigin 13 = .ok (.iload 5, 2) := by decide +kernel
theorem dX0_findOrigin_15 : decode cX0_findOrigin 15 = .ok (.invokevirtual 119, 3) := by decide +kernel
theorem dX0_findOrigin_18 : decode cX0_findOrigin 18 = .ok (.ifCond .eq 39, 3) := by decide +kernel
theorem dX0_findOrigin_21 : decode cX0_findOrigin 21 = .ok (.aload_n 0, 1) := by decide +kernel
theorem dX0_findOrigin_22 : decode cX0_findOrigin 22 = .ok (.iload 5, 2) := by decide +kernel
theorem dX0_findOrigin_24 : decode cX0_findOrigin 24 = .ok (.iload_n 2, 1) := by decide +kernel
theorem dX0_findOrigin_25 : decode cX0_findOrigin 25 = .ok (.iload_n 3, 1) := by decide +kernel
theorem dX0_findOrigin_26 : decode cX0_findOrigin 26 = .ok (.iload 4, 2) := by decide +kernel
theorem dX0_findOrigin_28 : decode cX0_findOrigin 28 = .ok (.invokevirtual 205, 3) := by decide +kernel
theorem dX0_findOrigin_31 : decode cX0_findOrigin 31 = .ok (.istore 7, 2) := by decide +kernel
theorem dX0_findOrigin_33 : decode cX0_findOrigin 33 = .ok (.iload 7, 2) := by decide +kernel
theorem dX0_findOrigin_35 : decode cX0_findOrigin 35 = .ok (.iconst (-1), 1) := by decide +kernel
theorem dX0_findOrigin_36 : decode cX0_findOrigin 36 = .ok (.if_icmp .eq 6, 3) := by decide +kernel
theorem dX0_findOrigin_39 : decode cX0_findOrigin 39 = .ok (.iload 7, 2) := by decide +kernel
theorem dX0_findOrigin_41 : decode cX0_findOrigin 41 = .ok (.ireturn, 1) := by decide +kernel
theorem dX0_findOrigin_42 : decode cX0_findOrigin 42 = .ok (.aload_n 0, 1) := by decide +kernel
theorem dX0_findOrigin_43 : decode cX0_findOrigin 43 = .ok (.getfield 13, 3) := by decide +kernel
theorem dX0_findOrigin_46 : decode cX0_findOrigin 46 = .ok (.iload 5, 2) := by decide +kernel
theorem dX0_findOrigin_48 : decode cX0_findOrigin 48 = .ok (.iaload, 1) := by decide +kernel
theorem dX0_findOrigin_49 : decode cX0_findOrigin 49 = .ok (.istore 5, 2) := by decide +kernel
theorem dX0_findOrigin_51 : decode cX0_findOrigin 51 = .ok (.iinc 6 1, 3) := by decide +kernel
theorem dX0_findOrigin_54 : decode cX0_findOrigin 54 = .ok (.goto (-48), 3) := by decide +kernel
theorem dX0_findOrigin_57 : decode cX0_findOrigin 57 = .ok (.iconst (-1), 1) := by decide +kernel
theorem dX0_findOrigin_58 : decode cX0_findOrigin 58 = .ok (.ireturn, 1) := by decide +kernel
set_option maxRecDepth 20000 in
theorem ggX0_findOwnOrigin_X0_placeOf : GoodIn wsX0_findOwnOrigin wsX0_placeOf := goodIn_r _ [5] (by decide +kernel) (by decide +kernel)
set_option maxRecDepth 20000 in
theorem gX0_findOwnOrigin_X0_placeOf : GoodIn wsX0_findOwnOrigin (va_wsS RX0 151 yX0_placeOf wsX0_placeOf) := goodIn_app (goodIn_of _ (by decide +kernel)) ggX0_findOwnOrigin_X0_placeOf
theorem dX0_findOwnOrigin_0 : decode cX0_findOwnOrigin 0 = .ok (.aload_n 0, 1) := by decide +kernel
theorem dX0_findOwnOrigin_1 : decode cX0_findOwnOrigin 1 = .ok (.getfield 48, 3) := by decide +kernel
theorem dX0_findOwnOrigin_4 : decode cX0_findOwnOrigin 4 = .ok (.iload_n 1, 1) := by decide +kernel
theorem dX0_findOwnOrigin_5 : decode cX0_findOwnOrigin 5 = .ok (.iload_n 2, 1) := by decide +kernel
theorem dX0_findOwnOrigin_6 : decode cX0_findOwnOrigin 6 = .ok (.iload_n 3, 1) := by decide +kernel
theorem dX0_findOwnOrigin_7 : decode cX0_findOwnOrigin 7 = .ok (.iload 4, 2) := by decide +kernel
theorem dX0_findOwnOrigin_9 : decode cX0_findOwnOrigin 9 = .ok (.invokestatic 151, 3) := by decide +kernel
theorem dX0_findOwnOrigin_12 : decode cX0_findOwnOrigin 12 = .ok (.iaload, 1) := by decide +kernel
theorem dX0_findOwnOrigin_13 : decode cX0_findOwnOrigin 13 = .ok (.istore 5, 2) := by decide +kernel
theorem dX0_findOwnOrigin_15 : decode cX0_findOwnOrigin 15 = .ok (.iload 5, 2) := by decide +kernel
theorem dX0_findOwnOrigin_17 : decode cX0_findOwnOrigin 17 = .ok (.iconst (-1), 1) := by decide +kernel
theorem dX0_findOwnOrigin_18 : decode cX0_findOwnOrigin 18 = .ok (.if_icmp .ne 17, 3) := by decide +kernel
theorem dX0_findOwnOrigin_21 : decode cX0_findOwnOrigin 21 = .ok (.aload_n 0, 1) := by decide +kernel
theorem dX0_findOwnOrigin_22 : decode cX0_findOwnOrigin 22 = .ok (.getfield 48, 3) := by decide +kernel
theorem dX0_findOwnOrigin_25 : decode cX0_findOwnOrigin 25 = .ok (.iload_n 1, 1) := by decide +kernel
theorem dX0_findOwnOrigin_26 : decode cX0_findOwnOrigin 26 = .ok (.iload_n 2, 1) := by decide +kernel
theorem dX0_findOwnOrigin_27 : decode cX0_findOwnOrigin 27 = .ok (.iload_n 3, 1) := by decide +kernel
theorem dX0_findOwnOrigin_28 : decode cX0_findOwnOrigin 28 = .ok (.iconst (-1), 1) := by decide +kernel
theorem dX0_findOwnOrigin_29 : decode cX0_findOwnOrigin 29 = .ok (.invokestatic 151, 3) := by decide +kernel
theorem dX0_findOwnOrigin_32 : decode cX0_findOwnOrigin 32 = .ok (.iaload, 1) := by decide +kernel
theorem dX0_findOwnOrigin_33 : decode cX0_findOwnOrigin 33 = .ok (.istore 5, 2) := by decide +kernel
theorem dX0_findOwnOrigin_35 : decode cX0_findOwnOrigin 35 = .ok (.iload 5, 2) := by decide +kernel
theorem dX0_findOwnOrigin_37 : decode cX0_findOwnOrigin 37 = .ok (.iconst (-1), 1) := by decide +kernel
theorem dX0_findOwnOrigin_38 : decode cX0_findOwnOrigin 38 = .ok (.if_icmp .ne 18, 3) := by decide +kernel
theorem dX0_findOwnOrigin_41 : decode cX0_findOwnOrigin 41 = .ok (.aload_n 0, 1) := by decide +kernel
theorem dX0_findOwnOrigin_42 : decode cX0_findOwnOrigin 42 = .ok (.getfield 48, 3) := by decide +kernel
theorem dX0_findOwnOrigin_45 : decode cX0_findOwnOrigin 45 = .ok (.iload_n 1, 1) := by decide +kernel
theorem dX0_findOwnOrigin_46 : decode cX0_findOwnOrigin 46 = .ok (.iload_n 2, 1) := by decide +kernel
theorem dX0_findOwnOrigin_47 : decode cX0_findOwnOrigin 47 = .ok (.iconst (-1), 1) := by decide +kernel
theorem dX0_findOwnOrigin_48 : decode cX0_findOwnOrigin 48 = .ok (.iload 4, 2) := by decide +kernel
theorem dX0_findOwnOrigin_50 : decode cX0_findOwnOrigin 50 = .ok (.invokestatic 151, 3) := by decide +kernel
theorem dX0_findOwnOrigin_53 : decode cX0_findOwnOrigin 53 = .ok (.iaload, 1) := by decide +kernel
theorem dX0_findOwnOrigin_54 : decode cX0_findOwnOrigin 54 = .ok (.istore 5, 2) := by decide +kernel
theorem dX0_findOwnOrigin_56 : decode cX0_findOwnOrigin 56 = .ok (.iload 5, 2) := by decide +kernel
theorem dX0_findOwnOrigin_58 : decode cX0_findOwnOrigin 58 = .ok (.iconst (-1), 1) := by decide +kernel
theorem dX0_findOwnOrigin_59 : decode cX0_findOwnOrigin 59 = .ok (.if_icmp .ne 17, 3) := by decide +kernel
theorem dX0_findOwnOrigin_62 : decode cX0_findOwnOrigin 62 = .ok (.aload_n 0, 1) := by decide +kernel
theorem dX0_findOwnOrigin_63 : decode cX0_findOwnOrigin 63 = .ok (.getfield 48, 3) := by decide +kernel
theorem dX0_findOwnOrigin_66 : decode cX0_findOwnOrigin 66 = .ok (.iload_n 1, 1) := by decide +kernel
theorem dX0_findOwnOrigin_67 : decode cX0_findOwnOrigin 67 = .ok (.iload_n 2, 1) := by decide +kernel
theorem dX0_findOwnOrigin_68 : decode cX0_findOwnOrigin 68 = .ok (.iconst (-1), 1) := by decide +kernel
theorem dX0_findOwnOrigin_69 : decode cX0_findOwnOrigin 69 = .ok (.iconst (-1), 1) := by decide +kernel
theorem dX0_findOwnOrigin_70 : decode cX0_findOwnOrigin 70 = .ok (.invokestatic 151, 3) := by decide +kernel
theorem dX0_findOwnOrigin_73 : decode cX0_findOwnOrigin 73 = .ok (.iaload, 1) := by decide +kernel
theorem dX0_findOwnOrigin_74 : decode cX0_findOwnOrigin 74 = .ok (.istore 5, 2) := by decide +kernel
theorem dX0_findOwnOrigin_76 : decode cX0_findOwnOrigin 76 = .ok (.iload 5, 2) := by decide +kernel
theorem dX0_findOwnOrigin_78 : decode cX0_findOwnOrigin 78 = .ok (.ireturn, 1) := by decide +kernel
set_option maxRecDepth 20000 in
theorem ggX0_findMissing_X0_findValue : GoodIn wsX0_findMissing wsX0_findValue := goodIn_r _ [6, 7, 8, 9, 10, 5, 11, 12, 13, 14, 15, 16, 17, 18, 19, 20, 21, 22, 23, 24, 25, 26, 27, 28, 29, 30, 31, 32, 33, 34, 35, 36, 37, 38, 39, 40, 41, 42, 43, 44, 45, 46] (by decide +kernel) (by decide +kernel)
set_option maxRecDepth 20000 in
theorem gX0_findMissing_X0_findValue : GoodIn wsX0_findMissing (wsV RX0 179 RX0 yX0_findValue wsX0_findValue) := goodIn_app (goodIn_of _ (by decide +kernel)) ggX0_findMissing_X0_findValue
theorem dX0_findMissing_0 : decode cX0_findMissing 0 = .ok (.iconst 0, 1) := by decide +kernel
theorem dX0_findMissing_1 : decode cX0_findMissing 1 = .ok (.istore 4, 2) := by decide +kernel
theorem dX0_findMissing_3 : decode cX0_findMissing 3 = .ok (.iconst 0, 1) := by decide +kernel
theorem dX0_findMissing_4 : decode cX0_findMissing 4 = .ok (.istore 5, 2) := by decide +kernel
theorem dX0_findMissing_6 : decode cX0_findMissing 6 = .ok (.iload 5, 2) := by decide +kernel
theorem dX0_findMissing_8 : decode cX0_findMissing 8 = .ok (.bipush 6, 2) := by decide +kernel
theorem dX0_findMissing_10 : decode cX0_findMissing 10 = .ok (.if_icmp .ge 46, 3) := by decide +kernel
theorem dX0_findMissing_13 : decode cX0_findMissing 13 = .ok (.aload_n 0, 1) := by decide +kernel
theorem dX0_findMissing_14 : decode cX0_findMissing 14 = .ok (.getfield 51, 3) := by decide +kernel
theorem dX0_findMissing_17 : decode cX0_findMissing 17 = .ok (.iload_n 2, 1) := by decide +kernel
theorem dX0_findMissing_18 : decode cX0_findMissing 18 = .ok (.bipush 6, 2) := by decide +kernel
theorem dX0_findMissing_20 : decode cX0_findMissing 20 = .ok (.imul, 1) := by decide +kernel
theorem dX0_findMissing_21 : decode cX0_findMissing 21 = .ok (.iload 5, 2) := by decide +kernel
theorem dX0_findMissing_23 : decode cX0_findMissing 23 = .ok (.iadd, 1) := by decide +kernel
theorem dX0_findMissing_24 : decode cX0_findMissing 24 = .ok (.baload, 1) := by decide +kernel
theorem dX0_findMissing_25 : decode cX0_findMissing 25 = .ok (.ifCond .eq 25, 3) := by decide +kernel
theorem dX0_findMissing_28 : decode cX0_findMissing 28 = .ok (.aload_n 0, 1) := by decide +kernel
theorem dX0_findMissing_29 : decode cX0_findMissing 29 = .ok (.iload_n 1, 1) := by decide +kernel
theorem dX0_findMissing_30 : decode cX0_findMissing 30 = .ok (.iload 5, 2) := by decide +kernel
theorem dX0_findMissing_32 : decode cX0_findMissing 32 = .ok (.iload_n 2, 1) := by decide +kernel
theorem dX0_findMissing_33 : decode cX0_findMissing 33 = .ok (.iload_n 3, 1) := by decide +kernel
theorem dX0_findMissing_34 : decode cX0_findMissing 34 = .ok (.invokevirtual 179, 3) := by decide +kernel
theorem dX0_findMissing_37 : decode cX0_findMissing 37 = .ok (.iconst (-1), 1) := by decide +kernel
theorem dX0_findMissing_38 : decode cX0_findMissing 38 = .ok (.if_icmp .ne 12, 3) := by decide +kernel
theorem dX0_findMissing_41 : decode cX0_findMissing 41 = .ok (.iload 4, 2) := by decide +kernel
theorem dX0_findMissing_43 : decode cX0_findMissing 43 = .ok (.iconst 1, 1) := by decide +kernel
theorem dX0_findMissing_44 : decode cX0_findMissing 44 = .ok (.iload 5, 2) := by decide +kernel
theorem dX0_findMissing_46 : decode cX0_findMissing 46 = .ok (.ishl, 1) := by decide +kernel
theorem dX0_findMissing_47 : decode cX0_findMissing 47 = .ok (.ior, 1) := by decide +kernel
theorem dX0_findMissing_48 : decode cX0_findMissing 48 = .ok (.istore 4, 2) := by decide +kernel
theorem dX0_findMissing_50 : decode cX0_findMissing 50 = .ok (.iinc 5 1, 3) := by decide +kernel
theorem dX0_findMissing_53 : decode cX0_findMissing 53 = .ok (.goto (-47), 3) := by decide +kernel
theorem dX0_findMissing_56 : decode cX0_findMissing 56 = .ok (.iload 4, 2) := by decide +kernel
theorem dX0_findMissing_58 : decode cX0_findMissing 58 = .ok (.ireturn, 1) := by decide +kernel
set_option maxRecDepth 20000 in
theorem ggX0_isComplete_X0_findMissing : GoodIn wsX0_isComplete wsX0_findMissing := goodIn_r _ [5, 6, 7, 8, 9, 4, 10, 11, 12, 13, 14, 15, 16, 17, 18, 19, 20, 21, 22, 23, 24, 25, 26, 27, 28, 29, 30, 31, 32, 33, 34, 35, 36, 37, 38, 39, 40, 41, 42, 43, 44, 45, 46, 47, 48, 49, 50] (by decide +kernel) (by decide +kernel)
set_option maxRecDepth 20000 in
theorem gX0_isComplete_X0_findMissing : GoodIn wsX0_isComplete (wsV RX0 187 RX0 yX0_findMissing wsX0_findMissing) := goodIn_app (goodIn_of _ (by decide +kernel)) ggX0_isComplete_X0_findMissing
theorem dX0_isComplete_0 : decode cX0_isComplete 0 = .ok (.iconst 0, 1) := by decide +kernel
theorem dX0_isComplete_1 : decode cX0_isComplete 1 = .ok (.istore_n 3, 1) := by decide +kernel
theorem dX0_isComplete_2 : decode cX0_isComplete 2 = .ok (.iload_n 3, 1) := by decide +kernel
theorem dX0_isComplete_3 : decode cX0_isComplete 3 = .ok (.iconst 3, 1) := by decide +kernel
theorem dX0_isComplete_4 : decode cX0_isComplete 4 = .ok (.if_icmp .ge 21, 3) := by decide +kernel
theorem dX0_isComplete_7 : decode cX0_isComplete 7 = .ok (.aload_n 0, 1) := by decide +kernel
theorem dX0_isComplete_8 : decode cX0_isComplete 8 = .ok (.iload_n 1, 1) := by decide +kernel
theorem dX0_isComplete_9 : decode cX0_isComplete 9 = .ok (.iload_n 2, 1) := by decide +kernel
theorem dX0_isComplete_10 : decode cX0_isComplete 10 = .ok (.iload_n 3, 1) := by decide +kernel
theorem dX0_isComplete_11 : decode cX0_isComplete 11 = .ok (.invokevirtual 187, 3) := by decide +kernel
theorem dX0_isComplete_14 : decode cX0_isComplete 14 = .ok (.ifCond .eq 5, 3) := by decide +kernel
theorem dX0_isComplete_17 : decode cX0_isComplete 17 = .ok (.iconst 0, 1) := by decide +kernel
theorem dX0_isComplete_18 : decode cX0_isComplete 18 = .ok (.ireturn, 1) := by decide +kernel
theorem dX0_isComplete_19 : decode cX0_isComplete 19 = .ok (.iinc 3 1, 3) := by decide +kernel
theorem dX0_isComplete_22 : decode cX0_isComplete 22 = .ok (.goto (-20), 3) := by decide +kernel
theorem dX0_isComplete_25 : decode cX0_isComplete 25 = .ok (.iconst 1, 1) := by decide +kernel
theorem dX0_isComplete_26 : decode cX0_isComplete 26 = .ok (.ireturn, 1) := by decide +kernel
set_option maxRecDepth 20000 in
theorem ggX0_changed_X0_checkShop : GoodIn wsX0_changed wsX0_checkShop := goodIn_ca (goodIn_r _ [4, 5, 6] (by decide +kernel) (by decide +kernel)) (goodIn_sub (fun _ h => List.mem_cons_of_mem _ (List.mem_append_right _ h)) (by decide +kernel))
set_option maxRecDepth 20000 in
theorem gX0_changed_X0_checkShop : GoodIn wsX0_changed (va_wsS RX0 138 yX0_checkShop wsX0_checkShop) := goodIn_app (goodIn_of _ (by decide +kernel)) ggX0_changed_X0_checkShop
set_option maxRecDepth 20000 in
theorem ggX0_changed_X0_findChanged : GoodIn wsX0_changed wsX0_findChanged := goodIn_r _ [10, 11, 12, 13, 3, 14, 15, 16, 17, 18, 19, 20, 21, 22, 23, 24, 25, 26, 27, 28, 29, 30, 31, 32, 33, 34, 35, 36, 37, 38, 39, 40, 41, 42, 43, 44, 45, 46, 47, 48, 49, 50, 51, 52, 53, 54, 55, 56, 57, 58, 59] (by decide +kernel) (by decide +kernel)
set_option maxRecDepth 20000 in
theorem gX0_changed_X0_findChanged : GoodIn wsX0_changed (wsV RX0 215 RX0 yX0_findChanged wsX0_findChanged) := goodIn_app (goodIn_of _ (by decide +kernel)) ggX0_changed_X0_findChanged
theorem dX0_changed_0 : decode cX0_changed 0 = .ok (.iload_n 1, 1) := by decide +kernel
theorem dX0_changed_1 : decode cX0_changed 1 = .ok (.invokestatic 138, 3) := by decide +kernel
theorem dX0_changed_4 : decode cX0_changed 4 = .ok (.aload_n 0, 1) := by decide +kernel
theorem dX0_changed_5 : decode cX0_changed 5 = .ok (.iload_n 1, 1) := by decide +kernel
theorem dX0_changed_6 : decode cX0_changed 6 = .ok (.invokevirtual 215, 3) := by decide +kernel
theorem dX0_changed_9 : decode cX0_changed 9 = .ok (.ireturn, 1) := by decide +kernel
set_option maxRecDepth 20000 in
theorem ggX0_feed_X0_checkShop : GoodIn wsX0_feed wsX0_checkShop := goodIn_ca (goodIn_r _ [4, 5, 6] (by decide +kernel) (by decide +kernel)) (goodIn_sub (fun _ h => List.mem_cons_of_mem _ (List.mem_append_right _ h)) (by decide +kernel))
set_option maxRecDepth 20000 in
theorem gX0_feed_X0_checkShop : GoodIn wsX0_feed (va_wsS RX0 138 yX0_checkShop wsX0_checkShop) := goodIn_app (goodIn_of _ (by decide +kernel)) ggX0_feed_X0_checkShop
theorem dX0_feed_0 : decode cX0_feed 0 = .ok (.iload_n 1, 1) := by decide +kernel
theorem dX0_feed_1 : decode cX0_feed 1 = .ok (.invokestatic 138, 3) := by decide +kernel
set_option maxRecDepth 20000 in
theorem ggX0_findChanged_X0_looksChanged : GoodIn wsX0_findChanged wsX0_looksChanged := goodIn_r _ [5, 6, 7, 8, 9, 4, 10, 11, 12, 13, 14, 15, 16, 17, 18, 19, 20, 21, 22, 23, 24, 25, 26, 27, 28, 29, 30, 31, 32, 33, 34, 35, 36, 37, 38, 39, 40, 41, 42, 43, 44, 45, 46, 47, 48, 49, 50] (by decide +kernel) (by decide +kernel)
set_option maxRecDepth 20000 in
theorem gX0_findChanged_X0_looksChanged : GoodIn wsX0_findChanged (wsV RX0 227 RX0 yX0_looksChanged wsX0_looksChanged) := goodIn_app (goodIn_of _ (by decide +kernel)) ggX0_findChanged_X0_looksChanged
theorem dX0_findChanged_0 : decode cX0_findChanged 0 = .ok (.iconst 0, 1) := by decide +kernel
theorem dX0_findChanged_1 : decode cX0_findChanged 1 = .ok (.istore_n 2, 1) := by decide +kernel
theorem dX0_findChanged_2 : decode cX0_findChanged 2 = .ok (.iconst 0, 1) := by decide +kernel
theorem dX0_findChanged_3 : decode cX0_findChanged 3 = .ok (.istore_n 3, 1) := by decide +kernel
theorem dX0_findChanged_4 : decode cX0_findChanged 4 = .ok (.iload_n 3, 1) := by decide +kernel
theorem dX0_findChanged_5 : decode cX0_findChanged 5 = .ok (.bipush 16, 2) := by decide +kernel
theorem dX0_findChanged_7 : decode cX0_findChanged 7 = .ok (.if_icmp .ge 24, 3) := by decide +kernel
theorem dX0_findChanged_10 : decode cX0_findChanged 10 = .ok (.aload_n 0, 1) := by decide +kernel
theorem dX0_findChanged_11 : decode cX0_findChanged 11 = .ok (.iload_n 3, 1) := by decide +kernel
theorem dX0_findChanged_12 : decode cX0_findChanged 12 = .ok (.iload_n 1, 1) := by decide +kernel
theorem dX0_findChanged_13 : decode cX0_findChanged 13 = .ok (.invokevirtual 227, 3) := by decide +kernel
theorem dX0_findChanged_16 : decode cX0_findChanged 16 = .ok (.ifCond .eq 9, 3) := by decide +kernel
theorem dX0_findChanged_19 : decode cX0_findChanged 19 = .ok (.iload_n 2, 1) := by decide +kernel
theorem dX0_findChanged_20 : decode cX0_findChanged 20 = .ok (.iconst 1, 1) := by decide +kernel
theorem dX0_findChanged_21 : decode cX0_findChanged 21 = .ok (.iload_n 3, 1) := by decide +kernel
theorem dX0_findChanged_22 : decode cX0_findChanged 22 = .ok (.ishl, 1) := by decide +kernel
theorem dX0_findChanged_23 : decode cX0_findChanged 23 = .ok (.ior, 1) := by decide +kernel
theorem dX0_findChanged_24 : decode cX0_findChanged 24 = .ok (.istore_n 2, 1) := by decide +kernel
theorem dX0_findChanged_25 : decode cX0_findChanged 25 = .ok (.iinc 3 1, 3) := by decide +kernel
theorem dX0_findChanged_28 : decode cX0_findChanged 28 = .ok (.goto (-24), 3) := by decide +kernel
theorem dX0_findChanged_31 : decode cX0_findChanged 31 = .ok (.iload_n 2, 1) := by decide +kernel
theorem dX0_findChanged_32 : decode cX0_findChanged 32 = .ok (.ireturn, 1) := by decide +kernel
set_option maxRecDepth 20000 in
theorem ggX0_looksChanged_X0_findValue : GoodIn wsX0_looksChanged wsX0_findValue := goodIn_r _ [6, 7, 8, 9, 10, 5, 11, 12, 13, 14, 15, 16, 17, 18, 19, 20, 21, 22, 23, 24, 25, 26, 27, 28, 29, 30, 31, 32, 33, 34, 35, 36, 37, 38, 39, 40, 41, 42, 43, 44, 45, 46] (by decide +kernel) (by decide +kernel)
set_option maxRecDepth 20000 in
theorem gX0_looksChanged_X0_findValue : GoodIn wsX0_looksChanged (wsV RX0 179 RX0 yX0_findValue wsX0_findValue) := goodIn_app (goodIn_of _ (by decide +kernel)) ggX0_looksChanged_X0_findValue
theorem dX0_looksChanged_0 : decode cX0_looksChanged 0 = .ok (.iload_n 2, 1) := by decide +kernel
theorem dX0_looksChanged_1 : decode cX0_looksChanged 1 = .ok (.sipush 288, 3) := by decide +kernel
theorem dX0_looksChanged_4 : decode cX0_looksChanged 4 = .ok (.imul, 1) := by decide +kernel
theorem dX0_looksChanged_5 : decode cX0_looksChanged 5 = .ok (.iload_n 1, 1) := by decide +kernel
theorem dX0_looksChanged_6 : decode cX0_looksChanged 6 = .ok (.bipush 18, 2) := by decide +kernel
theorem dX0_looksChanged_8 : decode cX0_looksChanged 8 = .ok (.imul, 1) := by decide +kernel
theorem dX0_looksChanged_9 : decode cX0_looksChanged 9 = .ok (.iadd, 1) := by decide +kernel
theorem dX0_looksChanged_10 : decode cX0_looksChanged 10 = .ok (.istore_n 3, 1) := by decide +kernel
theorem dX0_looksChanged_11 : decode cX0_looksChanged 11 = .ok (.iconst 0, 1) := by decide +kernel
theorem dX0_looksChanged_12 : decode cX0_looksChanged 12 = .ok (.istore 4, 2) := by decide +kernel
theorem dX0_looksChanged_14 : decode cX0_looksChanged 14 = .ok (.iload 4, 2) := by decide +kernel
theorem dX0_looksChanged_16 : decode cX0_looksChanged 16 = .ok (.bipush 18, 2) := by decide +kernel
theorem dX0_looksChanged_18 : decode cX0_looksChanged 18 = .ok (.if_icmp .ge 37, 3) := by decide +kernel
theorem dX0_looksChanged_21 : decode cX0_looksChanged 21 = .ok (.aload_n 0, 1) := by decide +kernel
theorem dX0_looksChanged_22 : decode cX0_looksChanged 22 = .ok (.getfield 54, 3) := by decide +kernel
theorem dX0_looksChanged_25 : decode cX0_looksChanged 25 = .ok (.iload_n 3, 1) := by decide +kernel
theorem dX0_looksChanged_26 : decode cX0_looksChanged 26 = .ok (.iload 4, 2) := by decide +kernel
theorem dX0_looksChanged_28 : decode cX0_looksChanged 28 = .ok (.iadd, 1) := by decide +kernel
theorem dX0_looksChanged_29 : decode cX0_looksChanged 29 = .ok (.iaload, 1) := by decide +kernel
theorem dX0_looksChanged_30 : decode cX0_looksChanged 30 = .ok (.aload_n 0, 1) := by decide +kernel
theorem dX0_looksChanged_31 : decode cX0_looksChanged 31 = .ok (.iload_n 1, 1) := by decide +kernel
theorem dX0_looksChanged_32 : decode cX0_looksChanged 32 = .ok (.iload 4, 2) := by decide +kernel
theorem dX0_looksChanged_34 : decode cX0_looksChanged 34 = .ok (.iconst 3, 1) := by decide +kernel
theorem dX0_looksChanged_35 : decode cX0_looksChanged 35 = .ok (.idiv, 1) := by decide +kernel
theorem dX0_looksChanged_36 : decode cX0_looksChanged 36 = .ok (.iload_n 2, 1) := by decide +kernel
theorem dX0_looksChanged_37 : decode cX0_looksChanged 37 = .ok (.iload 4, 2) := by decide +kernel
theorem dX0_looksChanged_39 : decode cX0_looksChanged 39 = .ok (.iconst 3, 1) := by decide +kernel
theorem dX0_looksChanged_40 : decode cX0_looksChanged 40 = .ok (.irem, 1) := by decide +kernel
theorem dX0_looksChanged_41 : decode cX0_looksChanged 41 = .ok (.invokevirtual 179, 3) := by decide +kernel
theorem dX0_looksChanged_44 : decode cX0_looksChanged 44 = .ok (.if_icmp .eq 5, 3) := by decide +kernel
theorem dX0_looksChanged_47 : decode cX0_looksChanged 47 = .ok (.iconst 1, 1) := by decide +kernel
theorem dX0_looksChanged_48 : decode cX0_looksChanged 48 = .ok (.ireturn, 1) := by decide +kernel
theorem dX0_looksChanged_49 : decode cX0_looksChanged 49 = .ok (.iinc 4 1, 3) := by decide +kernel
theorem dX0_looksChanged_52 : decode cX0_looksChanged 52 = .ok (.goto (-38), 3) := by decide +kernel
theorem dX0_looksChanged_55 : decode cX0_looksChanged 55 = .ok (.iconst 0, 1) := by decide +kernel
theorem dX0_looksChanged_56 : decode cX0_looksChanged 56 = .ok (.ireturn, 1) := by decide +kernel
end
section
/-! values of the two pictures: a truth value, a number or none, a whole number -/
def bI (b : Bool) : Int32 := if b = true then 1 else 0
def oI (o : Option Nat) : Int32 := match o with
  | none => -1
  | some n => nI n
def oL (o : Option Nat) : Int64 := match o with
  | none => -1
  | some n => lN n
def zI (z : Int) : Int32 := Int32.ofInt z
theorem ba_rng (x : Int32) : -2147483648 ≤ x.toInt ∧ x.toInt < 2147483648 := by
  have h1 := Int32.le_toInt x
  have h2 := Int32.toInt_lt x
  omega
theorem ba_bmod {z : Int} (h1 : -2147483648 ≤ z) (h2 : z < 2147483648) : z.bmod (2 ^ 32) = z := by
  rw [Int.bmod_eq_of_le (by omega) (by omega)]
theorem zI_toInt {z : Int} (h1 : -2147483648 ≤ z) (h2 : z < 2147483648) : (zI z).toInt = z := by
  unfold zI
  rw [Int32.toInt_ofInt, ba_bmod h1 h2]
theorem nz (n : Nat) : nI n = zI (n : Int) := by
  unfold nI zI
  first | rfl | exact (Int32.ofInt_eq_ofNat).symm | simp
theorem zI_add (a b : Int) : zI a + zI b = zI (a + b) := by
  unfold zI
  exact (Int32.ofInt_add a b).symm
theorem zI_sub (a b : Int) : zI a - zI b = zI (a - b) := by
  unfold zI
  exact (Int32.ofInt_sub a b).symm
theorem zI_lt {a b : Int} (ha : -2147483648 ≤ a ∧ a < 2147483648) (hb : -2147483648 ≤ b ∧ b < 2147483648) : zI a < zI b ↔ a < b := by
  rw [Int32.lt_iff_toInt_lt, zI_toInt ha.1 ha.2, zI_toInt hb.1 hb.2]
theorem zI_le {a b : Int} (ha : -2147483648 ≤ a ∧ a < 2147483648) (hb : -2147483648 ≤ b ∧ b < 2147483648) : zI a ≤ zI b ↔ a ≤ b := by
  rw [Int32.le_iff_toInt_le, zI_toInt ha.1 ha.2, zI_toInt hb.1 hb.2]
theorem zI_eq {a b : Int} (ha : -2147483648 ≤ a ∧ a < 2147483648) (hb : -2147483648 ≤ b ∧ b < 2147483648) : zI a = zI b ↔ a = b := by
  rw [← Int32.toInt_inj, zI_toInt ha.1 ha.2, zI_toInt hb.1 hb.2]
theorem zm1 : (-1 : Int32) = zI (-1) := by decide
theorem i1_n (a : Nat) : nI a + Int32.ofInt 1 = nI (a + 1) := nI_1 a
theorem i1_z (a : Int) : zI a + Int32.ofInt 1 = zI (a + 1) := zI_add a 1
theorem oI_none : oI none = -1 := rfl
theorem oI_some (n : Nat) : oI (some n) = nI n := rfl
theorem nI_nm1 {k : Nat} (h : k < 2 ^ 31) : nI k ≠ -1 := fun e => by
  have h1 := nI_toInt h
  rw [e] at h1
  have h2 : ((-1 : Int32)).toInt = -1 := by decide
  omega
theorem oI_m1 {o : Option Nat} (h : ∀ k, o = some k → k < 2 ^ 31) : oI o = -1 ↔ o = none := by
  cases o with
  | none => exact ⟨fun _ => rfl, fun _ => rfl⟩
  | some k => exact ⟨fun e => absurd e (nI_nm1 (h k rfl)), fun e => by cases e⟩
theorem oI_inj {a b : Option Nat} (ha : ∀ k, a = some k → k < 2 ^ 31) (hb : ∀ k, b = some k → k < 2 ^ 31) : oI a = oI b ↔ a = b := by
  cases a with
  | none => exact ⟨fun e => ((oI_m1 hb).mp e.symm).symm, fun e => by rw [e]⟩
  | some k =>
    cases b with
    | none => exact ⟨fun e => absurd e (nI_nm1 (ha k rfl)), fun e => by cases e⟩
    | some j => exact ⟨fun e => by rw [(nI_eq (ha k rfl) (hb j rfl)).mp e], fun e => by rw [e]⟩
theorem bI_0 {b : Bool} : bI b = 0 ↔ b = false := by cases b <;> decide
theorem bI_n0 {b : Bool} : ¬ bI b = 0 ↔ b = true := by cases b <;> decide
theorem bI_and (b : Bool) : bI b &&& 1 = bI b := by cases b <;> decide
theorem nar_bI (b : Bool) : narrow .boolean (.int (bI b)) = .int (bI b) := by
  show Value.int (bI b &&& 1) = .int (bI b)
  rw [bI_and]
theorem vpn_bI (b : Bool) : vp_nar .boolean (bI b) = bI b := bI_and b
theorem oL_m1 {o : Option Nat} (h : ∀ k, o = some k → k < 2 ^ 62) : oL o = -1 ↔ o = none := by
  cases o with
  | none => exact ⟨fun _ => rfl, fun _ => rfl⟩
  | some k =>
    refine ⟨fun e => ?_, fun e => by cases e⟩
    have h1 := pk_lT (n := k) (Nat.lt_trans (h k rfl) (by decide))
    have h3 : oL (some k) = lN k := rfl
    rw [h3] at e
    rw [e] at h1
    have h2 : ((-1 : Int64)).toInt = -1 := by decide
    omega
theorem va_D_re {A : Nat → Prop} {w w' : va_W} (h : va_D A w) (e : w'.map Prod.fst = w.map Prod.fst) : va_D A w' := by
  have key : ∀ (i : Nat) (q : Nat × va_E), w'[i]? = some q → ∃ q' : Nat × va_E, w[i]? = some q' ∧ q'.1 = q.1 := by
    intro i q hq
    have h1 : (w'.map Prod.fst)[i]? = some q.1 := by rw [List.getElem?_map, hq]; rfl
    rw [e, List.getElem?_map] at h1
    cases hw : w[i]? with
    | none => rw [hw] at h1; cases h1
    | some q' => rw [hw] at h1; exact ⟨q', rfl, Option.some.inj h1⟩
  refine ⟨fun i j x y hx hy hxy => ?_, fun k q hk => ?_⟩
  · obtain ⟨x', hx', ex⟩ := key i x hx
    obtain ⟨y', hy', ey⟩ := key j y hy
    exact h.1 i j x' y' hx' hy' (by rw [ex, ey]; exact hxy)
  · obtain ⟨q', hq', eq'⟩ := key k q hk
    rw [← eq']
    exact h.2 k q' hq'
/-- a method that only reads: its start, its end -/
def pP (D : va_G) (w : va_W) (ty : List (ClassId × FieldType)) (av : List Value) : Array Value → State → Prop := va_Pc av (fun U => va_P D vwCl w U.heap ∧ va_K D vwCl ty U)
theorem pP_blind {D : va_G} {w : va_W} {ty : List (ClassId × FieldType)} {av : List Value} : FrameBlind (pP D w ty av) := fun a U g mk q => by
  obtain ⟨q0, qP, qK⟩ := q
  exact ⟨q0, qP, va_K.moved (u := U) (U := U.calling g mk a) (Vm.Alike.refl U.vm) qK⟩
theorem pP_pre {D : va_G} {w : va_W} {ty : List (ClassId × FieldType)} {av : List Value} {s : State} {H : Heap} (hP : va_P D vwCl w H) (hK : va_K D vwCl ty s) : ∀ U : State, U.heap = H → s.WarmedH U.vm → pP D w ty av av.toArray U :=
  fun U hU hW => ⟨rfl, by rw [hU]; exact hP, va_K.moved hW.alike hK⟩
def pQ (v : Option Value) : Array Value → State → Outcome → State → Prop := fun _ st o t => o = .returned v ∧ t.heap = st.heap
def nF : Addr → Prop := fun _ => False
section HB
variable {p : Program} {l : Launch} {e : Env} {R : Room} {s : State} {m : MethodId} {args : Array Value} {below : List Frame} {meth : Method} {c : Code} {H H0 : Heap} {locs : List Loc} {cells slots : Nat} {Q : State → Prop} {cc : ByteArray} {pc : Nat} {ls : Array Slot} {rest st0 : List Value} {D : va_G} {cl : List vw_C} {tys : List (ClassId × FieldType)} {ws : va_W} {a : Nat} {A : Nat → Prop}
theorem q_top {x y : Int32} (h : x = y) (k : W p l e R s m args below meth c H locs cells slots Q (F0 m pc ls (.int y :: rest))) : W p l e R s m args below meth c H locs cells slots Q (F0 m pc ls (.int x :: rest)) := by
  rw [h]; exact k
theorem q_topL {x y : Int64} (h : x = y) (k : W p l e R s m args below meth c H locs cells slots Q (F0 m pc ls (.long y :: rest))) : W p l e R s m args below meth c H locs cells slots Q (F0 m pc ls (.long x :: rest)) := by
  rw [h]; exact k
theorem q_top2 {x y : Int32} {v : Value} (h : x = y) (k : W p l e R s m args below meth c H locs cells slots Q (F0 m pc ls (v :: .int y :: rest))) : W p l e R s m args below meth c H locs cells slots Q (F0 m pc ls (v :: .int x :: rest)) := by
  rw [h]; exact k
/-- the end of a method that only reads -/
theorem q_retI {v r : Int32} (hx : p.tables.exec = Jvm.exec) (hb : c.code = cc) (hr : meth.sig.returnType = some .int) (hlocks : meth.locks = false) (hv : v = r) (hdg : decode cc pc = .ok (.ireturn, 1)) :
    W p l e R s m args below meth c s.heap [] 0 0 (MQ below (pQ (some (.int r))) args s 0 0 nF) (F0 m pc ls [.int v]) := by
  subst hv
  exact W.iret (v := v) hx hb hr (fun t ht hW => ⟨rfl, ht⟩) (fun z hz => by cases hz) hdg hlocks
theorem q_retZ {v : Int32} {r : Bool} (hx : p.tables.exec = Jvm.exec) (hb : c.code = cc) (hr : meth.sig.returnType = some .boolean) (hlocks : meth.locks = false) (hv : v = bI r) (hdg : decode cc pc = .ok (.ireturn, 1)) :
    W p l e R s m args below meth c s.heap [] 0 0 (MQ below (pQ (some (.int (bI r)))) args s 0 0 nF) (F0 m pc ls [.int v]) := by
  subst hv
  exact W.zret (v := bI r) (ty := .boolean) hx hb hr (nar_bI r) (fun t ht hW => ⟨rfl, ht⟩) (fun z hz => by cases hz) hdg hlocks
theorem q_retV (hx : p.tables.exec = Jvm.exec) (hb : c.code = cc) (hr : meth.sig.returnType = none) (hlocks : meth.locks = false) (hdg : decode cc pc = .ok (.return_, 1)) :
    W p l e R s m args below meth c s.heap [] 0 0 (MQ below (pQ none) args s 0 0 nF) (F0 m pc ls []) :=
  W.vret hx hb hr (fun t ht hW => ⟨rfl, ht⟩) (fun z hz => by cases hz) hdg hlocks
/-- a call of a method that only reads -/
theorem q_call {v : Option Value} {av : Array Value} (hr : va_Run p l e R s m args below meth c H locs cells slots 0 0 (F0 m pc ls st0) rest (pQ v av) nF)
    (kk : W p l e R s m args below meth c H locs cells slots Q (F0 m (pc + 3) ls (v.toList ++ rest))) : W p l e R s m args below meth c H locs cells slots Q (F0 m pc ls st0) := by
  intro T hT X
  obtain ⟨v', st₀, t, T', L, h0, X', hL, e1, e2, ⟨hv, hp⟩, st⟩ := hr T hT X
  cases hv
  have hL0 : L = [] := by
    cases L with
    | nil => rfl
    | cons z r => exact absurd (hL z List.mem_cons_self) (fun q => q)
  subst hL0
  rw [List.append_nil] at X'
  obtain ⟨t2, a1, b1⟩ := kk T' (by rw [e1, hp, h0]) X'
  exact ⟨t2, st t2 a1, b1⟩
/-- arrays, typed -/
theorem q_ald {α : Type} (g : α → Int32) (f : Nat → α) (hx : p.tables.exec = Jvm.exec) (hb : c.code = cc) (hK : va_K D cl tys s) (hP : va_P D cl ws H) (q0 t0 : Nat) {cA : ClassId} {n : Nat} (ha : ws[q0]? = some (a, .inl (cA, n, .inl (fun j => g (f j))))) (ht : tys[t0]? = some (cA, .int)) {k : Nat} (hk : k < n) (hn : n < 2 ^ 31) (hdg : decode cc pc = .ok (.iaload, 1))
    (kk : W p l e R s m args below meth c H locs cells slots Q (F0 m (pc + 1) ls (.int (g (f k)) :: rest))) : W p l e R s m args below meth c H locs cells slots Q (F0 m pc ls (.int (nI k) :: .ref a :: rest)) := by
  refine va_iald hx hb hK hP q0 t0 ha ht (vp_in_nI hk hn) hdg ?_
  rw [nI_clamp (Nat.lt_trans hk hn)]
  exact kk
theorem q_zld (f : Nat → Bool) (hx : p.tables.exec = Jvm.exec) (hb : c.code = cc) (hK : va_K D cl tys s) (hP : va_P D cl ws H) (q0 t0 : Nat) {cA : ClassId} {n : Nat} (ha : ws[q0]? = some (a, .inl (cA, n, .inl (fun j => bI (f j))))) (ht : tys[t0]? = some (cA, .boolean)) {k : Nat} (hk : k < n) (hn : n < 2 ^ 31) (hdg : decode cc pc = .ok (.baload, 1))
    (kk : W p l e R s m args below meth c H locs cells slots Q (F0 m (pc + 1) ls (.int (bI (f k)) :: rest))) : W p l e R s m args below meth c H locs cells slots Q (F0 m pc ls (.int (nI k) :: .ref a :: rest)) := by
  refine va_zald hx hb hK hP q0 t0 ha ht (vp_in_nI hk hn) hdg ?_
  rw [nI_clamp (Nat.lt_trans hk hn)]
  exact kk
theorem q_lld (f : Nat → Option Nat) (hx : p.tables.exec = Jvm.exec) (hb : c.code = cc) (hK : va_K D cl tys s) (hP : va_P D cl ws H) (q0 t0 : Nat) {cA : ClassId} {n : Nat} (ha : ws[q0]? = some (a, .inl (cA, n, .inr (.inl (fun j => oL (f j)))))) (ht : tys[t0]? = some (cA, .long)) {k : Nat} (hk : k < n) (hn : n < 2 ^ 31) (hdg : decode cc pc = .ok (.laload, 1))
    (kk : W p l e R s m args below meth c H locs cells slots Q (F0 m (pc + 1) ls (.long (oL (f k)) :: rest))) : W p l e R s m args below meth c H locs cells slots Q (F0 m pc ls (.int (nI k) :: .ref a :: rest)) := by
  refine va_lald hx hb hK hP q0 t0 ha ht (vp_in_nI hk hn) hdg ?_
  rw [nI_clamp (Nat.lt_trans hk hn)]
  exact kk
theorem q_ast {α : Type} (g : α → Int32) (f : Nat → α) (x : α) (hx : p.tables.exec = Jvm.exec) (hb : c.code = cc) (hK : va_K D cl tys s) (hP : va_P D cl ws H) (hD : va_D A ws) (hS : va_S A H0 H locs) (q0 t0 : Nat) {cA : ClassId} {n : Nat} (ha : ws[q0]? = some (a, .inl (cA, n, .inl (fun j => g (f j))))) (ht : tys[t0]? = some (cA, .int)) {k : Nat} (hk : k < n) (hn : n < 2 ^ 31) (hdg : decode cc pc = .ok (.iastore, 1))
    (kk : ∀ (H1 : Heap) (locs1 : List Loc), va_P D cl (ws.set q0 (a, .inl (cA, n, .inl (fun j => g (va_up f k x j))))) H1 → va_D A (ws.set q0 (a, .inl (cA, n, .inl (fun j => g (va_up f k x j))))) → va_S A H0 H1 locs1 → W p l e R s m args below meth c H1 locs1 cells slots Q (F0 m (pc + 1) ls rest)) : W p l e R s m args below meth c H locs cells slots Q (F0 m pc ls (.int (g x) :: .int (nI k) :: .ref a :: rest)) := by
  have e0 : upd (fun j => g (f j)) (nI k).toNatClampNeg (g x) = fun j => g (va_up f k x j) := by
    rw [nI_clamp (Nat.lt_trans hk hn)]
    funext j
    by_cases hj : j = k
    · simp [upd, va_up, hj]
    · simp [upd, va_up, hj]
  refine va_iast hx hb hK hP hD hS q0 t0 ha ht (vp_in_nI hk hn) hdg fun H1 locs1 h1 h2 h3 => ?_
  rw [e0] at h1 h2
  exact kk H1 locs1 h1 h2 h3
theorem q_zst (f : Nat → Bool) (x : Bool) (hx : p.tables.exec = Jvm.exec) (hb : c.code = cc) (hK : va_K D cl tys s) (hP : va_P D cl ws H) (hD : va_D A ws) (hS : va_S A H0 H locs) (q0 t0 : Nat) {cA : ClassId} {n : Nat} (ha : ws[q0]? = some (a, .inl (cA, n, .inl (fun j => bI (f j))))) (ht : tys[t0]? = some (cA, .boolean)) {k : Nat} (hk : k < n) (hn : n < 2 ^ 31) (hdg : decode cc pc = .ok (.bastore, 1))
    (kk : ∀ (H1 : Heap) (locs1 : List Loc), va_P D cl (ws.set q0 (a, .inl (cA, n, .inl (fun j => bI (va_up f k x j))))) H1 → va_D A (ws.set q0 (a, .inl (cA, n, .inl (fun j => bI (va_up f k x j))))) → va_S A H0 H1 locs1 → W p l e R s m args below meth c H1 locs1 cells slots Q (F0 m (pc + 1) ls rest)) : W p l e R s m args below meth c H locs cells slots Q (F0 m pc ls (.int (bI x) :: .int (nI k) :: .ref a :: rest)) := by
  have e0 : upd (fun j => bI (f j)) (nI k).toNatClampNeg (vp_nar .boolean (bI x)) = fun j => bI (va_up f k x j) := by
    rw [nI_clamp (Nat.lt_trans hk hn), vpn_bI]
    funext j
    by_cases hj : j = k
    · simp [upd, va_up, hj]
    · simp [upd, va_up, hj]
  refine va_zast hx hb hK hP hD hS q0 t0 ha ht (vp_in_nI hk hn) hdg fun H1 locs1 h1 h2 h3 => ?_
  rw [e0] at h1 h2
  exact kk H1 locs1 h1 h2 h3
theorem q_lst (f : Nat → Option Nat) (x : Option Nat) (hx : p.tables.exec = Jvm.exec) (hb : c.code = cc) (hK : va_K D cl tys s) (hP : va_P D cl ws H) (hD : va_D A ws) (hS : va_S A H0 H locs) (q0 t0 : Nat) {cA : ClassId} {n : Nat} (ha : ws[q0]? = some (a, .inl (cA, n, .inr (.inl (fun j => oL (f j)))))) (ht : tys[t0]? = some (cA, .long)) {k : Nat} (hk : k < n) (hn : n < 2 ^ 31) (hdg : decode cc pc = .ok (.lastore, 1))
    (kk : ∀ (H1 : Heap) (locs1 : List Loc), va_P D cl (ws.set q0 (a, .inl (cA, n, .inr (.inl (fun j => oL (va_up f k x j)))))) H1 → va_D A (ws.set q0 (a, .inl (cA, n, .inr (.inl (fun j => oL (va_up f k x j)))))) → va_S A H0 H1 locs1 → W p l e R s m args below meth c H1 locs1 cells slots Q (F0 m (pc + 1) ls rest)) : W p l e R s m args below meth c H locs cells slots Q (F0 m pc ls (.long (oL x) :: .int (nI k) :: .ref a :: rest)) := by
  have e0 : vp_updL (fun j => oL (f j)) (nI k).toNatClampNeg (oL x) = fun j => oL (va_up f k x j) := by
    rw [nI_clamp (Nat.lt_trans hk hn)]
    funext j
    by_cases hj : j = k
    · simp [vp_updL, va_up, hj]
    · simp [vp_updL, va_up, hj]
  refine va_last hx hb hK hP hD hS q0 t0 ha ht (vp_in_nI hk hn) hdg fun H1 locs1 h1 h2 h3 => ?_
  rw [e0] at h1 h2
  exact kk H1 locs1 h1 h2 h3
theorem q_icmpN_eq {a b : Nat} {off : Int} {tgt : Nat} (ha : a < 2 ^ 31) (hb' : b < 2 ^ 31) (hx : p.tables.exec = Jvm.exec) (hb : c.code = cc) (hdg : decode cc pc = .ok (.if_icmp .eq off, 3)) (ht : (pc : Int) + off = (tgt : Int))
    (kt : a = b → W p l e R s m args below meth c H locs cells slots Q (F0 m tgt ls rest)) (kf : a ≠ b → W p l e R s m args below meth c H locs cells slots Q (F0 m (pc + 3) ls rest)) : W p l e R s m args below meth c H locs cells slots Q (F0 m pc ls (.int (nI b) :: .int (nI a) :: rest)) :=
  lv_icmp_eq hx hb hdg ht (fun c => kt ((nI_eq ha hb').mp c)) (fun c => kf (fun e => c ((nI_eq ha hb').mpr e)))
theorem q_icmpN_ne {a b : Nat} {off : Int} {tgt : Nat} (ha : a < 2 ^ 31) (hb' : b < 2 ^ 31) (hx : p.tables.exec = Jvm.exec) (hb : c.code = cc) (hdg : decode cc pc = .ok (.if_icmp .ne off, 3)) (ht : (pc : Int) + off = (tgt : Int))
    (kt : a ≠ b → W p l e R s m args below meth c H locs cells slots Q (F0 m tgt ls rest)) (kf : a = b → W p l e R s m args below meth c H locs cells slots Q (F0 m (pc + 3) ls rest)) : W p l e R s m args below meth c H locs cells slots Q (F0 m pc ls (.int (nI b) :: .int (nI a) :: rest)) :=
  lv_icmp_ne hx hb hdg ht (fun c => kt (fun e => c ((nI_eq ha hb').mpr e))) (fun c => kf ((nI_eq ha hb').mp c))
theorem q_icmpN_lt {a b : Nat} {off : Int} {tgt : Nat} (ha : a < 2 ^ 31) (hb' : b < 2 ^ 31) (hx : p.tables.exec = Jvm.exec) (hb : c.code = cc) (hdg : decode cc pc = .ok (.if_icmp .lt off, 3)) (ht : (pc : Int) + off = (tgt : Int))
    (kt : a < b → W p l e R s m args below meth c H locs cells slots Q (F0 m tgt ls rest)) (kf : b ≤ a → W p l e R s m args below meth c H locs cells slots Q (F0 m (pc + 3) ls rest)) : W p l e R s m args below meth c H locs cells slots Q (F0 m pc ls (.int (nI b) :: .int (nI a) :: rest)) :=
  lv_icmp_lt hx hb hdg ht (fun c => kt ((nI_ltI ha hb').mp c)) (fun c => kf (Nat.le_of_not_lt fun e => c ((nI_ltI ha hb').mpr e)))
theorem q_icmpN_ge {a b : Nat} {off : Int} {tgt : Nat} (ha : a < 2 ^ 31) (hb' : b < 2 ^ 31) (hx : p.tables.exec = Jvm.exec) (hb : c.code = cc) (hdg : decode cc pc = .ok (.if_icmp .ge off, 3)) (ht : (pc : Int) + off = (tgt : Int))
    (kt : b ≤ a → W p l e R s m args below meth c H locs cells slots Q (F0 m tgt ls rest)) (kf : a < b → W p l e R s m args below meth c H locs cells slots Q (F0 m (pc + 3) ls rest)) : W p l e R s m args below meth c H locs cells slots Q (F0 m pc ls (.int (nI b) :: .int (nI a) :: rest)) :=
  lv_icmp_ge hx hb hdg ht (fun c => kt ((nI_leI hb' ha).mp c)) (fun c => kf (Nat.lt_of_not_le fun e => c ((nI_leI hb' ha).mpr e)))
theorem q_icmpN_gt {a b : Nat} {off : Int} {tgt : Nat} (ha : a < 2 ^ 31) (hb' : b < 2 ^ 31) (hx : p.tables.exec = Jvm.exec) (hb : c.code = cc) (hdg : decode cc pc = .ok (.if_icmp .gt off, 3)) (ht : (pc : Int) + off = (tgt : Int))
    (kt : b < a → W p l e R s m args below meth c H locs cells slots Q (F0 m tgt ls rest)) (kf : a ≤ b → W p l e R s m args below meth c H locs cells slots Q (F0 m (pc + 3) ls rest)) : W p l e R s m args below meth c H locs cells slots Q (F0 m pc ls (.int (nI b) :: .int (nI a) :: rest)) :=
  lv_icmp_gt hx hb hdg ht (fun c => kt ((nI_ltI hb' ha).mp c)) (fun c => kf (Nat.le_of_not_lt fun e => c ((nI_ltI hb' ha).mpr e)))
theorem q_icmpN_le {a b : Nat} {off : Int} {tgt : Nat} (ha : a < 2 ^ 31) (hb' : b < 2 ^ 31) (hx : p.tables.exec = Jvm.exec) (hb : c.code = cc) (hdg : decode cc pc = .ok (.if_icmp .le off, 3)) (ht : (pc : Int) + off = (tgt : Int))
    (kt : a ≤ b → W p l e R s m args below meth c H locs cells slots Q (F0 m tgt ls rest)) (kf : b < a → W p l e R s m args below meth c H locs cells slots Q (F0 m (pc + 3) ls rest)) : W p l e R s m args below meth c H locs cells slots Q (F0 m pc ls (.int (nI b) :: .int (nI a) :: rest)) :=
  lv_icmp_le hx hb hdg ht (fun c => kt ((nI_leI ha hb').mp c)) (fun c => kf (Nat.lt_of_not_le fun e => c ((nI_leI ha hb').mpr e)))
theorem q_icmpZ_eq {a b : Int} {off : Int} {tgt : Nat} (ha : -2147483648 ≤ a ∧ a < 2147483648) (hb' : -2147483648 ≤ b ∧ b < 2147483648) (hx : p.tables.exec = Jvm.exec) (hb : c.code = cc) (hdg : decode cc pc = .ok (.if_icmp .eq off, 3)) (ht : (pc : Int) + off = (tgt : Int))
    (kt : a = b → W p l e R s m args below meth c H locs cells slots Q (F0 m tgt ls rest)) (kf : a ≠ b → W p l e R s m args below meth c H locs cells slots Q (F0 m (pc + 3) ls rest)) : W p l e R s m args below meth c H locs cells slots Q (F0 m pc ls (.int (zI b) :: .int (zI a) :: rest)) :=
  lv_icmp_eq hx hb hdg ht (fun c => kt ((zI_eq ha hb').mp c)) (fun c => kf (fun e => c ((zI_eq ha hb').mpr e)))
theorem q_icmpZ_ne {a b : Int} {off : Int} {tgt : Nat} (ha : -2147483648 ≤ a ∧ a < 2147483648) (hb' : -2147483648 ≤ b ∧ b < 2147483648) (hx : p.tables.exec = Jvm.exec) (hb : c.code = cc) (hdg : decode cc pc = .ok (.if_icmp .ne off, 3)) (ht : (pc : Int) + off = (tgt : Int))
    (kt : a ≠ b → W p l e R s m args below meth c H locs cells slots Q (F0 m tgt ls rest)) (kf : a = b → W p l e R s m args below meth c H locs cells slots Q (F0 m (pc + 3) ls rest)) : W p l e R s m args below meth c H locs cells slots Q (F0 m pc ls (.int (zI b) :: .int (zI a) :: rest)) :=
  lv_icmp_ne hx hb hdg ht (fun c => kt (fun e => c ((zI_eq ha hb').mpr e))) (fun c => kf ((zI_eq ha hb').mp c))
theorem q_icmpZ_lt {a b : Int} {off : Int} {tgt : Nat} (ha : -2147483648 ≤ a ∧ a < 2147483648) (hb' : -2147483648 ≤ b ∧ b < 2147483648) (hx : p.tables.exec = Jvm.exec) (hb : c.code = cc) (hdg : decode cc pc = .ok (.if_icmp .lt off, 3)) (ht : (pc : Int) + off = (tgt : Int))
    (kt : a < b → W p l e R s m args below meth c H locs cells slots Q (F0 m tgt ls rest)) (kf : b ≤ a → W p l e R s m args below meth c H locs cells slots Q (F0 m (pc + 3) ls rest)) : W p l e R s m args below meth c H locs cells slots Q (F0 m pc ls (.int (zI b) :: .int (zI a) :: rest)) :=
  lv_icmp_lt hx hb hdg ht (fun c => kt ((zI_lt ha hb').mp c)) (fun c => kf (Int.not_lt.mp fun e => c ((zI_lt ha hb').mpr e)))
theorem q_icmpZ_ge {a b : Int} {off : Int} {tgt : Nat} (ha : -2147483648 ≤ a ∧ a < 2147483648) (hb' : -2147483648 ≤ b ∧ b < 2147483648) (hx : p.tables.exec = Jvm.exec) (hb : c.code = cc) (hdg : decode cc pc = .ok (.if_icmp .ge off, 3)) (ht : (pc : Int) + off = (tgt : Int))
    (kt : b ≤ a → W p l e R s m args below meth c H locs cells slots Q (F0 m tgt ls rest)) (kf : a < b → W p l e R s m args below meth c H locs cells slots Q (F0 m (pc + 3) ls rest)) : W p l e R s m args below meth c H locs cells slots Q (F0 m pc ls (.int (zI b) :: .int (zI a) :: rest)) :=
  lv_icmp_ge hx hb hdg ht (fun c => kt ((zI_le hb' ha).mp c)) (fun c => kf (Int.not_le.mp fun e => c ((zI_le hb' ha).mpr e)))
theorem q_icmpZ_gt {a b : Int} {off : Int} {tgt : Nat} (ha : -2147483648 ≤ a ∧ a < 2147483648) (hb' : -2147483648 ≤ b ∧ b < 2147483648) (hx : p.tables.exec = Jvm.exec) (hb : c.code = cc) (hdg : decode cc pc = .ok (.if_icmp .gt off, 3)) (ht : (pc : Int) + off = (tgt : Int))
    (kt : b < a → W p l e R s m args below meth c H locs cells slots Q (F0 m tgt ls rest)) (kf : a ≤ b → W p l e R s m args below meth c H locs cells slots Q (F0 m (pc + 3) ls rest)) : W p l e R s m args below meth c H locs cells slots Q (F0 m pc ls (.int (zI b) :: .int (zI a) :: rest)) :=
  lv_icmp_gt hx hb hdg ht (fun c => kt ((zI_lt hb' ha).mp c)) (fun c => kf (Int.not_lt.mp fun e => c ((zI_lt hb' ha).mpr e)))
theorem q_icmpZ_le {a b : Int} {off : Int} {tgt : Nat} (ha : -2147483648 ≤ a ∧ a < 2147483648) (hb' : -2147483648 ≤ b ∧ b < 2147483648) (hx : p.tables.exec = Jvm.exec) (hb : c.code = cc) (hdg : decode cc pc = .ok (.if_icmp .le off, 3)) (ht : (pc : Int) + off = (tgt : Int))
    (kt : a ≤ b → W p l e R s m args below meth c H locs cells slots Q (F0 m tgt ls rest)) (kf : b < a → W p l e R s m args below meth c H locs cells slots Q (F0 m (pc + 3) ls rest)) : W p l e R s m args below meth c H locs cells slots Q (F0 m pc ls (.int (zI b) :: .int (zI a) :: rest)) :=
  lv_icmp_le hx hb hdg ht (fun c => kt ((zI_le ha hb').mp c)) (fun c => kf (Int.not_le.mp fun e => c ((zI_le ha hb').mpr e)))
theorem q_ifN_eq {a : Nat} {off : Int} {tgt : Nat} (ha : a < 2 ^ 31) (hx : p.tables.exec = Jvm.exec) (hb : c.code = cc) (hdg : decode cc pc = .ok (.ifCond .eq off, 3)) (ht : (pc : Int) + off = (tgt : Int))
    (kt : a = 0 → W p l e R s m args below meth c H locs cells slots Q (F0 m tgt ls rest)) (kf : a ≠ 0 → W p l e R s m args below meth c H locs cells slots Q (F0 m (pc + 3) ls rest)) : W p l e R s m args below meth c H locs cells slots Q (F0 m pc ls (.int (nI a) :: rest)) :=
  lv_if_eq hx hb hdg ht (fun c => kt ((nI_eq ha (by decide)).mp c)) (fun c => kf (fun e => c ((nI_eq ha (by decide)).mpr e)))
theorem q_ifN_ne {a : Nat} {off : Int} {tgt : Nat} (ha : a < 2 ^ 31) (hx : p.tables.exec = Jvm.exec) (hb : c.code = cc) (hdg : decode cc pc = .ok (.ifCond .ne off, 3)) (ht : (pc : Int) + off = (tgt : Int))
    (kt : a ≠ 0 → W p l e R s m args below meth c H locs cells slots Q (F0 m tgt ls rest)) (kf : a = 0 → W p l e R s m args below meth c H locs cells slots Q (F0 m (pc + 3) ls rest)) : W p l e R s m args below meth c H locs cells slots Q (F0 m pc ls (.int (nI a) :: rest)) :=
  lv_if_ne hx hb hdg ht (fun c => kt (fun e => c ((nI_eq ha (by decide)).mpr e))) (fun c => kf ((nI_eq ha (by decide)).mp c))
theorem q_ifN_gt {a : Nat} {off : Int} {tgt : Nat} (ha : a < 2 ^ 31) (hx : p.tables.exec = Jvm.exec) (hb : c.code = cc) (hdg : decode cc pc = .ok (.ifCond .gt off, 3)) (ht : (pc : Int) + off = (tgt : Int))
    (kt : 0 < a → W p l e R s m args below meth c H locs cells slots Q (F0 m tgt ls rest)) (kf : a = 0 → W p l e R s m args below meth c H locs cells slots Q (F0 m (pc + 3) ls rest)) : W p l e R s m args below meth c H locs cells slots Q (F0 m pc ls (.int (nI a) :: rest)) :=
  lv_if_gt hx hb hdg ht (fun c => kt ((nI_ltI (by decide) ha).mp c)) (fun c => kf (Nat.eq_zero_of_not_pos fun e => c ((nI_ltI (by decide) ha).mpr e)))
theorem q_ifN_le {a : Nat} {off : Int} {tgt : Nat} (ha : a < 2 ^ 31) (hx : p.tables.exec = Jvm.exec) (hb : c.code = cc) (hdg : decode cc pc = .ok (.ifCond .le off, 3)) (ht : (pc : Int) + off = (tgt : Int))
    (kt : a = 0 → W p l e R s m args below meth c H locs cells slots Q (F0 m tgt ls rest)) (kf : 0 < a → W p l e R s m args below meth c H locs cells slots Q (F0 m (pc + 3) ls rest)) : W p l e R s m args below meth c H locs cells slots Q (F0 m pc ls (.int (nI a) :: rest)) :=
  lv_if_le hx hb hdg ht (fun c => kt (Nat.le_zero.mp ((nI_leI ha (by decide)).mp c))) (fun c => kf (Nat.lt_of_not_le fun e => c ((nI_leI ha (by decide)).mpr e)))
theorem q_ifN_lt {a : Nat} {off : Int} (tgt : Nat) (ha : a < 2 ^ 31) (hx : p.tables.exec = Jvm.exec) (hb : c.code = cc) (hdg : decode cc pc = .ok (.ifCond .lt off, 3)) (ht : (pc : Int) + off = (tgt : Int))
    (kf : W p l e R s m args below meth c H locs cells slots Q (F0 m (pc + 3) ls rest)) : W p l e R s m args below meth c H locs cells slots Q (F0 m pc ls (.int (nI a) :: rest)) :=
  lv_if_lt hx hb hdg ht (fun c => absurd c (nI_pos ha)) (fun _ => kf)
theorem q_ifN_ge {a : Nat} {off : Int} {tgt : Nat} (ha : a < 2 ^ 31) (hx : p.tables.exec = Jvm.exec) (hb : c.code = cc) (hdg : decode cc pc = .ok (.ifCond .ge off, 3)) (ht : (pc : Int) + off = (tgt : Int))
    (kt : W p l e R s m args below meth c H locs cells slots Q (F0 m tgt ls rest)) : W p l e R s m args below meth c H locs cells slots Q (F0 m pc ls (.int (nI a) :: rest)) :=
  lv_if_ge hx hb hdg ht (fun _ => kt) (fun c => absurd (nI_pos' ha) c)
theorem q_ifB_eq {b : Bool} {off : Int} {tgt : Nat} (hx : p.tables.exec = Jvm.exec) (hb : c.code = cc) (hdg : decode cc pc = .ok (.ifCond .eq off, 3)) (ht : (pc : Int) + off = (tgt : Int))
    (kt : b = false → W p l e R s m args below meth c H locs cells slots Q (F0 m tgt ls rest)) (kf : b = true → W p l e R s m args below meth c H locs cells slots Q (F0 m (pc + 3) ls rest)) : W p l e R s m args below meth c H locs cells slots Q (F0 m pc ls (.int (bI b) :: rest)) :=
  lv_if_eq hx hb hdg ht (fun c => kt (bI_0.mp c)) (fun c => kf (bI_n0.mp c))
theorem q_ifB_ne {b : Bool} {off : Int} {tgt : Nat} (hx : p.tables.exec = Jvm.exec) (hb : c.code = cc) (hdg : decode cc pc = .ok (.ifCond .ne off, 3)) (ht : (pc : Int) + off = (tgt : Int))
    (kt : b = true → W p l e R s m args below meth c H locs cells slots Q (F0 m tgt ls rest)) (kf : b = false → W p l e R s m args below meth c H locs cells slots Q (F0 m (pc + 3) ls rest)) : W p l e R s m args below meth c H locs cells slots Q (F0 m pc ls (.int (bI b) :: rest)) :=
  lv_if_ne hx hb hdg ht (fun c => kt (bI_n0.mp c)) (fun c => kf (bI_0.mp c))
theorem q_icmpO_eq {a b : Option Nat} {off : Int} {tgt : Nat} (ha : ∀ k, a = some k → k < 2 ^ 31) (hb' : ∀ k, b = some k → k < 2 ^ 31) (hx : p.tables.exec = Jvm.exec) (hb : c.code = cc) (hdg : decode cc pc = .ok (.if_icmp .eq off, 3)) (ht : (pc : Int) + off = (tgt : Int))
    (kt : a = b → W p l e R s m args below meth c H locs cells slots Q (F0 m tgt ls rest)) (kf : a ≠ b → W p l e R s m args below meth c H locs cells slots Q (F0 m (pc + 3) ls rest)) : W p l e R s m args below meth c H locs cells slots Q (F0 m pc ls (.int (oI b) :: .int (oI a) :: rest)) :=
  lv_icmp_eq hx hb hdg ht (fun c => kt ((oI_inj ha hb').mp c)) (fun c => kf (fun e => c ((oI_inj ha hb').mpr e)))
theorem q_icmpO_ne {a b : Option Nat} {off : Int} {tgt : Nat} (ha : ∀ k, a = some k → k < 2 ^ 31) (hb' : ∀ k, b = some k → k < 2 ^ 31) (hx : p.tables.exec = Jvm.exec) (hb : c.code = cc) (hdg : decode cc pc = .ok (.if_icmp .ne off, 3)) (ht : (pc : Int) + off = (tgt : Int))
    (kt : a ≠ b → W p l e R s m args below meth c H locs cells slots Q (F0 m tgt ls rest)) (kf : a = b → W p l e R s m args below meth c H locs cells slots Q (F0 m (pc + 3) ls rest)) : W p l e R s m args below meth c H locs cells slots Q (F0 m pc ls (.int (oI b) :: .int (oI a) :: rest)) :=
  lv_icmp_ne hx hb hdg ht (fun c => kt (fun e => c ((oI_inj ha hb').mpr e))) (fun c => kf ((oI_inj ha hb').mp c))
theorem q_addN {a b : Nat} (hx : p.tables.exec = Jvm.exec) (hb : c.code = cc) (hdg : decode cc pc = .ok (.iadd, 1)) (kk : W p l e R s m args below meth c H locs cells slots Q (F0 m (pc + 1) ls (.int (nI (a + b)) :: rest))) : W p l e R s m args below meth c H locs cells slots Q (F0 m pc ls (.int (nI b) :: .int (nI a) :: rest)) :=
  lv_iadd hx hb hdg (q_top (nI_add a b) kk)
theorem q_mulN {a b : Nat} (hx : p.tables.exec = Jvm.exec) (hb : c.code = cc) (hdg : decode cc pc = .ok (.imul, 1)) (kk : W p l e R s m args below meth c H locs cells slots Q (F0 m (pc + 1) ls (.int (nI (a * b)) :: rest))) : W p l e R s m args below meth c H locs cells slots Q (F0 m pc ls (.int (nI b) :: .int (nI a) :: rest)) :=
  lv_imul hx hb hdg (q_top (pk_mul a b) kk)
theorem q_subN {a b : Nat} (h : b ≤ a) (hx : p.tables.exec = Jvm.exec) (hb : c.code = cc) (hdg : decode cc pc = .ok (.isub, 1)) (kk : W p l e R s m args below meth c H locs cells slots Q (F0 m (pc + 1) ls (.int (nI (a - b)) :: rest))) : W p l e R s m args below meth c H locs cells slots Q (F0 m pc ls (.int (nI b) :: .int (nI a) :: rest)) :=
  lv_isub hx hb hdg (q_top (pk_sub h) kk)
theorem q_addZ {a b : Int} (hx : p.tables.exec = Jvm.exec) (hb : c.code = cc) (hdg : decode cc pc = .ok (.iadd, 1)) (kk : W p l e R s m args below meth c H locs cells slots Q (F0 m (pc + 1) ls (.int (zI (a + b)) :: rest))) : W p l e R s m args below meth c H locs cells slots Q (F0 m pc ls (.int (zI b) :: .int (zI a) :: rest)) :=
  lv_iadd hx hb hdg (q_top (zI_add a b) kk)
theorem q_subZ {a b : Int} (hx : p.tables.exec = Jvm.exec) (hb : c.code = cc) (hdg : decode cc pc = .ok (.isub, 1)) (kk : W p l e R s m args below meth c H locs cells slots Q (F0 m (pc + 1) ls (.int (zI (a - b)) :: rest))) : W p l e R s m args below meth c H locs cells slots Q (F0 m pc ls (.int (zI b) :: .int (zI a) :: rest)) :=
  lv_isub hx hb hdg (q_top (zI_sub a b) kk)
theorem q_divN {a b : Nat} (ha : a < 2 ^ 31) (h0 : 0 < b) (hb' : b < 2 ^ 31) (hx : p.tables.exec = Jvm.exec) (hb : c.code = cc) (hdg : decode cc pc = .ok (.idiv, 1)) (kk : W p l e R s m args below meth c H locs cells slots Q (F0 m (pc + 1) ls (.int (nI (a / b)) :: rest))) : W p l e R s m args below meth c H locs cells slots Q (F0 m pc ls (.int (nI b) :: .int (nI a) :: rest)) :=
  lv_idiv hx hb hdg (fun e => Nat.ne_of_gt h0 ((nI_eq hb' (by decide)).mp e)) (q_top (pk_div ha h0 hb') kk)
theorem q_remN {a b : Nat} (ha : a < 2 ^ 31) (h0 : 0 < b) (hb' : b < 2 ^ 31) (hx : p.tables.exec = Jvm.exec) (hb : c.code = cc) (hdg : decode cc pc = .ok (.irem, 1)) (kk : W p l e R s m args below meth c H locs cells slots Q (F0 m (pc + 1) ls (.int (nI (a % b)) :: rest))) : W p l e R s m args below meth c H locs cells slots Q (F0 m pc ls (.int (nI b) :: .int (nI a) :: rest)) :=
  lv_irem hx hb hdg (fun e => Nat.ne_of_gt h0 ((nI_eq hb' (by decide)).mp e)) (q_top (pk_rem ha h0 hb') kk)
end HB
section HB2
variable {p : Program} {l : Launch} {e : Env} {R : Room} {s : State} {m : MethodId} {args : Array Value} {below : List Frame} {meth : Method} {c : Code} {H H0 : Heap} {locs : List Loc} {cells slots : Nat} {Q : State → Prop} {cc : ByteArray} {pc : Nat} {ls : Array Slot} {rest st0 : List Value} {D : va_G} {cl : List vw_C} {tys : List (ClassId × FieldType)} {ws : va_W} {a : Nat} {A : Nat → Prop}
theorem q_callI {r : Int32} {av : Array Value} (hr : va_Run p l e R s m args below meth c H locs cells slots 0 0 (F0 m pc ls st0) rest (pQ (some (.int r)) av) nF)
    (kk : W p l e R s m args below meth c H locs cells slots Q (F0 m (pc + 3) ls (.int r :: rest))) : W p l e R s m args below meth c H locs cells slots Q (F0 m pc ls st0) := q_call hr kk
theorem q_callJ {r : Int64} {av : Array Value} (hr : va_Run p l e R s m args below meth c H locs cells slots 0 0 (F0 m pc ls st0) rest (pQ (some (.long r)) av) nF)
    (kk : W p l e R s m args below meth c H locs cells slots Q (F0 m (pc + 3) ls (.long r :: rest))) : W p l e R s m args below meth c H locs cells slots Q (F0 m pc ls st0) := q_call hr kk
theorem q_callV {av : Array Value} (hr : va_Run p l e R s m args below meth c H locs cells slots 0 0 (F0 m pc ls st0) rest (pQ none av) nF)
    (kk : W p l e R s m args below meth c H locs cells slots Q (F0 m (pc + 3) ls rest)) : W p l e R s m args below meth c H locs cells slots Q (F0 m pc ls st0) := q_call hr kk
theorem q_retL {v r : Int64} (hx : p.tables.exec = Jvm.exec) (hb : c.code = cc) (hr : meth.sig.returnType = some .long) (hlocks : meth.locks = false) (hv : v = r) (hdg : decode cc pc = .ok (.lreturn, 1)) :
    W p l e R s m args below meth c s.heap [] 0 0 (MQ below (pQ (some (.long r))) args s 0 0 nF) (F0 m pc ls [.long v]) := by
  subst hv
  exact W.lret (v := v) hx hb hr (fun t ht hW => ⟨rfl, ht⟩) (fun z hz => by cases hz) hdg hlocks
theorem q_top3 {x y : Int32} {v1 v2 : Value} (h : x = y) (k : W p l e R s m args below meth c H locs cells slots Q (F0 m pc ls (v1 :: v2 :: .int y :: rest))) : W p l e R s m args below meth c H locs cells slots Q (F0 m pc ls (v1 :: v2 :: .int x :: rest)) := by
  rw [h]; exact k
theorem q_top4 {x y : Int32} {v1 v2 v3 : Value} (h : x = y) (k : W p l e R s m args below meth c H locs cells slots Q (F0 m pc ls (v1 :: v2 :: v3 :: .int y :: rest))) : W p l e R s m args below meth c H locs cells slots Q (F0 m pc ls (v1 :: v2 :: v3 :: .int x :: rest)) := by
  rw [h]; exact k
/-- a static method that only reads its arguments -/
def sP (av : List Value) : Array Value → State → Prop := fun v _ => v = av.toArray
theorem sP_blind {av : List Value} : FrameBlind (sP av) := fun _ _ _ _ q => q
theorem sP_pre {av : List Value} {s : State} {H : Heap} : ∀ U : State, U.heap = H → s.WarmedH U.vm → sP av av.toArray U := fun _ _ _ => rfl
/-- a method that writes -/
def wP (D : va_G) (w : va_W) (ty : List (ClassId × FieldType)) (av : List Value) (sz : Nat) : Array Value → State → Prop := va_Pc av (fun U => U.heap.size = sz ∧ va_P D vwCl w U.heap ∧ va_K D vwCl ty U ∧ va_D (fun _ => True) w)
theorem wP_blind {D : va_G} {w : va_W} {ty : List (ClassId × FieldType)} {av : List Value} {sz : Nat} : FrameBlind (wP D w ty av sz) := fun a U g mk q => by
  obtain ⟨q0, q1, qP, qK, qD⟩ := q
  exact ⟨q0, q1, qP, va_K.moved (u := U) (U := U.calling g mk a) (Vm.Alike.refl U.vm) qK, qD⟩
theorem wP_pre {D : va_G} {w : va_W} {ty : List (ClassId × FieldType)} {av : List Value} {s : State} {H : Heap} {A : Nat → Prop} (hP : va_P D vwCl w H) (hK : va_K D vwCl ty s) (hD : va_D A w) : ∀ U : State, U.heap = H → s.WarmedH U.vm → wP D w ty av H.size av.toArray U :=
  fun U hU hW => ⟨rfl, by rw [hU], by rw [hU]; exact hP, va_K.moved hW.alike hK, ⟨hD.1, fun _ _ _ => trivial⟩⟩
/-- its end: the new cells -/
def wQ (D : va_G) (w w' : va_W) (v : Option Value) : Array Value → State → Outcome → State → Prop := fun _ st o t => o = .returned v ∧ va_P D vwCl w' t.heap ∧ va_F (va_A w st.heap.size) st t
theorem q_wretV {w w' : va_W} (hx : p.tables.exec = Jvm.exec) (hb : c.code = cc) (hr : meth.sig.returnType = none) (hlocks : meth.locks = false) (hAe : va_A w s.heap.size = A) (hP : va_P D vwCl w' H) (hS : va_S A s.heap H locs) (hdg : decode cc pc = .ok (.return_, 1)) :
    W p l e R s m args below meth c H locs 0 0 (MQ below (wQ D w w' none) args s 0 0 A) (F0 m pc ls []) :=
  W.vret hx hb hr (fun t ht hW => ⟨rfl, by rw [ht]; exact hP, by rw [hAe]; exact hS.F ht⟩) hS.2.2 hdg hlocks
theorem q_wretI {w w' : va_W} {v r : Int32} (hx : p.tables.exec = Jvm.exec) (hb : c.code = cc) (hr : meth.sig.returnType = some .int) (hlocks : meth.locks = false) (hAe : va_A w s.heap.size = A) (hP : va_P D vwCl w' H) (hS : va_S A s.heap H locs) (hv : v = r) (hdg : decode cc pc = .ok (.ireturn, 1)) :
    W p l e R s m args below meth c H locs 0 0 (MQ below (wQ D w w' (some (.int r))) args s 0 0 A) (F0 m pc ls [.int v]) := by
  subst hv
  exact W.iret (v := v) hx hb hr (fun t ht hW => ⟨rfl, by rw [ht]; exact hP, by rw [hAe]; exact hS.F ht⟩) hS.2.2 hdg hlocks
theorem q_wretZ {w w' : va_W} {v : Int32} {r : Bool} (hx : p.tables.exec = Jvm.exec) (hb : c.code = cc) (hr : meth.sig.returnType = some .boolean) (hlocks : meth.locks = false) (hAe : va_A w s.heap.size = A) (hP : va_P D vwCl w' H) (hS : va_S A s.heap H locs) (hv : v = bI r) (hdg : decode cc pc = .ok (.ireturn, 1)) :
    W p l e R s m args below meth c H locs 0 0 (MQ below (wQ D w w' (some (.int (bI r)))) args s 0 0 A) (F0 m pc ls [.int v]) := by
  subst hv
  exact W.zret (v := bI r) (ty := .boolean) hx hb hr (nar_bI r) (fun t ht hW => ⟨rfl, by rw [ht]; exact hP, by rw [hAe]; exact hS.F ht⟩) hS.2.2 hdg hlocks
/-- a call of a method that writes, its world being the caller's -/
theorem q_wcall {w w' : va_W} {v : Option Value} {av : Array Value} (hr : va_Run p l e R s m args below meth c H locs cells slots 0 0 (F0 m pc ls st0) rest (wQ D w w' v av) (va_A w H.size)) (hD : va_D A w) (hS : va_S A H0 H locs) (hA : ∀ q : Nat, H0.size ≤ q → A q) (he : w'.map Prod.fst = w.map Prod.fst)
    (kk : ∀ (H1 : Heap) (locs1 : List Loc), va_P D vwCl w' H1 → va_D A w' → va_S A H0 H1 locs1 → W p l e R s m args below meth c H1 locs1 cells slots Q (F0 m (pc + 3) ls (v.toList ++ rest))) : W p l e R s m args below meth c H locs cells slots Q (F0 m pc ls st0) := by
  have hF : ∀ q, va_A w H.size q → A q := by
    intro q h
    rcases h with ⟨k, e0, h⟩ | h
    · exact hD.2 k (q, e0) h
    · exact hA q (Nat.le_trans hS.1 h)
  intro T hT X
  obtain ⟨v', st₀, t, T', L, h0, X', hL, e1, e2, ⟨hv, hp, hz, hk⟩, st⟩ := hr T hT X
  cases hv
  rw [h0] at hz hk
  obtain ⟨t2, a1, b1⟩ := kk T'.heap (locs ++ L) (by rw [e1]; exact hp) (va_D_re hD he)
    ⟨Nat.le_trans hS.1 (by rw [e1]; exact hz), fun q h1 h2 => by rw [e1, hk q (Nat.lt_of_lt_of_le h1 hS.1) (fun z => h2 (hF q z))]; exact hS.2.1 q h1 h2, fun q hq => by
      rcases List.mem_append.mp hq with h | h
      · exact hS.2.2 q h
      · exact hF _ (hL q h)⟩ T' rfl X'
  exact ⟨t2, st t2 a1, b1⟩
theorem q_wcallI {w w' : va_W} {r : Int32} {av : Array Value} (hr : va_Run p l e R s m args below meth c H locs cells slots 0 0 (F0 m pc ls st0) rest (wQ D w w' (some (.int r)) av) (va_A w H.size)) (hD : va_D A w) (hS : va_S A H0 H locs) (hA : ∀ q : Nat, H0.size ≤ q → A q) (he : w'.map Prod.fst = w.map Prod.fst)
    (kk : ∀ (H1 : Heap) (locs1 : List Loc), va_P D vwCl w' H1 → va_D A w' → va_S A H0 H1 locs1 → W p l e R s m args below meth c H1 locs1 cells slots Q (F0 m (pc + 3) ls (.int r :: rest))) : W p l e R s m args below meth c H locs cells slots Q (F0 m pc ls st0) := q_wcall hr hD hS hA he kk
theorem q_wcallV {w w' : va_W} {av : Array Value} (hr : va_Run p l e R s m args below meth c H locs cells slots 0 0 (F0 m pc ls st0) rest (wQ D w w' none av) (va_A w H.size)) (hD : va_D A w) (hS : va_S A H0 H locs) (hA : ∀ q : Nat, H0.size ≤ q → A q) (he : w'.map Prod.fst = w.map Prod.fst)
    (kk : ∀ (H1 : Heap) (locs1 : List Loc), va_P D vwCl w' H1 → va_D A w' → va_S A H0 H1 locs1 → W p l e R s m args below meth c H1 locs1 cells slots Q (F0 m (pc + 3) ls rest)) : W p l e R s m args below meth c H locs cells slots Q (F0 m pc ls st0) := q_wcall hr hD hS hA he kk
/-- what a throw needs of the machine -/
def hbS : List (Nat × String) := [(70, "the parent is at the deepest level"), (75, "there have been 16 goods"), (84, "the parent is the good itself or below it"), (89, "some good would be too deep"), (95, "the good is the parent of a good"), (100, "the good is a part of a good"), (110, "the part is not lower than the good"), (113, "the quantity is out of range"), (115, "the quantity of the part would be more than 20"), (117, "the discount is out of range"), (124, "no such good"), (127, "the parent is neither -1 nor a good"), (145, "the value is out of range"), (147, "the day is out of range"), (149, "there have been 200 drafts"), (158, "the draft is not open"), (163, "the draft is rejected"), (165, "the days are out of range"), (170, "no such draft"), (182, "there is no value"), (197, "there is no price, or one that counts for it is too high"), (199, "no such attribute"), (201, "no such shop"), (203, "no such tongue")]
def exN : List String := ["java/lang/IndexOutOfBoundsException", "java/lang/IllegalStateException", "java/lang/IllegalArgumentException"]
def dcN : List String := ["java/lang/RuntimeException", "java/lang/Exception", Bundle.tN]
def tE (U : State) : Prop := vx_Zq Bundle.tN "UNASSIGNED_STACK" Bundle.steD nF U U.heap ∧ vx_Zq Bundle.tN "SUPPRESSED_SENTINEL" Bundle.listD nF U U.heap ∧ (∀ q ∈ hbS, ∃ a, vk_R RX0 q.1 q.2 a U) ∧ (∀ E ∈ exN, va_Nw (.castable E E) U) ∧ ∀ Y ∈ dcN, va_Nw (.declares (Bundle.initS Y)) U
theorem tE_calling {a : Array Value} {U : State} {g : JFrame} {mk : MethodId} (h : tE U) : tE (U.calling g mk a) :=
  ⟨vx_Zq.moved (u := U) (U := U.calling g mk a) (Vm.Alike.refl U.vm) h.1, vx_Zq.moved (u := U) (U := U.calling g mk a) (Vm.Alike.refl U.vm) h.2.1, fun q hq => (h.2.2.1 q hq).elim (fun a h9 => ⟨a, vk_R.same (u := U) rfl h9⟩), fun E hE => va_Nw.same rfl (u := U) rfl (h.2.2.2.1 E hE), fun Y hY => va_Nw.same rfl (u := U) rfl (h.2.2.2.2 Y hY)⟩
theorem tE_warm {s U : State} (hW : s.WarmedH U.vm) (hH : U.heap = s.heap) (h : tE s) : tE U :=
  ⟨by rw [hH]; exact vx_Zq.moved hW.alike h.1, by rw [hH]; exact vx_Zq.moved hW.alike h.2.1, fun q hq => (h.2.2.1 q hq).elim (fun a h9 => ⟨a, vk_R.warm hW h9⟩), fun E hE => va_Nw.warmC hW (h.2.2.2.1 E hE), fun Y hY => va_Nw.warmD hW (h.2.2.2.2 Y hY)⟩
def tB (E : String) : List Cond := [.castable E E, .declares (Bundle.initS "java/lang/RuntimeException"), .declares (Bundle.initS "java/lang/Exception"), .declares (Bundle.initS Bundle.tN)]
theorem tE_B {U : State} (h : tE U) {E : String} (hE : E ∈ exN) {a : Array Value} : ∀ w ∈ tB E, w.before a U = true := by
  intro w hw
  simp only [tB, List.mem_cons, List.not_mem_nil, or_false] at hw
  rcases hw with rfl | rfl | rfl | rfl
  · exact va_Nw.use rfl (h.2.2.2.1 E hE)
  · exact va_Nw.use rfl (h.2.2.2.2 _ (by simp [dcN]))
  · exact va_Nw.use rfl (h.2.2.2.2 _ (by simp [dcN]))
  · exact va_Nw.use rfl (h.2.2.2.2 _ (by simp [dcN]))
def tP (D : va_G) (w : va_W) (ty : List (ClassId × FieldType)) (av : List Value) : Array Value → State → Prop := va_Pc av (fun U => va_P D vwCl w U.heap ∧ va_K D vwCl ty U ∧ tE U)
def tPS (av : List Value) : Array Value → State → Prop := va_Pc av tE
theorem tP_blind {D : va_G} {w : va_W} {ty : List (ClassId × FieldType)} {av : List Value} : FrameBlind (tP D w ty av) := fun a U g mk q => by
  obtain ⟨q0, qP, qK, qE⟩ := q
  exact ⟨q0, qP, va_K.moved (u := U) (U := U.calling g mk a) (Vm.Alike.refl U.vm) qK, tE_calling qE⟩
theorem tPS_blind {av : List Value} : FrameBlind (tPS av) := fun _ _ _ _ q => ⟨q.1, tE_calling q.2⟩
theorem tP_pre {D : va_G} {w : va_W} {ty : List (ClassId × FieldType)} {av : List Value} {s : State} (hP : va_P D vwCl w s.heap) (hK : va_K D vwCl ty s) (hE : tE s) : ∀ U : State, U.heap = s.heap → s.WarmedH U.vm → tP D w ty av av.toArray U :=
  fun U hU hW => ⟨rfl, by rw [hU]; exact hP, va_K.moved hW.alike hK, tE_warm hW hU hE⟩
theorem tPS_pre {av : List Value} {s : State} (hE : tE s) : ∀ U : State, U.heap = s.heap → s.WarmedH U.vm → tPS av av.toArray U :=
  fun U hU hW => ⟨rfl, tE_warm hW hU hE⟩
def nQ : Array Value → State → Outcome → State → Prop := fun _ _ _ _ => False
/-- it has thrown an E0, and no cell that was there is another one now -/
def tX (E0 : String) : String → State → State → Prop := fun E st t => E = E0 ∧ st.heap.size < t.heap.size ∧ ∀ q : Nat, q < st.heap.size → t.heap[q]? = st.heap[q]?
/-- a call of a method that throws, not caught here -/
theorem q_callT {E0 : String} {av : Array Value} (hlocks : meth.locks = false) (hexc : ∀ x ∈ c.exceptionTable.toList, False) (hr : vx_Run p l e R s m args below meth c s.heap [] 0 0 1 6 (F0 m pc ls st0) rest (nQ av) (tX E0) nF) :
    W p l e R s m args below meth c s.heap [] 0 0 (vx_MQ below nQ (tX E0) args s 1 6 nF) (F0 m pc ls st0) := by
  intro T hT X
  rcases hr T hT X with ⟨v, st₀, t, T', L, h0, X', hL, e1, e2, hq, st⟩ | ⟨q, st₀, t, T', L, E, ce, h0, X', hL, e1, e2, hXC, hce, hcv, hcl, st⟩
  · exact hq.elim
  · have hL0 : L = [] := by
      cases L with
      | nil => rfl
      | cons z r => exact absurd (hL z List.mem_cons_self) (fun q => q)
    subst hL0
    obtain ⟨g1, g2, g3⟩ := hXC
    rw [h0] at g2 g3
    rw [← e1] at hce g2 g3
    obtain ⟨t2, a1, b1⟩ := vx_out (Qc := nQ) (XC := tX E0) (free := nF) (mc := 1) (ms := 6) (pc := pc) (ls := ls) (rest := rest) (H := T'.heap) (E := E) (ce := ce) (q := q) (fun x hx => (hexc x hx).elim) hlocks hce hcv hcl
      (fun t9 h9 _ => ⟨g1, by rw [h9]; exact g2, fun q9 h8 => by rw [h9]; exact g3 q9 h8⟩) (fun z hz => by cases hz) (Nat.le_refl 1) (Nat.le_refl 6) T' rfl X'
    exact ⟨t2, st.trans a1, b1⟩
end HB2
end
section
set_option maxRecDepth 20000 in
theorem iX0_init : ∀ w ∈ wsX00, w ∈ wsX0_init := by decide +kernel
set_option maxRecDepth 20000 in
theorem iX0_addGood : ∀ w ∈ wsX00, w ∈ wsX0_addGood := by decide +kernel
set_option maxRecDepth 20000 in
theorem iX0_move : ∀ w ∈ wsX00, w ∈ wsX0_move := by decide +kernel
set_option maxRecDepth 20000 in
theorem iX0_delete : ∀ w ∈ wsX00, w ∈ wsX0_delete := by decide +kernel
set_option maxRecDepth 20000 in
theorem iX0_addPart : ∀ w ∈ wsX00, w ∈ wsX0_addPart := by decide +kernel
set_option maxRecDepth 20000 in
theorem iX0_setDiscount : ∀ w ∈ wsX00, w ∈ wsX0_setDiscount := by decide +kernel
set_option maxRecDepth 20000 in
theorem iX0_isGood : ∀ w ∈ wsX00, w ∈ wsX0_isGood := by decide +kernel
set_option maxRecDepth 20000 in
theorem iX0_levelOf : ∀ w ∈ wsX00, w ∈ wsX0_levelOf := by decide +kernel
set_option maxRecDepth 20000 in
theorem iX0_isWithin : ∀ w ∈ wsX00, w ∈ wsX0_isWithin := by decide +kernel
set_option maxRecDepth 20000 in
theorem iX0_isParent : ∀ w ∈ wsX00, w ∈ wsX0_isParent := by decide +kernel
set_option maxRecDepth 20000 in
theorem iX0_isPart : ∀ w ∈ wsX00, w ∈ wsX0_isPart := by decide +kernel
set_option maxRecDepth 20000 in
theorem iX0_draft : ∀ w ∈ wsX00, w ∈ wsX0_draft := by decide +kernel
set_option maxRecDepth 20000 in
theorem iX0_approve : ∀ w ∈ wsX00, w ∈ wsX0_approve := by decide +kernel
set_option maxRecDepth 20000 in
theorem iX0_reject : ∀ w ∈ wsX00, w ∈ wsX0_reject := by decide +kernel
set_option maxRecDepth 20000 in
theorem iX0_pass : ∀ w ∈ wsX00, w ∈ wsX0_pass := by decide +kernel
set_option maxRecDepth 20000 in
theorem iX0_isEntered : ∀ w ∈ wsX00, w ∈ wsX0_isEntered := by decide +kernel
set_option maxRecDepth 20000 in
theorem iX0_checkDraft : ∀ w ∈ wsX00, w ∈ wsX0_checkDraft := by decide +kernel
set_option maxRecDepth 20000 in
theorem iX0_holdsAtItsPlace : ∀ w ∈ wsX00, w ∈ wsX0_holdsAtItsPlace := by decide +kernel
set_option maxRecDepth 20000 in
theorem iX0_deleteDraftsOf : ∀ w ∈ wsX00, w ∈ wsX0_deleteDraftsOf := by decide +kernel
set_option maxRecDepth 20000 in
theorem iX0_settleHolders : ∀ w ∈ wsX00, w ∈ wsX0_settleHolders := by decide +kernel
set_option maxRecDepth 20000 in
theorem iX0_putHolder : ∀ w ∈ wsX00, w ∈ wsX0_putHolder := by decide +kernel
set_option maxRecDepth 20000 in
theorem iX0_told : ∀ w ∈ wsX00, w ∈ wsX0_told := by decide +kernel
set_option maxRecDepth 20000 in
theorem iX0_toggleAsked : ∀ w ∈ wsX00, w ∈ wsX0_toggleAsked := by decide +kernel
set_option maxRecDepth 20000 in
theorem iX0_complete : ∀ w ∈ wsX00, w ∈ wsX0_complete := by decide +kernel
set_option maxRecDepth 20000 in
theorem iX0_findValue : ∀ w ∈ wsX00, w ∈ wsX0_findValue := by decide +kernel
set_option maxRecDepth 20000 in
theorem iX0_findOrigin : ∀ w ∈ wsX00, w ∈ wsX0_findOrigin := by decide +kernel
set_option maxRecDepth 20000 in
theorem iX0_findOwnOrigin : ∀ w ∈ wsX00, w ∈ wsX0_findOwnOrigin := by decide +kernel
set_option maxRecDepth 20000 in
theorem iX0_findMissing : ∀ w ∈ wsX00, w ∈ wsX0_findMissing := by decide +kernel
set_option maxRecDepth 20000 in
theorem iX0_findPrice : ∀ w ∈ wsX00, w ∈ wsX0_findPrice := by decide +kernel
set_option maxRecDepth 20000 in
theorem iX0_sumUpParts : ∀ w ∈ wsX00, w ∈ wsX0_sumUpParts := by decide +kernel
set_option maxRecDepth 20000 in
theorem iX0_looksChanged : ∀ w ∈ wsX00, w ∈ wsX0_looksChanged := by decide +kernel
set_option maxRecDepth 20000 in
theorem iX0_rememberSights : ∀ w ∈ wsX00, w ∈ wsX0_rememberSights := by decide +kernel
set_option maxRecDepth 20000 in
theorem thI_checkParent : ∀ w ∈ (vx_atS RX0 126 "java/lang/IndexOutOfBoundsException" ["java/lang/RuntimeException", "java/lang/Exception"]).filter goodWord, w ∈ wsX0_checkParent := by decide +kernel
set_option maxRecDepth 20000 in
theorem thI_addGood : ∀ w ∈ (vx_atS RX0 126 "java/lang/IndexOutOfBoundsException" ["java/lang/RuntimeException", "java/lang/Exception"]).filter goodWord, w ∈ wsX0_addGood := by decide +kernel
set_option maxRecDepth 20000 in
theorem thS_addGood : ∀ w ∈ (vx_atS RX0 72 "java/lang/IllegalStateException" ["java/lang/RuntimeException", "java/lang/Exception"]).filter goodWord, w ∈ wsX0_addGood := by decide +kernel
set_option maxRecDepth 20000 in
theorem thI_checkGood : ∀ w ∈ (vx_atS RX0 126 "java/lang/IndexOutOfBoundsException" ["java/lang/RuntimeException", "java/lang/Exception"]).filter goodWord, w ∈ wsX0_checkGood := by decide +kernel
set_option maxRecDepth 20000 in
theorem thI_move : ∀ w ∈ (vx_atS RX0 126 "java/lang/IndexOutOfBoundsException" ["java/lang/RuntimeException", "java/lang/Exception"]).filter goodWord, w ∈ wsX0_move := by decide +kernel
set_option maxRecDepth 20000 in
theorem thS_move : ∀ w ∈ (vx_atS RX0 72 "java/lang/IllegalStateException" ["java/lang/RuntimeException", "java/lang/Exception"]).filter goodWord, w ∈ wsX0_move := by decide +kernel
set_option maxRecDepth 20000 in
theorem thI_delete : ∀ w ∈ (vx_atS RX0 126 "java/lang/IndexOutOfBoundsException" ["java/lang/RuntimeException", "java/lang/Exception"]).filter goodWord, w ∈ wsX0_delete := by decide +kernel
set_option maxRecDepth 20000 in
theorem thS_delete : ∀ w ∈ (vx_atS RX0 72 "java/lang/IllegalStateException" ["java/lang/RuntimeException", "java/lang/Exception"]).filter goodWord, w ∈ wsX0_delete := by decide +kernel
set_option maxRecDepth 20000 in
theorem thI_addPart : ∀ w ∈ (vx_atS RX0 126 "java/lang/IndexOutOfBoundsException" ["java/lang/RuntimeException", "java/lang/Exception"]).filter goodWord, w ∈ wsX0_addPart := by decide +kernel
set_option maxRecDepth 20000 in
theorem thS_addPart : ∀ w ∈ (vx_atS RX0 72 "java/lang/IllegalStateException" ["java/lang/RuntimeException", "java/lang/Exception"]).filter goodWord, w ∈ wsX0_addPart := by decide +kernel
set_option maxRecDepth 20000 in
theorem thA_addPart : ∀ w ∈ (vx_atS RX0 112 "java/lang/IllegalArgumentException" ["java/lang/RuntimeException", "java/lang/Exception"]).filter goodWord, w ∈ wsX0_addPart := by decide +kernel
set_option maxRecDepth 20000 in
theorem thI_setDiscount : ∀ w ∈ (vx_atS RX0 126 "java/lang/IndexOutOfBoundsException" ["java/lang/RuntimeException", "java/lang/Exception"]).filter goodWord, w ∈ wsX0_setDiscount := by decide +kernel
set_option maxRecDepth 20000 in
theorem thA_setDiscount : ∀ w ∈ (vx_atS RX0 112 "java/lang/IllegalArgumentException" ["java/lang/RuntimeException", "java/lang/Exception"]).filter goodWord, w ∈ wsX0_setDiscount := by decide +kernel
set_option maxRecDepth 20000 in
theorem thI_checkAttribute : ∀ w ∈ (vx_atS RX0 126 "java/lang/IndexOutOfBoundsException" ["java/lang/RuntimeException", "java/lang/Exception"]).filter goodWord, w ∈ wsX0_checkAttribute := by decide +kernel
set_option maxRecDepth 20000 in
theorem thI_checkShop : ∀ w ∈ (vx_atS RX0 126 "java/lang/IndexOutOfBoundsException" ["java/lang/RuntimeException", "java/lang/Exception"]).filter goodWord, w ∈ wsX0_checkShop := by decide +kernel
set_option maxRecDepth 20000 in
theorem thI_checkTongue : ∀ w ∈ (vx_atS RX0 126 "java/lang/IndexOutOfBoundsException" ["java/lang/RuntimeException", "java/lang/Exception"]).filter goodWord, w ∈ wsX0_checkTongue := by decide +kernel
set_option maxRecDepth 20000 in
theorem thI_draft : ∀ w ∈ (vx_atS RX0 126 "java/lang/IndexOutOfBoundsException" ["java/lang/RuntimeException", "java/lang/Exception"]).filter goodWord, w ∈ wsX0_draft := by decide +kernel
set_option maxRecDepth 20000 in
theorem thS_draft : ∀ w ∈ (vx_atS RX0 72 "java/lang/IllegalStateException" ["java/lang/RuntimeException", "java/lang/Exception"]).filter goodWord, w ∈ wsX0_draft := by decide +kernel
set_option maxRecDepth 20000 in
theorem thA_draft : ∀ w ∈ (vx_atS RX0 112 "java/lang/IllegalArgumentException" ["java/lang/RuntimeException", "java/lang/Exception"]).filter goodWord, w ∈ wsX0_draft := by decide +kernel
set_option maxRecDepth 20000 in
theorem thI_checkDraft : ∀ w ∈ (vx_atS RX0 126 "java/lang/IndexOutOfBoundsException" ["java/lang/RuntimeException", "java/lang/Exception"]).filter goodWord, w ∈ wsX0_checkDraft := by decide +kernel
set_option maxRecDepth 20000 in
theorem thI_approve : ∀ w ∈ (vx_atS RX0 126 "java/lang/IndexOutOfBoundsException" ["java/lang/RuntimeException", "java/lang/Exception"]).filter goodWord, w ∈ wsX0_approve := by decide +kernel
set_option maxRecDepth 20000 in
theorem thS_approve : ∀ w ∈ (vx_atS RX0 72 "java/lang/IllegalStateException" ["java/lang/RuntimeException", "java/lang/Exception"]).filter goodWord, w ∈ wsX0_approve := by decide +kernel
set_option maxRecDepth 20000 in
theorem thI_reject : ∀ w ∈ (vx_atS RX0 126 "java/lang/IndexOutOfBoundsException" ["java/lang/RuntimeException", "java/lang/Exception"]).filter goodWord, w ∈ wsX0_reject := by decide +kernel
set_option maxRecDepth 20000 in
theorem thS_reject : ∀ w ∈ (vx_atS RX0 72 "java/lang/IllegalStateException" ["java/lang/RuntimeException", "java/lang/Exception"]).filter goodWord, w ∈ wsX0_reject := by decide +kernel
set_option maxRecDepth 20000 in
theorem thA_pass : ∀ w ∈ (vx_atS RX0 112 "java/lang/IllegalArgumentException" ["java/lang/RuntimeException", "java/lang/Exception"]).filter goodWord, w ∈ wsX0_pass := by decide +kernel
set_option maxRecDepth 20000 in
theorem thI_value : ∀ w ∈ (vx_atS RX0 126 "java/lang/IndexOutOfBoundsException" ["java/lang/RuntimeException", "java/lang/Exception"]).filter goodWord, w ∈ wsX0_value := by decide +kernel
set_option maxRecDepth 20000 in
theorem thS_value : ∀ w ∈ (vx_atS RX0 72 "java/lang/IllegalStateException" ["java/lang/RuntimeException", "java/lang/Exception"]).filter goodWord, w ∈ wsX0_value := by decide +kernel
set_option maxRecDepth 20000 in
theorem thI_price : ∀ w ∈ (vx_atS RX0 126 "java/lang/IndexOutOfBoundsException" ["java/lang/RuntimeException", "java/lang/Exception"]).filter goodWord, w ∈ wsX0_price := by decide +kernel
set_option maxRecDepth 20000 in
theorem thS_price : ∀ w ∈ (vx_atS RX0 72 "java/lang/IllegalStateException" ["java/lang/RuntimeException", "java/lang/Exception"]).filter goodWord, w ∈ wsX0_price := by decide +kernel
end
section
/-! the two pictures: the cells of a hub, and of the reference -/
def hW (h : Nat) (ad : Nat → Nat) (cI cZ : ClassId) (ex : Nat → Bool) (pa : Nat → Option Nat) (di qu : Nat → Nat) (gc : Nat) (dg dp : Nat → Nat) (dv : Nat → Option Nat) (dd ds : Nat → Nat) (dc td : Nat) (ho : Nat → Option Nat) (ak : Nat → Bool) (se pr : Nat → Option Nat) : va_W :=
  [(h, .inr (0, [.ref (ad 0), .ref (ad 1), .ref (ad 2), .ref (ad 3), .int (nI gc), .ref (ad 5), .ref (ad 6), .ref (ad 7), .ref (ad 8), .ref (ad 9), .int (nI dc), .int (nI td), .ref (ad 12), .ref (ad 13), .ref (ad 14), .ref (ad 15)])),
   (ad 0, .inl (cZ, 16, .inl (fun j => bI (ex j)))),
   (ad 1, .inl (cI, 16, .inl (fun j => oI (pa j)))),
   (ad 2, .inl (cI, 16, .inl (fun j => nI (di j)))),
   (ad 3, .inl (cI, 256, .inl (fun j => nI (qu j)))),
   (ad 5, .inl (cI, 200, .inl (fun j => nI (dg j)))),
   (ad 6, .inl (cI, 200, .inl (fun j => nI (dp j)))),
   (ad 7, .inl (cI, 200, .inl (fun j => oI (dv j)))),
   (ad 8, .inl (cI, 200, .inl (fun j => nI (dd j)))),
   (ad 9, .inl (cI, 200, .inl (fun j => nI (ds j)))),
   (ad 12, .inl (cI, 1536, .inl (fun j => oI (ho j)))),
   (ad 13, .inl (cZ, 18, .inl (fun j => bI (ak j)))),
   (ad 14, .inl (cI, 864, .inl (fun j => oI (se j)))),
   (ad 15, .inl (cI, 16, .inl (fun j => oI (pr j))))]
abbrev hT (cI cZ : ClassId) : List (ClassId × FieldType) := [(cZ, .boolean), (cI, .int)]
def mW (h : Nat) (ad : Nat → Nat) (cI cJ cZ : ClassId) (td gc : Nat) (ex : Nat → Bool) (pa : Nat → Option Nat) (di qu : Nat → Nat) (dc : Nat) (dg da : Nat → Nat) (dh dt dv : Nat → Option Nat) (dd ds : Nat → Nat) (ak : Nat → Bool) (se pr : Nat → Option Nat) (th : Nat) : va_W :=
  [(h, .inr (1, [.int (nI td), .int (nI gc), .ref (ad 2), .ref (ad 3), .ref (ad 4), .ref (ad 5), .int (nI dc), .ref (ad 7), .ref (ad 8), .ref (ad 9), .ref (ad 10), .ref (ad 11), .ref (ad 12), .ref (ad 13), .ref (ad 14), .ref (ad 15), .ref (ad 16), .int (nI th)])),
   (ad 2, .inl (cZ, 16, .inl (fun j => bI (ex j)))),
   (ad 3, .inl (cI, 16, .inl (fun j => oI (pa j)))),
   (ad 4, .inl (cI, 16, .inl (fun j => nI (di j)))),
   (ad 5, .inl (cI, 256, .inl (fun j => nI (qu j)))),
   (ad 7, .inl (cI, 200, .inl (fun j => nI (dg j)))),
   (ad 8, .inl (cI, 200, .inl (fun j => nI (da j)))),
   (ad 9, .inl (cI, 200, .inl (fun j => oI (dh j)))),
   (ad 10, .inl (cI, 200, .inl (fun j => oI (dt j)))),
   (ad 11, .inl (cI, 200, .inl (fun j => oI (dv j)))),
   (ad 12, .inl (cI, 200, .inl (fun j => nI (dd j)))),
   (ad 13, .inl (cI, 200, .inl (fun j => nI (ds j)))),
   (ad 14, .inl (cZ, 18, .inl (fun j => bI (ak j)))),
   (ad 15, .inl (cI, 864, .inl (fun j => oI (se j)))),
   (ad 16, .inl (cJ, 16, .inr (.inl (fun j => oL (pr j)))))]
abbrev mT (cI cJ cZ : ClassId) : List (ClassId × FieldType) := [(cZ, .boolean), (cI, .int), (cJ, .long)]
/-- the forest: each good that is there has its level (ghost) and its parent; the others have none -/
def TI (ex : Nat → Bool) (pa : Nat → Option Nat) (lev : Nat → Nat) : Prop :=
  ∀ g, g < 16 → ex g = true → lev g ≤ 2 ∧ ((pa g = none ∧ lev g = 0) ∨ ∃ p, p < 16 ∧ ex p = true ∧ pa g = some p ∧ lev g = lev p + 1)
theorem TI_some {ex : Nat → Bool} {pa : Nat → Option Nat} {lev : Nat → Nat} (h : TI ex pa lev) {g p : Nat} (hg : g < 16) (he : ex g = true) (hp : pa g = some p) : p < 16 ∧ ex p = true ∧ lev g = lev p + 1 := by
  obtain ⟨-, ⟨h1, -⟩ | ⟨q, h1, h2, h3, h4⟩⟩ := h g hg he
  · rw [h1] at hp; cases hp
  · rw [h3] at hp
    cases hp
    exact ⟨h1, h2, h4⟩
theorem TI_none {ex : Nat → Bool} {pa : Nat → Option Nat} {lev : Nat → Nat} (h : TI ex pa lev) {g : Nat} (hg : g < 16) (he : ex g = true) (hp : pa g = none) : lev g = 0 := by
  obtain ⟨-, ⟨-, h1⟩ | ⟨q, h1, h2, h3, h4⟩⟩ := h g hg he
  · exact h1
  · rw [h3] at hp; cases hp
theorem TI_le {ex : Nat → Bool} {pa : Nat → Option Nat} {lev : Nat → Nat} (h : TI ex pa lev) {g : Nat} (hg : g < 16) (he : ex g = true) : lev g ≤ 2 := (h g hg he).1
/-- a parent or none: what it may be -/
def okO (ex : Nat → Bool) (o : Option Nat) : Prop := ∀ k, o = some k → k < 16 ∧ ex k = true
theorem TI_ok {ex : Nat → Bool} {pa : Nat → Option Nat} {lev : Nat → Nat} (h : TI ex pa lev) {g : Nat} (hg : g < 16) (he : ex g = true) : okO ex (pa g) := fun _ hk => ⟨(TI_some h hg he hk).1, (TI_some h hg he hk).2.1⟩
/-- the level of a good, -1 for none -/
def lvZ (lev : Nat → Nat) (o : Option Nat) : Int := match o with
  | none => -1
  | some g => (lev g : Int)
/-- t is k, or above it, within n steps -/
def bel (pa : Nat → Option Nat) (t : Nat) : Nat → Option Nat → Bool
  | 0, _ => false
  | _ + 1, none => false
  | n + 1, some k => (k == t) || bel pa t n (pa k)
/-- some number below n -/
def exU (f : Nat → Bool) : Nat → Bool
  | 0 => false
  | n + 1 => exU f n || f n
theorem exU_no {f : Nat → Bool} : ∀ {n : Nat}, exU f n = false ↔ ∀ k, k < n → f k = false
  | 0 => ⟨fun _ k hk => absurd hk (Nat.not_lt_zero k), fun _ => rfl⟩
  | n + 1 => by
    rw [exU, Bool.or_eq_false_iff, exU_no (n := n)]
    constructor
    · intro h k hk
      rcases Nat.lt_or_ge k n with q | q
      · exact h.1 k q
      · have e : k = n := by omega
        rw [e]; exact h.2
    · intro h
      exact ⟨fun k hk => h k (by omega), h n (by omega)⟩
theorem exU_yes {f : Nat → Bool} {n k : Nat} (hk : k < n) (h : f k = true) : exU f n = true := by
  cases e : exU f n with
  | true => rfl
  | false => rw [exU_no.mp e k hk] at h; cases h
/-- the place of a draft: shop and tongue count from 1, 0 is all -/
def plc (g a sh to : Nat) : Nat := (g * 6 + a) * 16 + (sh * 4 + to)
theorem lvZ_ge (lev : Nat → Nat) (o : Option Nat) : -1 ≤ lvZ lev o := by
  cases o with
  | none => exact Int.le_refl _
  | some g => show (-1 : Int) ≤ (lev g : Int); omega
theorem lvZ_le {ex : Nat → Bool} {pa : Nat → Option Nat} {lev : Nat → Nat} (h : TI ex pa lev) {o : Option Nat} (ho : okO ex o) : lvZ lev o ≤ 2 := by
  cases o with
  | none => show (-1 : Int) ≤ 2; omega
  | some g =>
    have h1 := TI_le h (ho g rfl).1 (ho g rfl).2
    show (lev g : Int) ≤ 2
    omega
theorem lvZ_pa {ex : Nat → Bool} {pa : Nat → Option Nat} {lev : Nat → Nat} (h : TI ex pa lev) {g : Nat} (hg : g < 16) (he : ex g = true) : lvZ lev (pa g) = (lev g : Int) - 1 := by
  cases hp : pa g with
  | none =>
    have h1 := TI_none h hg he hp
    show (-1 : Int) = (lev g : Int) - 1
    omega
  | some q =>
    have h1 := (TI_some h hg he hp).2.2
    show (lev q : Int) = (lev g : Int) - 1
    omega
/-- each parent is a number below 16 -/
def PR (pa : Nat → Option Nat) : Prop := ∀ g, g < 16 → ∀ k, pa g = some k → k < 16
/-- as bel, over goods that are there -/
def wth (ex : Nat → Bool) (pa : Nat → Option Nat) (t : Nat) : Nat → Option Nat → Bool
  | 0, _ => false
  | _ + 1, none => false
  | n + 1, some k => ex k && ((k == t) || wth ex pa t n (pa k))
theorem wth_some {ex : Nat → Bool} {pa : Nat → Option Nat} {t n m k : Nat} (h : n = m + 1) : wth ex pa t n (some k) = (ex k && ((k == t) || wth ex pa t m (pa k))) := by subst h; rfl
theorem wth_none {ex : Nat → Bool} {pa : Nat → Option Nat} {t n : Nat} : wth ex pa t n none = false := by cases n <;> rfl
theorem retT {b : Bool} (h : b = true) : nI 1 = bI b := by rw [h]; decide
theorem retF {b : Bool} (h : b = false) : nI 0 = bI b := by rw [h]; decide
/-- the first of two that is one -/
def orE : Option Nat → Option Nat → Option Nat
  | some x, _ => some x
  | none, y => y
theorem orE_l {x y : Option Nat} (h : x ≠ none) : orE x y = x := by
  cases x with
  | none => exact absurd rfl h
  | some k => rfl
theorem orE_r {x y : Option Nat} (h : x = none) : orE x y = y := by subst h; rfl
theorem orE_in {x y : Option Nat} {P : Nat → Prop} (hx : ∀ k, x = some k → P k) (hy : ∀ k, y = some k → P k) : ∀ k, orE x y = some k → P k := by
  intro k h
  cases x with
  | none => exact hy k h
  | some j => exact hx k h
/-- the draft that decides among a good's own places -/
def own (ho : Nat → Option Nat) (g a sh to : Nat) : Option Nat := orE (ho (plc g a sh to)) (orE (ho (plc g a sh 0)) (orE (ho (plc g a 0 to)) (ho (plc g a 0 0))))
theorem plc_lt {g a sh to : Nat} (hg : g < 16) (ha : a < 6) (hs : sh < 4) (ht : to < 4) : plc g a sh to < 1536 := by unfold plc; omega
/-- each holder is a draft that has been entered -/
def HO (ho : Nat → Option Nat) (dc : Nat) : Prop := ∀ q, q < 1536 → ∀ k, ho q = some k → k < dc
theorem own_in {ho : Nat → Option Nat} {dc g a sh to : Nat} (h : HO ho dc) (hg : g < 16) (ha : a < 6) (hs : sh < 4) (ht : to < 4) : ∀ k, own ho g a sh to = some k → k < dc :=
  orE_in (h _ (plc_lt hg ha hs ht)) (orE_in (h _ (plc_lt hg ha hs (by omega))) (orE_in (h _ (plc_lt hg ha (by omega) ht)) (h _ (plc_lt hg ha (by omega) (by omega)))))
/-- the draft that decides, in the good and above it -/
def org (ex : Nat → Bool) (pa ho : Nat → Option Nat) (a sh to : Nat) : Nat → Option Nat → Option Nat
  | 0, _ => none
  | _ + 1, none => none
  | n + 1, some k => if ex k = true then orE (own ho k a sh to) (org ex pa ho a sh to n (pa k)) else none
theorem org_some {ex : Nat → Bool} {pa ho : Nat → Option Nat} {a sh to n m k : Nat} (h : n = m + 1) : org ex pa ho a sh to n (some k) = if ex k = true then orE (own ho k a sh to) (org ex pa ho a sh to m (pa k)) else none := by subst h; rfl
theorem org_none {ex : Nat → Bool} {pa ho : Nat → Option Nat} {a sh to n : Nat} : org ex pa ho a sh to n none = none := by cases n <;> rfl
theorem org_in {ex : Nat → Bool} {pa ho : Nat → Option Nat} {dc a sh to : Nat} (h : HO ho dc) (hp : PR pa) (ha : a < 6) (hs : sh < 4) (ht : to < 4) : ∀ (n : Nat) (o : Option Nat), (∀ k, o = some k → k < 16) → ∀ k, org ex pa ho a sh to n o = some k → k < dc
  | 0, _, _, k, e => by cases e
  | _ + 1, none, _, k, e => by cases e
  | n + 1, some q, hq, k, e => by
    rw [org_some rfl] at e
    by_cases c : ex q = true
    · rw [if_pos c] at e
      exact orE_in (own_in h (hq q rfl) ha hs ht) (org_in h hp ha hs ht n (pa q) (hp q (hq q rfl))) k e
    · rw [if_neg c] at e; cases e
/-- the value that a good has -/
def vlu (ex : Nat → Bool) (pa ho dv : Nat → Option Nat) (a sh to g : Nat) : Option Nat := match org ex pa ho a sh to 3 (some g) with
  | none => none
  | some k => dv k
theorem vlu_none {ex : Nat → Bool} {pa ho dv : Nat → Option Nat} {a sh to g : Nat} (h : none = org ex pa ho a sh to 3 (some g)) : vlu ex pa ho dv a sh to g = none := by unfold vlu; rw [← h]
theorem vlu_some {ex : Nat → Bool} {pa ho dv : Nat → Option Nat} {a sh to g k : Nat} (h : some k = org ex pa ho a sh to 3 (some g)) : vlu ex pa ho dv a sh to g = dv k := by unfold vlu; rw [← h]
/-- the values that drafts tell are at most 100000 -/
def DV (dv : Nat → Option Nat) (dc : Nat) : Prop := ∀ k, k < dc → ∀ v, dv k = some v → v ≤ 100000
theorem vlu_in {ex : Nat → Bool} {pa ho dv : Nat → Option Nat} {dc a sh to g : Nat} (h : HO ho dc) (hp : PR pa) (hv : DV dv dc) (hg : g < 16) (ha : a < 6) (hs : sh < 4) (ht : to < 4) : ∀ v, vlu ex pa ho dv a sh to g = some v → v ≤ 100000 := by
  intro v e
  cases ho2 : org ex pa ho a sh to 3 (some g) with
  | none => rw [vlu_none ho2.symm] at e; cases e
  | some k =>
    rw [vlu_some ho2.symm] at e
    exact hv k (org_in h hp ha hs ht 3 (some g) (fun k hk => by cases hk; exact hg) k ho2) v e
/-- a set of numbers below n, as bits -/
def bset (f : Nat → Bool) : Nat → Nat
  | 0 => 0
  | n + 1 => if f n = true then bset f n ||| 2 ^ n else bset f n
theorem bset_t {f : Nat → Bool} {n : Nat} (h : f n = true) : bset f (n + 1) = bset f n ||| 2 ^ n := by rw [bset, if_pos h]
theorem bset_f {f : Nat → Bool} {n : Nat} (h : f n = false) : bset f (n + 1) = bset f n := by rw [bset, if_neg (by rw [h]; decide)]
theorem bset_lt (f : Nat → Bool) : ∀ n, bset f n < 2 ^ n
  | 0 => Nat.zero_lt_one
  | n + 1 => by
    have h := bset_lt f n
    rw [bset]
    by_cases c : f n = true
    · rw [if_pos c]
      exact Nat.or_lt_two_pow (Nat.lt_trans h (Nat.pow_lt_pow_right (by decide) (Nat.lt_succ_self n))) (Nat.pow_lt_pow_right (by decide) (Nat.lt_succ_self n))
    · rw [if_neg c]
      exact Nat.lt_trans h (Nat.pow_lt_pow_right (by decide) (Nat.lt_succ_self n))
theorem bset_lt' (f : Nat → Bool) {n m : Nat} (h : n ≤ m) : bset f n < 2 ^ m := Nat.lt_of_lt_of_le (bset_lt f n) (Nat.pow_le_pow_right (by decide) h)
theorem bset_ex {f : Nat → Bool} : ∀ {n : Nat}, bset f n = 0 ↔ exU f n = false
  | 0 => ⟨fun _ => rfl, fun _ => rfl⟩
  | n + 1 => by
    rw [bset, exU, Bool.or_eq_false_iff, ← bset_ex (n := n)]
    by_cases c : f n = true
    · rw [if_pos c, c]
      constructor
      · intro h
        have h1 : 2 ^ n ≤ bset f n ||| 2 ^ n := Nat.right_le_or
        have h2 : 0 < 2 ^ n := Nat.two_pow_pos n
        omega
      · intro h; cases h.2
    · rw [if_neg c]
      exact ⟨fun h => ⟨h, by cases h9 : f n with | false => rfl | true => exact absurd h9 c⟩, fun h => h.1⟩
theorem nI_or (a b : Nat) : nI a ||| nI b = nI (a ||| b) := by
  apply Int32.toBitVec_inj.1
  show BitVec.ofNat 32 a ||| BitVec.ofNat 32 b = BitVec.ofNat 32 (a ||| b)
  apply BitVec.eq_of_getLsbD_eq
  intro i hi
  simp [hi]
theorem shl1 : ∀ i, i < 16 → nI 1 <<< (nI i &&& 31) = nI (2 ^ i) := by decide
/-- what a shop lacks of a good -/
def lck (ex : Nat → Bool) (pa ho dv : Nat → Option Nat) (ak : Nat → Bool) (g sh to : Nat) : Nat → Bool := fun a => ak (sh * 6 + a) && decide (vlu ex pa ho dv a (sh + 1) (to + 1) g = none)
/-- what a shop has seen of a good is something else now -/
def lkj (ex : Nat → Bool) (pa ho dv se : Nat → Option Nat) (sp g : Nat) : Nat → Bool := fun j => decide (se (sp * 288 + g * 18 + j) ≠ vlu ex pa ho dv (j / 3) (sp + 1) (j % 3 + 1) g)
def lkd (ex : Nat → Bool) (pa ho dv se : Nat → Option Nat) (sp : Nat) : Nat → Bool := fun g => exU (lkj ex pa ho dv se sp g) 18
/-- of the drafts below n that f picks: the one with the latest day, of several the last -/
def bst (f : Nat → Bool) (dd : Nat → Nat) : Nat → Option Nat
  | 0 => none
  | n + 1 => if f n = true ∧ (∀ r, bst f dd n = some r → dd r ≤ dd n) then some n else bst f dd n
theorem bst_in {f : Nat → Bool} {dd : Nat → Nat} : ∀ (n k : Nat), bst f dd n = some k → k < n ∧ f k = true
  | 0, k, h => by cases h
  | n + 1, k, h => by
    rw [bst] at h
    by_cases c : f n = true ∧ (∀ r, bst f dd n = some r → dd r ≤ dd n)
    · rw [if_pos c] at h
      cases h
      exact ⟨Nat.lt_succ_self n, c.1⟩
    · rw [if_neg c] at h
      exact ⟨Nat.lt_succ_of_lt (bst_in n k h).1, (bst_in n k h).2⟩
theorem bst_skip {f : Nat → Bool} {dd : Nat → Nat} {n : Nat} (h : f n = false) : bst f dd (n + 1) = bst f dd n := by
  rw [bst, if_neg (fun c => by rw [h] at c; cases c.1)]
/-- one draft is put at its place -/
def phd (ho : Nat → Option Nat) (dp dd : Nat → Nat) (d : Nat) : Nat → Option Nat := if (∀ r, ho (dp d) = some r → dd r ≤ dd d) then va_up ho (dp d) (some d) else ho
theorem phd_none {ho : Nat → Option Nat} {dp dd : Nat → Nat} {d : Nat} (h : none = ho (dp d)) : phd ho dp dd d = va_up ho (dp d) (some d) := if_pos (fun r e => by rw [← h] at e; cases e)
theorem phd_ge {ho : Nat → Option Nat} {dp dd : Nat → Nat} {d q : Nat} (h : some q = ho (dp d)) (h2 : dd q ≤ dd d) : phd ho dp dd d = va_up ho (dp d) (some d) := if_pos (fun r e => by rw [← h] at e; cases e; exact h2)
theorem phd_lt {ho : Nat → Option Nat} {dp dd : Nat → Nat} {d q : Nat} (h : some q = ho (dp d)) (h2 : dd d < dd q) : phd ho dp dd d = ho := if_neg (fun e => Nat.not_le.mpr h2 (e q h.symm))
/-- the drafts that may hold at the place q -/
def drf (ds dd dp : Nat → Nat) (td q : Nat) : Nat → Bool := fun k => decide (ds k = 2) && (decide (dd k ≤ td) && decide (dp k = q))
/-- the holders, with the drafts below n settled -/
def stl (ho : Nat → Option Nat) (ds dd dp : Nat → Nat) (td n : Nat) : Nat → Option Nat := fun q => if q < 1536 then bst (drf ds dd dp td q) dd n else ho q
def cle (ho : Nat → Option Nat) (n : Nat) : Nat → Option Nat := fun q => if q < n then none else ho q
theorem cle_0 (ho : Nat → Option Nat) : cle ho 0 = ho := rfl
theorem cle_s (ho : Nat → Option Nat) (n : Nat) : cle ho (n + 1) = va_up (cle ho n) n none := by
  funext q
  unfold cle va_up
  by_cases h : q = n
  · rw [if_pos h, if_pos (by omega)]
  · rw [if_neg h]
    dsimp only
    by_cases h2 : q < n
    · rw [if_pos h2, if_pos (by omega)]
    · rw [if_neg h2, if_neg (by omega)]
theorem stl_HO {ho : Nat → Option Nat} {ds dd dp : Nat → Nat} {td n dc : Nat} (h : n ≤ dc) : HO (stl ho ds dd dp td n) dc := fun q hq k e => by
  unfold stl at e
  rw [if_pos hq] at e
  exact Nat.lt_of_lt_of_le (bst_in n k e).1 h
theorem stl_skip {ho : Nat → Option Nat} {ds dd dp : Nat → Nat} {td n : Nat} (h : ds n ≠ 2 ∨ td < dd n) : stl ho ds dd dp td (n + 1) = stl ho ds dd dp td n := by
  funext q
  unfold stl
  by_cases hq : q < 1536
  · rw [if_pos hq, if_pos hq, bst_skip]
    unfold drf
    rcases h with h | h
    · rw [decide_eq_false h]; rfl
    · rw [decide_eq_false (show ¬ dd n ≤ td by omega), Bool.false_and, Bool.and_false]
  · rw [if_neg hq, if_neg hq]
theorem stl_put {ho : Nat → Option Nat} {ds dd dp : Nat → Nat} {td n : Nat} (h1 : ds n = 2) (h2 : dd n ≤ td) (h3 : dp n < 1536) : stl ho ds dd dp td (n + 1) = phd (stl ho ds dd dp td n) dp dd n := by
  have hx : stl ho ds dd dp td n (dp n) = bst (drf ds dd dp td (dp n)) dd n := by unfold stl; rw [if_pos h3]
  have hy : drf ds dd dp td (dp n) n = true := by unfold drf; rw [decide_eq_true h1, decide_eq_true h2, decide_eq_true rfl]; rfl
  funext q
  unfold phd
  rw [hx]
  by_cases hq : q = dp n
  · subst hq
    show (if dp n < 1536 then bst (drf ds dd dp td (dp n)) dd (n + 1) else ho (dp n)) = _
    rw [if_pos h3, bst]
    by_cases c : (∀ r, bst (drf ds dd dp td (dp n)) dd n = some r → dd r ≤ dd n)
    · rw [if_pos ⟨hy, c⟩, if_pos c]
      unfold va_up
      rw [if_pos rfl]
    · rw [if_neg (fun z => c z.2), if_neg c, hx]
  · have h9 : drf ds dd dp td q n = false := by unfold drf; rw [decide_eq_false (show ¬ dp n = q from fun e => hq e.symm), Bool.and_false, Bool.and_false]
    have h8 : stl ho ds dd dp td (n + 1) q = stl ho ds dd dp td n q := by
      unfold stl
      by_cases hq2 : q < 1536
      · rw [if_pos hq2, if_pos hq2, bst_skip h9]
      · rw [if_neg hq2, if_neg hq2]
    rw [h8]
    by_cases c : (∀ r, bst (drf ds dd dp td (dp n)) dd n = some r → dd r ≤ dd n)
    · rw [if_pos c]
      unfold va_up
      rw [if_neg hq]
    · rw [if_neg c]
/-- the drafts of a good are deleted -/
def kil (ds dg : Nat → Nat) (g n : Nat) : Nat → Nat := fun k => if k < n ∧ dg k = g then 4 else ds k
theorem kil_0 (ds dg : Nat → Nat) (g : Nat) : kil ds dg g 0 = ds := by
  funext k
  unfold kil
  rw [if_neg (fun z => Nat.not_lt_zero k z.1)]
theorem kil_t {ds dg : Nat → Nat} {g n : Nat} (h : dg n = g) : kil ds dg g (n + 1) = va_up (kil ds dg g n) n 4 := by
  funext k
  unfold kil va_up
  by_cases e : k = n
  · rw [if_pos e, if_pos ⟨by omega, by rw [e]; exact h⟩]
  · rw [if_neg e]
    dsimp only
    by_cases c : k < n ∧ dg k = g
    · rw [if_pos c, if_pos ⟨by omega, c.2⟩]
    · rw [if_neg c, if_neg (fun z => c ⟨by omega, z.2⟩)]
theorem kil_f {ds dg : Nat → Nat} {g n : Nat} (h : dg n ≠ g) : kil ds dg g (n + 1) = kil ds dg g n := by
  funext k
  unfold kil
  by_cases c : k < n ∧ dg k = g
  · rw [if_pos c, if_pos ⟨by omega, c.2⟩]
  · rw [if_neg c, if_neg (fun z => c ⟨(Nat.lt_or_ge k n).elim id (fun h8 => absurd (show dg n = g by rw [show n = k by omega]; exact z.2) h), z.2⟩)]
/-- what a shop sees is kept -/
def rmb (se v : Nat → Option Nat) (b n : Nat) : Nat → Option Nat := fun k => if b ≤ k ∧ k < b + n then v (k - b) else se k
theorem rmb_0 (se v : Nat → Option Nat) (b : Nat) : rmb se v b 0 = se := by
  funext k
  unfold rmb
  rw [if_neg (by omega)]
theorem rmb_s (se v : Nat → Option Nat) (b n : Nat) : rmb se v b (n + 1) = va_up (rmb se v b n) (b + n) (v n) := by
  funext k
  unfold rmb va_up
  by_cases e : k = b + n
  · rw [if_pos e, if_pos ⟨by omega, by omega⟩, show k - b = n by omega]
  · rw [if_neg e]
    dsimp only
    by_cases c : b ≤ k ∧ k < b + n
    · rw [if_pos c, if_pos ⟨c.1, by omega⟩]
    · rw [if_neg c, if_neg (fun z => c ⟨z.1, by omega⟩)]
def sgt (ex : Nat → Bool) (pa ho dv : Nat → Option Nat) (sp g : Nat) : Nat → Option Nat := fun j => vlu ex pa ho dv (j / 3) (sp + 1) (j % 3 + 1) g
theorem wth_ex {ex : Nat → Bool} {pa : Nat → Option Nat} {t n k : Nat} (h : wth ex pa t n (some k) = true) : ex k = true := by
  cases n with
  | zero => cases h
  | succ m =>
    rw [wth_some rfl] at h
    cases e : ex k with
    | true => rfl
    | false => rw [e] at h; cases h
/-- the deepest level among those that f picks, b at least -/
def mxd (f : Nat → Bool) (lev : Nat → Nat) (b : Nat) : Nat → Nat
  | 0 => b
  | n + 1 => if f n = true then max (mxd f lev b n) (lev n) else mxd f lev b n
theorem mxd_t {f : Nat → Bool} {lev : Nat → Nat} {b n : Nat} (h : f n = true) : mxd f lev b (n + 1) = max (mxd f lev b n) (lev n) := by rw [mxd, if_pos h]
theorem mxd_f {f : Nat → Bool} {lev : Nat → Nat} {b n : Nat} (h : f n = false) : mxd f lev b (n + 1) = mxd f lev b n := by rw [mxd, if_neg (by rw [h]; decide)]
theorem zmax {a b : Nat} (ha : a ≤ 2) (hb : b ≤ 2) : (if zI ((a : Nat) : Int) < zI ((b : Nat) : Int) then zI ((b : Nat) : Int) else zI ((a : Nat) : Int)) = zI ((max a b : Nat) : Int) := by
  by_cases h : a < b
  · rw [if_pos ((zI_lt (by omega) (by omega)).mpr (by omega)), Nat.max_eq_right (by omega)]
  · rw [if_neg (fun e => h (by have := (zI_lt (by omega) (by omega)).mp e; omega)), Nat.max_eq_left (by omega)]
/-- prices of bundles -/
def vz (o : Option Nat) : Nat := match o with
  | none => 0
  | some v => v
def pos (qu : Nat → Nat) (g : Nat) : Nat → Bool := fun p => decide (0 < qu (g * 16 + p))
def nop (qu : Nat → Nat) (pr : Nat → Option Nat) (g : Nat) : Nat → Bool := fun p => decide (0 < qu (g * 16 + p)) && decide (pr p = none)
def psm (qu : Nat → Nat) (pr : Nat → Option Nat) (g : Nat) : Nat → Nat
  | 0 => 0
  | n + 1 => psm qu pr g n + vz (pr n) * qu (g * 16 + n)
def bnd (qu : Nat → Nat) (pr : Nat → Option Nat) (di : Nat → Nat) (g : Nat) : Option Nat :=
  if exU (nop qu pr g) g = true then none else if exU (pos qu g) g = true ∧ psm qu pr g g * (100 - di g) / 100 ≤ 1000000000 then some (psm qu pr g g * (100 - di g) / 100) else none
theorem psm_le {qu : Nat → Nat} {pr : Nat → Option Nat} {g : Nat} (hq : ∀ k, k < 256 → qu k ≤ 20) (hp : ∀ k, k < 16 → ∀ v, pr k = some v → v ≤ 1000000000) (hg : g < 16) : ∀ n, n ≤ 16 → psm qu pr g n ≤ n * 20000000000
  | 0, _ => Nat.le_of_eq rfl
  | n + 1, h => by
    have h1 := psm_le hq hp hg n (by omega)
    have h2 := hq (g * 16 + n) (by omega)
    have h3 : vz (pr n) ≤ 1000000000 := by
      cases e : pr n with
      | none => exact Nat.zero_le _
      | some v => exact hp n (by omega) v e
    have h4 : vz (pr n) * qu (g * 16 + n) ≤ 1000000000 * 20 := Nat.mul_le_mul h3 h2
    show psm qu pr g n + vz (pr n) * qu (g * 16 + n) ≤ (n + 1) * 20000000000
    omega
theorem psm_0 {qu : Nat → Nat} {pr : Nat → Option Nat} {g n : Nat} (h : qu (g * 16 + n) = 0) : psm qu pr g (n + 1) = psm qu pr g n := by
  show psm qu pr g n + vz (pr n) * qu (g * 16 + n) = psm qu pr g n
  rw [h, Nat.mul_zero, Nat.add_zero]
theorem psm_s {qu : Nat → Nat} {pr : Nat → Option Nat} {g n v : Nat} (h : pr n = some v) : psm qu pr g (n + 1) = psm qu pr g n + v * qu (g * 16 + n) := by
  show psm qu pr g n + vz (pr n) * qu (g * 16 + n) = psm qu pr g n + v * qu (g * 16 + n)
  rw [h]; rfl
theorem exU_s {f : Nat → Bool} {n : Nat} (h : f n = false) : exU f (n + 1) = exU f n := by rw [exU, h, Bool.or_false]
theorem exU_t {f : Nat → Bool} {n : Nat} (h : f n = true) : exU f (n + 1) = true := by rw [exU, h, Bool.or_true]
theorem dsc_le {x d : Nat} : x * (100 - d) / 100 ≤ x := by
  have h : x * (100 - d) ≤ x * 100 := Nat.mul_le_mul_left x (by omega)
  omega
theorem bnd_in {qu : Nat → Nat} {pr : Nat → Option Nat} {di : Nat → Nat} {g : Nat} : ∀ v, bnd qu pr di g = some v → v ≤ 1000000000 := by
  intro v e
  unfold bnd at e
  split at e
  · cases e
  · split at e
    · rename_i h
      cases e
      exact h.2
    · cases e
/-- the prices of the goods below n -/
def prs (vl : Nat → Option Nat) (qu di : Nat → Nat) (pr : Nat → Option Nat) : Nat → Nat → Option Nat
  | 0 => pr
  | n + 1 => va_up (prs vl qu di pr n) n (match vl n with | some v => some v | none => bnd qu (prs vl qu di pr n) di n)
theorem prs_v {vl : Nat → Option Nat} {qu di : Nat → Nat} {pr : Nat → Option Nat} {n : Nat} (h : vl n ≠ none) : prs vl qu di pr (n + 1) = va_up (prs vl qu di pr n) n (vl n) := by
  show va_up (prs vl qu di pr n) n (match vl n with | some v => some v | none => bnd qu (prs vl qu di pr n) di n) = _
  cases e : vl n with
  | none => exact absurd e h
  | some v => rfl
theorem prs_b {vl : Nat → Option Nat} {qu di : Nat → Nat} {pr : Nat → Option Nat} {n : Nat} (h : vl n = none) : prs vl qu di pr (n + 1) = va_up (prs vl qu di pr n) n (bnd qu (prs vl qu di pr n) di n) := by
  show va_up (prs vl qu di pr n) n (match vl n with | some v => some v | none => bnd qu (prs vl qu di pr n) di n) = _
  rw [h]
theorem prs_in {vl : Nat → Option Nat} {qu di : Nat → Nat} {pr : Nat → Option Nat} (hv : ∀ k, k < 16 → ∀ v, vl k = some v → v ≤ 100000) (hp : ∀ k, k < 16 → ∀ v, pr k = some v → v ≤ 1000000000) : ∀ n, n ≤ 16 → ∀ k, k < 16 → ∀ v, prs vl qu di pr n k = some v → v ≤ 1000000000
  | 0, _ => hp
  | n + 1, h => fun k hk v e => by
    have ih := prs_in hv hp (qu := qu) (di := di) n (by omega)
    by_cases c : vl n = none
    · rw [prs_b c] at e
      unfold va_up at e
      by_cases ek : k = n
      · rw [if_pos ek] at e; exact bnd_in v e
      · rw [if_neg ek] at e; exact ih k hk v e
    · rw [prs_v c] at e
      unfold va_up at e
      by_cases ek : k = n
      · rw [if_pos ek] at e
        exact Nat.le_trans (hv n (by omega) v e) (by decide)
      · rw [if_neg ek] at e; exact ih k hk v e
def sx (o : Option Nat) : Nat := match o with
  | none => 0
  | some k => k + 1
theorem mxd_le {f : Nat → Bool} {lev : Nat → Nat} {b : Nat} (hb : b ≤ 2) (h : ∀ k, k < 16 → f k = true → lev k ≤ 2) : ∀ n, n ≤ 16 → mxd f lev b n ≤ 2
  | 0, _ => hb
  | n + 1, hn => by
    have ih := mxd_le hb h n (by omega)
    by_cases c : f n = true
    · rw [mxd_t c]; exact Nat.max_le.mpr ⟨ih, h n (by omega) c⟩
    · rw [mxd, if_neg c]; exact ih
theorem mxd_ge {f : Nat → Bool} {lev : Nat → Nat} {b : Nat} : ∀ n, b ≤ mxd f lev b n
  | 0 => Nat.le_refl b
  | n + 1 => by
    have ih := @mxd_ge f lev b n
    by_cases c : f n = true
    · rw [mxd_t c]; exact Nat.le_trans ih (Nat.le_max_left _ _)
    · rw [mxd, if_neg c]; exact ih
def clr (qu : Nat → Nat) (b n : Nat) : Nat → Nat := fun k => if b ≤ k ∧ k < b + n then 0 else qu k
theorem clr_0 (qu : Nat → Nat) (b : Nat) : clr qu b 0 = qu := by
  funext k
  unfold clr
  rw [if_neg (by omega)]
theorem clr_s (qu : Nat → Nat) (b n : Nat) : clr qu b (n + 1) = va_up (clr qu b n) (b + n) 0 := by
  funext k
  unfold clr va_up
  by_cases e : k = b + n
  · rw [if_pos e, if_pos ⟨by omega, by omega⟩]
  · rw [if_neg e]
    dsimp only
    by_cases c : b ≤ k ∧ k < b + n
    · rw [if_pos c, if_pos ⟨c.1, by omega⟩]
    · rw [if_neg c, if_neg (fun z => c ⟨z.1, by omega⟩)]
theorem kil_le {ds dg : Nat → Nat} {g n dc : Nat} (h : ∀ k, k < dc → ds k ≤ 4) : ∀ k, k < dc → kil ds dg g n k ≤ 4 := fun k hk => by
  unfold kil
  by_cases c : k < n ∧ dg k = g
  · rw [if_pos c]; decide
  · rw [if_neg c]; exact h k hk
theorem up_le {ds : Nat → Nat} {d v dc : Nat} (hv : v ≤ 4) (h : ∀ k, k < dc → ds k ≤ 4) : ∀ k, k < dc → va_up ds d v k ≤ 4 := fun k hk => by
  unfold va_up
  by_cases c : k = d
  · rw [if_pos c]; exact hv
  · rw [if_neg c]; exact h k hk
theorem up_at {α : Type} (f : Nat → α) (k : Nat) (v : α) : va_up f k v k = v := if_pos rfl
theorem up_ne {α : Type} (f : Nat → α) {k j : Nat} (v : α) (h : j ≠ k) : va_up f k v j = f j := if_neg h
/-- how many below n -/
def cnt (f : Nat → Bool) : Nat → Nat
  | 0 => 0
  | n + 1 => if f n = true then cnt f n + 1 else cnt f n
theorem cnt_t {f : Nat → Bool} {n : Nat} (h : f n = true) : cnt f (n + 1) = cnt f n + 1 := by rw [cnt, if_pos h]
theorem cnt_f {f : Nat → Bool} {n : Nat} (h : f n = false) : cnt f (n + 1) = cnt f n := by rw [cnt, if_neg (by rw [h]; decide)]
theorem cnt_le (f : Nat → Bool) : ∀ n, cnt f n ≤ n
  | 0 => Nat.le_refl 0
  | n + 1 => by
    have ih := cnt_le f n
    rw [cnt]
    by_cases c : f n = true
    · rw [if_pos c]; omega
    · rw [if_neg c]; omega
/-- a good that is there and lacks nothing in a shop -/
def cpl (ex : Nat → Bool) (pa ho dv : Nat → Option Nat) (ak : Nat → Bool) (sp : Nat) : Nat → Bool := fun g => ex g && !exU (fun t => decide (bset (lck ex pa ho dv ak g sp t) 6 ≠ 0)) 3
/-- no such good; no such attribute, shop or tongue; no such draft -/
def gBad (ex : Nat → Bool) (g : Int32) : Prop := ∀ j, j < 16 → g = nI j → ex j = false
theorem gBad_c {ex : Nat → Bool} {g : Int32} (h : gBad ex g) : (g < 0 ∨ nI 16 ≤ g) ∨ ∃ j, j < 16 ∧ g = nI j ∧ ex j = false := by
  rcases pk_ix g (n := 16) (by decide) with h1 | h1 | ⟨j, h1, h2⟩
  · exact Or.inl (Or.inl h1)
  · exact Or.inl (Or.inr h1)
  · exact Or.inr ⟨j, h1, h2, h j h1 h2⟩
def aBad (n : Nat) (x : Int32) : Prop := x < 0 ∨ nI n ≤ x
def dBad (dc : Nat) (ds : Nat → Nat) (d : Int32) : Prop := d < 0 ∨ nI dc ≤ d ∨ ∃ j, j < dc ∧ d = nI j ∧ ds j = 4
theorem nI_any {x : Int32} (h : ¬ x < 0) : ∃ j : Nat, j < 2147483648 ∧ x = nI j := nI_of h
/-! the reference -/
def isin (v a b : Int32) : Bool := decide (a ≤ v) && decide (v ≤ b)
theorem isin_lo {v a b : Int32} (h : v < a) : isin v a b = false := by
  unfold isin
  rw [decide_eq_false (Int32.not_le.mpr h), Bool.false_and]
theorem isin_hi {v a b : Int32} (h : b < v) : isin v a b = false := by
  unfold isin
  rw [decide_eq_false (Int32.not_le.mpr h), Bool.and_false]
theorem isin_in {v a b : Int32} (h1 : ¬ v < a) (h2 : ¬ b < v) : isin v a b = true := by
  unfold isin
  rw [decide_eq_true (Int32.not_lt.mp h1), decide_eq_true (Int32.not_lt.mp h2)]; rfl
theorem isin_N {j n : Nat} (hj : j < 2147483648) (hn : n < 2147483648) : isin (nI j) (nI 0) (nI n) = decide (j ≤ n) := by
  unfold isin
  rw [decide_eq_true ((nI_leI (by decide) hj).mpr (Nat.zero_le j)), Bool.true_and]
  by_cases h : j ≤ n
  · rw [decide_eq_true h, decide_eq_true ((nI_leI hj hn).mpr h)]
  · rw [decide_eq_false h, decide_eq_false (fun e => h ((nI_leI hj hn).mp e))]
theorem isin_gd {j n : Nat} (hj : j < 2147483648) (hn : n ≤ 200) : isin (nI j) (nI 0) (zI (((n : Nat) : Int) - ((1 : Nat) : Int))) = decide (j < n) := by
  unfold isin
  rw [decide_eq_true ((nI_leI (by decide) hj).mpr (Nat.zero_le j)), Bool.true_and, nz j]
  by_cases h : j < n
  · rw [decide_eq_true h, decide_eq_true ((zI_le (by omega) (by omega)).mpr (by omega))]
  · rw [decide_eq_false h, decide_eq_false (fun e => h (by have := (zI_le (by omega) (by omega)).mp e; omega))]
theorem isin_bd {g : Int32} {n m : Nat} (hm : m ≤ 200) (hn : n ≤ m) (h : g < 0 ∨ nI m ≤ g) : isin g (nI 0) (zI (((n : Nat) : Int) - ((1 : Nat) : Int))) = false := by
  rcases h with h | h
  · exact isin_lo h
  · refine isin_hi ?_
    refine Int32.lt_of_lt_of_le ?_ h
    rw [nz m]
    exact (zI_lt (by omega) (by omega)).mpr (by omega)
theorem isin_ab {x : Int32} {n m : Nat} (hm : m ≤ 200) (hn : n + 1 = m) (h : aBad m x) : isin x (nI 0) (nI n) = false := by
  rcases h with h | h
  · exact isin_lo h
  · exact isin_hi (Int32.lt_of_lt_of_le ((nI_ltI (by omega) (by omega)).mpr (by omega)) h)
def rdf (dg da : Nat → Nat) (dh dt : Nat → Option Nat) (ds dd : Nat → Nat) (td g a : Nat) (x y : Option Nat) : Nat → Bool := fun k =>
  decide (dg k = g) && (decide (da k = a) && (decide (dh k = x) && (decide (dt k = y) && (decide (ds k = 1) && decide (dd k ≤ td)))))
theorem bst_new {f : Nat → Bool} {dd : Nat → Nat} {n : Nat} (hf : f n = true) (h : ∀ r, bst f dd n = some r → dd r ≤ dd n) : bst f dd (n + 1) = some n := by rw [bst, if_pos ⟨hf, h⟩]
theorem bst_keep {f : Nat → Bool} {dd : Nat → Nat} {n r : Nat} (h : bst f dd n = some r) (h2 : dd n < dd r) : bst f dd (n + 1) = bst f dd n := by
  rw [bst, if_neg (fun z => Nat.not_le.mpr h2 (z.2 r h))]
/-- what holds at a place of a good that is there -/
def RH (ex : Nat → Bool) (ho : Nat → Option Nat) (dc : Nat) (dg da : Nat → Nat) (dh dt : Nat → Option Nat) (dd ds : Nat → Nat) (td : Nat) : Prop :=
  ∀ g a x y, g < 16 → ex g = true → a < 6 → (∀ k, x = some k → k < 3) → (∀ k, y = some k → k < 3) → bst (rdf dg da dh dt ds dd td g a x y) dd dc = ho (plc g a (sx x) (sx y))
/-- the reference's rows of drafts: what they may hold -/
def RD (dc : Nat) (dg da : Nat → Nat) (dh dt : Nat → Option Nat) (dd ds : Nat → Nat) (td : Nat) : Prop :=
  dc ≤ 200 ∧ td < 2147483648 ∧ (∀ k, k < dc → dg k < 16) ∧ (∀ k, k < dc → da k < 6) ∧ (∀ k, k < dc → ∀ v, dh k = some v → v < 3) ∧ (∀ k, k < dc → ∀ v, dt k = some v → v < 3) ∧ (∀ k, k < dc → dd k ≤ 1000) ∧ (∀ k, k < dc → ds k ≤ 2)
theorem vlu_dead {ex : Nat → Bool} {pa ho dv : Nat → Option Nat} {a sh to g : Nat} (h : ex g = false) : vlu ex pa ho dv a sh to g = none := by
  refine vlu_none ?_
  rw [org_some rfl, if_neg (by rw [h]; decide)]
theorem own_1 {ho : Nat → Option Nat} {q a sh to : Nat} (h : ho (plc q a sh to) ≠ none) : own ho q a sh to = ho (plc q a sh to) := orE_l h
theorem own_2 {ho : Nat → Option Nat} {q a sh to : Nat} (h : ho (plc q a sh to) = none) (h2 : ho (plc q a sh 0) ≠ none) : own ho q a sh to = ho (plc q a sh 0) := by unfold own; rw [orE_r h, orE_l h2]
theorem own_3 {ho : Nat → Option Nat} {q a sh to : Nat} (h : ho (plc q a sh to) = none) (h2 : ho (plc q a sh 0) = none) (h3 : ho (plc q a 0 to) ≠ none) : own ho q a sh to = ho (plc q a 0 to) := by unfold own; rw [orE_r h, orE_r h2, orE_l h3]
theorem own_4 {ho : Nat → Option Nat} {q a sh to : Nat} (h : ho (plc q a sh to) = none) (h2 : ho (plc q a sh 0) = none) (h3 : ho (plc q a 0 to) = none) : own ho q a sh to = ho (plc q a 0 0) := by unfold own; rw [orE_r h, orE_r h2, orE_r h3]
theorem or_twice (b c : Nat) : (b ||| c) ||| c = b ||| c := by rw [Nat.or_assoc, Nat.or_self]
end
section
set_option maxHeartbeats 4000000 in
set_option maxRecDepth 100000 in
theorem kX0_isGoodN (l : Launch) (D : va_G) (h : Nat) (ad : Nat → Nat) (cI cZ : ClassId) (ex : Nat → Bool) (pa : Nat → Option Nat) (di : Nat → Nat) (qu : Nat → Nat) (gc : Nat) (dg : Nat → Nat) (dp : Nat → Nat) (dv : Nat → Option Nat) (dd : Nat → Nat) (ds : Nat → Nat) (dc : Nat) (td : Nat) (ho : Nat → Option Nat) (ak : Nat → Bool) (se : Nat → Option Nat) (pr : Nat → Option Nat) (j : Nat) (hj : j < 16) : Met l yX0_isGood wsX0_isGood ({ frames := 0, cells := 0, slots := 0, locals := 0 } : Room) (pP D (hW h ad cI cZ ex pa di qu gc dg dp dv dd ds dc td ho ak se pr) (hT cI cZ) [.ref h, .int (nI j)]) (pQ (some (.int (bI (ex j))))) 0 0 nF := by
  refine Met.ofW (cc := cX0_isGood) (maxL := 2) (ret := (some .boolean)) (by decide) rfl ?_
  intro p e s m args below meth c s₁ B hml hv
  obtain ⟨rfl, hP, hK⟩ := hv
  have hx := B.exec
  have hb := B.bytes
  have hr := B.returns
  have hts := atoms_spec (ws := wsX0_isGood) B.pre
  have hown : s.vm.findClass RX0 = some m.cls := findClass_of_methodNamed B.named
  have hlocks := B.notSynchronized
  have hl := lv_entry ([.ref h, .int (nI j)]) (n := 2) (Nat.le_of_ble_eq_true rfl)
  rw [lg_entry_eq]
  generalize (lg_sl ([.ref h, .int (nI j)]) ++ List.replicate (2 - (lg_sl ([.ref h, .int (nI j)])).length) Slot.unset).toArray = ls at hl ⊢
  have hl : lv_has ls 2 [(0, .ref h), (1, .int (nI j))] := hl
  refine lv_iload_n hx hb dX0_isGood_0 rfl (lv_at hl 1 rfl) ?_
  refine q_ifN_lt (a := j) 23 (by omega) hx hb dX0_isGood_1 (by decide) ?_
  refine lv_iload_n hx hb dX0_isGood_4 rfl (lv_at hl 1 rfl) ?_
  refine lv_bipush (v := nI 16) hx hb dX0_isGood_5 (by decide) ?_
  refine q_icmpN_ge (a := j) (b := 16) (tgt := 23) (by omega) (by omega) hx hb dX0_isGood_7 (by decide) (fun k7 => absurd k7 (by omega)) (fun k7 => ?_)
  refine lv_aload_n hx hb dX0_isGood_10 rfl (lv_at hl 0 rfl) ?_
  refine va_get (D := D) (ci := 0) (v := .ref (ad 0)) (C := RX0) (T := TX0) (N := 16) hx hb hts (iX0_isGood) hown hK hP 0 rfl rfl 0 (by decide) (hts (.fieldLink RX0 9 "ShopHub" "exists" "[Z") (by decide +kernel)) (fun _ h9 => h9) rfl dX0_isGood_11 ?_
  refine lv_iload_n hx hb dX0_isGood_14 rfl (lv_at hl 1 rfl) ?_
  refine q_zld ex hx hb hK hP 1 0 rfl rfl (k := j) (by omega) (Nat.le_of_ble_eq_true rfl) dX0_isGood_15 ?_
  refine q_ifB_eq (b := ex j) (tgt := 23) hx hb dX0_isGood_16 (by decide) (fun k16 => ?_) (fun k16 => ?_)
  · refine lv_iconst (v := nI 0) hx hb dX0_isGood_23 (by decide) ?_
    exact q_retZ hx hb hr hlocks (by first | exact retF k16 | exact retT k16) dX0_isGood_24
  · refine lv_iconst (v := nI 1) hx hb dX0_isGood_19 (by decide) ?_
    refine lv_goto (tgt := 24) hx hb dX0_isGood_20 (by decide) ?_
    exact q_retZ hx hb hr hlocks (by first | exact retF k16 | exact retT k16) dX0_isGood_24

set_option maxHeartbeats 4000000 in
set_option maxRecDepth 100000 in
theorem kX0_isGoodR (l : Launch) (D : va_G) (h : Nat) (ad : Nat → Nat) (cI cZ : ClassId) (ex : Nat → Bool) (pa : Nat → Option Nat) (di : Nat → Nat) (qu : Nat → Nat) (gc : Nat) (dg : Nat → Nat) (dp : Nat → Nat) (dv : Nat → Option Nat) (dd : Nat → Nat) (ds : Nat → Nat) (dc : Nat) (td : Nat) (ho : Nat → Option Nat) (ak : Nat → Bool) (se : Nat → Option Nat) (pr : Nat → Option Nat) (g : Int32) (hg : g < 0 ∨ nI 16 ≤ g) : Met l yX0_isGood wsX0_isGood ({ frames := 0, cells := 0, slots := 0, locals := 0 } : Room) (pP D (hW h ad cI cZ ex pa di qu gc dg dp dv dd ds dc td ho ak se pr) (hT cI cZ) [.ref h, .int g]) (pQ (some (.int (bI false)))) 0 0 nF := by
  refine Met.ofW (cc := cX0_isGood) (maxL := 2) (ret := (some .boolean)) (by decide) rfl ?_
  intro p e s m args below meth c s₁ B hml hv
  obtain ⟨rfl, hP, hK⟩ := hv
  have hx := B.exec
  have hb := B.bytes
  have hr := B.returns
  have hts := atoms_spec (ws := wsX0_isGood) B.pre
  have hown : s.vm.findClass RX0 = some m.cls := findClass_of_methodNamed B.named
  have hlocks := B.notSynchronized
  have hl := lv_entry ([.ref h, .int g]) (n := 2) (Nat.le_of_ble_eq_true rfl)
  rw [lg_entry_eq]
  generalize (lg_sl ([.ref h, .int g]) ++ List.replicate (2 - (lg_sl ([.ref h, .int g])).length) Slot.unset).toArray = ls at hl ⊢
  have hl : lv_has ls 2 [(0, .ref h), (1, .int g)] := hl
  refine lv_iload_n hx hb dX0_isGood_0 rfl (lv_at hl 1 rfl) ?_
  refine lv_if_lt (tgt := 23) hx hb dX0_isGood_1 (by decide) (fun k1 => ?_) (fun k1 => ?_)
  · refine lv_iconst (v := nI 0) hx hb dX0_isGood_23 (by decide) ?_
    exact q_retZ hx hb hr hlocks (by decide) dX0_isGood_24
  · refine lv_iload_n hx hb dX0_isGood_4 rfl (lv_at hl 1 rfl) ?_
    refine lv_bipush (v := nI 16) hx hb dX0_isGood_5 (by decide) ?_
    refine lv_icmp_ge (tgt := 23) hx hb dX0_isGood_7 (by decide) (fun k7 => ?_) (fun k7 => absurd (hg.resolve_left k1) k7)
    refine lv_iconst (v := nI 0) hx hb dX0_isGood_23 (by decide) ?_
    exact q_retZ hx hb hr hlocks (by decide) dX0_isGood_24

set_option maxHeartbeats 4000000 in
set_option maxRecDepth 100000 in
theorem kX0_isEnteredN (l : Launch) (D : va_G) (h : Nat) (ad : Nat → Nat) (cI cZ : ClassId) (ex : Nat → Bool) (pa : Nat → Option Nat) (di : Nat → Nat) (qu : Nat → Nat) (gc : Nat) (dg : Nat → Nat) (dp : Nat → Nat) (dv : Nat → Option Nat) (dd : Nat → Nat) (ds : Nat → Nat) (dc : Nat) (td : Nat) (ho : Nat → Option Nat) (ak : Nat → Bool) (se : Nat → Option Nat) (pr : Nat → Option Nat) (j : Nat) (hj : j < 2147483648) (hdc : dc ≤ 200) : Met l yX0_isEntered wsX0_isEntered ({ frames := 0, cells := 0, slots := 0, locals := 0 } : Room) (pP D (hW h ad cI cZ ex pa di qu gc dg dp dv dd ds dc td ho ak se pr) (hT cI cZ) [.ref h, .int (nI j)]) (pQ (some (.int (bI (decide (j < dc)))))) 0 0 nF := by
  refine Met.ofW (cc := cX0_isEntered) (maxL := 2) (ret := (some .boolean)) (by decide) rfl ?_
  intro p e s m args below meth c s₁ B hml hv
  obtain ⟨rfl, hP, hK⟩ := hv
  have hx := B.exec
  have hb := B.bytes
  have hr := B.returns
  have hts := atoms_spec (ws := wsX0_isEntered) B.pre
  have hown : s.vm.findClass RX0 = some m.cls := findClass_of_methodNamed B.named
  have hlocks := B.notSynchronized
  have hl := lv_entry ([.ref h, .int (nI j)]) (n := 2) (Nat.le_of_ble_eq_true rfl)
  rw [lg_entry_eq]
  generalize (lg_sl ([.ref h, .int (nI j)]) ++ List.replicate (2 - (lg_sl ([.ref h, .int (nI j)])).length) Slot.unset).toArray = ls at hl ⊢
  have hl : lv_has ls 2 [(0, .ref h), (1, .int (nI j))] := hl
  refine lv_iload_n hx hb dX0_isEntered_0 rfl (lv_at hl 1 rfl) ?_
  refine q_ifN_lt (a := j) 16 (by omega) hx hb dX0_isEntered_1 (by decide) ?_
  refine lv_iload_n hx hb dX0_isEntered_4 rfl (lv_at hl 1 rfl) ?_
  refine lv_aload_n hx hb dX0_isEntered_5 rfl (lv_at hl 0 rfl) ?_
  refine va_get (D := D) (ci := 0) (v := .int (nI dc)) (C := RX0) (T := TX0) (N := 16) hx hb hts (iX0_isEntered) hown hK hP 0 rfl rfl 10 (by decide) (hts (.fieldLink RX0 42 "ShopHub" "draftCount" "I") (by decide +kernel)) (fun _ h9 => h9) rfl dX0_isEntered_6 ?_
  refine q_icmpN_ge (a := j) (b := dc) (tgt := 16) (by omega) (by omega) hx hb dX0_isEntered_9 (by decide) (fun k9 => ?_) (fun k9 => ?_)
  · refine lv_iconst (v := nI 0) hx hb dX0_isEntered_16 (by decide) ?_
    exact q_retZ hx hb hr hlocks (retF (decide_eq_false (by omega))) dX0_isEntered_17
  · refine lv_iconst (v := nI 1) hx hb dX0_isEntered_12 (by decide) ?_
    refine lv_goto (tgt := 17) hx hb dX0_isEntered_13 (by decide) ?_
    exact q_retZ hx hb hr hlocks (retT (decide_eq_true (by omega))) dX0_isEntered_17

set_option maxHeartbeats 4000000 in
set_option maxRecDepth 100000 in
theorem kX0_isEnteredR (l : Launch) (D : va_G) (h : Nat) (ad : Nat → Nat) (cI cZ : ClassId) (ex : Nat → Bool) (pa : Nat → Option Nat) (di : Nat → Nat) (qu : Nat → Nat) (gc : Nat) (dg : Nat → Nat) (dp : Nat → Nat) (dv : Nat → Option Nat) (dd : Nat → Nat) (ds : Nat → Nat) (dc : Nat) (td : Nat) (ho : Nat → Option Nat) (ak : Nat → Bool) (se : Nat → Option Nat) (pr : Nat → Option Nat) (g : Int32) (hg : g < 0) : Met l yX0_isEntered wsX0_isEntered ({ frames := 0, cells := 0, slots := 0, locals := 0 } : Room) (pP D (hW h ad cI cZ ex pa di qu gc dg dp dv dd ds dc td ho ak se pr) (hT cI cZ) [.ref h, .int g]) (pQ (some (.int (bI false)))) 0 0 nF := by
  refine Met.ofW (cc := cX0_isEntered) (maxL := 2) (ret := (some .boolean)) (by decide) rfl ?_
  intro p e s m args below meth c s₁ B hml hv
  obtain ⟨rfl, hP, hK⟩ := hv
  have hx := B.exec
  have hb := B.bytes
  have hr := B.returns
  have hts := atoms_spec (ws := wsX0_isEntered) B.pre
  have hown : s.vm.findClass RX0 = some m.cls := findClass_of_methodNamed B.named
  have hlocks := B.notSynchronized
  have hl := lv_entry ([.ref h, .int g]) (n := 2) (Nat.le_of_ble_eq_true rfl)
  rw [lg_entry_eq]
  generalize (lg_sl ([.ref h, .int g]) ++ List.replicate (2 - (lg_sl ([.ref h, .int g])).length) Slot.unset).toArray = ls at hl ⊢
  have hl : lv_has ls 2 [(0, .ref h), (1, .int g)] := hl
  refine lv_iload_n hx hb dX0_isEntered_0 rfl (lv_at hl 1 rfl) ?_
  refine lv_if_lt (tgt := 16) hx hb dX0_isEntered_1 (by decide) (fun k1 => ?_) (fun k1 => absurd hg k1)
  refine lv_iconst (v := nI 0) hx hb dX0_isEntered_16 (by decide) ?_
  exact q_retZ hx hb hr hlocks (by decide) dX0_isEntered_17

set_option maxHeartbeats 4000000 in
set_option maxRecDepth 100000 in
theorem kX0_placeOf (l : Launch) (g a sh to : Nat) (hg : g < 16) (ha : a < 6) (hsh : sh < 4) (hto : to < 4) : Met l yX0_placeOf wsX0_placeOf ({ frames := 0, cells := 0, slots := 0, locals := 0 } : Room) (sP [.int (nI g), .int (nI a), .int (zI ((sh : Int) - 1)), .int (zI ((to : Int) - 1))]) (pQ (some (.int (nI (plc g a sh to))))) 0 0 nF := by
  refine Met.ofW (cc := cX0_placeOf) (maxL := 6) (ret := (some .int)) (by decide) rfl ?_
  intro p e s m args below meth c s₁ B hml hv
  obtain rfl := hv
  have hx := B.exec
  have hb := B.bytes
  have hr := B.returns
  have hts := atoms_spec (ws := wsX0_placeOf) B.pre
  have hown : s.vm.findClass RX0 = some m.cls := findClass_of_methodNamed B.named
  have hlocks := B.notSynchronized
  have hl := lv_entry ([.int (nI g), .int (nI a), .int (zI ((sh : Int) - 1)), .int (zI ((to : Int) - 1))]) (n := 6) (Nat.le_of_ble_eq_true rfl)
  rw [lg_entry_eq]
  generalize (lg_sl ([.int (nI g), .int (nI a), .int (zI ((sh : Int) - 1)), .int (zI ((to : Int) - 1))]) ++ List.replicate (6 - (lg_sl ([.int (nI g), .int (nI a), .int (zI ((sh : Int) - 1)), .int (zI ((to : Int) - 1))])).length) Slot.unset).toArray = ls at hl ⊢
  have hl : lv_has ls 6 [(0, .int (nI g)), (1, .int (nI a)), (2, .int (zI ((sh : Int) - 1))), (3, .int (zI ((to : Int) - 1)))] := hl
  refine lv_iload_n hx hb dX0_placeOf_0 rfl (lv_at hl 0 rfl) ?_
  refine lv_bipush (v := nI 6) hx hb dX0_placeOf_1 (by decide) ?_
  refine q_mulN (a := g) (b := 6) hx hb dX0_placeOf_3 ?_
  refine lv_iload_n hx hb dX0_placeOf_4 rfl (lv_at hl 1 rfl) ?_
  refine q_addN (a := g * 6) (b := a) hx hb dX0_placeOf_5 ?_
  refine lv_istore (lv' := [(4, .int (nI ((g * 6) + a))), (0, .int (nI g)), (1, .int (nI a)), (2, .int (zI ((sh : Int) - 1))), (3, .int (zI ((to : Int) - 1)))]) hx hb dX0_placeOf_6 hl (by decide) rfl (fun ls hl => ?_)
  refine lv_iload_n hx hb dX0_placeOf_8 rfl (lv_at hl 3 rfl) ?_
  refine lv_iconst (v := nI 1) hx hb dX0_placeOf_9 (by decide) ?_
  refine q_top (y := zI ((1 : Nat) : Int)) (nz 1) ?_
  refine q_addZ (a := (sh : Int) - 1) (b := ((1 : Nat) : Int)) hx hb dX0_placeOf_10 ?_
  refine q_top (y := nI sh) (by rw [nz]; exact congrArg zI (by omega)) ?_
  refine lv_iconst (v := nI 4) hx hb dX0_placeOf_11 (by decide) ?_
  refine q_mulN (a := sh) (b := 4) hx hb dX0_placeOf_12 ?_
  refine lv_iload_n hx hb dX0_placeOf_13 rfl (lv_at hl 4 rfl) ?_
  refine q_top2 (y := zI ((sh * 4 : Nat) : Int)) (nz (sh * 4)) ?_
  refine q_addZ (a := ((sh * 4 : Nat) : Int)) (b := (to : Int) - 1) hx hb dX0_placeOf_14 ?_
  refine lv_iconst (v := nI 1) hx hb dX0_placeOf_15 (by decide) ?_
  refine q_top (y := zI ((1 : Nat) : Int)) (nz 1) ?_
  refine q_addZ (a := ((sh * 4 : Nat) : Int) + ((to : Int) - 1)) (b := ((1 : Nat) : Int)) hx hb dX0_placeOf_16 ?_
  refine q_top (y := nI (sh * 4 + to)) (by rw [nz]; exact congrArg zI (by omega)) ?_
  refine lv_istore (lv' := [(5, .int (nI (sh * 4 + to))), (4, .int (nI ((g * 6) + a))), (0, .int (nI g)), (1, .int (nI a)), (2, .int (zI ((sh : Int) - 1))), (3, .int (zI ((to : Int) - 1)))]) hx hb dX0_placeOf_17 hl (by decide) rfl (fun ls hl => ?_)
  refine lv_iload hx hb dX0_placeOf_19 (lv_at hl 1 rfl) ?_
  refine lv_bipush (v := nI 16) hx hb dX0_placeOf_21 (by decide) ?_
  refine q_mulN (a := (g * 6) + a) (b := 16) hx hb dX0_placeOf_23 ?_
  refine lv_iload hx hb dX0_placeOf_24 (lv_at hl 0 rfl) ?_
  refine q_addN (a := ((g * 6) + a) * 16) (b := sh * 4 + to) hx hb dX0_placeOf_26 ?_
  exact q_retI hx hb hr hlocks (rfl) dX0_placeOf_27
end
section
set_option maxHeartbeats 4000000 in
set_option maxRecDepth 100000 in
theorem kX0_findOwnOrigin (l : Launch) (D : va_G) (h : Nat) (ad : Nat → Nat) (cI cZ : ClassId) (ex : Nat → Bool) (pa : Nat → Option Nat) (di : Nat → Nat) (qu : Nat → Nat) (gc : Nat) (dg : Nat → Nat) (dp : Nat → Nat) (dv : Nat → Option Nat) (dd : Nat → Nat) (ds : Nat → Nat) (dc : Nat) (td : Nat) (ho : Nat → Option Nat) (ak : Nat → Bool) (se : Nat → Option Nat) (pr : Nat → Option Nat) (g a sp tp : Nat) (hg : g < 16) (ha : a < 6) (hs : sp < 3) (ht : tp < 3) (hho : HO ho dc) (hdc : dc ≤ 200) : Met l yX0_findOwnOrigin wsX0_findOwnOrigin ({ frames := 1, cells := 0, slots := 0, locals := 25 } : Room) (pP D (hW h ad cI cZ ex pa di qu gc dg dp dv dd ds dc td ho ak se pr) (hT cI cZ) [.ref h, .int (nI g), .int (nI a), .int (nI sp), .int (nI tp)]) (pQ (some (.int (oI (own ho g a (sp + 1) (tp + 1)))))) 0 0 nF := by
  refine Met.ofW (cc := cX0_findOwnOrigin) (maxL := 6) (ret := (some .int)) (by decide) rfl ?_
  intro p e s m args below meth c s₁ B hml hv
  obtain ⟨rfl, hP, hK⟩ := hv
  have hx := B.exec
  have hb := B.bytes
  have hr := B.returns
  have hts := atoms_spec (ws := wsX0_findOwnOrigin) B.pre
  have hown : s.vm.findClass RX0 = some m.cls := findClass_of_methodNamed B.named
  have hlocks := B.notSynchronized
  have hl := lv_entry ([.ref h, .int (nI g), .int (nI a), .int (nI sp), .int (nI tp)]) (n := 6) (Nat.le_of_ble_eq_true rfl)
  rw [lg_entry_eq]
  generalize (lg_sl ([.ref h, .int (nI g), .int (nI a), .int (nI sp), .int (nI tp)]) ++ List.replicate (6 - (lg_sl ([.ref h, .int (nI g), .int (nI a), .int (nI sp), .int (nI tp)])).length) Slot.unset).toArray = ls at hl ⊢
  have hl : lv_has ls 6 [(0, .ref h), (1, .int (nI g)), (2, .int (nI a)), (3, .int (nI sp)), (4, .int (nI tp))] := hl
  refine lv_aload_n hx hb dX0_findOwnOrigin_0 rfl (lv_at hl 0 rfl) ?_
  refine va_get (D := D) (ci := 0) (v := .ref (ad 12)) (C := RX0) (T := TX0) (N := 16) hx hb hts (iX0_findOwnOrigin) hown hK hP 0 rfl rfl 12 (by decide) (hts (.fieldLink RX0 48 "ShopHub" "holders" "[I") (by decide +kernel)) (fun _ h9 => h9) rfl dX0_findOwnOrigin_1 ?_
  refine lv_iload_n hx hb dX0_findOwnOrigin_4 rfl (lv_at hl 1 rfl) ?_
  refine lv_iload_n hx hb dX0_findOwnOrigin_5 rfl (lv_at hl 2 rfl) ?_
  refine lv_iload_n hx hb dX0_findOwnOrigin_6 rfl (lv_at hl 3 rfl) ?_
  refine lv_iload hx hb dX0_findOwnOrigin_7 (lv_at hl 4 rfl) ?_
  refine q_top (y := zI (((tp + 1 : Nat) : Int) - 1)) (by rw [nz]; exact congrArg zI (by omega)) ?_
  refine q_top2 (y := zI (((sp + 1 : Nat) : Int) - 1)) (by rw [nz]; exact congrArg zI (by omega)) ?_
  refine q_callI (r := nI (plc g a (sp + 1) (tp + 1))) (va_runS (As := [.int (nI g), .int (nI a), .int (zI (((sp + 1 : Nat) : Int) - 1)), .int (zI (((tp + 1 : Nat) : Int) - 1))]) (rest := [.ref (ad 12)]) ⟨hx, hb, hml, hown, hts⟩ (kX0_placeOf l g a (sp + 1) (tp + 1) hg ha (by omega) (by omega)) (cwS 4 hts gX0_findOwnOrigin_X0_placeOf rfl rfl rfl (by decide +kernel) ⟨Nat.le_of_ble_eq_true rfl, Nat.le_of_ble_eq_true rfl⟩) ⟨sP_blind, sP_pre⟩ rfl rfl hl.1 rfl (lv_room (Nat.le_of_ble_eq_true rfl)) dX0_findOwnOrigin_9 ⟨Nat.zero_le _, Nat.zero_le _⟩) ?_
  refine q_ald oI ho hx hb hK hP 10 1 rfl rfl (k := plc g a (sp + 1) (tp + 1)) (plc_lt hg ha (by omega) (by omega)) (Nat.le_of_ble_eq_true rfl) dX0_findOwnOrigin_12 ?_
  refine lv_istore (lv' := [(5, .int (oI (ho (plc g a (sp + 1) (tp + 1))))), (0, .ref h), (1, .int (nI g)), (2, .int (nI a)), (3, .int (nI sp)), (4, .int (nI tp))]) hx hb dX0_findOwnOrigin_13 hl (by decide) rfl (fun ls hl => ?_)
  refine lv_iload hx hb dX0_findOwnOrigin_15 (lv_at hl 0 rfl) ?_
  refine lv_iconst (v := oI none) hx hb dX0_findOwnOrigin_17 (by decide) ?_
  refine q_icmpO_ne (a := ho (plc g a (sp + 1) (tp + 1))) (b := none) (tgt := 35) (fun k h9 => by have := hho _ (plc_lt hg ha (by omega) (by omega)) k h9; omega) (fun k h9 => by cases h9) hx hb dX0_findOwnOrigin_18 (by decide) (fun k18 => ?_) (fun k18 => ?_)
  · refine lv_iload hx hb dX0_findOwnOrigin_35 (lv_at hl 0 rfl) ?_
    refine lv_iconst (v := oI none) hx hb dX0_findOwnOrigin_37 (by decide) ?_
    refine q_icmpO_ne (a := ho (plc g a (sp + 1) (tp + 1))) (b := none) (tgt := 56) (fun k h9 => by have := hho _ (plc_lt hg ha (by omega) (by omega)) k h9; omega) (fun k h9 => by cases h9) hx hb dX0_findOwnOrigin_38 (by decide) (fun k38 => ?_) (fun k38 => absurd k38 k18)
    refine lv_iload hx hb dX0_findOwnOrigin_56 (lv_at hl 0 rfl) ?_
    refine lv_iconst (v := oI none) hx hb dX0_findOwnOrigin_58 (by decide) ?_
    refine q_icmpO_ne (a := ho (plc g a (sp + 1) (tp + 1))) (b := none) (tgt := 76) (fun k h9 => by have := hho _ (plc_lt hg ha (by omega) (by omega)) k h9; omega) (fun k h9 => by cases h9) hx hb dX0_findOwnOrigin_59 (by decide) (fun k59 => ?_) (fun k59 => absurd k59 k18)
    refine lv_iload hx hb dX0_findOwnOrigin_76 (lv_at hl 0 rfl) ?_
    exact q_retI hx hb hr hlocks (by unfold own; rw [orE_l k18]) dX0_findOwnOrigin_78
  · refine lv_aload_n hx hb dX0_findOwnOrigin_21 rfl (lv_at hl 1 rfl) ?_
    refine va_get (D := D) (ci := 0) (v := .ref (ad 12)) (C := RX0) (T := TX0) (N := 16) hx hb hts (iX0_findOwnOrigin) hown hK hP 0 rfl rfl 12 (by decide) (hts (.fieldLink RX0 48 "ShopHub" "holders" "[I") (by decide +kernel)) (fun _ h9 => h9) rfl dX0_findOwnOrigin_22 ?_
    refine lv_iload_n hx hb dX0_findOwnOrigin_25 rfl (lv_at hl 2 rfl) ?_
    refine lv_iload_n hx hb dX0_findOwnOrigin_26 rfl (lv_at hl 3 rfl) ?_
    refine lv_iload_n hx hb dX0_findOwnOrigin_27 rfl (lv_at hl 4 rfl) ?_
    refine lv_iconst (v := oI none) hx hb dX0_findOwnOrigin_28 (by decide) ?_
    refine q_top (y := zI (((0 : Nat) : Int) - 1)) (by decide) ?_
    refine q_top2 (y := zI (((sp + 1 : Nat) : Int) - 1)) (by rw [nz]; exact congrArg zI (by omega)) ?_
    refine q_callI (r := nI (plc g a (sp + 1) 0)) (va_runS (As := [.int (nI g), .int (nI a), .int (zI (((sp + 1 : Nat) : Int) - 1)), .int (zI (((0 : Nat) : Int) - 1))]) (rest := [.ref (ad 12)]) ⟨hx, hb, hml, hown, hts⟩ (kX0_placeOf l g a (sp + 1) 0 hg ha (by omega) (by omega)) (cwS 4 hts gX0_findOwnOrigin_X0_placeOf rfl rfl rfl (by decide +kernel) ⟨Nat.le_of_ble_eq_true rfl, Nat.le_of_ble_eq_true rfl⟩) ⟨sP_blind, sP_pre⟩ rfl rfl hl.1 rfl (lv_room (Nat.le_of_ble_eq_true rfl)) dX0_findOwnOrigin_29 ⟨Nat.zero_le _, Nat.zero_le _⟩) ?_
    refine q_ald oI ho hx hb hK hP 10 1 rfl rfl (k := plc g a (sp + 1) 0) (plc_lt hg ha (by omega) (by omega)) (Nat.le_of_ble_eq_true rfl) dX0_findOwnOrigin_32 ?_
    refine lv_istore (lv' := [(5, .int (oI (ho (plc g a (sp + 1) 0)))), (0, .ref h), (1, .int (nI g)), (2, .int (nI a)), (3, .int (nI sp)), (4, .int (nI tp))]) hx hb dX0_findOwnOrigin_33 hl (by decide) rfl (fun ls hl => ?_)
    refine lv_iload hx hb dX0_findOwnOrigin_35 (lv_at hl 0 rfl) ?_
    refine lv_iconst (v := oI none) hx hb dX0_findOwnOrigin_37 (by decide) ?_
    refine q_icmpO_ne (a := ho (plc g a (sp + 1) 0)) (b := none) (tgt := 56) (fun k h9 => by have := hho _ (plc_lt hg ha (by omega) (by omega)) k h9; omega) (fun k h9 => by cases h9) hx hb dX0_findOwnOrigin_38 (by decide) (fun k38 => ?_) (fun k38 => ?_)
    · refine lv_iload hx hb dX0_findOwnOrigin_56 (lv_at hl 0 rfl) ?_
      refine lv_iconst (v := oI none) hx hb dX0_findOwnOrigin_58 (by decide) ?_
      refine q_icmpO_ne (a := ho (plc g a (sp + 1) 0)) (b := none) (tgt := 76) (fun k h9 => by have := hho _ (plc_lt hg ha (by omega) (by omega)) k h9; omega) (fun k h9 => by cases h9) hx hb dX0_findOwnOrigin_59 (by decide) (fun k59 => ?_) (fun k59 => absurd k59 k38)
      refine lv_iload hx hb dX0_findOwnOrigin_76 (lv_at hl 0 rfl) ?_
      exact q_retI hx hb hr hlocks (by unfold own; rw [orE_r k18, orE_l k38]) dX0_findOwnOrigin_78
    · refine lv_aload_n hx hb dX0_findOwnOrigin_41 rfl (lv_at hl 1 rfl) ?_
      refine va_get (D := D) (ci := 0) (v := .ref (ad 12)) (C := RX0) (T := TX0) (N := 16) hx hb hts (iX0_findOwnOrigin) hown hK hP 0 rfl rfl 12 (by decide) (hts (.fieldLink RX0 48 "ShopHub" "holders" "[I") (by decide +kernel)) (fun _ h9 => h9) rfl dX0_findOwnOrigin_42 ?_
      refine lv_iload_n hx hb dX0_findOwnOrigin_45 rfl (lv_at hl 2 rfl) ?_
      refine lv_iload_n hx hb dX0_findOwnOrigin_46 rfl (lv_at hl 3 rfl) ?_
      refine lv_iconst (v := oI none) hx hb dX0_findOwnOrigin_47 (by decide) ?_
      refine lv_iload hx hb dX0_findOwnOrigin_48 (lv_at hl 5 rfl) ?_
      refine q_top (y := zI (((tp + 1 : Nat) : Int) - 1)) (by rw [nz]; exact congrArg zI (by omega)) ?_
      refine q_top2 (y := zI (((0 : Nat) : Int) - 1)) (by decide) ?_
      refine q_callI (r := nI (plc g a 0 (tp + 1))) (va_runS (As := [.int (nI g), .int (nI a), .int (zI (((0 : Nat) : Int) - 1)), .int (zI (((tp + 1 : Nat) : Int) - 1))]) (rest := [.ref (ad 12)]) ⟨hx, hb, hml, hown, hts⟩ (kX0_placeOf l g a 0 (tp + 1) hg ha (by omega) (by omega)) (cwS 4 hts gX0_findOwnOrigin_X0_placeOf rfl rfl rfl (by decide +kernel) ⟨Nat.le_of_ble_eq_true rfl, Nat.le_of_ble_eq_true rfl⟩) ⟨sP_blind, sP_pre⟩ rfl rfl hl.1 rfl (lv_room (Nat.le_of_ble_eq_true rfl)) dX0_findOwnOrigin_50 ⟨Nat.zero_le _, Nat.zero_le _⟩) ?_
      refine q_ald oI ho hx hb hK hP 10 1 rfl rfl (k := plc g a 0 (tp + 1)) (plc_lt hg ha (by omega) (by omega)) (Nat.le_of_ble_eq_true rfl) dX0_findOwnOrigin_53 ?_
      refine lv_istore (lv' := [(5, .int (oI (ho (plc g a 0 (tp + 1))))), (0, .ref h), (1, .int (nI g)), (2, .int (nI a)), (3, .int (nI sp)), (4, .int (nI tp))]) hx hb dX0_findOwnOrigin_54 hl (by decide) rfl (fun ls hl => ?_)
      refine lv_iload hx hb dX0_findOwnOrigin_56 (lv_at hl 0 rfl) ?_
      refine lv_iconst (v := oI none) hx hb dX0_findOwnOrigin_58 (by decide) ?_
      refine q_icmpO_ne (a := ho (plc g a 0 (tp + 1))) (b := none) (tgt := 76) (fun k h9 => by have := hho _ (plc_lt hg ha (by omega) (by omega)) k h9; omega) (fun k h9 => by cases h9) hx hb dX0_findOwnOrigin_59 (by decide) (fun k59 => ?_) (fun k59 => ?_)
      · refine lv_iload hx hb dX0_findOwnOrigin_76 (lv_at hl 0 rfl) ?_
        exact q_retI hx hb hr hlocks (by unfold own; rw [orE_r k18, orE_r k38, orE_l k59]) dX0_findOwnOrigin_78
      · refine lv_aload_n hx hb dX0_findOwnOrigin_62 rfl (lv_at hl 1 rfl) ?_
        refine va_get (D := D) (ci := 0) (v := .ref (ad 12)) (C := RX0) (T := TX0) (N := 16) hx hb hts (iX0_findOwnOrigin) hown hK hP 0 rfl rfl 12 (by decide) (hts (.fieldLink RX0 48 "ShopHub" "holders" "[I") (by decide +kernel)) (fun _ h9 => h9) rfl dX0_findOwnOrigin_63 ?_
        refine lv_iload_n hx hb dX0_findOwnOrigin_66 rfl (lv_at hl 2 rfl) ?_
        refine lv_iload_n hx hb dX0_findOwnOrigin_67 rfl (lv_at hl 3 rfl) ?_
        refine lv_iconst (v := oI none) hx hb dX0_findOwnOrigin_68 (by decide) ?_
        refine lv_iconst (v := oI none) hx hb dX0_findOwnOrigin_69 (by decide) ?_
        refine q_top (y := zI (((0 : Nat) : Int) - 1)) (by decide) ?_
        refine q_top2 (y := zI (((0 : Nat) : Int) - 1)) (by decide) ?_
        refine q_callI (r := nI (plc g a 0 0)) (va_runS (As := [.int (nI g), .int (nI a), .int (zI (((0 : Nat) : Int) - 1)), .int (zI (((0 : Nat) : Int) - 1))]) (rest := [.ref (ad 12)]) ⟨hx, hb, hml, hown, hts⟩ (kX0_placeOf l g a 0 0 hg ha (by omega) (by omega)) (cwS 4 hts gX0_findOwnOrigin_X0_placeOf rfl rfl rfl (by decide +kernel) ⟨Nat.le_of_ble_eq_true rfl, Nat.le_of_ble_eq_true rfl⟩) ⟨sP_blind, sP_pre⟩ rfl rfl hl.1 rfl (lv_room (Nat.le_of_ble_eq_true rfl)) dX0_findOwnOrigin_70 ⟨Nat.zero_le _, Nat.zero_le _⟩) ?_
        refine q_ald oI ho hx hb hK hP 10 1 rfl rfl (k := plc g a 0 0) (plc_lt hg ha (by omega) (by omega)) (Nat.le_of_ble_eq_true rfl) dX0_findOwnOrigin_73 ?_
        refine lv_istore (lv' := [(5, .int (oI (ho (plc g a 0 0)))), (0, .ref h), (1, .int (nI g)), (2, .int (nI a)), (3, .int (nI sp)), (4, .int (nI tp))]) hx hb dX0_findOwnOrigin_74 hl (by decide) rfl (fun ls hl => ?_)
        refine lv_iload hx hb dX0_findOwnOrigin_76 (lv_at hl 0 rfl) ?_
        exact q_retI hx hb hr hlocks (by unfold own; rw [orE_r k18, orE_r k38, orE_r k59]) dX0_findOwnOrigin_78

set_option maxHeartbeats 4000000 in
set_option maxRecDepth 100000 in
theorem kX0_findOrigin (l : Launch) (D : va_G) (h : Nat) (ad : Nat → Nat) (cI cZ : ClassId) (ex : Nat → Bool) (pa : Nat → Option Nat) (di : Nat → Nat) (qu : Nat → Nat) (gc : Nat) (dg : Nat → Nat) (dp : Nat → Nat) (dv : Nat → Option Nat) (dd : Nat → Nat) (ds : Nat → Nat) (dc : Nat) (td : Nat) (ho : Nat → Option Nat) (ak : Nat → Bool) (se : Nat → Option Nat) (pr : Nat → Option Nat) (g a sp tp : Nat) (hg : g < 16) (ha : a < 6) (hs : sp < 3) (ht : tp < 3) (hpr : PR pa) (hho : HO ho dc) (hdc : dc ≤ 200) : Met l yX0_findOrigin wsX0_findOrigin ({ frames := 2, cells := 0, slots := 0, locals := 50 } : Room) (pP D (hW h ad cI cZ ex pa di qu gc dg dp dv dd ds dc td ho ak se pr) (hT cI cZ) [.ref h, .int (nI g), .int (nI a), .int (nI sp), .int (nI tp)]) (pQ (some (.int (oI (org ex pa ho a (sp + 1) (tp + 1) 3 (some g)))))) 0 0 nF := by
  refine Met.ofW (cc := cX0_findOrigin) (maxL := 8) (ret := (some .int)) (by decide) rfl ?_
  intro p e s m args below meth c s₁ B hml hv
  obtain ⟨rfl, hP, hK⟩ := hv
  have hx := B.exec
  have hb := B.bytes
  have hr := B.returns
  have hts := atoms_spec (ws := wsX0_findOrigin) B.pre
  have hown : s.vm.findClass RX0 = some m.cls := findClass_of_methodNamed B.named
  have hlocks := B.notSynchronized
  have hl := lv_entry ([.ref h, .int (nI g), .int (nI a), .int (nI sp), .int (nI tp)]) (n := 8) (Nat.le_of_ble_eq_true rfl)
  rw [lg_entry_eq]
  generalize (lg_sl ([.ref h, .int (nI g), .int (nI a), .int (nI sp), .int (nI tp)]) ++ List.replicate (8 - (lg_sl ([.ref h, .int (nI g), .int (nI a), .int (nI sp), .int (nI tp)])).length) Slot.unset).toArray = ls at hl ⊢
  have hl : lv_has ls 8 [(0, .ref h), (1, .int (nI g)), (2, .int (nI a)), (3, .int (nI sp)), (4, .int (nI tp))] := hl
  refine lv_iload_n hx hb dX0_findOrigin_0 rfl (lv_at hl 1 rfl) ?_
  refine lv_istore (lv' := [(5, .int (nI g)), (0, .ref h), (1, .int (nI g)), (2, .int (nI a)), (3, .int (nI sp)), (4, .int (nI tp))]) hx hb dX0_findOrigin_1 hl (by decide) rfl (fun ls hl => ?_)
  refine lv_iconst (v := nI 0) hx hb dX0_findOrigin_3 (by decide) ?_
  refine lv_istore (lv' := [(6, .int (nI 0)), (5, .int (nI g)), (0, .ref h), (1, .int (nI g)), (2, .int (nI a)), (3, .int (nI sp)), (4, .int (nI tp))]) hx hb dX0_findOrigin_4 hl (by decide) rfl (fun ls hl => ?_)
  have loop6 : ∀ (n : Nat) (i : Nat) (o2 : Option Nat), (i ≤ 3) → (4 ≤ i + n) → (org ex pa ho a (sp + 1) (tp + 1) (3 - i) o2 = org ex pa ho a (sp + 1) (tp + 1) 3 (some g)) → (∀ k, o2 = some k → k < 16) → ∀ ls : Array Slot, lv_has ls 8 [(0, .ref h), (2, .int (nI a)), (3, .int (nI sp)), (4, .int (nI tp)), (5, .int (oI o2)), (6, .int (nI i))] → W p l e ({ frames := 2, cells := 0, slots := 0, locals := 50 } : Room) s m ([.ref h, .int (nI g), .int (nI a), .int (nI sp), .int (nI tp)] : List Value).toArray below meth c s.heap [] 0 0 (MQ below (pQ (some (.int (oI (org ex pa ho a (sp + 1) (tp + 1) 3 (some g)))))) ([.ref h, .int (nI g), .int (nI a), .int (nI sp), .int (nI tp)] : List Value).toArray s 0 0 nF) (F0 m 6 ls []) := by
    intro n
    induction n with
    | zero => intro i o2 hle hn hw hok2; omega
    | succ n ih =>
      intro i o2 hle hn hw hok2 ls hl
      refine lv_iload hx hb dX0_findOrigin_6 (lv_at hl 5 rfl) ?_
      refine lv_iconst (v := nI 3) hx hb dX0_findOrigin_8 (by decide) ?_
      refine q_icmpN_ge (a := i) (b := 3) (tgt := 57) (by omega) (by omega) hx hb dX0_findOrigin_9 (by decide) (fun k9 => ?_) (fun k9 => ?_)
      · refine lv_iconst (v := oI none) hx hb dX0_findOrigin_57 (by decide) ?_
        exact q_retI hx hb hr hlocks (by rw [← hw, show 3 - i = 0 by omega]; rfl) dX0_findOrigin_58
      · cases o2 with
        | none =>
          refine lv_aload_n hx hb dX0_findOrigin_12 rfl (lv_at hl 0 rfl) ?_
          refine lv_iload hx hb dX0_findOrigin_13 (lv_at hl 4 rfl) ?_
          refine q_callI (r := bI false) (va_runV (As := [.int (oI none)]) (rest := []) ⟨hx, hb, hml, hown, hts⟩ (kX0_isGoodR l D h ad cI cZ ex pa di qu gc dg dp dv dd ds dc td ho ak se pr (oI none) (Or.inl (by decide))) (cwV 1 hts gX0_findOrigin_X0_isGood rfl rfl rfl (by decide +kernel) ⟨Nat.le_of_ble_eq_true rfl, Nat.le_of_ble_eq_true rfl⟩) ⟨pP_blind, va_recv hK hP (ci := 0) (q0 := 0) rfl rfl, pP_pre hP hK⟩ rfl rfl hl.1 rfl (lv_room (Nat.le_of_ble_eq_true rfl)) dX0_findOrigin_15 ⟨Nat.zero_le _, Nat.zero_le _⟩) ?_
          refine q_ifB_eq (b := false) (tgt := 57) hx hb dX0_findOrigin_18 (by decide) (fun k18 => ?_) (fun k18 => absurd k18 (by decide))
          refine lv_iconst (v := oI none) hx hb dX0_findOrigin_57 (by decide) ?_
          exact q_retI hx hb hr hlocks (by rw [← hw, org_none]) dX0_findOrigin_58
        | some q =>
          have hq : q < 16 := hok2 q rfl
          refine lv_aload_n hx hb dX0_findOrigin_12 rfl (lv_at hl 0 rfl) ?_
          refine lv_iload hx hb dX0_findOrigin_13 (lv_at hl 4 rfl) ?_
          refine q_callI (r := bI (ex q)) (va_runV (As := [.int (nI q)]) (rest := []) ⟨hx, hb, hml, hown, hts⟩ (kX0_isGoodN l D h ad cI cZ ex pa di qu gc dg dp dv dd ds dc td ho ak se pr q hq) (cwV 1 hts gX0_findOrigin_X0_isGood rfl rfl rfl (by decide +kernel) ⟨Nat.le_of_ble_eq_true rfl, Nat.le_of_ble_eq_true rfl⟩) ⟨pP_blind, va_recv hK hP (ci := 0) (q0 := 0) rfl rfl, pP_pre hP hK⟩ rfl rfl hl.1 rfl (lv_room (Nat.le_of_ble_eq_true rfl)) dX0_findOrigin_15 ⟨Nat.zero_le _, Nat.zero_le _⟩) ?_
          refine q_ifB_eq (b := ex q) (tgt := 57) hx hb dX0_findOrigin_18 (by decide) (fun k18 => ?_) (fun k18 => ?_)
          · refine lv_iconst (v := oI none) hx hb dX0_findOrigin_57 (by decide) ?_
            exact q_retI hx hb hr hlocks (by rw [← hw, org_some (show 3 - i = (3 - (i + 1)) + 1 by omega), if_neg (by rw [k18]; decide)]) dX0_findOrigin_58
          · refine lv_aload_n hx hb dX0_findOrigin_21 rfl (lv_at hl 0 rfl) ?_
            refine lv_iload hx hb dX0_findOrigin_22 (lv_at hl 4 rfl) ?_
            refine lv_iload_n hx hb dX0_findOrigin_24 rfl (lv_at hl 1 rfl) ?_
            refine lv_iload_n hx hb dX0_findOrigin_25 rfl (lv_at hl 2 rfl) ?_
            refine lv_iload hx hb dX0_findOrigin_26 (lv_at hl 3 rfl) ?_
            refine q_callI (r := oI (own ho q a (sp + 1) (tp + 1))) (va_runV (As := [.int (nI q), .int (nI a), .int (nI sp), .int (nI tp)]) (rest := []) ⟨hx, hb, hml, hown, hts⟩ (kX0_findOwnOrigin l D h ad cI cZ ex pa di qu gc dg dp dv dd ds dc td ho ak se pr q a sp tp hq ha hs ht hho hdc) (cwV 4 hts gX0_findOrigin_X0_findOwnOrigin rfl rfl rfl (by decide +kernel) ⟨Nat.le_of_ble_eq_true rfl, Nat.le_of_ble_eq_true rfl⟩) ⟨pP_blind, va_recv hK hP (ci := 0) (q0 := 0) rfl rfl, pP_pre hP hK⟩ rfl rfl hl.1 rfl (lv_room (Nat.le_of_ble_eq_true rfl)) dX0_findOrigin_28 ⟨Nat.zero_le _, Nat.zero_le _⟩) ?_
            refine lv_istore (lv' := [(7, .int (oI (own ho q a (sp + 1) (tp + 1)))), (0, .ref h), (2, .int (nI a)), (3, .int (nI sp)), (4, .int (nI tp)), (5, .int (nI q)), (6, .int (nI i))]) hx hb dX0_findOrigin_31 hl (by decide) rfl (fun ls hl => ?_)
            refine lv_iload hx hb dX0_findOrigin_33 (lv_at hl 0 rfl) ?_
            refine lv_iconst (v := oI none) hx hb dX0_findOrigin_35 (by decide) ?_
            refine q_icmpO_eq (a := own ho q a (sp + 1) (tp + 1)) (b := none) (tgt := 42) (fun k h9 => by have := own_in hho hq ha (show sp + 1 < 4 by omega) (show tp + 1 < 4 by omega) k h9; omega) (fun k h9 => by cases h9) hx hb dX0_findOrigin_36 (by decide) (fun k36 => ?_) (fun k36 => ?_)
            · refine lv_aload_n hx hb dX0_findOrigin_42 rfl (lv_at hl 1 rfl) ?_
              refine va_get (D := D) (ci := 0) (v := .ref (ad 1)) (C := RX0) (T := TX0) (N := 16) hx hb hts (iX0_findOrigin) hown hK hP 0 rfl rfl 1 (by decide) (hts (.fieldLink RX0 13 "ShopHub" "parents" "[I") (by decide +kernel)) (fun _ h9 => h9) rfl dX0_findOrigin_43 ?_
              refine lv_iload hx hb dX0_findOrigin_46 (lv_at hl 5 rfl) ?_
              refine q_ald oI pa hx hb hK hP 2 1 rfl rfl (k := q) (by omega) (Nat.le_of_ble_eq_true rfl) dX0_findOrigin_48 ?_
              refine lv_istore (lv' := [(5, .int (oI (pa q))), (7, .int (oI (own ho q a (sp + 1) (tp + 1)))), (0, .ref h), (2, .int (nI a)), (3, .int (nI sp)), (4, .int (nI tp)), (6, .int (nI i))]) hx hb dX0_findOrigin_49 hl (by decide) rfl (fun ls hl => ?_)
              refine lv_iinc (v := nI (i + 1)) (lv' := [(6, .int (nI (i + 1))), (5, .int (oI (pa q))), (7, .int (oI (own ho q a (sp + 1) (tp + 1)))), (0, .ref h), (2, .int (nI a)), (3, .int (nI sp)), (4, .int (nI tp))]) hx hb dX0_findOrigin_51 hl (k := 6) rfl (i1_n i) (by decide) rfl (fun ls hl => ?_)
              refine lv_goto (tgt := 6) hx hb dX0_findOrigin_54 (by decide) ?_
              exact ih (i + 1) (pa q) (by omega) (by omega) (by rw [← hw, org_some (show 3 - i = (3 - (i + 1)) + 1 by omega), if_pos k18, orE_r k36]) (hpr q hq) _ (lv_sub hl [3, 4, 5, 6, 1, 0] rfl)
            · refine lv_iload hx hb dX0_findOrigin_39 (lv_at hl 0 rfl) ?_
              exact q_retI hx hb hr hlocks (by rw [← hw, org_some (show 3 - i = (3 - (i + 1)) + 1 by omega), if_pos k18, orE_l k36]) dX0_findOrigin_41
  exact loop6 4 0 (some g) (by omega) (Nat.le_refl 4) rfl (fun k h9 => by cases h9; exact hg) _ (lv_sub hl [2, 4, 5, 6, 1, 0] rfl)

set_option maxHeartbeats 4000000 in
set_option maxRecDepth 100000 in
theorem kX0_findValue (l : Launch) (D : va_G) (h : Nat) (ad : Nat → Nat) (cI cZ : ClassId) (ex : Nat → Bool) (pa : Nat → Option Nat) (di : Nat → Nat) (qu : Nat → Nat) (gc : Nat) (dg : Nat → Nat) (dp : Nat → Nat) (dv : Nat → Option Nat) (dd : Nat → Nat) (ds : Nat → Nat) (dc : Nat) (td : Nat) (ho : Nat → Option Nat) (ak : Nat → Bool) (se : Nat → Option Nat) (pr : Nat → Option Nat) (g a sp tp : Nat) (hg : g < 16) (ha : a < 6) (hs : sp < 3) (ht : tp < 3) (hpr : PR pa) (hho : HO ho dc) (hdc : dc ≤ 200) : Met l yX0_findValue wsX0_findValue ({ frames := 3, cells := 0, slots := 0, locals := 77 } : Room) (pP D (hW h ad cI cZ ex pa di qu gc dg dp dv dd ds dc td ho ak se pr) (hT cI cZ) [.ref h, .int (nI g), .int (nI a), .int (nI sp), .int (nI tp)]) (pQ (some (.int (oI (vlu ex pa ho dv a (sp + 1) (tp + 1) g))))) 0 0 nF := by
  refine Met.ofW (cc := cX0_findValue) (maxL := 6) (ret := (some .int)) (by decide) rfl ?_
  intro p e s m args below meth c s₁ B hml hv
  obtain ⟨rfl, hP, hK⟩ := hv
  have hx := B.exec
  have hb := B.bytes
  have hr := B.returns
  have hts := atoms_spec (ws := wsX0_findValue) B.pre
  have hown : s.vm.findClass RX0 = some m.cls := findClass_of_methodNamed B.named
  have hlocks := B.notSynchronized
  have hl := lv_entry ([.ref h, .int (nI g), .int (nI a), .int (nI sp), .int (nI tp)]) (n := 6) (Nat.le_of_ble_eq_true rfl)
  rw [lg_entry_eq]
  generalize (lg_sl ([.ref h, .int (nI g), .int (nI a), .int (nI sp), .int (nI tp)]) ++ List.replicate (6 - (lg_sl ([.ref h, .int (nI g), .int (nI a), .int (nI sp), .int (nI tp)])).length) Slot.unset).toArray = ls at hl ⊢
  have hl : lv_has ls 6 [(0, .ref h), (1, .int (nI g)), (2, .int (nI a)), (3, .int (nI sp)), (4, .int (nI tp))] := hl
  refine lv_aload_n hx hb dX0_findValue_0 rfl (lv_at hl 0 rfl) ?_
  refine lv_iload_n hx hb dX0_findValue_1 rfl (lv_at hl 1 rfl) ?_
  refine lv_iload_n hx hb dX0_findValue_2 rfl (lv_at hl 2 rfl) ?_
  refine lv_iload_n hx hb dX0_findValue_3 rfl (lv_at hl 3 rfl) ?_
  refine lv_iload hx hb dX0_findValue_4 (lv_at hl 4 rfl) ?_
  refine q_callI (r := oI (org ex pa ho a (sp + 1) (tp + 1) 3 (some g))) (va_runV (As := [.int (nI g), .int (nI a), .int (nI sp), .int (nI tp)]) (rest := []) ⟨hx, hb, hml, hown, hts⟩ (kX0_findOrigin l D h ad cI cZ ex pa di qu gc dg dp dv dd ds dc td ho ak se pr g a sp tp hg ha hs ht hpr hho hdc) (cwV 4 hts gX0_findValue_X0_findOrigin rfl rfl rfl (by decide +kernel) ⟨Nat.le_of_ble_eq_true rfl, Nat.le_of_ble_eq_true rfl⟩) ⟨pP_blind, va_recv hK hP (ci := 0) (q0 := 0) rfl rfl, pP_pre hP hK⟩ rfl rfl hl.1 rfl (lv_room (Nat.le_of_ble_eq_true rfl)) dX0_findValue_6 ⟨Nat.zero_le _, Nat.zero_le _⟩) ?_
  obtain ⟨o5, eo5⟩ : ∃ z, z = org ex pa ho a (sp + 1) (tp + 1) 3 (some g) := ⟨_, rfl⟩
  refine q_top (y := oI o5) (by rw [eo5]) ?_
  refine lv_istore (lv' := [(5, .int (oI o5)), (0, .ref h), (1, .int (nI g)), (2, .int (nI a)), (3, .int (nI sp)), (4, .int (nI tp))]) hx hb dX0_findValue_9 hl (by decide) rfl (fun ls hl => ?_)
  cases o5 with
  | none =>
    refine lv_aload_n hx hb dX0_findValue_11 rfl (lv_at hl 1 rfl) ?_
    refine lv_iload hx hb dX0_findValue_12 (lv_at hl 0 rfl) ?_
    refine q_callI (r := bI false) (va_runV (As := [.int (oI none)]) (rest := []) ⟨hx, hb, hml, hown, hts⟩ (kX0_isEnteredR l D h ad cI cZ ex pa di qu gc dg dp dv dd ds dc td ho ak se pr (oI none) (by decide)) (cwV 1 hts gX0_findValue_X0_isEntered rfl rfl rfl (by decide +kernel) ⟨Nat.le_of_ble_eq_true rfl, Nat.le_of_ble_eq_true rfl⟩) ⟨pP_blind, va_recv hK hP (ci := 0) (q0 := 0) rfl rfl, pP_pre hP hK⟩ rfl rfl hl.1 rfl (lv_room (Nat.le_of_ble_eq_true rfl)) dX0_findValue_14 ⟨Nat.zero_le _, Nat.zero_le _⟩) ?_
    refine q_ifB_eq (b := false) (tgt := 30) hx hb dX0_findValue_17 (by decide) (fun k17 => ?_) (fun k17 => absurd k17 (by decide))
    refine lv_iconst (v := oI none) hx hb dX0_findValue_30 (by decide) ?_
    exact q_retI hx hb hr hlocks (by rw [vlu_none eo5]) dX0_findValue_31
  | some k =>
    have hk : k < dc := org_in hho hpr ha (show sp + 1 < 4 by omega) (show tp + 1 < 4 by omega) 3 (some g) (fun k h9 => by cases h9; exact hg) k eo5.symm
    refine lv_aload_n hx hb dX0_findValue_11 rfl (lv_at hl 1 rfl) ?_
    refine lv_iload hx hb dX0_findValue_12 (lv_at hl 0 rfl) ?_
    refine q_callI (r := bI (decide (k < dc))) (va_runV (As := [.int (nI k)]) (rest := []) ⟨hx, hb, hml, hown, hts⟩ (kX0_isEnteredN l D h ad cI cZ ex pa di qu gc dg dp dv dd ds dc td ho ak se pr k (by omega) hdc) (cwV 1 hts gX0_findValue_X0_isEntered rfl rfl rfl (by decide +kernel) ⟨Nat.le_of_ble_eq_true rfl, Nat.le_of_ble_eq_true rfl⟩) ⟨pP_blind, va_recv hK hP (ci := 0) (q0 := 0) rfl rfl, pP_pre hP hK⟩ rfl rfl hl.1 rfl (lv_room (Nat.le_of_ble_eq_true rfl)) dX0_findValue_14 ⟨Nat.zero_le _, Nat.zero_le _⟩) ?_
    refine q_ifB_eq (b := decide (k < dc)) (tgt := 30) hx hb dX0_findValue_17 (by decide) (fun k17 => absurd k17 (by rw [decide_eq_true hk]; decide)) (fun k17 => ?_)
    refine lv_aload_n hx hb dX0_findValue_20 rfl (lv_at hl 1 rfl) ?_
    refine va_get (D := D) (ci := 0) (v := .ref (ad 7)) (C := RX0) (T := TX0) (N := 16) hx hb hts (iX0_findValue) hown hK hP 0 rfl rfl 7 (by decide) (hts (.fieldLink RX0 33 "ShopHub" "draftValues" "[I") (by decide +kernel)) (fun _ h9 => h9) rfl dX0_findValue_21 ?_
    refine lv_iload hx hb dX0_findValue_24 (lv_at hl 0 rfl) ?_
    refine q_ald oI dv hx hb hK hP 7 1 rfl rfl (k := k) (by omega) (Nat.le_of_ble_eq_true rfl) dX0_findValue_26 ?_
    refine lv_goto (tgt := 31) hx hb dX0_findValue_27 (by decide) ?_
    exact q_retI hx hb hr hlocks (by rw [vlu_some eo5]) dX0_findValue_31

set_option maxHeartbeats 4000000 in
set_option maxRecDepth 100000 in
theorem kX0_findMissing (l : Launch) (D : va_G) (h : Nat) (ad : Nat → Nat) (cI cZ : ClassId) (ex : Nat → Bool) (pa : Nat → Option Nat) (di : Nat → Nat) (qu : Nat → Nat) (gc : Nat) (dg : Nat → Nat) (dp : Nat → Nat) (dv : Nat → Option Nat) (dd : Nat → Nat) (ds : Nat → Nat) (dc : Nat) (td : Nat) (ho : Nat → Option Nat) (ak : Nat → Bool) (se : Nat → Option Nat) (pr : Nat → Option Nat) (g sp tp : Nat) (hg : g < 16) (hs : sp < 3) (ht : tp < 3) (hpr : PR pa) (hho : HO ho dc) (hdc : dc ≤ 200) (hdv : DV dv dc) : Met l yX0_findMissing wsX0_findMissing ({ frames := 4, cells := 0, slots := 0, locals := 102 } : Room) (pP D (hW h ad cI cZ ex pa di qu gc dg dp dv dd ds dc td ho ak se pr) (hT cI cZ) [.ref h, .int (nI g), .int (nI sp), .int (nI tp)]) (pQ (some (.int (nI (bset (lck ex pa ho dv ak g sp tp) 6))))) 0 0 nF := by
  refine Met.ofW (cc := cX0_findMissing) (maxL := 6) (ret := (some .int)) (by decide) rfl ?_
  intro p e s m args below meth c s₁ B hml hv
  obtain ⟨rfl, hP, hK⟩ := hv
  have hx := B.exec
  have hb := B.bytes
  have hr := B.returns
  have hts := atoms_spec (ws := wsX0_findMissing) B.pre
  have hown : s.vm.findClass RX0 = some m.cls := findClass_of_methodNamed B.named
  have hlocks := B.notSynchronized
  have hl := lv_entry ([.ref h, .int (nI g), .int (nI sp), .int (nI tp)]) (n := 6) (Nat.le_of_ble_eq_true rfl)
  rw [lg_entry_eq]
  generalize (lg_sl ([.ref h, .int (nI g), .int (nI sp), .int (nI tp)]) ++ List.replicate (6 - (lg_sl ([.ref h, .int (nI g), .int (nI sp), .int (nI tp)])).length) Slot.unset).toArray = ls at hl ⊢
  have hl : lv_has ls 6 [(0, .ref h), (1, .int (nI g)), (2, .int (nI sp)), (3, .int (nI tp))] := hl
  refine lv_iconst (v := nI 0) hx hb dX0_findMissing_0 (by decide) ?_
  refine lv_istore (lv' := [(4, .int (nI 0)), (0, .ref h), (1, .int (nI g)), (2, .int (nI sp)), (3, .int (nI tp))]) hx hb dX0_findMissing_1 hl (by decide) rfl (fun ls hl => ?_)
  refine lv_iconst (v := nI 0) hx hb dX0_findMissing_3 (by decide) ?_
  refine lv_istore (lv' := [(5, .int (nI 0)), (4, .int (nI 0)), (0, .ref h), (1, .int (nI g)), (2, .int (nI sp)), (3, .int (nI tp))]) hx hb dX0_findMissing_4 hl (by decide) rfl (fun ls hl => ?_)
  have loop6 : ∀ (n : Nat) (i : Nat) (b : Nat), (i ≤ 6) → (7 ≤ i + n) → (b = bset (lck ex pa ho dv ak g sp tp) i) → ∀ ls : Array Slot, lv_has ls 6 [(0, .ref h), (1, .int (nI g)), (2, .int (nI sp)), (3, .int (nI tp)), (4, .int (nI b)), (5, .int (nI i))] → W p l e ({ frames := 4, cells := 0, slots := 0, locals := 102 } : Room) s m ([.ref h, .int (nI g), .int (nI sp), .int (nI tp)] : List Value).toArray below meth c s.heap [] 0 0 (MQ below (pQ (some (.int (nI (bset (lck ex pa ho dv ak g sp tp) 6))))) ([.ref h, .int (nI g), .int (nI sp), .int (nI tp)] : List Value).toArray s 0 0 nF) (F0 m 6 ls []) := by
    intro n
    induction n with
    | zero => intro i b hle hn hset; omega
    | succ n ih =>
      intro i b hle hn hset ls hl
      refine lv_iload hx hb dX0_findMissing_6 (lv_at hl 5 rfl) ?_
      refine lv_bipush (v := nI 6) hx hb dX0_findMissing_8 (by decide) ?_
      refine q_icmpN_ge (a := i) (b := 6) (tgt := 56) (by omega) (by omega) hx hb dX0_findMissing_10 (by decide) (fun k10 => ?_) (fun k10 => ?_)
      · refine lv_iload hx hb dX0_findMissing_56 (lv_at hl 4 rfl) ?_
        exact q_retI hx hb hr hlocks (by rw [hset, show i = 6 by omega]) dX0_findMissing_58
      · refine lv_aload_n hx hb dX0_findMissing_13 rfl (lv_at hl 0 rfl) ?_
        refine va_get (D := D) (ci := 0) (v := .ref (ad 13)) (C := RX0) (T := TX0) (N := 16) hx hb hts (iX0_findMissing) hown hK hP 0 rfl rfl 13 (by decide) (hts (.fieldLink RX0 51 "ShopHub" "asked" "[Z") (by decide +kernel)) (fun _ h9 => h9) rfl dX0_findMissing_14 ?_
        refine lv_iload_n hx hb dX0_findMissing_17 rfl (lv_at hl 2 rfl) ?_
        refine lv_bipush (v := nI 6) hx hb dX0_findMissing_18 (by decide) ?_
        refine q_mulN (a := sp) (b := 6) hx hb dX0_findMissing_20 ?_
        refine lv_iload hx hb dX0_findMissing_21 (lv_at hl 5 rfl) ?_
        refine q_addN (a := sp * 6) (b := i) hx hb dX0_findMissing_23 ?_
        refine q_zld ak hx hb hK hP 11 0 rfl rfl (k := (sp * 6) + i) (by omega) (Nat.le_of_ble_eq_true rfl) dX0_findMissing_24 ?_
        refine q_ifB_eq (b := ak ((sp * 6) + i)) (tgt := 50) hx hb dX0_findMissing_25 (by decide) (fun k25 => ?_) (fun k25 => ?_)
        · refine lv_iinc (v := nI (i + 1)) (lv' := [(5, .int (nI (i + 1))), (0, .ref h), (1, .int (nI g)), (2, .int (nI sp)), (3, .int (nI tp)), (4, .int (nI b))]) hx hb dX0_findMissing_50 hl (k := 5) rfl (i1_n i) (by decide) rfl (fun ls hl => ?_)
          refine lv_goto (tgt := 6) hx hb dX0_findMissing_53 (by decide) ?_
          exact ih (i + 1) b (by omega) (by omega) (by rw [bset_f (show lck ex pa ho dv ak g sp tp i = false by simp [lck, k25])]; exact hset) _ (lv_sub hl [1, 2, 3, 4, 5, 0] rfl)
        · refine lv_aload_n hx hb dX0_findMissing_28 rfl (lv_at hl 0 rfl) ?_
          refine lv_iload_n hx hb dX0_findMissing_29 rfl (lv_at hl 1 rfl) ?_
          refine lv_iload hx hb dX0_findMissing_30 (lv_at hl 5 rfl) ?_
          refine lv_iload_n hx hb dX0_findMissing_32 rfl (lv_at hl 2 rfl) ?_
          refine lv_iload_n hx hb dX0_findMissing_33 rfl (lv_at hl 3 rfl) ?_
          refine q_callI (r := oI (vlu ex pa ho dv i (sp + 1) (tp + 1) g)) (va_runV (As := [.int (nI g), .int (nI i), .int (nI sp), .int (nI tp)]) (rest := []) ⟨hx, hb, hml, hown, hts⟩ (kX0_findValue l D h ad cI cZ ex pa di qu gc dg dp dv dd ds dc td ho ak se pr g i sp tp hg (by omega) hs ht hpr hho hdc) (cwV 4 hts gX0_findMissing_X0_findValue rfl rfl rfl (by decide +kernel) ⟨Nat.le_of_ble_eq_true rfl, Nat.le_of_ble_eq_true rfl⟩) ⟨pP_blind, va_recv hK hP (ci := 0) (q0 := 0) rfl rfl, pP_pre hP hK⟩ rfl rfl hl.1 rfl (lv_room (Nat.le_of_ble_eq_true rfl)) dX0_findMissing_34 ⟨Nat.zero_le _, Nat.zero_le _⟩) ?_
          refine lv_iconst (v := oI none) hx hb dX0_findMissing_37 (by decide) ?_
          refine q_icmpO_ne (a := vlu ex pa ho dv i (sp + 1) (tp + 1) g) (b := none) (tgt := 50) (fun k h9 => by have := vlu_in hho hpr hdv hg (by omega) (show sp + 1 < 4 by omega) (by omega) k h9; omega) (fun k h9 => by cases h9) hx hb dX0_findMissing_38 (by decide) (fun k38 => ?_) (fun k38 => ?_)
          · refine lv_iinc (v := nI (i + 1)) (lv' := [(5, .int (nI (i + 1))), (0, .ref h), (1, .int (nI g)), (2, .int (nI sp)), (3, .int (nI tp)), (4, .int (nI b))]) hx hb dX0_findMissing_50 hl (k := 5) rfl (i1_n i) (by decide) rfl (fun ls hl => ?_)
            refine lv_goto (tgt := 6) hx hb dX0_findMissing_53 (by decide) ?_
            exact ih (i + 1) b (by omega) (by omega) (by rw [bset_f (show lck ex pa ho dv ak g sp tp i = false by simp [lck, k38])]; exact hset) _ (lv_sub hl [1, 2, 3, 4, 5, 0] rfl)
          · refine lv_iload hx hb dX0_findMissing_41 (lv_at hl 4 rfl) ?_
            refine lv_iconst (v := nI 1) hx hb dX0_findMissing_43 (by decide) ?_
            refine lv_iload hx hb dX0_findMissing_44 (lv_at hl 5 rfl) ?_
            refine lv_ishl hx hb dX0_findMissing_46 ?_
            refine q_top (y := nI (2 ^ i)) (shl1 i (by omega)) ?_
            refine lv_ior hx hb dX0_findMissing_47 ?_
            refine q_top (y := nI (b ||| 2 ^ i)) (nI_or b (2 ^ i)) ?_
            refine lv_istore (lv' := [(4, .int (nI (b ||| 2 ^ i))), (0, .ref h), (1, .int (nI g)), (2, .int (nI sp)), (3, .int (nI tp)), (5, .int (nI i))]) hx hb dX0_findMissing_48 hl (by decide) rfl (fun ls hl => ?_)
            refine lv_iinc (v := nI (i + 1)) (lv' := [(5, .int (nI (i + 1))), (4, .int (nI (b ||| 2 ^ i))), (0, .ref h), (1, .int (nI g)), (2, .int (nI sp)), (3, .int (nI tp))]) hx hb dX0_findMissing_50 hl (k := 5) rfl (i1_n i) (by decide) rfl (fun ls hl => ?_)
            refine lv_goto (tgt := 6) hx hb dX0_findMissing_53 (by decide) ?_
            exact ih (i + 1) (b ||| 2 ^ i) (by omega) (by omega) (by rw [bset_t (show lck ex pa ho dv ak g sp tp i = true by simp [lck, k25, k38]), ← hset]) _ (lv_sub hl [2, 3, 4, 5, 1, 0] rfl)
  exact loop6 7 0 0 (by omega) (Nat.le_refl 7) rfl _ (lv_sub hl [2, 3, 4, 5, 1, 0] rfl)

set_option maxHeartbeats 4000000 in
set_option maxRecDepth 100000 in
theorem kX0_isComplete (l : Launch) (D : va_G) (h : Nat) (ad : Nat → Nat) (cI cZ : ClassId) (ex : Nat → Bool) (pa : Nat → Option Nat) (di : Nat → Nat) (qu : Nat → Nat) (gc : Nat) (dg : Nat → Nat) (dp : Nat → Nat) (dv : Nat → Option Nat) (dd : Nat → Nat) (ds : Nat → Nat) (dc : Nat) (td : Nat) (ho : Nat → Option Nat) (ak : Nat → Bool) (se : Nat → Option Nat) (pr : Nat → Option Nat) (g sp : Nat) (hg : g < 16) (hs : sp < 3) (hpr : PR pa) (hho : HO ho dc) (hdc : dc ≤ 200) (hdv : DV dv dc) : Met l yX0_isComplete wsX0_isComplete ({ frames := 5, cells := 0, slots := 0, locals := 127 } : Room) (pP D (hW h ad cI cZ ex pa di qu gc dg dp dv dd ds dc td ho ak se pr) (hT cI cZ) [.ref h, .int (nI g), .int (nI sp)]) (pQ (some (.int (bI (!exU (fun t => decide (bset (lck ex pa ho dv ak g sp t) 6 ≠ 0)) 3))))) 0 0 nF := by
  refine Met.ofW (cc := cX0_isComplete) (maxL := 4) (ret := (some .boolean)) (by decide) rfl ?_
  intro p e s m args below meth c s₁ B hml hv
  obtain ⟨rfl, hP, hK⟩ := hv
  have hx := B.exec
  have hb := B.bytes
  have hr := B.returns
  have hts := atoms_spec (ws := wsX0_isComplete) B.pre
  have hown : s.vm.findClass RX0 = some m.cls := findClass_of_methodNamed B.named
  have hlocks := B.notSynchronized
  have hl := lv_entry ([.ref h, .int (nI g), .int (nI sp)]) (n := 4) (Nat.le_of_ble_eq_true rfl)
  rw [lg_entry_eq]
  generalize (lg_sl ([.ref h, .int (nI g), .int (nI sp)]) ++ List.replicate (4 - (lg_sl ([.ref h, .int (nI g), .int (nI sp)])).length) Slot.unset).toArray = ls at hl ⊢
  have hl : lv_has ls 4 [(0, .ref h), (1, .int (nI g)), (2, .int (nI sp))] := hl
  refine lv_iconst (v := nI 0) hx hb dX0_isComplete_0 (by decide) ?_
  refine lv_istore_n (lv' := [(3, .int (nI 0)), (0, .ref h), (1, .int (nI g)), (2, .int (nI sp))]) hx hb dX0_isComplete_1 rfl hl (by decide) rfl (fun ls hl => ?_)
  have loop2 : ∀ (n : Nat) (i : Nat), (i ≤ 3) → (4 ≤ i + n) → (∀ t, t < i → bset (lck ex pa ho dv ak g sp t) 6 = 0) → ∀ ls : Array Slot, lv_has ls 4 [(0, .ref h), (1, .int (nI g)), (2, .int (nI sp)), (3, .int (nI i))] → W p l e ({ frames := 5, cells := 0, slots := 0, locals := 127 } : Room) s m ([.ref h, .int (nI g), .int (nI sp)] : List Value).toArray below meth c s.heap [] 0 0 (MQ below (pQ (some (.int (bI (!exU (fun t => decide (bset (lck ex pa ho dv ak g sp t) 6 ≠ 0)) 3))))) ([.ref h, .int (nI g), .int (nI sp)] : List Value).toArray s 0 0 nF) (F0 m 2 ls []) := by
    intro n
    induction n with
    | zero => intro i hle hn hset; omega
    | succ n ih =>
      intro i hle hn hset ls hl
      refine lv_iload_n hx hb dX0_isComplete_2 rfl (lv_at hl 3 rfl) ?_
      refine lv_iconst (v := nI 3) hx hb dX0_isComplete_3 (by decide) ?_
      refine q_icmpN_ge (a := i) (b := 3) (tgt := 25) (by omega) (by omega) hx hb dX0_isComplete_4 (by decide) (fun k4 => ?_) (fun k4 => ?_)
      · refine lv_iconst (v := nI 1) hx hb dX0_isComplete_25 (by decide) ?_
        exact q_retZ hx hb hr hlocks (retT (by rw [exU_no.mpr (fun t h9 => show decide (bset (lck ex pa ho dv ak g sp t) 6 ≠ 0) = false from decide_eq_false (fun h8 => h8 (hset t (by omega))))]; rfl)) dX0_isComplete_26
      · refine lv_aload_n hx hb dX0_isComplete_7 rfl (lv_at hl 0 rfl) ?_
        refine lv_iload_n hx hb dX0_isComplete_8 rfl (lv_at hl 1 rfl) ?_
        refine lv_iload_n hx hb dX0_isComplete_9 rfl (lv_at hl 2 rfl) ?_
        refine lv_iload_n hx hb dX0_isComplete_10 rfl (lv_at hl 3 rfl) ?_
        refine q_callI (r := nI (bset (lck ex pa ho dv ak g sp i) 6)) (va_runV (As := [.int (nI g), .int (nI sp), .int (nI i)]) (rest := []) ⟨hx, hb, hml, hown, hts⟩ (kX0_findMissing l D h ad cI cZ ex pa di qu gc dg dp dv dd ds dc td ho ak se pr g sp i hg hs (by omega) hpr hho hdc hdv) (cwV 3 hts gX0_isComplete_X0_findMissing rfl rfl rfl (by decide +kernel) ⟨Nat.le_of_ble_eq_true rfl, Nat.le_of_ble_eq_true rfl⟩) ⟨pP_blind, va_recv hK hP (ci := 0) (q0 := 0) rfl rfl, pP_pre hP hK⟩ rfl rfl hl.1 rfl (lv_room (Nat.le_of_ble_eq_true rfl)) dX0_isComplete_11 ⟨Nat.zero_le _, Nat.zero_le _⟩) ?_
        refine q_ifN_eq (a := bset (lck ex pa ho dv ak g sp i) 6) (tgt := 19) (Nat.lt_trans (bset_lt _ 6) (by decide)) hx hb dX0_isComplete_14 (by decide) (fun k14 => ?_) (fun k14 => ?_)
        · refine lv_iinc (v := nI (i + 1)) (lv' := [(3, .int (nI (i + 1))), (0, .ref h), (1, .int (nI g)), (2, .int (nI sp))]) hx hb dX0_isComplete_19 hl (k := 3) rfl (i1_n i) (by decide) rfl (fun ls hl => ?_)
          refine lv_goto (tgt := 2) hx hb dX0_isComplete_22 (by decide) ?_
          exact ih (i + 1) (by omega) (by omega) (fun t h9 => (Nat.lt_or_ge t i).elim (hset t) (fun h8 => by rw [show t = i by omega]; exact k14)) _ (lv_sub hl [1, 2, 3, 0] rfl)
        · refine lv_iconst (v := nI 0) hx hb dX0_isComplete_17 (by decide) ?_
          exact q_retZ hx hb hr hlocks (retF (by rw [exU_yes (show i < 3 by omega) (show decide (bset (lck ex pa ho dv ak g sp i) 6 ≠ 0) = true from decide_eq_true k14)]; rfl)) dX0_isComplete_18
  exact loop2 4 0 (by omega) (Nat.le_refl 4) (fun t h9 => absurd h9 (Nat.not_lt_zero t)) _ (lv_sub hl [1, 2, 3, 0] rfl)

set_option maxHeartbeats 4000000 in
set_option maxRecDepth 100000 in
theorem kX0_looksChanged (l : Launch) (D : va_G) (h : Nat) (ad : Nat → Nat) (cI cZ : ClassId) (ex : Nat → Bool) (pa : Nat → Option Nat) (di : Nat → Nat) (qu : Nat → Nat) (gc : Nat) (dg : Nat → Nat) (dp : Nat → Nat) (dv : Nat → Option Nat) (dd : Nat → Nat) (ds : Nat → Nat) (dc : Nat) (td : Nat) (ho : Nat → Option Nat) (ak : Nat → Bool) (se : Nat → Option Nat) (pr : Nat → Option Nat) (g sp : Nat) (hg : g < 16) (hs : sp < 3) (hpr : PR pa) (hho : HO ho dc) (hdc : dc ≤ 200) (hdv : DV dv dc) (hse : ∀ k, k < 864 → ∀ v, se k = some v → v ≤ 100000) : Met l yX0_looksChanged wsX0_looksChanged ({ frames := 4, cells := 0, slots := 0, locals := 102 } : Room) (pP D (hW h ad cI cZ ex pa di qu gc dg dp dv dd ds dc td ho ak se pr) (hT cI cZ) [.ref h, .int (nI g), .int (nI sp)]) (pQ (some (.int (bI (lkd ex pa ho dv se sp g))))) 0 0 nF := by
  refine Met.ofW (cc := cX0_looksChanged) (maxL := 5) (ret := (some .boolean)) (by decide) rfl ?_
  intro p e s m args below meth c s₁ B hml hv
  obtain ⟨rfl, hP, hK⟩ := hv
  have hx := B.exec
  have hb := B.bytes
  have hr := B.returns
  have hts := atoms_spec (ws := wsX0_looksChanged) B.pre
  have hown : s.vm.findClass RX0 = some m.cls := findClass_of_methodNamed B.named
  have hlocks := B.notSynchronized
  have hl := lv_entry ([.ref h, .int (nI g), .int (nI sp)]) (n := 5) (Nat.le_of_ble_eq_true rfl)
  rw [lg_entry_eq]
  generalize (lg_sl ([.ref h, .int (nI g), .int (nI sp)]) ++ List.replicate (5 - (lg_sl ([.ref h, .int (nI g), .int (nI sp)])).length) Slot.unset).toArray = ls at hl ⊢
  have hl : lv_has ls 5 [(0, .ref h), (1, .int (nI g)), (2, .int (nI sp))] := hl
  refine lv_iload_n hx hb dX0_looksChanged_0 rfl (lv_at hl 2 rfl) ?_
  refine lv_sipush (v := nI 288) hx hb dX0_looksChanged_1 (by decide) ?_
  refine q_mulN (a := sp) (b := 288) hx hb dX0_looksChanged_4 ?_
  refine lv_iload_n hx hb dX0_looksChanged_5 rfl (lv_at hl 1 rfl) ?_
  refine lv_bipush (v := nI 18) hx hb dX0_looksChanged_6 (by decide) ?_
  refine q_mulN (a := g) (b := 18) hx hb dX0_looksChanged_8 ?_
  refine q_addN (a := sp * 288) (b := g * 18) hx hb dX0_looksChanged_9 ?_
  refine lv_istore_n (lv' := [(3, .int (nI ((sp * 288) + (g * 18)))), (0, .ref h), (1, .int (nI g)), (2, .int (nI sp))]) hx hb dX0_looksChanged_10 rfl hl (by decide) rfl (fun ls hl => ?_)
  refine lv_iconst (v := nI 0) hx hb dX0_looksChanged_11 (by decide) ?_
  refine lv_istore (lv' := [(4, .int (nI 0)), (3, .int (nI ((sp * 288) + (g * 18)))), (0, .ref h), (1, .int (nI g)), (2, .int (nI sp))]) hx hb dX0_looksChanged_12 hl (by decide) rfl (fun ls hl => ?_)
  have loop14 : ∀ (n : Nat) (i : Nat), (i ≤ 18) → (19 ≤ i + n) → (∀ t, t < i → lkj ex pa ho dv se sp g t = false) → ∀ ls : Array Slot, lv_has ls 5 [(0, .ref h), (1, .int (nI g)), (2, .int (nI sp)), (3, .int (nI ((sp * 288) + (g * 18)))), (4, .int (nI i))] → W p l e ({ frames := 4, cells := 0, slots := 0, locals := 102 } : Room) s m ([.ref h, .int (nI g), .int (nI sp)] : List Value).toArray below meth c s.heap [] 0 0 (MQ below (pQ (some (.int (bI (lkd ex pa ho dv se sp g))))) ([.ref h, .int (nI g), .int (nI sp)] : List Value).toArray s 0 0 nF) (F0 m 14 ls []) := by
    intro n
    induction n with
    | zero => intro i hle hn hset; omega
    | succ n ih =>
      intro i hle hn hset ls hl
      refine lv_iload hx hb dX0_looksChanged_14 (lv_at hl 4 rfl) ?_
      refine lv_bipush (v := nI 18) hx hb dX0_looksChanged_16 (by decide) ?_
      refine q_icmpN_ge (a := i) (b := 18) (tgt := 55) (by omega) (by omega) hx hb dX0_looksChanged_18 (by decide) (fun k18 => ?_) (fun k18 => ?_)
      · refine lv_iconst (v := nI 0) hx hb dX0_looksChanged_55 (by decide) ?_
        exact q_retZ hx hb hr hlocks (retF (show lkd ex pa ho dv se sp g = false from exU_no.mpr (fun t h9 => hset t (by omega)))) dX0_looksChanged_56
      · refine lv_aload_n hx hb dX0_looksChanged_21 rfl (lv_at hl 0 rfl) ?_
        refine va_get (D := D) (ci := 0) (v := .ref (ad 14)) (C := RX0) (T := TX0) (N := 16) hx hb hts (iX0_looksChanged) hown hK hP 0 rfl rfl 14 (by decide) (hts (.fieldLink RX0 54 "ShopHub" "seen" "[I") (by decide +kernel)) (fun _ h9 => h9) rfl dX0_looksChanged_22 ?_
        refine lv_iload_n hx hb dX0_looksChanged_25 rfl (lv_at hl 3 rfl) ?_
        refine lv_iload hx hb dX0_looksChanged_26 (lv_at hl 4 rfl) ?_
        refine q_addN (a := (sp * 288) + (g * 18)) (b := i) hx hb dX0_looksChanged_28 ?_
        refine q_ald oI se hx hb hK hP 12 1 rfl rfl (k := ((sp * 288) + (g * 18)) + i) (by omega) (Nat.le_of_ble_eq_true rfl) dX0_looksChanged_29 ?_
        refine lv_aload_n hx hb dX0_looksChanged_30 rfl (lv_at hl 0 rfl) ?_
        refine lv_iload_n hx hb dX0_looksChanged_31 rfl (lv_at hl 1 rfl) ?_
        refine lv_iload hx hb dX0_looksChanged_32 (lv_at hl 4 rfl) ?_
        refine lv_iconst (v := nI 3) hx hb dX0_looksChanged_34 (by decide) ?_
        refine q_divN (a := i) (b := 3) ((by omega)) (by decide) (by decide) hx hb dX0_looksChanged_35 ?_
        refine lv_iload_n hx hb dX0_looksChanged_36 rfl (lv_at hl 2 rfl) ?_
        refine lv_iload hx hb dX0_looksChanged_37 (lv_at hl 4 rfl) ?_
        refine lv_iconst (v := nI 3) hx hb dX0_looksChanged_39 (by decide) ?_
        refine q_remN (a := i) (b := 3) (by omega) (by decide) (by decide) hx hb dX0_looksChanged_40 ?_
        refine q_callI (r := oI (vlu ex pa ho dv (i / 3) (sp + 1) ((i % 3) + 1) g)) (va_runV (As := [.int (nI g), .int (nI (i / 3)), .int (nI sp), .int (nI (i % 3))]) (rest := [.int (oI (se (((sp * 288) + (g * 18)) + i)))]) ⟨hx, hb, hml, hown, hts⟩ (kX0_findValue l D h ad cI cZ ex pa di qu gc dg dp dv dd ds dc td ho ak se pr g (i / 3) sp (i % 3) hg (by omega) hs (by omega) hpr hho hdc) (cwV 4 hts gX0_looksChanged_X0_findValue rfl rfl rfl (by decide +kernel) ⟨Nat.le_of_ble_eq_true rfl, Nat.le_of_ble_eq_true rfl⟩) ⟨pP_blind, va_recv hK hP (ci := 0) (q0 := 0) rfl rfl, pP_pre hP hK⟩ rfl rfl hl.1 rfl (lv_room (Nat.le_of_ble_eq_true rfl)) dX0_looksChanged_41 ⟨Nat.zero_le _, Nat.zero_le _⟩) ?_
        refine q_icmpO_eq (a := se (((sp * 288) + (g * 18)) + i)) (b := vlu ex pa ho dv (i / 3) (sp + 1) ((i % 3) + 1) g) (tgt := 49) (fun k h9 => by have := hse _ (by omega) k h9; omega) (fun k h9 => by have := vlu_in hho hpr hdv hg (show i / 3 < 6 by omega) (show sp + 1 < 4 by omega) (show i % 3 + 1 < 4 by omega) k h9; omega) hx hb dX0_looksChanged_44 (by decide) (fun k44 => ?_) (fun k44 => ?_)
        · refine lv_iinc (v := nI (i + 1)) (lv' := [(4, .int (nI (i + 1))), (0, .ref h), (1, .int (nI g)), (2, .int (nI sp)), (3, .int (nI ((sp * 288) + (g * 18))))]) hx hb dX0_looksChanged_49 hl (k := 4) rfl (i1_n i) (by decide) rfl (fun ls hl => ?_)
          refine lv_goto (tgt := 14) hx hb dX0_looksChanged_52 (by decide) ?_
          exact ih (i + 1) (by omega) (by omega) (fun t h9 => (Nat.lt_or_ge t i).elim (hset t) (fun h8 => by rw [show t = i by omega]; exact decide_eq_false (fun h7 => h7 k44))) _ (lv_sub hl [1, 2, 3, 4, 0] rfl)
        · refine lv_iconst (v := nI 1) hx hb dX0_looksChanged_47 (by decide) ?_
          exact q_retZ hx hb hr hlocks (retT (show lkd ex pa ho dv se sp g = true from exU_yes (show i < 18 by omega) (decide_eq_true k44))) dX0_looksChanged_48
  exact loop14 19 0 (by omega) (Nat.le_refl 19) (fun t h9 => absurd h9 (Nat.not_lt_zero t)) _ (lv_sub hl [2, 3, 4, 1, 0] rfl)

set_option maxHeartbeats 4000000 in
set_option maxRecDepth 100000 in
theorem kX0_findChanged (l : Launch) (D : va_G) (h : Nat) (ad : Nat → Nat) (cI cZ : ClassId) (ex : Nat → Bool) (pa : Nat → Option Nat) (di : Nat → Nat) (qu : Nat → Nat) (gc : Nat) (dg : Nat → Nat) (dp : Nat → Nat) (dv : Nat → Option Nat) (dd : Nat → Nat) (ds : Nat → Nat) (dc : Nat) (td : Nat) (ho : Nat → Option Nat) (ak : Nat → Bool) (se : Nat → Option Nat) (pr : Nat → Option Nat) (sp : Nat) (hs : sp < 3) (hpr : PR pa) (hho : HO ho dc) (hdc : dc ≤ 200) (hdv : DV dv dc) (hse : ∀ k, k < 864 → ∀ v, se k = some v → v ≤ 100000) : Met l yX0_findChanged wsX0_findChanged ({ frames := 5, cells := 0, slots := 0, locals := 126 } : Room) (pP D (hW h ad cI cZ ex pa di qu gc dg dp dv dd ds dc td ho ak se pr) (hT cI cZ) [.ref h, .int (nI sp)]) (pQ (some (.int (nI (bset (lkd ex pa ho dv se sp) 16))))) 0 0 nF := by
  refine Met.ofW (cc := cX0_findChanged) (maxL := 4) (ret := (some .int)) (by decide) rfl ?_
  intro p e s m args below meth c s₁ B hml hv
  obtain ⟨rfl, hP, hK⟩ := hv
  have hx := B.exec
  have hb := B.bytes
  have hr := B.returns
  have hts := atoms_spec (ws := wsX0_findChanged) B.pre
  have hown : s.vm.findClass RX0 = some m.cls := findClass_of_methodNamed B.named
  have hlocks := B.notSynchronized
  have hl := lv_entry ([.ref h, .int (nI sp)]) (n := 4) (Nat.le_of_ble_eq_true rfl)
  rw [lg_entry_eq]
  generalize (lg_sl ([.ref h, .int (nI sp)]) ++ List.replicate (4 - (lg_sl ([.ref h, .int (nI sp)])).length) Slot.unset).toArray = ls at hl ⊢
  have hl : lv_has ls 4 [(0, .ref h), (1, .int (nI sp))] := hl
  refine lv_iconst (v := nI 0) hx hb dX0_findChanged_0 (by decide) ?_
  refine lv_istore_n (lv' := [(2, .int (nI 0)), (0, .ref h), (1, .int (nI sp))]) hx hb dX0_findChanged_1 rfl hl (by decide) rfl (fun ls hl => ?_)
  refine lv_iconst (v := nI 0) hx hb dX0_findChanged_2 (by decide) ?_
  refine lv_istore_n (lv' := [(3, .int (nI 0)), (2, .int (nI 0)), (0, .ref h), (1, .int (nI sp))]) hx hb dX0_findChanged_3 rfl hl (by decide) rfl (fun ls hl => ?_)
  have loop4 : ∀ (n : Nat) (i : Nat) (b : Nat), (i ≤ 16) → (17 ≤ i + n) → (b = bset (lkd ex pa ho dv se sp) i) → ∀ ls : Array Slot, lv_has ls 4 [(0, .ref h), (1, .int (nI sp)), (2, .int (nI b)), (3, .int (nI i))] → W p l e ({ frames := 5, cells := 0, slots := 0, locals := 126 } : Room) s m ([.ref h, .int (nI sp)] : List Value).toArray below meth c s.heap [] 0 0 (MQ below (pQ (some (.int (nI (bset (lkd ex pa ho dv se sp) 16))))) ([.ref h, .int (nI sp)] : List Value).toArray s 0 0 nF) (F0 m 4 ls []) := by
    intro n
    induction n with
    | zero => intro i b hle hn hset; omega
    | succ n ih =>
      intro i b hle hn hset ls hl
      refine lv_iload_n hx hb dX0_findChanged_4 rfl (lv_at hl 3 rfl) ?_
      refine lv_bipush (v := nI 16) hx hb dX0_findChanged_5 (by decide) ?_
      refine q_icmpN_ge (a := i) (b := 16) (tgt := 31) (by omega) (by omega) hx hb dX0_findChanged_7 (by decide) (fun k7 => ?_) (fun k7 => ?_)
      · refine lv_iload_n hx hb dX0_findChanged_31 rfl (lv_at hl 2 rfl) ?_
        exact q_retI hx hb hr hlocks (by rw [hset, show i = 16 by omega]) dX0_findChanged_32
      · refine lv_aload_n hx hb dX0_findChanged_10 rfl (lv_at hl 0 rfl) ?_
        refine lv_iload_n hx hb dX0_findChanged_11 rfl (lv_at hl 3 rfl) ?_
        refine lv_iload_n hx hb dX0_findChanged_12 rfl (lv_at hl 1 rfl) ?_
        refine q_callI (r := bI (lkd ex pa ho dv se sp i)) (va_runV (As := [.int (nI i), .int (nI sp)]) (rest := []) ⟨hx, hb, hml, hown, hts⟩ (kX0_looksChanged l D h ad cI cZ ex pa di qu gc dg dp dv dd ds dc td ho ak se pr i sp (by omega) hs hpr hho hdc hdv hse) (cwV 2 hts gX0_findChanged_X0_looksChanged rfl rfl rfl (by decide +kernel) ⟨Nat.le_of_ble_eq_true rfl, Nat.le_of_ble_eq_true rfl⟩) ⟨pP_blind, va_recv hK hP (ci := 0) (q0 := 0) rfl rfl, pP_pre hP hK⟩ rfl rfl hl.1 rfl (lv_room (Nat.le_of_ble_eq_true rfl)) dX0_findChanged_13 ⟨Nat.zero_le _, Nat.zero_le _⟩) ?_
        refine q_ifB_eq (b := lkd ex pa ho dv se sp i) (tgt := 25) hx hb dX0_findChanged_16 (by decide) (fun k16 => ?_) (fun k16 => ?_)
        · refine lv_iinc (v := nI (i + 1)) (lv' := [(3, .int (nI (i + 1))), (0, .ref h), (1, .int (nI sp)), (2, .int (nI b))]) hx hb dX0_findChanged_25 hl (k := 3) rfl (i1_n i) (by decide) rfl (fun ls hl => ?_)
          refine lv_goto (tgt := 4) hx hb dX0_findChanged_28 (by decide) ?_
          exact ih (i + 1) b (by omega) (by omega) (by rw [bset_f k16]; exact hset) _ (lv_sub hl [1, 2, 3, 0] rfl)
        · refine lv_iload_n hx hb dX0_findChanged_19 rfl (lv_at hl 2 rfl) ?_
          refine lv_iconst (v := nI 1) hx hb dX0_findChanged_20 (by decide) ?_
          refine lv_iload_n hx hb dX0_findChanged_21 rfl (lv_at hl 3 rfl) ?_
          refine lv_ishl hx hb dX0_findChanged_22 ?_
          refine q_top (y := nI (2 ^ i)) (shl1 i (by omega)) ?_
          refine lv_ior hx hb dX0_findChanged_23 ?_
          refine q_top (y := nI (b ||| 2 ^ i)) (nI_or b (2 ^ i)) ?_
          refine lv_istore_n (lv' := [(2, .int (nI (b ||| 2 ^ i))), (0, .ref h), (1, .int (nI sp)), (3, .int (nI i))]) hx hb dX0_findChanged_24 rfl hl (by decide) rfl (fun ls hl => ?_)
          refine lv_iinc (v := nI (i + 1)) (lv' := [(3, .int (nI (i + 1))), (2, .int (nI (b ||| 2 ^ i))), (0, .ref h), (1, .int (nI sp))]) hx hb dX0_findChanged_25 hl (k := 3) rfl (i1_n i) (by decide) rfl (fun ls hl => ?_)
          refine lv_goto (tgt := 4) hx hb dX0_findChanged_28 (by decide) ?_
          exact ih (i + 1) (b ||| 2 ^ i) (by omega) (by omega) (by rw [bset_t k16, ← hset]) _ (lv_sub hl [2, 3, 1, 0] rfl)
  exact loop4 17 0 0 (by omega) (Nat.le_refl 17) rfl _ (lv_sub hl [2, 3, 1, 0] rfl)
end
section
set_option maxHeartbeats 4000000 in
set_option maxRecDepth 100000 in
theorem kX0_checkGood (l : Launch) (D : va_G) (h : Nat) (ad : Nat → Nat) (cI cZ : ClassId) (ex : Nat → Bool) (pa : Nat → Option Nat) (di : Nat → Nat) (qu : Nat → Nat) (gc : Nat) (dg : Nat → Nat) (dp : Nat → Nat) (dv : Nat → Option Nat) (dd : Nat → Nat) (ds : Nat → Nat) (dc : Nat) (td : Nat) (ho : Nat → Option Nat) (ak : Nat → Bool) (se : Nat → Option Nat) (pr : Nat → Option Nat) (j : Nat) (hj : j < 16) (he : ex j = true) : Met l yX0_checkGood wsX0_checkGood ({ frames := 1, cells := 0, slots := 0, locals := 21 } : Room) (pP D (hW h ad cI cZ ex pa di qu gc dg dp dv dd ds dc td ho ak se pr) (hT cI cZ) [.ref h, .int (nI j)]) (pQ none) 0 0 nF := by
  refine Met.ofW (cc := cX0_checkGood) (maxL := 2) (ret := none) (by decide) rfl ?_
  intro p e s m args below meth c s₁ B hml hv
  obtain ⟨rfl, hP, hK⟩ := hv
  have hx := B.exec
  have hb := B.bytes
  have hr := B.returns
  have hts := atoms_spec (ws := wsX0_checkGood) B.pre
  have hown : s.vm.findClass RX0 = some m.cls := findClass_of_methodNamed B.named
  have hlocks := B.notSynchronized
  have hl := lv_entry ([.ref h, .int (nI j)]) (n := 2) (Nat.le_of_ble_eq_true rfl)
  rw [lg_entry_eq]
  generalize (lg_sl ([.ref h, .int (nI j)]) ++ List.replicate (2 - (lg_sl ([.ref h, .int (nI j)])).length) Slot.unset).toArray = ls at hl ⊢
  have hl : lv_has ls 2 [(0, .ref h), (1, .int (nI j))] := hl
  refine lv_aload_n hx hb dX0_checkGood_0 rfl (lv_at hl 0 rfl) ?_
  refine lv_iload_n hx hb dX0_checkGood_1 rfl (lv_at hl 1 rfl) ?_
  refine q_callI (r := bI (ex j)) (va_runV (As := [.int (nI j)]) (rest := []) ⟨hx, hb, hml, hown, hts⟩ (kX0_isGoodN l D h ad cI cZ ex pa di qu gc dg dp dv dd ds dc td ho ak se pr j hj) (cwV 1 hts gX0_checkGood_X0_isGood rfl rfl rfl (by decide +kernel) ⟨Nat.le_of_ble_eq_true rfl, Nat.le_of_ble_eq_true rfl⟩) ⟨pP_blind, va_recv hK hP (ci := 0) (q0 := 0) rfl rfl, pP_pre hP hK⟩ rfl rfl hl.1 rfl (lv_room (Nat.le_of_ble_eq_true rfl)) dX0_checkGood_2 ⟨Nat.zero_le _, Nat.zero_le _⟩) ?_
  refine q_ifB_ne (b := ex j) (tgt := 18) hx hb dX0_checkGood_5 (by decide) (fun k5 => ?_) (fun k5 => absurd k5 (by rw [he]; decide))
  exact q_retV hx hb hr hlocks dX0_checkGood_18

set_option maxHeartbeats 4000000 in
set_option maxRecDepth 100000 in
theorem kX0_checkAttribute (l : Launch) (a : Nat) (ha : a < 6) : Met l yX0_checkAttribute wsX0_checkAttribute ({ frames := 0, cells := 0, slots := 0, locals := 0 } : Room) (sP [.int (nI a)]) (pQ none) 0 0 nF := by
  refine Met.ofW (cc := cX0_checkAttribute) (maxL := 1) (ret := none) (by decide) rfl ?_
  intro p e s m args below meth c s₁ B hml hv
  obtain rfl := hv
  have hx := B.exec
  have hb := B.bytes
  have hr := B.returns
  have hts := atoms_spec (ws := wsX0_checkAttribute) B.pre
  have hown : s.vm.findClass RX0 = some m.cls := findClass_of_methodNamed B.named
  have hlocks := B.notSynchronized
  have hl := lv_entry ([.int (nI a)]) (n := 1) (Nat.le_of_ble_eq_true rfl)
  rw [lg_entry_eq]
  generalize (lg_sl ([.int (nI a)]) ++ List.replicate (1 - (lg_sl ([.int (nI a)])).length) Slot.unset).toArray = ls at hl ⊢
  have hl : lv_has ls 1 [(0, .int (nI a))] := hl
  refine lv_iload_n hx hb dX0_checkAttribute_0 rfl (lv_at hl 0 rfl) ?_
  refine q_ifN_lt (a := a) 10 (by omega) hx hb dX0_checkAttribute_1 (by decide) ?_
  refine lv_iload_n hx hb dX0_checkAttribute_4 rfl (lv_at hl 0 rfl) ?_
  refine lv_bipush (v := nI 6) hx hb dX0_checkAttribute_5 (by decide) ?_
  refine q_icmpN_lt (a := a) (b := 6) (tgt := 20) (by omega) (by omega) hx hb dX0_checkAttribute_7 (by decide) (fun k7 => ?_) (fun k7 => absurd k7 (by omega))
  exact q_retV hx hb hr hlocks dX0_checkAttribute_20

set_option maxHeartbeats 4000000 in
set_option maxRecDepth 100000 in
theorem kX0_checkShop (l : Launch) (sp : Nat) (hs : sp < 3) : Met l yX0_checkShop wsX0_checkShop ({ frames := 0, cells := 0, slots := 0, locals := 0 } : Room) (sP [.int (nI sp)]) (pQ none) 0 0 nF := by
  refine Met.ofW (cc := cX0_checkShop) (maxL := 1) (ret := none) (by decide) rfl ?_
  intro p e s m args below meth c s₁ B hml hv
  obtain rfl := hv
  have hx := B.exec
  have hb := B.bytes
  have hr := B.returns
  have hts := atoms_spec (ws := wsX0_checkShop) B.pre
  have hown : s.vm.findClass RX0 = some m.cls := findClass_of_methodNamed B.named
  have hlocks := B.notSynchronized
  have hl := lv_entry ([.int (nI sp)]) (n := 1) (Nat.le_of_ble_eq_true rfl)
  rw [lg_entry_eq]
  generalize (lg_sl ([.int (nI sp)]) ++ List.replicate (1 - (lg_sl ([.int (nI sp)])).length) Slot.unset).toArray = ls at hl ⊢
  have hl : lv_has ls 1 [(0, .int (nI sp))] := hl
  refine lv_iload_n hx hb dX0_checkShop_0 rfl (lv_at hl 0 rfl) ?_
  refine q_ifN_lt (a := sp) 9 (by omega) hx hb dX0_checkShop_1 (by decide) ?_
  refine lv_iload_n hx hb dX0_checkShop_4 rfl (lv_at hl 0 rfl) ?_
  refine lv_iconst (v := nI 3) hx hb dX0_checkShop_5 (by decide) ?_
  refine q_icmpN_lt (a := sp) (b := 3) (tgt := 19) (by omega) (by omega) hx hb dX0_checkShop_6 (by decide) (fun k6 => ?_) (fun k6 => absurd k6 (by omega))
  exact q_retV hx hb hr hlocks dX0_checkShop_19

set_option maxHeartbeats 4000000 in
set_option maxRecDepth 100000 in
theorem kX0_checkTongue (l : Launch) (tp : Nat) (ht : tp < 3) : Met l yX0_checkTongue wsX0_checkTongue ({ frames := 0, cells := 0, slots := 0, locals := 0 } : Room) (sP [.int (nI tp)]) (pQ none) 0 0 nF := by
  refine Met.ofW (cc := cX0_checkTongue) (maxL := 1) (ret := none) (by decide) rfl ?_
  intro p e s m args below meth c s₁ B hml hv
  obtain rfl := hv
  have hx := B.exec
  have hb := B.bytes
  have hr := B.returns
  have hts := atoms_spec (ws := wsX0_checkTongue) B.pre
  have hown : s.vm.findClass RX0 = some m.cls := findClass_of_methodNamed B.named
  have hlocks := B.notSynchronized
  have hl := lv_entry ([.int (nI tp)]) (n := 1) (Nat.le_of_ble_eq_true rfl)
  rw [lg_entry_eq]
  generalize (lg_sl ([.int (nI tp)]) ++ List.replicate (1 - (lg_sl ([.int (nI tp)])).length) Slot.unset).toArray = ls at hl ⊢
  have hl : lv_has ls 1 [(0, .int (nI tp))] := hl
  refine lv_iload_n hx hb dX0_checkTongue_0 rfl (lv_at hl 0 rfl) ?_
  refine q_ifN_lt (a := tp) 9 (by omega) hx hb dX0_checkTongue_1 (by decide) ?_
  refine lv_iload_n hx hb dX0_checkTongue_4 rfl (lv_at hl 0 rfl) ?_
  refine lv_iconst (v := nI 3) hx hb dX0_checkTongue_5 (by decide) ?_
  refine q_icmpN_lt (a := tp) (b := 3) (tgt := 19) (by omega) (by omega) hx hb dX0_checkTongue_6 (by decide) (fun k6 => ?_) (fun k6 => absurd k6 (by omega))
  exact q_retV hx hb hr hlocks dX0_checkTongue_19

set_option maxHeartbeats 4000000 in
set_option maxRecDepth 100000 in
theorem kX0_complete (l : Launch) (D : va_G) (h : Nat) (ad : Nat → Nat) (cI cZ : ClassId) (ex : Nat → Bool) (pa : Nat → Option Nat) (di : Nat → Nat) (qu : Nat → Nat) (gc : Nat) (dg : Nat → Nat) (dp : Nat → Nat) (dv : Nat → Option Nat) (dd : Nat → Nat) (ds : Nat → Nat) (dc : Nat) (td : Nat) (ho : Nat → Option Nat) (ak : Nat → Bool) (se : Nat → Option Nat) (pr : Nat → Option Nat) (sp : Nat) (hs : sp < 3) (hpr : PR pa) (hho : HO ho dc) (hdc : dc ≤ 200) (hdv : DV dv dc) : Met l yX0_complete wsX0_complete ({ frames := 6, cells := 0, slots := 0, locals := 150 } : Room) (pP D (hW h ad cI cZ ex pa di qu gc dg dp dv dd ds dc td ho ak se pr) (hT cI cZ) [.ref h, .int (nI sp)]) (pQ (some (.int (nI (cnt (cpl ex pa ho dv ak sp) 16))))) 0 0 nF := by
  refine Met.ofW (cc := cX0_complete) (maxL := 4) (ret := (some .int)) (by decide) rfl ?_
  intro p e s m args below meth c s₁ B hml hv
  obtain ⟨rfl, hP, hK⟩ := hv
  have hx := B.exec
  have hb := B.bytes
  have hr := B.returns
  have hts := atoms_spec (ws := wsX0_complete) B.pre
  have hown : s.vm.findClass RX0 = some m.cls := findClass_of_methodNamed B.named
  have hlocks := B.notSynchronized
  have hl := lv_entry ([.ref h, .int (nI sp)]) (n := 4) (Nat.le_of_ble_eq_true rfl)
  rw [lg_entry_eq]
  generalize (lg_sl ([.ref h, .int (nI sp)]) ++ List.replicate (4 - (lg_sl ([.ref h, .int (nI sp)])).length) Slot.unset).toArray = ls at hl ⊢
  have hl : lv_has ls 4 [(0, .ref h), (1, .int (nI sp))] := hl
  refine lv_iload_n hx hb dX0_complete_0 rfl (lv_at hl 1 rfl) ?_
  refine q_callV (va_runS (As := [.int (nI sp)]) (rest := []) ⟨hx, hb, hml, hown, hts⟩ (kX0_checkShop l sp hs) (cwS 1 hts gX0_complete_X0_checkShop rfl rfl rfl (by decide +kernel) ⟨Nat.le_of_ble_eq_true rfl, Nat.le_of_ble_eq_true rfl⟩) ⟨sP_blind, sP_pre⟩ rfl rfl hl.1 rfl (lv_room (Nat.le_of_ble_eq_true rfl)) dX0_complete_1 ⟨Nat.zero_le _, Nat.zero_le _⟩) ?_
  refine lv_iconst (v := nI 0) hx hb dX0_complete_4 (by decide) ?_
  refine lv_istore_n (lv' := [(2, .int (nI 0)), (0, .ref h), (1, .int (nI sp))]) hx hb dX0_complete_5 rfl hl (by decide) rfl (fun ls hl => ?_)
  refine lv_iconst (v := nI 0) hx hb dX0_complete_6 (by decide) ?_
  refine lv_istore_n (lv' := [(3, .int (nI 0)), (2, .int (nI 0)), (0, .ref h), (1, .int (nI sp))]) hx hb dX0_complete_7 rfl hl (by decide) rfl (fun ls hl => ?_)
  have loop8 : ∀ (n : Nat) (i : Nat) (k : Nat), (i ≤ 16) → (17 ≤ i + n) → (k = cnt (cpl ex pa ho dv ak sp) i) → ∀ ls : Array Slot, lv_has ls 4 [(0, .ref h), (1, .int (nI sp)), (2, .int (nI k)), (3, .int (nI i))] → W p l e ({ frames := 6, cells := 0, slots := 0, locals := 150 } : Room) s m ([.ref h, .int (nI sp)] : List Value).toArray below meth c s.heap [] 0 0 (MQ below (pQ (some (.int (nI (cnt (cpl ex pa ho dv ak sp) 16))))) ([.ref h, .int (nI sp)] : List Value).toArray s 0 0 nF) (F0 m 8 ls []) := by
    intro n
    induction n with
    | zero => intro i k hle hn hset; omega
    | succ n ih =>
      intro i k hle hn hset ls hl
      refine lv_iload_n hx hb dX0_complete_8 rfl (lv_at hl 3 rfl) ?_
      refine lv_bipush (v := nI 16) hx hb dX0_complete_9 (by decide) ?_
      refine q_icmpN_ge (a := i) (b := 16) (tgt := 41) (by omega) (by omega) hx hb dX0_complete_11 (by decide) (fun k11 => ?_) (fun k11 => ?_)
      · refine lv_iload_n hx hb dX0_complete_41 rfl (lv_at hl 2 rfl) ?_
        exact q_retI hx hb hr hlocks (by rw [hset, show i = 16 by omega]) dX0_complete_42
      · refine lv_aload_n hx hb dX0_complete_14 rfl (lv_at hl 0 rfl) ?_
        refine va_get (D := D) (ci := 0) (v := .ref (ad 0)) (C := RX0) (T := TX0) (N := 16) hx hb hts (iX0_complete) hown hK hP 0 rfl rfl 0 (by decide) (hts (.fieldLink RX0 9 "ShopHub" "exists" "[Z") (by decide +kernel)) (fun _ h9 => h9) rfl dX0_complete_15 ?_
        refine lv_iload_n hx hb dX0_complete_18 rfl (lv_at hl 3 rfl) ?_
        refine q_zld ex hx hb hK hP 1 0 rfl rfl (k := i) (by omega) (Nat.le_of_ble_eq_true rfl) dX0_complete_19 ?_
        refine q_ifB_eq (b := ex i) (tgt := 35) hx hb dX0_complete_20 (by decide) (fun k20 => ?_) (fun k20 => ?_)
        · refine lv_iinc (v := nI (i + 1)) (lv' := [(3, .int (nI (i + 1))), (0, .ref h), (1, .int (nI sp)), (2, .int (nI k))]) hx hb dX0_complete_35 hl (k := 3) rfl (i1_n i) (by decide) rfl (fun ls hl => ?_)
          refine lv_goto (tgt := 8) hx hb dX0_complete_38 (by decide) ?_
          exact ih (i + 1) k (by omega) (by omega) (by rw [cnt_f (f := (cpl ex pa ho dv ak sp)) (show cpl ex pa ho dv ak sp i = false by unfold cpl; rw [k20]; rfl)]; exact hset) _ (lv_sub hl [1, 2, 3, 0] rfl)
        · refine lv_aload_n hx hb dX0_complete_23 rfl (lv_at hl 0 rfl) ?_
          refine lv_iload_n hx hb dX0_complete_24 rfl (lv_at hl 3 rfl) ?_
          refine lv_iload_n hx hb dX0_complete_25 rfl (lv_at hl 1 rfl) ?_
          refine q_callI (r := bI (!exU (fun t => decide (bset (lck ex pa ho dv ak i sp t) 6 ≠ 0)) 3)) (va_runV (As := [.int (nI i), .int (nI sp)]) (rest := []) ⟨hx, hb, hml, hown, hts⟩ (kX0_isComplete l D h ad cI cZ ex pa di qu gc dg dp dv dd ds dc td ho ak se pr i sp (by omega) hs hpr hho hdc hdv) (cwV 2 hts gX0_complete_X0_isComplete rfl rfl rfl (by decide +kernel) ⟨Nat.le_of_ble_eq_true rfl, Nat.le_of_ble_eq_true rfl⟩) ⟨pP_blind, va_recv hK hP (ci := 0) (q0 := 0) rfl rfl, pP_pre hP hK⟩ rfl rfl hl.1 rfl (lv_room (Nat.le_of_ble_eq_true rfl)) dX0_complete_26 ⟨Nat.zero_le _, Nat.zero_le _⟩) ?_
          refine q_ifB_eq (b := !exU (fun t => decide (bset (lck ex pa ho dv ak i sp t) 6 ≠ 0)) 3) (tgt := 35) hx hb dX0_complete_29 (by decide) (fun k29 => ?_) (fun k29 => ?_)
          · refine lv_iinc (v := nI (i + 1)) (lv' := [(3, .int (nI (i + 1))), (0, .ref h), (1, .int (nI sp)), (2, .int (nI k))]) hx hb dX0_complete_35 hl (k := 3) rfl (i1_n i) (by decide) rfl (fun ls hl => ?_)
            refine lv_goto (tgt := 8) hx hb dX0_complete_38 (by decide) ?_
            exact ih (i + 1) k (by omega) (by omega) (by rw [cnt_f (f := (cpl ex pa ho dv ak sp)) (show cpl ex pa ho dv ak sp i = false by unfold cpl; rw [k29, Bool.and_false])]; exact hset) _ (lv_sub hl [1, 2, 3, 0] rfl)
          · refine lv_iinc (v := nI (k + 1)) (lv' := [(2, .int (nI (k + 1))), (0, .ref h), (1, .int (nI sp)), (3, .int (nI i))]) hx hb dX0_complete_32 hl (k := 2) rfl (i1_n k) (by decide) rfl (fun ls hl => ?_)
            refine lv_iinc (v := nI (i + 1)) (lv' := [(3, .int (nI (i + 1))), (2, .int (nI (k + 1))), (0, .ref h), (1, .int (nI sp))]) hx hb dX0_complete_35 hl (k := 3) rfl (i1_n i) (by decide) rfl (fun ls hl => ?_)
            refine lv_goto (tgt := 8) hx hb dX0_complete_38 (by decide) ?_
            exact ih (i + 1) (k + 1) (by omega) (by omega) (by rw [cnt_t (f := (cpl ex pa ho dv ak sp)) (show cpl ex pa ho dv ak sp i = true by unfold cpl; rw [k20, k29]; rfl), ← hset]) _ (lv_sub hl [2, 3, 1, 0] rfl)
  exact loop8 17 0 0 (by omega) (Nat.le_refl 17) rfl _ (lv_sub hl [2, 3, 1, 0] rfl)

set_option maxHeartbeats 4000000 in
set_option maxRecDepth 100000 in
theorem kX0_changed (l : Launch) (D : va_G) (h : Nat) (ad : Nat → Nat) (cI cZ : ClassId) (ex : Nat → Bool) (pa : Nat → Option Nat) (di : Nat → Nat) (qu : Nat → Nat) (gc : Nat) (dg : Nat → Nat) (dp : Nat → Nat) (dv : Nat → Option Nat) (dd : Nat → Nat) (ds : Nat → Nat) (dc : Nat) (td : Nat) (ho : Nat → Option Nat) (ak : Nat → Bool) (se : Nat → Option Nat) (pr : Nat → Option Nat) (sp : Nat) (hs : sp < 3) (hpr : PR pa) (hho : HO ho dc) (hdc : dc ≤ 200) (hdv : DV dv dc) (hse : ∀ k, k < 864 → ∀ v, se k = some v → v ≤ 100000) : Met l yX0_changed wsX0_changed ({ frames := 6, cells := 0, slots := 0, locals := 149 } : Room) (pP D (hW h ad cI cZ ex pa di qu gc dg dp dv dd ds dc td ho ak se pr) (hT cI cZ) [.ref h, .int (nI sp)]) (pQ (some (.int (nI (bset (lkd ex pa ho dv se sp) 16))))) 0 0 nF := by
  refine Met.ofW (cc := cX0_changed) (maxL := 2) (ret := (some .int)) (by decide) rfl ?_
  intro p e s m args below meth c s₁ B hml hv
  obtain ⟨rfl, hP, hK⟩ := hv
  have hx := B.exec
  have hb := B.bytes
  have hr := B.returns
  have hts := atoms_spec (ws := wsX0_changed) B.pre
  have hown : s.vm.findClass RX0 = some m.cls := findClass_of_methodNamed B.named
  have hlocks := B.notSynchronized
  have hl := lv_entry ([.ref h, .int (nI sp)]) (n := 2) (Nat.le_of_ble_eq_true rfl)
  rw [lg_entry_eq]
  generalize (lg_sl ([.ref h, .int (nI sp)]) ++ List.replicate (2 - (lg_sl ([.ref h, .int (nI sp)])).length) Slot.unset).toArray = ls at hl ⊢
  have hl : lv_has ls 2 [(0, .ref h), (1, .int (nI sp))] := hl
  refine lv_iload_n hx hb dX0_changed_0 rfl (lv_at hl 1 rfl) ?_
  refine q_callV (va_runS (As := [.int (nI sp)]) (rest := []) ⟨hx, hb, hml, hown, hts⟩ (kX0_checkShop l sp hs) (cwS 1 hts gX0_changed_X0_checkShop rfl rfl rfl (by decide +kernel) ⟨Nat.le_of_ble_eq_true rfl, Nat.le_of_ble_eq_true rfl⟩) ⟨sP_blind, sP_pre⟩ rfl rfl hl.1 rfl (lv_room (Nat.le_of_ble_eq_true rfl)) dX0_changed_1 ⟨Nat.zero_le _, Nat.zero_le _⟩) ?_
  refine lv_aload_n hx hb dX0_changed_4 rfl (lv_at hl 0 rfl) ?_
  refine lv_iload_n hx hb dX0_changed_5 rfl (lv_at hl 1 rfl) ?_
  refine q_callI (r := nI (bset (lkd ex pa ho dv se sp) 16)) (va_runV (As := [.int (nI sp)]) (rest := []) ⟨hx, hb, hml, hown, hts⟩ (kX0_findChanged l D h ad cI cZ ex pa di qu gc dg dp dv dd ds dc td ho ak se pr sp hs hpr hho hdc hdv hse) (cwV 1 hts gX0_changed_X0_findChanged rfl rfl rfl (by decide +kernel) ⟨Nat.le_of_ble_eq_true rfl, Nat.le_of_ble_eq_true rfl⟩) ⟨pP_blind, va_recv hK hP (ci := 0) (q0 := 0) rfl rfl, pP_pre hP hK⟩ rfl rfl hl.1 rfl (lv_room (Nat.le_of_ble_eq_true rfl)) dX0_changed_6 ⟨Nat.zero_le _, Nat.zero_le _⟩) ?_
  exact q_retI hx hb hr hlocks (rfl) dX0_changed_9
end
section
set_option maxHeartbeats 4000000 in
set_option maxRecDepth 100000 in
theorem kX0_checkGoodX (l : Launch) (D : va_G) (h : Nat) (ad : Nat → Nat) (cI cZ : ClassId) (ex : Nat → Bool) (pa : Nat → Option Nat) (di : Nat → Nat) (qu : Nat → Nat) (gc : Nat) (dg : Nat → Nat) (dp : Nat → Nat) (dv : Nat → Option Nat) (dd : Nat → Nat) (ds : Nat → Nat) (dc : Nat) (td : Nat) (ho : Nat → Option Nat) (ak : Nat → Bool) (se : Nat → Option Nat) (pr : Nat → Option Nat) (hlf : l.stackTraces = false) (g : Int32) (hg : gBad ex g) : vx_Met l yX0_checkGood wsX0_checkGood ({ frames := 6, cells := 1, slots := 6, locals := 82 } : Room) (tP D (hW h ad cI cZ ex pa di qu gc dg dp dv dd ds dc td ho ak se pr) (hT cI cZ) [.ref h, .int g]) nQ (tX "java/lang/IndexOutOfBoundsException") 1 6 nF := by
  refine vx_ofW (cc := cX0_checkGood) (maxL := 2) (ret := none) (by decide) rfl ?_
  intro p e s m args below meth c s₁ B hml hexc hv
  obtain ⟨rfl, hP, hK, hE⟩ := hv
  have hx := B.exec
  have hb := B.bytes
  have hr := B.returns
  have hts := atoms_spec (ws := wsX0_checkGood) B.pre
  have hown : s.vm.findClass RX0 = some m.cls := findClass_of_methodNamed B.named
  have hlocks := B.notSynchronized
  have hl := lv_entry ([.ref h, .int g]) (n := 2) (Nat.le_of_ble_eq_true rfl)
  rw [lg_entry_eq]
  generalize (lg_sl ([.ref h, .int g]) ++ List.replicate (2 - (lg_sl ([.ref h, .int g])).length) Slot.unset).toArray = ls at hl ⊢
  have hl : lv_has ls 2 [(0, .ref h), (1, .int g)] := hl
  rcases gBad_c hg with hg | ⟨j, hj, rfl, he⟩
  · refine lv_aload_n hx hb dX0_checkGood_0 rfl (lv_at hl 0 rfl) ?_
    refine lv_iload_n hx hb dX0_checkGood_1 rfl (lv_at hl 1 rfl) ?_
    refine q_callI (r := bI false) (va_runV (As := [.int g]) (rest := []) ⟨hx, hb, hml, hown, hts⟩ (kX0_isGoodR l D h ad cI cZ ex pa di qu gc dg dp dv dd ds dc td ho ak se pr g hg) (cwV 1 hts gX0_checkGood_X0_isGood rfl rfl rfl (by decide +kernel) ⟨Nat.le_of_ble_eq_true rfl, Nat.le_of_ble_eq_true rfl⟩) ⟨pP_blind, va_recv hK hP (ci := 0) (q0 := 0) rfl rfl, pP_pre hP hK⟩ rfl rfl hl.1 rfl (lv_room (Nat.le_of_ble_eq_true rfl)) dX0_checkGood_2 ⟨Nat.zero_le _, Nat.zero_le _⟩) ?_
    refine q_ifB_ne (b := false) (tgt := 18) hx hb dX0_checkGood_5 (by decide) (fun k5 => absurd k5 (by decide)) (fun k5 => ?_)
    obtain ⟨sa, hstr⟩ := hE.2.2.1 (124, "no such good") (by decide +kernel)
    exact vy_throwS (is := 124) (text := "no such good") (names := ["java/lang/RuntimeException", "java/lang/Exception"]) (A := nF) hx hb hlf hown (by decide +kernel) (by decide +kernel) (hts (.classLink RX0 122 "java/lang/IndexOutOfBoundsException") (by decide +kernel)) (hts (.initialized "java/lang/IndexOutOfBoundsException") (by decide +kernel)) hstr (vx_hat (B := tB "java/lang/IndexOutOfBoundsException") (fun w hw => hts w (thI_checkGood w hw)) (by decide +kernel) (tE_B hE (by decide))) (by decide +kernel) hE.1 hE.2.1 va_S.rf (hl.1.trans hml.symm) dX0_checkGood_8 dX0_checkGood_11 dX0_checkGood_12 dX0_checkGood_14 dX0_checkGood_17 (fun z hz => (hexc z hz).elim) (Nat.le_of_ble_eq_true rfl) (Nat.le_of_ble_eq_true rfl) (Nat.le_of_ble_eq_true rfl) (Nat.le_of_ble_eq_true rfl) hlocks (fun t ht h1 h2 => ⟨rfl, h1, h2⟩) (fun z hz => by cases hz) (Nat.le_refl 1) (Nat.le_refl 6)
  · refine lv_aload_n hx hb dX0_checkGood_0 rfl (lv_at hl 0 rfl) ?_
    refine lv_iload_n hx hb dX0_checkGood_1 rfl (lv_at hl 1 rfl) ?_
    refine q_callI (r := bI (ex j)) (va_runV (As := [.int (nI j)]) (rest := []) ⟨hx, hb, hml, hown, hts⟩ (kX0_isGoodN l D h ad cI cZ ex pa di qu gc dg dp dv dd ds dc td ho ak se pr j hj) (cwV 1 hts gX0_checkGood_X0_isGood rfl rfl rfl (by decide +kernel) ⟨Nat.le_of_ble_eq_true rfl, Nat.le_of_ble_eq_true rfl⟩) ⟨pP_blind, va_recv hK hP (ci := 0) (q0 := 0) rfl rfl, pP_pre hP hK⟩ rfl rfl hl.1 rfl (lv_room (Nat.le_of_ble_eq_true rfl)) dX0_checkGood_2 ⟨Nat.zero_le _, Nat.zero_le _⟩) ?_
    refine q_ifB_ne (b := ex j) (tgt := 18) hx hb dX0_checkGood_5 (by decide) (fun k5 => absurd k5 (by rw [he]; decide)) (fun k5 => ?_)
    obtain ⟨sa, hstr⟩ := hE.2.2.1 (124, "no such good") (by decide +kernel)
    exact vy_throwS (is := 124) (text := "no such good") (names := ["java/lang/RuntimeException", "java/lang/Exception"]) (A := nF) hx hb hlf hown (by decide +kernel) (by decide +kernel) (hts (.classLink RX0 122 "java/lang/IndexOutOfBoundsException") (by decide +kernel)) (hts (.initialized "java/lang/IndexOutOfBoundsException") (by decide +kernel)) hstr (vx_hat (B := tB "java/lang/IndexOutOfBoundsException") (fun w hw => hts w (thI_checkGood w hw)) (by decide +kernel) (tE_B hE (by decide))) (by decide +kernel) hE.1 hE.2.1 va_S.rf (hl.1.trans hml.symm) dX0_checkGood_8 dX0_checkGood_11 dX0_checkGood_12 dX0_checkGood_14 dX0_checkGood_17 (fun z hz => (hexc z hz).elim) (Nat.le_of_ble_eq_true rfl) (Nat.le_of_ble_eq_true rfl) (Nat.le_of_ble_eq_true rfl) (Nat.le_of_ble_eq_true rfl) hlocks (fun t ht h1 h2 => ⟨rfl, h1, h2⟩) (fun z hz => by cases hz) (Nat.le_refl 1) (Nat.le_refl 6)

set_option maxHeartbeats 4000000 in
set_option maxRecDepth 100000 in
theorem kX0_checkAttributeX (l : Launch) (hlf : l.stackTraces = false) (a : Int32) (ha : aBad 6 a) : vx_Met l yX0_checkAttribute wsX0_checkAttribute ({ frames := 6, cells := 1, slots := 6, locals := 82 } : Room) (tPS [.int a]) nQ (tX "java/lang/IndexOutOfBoundsException") 1 6 nF := by
  refine vx_ofW (cc := cX0_checkAttribute) (maxL := 1) (ret := none) (by decide) rfl ?_
  intro p e s m args below meth c s₁ B hml hexc hv
  obtain ⟨rfl, hE⟩ := hv
  have hx := B.exec
  have hb := B.bytes
  have hr := B.returns
  have hts := atoms_spec (ws := wsX0_checkAttribute) B.pre
  have hown : s.vm.findClass RX0 = some m.cls := findClass_of_methodNamed B.named
  have hlocks := B.notSynchronized
  have hl := lv_entry ([.int a]) (n := 1) (Nat.le_of_ble_eq_true rfl)
  rw [lg_entry_eq]
  generalize (lg_sl ([.int a]) ++ List.replicate (1 - (lg_sl ([.int a])).length) Slot.unset).toArray = ls at hl ⊢
  have hl : lv_has ls 1 [(0, .int a)] := hl
  refine lv_iload_n hx hb dX0_checkAttribute_0 rfl (lv_at hl 0 rfl) ?_
  refine lv_if_lt (tgt := 10) hx hb dX0_checkAttribute_1 (by decide) (fun k1 => ?_) (fun k1 => ?_)
  · obtain ⟨sa, hstr⟩ := hE.2.2.1 (199, "no such attribute") (by decide +kernel)
    exact vy_throwS (is := 199) (text := "no such attribute") (names := ["java/lang/RuntimeException", "java/lang/Exception"]) (A := nF) hx hb hlf hown (by decide +kernel) (by decide +kernel) (hts (.classLink RX0 122 "java/lang/IndexOutOfBoundsException") (by decide +kernel)) (hts (.initialized "java/lang/IndexOutOfBoundsException") (by decide +kernel)) hstr (vx_hat (B := tB "java/lang/IndexOutOfBoundsException") (fun w hw => hts w (thI_checkAttribute w hw)) (by decide +kernel) (tE_B hE (by decide))) (by decide +kernel) hE.1 hE.2.1 va_S.rf (hl.1.trans hml.symm) dX0_checkAttribute_10 dX0_checkAttribute_13 dX0_checkAttribute_14 dX0_checkAttribute_16 dX0_checkAttribute_19 (fun z hz => (hexc z hz).elim) (Nat.le_of_ble_eq_true rfl) (Nat.le_of_ble_eq_true rfl) (Nat.le_of_ble_eq_true rfl) (Nat.le_of_ble_eq_true rfl) hlocks (fun t ht h1 h2 => ⟨rfl, h1, h2⟩) (fun z hz => by cases hz) (Nat.le_refl 1) (Nat.le_refl 6)
  · refine lv_iload_n hx hb dX0_checkAttribute_4 rfl (lv_at hl 0 rfl) ?_
    refine lv_bipush (v := nI 6) hx hb dX0_checkAttribute_5 (by decide) ?_
    refine lv_icmp_lt (tgt := 20) hx hb dX0_checkAttribute_7 (by decide) (fun k7 => absurd k7 (Int32.not_lt.mpr (ha.resolve_left k1))) (fun k7 => ?_)
    obtain ⟨sa, hstr⟩ := hE.2.2.1 (199, "no such attribute") (by decide +kernel)
    exact vy_throwS (is := 199) (text := "no such attribute") (names := ["java/lang/RuntimeException", "java/lang/Exception"]) (A := nF) hx hb hlf hown (by decide +kernel) (by decide +kernel) (hts (.classLink RX0 122 "java/lang/IndexOutOfBoundsException") (by decide +kernel)) (hts (.initialized "java/lang/IndexOutOfBoundsException") (by decide +kernel)) hstr (vx_hat (B := tB "java/lang/IndexOutOfBoundsException") (fun w hw => hts w (thI_checkAttribute w hw)) (by decide +kernel) (tE_B hE (by decide))) (by decide +kernel) hE.1 hE.2.1 va_S.rf (hl.1.trans hml.symm) dX0_checkAttribute_10 dX0_checkAttribute_13 dX0_checkAttribute_14 dX0_checkAttribute_16 dX0_checkAttribute_19 (fun z hz => (hexc z hz).elim) (Nat.le_of_ble_eq_true rfl) (Nat.le_of_ble_eq_true rfl) (Nat.le_of_ble_eq_true rfl) (Nat.le_of_ble_eq_true rfl) hlocks (fun t ht h1 h2 => ⟨rfl, h1, h2⟩) (fun z hz => by cases hz) (Nat.le_refl 1) (Nat.le_refl 6)

set_option maxHeartbeats 4000000 in
set_option maxRecDepth 100000 in
theorem kX0_checkShopX (l : Launch) (hlf : l.stackTraces = false) (a : Int32) (ha : aBad 3 a) : vx_Met l yX0_checkShop wsX0_checkShop ({ frames := 6, cells := 1, slots := 6, locals := 82 } : Room) (tPS [.int a]) nQ (tX "java/lang/IndexOutOfBoundsException") 1 6 nF := by
  refine vx_ofW (cc := cX0_checkShop) (maxL := 1) (ret := none) (by decide) rfl ?_
  intro p e s m args below meth c s₁ B hml hexc hv
  obtain ⟨rfl, hE⟩ := hv
  have hx := B.exec
  have hb := B.bytes
  have hr := B.returns
  have hts := atoms_spec (ws := wsX0_checkShop) B.pre
  have hown : s.vm.findClass RX0 = some m.cls := findClass_of_methodNamed B.named
  have hlocks := B.notSynchronized
  have hl := lv_entry ([.int a]) (n := 1) (Nat.le_of_ble_eq_true rfl)
  rw [lg_entry_eq]
  generalize (lg_sl ([.int a]) ++ List.replicate (1 - (lg_sl ([.int a])).length) Slot.unset).toArray = ls at hl ⊢
  have hl : lv_has ls 1 [(0, .int a)] := hl
  refine lv_iload_n hx hb dX0_checkShop_0 rfl (lv_at hl 0 rfl) ?_
  refine lv_if_lt (tgt := 9) hx hb dX0_checkShop_1 (by decide) (fun k1 => ?_) (fun k1 => ?_)
  · obtain ⟨sa, hstr⟩ := hE.2.2.1 (201, "no such shop") (by decide +kernel)
    exact vy_throwS (is := 201) (text := "no such shop") (names := ["java/lang/RuntimeException", "java/lang/Exception"]) (A := nF) hx hb hlf hown (by decide +kernel) (by decide +kernel) (hts (.classLink RX0 122 "java/lang/IndexOutOfBoundsException") (by decide +kernel)) (hts (.initialized "java/lang/IndexOutOfBoundsException") (by decide +kernel)) hstr (vx_hat (B := tB "java/lang/IndexOutOfBoundsException") (fun w hw => hts w (thI_checkShop w hw)) (by decide +kernel) (tE_B hE (by decide))) (by decide +kernel) hE.1 hE.2.1 va_S.rf (hl.1.trans hml.symm) dX0_checkShop_9 dX0_checkShop_12 dX0_checkShop_13 dX0_checkShop_15 dX0_checkShop_18 (fun z hz => (hexc z hz).elim) (Nat.le_of_ble_eq_true rfl) (Nat.le_of_ble_eq_true rfl) (Nat.le_of_ble_eq_true rfl) (Nat.le_of_ble_eq_true rfl) hlocks (fun t ht h1 h2 => ⟨rfl, h1, h2⟩) (fun z hz => by cases hz) (Nat.le_refl 1) (Nat.le_refl 6)
  · refine lv_iload_n hx hb dX0_checkShop_4 rfl (lv_at hl 0 rfl) ?_
    refine lv_iconst (v := nI 3) hx hb dX0_checkShop_5 (by decide) ?_
    refine lv_icmp_lt (tgt := 19) hx hb dX0_checkShop_6 (by decide) (fun k6 => absurd k6 (Int32.not_lt.mpr (ha.resolve_left k1))) (fun k6 => ?_)
    obtain ⟨sa, hstr⟩ := hE.2.2.1 (201, "no such shop") (by decide +kernel)
    exact vy_throwS (is := 201) (text := "no such shop") (names := ["java/lang/RuntimeException", "java/lang/Exception"]) (A := nF) hx hb hlf hown (by decide +kernel) (by decide +kernel) (hts (.classLink RX0 122 "java/lang/IndexOutOfBoundsException") (by decide +kernel)) (hts (.initialized "java/lang/IndexOutOfBoundsException") (by decide +kernel)) hstr (vx_hat (B := tB "java/lang/IndexOutOfBoundsException") (fun w hw => hts w (thI_checkShop w hw)) (by decide +kernel) (tE_B hE (by decide))) (by decide +kernel) hE.1 hE.2.1 va_S.rf (hl.1.trans hml.symm) dX0_checkShop_9 dX0_checkShop_12 dX0_checkShop_13 dX0_checkShop_15 dX0_checkShop_18 (fun z hz => (hexc z hz).elim) (Nat.le_of_ble_eq_true rfl) (Nat.le_of_ble_eq_true rfl) (Nat.le_of_ble_eq_true rfl) (Nat.le_of_ble_eq_true rfl) hlocks (fun t ht h1 h2 => ⟨rfl, h1, h2⟩) (fun z hz => by cases hz) (Nat.le_refl 1) (Nat.le_refl 6)

set_option maxHeartbeats 4000000 in
set_option maxRecDepth 100000 in
theorem kX0_checkTongueX (l : Launch) (hlf : l.stackTraces = false) (a : Int32) (ha : aBad 3 a) : vx_Met l yX0_checkTongue wsX0_checkTongue ({ frames := 6, cells := 1, slots := 6, locals := 82 } : Room) (tPS [.int a]) nQ (tX "java/lang/IndexOutOfBoundsException") 1 6 nF := by
  refine vx_ofW (cc := cX0_checkTongue) (maxL := 1) (ret := none) (by decide) rfl ?_
  intro p e s m args below meth c s₁ B hml hexc hv
  obtain ⟨rfl, hE⟩ := hv
  have hx := B.exec
  have hb := B.bytes
  have hr := B.returns
  have hts := atoms_spec (ws := wsX0_checkTongue) B.pre
  have hown : s.vm.findClass RX0 = some m.cls := findClass_of_methodNamed B.named
  have hlocks := B.notSynchronized
  have hl := lv_entry ([.int a]) (n := 1) (Nat.le_of_ble_eq_true rfl)
  rw [lg_entry_eq]
  generalize (lg_sl ([.int a]) ++ List.replicate (1 - (lg_sl ([.int a])).length) Slot.unset).toArray = ls at hl ⊢
  have hl : lv_has ls 1 [(0, .int a)] := hl
  refine lv_iload_n hx hb dX0_checkTongue_0 rfl (lv_at hl 0 rfl) ?_
  refine lv_if_lt (tgt := 9) hx hb dX0_checkTongue_1 (by decide) (fun k1 => ?_) (fun k1 => ?_)
  · obtain ⟨sa, hstr⟩ := hE.2.2.1 (203, "no such tongue") (by decide +kernel)
    exact vy_throwS (is := 203) (text := "no such tongue") (names := ["java/lang/RuntimeException", "java/lang/Exception"]) (A := nF) hx hb hlf hown (by decide +kernel) (by decide +kernel) (hts (.classLink RX0 122 "java/lang/IndexOutOfBoundsException") (by decide +kernel)) (hts (.initialized "java/lang/IndexOutOfBoundsException") (by decide +kernel)) hstr (vx_hat (B := tB "java/lang/IndexOutOfBoundsException") (fun w hw => hts w (thI_checkTongue w hw)) (by decide +kernel) (tE_B hE (by decide))) (by decide +kernel) hE.1 hE.2.1 va_S.rf (hl.1.trans hml.symm) dX0_checkTongue_9 dX0_checkTongue_12 dX0_checkTongue_13 dX0_checkTongue_15 dX0_checkTongue_18 (fun z hz => (hexc z hz).elim) (Nat.le_of_ble_eq_true rfl) (Nat.le_of_ble_eq_true rfl) (Nat.le_of_ble_eq_true rfl) (Nat.le_of_ble_eq_true rfl) hlocks (fun t ht h1 h2 => ⟨rfl, h1, h2⟩) (fun z hz => by cases hz) (Nat.le_refl 1) (Nat.le_refl 6)
  · refine lv_iload_n hx hb dX0_checkTongue_4 rfl (lv_at hl 0 rfl) ?_
    refine lv_iconst (v := nI 3) hx hb dX0_checkTongue_5 (by decide) ?_
    refine lv_icmp_lt (tgt := 19) hx hb dX0_checkTongue_6 (by decide) (fun k6 => absurd k6 (Int32.not_lt.mpr (ha.resolve_left k1))) (fun k6 => ?_)
    obtain ⟨sa, hstr⟩ := hE.2.2.1 (203, "no such tongue") (by decide +kernel)
    exact vy_throwS (is := 203) (text := "no such tongue") (names := ["java/lang/RuntimeException", "java/lang/Exception"]) (A := nF) hx hb hlf hown (by decide +kernel) (by decide +kernel) (hts (.classLink RX0 122 "java/lang/IndexOutOfBoundsException") (by decide +kernel)) (hts (.initialized "java/lang/IndexOutOfBoundsException") (by decide +kernel)) hstr (vx_hat (B := tB "java/lang/IndexOutOfBoundsException") (fun w hw => hts w (thI_checkTongue w hw)) (by decide +kernel) (tE_B hE (by decide))) (by decide +kernel) hE.1 hE.2.1 va_S.rf (hl.1.trans hml.symm) dX0_checkTongue_9 dX0_checkTongue_12 dX0_checkTongue_13 dX0_checkTongue_15 dX0_checkTongue_18 (fun z hz => (hexc z hz).elim) (Nat.le_of_ble_eq_true rfl) (Nat.le_of_ble_eq_true rfl) (Nat.le_of_ble_eq_true rfl) (Nat.le_of_ble_eq_true rfl) hlocks (fun t ht h1 h2 => ⟨rfl, h1, h2⟩) (fun z hz => by cases hz) (Nat.le_refl 1) (Nat.le_refl 6)

set_option maxHeartbeats 4000000 in
set_option maxRecDepth 100000 in
theorem kX0_checkSightX (l : Launch) (D : va_G) (h : Nat) (ad : Nat → Nat) (cI cZ : ClassId) (ex : Nat → Bool) (pa : Nat → Option Nat) (di : Nat → Nat) (qu : Nat → Nat) (gc : Nat) (dg : Nat → Nat) (dp : Nat → Nat) (dv : Nat → Option Nat) (dd : Nat → Nat) (ds : Nat → Nat) (dc : Nat) (td : Nat) (ho : Nat → Option Nat) (ak : Nat → Bool) (se : Nat → Option Nat) (pr : Nat → Option Nat) (hlf : l.stackTraces = false) (g a x y : Int32) (hs : (gBad ex g ∨ ∃ j, j < 16 ∧ g = nI j ∧ ex j = true ∧ (aBad 6 a ∨ ∃ a2, a2 < 6 ∧ a = nI a2 ∧ (aBad 3 x ∨ ∃ x2, x2 < 3 ∧ x = nI x2 ∧ aBad 3 y)))) : vx_Met l yX0_checkSight wsX0_checkSight ({ frames := 7, cells := 1, slots := 6, locals := 103 } : Room) (tP D (hW h ad cI cZ ex pa di qu gc dg dp dv dd ds dc td ho ak se pr) (hT cI cZ) [.ref h, .int g, .int a, .int x, .int y]) nQ (tX "java/lang/IndexOutOfBoundsException") 1 6 nF := by
  refine vx_ofW (cc := cX0_checkSight) (maxL := 5) (ret := none) (by decide) rfl ?_
  intro p e s m args below meth c s₁ B hml hexc hv
  obtain ⟨rfl, hP, hK, hE⟩ := hv
  have hx := B.exec
  have hb := B.bytes
  have hr := B.returns
  have hts := atoms_spec (ws := wsX0_checkSight) B.pre
  have hown : s.vm.findClass RX0 = some m.cls := findClass_of_methodNamed B.named
  have hlocks := B.notSynchronized
  have hl := lv_entry ([.ref h, .int g, .int a, .int x, .int y]) (n := 5) (Nat.le_of_ble_eq_true rfl)
  rw [lg_entry_eq]
  generalize (lg_sl ([.ref h, .int g, .int a, .int x, .int y]) ++ List.replicate (5 - (lg_sl ([.ref h, .int g, .int a, .int x, .int y])).length) Slot.unset).toArray = ls at hl ⊢
  have hl : lv_has ls 5 [(0, .ref h), (1, .int g), (2, .int a), (3, .int x), (4, .int y)] := hl
  rcases hs with hs | ⟨j, hj, rfl, he, hs⟩
  · refine lv_aload_n hx hb dX0_checkSight_0 rfl (lv_at hl 0 rfl) ?_
    refine lv_iload_n hx hb dX0_checkSight_1 rfl (lv_at hl 1 rfl) ?_
    exact q_callT hlocks hexc (vx_runV (As := [.int g]) (rest := []) ⟨hx, hb, hml, hown, hts⟩ (kX0_checkGoodX l D h ad cI cZ ex pa di qu gc dg dp dv dd ds dc td ho ak se pr hlf g hs) (cwV 1 hts gX0_checkSight_X0_checkGood rfl rfl rfl (by decide +kernel) ⟨Nat.le_of_ble_eq_true rfl, Nat.le_of_ble_eq_true rfl⟩) ⟨tP_blind, va_recv hK hP (ci := 0) (q0 := 0) rfl rfl, tP_pre hP hK hE⟩ rfl rfl hl.1 rfl (lv_room (Nat.le_of_ble_eq_true rfl)) dX0_checkSight_2 ⟨Nat.le_of_ble_eq_true rfl, Nat.le_of_ble_eq_true rfl⟩)
  · refine lv_aload_n hx hb dX0_checkSight_0 rfl (lv_at hl 0 rfl) ?_
    refine lv_iload_n hx hb dX0_checkSight_1 rfl (lv_at hl 1 rfl) ?_
    refine q_callV (va_runV (As := [.int (nI j)]) (rest := []) ⟨hx, hb, hml, hown, hts⟩ (kX0_checkGood l D h ad cI cZ ex pa di qu gc dg dp dv dd ds dc td ho ak se pr j hj he) (cwV 1 hts gX0_checkSight_X0_checkGood rfl rfl rfl (by decide +kernel) ⟨Nat.le_of_ble_eq_true rfl, Nat.le_of_ble_eq_true rfl⟩) ⟨pP_blind, va_recv hK hP (ci := 0) (q0 := 0) rfl rfl, pP_pre hP hK⟩ rfl rfl hl.1 rfl (lv_room (Nat.le_of_ble_eq_true rfl)) dX0_checkSight_2 ⟨Nat.zero_le _, Nat.zero_le _⟩) ?_
    rcases hs with hs | ⟨a2, ha, rfl, hs⟩
    · refine lv_iload_n hx hb dX0_checkSight_5 rfl (lv_at hl 2 rfl) ?_
      exact q_callT hlocks hexc (vx_runS (As := [.int a]) (rest := []) ⟨hx, hb, hml, hown, hts⟩ (kX0_checkAttributeX l hlf a hs) (cwS 1 hts gX0_checkSight_X0_checkAttribute rfl rfl rfl (by decide +kernel) ⟨Nat.le_of_ble_eq_true rfl, Nat.le_of_ble_eq_true rfl⟩) ⟨tPS_blind, tPS_pre hE⟩ rfl rfl hl.1 rfl (lv_room (Nat.le_of_ble_eq_true rfl)) dX0_checkSight_6 ⟨Nat.le_of_ble_eq_true rfl, Nat.le_of_ble_eq_true rfl⟩)
    · refine lv_iload_n hx hb dX0_checkSight_5 rfl (lv_at hl 2 rfl) ?_
      refine q_callV (va_runS (As := [.int (nI a2)]) (rest := []) ⟨hx, hb, hml, hown, hts⟩ (kX0_checkAttribute l a2 ha) (cwS 1 hts gX0_checkSight_X0_checkAttribute rfl rfl rfl (by decide +kernel) ⟨Nat.le_of_ble_eq_true rfl, Nat.le_of_ble_eq_true rfl⟩) ⟨sP_blind, sP_pre⟩ rfl rfl hl.1 rfl (lv_room (Nat.le_of_ble_eq_true rfl)) dX0_checkSight_6 ⟨Nat.zero_le _, Nat.zero_le _⟩) ?_
      rcases hs with hs | ⟨x2, hx2, rfl, hs⟩
      · refine lv_iload_n hx hb dX0_checkSight_9 rfl (lv_at hl 3 rfl) ?_
        exact q_callT hlocks hexc (vx_runS (As := [.int x]) (rest := []) ⟨hx, hb, hml, hown, hts⟩ (kX0_checkShopX l hlf x hs) (cwS 1 hts gX0_checkSight_X0_checkShop rfl rfl rfl (by decide +kernel) ⟨Nat.le_of_ble_eq_true rfl, Nat.le_of_ble_eq_true rfl⟩) ⟨tPS_blind, tPS_pre hE⟩ rfl rfl hl.1 rfl (lv_room (Nat.le_of_ble_eq_true rfl)) dX0_checkSight_10 ⟨Nat.le_of_ble_eq_true rfl, Nat.le_of_ble_eq_true rfl⟩)
      · refine lv_iload_n hx hb dX0_checkSight_9 rfl (lv_at hl 3 rfl) ?_
        refine q_callV (va_runS (As := [.int (nI x2)]) (rest := []) ⟨hx, hb, hml, hown, hts⟩ (kX0_checkShop l x2 hx2) (cwS 1 hts gX0_checkSight_X0_checkShop rfl rfl rfl (by decide +kernel) ⟨Nat.le_of_ble_eq_true rfl, Nat.le_of_ble_eq_true rfl⟩) ⟨sP_blind, sP_pre⟩ rfl rfl hl.1 rfl (lv_room (Nat.le_of_ble_eq_true rfl)) dX0_checkSight_10 ⟨Nat.zero_le _, Nat.zero_le _⟩) ?_
        refine lv_iload hx hb dX0_checkSight_13 (lv_at hl 4 rfl) ?_
        exact q_callT hlocks hexc (vx_runS (As := [.int y]) (rest := []) ⟨hx, hb, hml, hown, hts⟩ (kX0_checkTongueX l hlf y hs) (cwS 1 hts gX0_checkSight_X0_checkTongue rfl rfl rfl (by decide +kernel) ⟨Nat.le_of_ble_eq_true rfl, Nat.le_of_ble_eq_true rfl⟩) ⟨tPS_blind, tPS_pre hE⟩ rfl rfl hl.1 rfl (lv_room (Nat.le_of_ble_eq_true rfl)) dX0_checkSight_15 ⟨Nat.le_of_ble_eq_true rfl, Nat.le_of_ble_eq_true rfl⟩)

set_option maxHeartbeats 4000000 in
set_option maxRecDepth 100000 in
theorem kX0_valueXI (l : Launch) (D : va_G) (h : Nat) (ad : Nat → Nat) (cI cZ : ClassId) (ex : Nat → Bool) (pa : Nat → Option Nat) (di : Nat → Nat) (qu : Nat → Nat) (gc : Nat) (dg : Nat → Nat) (dp : Nat → Nat) (dv : Nat → Option Nat) (dd : Nat → Nat) (ds : Nat → Nat) (dc : Nat) (td : Nat) (ho : Nat → Option Nat) (ak : Nat → Bool) (se : Nat → Option Nat) (pr : Nat → Option Nat) (hlf : l.stackTraces = false) (g a x y : Int32) (hs : (gBad ex g ∨ ∃ j, j < 16 ∧ g = nI j ∧ ex j = true ∧ (aBad 6 a ∨ ∃ a2, a2 < 6 ∧ a = nI a2 ∧ (aBad 3 x ∨ ∃ x2, x2 < 3 ∧ x = nI x2 ∧ aBad 3 y)))) : vx_Met l yX0_value wsX0_value ({ frames := 8, cells := 1, slots := 6, locals := 127 } : Room) (tP D (hW h ad cI cZ ex pa di qu gc dg dp dv dd ds dc td ho ak se pr) (hT cI cZ) [.ref h, .int g, .int a, .int x, .int y]) nQ (tX "java/lang/IndexOutOfBoundsException") 1 6 nF := by
  refine vx_ofW (cc := cX0_value) (maxL := 6) (ret := (some .int)) (by decide) rfl ?_
  intro p e s m args below meth c s₁ B hml hexc hv
  obtain ⟨rfl, hP, hK, hE⟩ := hv
  have hx := B.exec
  have hb := B.bytes
  have hr := B.returns
  have hts := atoms_spec (ws := wsX0_value) B.pre
  have hown : s.vm.findClass RX0 = some m.cls := findClass_of_methodNamed B.named
  have hlocks := B.notSynchronized
  have hl := lv_entry ([.ref h, .int g, .int a, .int x, .int y]) (n := 6) (Nat.le_of_ble_eq_true rfl)
  rw [lg_entry_eq]
  generalize (lg_sl ([.ref h, .int g, .int a, .int x, .int y]) ++ List.replicate (6 - (lg_sl ([.ref h, .int g, .int a, .int x, .int y])).length) Slot.unset).toArray = ls at hl ⊢
  have hl : lv_has ls 6 [(0, .ref h), (1, .int g), (2, .int a), (3, .int x), (4, .int y)] := hl
  refine lv_aload_n hx hb dX0_value_0 rfl (lv_at hl 0 rfl) ?_
  refine lv_iload_n hx hb dX0_value_1 rfl (lv_at hl 1 rfl) ?_
  refine lv_iload_n hx hb dX0_value_2 rfl (lv_at hl 2 rfl) ?_
  refine lv_iload_n hx hb dX0_value_3 rfl (lv_at hl 3 rfl) ?_
  refine lv_iload hx hb dX0_value_4 (lv_at hl 4 rfl) ?_
  exact q_callT hlocks hexc (vx_runV (As := [.int g, .int a, .int x, .int y]) (rest := []) ⟨hx, hb, hml, hown, hts⟩ (kX0_checkSightX l D h ad cI cZ ex pa di qu gc dg dp dv dd ds dc td ho ak se pr hlf g a x y hs) (cwV 4 hts gX0_value_X0_checkSight rfl rfl rfl (by decide +kernel) ⟨Nat.le_of_ble_eq_true rfl, Nat.le_of_ble_eq_true rfl⟩) ⟨tP_blind, va_recv hK hP (ci := 0) (q0 := 0) rfl rfl, tP_pre hP hK hE⟩ rfl rfl hl.1 rfl (lv_room (Nat.le_of_ble_eq_true rfl)) dX0_value_6 ⟨Nat.le_of_ble_eq_true rfl, Nat.le_of_ble_eq_true rfl⟩)

set_option maxHeartbeats 4000000 in
set_option maxRecDepth 100000 in
theorem kX0_originXI (l : Launch) (D : va_G) (h : Nat) (ad : Nat → Nat) (cI cZ : ClassId) (ex : Nat → Bool) (pa : Nat → Option Nat) (di : Nat → Nat) (qu : Nat → Nat) (gc : Nat) (dg : Nat → Nat) (dp : Nat → Nat) (dv : Nat → Option Nat) (dd : Nat → Nat) (ds : Nat → Nat) (dc : Nat) (td : Nat) (ho : Nat → Option Nat) (ak : Nat → Bool) (se : Nat → Option Nat) (pr : Nat → Option Nat) (hlf : l.stackTraces = false) (g a x y : Int32) (hs : (gBad ex g ∨ ∃ j, j < 16 ∧ g = nI j ∧ ex j = true ∧ (aBad 6 a ∨ ∃ a2, a2 < 6 ∧ a = nI a2 ∧ (aBad 3 x ∨ ∃ x2, x2 < 3 ∧ x = nI x2 ∧ aBad 3 y)))) : vx_Met l yX0_origin wsX0_origin ({ frames := 8, cells := 1, slots := 6, locals := 127 } : Room) (tP D (hW h ad cI cZ ex pa di qu gc dg dp dv dd ds dc td ho ak se pr) (hT cI cZ) [.ref h, .int g, .int a, .int x, .int y]) nQ (tX "java/lang/IndexOutOfBoundsException") 1 6 nF := by
  refine vx_ofW (cc := cX0_origin) (maxL := 5) (ret := (some .int)) (by decide) rfl ?_
  intro p e s m args below meth c s₁ B hml hexc hv
  obtain ⟨rfl, hP, hK, hE⟩ := hv
  have hx := B.exec
  have hb := B.bytes
  have hr := B.returns
  have hts := atoms_spec (ws := wsX0_origin) B.pre
  have hown : s.vm.findClass RX0 = some m.cls := findClass_of_methodNamed B.named
  have hlocks := B.notSynchronized
  have hl := lv_entry ([.ref h, .int g, .int a, .int x, .int y]) (n := 5) (Nat.le_of_ble_eq_true rfl)
  rw [lg_entry_eq]
  generalize (lg_sl ([.ref h, .int g, .int a, .int x, .int y]) ++ List.replicate (5 - (lg_sl ([.ref h, .int g, .int a, .int x, .int y])).length) Slot.unset).toArray = ls at hl ⊢
  have hl : lv_has ls 5 [(0, .ref h), (1, .int g), (2, .int a), (3, .int x), (4, .int y)] := hl
  refine lv_aload_n hx hb dX0_origin_0 rfl (lv_at hl 0 rfl) ?_
  refine lv_iload_n hx hb dX0_origin_1 rfl (lv_at hl 1 rfl) ?_
  refine lv_iload_n hx hb dX0_origin_2 rfl (lv_at hl 2 rfl) ?_
  refine lv_iload_n hx hb dX0_origin_3 rfl (lv_at hl 3 rfl) ?_
  refine lv_iload hx hb dX0_origin_4 (lv_at hl 4 rfl) ?_
  exact q_callT hlocks hexc (vx_runV (As := [.int g, .int a, .int x, .int y]) (rest := []) ⟨hx, hb, hml, hown, hts⟩ (kX0_checkSightX l D h ad cI cZ ex pa di qu gc dg dp dv dd ds dc td ho ak se pr hlf g a x y hs) (cwV 4 hts gX0_origin_X0_checkSight rfl rfl rfl (by decide +kernel) ⟨Nat.le_of_ble_eq_true rfl, Nat.le_of_ble_eq_true rfl⟩) ⟨tP_blind, va_recv hK hP (ci := 0) (q0 := 0) rfl rfl, tP_pre hP hK hE⟩ rfl rfl hl.1 rfl (lv_room (Nat.le_of_ble_eq_true rfl)) dX0_origin_6 ⟨Nat.le_of_ble_eq_true rfl, Nat.le_of_ble_eq_true rfl⟩)

set_option maxHeartbeats 4000000 in
set_option maxRecDepth 100000 in
theorem kX0_missingXI (l : Launch) (D : va_G) (h : Nat) (ad : Nat → Nat) (cI cZ : ClassId) (ex : Nat → Bool) (pa : Nat → Option Nat) (di : Nat → Nat) (qu : Nat → Nat) (gc : Nat) (dg : Nat → Nat) (dp : Nat → Nat) (dv : Nat → Option Nat) (dd : Nat → Nat) (ds : Nat → Nat) (dc : Nat) (td : Nat) (ho : Nat → Option Nat) (ak : Nat → Bool) (se : Nat → Option Nat) (pr : Nat → Option Nat) (hlf : l.stackTraces = false) (g x y : Int32) (hs : (gBad ex g ∨ ∃ j, j < 16 ∧ g = nI j ∧ ex j = true ∧ (aBad 3 x ∨ ∃ x2, x2 < 3 ∧ x = nI x2 ∧ aBad 3 y))) : vx_Met l yX0_missing wsX0_missing ({ frames := 7, cells := 1, slots := 6, locals := 103 } : Room) (tP D (hW h ad cI cZ ex pa di qu gc dg dp dv dd ds dc td ho ak se pr) (hT cI cZ) [.ref h, .int g, .int x, .int y]) nQ (tX "java/lang/IndexOutOfBoundsException") 1 6 nF := by
  refine vx_ofW (cc := cX0_missing) (maxL := 4) (ret := (some .int)) (by decide) rfl ?_
  intro p e s m args below meth c s₁ B hml hexc hv
  obtain ⟨rfl, hP, hK, hE⟩ := hv
  have hx := B.exec
  have hb := B.bytes
  have hr := B.returns
  have hts := atoms_spec (ws := wsX0_missing) B.pre
  have hown : s.vm.findClass RX0 = some m.cls := findClass_of_methodNamed B.named
  have hlocks := B.notSynchronized
  have hl := lv_entry ([.ref h, .int g, .int x, .int y]) (n := 4) (Nat.le_of_ble_eq_true rfl)
  rw [lg_entry_eq]
  generalize (lg_sl ([.ref h, .int g, .int x, .int y]) ++ List.replicate (4 - (lg_sl ([.ref h, .int g, .int x, .int y])).length) Slot.unset).toArray = ls at hl ⊢
  have hl : lv_has ls 4 [(0, .ref h), (1, .int g), (2, .int x), (3, .int y)] := hl
  rcases hs with hs | ⟨j, hj, rfl, he, hs⟩
  · refine lv_aload_n hx hb dX0_missing_0 rfl (lv_at hl 0 rfl) ?_
    refine lv_iload_n hx hb dX0_missing_1 rfl (lv_at hl 1 rfl) ?_
    exact q_callT hlocks hexc (vx_runV (As := [.int g]) (rest := []) ⟨hx, hb, hml, hown, hts⟩ (kX0_checkGoodX l D h ad cI cZ ex pa di qu gc dg dp dv dd ds dc td ho ak se pr hlf g hs) (cwV 1 hts gX0_missing_X0_checkGood rfl rfl rfl (by decide +kernel) ⟨Nat.le_of_ble_eq_true rfl, Nat.le_of_ble_eq_true rfl⟩) ⟨tP_blind, va_recv hK hP (ci := 0) (q0 := 0) rfl rfl, tP_pre hP hK hE⟩ rfl rfl hl.1 rfl (lv_room (Nat.le_of_ble_eq_true rfl)) dX0_missing_2 ⟨Nat.le_of_ble_eq_true rfl, Nat.le_of_ble_eq_true rfl⟩)
  · refine lv_aload_n hx hb dX0_missing_0 rfl (lv_at hl 0 rfl) ?_
    refine lv_iload_n hx hb dX0_missing_1 rfl (lv_at hl 1 rfl) ?_
    refine q_callV (va_runV (As := [.int (nI j)]) (rest := []) ⟨hx, hb, hml, hown, hts⟩ (kX0_checkGood l D h ad cI cZ ex pa di qu gc dg dp dv dd ds dc td ho ak se pr j hj he) (cwV 1 hts gX0_missing_X0_checkGood rfl rfl rfl (by decide +kernel) ⟨Nat.le_of_ble_eq_true rfl, Nat.le_of_ble_eq_true rfl⟩) ⟨pP_blind, va_recv hK hP (ci := 0) (q0 := 0) rfl rfl, pP_pre hP hK⟩ rfl rfl hl.1 rfl (lv_room (Nat.le_of_ble_eq_true rfl)) dX0_missing_2 ⟨Nat.zero_le _, Nat.zero_le _⟩) ?_
    rcases hs with hs | ⟨x2, hx2, rfl, hs⟩
    · refine lv_iload_n hx hb dX0_missing_5 rfl (lv_at hl 2 rfl) ?_
      exact q_callT hlocks hexc (vx_runS (As := [.int x]) (rest := []) ⟨hx, hb, hml, hown, hts⟩ (kX0_checkShopX l hlf x hs) (cwS 1 hts gX0_missing_X0_checkShop rfl rfl rfl (by decide +kernel) ⟨Nat.le_of_ble_eq_true rfl, Nat.le_of_ble_eq_true rfl⟩) ⟨tPS_blind, tPS_pre hE⟩ rfl rfl hl.1 rfl (lv_room (Nat.le_of_ble_eq_true rfl)) dX0_missing_6 ⟨Nat.le_of_ble_eq_true rfl, Nat.le_of_ble_eq_true rfl⟩)
    · refine lv_iload_n hx hb dX0_missing_5 rfl (lv_at hl 2 rfl) ?_
      refine q_callV (va_runS (As := [.int (nI x2)]) (rest := []) ⟨hx, hb, hml, hown, hts⟩ (kX0_checkShop l x2 hx2) (cwS 1 hts gX0_missing_X0_checkShop rfl rfl rfl (by decide +kernel) ⟨Nat.le_of_ble_eq_true rfl, Nat.le_of_ble_eq_true rfl⟩) ⟨sP_blind, sP_pre⟩ rfl rfl hl.1 rfl (lv_room (Nat.le_of_ble_eq_true rfl)) dX0_missing_6 ⟨Nat.zero_le _, Nat.zero_le _⟩) ?_
      refine lv_iload_n hx hb dX0_missing_9 rfl (lv_at hl 3 rfl) ?_
      exact q_callT hlocks hexc (vx_runS (As := [.int y]) (rest := []) ⟨hx, hb, hml, hown, hts⟩ (kX0_checkTongueX l hlf y hs) (cwS 1 hts gX0_missing_X0_checkTongue rfl rfl rfl (by decide +kernel) ⟨Nat.le_of_ble_eq_true rfl, Nat.le_of_ble_eq_true rfl⟩) ⟨tPS_blind, tPS_pre hE⟩ rfl rfl hl.1 rfl (lv_room (Nat.le_of_ble_eq_true rfl)) dX0_missing_10 ⟨Nat.le_of_ble_eq_true rfl, Nat.le_of_ble_eq_true rfl⟩)

set_option maxHeartbeats 4000000 in
set_option maxRecDepth 100000 in
theorem kX0_completeXI (l : Launch) (D : va_G) (h : Nat) (ad : Nat → Nat) (cI cZ : ClassId) (ex : Nat → Bool) (pa : Nat → Option Nat) (di : Nat → Nat) (qu : Nat → Nat) (gc : Nat) (dg : Nat → Nat) (dp : Nat → Nat) (dv : Nat → Option Nat) (dd : Nat → Nat) (ds : Nat → Nat) (dc : Nat) (td : Nat) (ho : Nat → Option Nat) (ak : Nat → Bool) (se : Nat → Option Nat) (pr : Nat → Option Nat) (hlf : l.stackTraces = false) (x : Int32) (hs : aBad 3 x) : vx_Met l yX0_complete wsX0_complete ({ frames := 7, cells := 1, slots := 6, locals := 102 } : Room) (tP D (hW h ad cI cZ ex pa di qu gc dg dp dv dd ds dc td ho ak se pr) (hT cI cZ) [.ref h, .int x]) nQ (tX "java/lang/IndexOutOfBoundsException") 1 6 nF := by
  refine vx_ofW (cc := cX0_complete) (maxL := 4) (ret := (some .int)) (by decide) rfl ?_
  intro p e s m args below meth c s₁ B hml hexc hv
  obtain ⟨rfl, hP, hK, hE⟩ := hv
  have hx := B.exec
  have hb := B.bytes
  have hr := B.returns
  have hts := atoms_spec (ws := wsX0_complete) B.pre
  have hown : s.vm.findClass RX0 = some m.cls := findClass_of_methodNamed B.named
  have hlocks := B.notSynchronized
  have hl := lv_entry ([.ref h, .int x]) (n := 4) (Nat.le_of_ble_eq_true rfl)
  rw [lg_entry_eq]
  generalize (lg_sl ([.ref h, .int x]) ++ List.replicate (4 - (lg_sl ([.ref h, .int x])).length) Slot.unset).toArray = ls at hl ⊢
  have hl : lv_has ls 4 [(0, .ref h), (1, .int x)] := hl
  refine lv_iload_n hx hb dX0_complete_0 rfl (lv_at hl 1 rfl) ?_
  exact q_callT hlocks hexc (vx_runS (As := [.int x]) (rest := []) ⟨hx, hb, hml, hown, hts⟩ (kX0_checkShopX l hlf x hs) (cwS 1 hts gX0_complete_X0_checkShop rfl rfl rfl (by decide +kernel) ⟨Nat.le_of_ble_eq_true rfl, Nat.le_of_ble_eq_true rfl⟩) ⟨tPS_blind, tPS_pre hE⟩ rfl rfl hl.1 rfl (lv_room (Nat.le_of_ble_eq_true rfl)) dX0_complete_1 ⟨Nat.le_of_ble_eq_true rfl, Nat.le_of_ble_eq_true rfl⟩)

set_option maxHeartbeats 4000000 in
set_option maxRecDepth 100000 in
theorem kX0_changedXI (l : Launch) (D : va_G) (h : Nat) (ad : Nat → Nat) (cI cZ : ClassId) (ex : Nat → Bool) (pa : Nat → Option Nat) (di : Nat → Nat) (qu : Nat → Nat) (gc : Nat) (dg : Nat → Nat) (dp : Nat → Nat) (dv : Nat → Option Nat) (dd : Nat → Nat) (ds : Nat → Nat) (dc : Nat) (td : Nat) (ho : Nat → Option Nat) (ak : Nat → Bool) (se : Nat → Option Nat) (pr : Nat → Option Nat) (hlf : l.stackTraces = false) (x : Int32) (hs : aBad 3 x) : vx_Met l yX0_changed wsX0_changed ({ frames := 7, cells := 1, slots := 6, locals := 102 } : Room) (tP D (hW h ad cI cZ ex pa di qu gc dg dp dv dd ds dc td ho ak se pr) (hT cI cZ) [.ref h, .int x]) nQ (tX "java/lang/IndexOutOfBoundsException") 1 6 nF := by
  refine vx_ofW (cc := cX0_changed) (maxL := 2) (ret := (some .int)) (by decide) rfl ?_
  intro p e s m args below meth c s₁ B hml hexc hv
  obtain ⟨rfl, hP, hK, hE⟩ := hv
  have hx := B.exec
  have hb := B.bytes
  have hr := B.returns
  have hts := atoms_spec (ws := wsX0_changed) B.pre
  have hown : s.vm.findClass RX0 = some m.cls := findClass_of_methodNamed B.named
  have hlocks := B.notSynchronized
  have hl := lv_entry ([.ref h, .int x]) (n := 2) (Nat.le_of_ble_eq_true rfl)
  rw [lg_entry_eq]
  generalize (lg_sl ([.ref h, .int x]) ++ List.replicate (2 - (lg_sl ([.ref h, .int x])).length) Slot.unset).toArray = ls at hl ⊢
  have hl : lv_has ls 2 [(0, .ref h), (1, .int x)] := hl
  refine lv_iload_n hx hb dX0_changed_0 rfl (lv_at hl 1 rfl) ?_
  exact q_callT hlocks hexc (vx_runS (As := [.int x]) (rest := []) ⟨hx, hb, hml, hown, hts⟩ (kX0_checkShopX l hlf x hs) (cwS 1 hts gX0_changed_X0_checkShop rfl rfl rfl (by decide +kernel) ⟨Nat.le_of_ble_eq_true rfl, Nat.le_of_ble_eq_true rfl⟩) ⟨tPS_blind, tPS_pre hE⟩ rfl rfl hl.1 rfl (lv_room (Nat.le_of_ble_eq_true rfl)) dX0_changed_1 ⟨Nat.le_of_ble_eq_true rfl, Nat.le_of_ble_eq_true rfl⟩)

set_option maxHeartbeats 4000000 in
set_option maxRecDepth 100000 in
theorem kX0_feedXI (l : Launch) (D : va_G) (h : Nat) (ad : Nat → Nat) (cI cZ : ClassId) (ex : Nat → Bool) (pa : Nat → Option Nat) (di : Nat → Nat) (qu : Nat → Nat) (gc : Nat) (dg : Nat → Nat) (dp : Nat → Nat) (dv : Nat → Option Nat) (dd : Nat → Nat) (ds : Nat → Nat) (dc : Nat) (td : Nat) (ho : Nat → Option Nat) (ak : Nat → Bool) (se : Nat → Option Nat) (pr : Nat → Option Nat) (hlf : l.stackTraces = false) (x : Int32) (hs : aBad 3 x) : vx_Met l yX0_feed wsX0_feed ({ frames := 7, cells := 1, slots := 6, locals := 102 } : Room) (tP D (hW h ad cI cZ ex pa di qu gc dg dp dv dd ds dc td ho ak se pr) (hT cI cZ) [.ref h, .int x]) nQ (tX "java/lang/IndexOutOfBoundsException") 1 6 nF := by
  refine vx_ofW (cc := cX0_feed) (maxL := 4) (ret := (some .int)) (by decide) rfl ?_
  intro p e s m args below meth c s₁ B hml hexc hv
  obtain ⟨rfl, hP, hK, hE⟩ := hv
  have hx := B.exec
  have hb := B.bytes
  have hr := B.returns
  have hts := atoms_spec (ws := wsX0_feed) B.pre
  have hown : s.vm.findClass RX0 = some m.cls := findClass_of_methodNamed B.named
  have hlocks := B.notSynchronized
  have hl := lv_entry ([.ref h, .int x]) (n := 4) (Nat.le_of_ble_eq_true rfl)
  rw [lg_entry_eq]
  generalize (lg_sl ([.ref h, .int x]) ++ List.replicate (4 - (lg_sl ([.ref h, .int x])).length) Slot.unset).toArray = ls at hl ⊢
  have hl : lv_has ls 4 [(0, .ref h), (1, .int x)] := hl
  refine lv_iload_n hx hb dX0_feed_0 rfl (lv_at hl 1 rfl) ?_
  exact q_callT hlocks hexc (vx_runS (As := [.int x]) (rest := []) ⟨hx, hb, hml, hown, hts⟩ (kX0_checkShopX l hlf x hs) (cwS 1 hts gX0_feed_X0_checkShop rfl rfl rfl (by decide +kernel) ⟨Nat.le_of_ble_eq_true rfl, Nat.le_of_ble_eq_true rfl⟩) ⟨tPS_blind, tPS_pre hE⟩ rfl rfl hl.1 rfl (lv_room (Nat.le_of_ble_eq_true rfl)) dX0_feed_1 ⟨Nat.le_of_ble_eq_true rfl, Nat.le_of_ble_eq_true rfl⟩)

set_option maxHeartbeats 4000000 in
set_option maxRecDepth 100000 in
theorem kX0_priceXI (l : Launch) (D : va_G) (h : Nat) (ad : Nat → Nat) (cI cZ : ClassId) (ex : Nat → Bool) (pa : Nat → Option Nat) (di : Nat → Nat) (qu : Nat → Nat) (gc : Nat) (dg : Nat → Nat) (dp : Nat → Nat) (dv : Nat → Option Nat) (dd : Nat → Nat) (ds : Nat → Nat) (dc : Nat) (td : Nat) (ho : Nat → Option Nat) (ak : Nat → Bool) (se : Nat → Option Nat) (pr : Nat → Option Nat) (hlf : l.stackTraces = false) (g x : Int32) (hs : gBad ex g ∨ ∃ j, j < 16 ∧ g = nI j ∧ ex j = true ∧ aBad 3 x) : vx_Met l yX0_price wsX0_price ({ frames := 7, cells := 1, slots := 6, locals := 103 } : Room) (tP D (hW h ad cI cZ ex pa di qu gc dg dp dv dd ds dc td ho ak se pr) (hT cI cZ) [.ref h, .int g, .int x]) nQ (tX "java/lang/IndexOutOfBoundsException") 1 6 nF := by
  refine vx_ofW (cc := cX0_price) (maxL := 4) (ret := (some .int)) (by decide) rfl ?_
  intro p e s m args below meth c s₁ B hml hexc hv
  obtain ⟨rfl, hP, hK, hE⟩ := hv
  have hx := B.exec
  have hb := B.bytes
  have hr := B.returns
  have hts := atoms_spec (ws := wsX0_price) B.pre
  have hown : s.vm.findClass RX0 = some m.cls := findClass_of_methodNamed B.named
  have hlocks := B.notSynchronized
  have hl := lv_entry ([.ref h, .int g, .int x]) (n := 4) (Nat.le_of_ble_eq_true rfl)
  rw [lg_entry_eq]
  generalize (lg_sl ([.ref h, .int g, .int x]) ++ List.replicate (4 - (lg_sl ([.ref h, .int g, .int x])).length) Slot.unset).toArray = ls at hl ⊢
  have hl : lv_has ls 4 [(0, .ref h), (1, .int g), (2, .int x)] := hl
  rcases hs with hs | ⟨j, hj, rfl, he, hs⟩
  · refine lv_aload_n hx hb dX0_price_0 rfl (lv_at hl 0 rfl) ?_
    refine lv_iload_n hx hb dX0_price_1 rfl (lv_at hl 1 rfl) ?_
    exact q_callT hlocks hexc (vx_runV (As := [.int g]) (rest := []) ⟨hx, hb, hml, hown, hts⟩ (kX0_checkGoodX l D h ad cI cZ ex pa di qu gc dg dp dv dd ds dc td ho ak se pr hlf g hs) (cwV 1 hts gX0_price_X0_checkGood rfl rfl rfl (by decide +kernel) ⟨Nat.le_of_ble_eq_true rfl, Nat.le_of_ble_eq_true rfl⟩) ⟨tP_blind, va_recv hK hP (ci := 0) (q0 := 0) rfl rfl, tP_pre hP hK hE⟩ rfl rfl hl.1 rfl (lv_room (Nat.le_of_ble_eq_true rfl)) dX0_price_2 ⟨Nat.le_of_ble_eq_true rfl, Nat.le_of_ble_eq_true rfl⟩)
  · refine lv_aload_n hx hb dX0_price_0 rfl (lv_at hl 0 rfl) ?_
    refine lv_iload_n hx hb dX0_price_1 rfl (lv_at hl 1 rfl) ?_
    refine q_callV (va_runV (As := [.int (nI j)]) (rest := []) ⟨hx, hb, hml, hown, hts⟩ (kX0_checkGood l D h ad cI cZ ex pa di qu gc dg dp dv dd ds dc td ho ak se pr j hj he) (cwV 1 hts gX0_price_X0_checkGood rfl rfl rfl (by decide +kernel) ⟨Nat.le_of_ble_eq_true rfl, Nat.le_of_ble_eq_true rfl⟩) ⟨pP_blind, va_recv hK hP (ci := 0) (q0 := 0) rfl rfl, pP_pre hP hK⟩ rfl rfl hl.1 rfl (lv_room (Nat.le_of_ble_eq_true rfl)) dX0_price_2 ⟨Nat.zero_le _, Nat.zero_le _⟩) ?_
    refine lv_iload_n hx hb dX0_price_5 rfl (lv_at hl 2 rfl) ?_
    exact q_callT hlocks hexc (vx_runS (As := [.int x]) (rest := []) ⟨hx, hb, hml, hown, hts⟩ (kX0_checkShopX l hlf x hs) (cwS 1 hts gX0_price_X0_checkShop rfl rfl rfl (by decide +kernel) ⟨Nat.le_of_ble_eq_true rfl, Nat.le_of_ble_eq_true rfl⟩) ⟨tPS_blind, tPS_pre hE⟩ rfl rfl hl.1 rfl (lv_room (Nat.le_of_ble_eq_true rfl)) dX0_price_6 ⟨Nat.le_of_ble_eq_true rfl, Nat.le_of_ble_eq_true rfl⟩)
end
section
theorem ty_eq {D : va_G} {cl : List vw_C} {tys : List (ClassId × FieldType)} {U : State} (hK : va_K D cl tys U) (i j : Nat) {c1 c2 : ClassId} {ty : FieldType} (h1 : tys[i]? = some (c1, ty)) (h2 : tys[j]? = some (c2, ty)) (ho : ∀ C, ty ≠ .object C) : c1 = c2 := by
  have a1 : va_RA U c1 ty := (hK.2 i _ h1).2
  have a2 : va_RA U c2 ty := (hK.2 j _ h2).2
  cases ty with
  | object C => exact absurd rfl (ho C)
  | _ => exact Option.some.inj (a1.symm.trans a2)
def h0W (h : Nat) : va_W := [(h, .inr (0, [.null, .null, .null, .null, .int 0, .null, .null, .null, .null, .null, .int 0, .int 0, .null, .null, .null, .null]))]
abbrev hWi (h : Nat) (ad : Nat → Nat) (cI cZ : ClassId) : va_W := hW h ad cI cZ (fun _ => false) (cle (fun _ => some 0) 16) (fun _ => 0) (fun _ => 0) 0 (fun _ => 0) (fun _ => 0) (fun _ => some 0) (fun _ => 0) (fun _ => 0) 0 0 (cle (fun _ => some 0) 1536) (fun _ => false) (cle (fun _ => some 0) 864) (fun _ => some 0)
def hQ0 (D : va_G) (h : Nat) : Array Value → State → Outcome → State → Prop := fun _ st o t => o = .returned none ∧ (∃ (ad : Nat → Nat) (cI cZ : ClassId), va_P D vwCl (hWi h ad cI cZ) t.heap ∧ va_K D vwCl (hT cI cZ) t ∧ va_D (va_A (h0W h) st.heap.size) (hWi h ad cI cZ)) ∧ va_F (va_A (h0W h) st.heap.size) st t

set_option maxHeartbeats 4000000 in
set_option maxRecDepth 100000 in
/-- the constructor -/
theorem kX0_init (l : Launch) (D : va_G) (h sz : Nat) : Met l yX0_init wsX0_init ({ frames := 1, cells := 13, slots := 3738, locals := 12 } : Room) (wP D (h0W h) [] [.ref h] sz) (hQ0 D h) 13 3738 (va_A (h0W h) sz) := by
  refine Met.ofW (cc := cX0_init) (maxL := 2) (ret := none) (by decide) rfl ?_
  intro p e s m args below meth c s₁ B hml hv
  obtain ⟨rfl, hsz, hP, hK, hD0⟩ := hv
  have hx := B.exec
  have hb := B.bytes
  have hr := B.returns
  have hts := atoms_spec (ws := wsX0_init) B.pre
  have hown : s.vm.findClass RX0 = some m.cls := findClass_of_methodNamed B.named
  have hlocks := B.notSynchronized
  have hin : meth.name = "<init>" := (name_of_methodNamed B.named B.method).1
  subst hsz
  have hD := hD0.self (sz := s.heap.size)
  generalize hAe : va_A (h0W h) s.heap.size = A at hD ⊢
  have hA : ∀ q : Nat, s.heap.size ≤ q → A q := fun q h => by rw [← hAe]; exact Or.inr h
  have hS : va_S A s.heap s.heap [] := va_S.rf
  have hl := lv_entry ([.ref h]) (n := 2) (Nat.le_of_ble_eq_true rfl)
  rw [lg_entry_eq]
  generalize (lg_sl ([.ref h]) ++ List.replicate (2 - (lg_sl ([.ref h])).length) Slot.unset).toArray = ls at hl ⊢
  have hl : lv_has ls 2 [(0, .ref h)] := hl
  refine lv_aload_n hx hb dX0_init_0 rfl (lv_at hl 0 rfl) ?_
  refine W.objInit hx hb hown (hts (.methodLink RX0 3 objectInit) (by decide +kernel)) (hts (.instanceMethod objectInit) (by decide +kernel)) (hts _ (List.mem_cons_of_mem _ (List.mem_append_left _ (List.mem_of_getElem? (i := 2) rfl)))) rfl (by rw [hml]; exact hl.1) rfl dX0_init_1 (Nat.le_of_ble_eq_true rfl) (Nat.le_of_ble_eq_true rfl) ?_
  refine W.eq (g2 := F0 m 4 ls []) rfl ?_
  refine lv_aload_n hx hb dX0_init_4 rfl (lv_at hl 0 rfl) ?_
  refine lv_bipush (v := nI 16) hx hb dX0_init_5 (by decide) ?_
  refine va_newa (atype := .boolean) (ty := .boolean) (n := nI 16) (N' := 16) (a0 := (16, .inl (fun _ => 0))) hx hb (hts (.arrayClass .boolean) (by decide +kernel)) rfl hK hP hD hS hA (fun _ => rfl) (by decide) (by decide) (by decide) (Nat.le_of_ble_eq_true rfl) (Nat.le_of_ble_eq_true rfl) dX0_init_7 (fun q0 y0 H hK hP hD hS => ?_)
  have hK : va_K D vwCl [(y0, .boolean)] s := hK
  have hP : va_P D vwCl [(h, .inr (0, [.null, .null, .null, .null, .int 0, .null, .null, .null, .null, .null, .int 0, .int 0, .null, .null, .null, .null])), (q0, .inl (y0, 16, .inl (fun _ => 0)))] H := hP
  have hD : va_D A [(h, .inr (0, [.null, .null, .null, .null, .int 0, .null, .null, .null, .null, .null, .int 0, .int 0, .null, .null, .null, .null])), (q0, .inl (y0, 16, .inl (fun _ => 0)))] := hD
  refine va_putF (D := D) (ci := 0) (v := .ref q0) (ty := .array .boolean) (C := RX0) (T := TX0) (N := 16) hx hb hts iX0_init tyX0 tyX0_ok nmX0 hown hK hP hD hS 0 rfl rfl 0 (by decide) (hts (.fieldLink RX0 9 "ShopHub" "exists" "[Z") (by decide +kernel)) (fun _ h9 => h9) rfl hin rfl (by decide +kernel) rfl rfl (Nat.le_of_ble_eq_true rfl) dX0_init_9 (fun H locs hP hD hS => ?_)
  have hP : va_P D vwCl [(h, .inr (0, [.ref q0, .null, .null, .null, .int 0, .null, .null, .null, .null, .null, .int 0, .int 0, .null, .null, .null, .null])), (q0, .inl (y0, 16, .inl (fun _ => 0)))] H := hP
  have hD : va_D A [(h, .inr (0, [.ref q0, .null, .null, .null, .int 0, .null, .null, .null, .null, .null, .int 0, .int 0, .null, .null, .null, .null])), (q0, .inl (y0, 16, .inl (fun _ => 0)))] := hD
  refine lv_aload_n hx hb dX0_init_12 rfl (lv_at hl 0 rfl) ?_
  refine lv_bipush (v := nI 16) hx hb dX0_init_13 (by decide) ?_
  refine va_newa (atype := .int) (ty := .int) (n := nI 16) (N' := 16) (a0 := (16, .inl (fun _ => 0))) hx hb (hts (.arrayClass .int) (by decide +kernel)) rfl hK hP hD hS hA (fun _ => rfl) (by decide) (by decide) (by decide) (Nat.le_of_ble_eq_true rfl) (Nat.le_of_ble_eq_true rfl) dX0_init_15 (fun q1 y1 H hK hP hD hS => ?_)
  have hK : va_K D vwCl [(y0, .boolean), (y1, .int)] s := hK
  have hP : va_P D vwCl [(h, .inr (0, [.ref q0, .null, .null, .null, .int 0, .null, .null, .null, .null, .null, .int 0, .int 0, .null, .null, .null, .null])), (q0, .inl (y0, 16, .inl (fun _ => 0))), (q1, .inl (y1, 16, .inl (fun _ => 0)))] H := hP
  have hD : va_D A [(h, .inr (0, [.ref q0, .null, .null, .null, .int 0, .null, .null, .null, .null, .null, .int 0, .int 0, .null, .null, .null, .null])), (q0, .inl (y0, 16, .inl (fun _ => 0))), (q1, .inl (y1, 16, .inl (fun _ => 0)))] := hD
  refine va_putF (D := D) (ci := 0) (v := .ref q1) (ty := .array .int) (C := RX0) (T := TX0) (N := 16) hx hb hts iX0_init tyX0 tyX0_ok nmX0 hown hK hP hD hS 0 rfl rfl 1 (by decide) (hts (.fieldLink RX0 13 "ShopHub" "parents" "[I") (by decide +kernel)) (fun _ h9 => h9) rfl hin rfl (by decide +kernel) rfl rfl (Nat.le_of_ble_eq_true rfl) dX0_init_17 (fun H locs hP hD hS => ?_)
  have hP : va_P D vwCl [(h, .inr (0, [.ref q0, .ref q1, .null, .null, .int 0, .null, .null, .null, .null, .null, .int 0, .int 0, .null, .null, .null, .null])), (q0, .inl (y0, 16, .inl (fun _ => 0))), (q1, .inl (y1, 16, .inl (fun _ => 0)))] H := hP
  have hD : va_D A [(h, .inr (0, [.ref q0, .ref q1, .null, .null, .int 0, .null, .null, .null, .null, .null, .int 0, .int 0, .null, .null, .null, .null])), (q0, .inl (y0, 16, .inl (fun _ => 0))), (q1, .inl (y1, 16, .inl (fun _ => 0)))] := hD
  refine lv_aload_n hx hb dX0_init_20 rfl (lv_at hl 0 rfl) ?_
  refine lv_bipush (v := nI 16) hx hb dX0_init_21 (by decide) ?_
  refine va_newa (atype := .int) (ty := .int) (n := nI 16) (N' := 16) (a0 := (16, .inl (fun _ => 0))) hx hb (hts (.arrayClass .int) (by decide +kernel)) rfl hK hP hD hS hA (fun _ => rfl) (by decide) (by decide) (by decide) (Nat.le_of_ble_eq_true rfl) (Nat.le_of_ble_eq_true rfl) dX0_init_23 (fun q2 y2 H hK hP hD hS => ?_)
  have hK : va_K D vwCl [(y0, .boolean), (y1, .int), (y2, .int)] s := hK
  obtain rfl : y1 = y2 := ty_eq hK 1 2 rfl rfl (fun C h9 => by cases h9)
  have hP : va_P D vwCl [(h, .inr (0, [.ref q0, .ref q1, .null, .null, .int 0, .null, .null, .null, .null, .null, .int 0, .int 0, .null, .null, .null, .null])), (q0, .inl (y0, 16, .inl (fun _ => 0))), (q1, .inl (y1, 16, .inl (fun _ => 0))), (q2, .inl (y1, 16, .inl (fun _ => 0)))] H := hP
  have hD : va_D A [(h, .inr (0, [.ref q0, .ref q1, .null, .null, .int 0, .null, .null, .null, .null, .null, .int 0, .int 0, .null, .null, .null, .null])), (q0, .inl (y0, 16, .inl (fun _ => 0))), (q1, .inl (y1, 16, .inl (fun _ => 0))), (q2, .inl (y1, 16, .inl (fun _ => 0)))] := hD
  refine va_putF (D := D) (ci := 0) (v := .ref q2) (ty := .array .int) (C := RX0) (T := TX0) (N := 16) hx hb hts iX0_init tyX0 tyX0_ok nmX0 hown hK hP hD hS 0 rfl rfl 2 (by decide) (hts (.fieldLink RX0 17 "ShopHub" "discounts" "[I") (by decide +kernel)) (fun _ h9 => h9) rfl hin rfl (by decide +kernel) rfl rfl (Nat.le_of_ble_eq_true rfl) dX0_init_25 (fun H locs hP hD hS => ?_)
  have hP : va_P D vwCl [(h, .inr (0, [.ref q0, .ref q1, .ref q2, .null, .int 0, .null, .null, .null, .null, .null, .int 0, .int 0, .null, .null, .null, .null])), (q0, .inl (y0, 16, .inl (fun _ => 0))), (q1, .inl (y1, 16, .inl (fun _ => 0))), (q2, .inl (y1, 16, .inl (fun _ => 0)))] H := hP
  have hD : va_D A [(h, .inr (0, [.ref q0, .ref q1, .ref q2, .null, .int 0, .null, .null, .null, .null, .null, .int 0, .int 0, .null, .null, .null, .null])), (q0, .inl (y0, 16, .inl (fun _ => 0))), (q1, .inl (y1, 16, .inl (fun _ => 0))), (q2, .inl (y1, 16, .inl (fun _ => 0)))] := hD
  refine lv_aload_n hx hb dX0_init_28 rfl (lv_at hl 0 rfl) ?_
  refine lv_sipush (v := nI 256) hx hb dX0_init_29 (by decide) ?_
  refine va_newa (atype := .int) (ty := .int) (n := nI 256) (N' := 256) (a0 := (256, .inl (fun _ => 0))) hx hb (hts (.arrayClass .int) (by decide +kernel)) rfl hK hP hD hS hA (fun _ => rfl) (by decide) (by decide) (by decide) (Nat.le_of_ble_eq_true rfl) (Nat.le_of_ble_eq_true rfl) dX0_init_32 (fun q3 y3 H hK hP hD hS => ?_)
  have hK : va_K D vwCl [(y0, .boolean), (y1, .int), (y1, .int), (y3, .int)] s := hK
  obtain rfl : y1 = y3 := ty_eq hK 1 3 rfl rfl (fun C h9 => by cases h9)
  have hP : va_P D vwCl [(h, .inr (0, [.ref q0, .ref q1, .ref q2, .null, .int 0, .null, .null, .null, .null, .null, .int 0, .int 0, .null, .null, .null, .null])), (q0, .inl (y0, 16, .inl (fun _ => 0))), (q1, .inl (y1, 16, .inl (fun _ => 0))), (q2, .inl (y1, 16, .inl (fun _ => 0))), (q3, .inl (y1, 256, .inl (fun _ => 0)))] H := hP
  have hD : va_D A [(h, .inr (0, [.ref q0, .ref q1, .ref q2, .null, .int 0, .null, .null, .null, .null, .null, .int 0, .int 0, .null, .null, .null, .null])), (q0, .inl (y0, 16, .inl (fun _ => 0))), (q1, .inl (y1, 16, .inl (fun _ => 0))), (q2, .inl (y1, 16, .inl (fun _ => 0))), (q3, .inl (y1, 256, .inl (fun _ => 0)))] := hD
  refine va_putF (D := D) (ci := 0) (v := .ref q3) (ty := .array .int) (C := RX0) (T := TX0) (N := 16) hx hb hts iX0_init tyX0 tyX0_ok nmX0 hown hK hP hD hS 0 rfl rfl 3 (by decide) (hts (.fieldLink RX0 20 "ShopHub" "quantities" "[I") (by decide +kernel)) (fun _ h9 => h9) rfl hin rfl (by decide +kernel) rfl rfl (Nat.le_of_ble_eq_true rfl) dX0_init_34 (fun H locs hP hD hS => ?_)
  have hP : va_P D vwCl [(h, .inr (0, [.ref q0, .ref q1, .ref q2, .ref q3, .int 0, .null, .null, .null, .null, .null, .int 0, .int 0, .null, .null, .null, .null])), (q0, .inl (y0, 16, .inl (fun _ => 0))), (q1, .inl (y1, 16, .inl (fun _ => 0))), (q2, .inl (y1, 16, .inl (fun _ => 0))), (q3, .inl (y1, 256, .inl (fun _ => 0)))] H := hP
  have hD : va_D A [(h, .inr (0, [.ref q0, .ref q1, .ref q2, .ref q3, .int 0, .null, .null, .null, .null, .null, .int 0, .int 0, .null, .null, .null, .null])), (q0, .inl (y0, 16, .inl (fun _ => 0))), (q1, .inl (y1, 16, .inl (fun _ => 0))), (q2, .inl (y1, 16, .inl (fun _ => 0))), (q3, .inl (y1, 256, .inl (fun _ => 0)))] := hD
  refine lv_aload_n hx hb dX0_init_37 rfl (lv_at hl 0 rfl) ?_
  refine lv_iconst (v := nI 0) hx hb dX0_init_38 (by decide) ?_
  refine va_put (D := D) (ci := 0) (v := .int (nI 0)) (ty := .int) (C := RX0) (T := TX0) (N := 16) hx hb hts iX0_init tyX0 tyX0_ok nmX0 hown hK hP hD hS 0 rfl rfl 4 (by decide) (hts (.fieldLink RX0 23 "ShopHub" "goodCount" "I") (by decide +kernel)) (fun _ h9 => h9) rfl (by decide +kernel) rfl rfl (Nat.le_of_ble_eq_true rfl) dX0_init_39 (fun H locs hP hD hS => ?_)
  have hP : va_P D vwCl [(h, .inr (0, [.ref q0, .ref q1, .ref q2, .ref q3, .int (nI 0), .null, .null, .null, .null, .null, .int 0, .int 0, .null, .null, .null, .null])), (q0, .inl (y0, 16, .inl (fun _ => 0))), (q1, .inl (y1, 16, .inl (fun _ => 0))), (q2, .inl (y1, 16, .inl (fun _ => 0))), (q3, .inl (y1, 256, .inl (fun _ => 0)))] H := hP
  have hD : va_D A [(h, .inr (0, [.ref q0, .ref q1, .ref q2, .ref q3, .int (nI 0), .null, .null, .null, .null, .null, .int 0, .int 0, .null, .null, .null, .null])), (q0, .inl (y0, 16, .inl (fun _ => 0))), (q1, .inl (y1, 16, .inl (fun _ => 0))), (q2, .inl (y1, 16, .inl (fun _ => 0))), (q3, .inl (y1, 256, .inl (fun _ => 0)))] := hD
  refine lv_aload_n hx hb dX0_init_42 rfl (lv_at hl 0 rfl) ?_
  refine lv_sipush (v := nI 200) hx hb dX0_init_43 (by decide) ?_
  refine va_newa (atype := .int) (ty := .int) (n := nI 200) (N' := 200) (a0 := (200, .inl (fun _ => 0))) hx hb (hts (.arrayClass .int) (by decide +kernel)) rfl hK hP hD hS hA (fun _ => rfl) (by decide) (by decide) (by decide) (Nat.le_of_ble_eq_true rfl) (Nat.le_of_ble_eq_true rfl) dX0_init_46 (fun q4 y4 H hK hP hD hS => ?_)
  have hK : va_K D vwCl [(y0, .boolean), (y1, .int), (y1, .int), (y1, .int), (y4, .int)] s := hK
  obtain rfl : y1 = y4 := ty_eq hK 1 4 rfl rfl (fun C h9 => by cases h9)
  have hP : va_P D vwCl [(h, .inr (0, [.ref q0, .ref q1, .ref q2, .ref q3, .int (nI 0), .null, .null, .null, .null, .null, .int 0, .int 0, .null, .null, .null, .null])), (q0, .inl (y0, 16, .inl (fun _ => 0))), (q1, .inl (y1, 16, .inl (fun _ => 0))), (q2, .inl (y1, 16, .inl (fun _ => 0))), (q3, .inl (y1, 256, .inl (fun _ => 0))), (q4, .inl (y1, 200, .inl (fun _ => 0)))] H := hP
  have hD : va_D A [(h, .inr (0, [.ref q0, .ref q1, .ref q2, .ref q3, .int (nI 0), .null, .null, .null, .null, .null, .int 0, .int 0, .null, .null, .null, .null])), (q0, .inl (y0, 16, .inl (fun _ => 0))), (q1, .inl (y1, 16, .inl (fun _ => 0))), (q2, .inl (y1, 16, .inl (fun _ => 0))), (q3, .inl (y1, 256, .inl (fun _ => 0))), (q4, .inl (y1, 200, .inl (fun _ => 0)))] := hD
  refine va_putF (D := D) (ci := 0) (v := .ref q4) (ty := .array .int) (C := RX0) (T := TX0) (N := 16) hx hb hts iX0_init tyX0 tyX0_ok nmX0 hown hK hP hD hS 0 rfl rfl 5 (by decide) (hts (.fieldLink RX0 27 "ShopHub" "draftGoods" "[I") (by decide +kernel)) (fun _ h9 => h9) rfl hin rfl (by decide +kernel) rfl rfl (Nat.le_of_ble_eq_true rfl) dX0_init_48 (fun H locs hP hD hS => ?_)
  have hP : va_P D vwCl [(h, .inr (0, [.ref q0, .ref q1, .ref q2, .ref q3, .int (nI 0), .ref q4, .null, .null, .null, .null, .int 0, .int 0, .null, .null, .null, .null])), (q0, .inl (y0, 16, .inl (fun _ => 0))), (q1, .inl (y1, 16, .inl (fun _ => 0))), (q2, .inl (y1, 16, .inl (fun _ => 0))), (q3, .inl (y1, 256, .inl (fun _ => 0))), (q4, .inl (y1, 200, .inl (fun _ => 0)))] H := hP
  have hD : va_D A [(h, .inr (0, [.ref q0, .ref q1, .ref q2, .ref q3, .int (nI 0), .ref q4, .null, .null, .null, .null, .int 0, .int 0, .null, .null, .null, .null])), (q0, .inl (y0, 16, .inl (fun _ => 0))), (q1, .inl (y1, 16, .inl (fun _ => 0))), (q2, .inl (y1, 16, .inl (fun _ => 0))), (q3, .inl (y1, 256, .inl (fun _ => 0))), (q4, .inl (y1, 200, .inl (fun _ => 0)))] := hD
  refine lv_aload_n hx hb dX0_init_51 rfl (lv_at hl 0 rfl) ?_
  refine lv_sipush (v := nI 200) hx hb dX0_init_52 (by decide) ?_
  refine va_newa (atype := .int) (ty := .int) (n := nI 200) (N' := 200) (a0 := (200, .inl (fun _ => 0))) hx hb (hts (.arrayClass .int) (by decide +kernel)) rfl hK hP hD hS hA (fun _ => rfl) (by decide) (by decide) (by decide) (Nat.le_of_ble_eq_true rfl) (Nat.le_of_ble_eq_true rfl) dX0_init_55 (fun q5 y5 H hK hP hD hS => ?_)
  have hK : va_K D vwCl [(y0, .boolean), (y1, .int), (y1, .int), (y1, .int), (y1, .int), (y5, .int)] s := hK
  obtain rfl : y1 = y5 := ty_eq hK 1 5 rfl rfl (fun C h9 => by cases h9)
  have hP : va_P D vwCl [(h, .inr (0, [.ref q0, .ref q1, .ref q2, .ref q3, .int (nI 0), .ref q4, .null, .null, .null, .null, .int 0, .int 0, .null, .null, .null, .null])), (q0, .inl (y0, 16, .inl (fun _ => 0))), (q1, .inl (y1, 16, .inl (fun _ => 0))), (q2, .inl (y1, 16, .inl (fun _ => 0))), (q3, .inl (y1, 256, .inl (fun _ => 0))), (q4, .inl (y1, 200, .inl (fun _ => 0))), (q5, .inl (y1, 200, .inl (fun _ => 0)))] H := hP
  have hD : va_D A [(h, .inr (0, [.ref q0, .ref q1, .ref q2, .ref q3, .int (nI 0), .ref q4, .null, .null, .null, .null, .int 0, .int 0, .null, .null, .null, .null])), (q0, .inl (y0, 16, .inl (fun _ => 0))), (q1, .inl (y1, 16, .inl (fun _ => 0))), (q2, .inl (y1, 16, .inl (fun _ => 0))), (q3, .inl (y1, 256, .inl (fun _ => 0))), (q4, .inl (y1, 200, .inl (fun _ => 0))), (q5, .inl (y1, 200, .inl (fun _ => 0)))] := hD
  refine va_putF (D := D) (ci := 0) (v := .ref q5) (ty := .array .int) (C := RX0) (T := TX0) (N := 16) hx hb hts iX0_init tyX0 tyX0_ok nmX0 hown hK hP hD hS 0 rfl rfl 6 (by decide) (hts (.fieldLink RX0 30 "ShopHub" "draftPlaces" "[I") (by decide +kernel)) (fun _ h9 => h9) rfl hin rfl (by decide +kernel) rfl rfl (Nat.le_of_ble_eq_true rfl) dX0_init_57 (fun H locs hP hD hS => ?_)
  have hP : va_P D vwCl [(h, .inr (0, [.ref q0, .ref q1, .ref q2, .ref q3, .int (nI 0), .ref q4, .ref q5, .null, .null, .null, .int 0, .int 0, .null, .null, .null, .null])), (q0, .inl (y0, 16, .inl (fun _ => 0))), (q1, .inl (y1, 16, .inl (fun _ => 0))), (q2, .inl (y1, 16, .inl (fun _ => 0))), (q3, .inl (y1, 256, .inl (fun _ => 0))), (q4, .inl (y1, 200, .inl (fun _ => 0))), (q5, .inl (y1, 200, .inl (fun _ => 0)))] H := hP
  have hD : va_D A [(h, .inr (0, [.ref q0, .ref q1, .ref q2, .ref q3, .int (nI 0), .ref q4, .ref q5, .null, .null, .null, .int 0, .int 0, .null, .null, .null, .null])), (q0, .inl (y0, 16, .inl (fun _ => 0))), (q1, .inl (y1, 16, .inl (fun _ => 0))), (q2, .inl (y1, 16, .inl (fun _ => 0))), (q3, .inl (y1, 256, .inl (fun _ => 0))), (q4, .inl (y1, 200, .inl (fun _ => 0))), (q5, .inl (y1, 200, .inl (fun _ => 0)))] := hD
  refine lv_aload_n hx hb dX0_init_60 rfl (lv_at hl 0 rfl) ?_
  refine lv_sipush (v := nI 200) hx hb dX0_init_61 (by decide) ?_
  refine va_newa (atype := .int) (ty := .int) (n := nI 200) (N' := 200) (a0 := (200, .inl (fun _ => 0))) hx hb (hts (.arrayClass .int) (by decide +kernel)) rfl hK hP hD hS hA (fun _ => rfl) (by decide) (by decide) (by decide) (Nat.le_of_ble_eq_true rfl) (Nat.le_of_ble_eq_true rfl) dX0_init_64 (fun q6 y6 H hK hP hD hS => ?_)
  have hK : va_K D vwCl [(y0, .boolean), (y1, .int), (y1, .int), (y1, .int), (y1, .int), (y1, .int), (y6, .int)] s := hK
  obtain rfl : y1 = y6 := ty_eq hK 1 6 rfl rfl (fun C h9 => by cases h9)
  have hP : va_P D vwCl [(h, .inr (0, [.ref q0, .ref q1, .ref q2, .ref q3, .int (nI 0), .ref q4, .ref q5, .null, .null, .null, .int 0, .int 0, .null, .null, .null, .null])), (q0, .inl (y0, 16, .inl (fun _ => 0))), (q1, .inl (y1, 16, .inl (fun _ => 0))), (q2, .inl (y1, 16, .inl (fun _ => 0))), (q3, .inl (y1, 256, .inl (fun _ => 0))), (q4, .inl (y1, 200, .inl (fun _ => 0))), (q5, .inl (y1, 200, .inl (fun _ => 0))), (q6, .inl (y1, 200, .inl (fun _ => 0)))] H := hP
  have hD : va_D A [(h, .inr (0, [.ref q0, .ref q1, .ref q2, .ref q3, .int (nI 0), .ref q4, .ref q5, .null, .null, .null, .int 0, .int 0, .null, .null, .null, .null])), (q0, .inl (y0, 16, .inl (fun _ => 0))), (q1, .inl (y1, 16, .inl (fun _ => 0))), (q2, .inl (y1, 16, .inl (fun _ => 0))), (q3, .inl (y1, 256, .inl (fun _ => 0))), (q4, .inl (y1, 200, .inl (fun _ => 0))), (q5, .inl (y1, 200, .inl (fun _ => 0))), (q6, .inl (y1, 200, .inl (fun _ => 0)))] := hD
  refine va_putF (D := D) (ci := 0) (v := .ref q6) (ty := .array .int) (C := RX0) (T := TX0) (N := 16) hx hb hts iX0_init tyX0 tyX0_ok nmX0 hown hK hP hD hS 0 rfl rfl 7 (by decide) (hts (.fieldLink RX0 33 "ShopHub" "draftValues" "[I") (by decide +kernel)) (fun _ h9 => h9) rfl hin rfl (by decide +kernel) rfl rfl (Nat.le_of_ble_eq_true rfl) dX0_init_66 (fun H locs hP hD hS => ?_)
  have hP : va_P D vwCl [(h, .inr (0, [.ref q0, .ref q1, .ref q2, .ref q3, .int (nI 0), .ref q4, .ref q5, .ref q6, .null, .null, .int 0, .int 0, .null, .null, .null, .null])), (q0, .inl (y0, 16, .inl (fun _ => 0))), (q1, .inl (y1, 16, .inl (fun _ => 0))), (q2, .inl (y1, 16, .inl (fun _ => 0))), (q3, .inl (y1, 256, .inl (fun _ => 0))), (q4, .inl (y1, 200, .inl (fun _ => 0))), (q5, .inl (y1, 200, .inl (fun _ => 0))), (q6, .inl (y1, 200, .inl (fun _ => 0)))] H := hP
  have hD : va_D A [(h, .inr (0, [.ref q0, .ref q1, .ref q2, .ref q3, .int (nI 0), .ref q4, .ref q5, .ref q6, .null, .null, .int 0, .int 0, .null, .null, .null, .null])), (q0, .inl (y0, 16, .inl (fun _ => 0))), (q1, .inl (y1, 16, .inl (fun _ => 0))), (q2, .inl (y1, 16, .inl (fun _ => 0))), (q3, .inl (y1, 256, .inl (fun _ => 0))), (q4, .inl (y1, 200, .inl (fun _ => 0))), (q5, .inl (y1, 200, .inl (fun _ => 0))), (q6, .inl (y1, 200, .inl (fun _ => 0)))] := hD
  refine lv_aload_n hx hb dX0_init_69 rfl (lv_at hl 0 rfl) ?_
  refine lv_sipush (v := nI 200) hx hb dX0_init_70 (by decide) ?_
  refine va_newa (atype := .int) (ty := .int) (n := nI 200) (N' := 200) (a0 := (200, .inl (fun _ => 0))) hx hb (hts (.arrayClass .int) (by decide +kernel)) rfl hK hP hD hS hA (fun _ => rfl) (by decide) (by decide) (by decide) (Nat.le_of_ble_eq_true rfl) (Nat.le_of_ble_eq_true rfl) dX0_init_73 (fun q7 y7 H hK hP hD hS => ?_)
  have hK : va_K D vwCl [(y0, .boolean), (y1, .int), (y1, .int), (y1, .int), (y1, .int), (y1, .int), (y1, .int), (y7, .int)] s := hK
  obtain rfl : y1 = y7 := ty_eq hK 1 7 rfl rfl (fun C h9 => by cases h9)
  have hP : va_P D vwCl [(h, .inr (0, [.ref q0, .ref q1, .ref q2, .ref q3, .int (nI 0), .ref q4, .ref q5, .ref q6, .null, .null, .int 0, .int 0, .null, .null, .null, .null])), (q0, .inl (y0, 16, .inl (fun _ => 0))), (q1, .inl (y1, 16, .inl (fun _ => 0))), (q2, .inl (y1, 16, .inl (fun _ => 0))), (q3, .inl (y1, 256, .inl (fun _ => 0))), (q4, .inl (y1, 200, .inl (fun _ => 0))), (q5, .inl (y1, 200, .inl (fun _ => 0))), (q6, .inl (y1, 200, .inl (fun _ => 0))), (q7, .inl (y1, 200, .inl (fun _ => 0)))] H := hP
  have hD : va_D A [(h, .inr (0, [.ref q0, .ref q1, .ref q2, .ref q3, .int (nI 0), .ref q4, .ref q5, .ref q6, .null, .null, .int 0, .int 0, .null, .null, .null, .null])), (q0, .inl (y0, 16, .inl (fun _ => 0))), (q1, .inl (y1, 16, .inl (fun _ => 0))), (q2, .inl (y1, 16, .inl (fun _ => 0))), (q3, .inl (y1, 256, .inl (fun _ => 0))), (q4, .inl (y1, 200, .inl (fun _ => 0))), (q5, .inl (y1, 200, .inl (fun _ => 0))), (q6, .inl (y1, 200, .inl (fun _ => 0))), (q7, .inl (y1, 200, .inl (fun _ => 0)))] := hD
  refine va_putF (D := D) (ci := 0) (v := .ref q7) (ty := .array .int) (C := RX0) (T := TX0) (N := 16) hx hb hts iX0_init tyX0 tyX0_ok nmX0 hown hK hP hD hS 0 rfl rfl 8 (by decide) (hts (.fieldLink RX0 36 "ShopHub" "draftDays" "[I") (by decide +kernel)) (fun _ h9 => h9) rfl hin rfl (by decide +kernel) rfl rfl (Nat.le_of_ble_eq_true rfl) dX0_init_75 (fun H locs hP hD hS => ?_)
  have hP : va_P D vwCl [(h, .inr (0, [.ref q0, .ref q1, .ref q2, .ref q3, .int (nI 0), .ref q4, .ref q5, .ref q6, .ref q7, .null, .int 0, .int 0, .null, .null, .null, .null])), (q0, .inl (y0, 16, .inl (fun _ => 0))), (q1, .inl (y1, 16, .inl (fun _ => 0))), (q2, .inl (y1, 16, .inl (fun _ => 0))), (q3, .inl (y1, 256, .inl (fun _ => 0))), (q4, .inl (y1, 200, .inl (fun _ => 0))), (q5, .inl (y1, 200, .inl (fun _ => 0))), (q6, .inl (y1, 200, .inl (fun _ => 0))), (q7, .inl (y1, 200, .inl (fun _ => 0)))] H := hP
  have hD : va_D A [(h, .inr (0, [.ref q0, .ref q1, .ref q2, .ref q3, .int (nI 0), .ref q4, .ref q5, .ref q6, .ref q7, .null, .int 0, .int 0, .null, .null, .null, .null])), (q0, .inl (y0, 16, .inl (fun _ => 0))), (q1, .inl (y1, 16, .inl (fun _ => 0))), (q2, .inl (y1, 16, .inl (fun _ => 0))), (q3, .inl (y1, 256, .inl (fun _ => 0))), (q4, .inl (y1, 200, .inl (fun _ => 0))), (q5, .inl (y1, 200, .inl (fun _ => 0))), (q6, .inl (y1, 200, .inl (fun _ => 0))), (q7, .inl (y1, 200, .inl (fun _ => 0)))] := hD
  refine lv_aload_n hx hb dX0_init_78 rfl (lv_at hl 0 rfl) ?_
  refine lv_sipush (v := nI 200) hx hb dX0_init_79 (by decide) ?_
  refine va_newa (atype := .int) (ty := .int) (n := nI 200) (N' := 200) (a0 := (200, .inl (fun _ => 0))) hx hb (hts (.arrayClass .int) (by decide +kernel)) rfl hK hP hD hS hA (fun _ => rfl) (by decide) (by decide) (by decide) (Nat.le_of_ble_eq_true rfl) (Nat.le_of_ble_eq_true rfl) dX0_init_82 (fun q8 y8 H hK hP hD hS => ?_)
  have hK : va_K D vwCl [(y0, .boolean), (y1, .int), (y1, .int), (y1, .int), (y1, .int), (y1, .int), (y1, .int), (y1, .int), (y8, .int)] s := hK
  obtain rfl : y1 = y8 := ty_eq hK 1 8 rfl rfl (fun C h9 => by cases h9)
  have hP : va_P D vwCl [(h, .inr (0, [.ref q0, .ref q1, .ref q2, .ref q3, .int (nI 0), .ref q4, .ref q5, .ref q6, .ref q7, .null, .int 0, .int 0, .null, .null, .null, .null])), (q0, .inl (y0, 16, .inl (fun _ => 0))), (q1, .inl (y1, 16, .inl (fun _ => 0))), (q2, .inl (y1, 16, .inl (fun _ => 0))), (q3, .inl (y1, 256, .inl (fun _ => 0))), (q4, .inl (y1, 200, .inl (fun _ => 0))), (q5, .inl (y1, 200, .inl (fun _ => 0))), (q6, .inl (y1, 200, .inl (fun _ => 0))), (q7, .inl (y1, 200, .inl (fun _ => 0))), (q8, .inl (y1, 200, .inl (fun _ => 0)))] H := hP
  have hD : va_D A [(h, .inr (0, [.ref q0, .ref q1, .ref q2, .ref q3, .int (nI 0), .ref q4, .ref q5, .ref q6, .ref q7, .null, .int 0, .int 0, .null, .null, .null, .null])), (q0, .inl (y0, 16, .inl (fun _ => 0))), (q1, .inl (y1, 16, .inl (fun _ => 0))), (q2, .inl (y1, 16, .inl (fun _ => 0))), (q3, .inl (y1, 256, .inl (fun _ => 0))), (q4, .inl (y1, 200, .inl (fun _ => 0))), (q5, .inl (y1, 200, .inl (fun _ => 0))), (q6, .inl (y1, 200, .inl (fun _ => 0))), (q7, .inl (y1, 200, .inl (fun _ => 0))), (q8, .inl (y1, 200, .inl (fun _ => 0)))] := hD
  refine va_putF (D := D) (ci := 0) (v := .ref q8) (ty := .array .int) (C := RX0) (T := TX0) (N := 16) hx hb hts iX0_init tyX0 tyX0_ok nmX0 hown hK hP hD hS 0 rfl rfl 9 (by decide) (hts (.fieldLink RX0 39 "ShopHub" "draftStates" "[I") (by decide +kernel)) (fun _ h9 => h9) rfl hin rfl (by decide +kernel) rfl rfl (Nat.le_of_ble_eq_true rfl) dX0_init_84 (fun H locs hP hD hS => ?_)
  have hP : va_P D vwCl [(h, .inr (0, [.ref q0, .ref q1, .ref q2, .ref q3, .int (nI 0), .ref q4, .ref q5, .ref q6, .ref q7, .ref q8, .int 0, .int 0, .null, .null, .null, .null])), (q0, .inl (y0, 16, .inl (fun _ => 0))), (q1, .inl (y1, 16, .inl (fun _ => 0))), (q2, .inl (y1, 16, .inl (fun _ => 0))), (q3, .inl (y1, 256, .inl (fun _ => 0))), (q4, .inl (y1, 200, .inl (fun _ => 0))), (q5, .inl (y1, 200, .inl (fun _ => 0))), (q6, .inl (y1, 200, .inl (fun _ => 0))), (q7, .inl (y1, 200, .inl (fun _ => 0))), (q8, .inl (y1, 200, .inl (fun _ => 0)))] H := hP
  have hD : va_D A [(h, .inr (0, [.ref q0, .ref q1, .ref q2, .ref q3, .int (nI 0), .ref q4, .ref q5, .ref q6, .ref q7, .ref q8, .int 0, .int 0, .null, .null, .null, .null])), (q0, .inl (y0, 16, .inl (fun _ => 0))), (q1, .inl (y1, 16, .inl (fun _ => 0))), (q2, .inl (y1, 16, .inl (fun _ => 0))), (q3, .inl (y1, 256, .inl (fun _ => 0))), (q4, .inl (y1, 200, .inl (fun _ => 0))), (q5, .inl (y1, 200, .inl (fun _ => 0))), (q6, .inl (y1, 200, .inl (fun _ => 0))), (q7, .inl (y1, 200, .inl (fun _ => 0))), (q8, .inl (y1, 200, .inl (fun _ => 0)))] := hD
  refine lv_aload_n hx hb dX0_init_87 rfl (lv_at hl 0 rfl) ?_
  refine lv_iconst (v := nI 0) hx hb dX0_init_88 (by decide) ?_
  refine va_put (D := D) (ci := 0) (v := .int (nI 0)) (ty := .int) (C := RX0) (T := TX0) (N := 16) hx hb hts iX0_init tyX0 tyX0_ok nmX0 hown hK hP hD hS 0 rfl rfl 10 (by decide) (hts (.fieldLink RX0 42 "ShopHub" "draftCount" "I") (by decide +kernel)) (fun _ h9 => h9) rfl (by decide +kernel) rfl rfl (Nat.le_of_ble_eq_true rfl) dX0_init_89 (fun H locs hP hD hS => ?_)
  have hP : va_P D vwCl [(h, .inr (0, [.ref q0, .ref q1, .ref q2, .ref q3, .int (nI 0), .ref q4, .ref q5, .ref q6, .ref q7, .ref q8, .int (nI 0), .int 0, .null, .null, .null, .null])), (q0, .inl (y0, 16, .inl (fun _ => 0))), (q1, .inl (y1, 16, .inl (fun _ => 0))), (q2, .inl (y1, 16, .inl (fun _ => 0))), (q3, .inl (y1, 256, .inl (fun _ => 0))), (q4, .inl (y1, 200, .inl (fun _ => 0))), (q5, .inl (y1, 200, .inl (fun _ => 0))), (q6, .inl (y1, 200, .inl (fun _ => 0))), (q7, .inl (y1, 200, .inl (fun _ => 0))), (q8, .inl (y1, 200, .inl (fun _ => 0)))] H := hP
  have hD : va_D A [(h, .inr (0, [.ref q0, .ref q1, .ref q2, .ref q3, .int (nI 0), .ref q4, .ref q5, .ref q6, .ref q7, .ref q8, .int (nI 0), .int 0, .null, .null, .null, .null])), (q0, .inl (y0, 16, .inl (fun _ => 0))), (q1, .inl (y1, 16, .inl (fun _ => 0))), (q2, .inl (y1, 16, .inl (fun _ => 0))), (q3, .inl (y1, 256, .inl (fun _ => 0))), (q4, .inl (y1, 200, .inl (fun _ => 0))), (q5, .inl (y1, 200, .inl (fun _ => 0))), (q6, .inl (y1, 200, .inl (fun _ => 0))), (q7, .inl (y1, 200, .inl (fun _ => 0))), (q8, .inl (y1, 200, .inl (fun _ => 0)))] := hD
  refine lv_aload_n hx hb dX0_init_92 rfl (lv_at hl 0 rfl) ?_
  refine lv_iconst (v := nI 0) hx hb dX0_init_93 (by decide) ?_
  refine va_put (D := D) (ci := 0) (v := .int (nI 0)) (ty := .int) (C := RX0) (T := TX0) (N := 16) hx hb hts iX0_init tyX0 tyX0_ok nmX0 hown hK hP hD hS 0 rfl rfl 11 (by decide) (hts (.fieldLink RX0 45 "ShopHub" "today" "I") (by decide +kernel)) (fun _ h9 => h9) rfl (by decide +kernel) rfl rfl (Nat.le_of_ble_eq_true rfl) dX0_init_94 (fun H locs hP hD hS => ?_)
  have hP : va_P D vwCl [(h, .inr (0, [.ref q0, .ref q1, .ref q2, .ref q3, .int (nI 0), .ref q4, .ref q5, .ref q6, .ref q7, .ref q8, .int (nI 0), .int (nI 0), .null, .null, .null, .null])), (q0, .inl (y0, 16, .inl (fun _ => 0))), (q1, .inl (y1, 16, .inl (fun _ => 0))), (q2, .inl (y1, 16, .inl (fun _ => 0))), (q3, .inl (y1, 256, .inl (fun _ => 0))), (q4, .inl (y1, 200, .inl (fun _ => 0))), (q5, .inl (y1, 200, .inl (fun _ => 0))), (q6, .inl (y1, 200, .inl (fun _ => 0))), (q7, .inl (y1, 200, .inl (fun _ => 0))), (q8, .inl (y1, 200, .inl (fun _ => 0)))] H := hP
  have hD : va_D A [(h, .inr (0, [.ref q0, .ref q1, .ref q2, .ref q3, .int (nI 0), .ref q4, .ref q5, .ref q6, .ref q7, .ref q8, .int (nI 0), .int (nI 0), .null, .null, .null, .null])), (q0, .inl (y0, 16, .inl (fun _ => 0))), (q1, .inl (y1, 16, .inl (fun _ => 0))), (q2, .inl (y1, 16, .inl (fun _ => 0))), (q3, .inl (y1, 256, .inl (fun _ => 0))), (q4, .inl (y1, 200, .inl (fun _ => 0))), (q5, .inl (y1, 200, .inl (fun _ => 0))), (q6, .inl (y1, 200, .inl (fun _ => 0))), (q7, .inl (y1, 200, .inl (fun _ => 0))), (q8, .inl (y1, 200, .inl (fun _ => 0)))] := hD
  refine lv_aload_n hx hb dX0_init_97 rfl (lv_at hl 0 rfl) ?_
  refine lv_sipush (v := nI 1536) hx hb dX0_init_98 (by decide) ?_
  refine va_newa (atype := .int) (ty := .int) (n := nI 1536) (N' := 1536) (a0 := (1536, .inl (fun _ => 0))) hx hb (hts (.arrayClass .int) (by decide +kernel)) rfl hK hP hD hS hA (fun _ => rfl) (by decide) (by decide) (by decide) (Nat.le_of_ble_eq_true rfl) (Nat.le_of_ble_eq_true rfl) dX0_init_101 (fun q9 y9 H hK hP hD hS => ?_)
  have hK : va_K D vwCl [(y0, .boolean), (y1, .int), (y1, .int), (y1, .int), (y1, .int), (y1, .int), (y1, .int), (y1, .int), (y1, .int), (y9, .int)] s := hK
  obtain rfl : y1 = y9 := ty_eq hK 1 9 rfl rfl (fun C h9 => by cases h9)
  have hP : va_P D vwCl [(h, .inr (0, [.ref q0, .ref q1, .ref q2, .ref q3, .int (nI 0), .ref q4, .ref q5, .ref q6, .ref q7, .ref q8, .int (nI 0), .int (nI 0), .null, .null, .null, .null])), (q0, .inl (y0, 16, .inl (fun _ => 0))), (q1, .inl (y1, 16, .inl (fun _ => 0))), (q2, .inl (y1, 16, .inl (fun _ => 0))), (q3, .inl (y1, 256, .inl (fun _ => 0))), (q4, .inl (y1, 200, .inl (fun _ => 0))), (q5, .inl (y1, 200, .inl (fun _ => 0))), (q6, .inl (y1, 200, .inl (fun _ => 0))), (q7, .inl (y1, 200, .inl (fun _ => 0))), (q8, .inl (y1, 200, .inl (fun _ => 0))), (q9, .inl (y1, 1536, .inl (fun _ => 0)))] H := hP
  have hD : va_D A [(h, .inr (0, [.ref q0, .ref q1, .ref q2, .ref q3, .int (nI 0), .ref q4, .ref q5, .ref q6, .ref q7, .ref q8, .int (nI 0), .int (nI 0), .null, .null, .null, .null])), (q0, .inl (y0, 16, .inl (fun _ => 0))), (q1, .inl (y1, 16, .inl (fun _ => 0))), (q2, .inl (y1, 16, .inl (fun _ => 0))), (q3, .inl (y1, 256, .inl (fun _ => 0))), (q4, .inl (y1, 200, .inl (fun _ => 0))), (q5, .inl (y1, 200, .inl (fun _ => 0))), (q6, .inl (y1, 200, .inl (fun _ => 0))), (q7, .inl (y1, 200, .inl (fun _ => 0))), (q8, .inl (y1, 200, .inl (fun _ => 0))), (q9, .inl (y1, 1536, .inl (fun _ => 0)))] := hD
  refine va_putF (D := D) (ci := 0) (v := .ref q9) (ty := .array .int) (C := RX0) (T := TX0) (N := 16) hx hb hts iX0_init tyX0 tyX0_ok nmX0 hown hK hP hD hS 0 rfl rfl 12 (by decide) (hts (.fieldLink RX0 48 "ShopHub" "holders" "[I") (by decide +kernel)) (fun _ h9 => h9) rfl hin rfl (by decide +kernel) rfl rfl (Nat.le_of_ble_eq_true rfl) dX0_init_103 (fun H locs hP hD hS => ?_)
  have hP : va_P D vwCl [(h, .inr (0, [.ref q0, .ref q1, .ref q2, .ref q3, .int (nI 0), .ref q4, .ref q5, .ref q6, .ref q7, .ref q8, .int (nI 0), .int (nI 0), .ref q9, .null, .null, .null])), (q0, .inl (y0, 16, .inl (fun _ => 0))), (q1, .inl (y1, 16, .inl (fun _ => 0))), (q2, .inl (y1, 16, .inl (fun _ => 0))), (q3, .inl (y1, 256, .inl (fun _ => 0))), (q4, .inl (y1, 200, .inl (fun _ => 0))), (q5, .inl (y1, 200, .inl (fun _ => 0))), (q6, .inl (y1, 200, .inl (fun _ => 0))), (q7, .inl (y1, 200, .inl (fun _ => 0))), (q8, .inl (y1, 200, .inl (fun _ => 0))), (q9, .inl (y1, 1536, .inl (fun _ => 0)))] H := hP
  have hD : va_D A [(h, .inr (0, [.ref q0, .ref q1, .ref q2, .ref q3, .int (nI 0), .ref q4, .ref q5, .ref q6, .ref q7, .ref q8, .int (nI 0), .int (nI 0), .ref q9, .null, .null, .null])), (q0, .inl (y0, 16, .inl (fun _ => 0))), (q1, .inl (y1, 16, .inl (fun _ => 0))), (q2, .inl (y1, 16, .inl (fun _ => 0))), (q3, .inl (y1, 256, .inl (fun _ => 0))), (q4, .inl (y1, 200, .inl (fun _ => 0))), (q5, .inl (y1, 200, .inl (fun _ => 0))), (q6, .inl (y1, 200, .inl (fun _ => 0))), (q7, .inl (y1, 200, .inl (fun _ => 0))), (q8, .inl (y1, 200, .inl (fun _ => 0))), (q9, .inl (y1, 1536, .inl (fun _ => 0)))] := hD
  refine lv_aload_n hx hb dX0_init_106 rfl (lv_at hl 0 rfl) ?_
  refine lv_bipush (v := nI 18) hx hb dX0_init_107 (by decide) ?_
  refine va_newa (atype := .boolean) (ty := .boolean) (n := nI 18) (N' := 18) (a0 := (18, .inl (fun _ => 0))) hx hb (hts (.arrayClass .boolean) (by decide +kernel)) rfl hK hP hD hS hA (fun _ => rfl) (by decide) (by decide) (by decide) (Nat.le_of_ble_eq_true rfl) (Nat.le_of_ble_eq_true rfl) dX0_init_109 (fun q10 y10 H hK hP hD hS => ?_)
  have hK : va_K D vwCl [(y0, .boolean), (y1, .int), (y1, .int), (y1, .int), (y1, .int), (y1, .int), (y1, .int), (y1, .int), (y1, .int), (y1, .int), (y10, .boolean)] s := hK
  obtain rfl : y0 = y10 := ty_eq hK 0 10 rfl rfl (fun C h9 => by cases h9)
  have hP : va_P D vwCl [(h, .inr (0, [.ref q0, .ref q1, .ref q2, .ref q3, .int (nI 0), .ref q4, .ref q5, .ref q6, .ref q7, .ref q8, .int (nI 0), .int (nI 0), .ref q9, .null, .null, .null])), (q0, .inl (y0, 16, .inl (fun _ => 0))), (q1, .inl (y1, 16, .inl (fun _ => 0))), (q2, .inl (y1, 16, .inl (fun _ => 0))), (q3, .inl (y1, 256, .inl (fun _ => 0))), (q4, .inl (y1, 200, .inl (fun _ => 0))), (q5, .inl (y1, 200, .inl (fun _ => 0))), (q6, .inl (y1, 200, .inl (fun _ => 0))), (q7, .inl (y1, 200, .inl (fun _ => 0))), (q8, .inl (y1, 200, .inl (fun _ => 0))), (q9, .inl (y1, 1536, .inl (fun _ => 0))), (q10, .inl (y0, 18, .inl (fun _ => 0)))] H := hP
  have hD : va_D A [(h, .inr (0, [.ref q0, .ref q1, .ref q2, .ref q3, .int (nI 0), .ref q4, .ref q5, .ref q6, .ref q7, .ref q8, .int (nI 0), .int (nI 0), .ref q9, .null, .null, .null])), (q0, .inl (y0, 16, .inl (fun _ => 0))), (q1, .inl (y1, 16, .inl (fun _ => 0))), (q2, .inl (y1, 16, .inl (fun _ => 0))), (q3, .inl (y1, 256, .inl (fun _ => 0))), (q4, .inl (y1, 200, .inl (fun _ => 0))), (q5, .inl (y1, 200, .inl (fun _ => 0))), (q6, .inl (y1, 200, .inl (fun _ => 0))), (q7, .inl (y1, 200, .inl (fun _ => 0))), (q8, .inl (y1, 200, .inl (fun _ => 0))), (q9, .inl (y1, 1536, .inl (fun _ => 0))), (q10, .inl (y0, 18, .inl (fun _ => 0)))] := hD
  refine va_putF (D := D) (ci := 0) (v := .ref q10) (ty := .array .boolean) (C := RX0) (T := TX0) (N := 16) hx hb hts iX0_init tyX0 tyX0_ok nmX0 hown hK hP hD hS 0 rfl rfl 13 (by decide) (hts (.fieldLink RX0 51 "ShopHub" "asked" "[Z") (by decide +kernel)) (fun _ h9 => h9) rfl hin rfl (by decide +kernel) rfl rfl (Nat.le_of_ble_eq_true rfl) dX0_init_111 (fun H locs hP hD hS => ?_)
  have hP : va_P D vwCl [(h, .inr (0, [.ref q0, .ref q1, .ref q2, .ref q3, .int (nI 0), .ref q4, .ref q5, .ref q6, .ref q7, .ref q8, .int (nI 0), .int (nI 0), .ref q9, .ref q10, .null, .null])), (q0, .inl (y0, 16, .inl (fun _ => 0))), (q1, .inl (y1, 16, .inl (fun _ => 0))), (q2, .inl (y1, 16, .inl (fun _ => 0))), (q3, .inl (y1, 256, .inl (fun _ => 0))), (q4, .inl (y1, 200, .inl (fun _ => 0))), (q5, .inl (y1, 200, .inl (fun _ => 0))), (q6, .inl (y1, 200, .inl (fun _ => 0))), (q7, .inl (y1, 200, .inl (fun _ => 0))), (q8, .inl (y1, 200, .inl (fun _ => 0))), (q9, .inl (y1, 1536, .inl (fun _ => 0))), (q10, .inl (y0, 18, .inl (fun _ => 0)))] H := hP
  have hD : va_D A [(h, .inr (0, [.ref q0, .ref q1, .ref q2, .ref q3, .int (nI 0), .ref q4, .ref q5, .ref q6, .ref q7, .ref q8, .int (nI 0), .int (nI 0), .ref q9, .ref q10, .null, .null])), (q0, .inl (y0, 16, .inl (fun _ => 0))), (q1, .inl (y1, 16, .inl (fun _ => 0))), (q2, .inl (y1, 16, .inl (fun _ => 0))), (q3, .inl (y1, 256, .inl (fun _ => 0))), (q4, .inl (y1, 200, .inl (fun _ => 0))), (q5, .inl (y1, 200, .inl (fun _ => 0))), (q6, .inl (y1, 200, .inl (fun _ => 0))), (q7, .inl (y1, 200, .inl (fun _ => 0))), (q8, .inl (y1, 200, .inl (fun _ => 0))), (q9, .inl (y1, 1536, .inl (fun _ => 0))), (q10, .inl (y0, 18, .inl (fun _ => 0)))] := hD
  refine lv_aload_n hx hb dX0_init_114 rfl (lv_at hl 0 rfl) ?_
  refine lv_sipush (v := nI 864) hx hb dX0_init_115 (by decide) ?_
  refine va_newa (atype := .int) (ty := .int) (n := nI 864) (N' := 864) (a0 := (864, .inl (fun _ => 0))) hx hb (hts (.arrayClass .int) (by decide +kernel)) rfl hK hP hD hS hA (fun _ => rfl) (by decide) (by decide) (by decide) (Nat.le_of_ble_eq_true rfl) (Nat.le_of_ble_eq_true rfl) dX0_init_118 (fun q11 y11 H hK hP hD hS => ?_)
  have hK : va_K D vwCl [(y0, .boolean), (y1, .int), (y1, .int), (y1, .int), (y1, .int), (y1, .int), (y1, .int), (y1, .int), (y1, .int), (y1, .int), (y0, .boolean), (y11, .int)] s := hK
  obtain rfl : y1 = y11 := ty_eq hK 1 11 rfl rfl (fun C h9 => by cases h9)
  have hP : va_P D vwCl [(h, .inr (0, [.ref q0, .ref q1, .ref q2, .ref q3, .int (nI 0), .ref q4, .ref q5, .ref q6, .ref q7, .ref q8, .int (nI 0), .int (nI 0), .ref q9, .ref q10, .null, .null])), (q0, .inl (y0, 16, .inl (fun _ => 0))), (q1, .inl (y1, 16, .inl (fun _ => 0))), (q2, .inl (y1, 16, .inl (fun _ => 0))), (q3, .inl (y1, 256, .inl (fun _ => 0))), (q4, .inl (y1, 200, .inl (fun _ => 0))), (q5, .inl (y1, 200, .inl (fun _ => 0))), (q6, .inl (y1, 200, .inl (fun _ => 0))), (q7, .inl (y1, 200, .inl (fun _ => 0))), (q8, .inl (y1, 200, .inl (fun _ => 0))), (q9, .inl (y1, 1536, .inl (fun _ => 0))), (q10, .inl (y0, 18, .inl (fun _ => 0))), (q11, .inl (y1, 864, .inl (fun _ => 0)))] H := hP
  have hD : va_D A [(h, .inr (0, [.ref q0, .ref q1, .ref q2, .ref q3, .int (nI 0), .ref q4, .ref q5, .ref q6, .ref q7, .ref q8, .int (nI 0), .int (nI 0), .ref q9, .ref q10, .null, .null])), (q0, .inl (y0, 16, .inl (fun _ => 0))), (q1, .inl (y1, 16, .inl (fun _ => 0))), (q2, .inl (y1, 16, .inl (fun _ => 0))), (q3, .inl (y1, 256, .inl (fun _ => 0))), (q4, .inl (y1, 200, .inl (fun _ => 0))), (q5, .inl (y1, 200, .inl (fun _ => 0))), (q6, .inl (y1, 200, .inl (fun _ => 0))), (q7, .inl (y1, 200, .inl (fun _ => 0))), (q8, .inl (y1, 200, .inl (fun _ => 0))), (q9, .inl (y1, 1536, .inl (fun _ => 0))), (q10, .inl (y0, 18, .inl (fun _ => 0))), (q11, .inl (y1, 864, .inl (fun _ => 0)))] := hD
  refine va_putF (D := D) (ci := 0) (v := .ref q11) (ty := .array .int) (C := RX0) (T := TX0) (N := 16) hx hb hts iX0_init tyX0 tyX0_ok nmX0 hown hK hP hD hS 0 rfl rfl 14 (by decide) (hts (.fieldLink RX0 54 "ShopHub" "seen" "[I") (by decide +kernel)) (fun _ h9 => h9) rfl hin rfl (by decide +kernel) rfl rfl (Nat.le_of_ble_eq_true rfl) dX0_init_120 (fun H locs hP hD hS => ?_)
  have hP : va_P D vwCl [(h, .inr (0, [.ref q0, .ref q1, .ref q2, .ref q3, .int (nI 0), .ref q4, .ref q5, .ref q6, .ref q7, .ref q8, .int (nI 0), .int (nI 0), .ref q9, .ref q10, .ref q11, .null])), (q0, .inl (y0, 16, .inl (fun _ => 0))), (q1, .inl (y1, 16, .inl (fun _ => 0))), (q2, .inl (y1, 16, .inl (fun _ => 0))), (q3, .inl (y1, 256, .inl (fun _ => 0))), (q4, .inl (y1, 200, .inl (fun _ => 0))), (q5, .inl (y1, 200, .inl (fun _ => 0))), (q6, .inl (y1, 200, .inl (fun _ => 0))), (q7, .inl (y1, 200, .inl (fun _ => 0))), (q8, .inl (y1, 200, .inl (fun _ => 0))), (q9, .inl (y1, 1536, .inl (fun _ => 0))), (q10, .inl (y0, 18, .inl (fun _ => 0))), (q11, .inl (y1, 864, .inl (fun _ => 0)))] H := hP
  have hD : va_D A [(h, .inr (0, [.ref q0, .ref q1, .ref q2, .ref q3, .int (nI 0), .ref q4, .ref q5, .ref q6, .ref q7, .ref q8, .int (nI 0), .int (nI 0), .ref q9, .ref q10, .ref q11, .null])), (q0, .inl (y0, 16, .inl (fun _ => 0))), (q1, .inl (y1, 16, .inl (fun _ => 0))), (q2, .inl (y1, 16, .inl (fun _ => 0))), (q3, .inl (y1, 256, .inl (fun _ => 0))), (q4, .inl (y1, 200, .inl (fun _ => 0))), (q5, .inl (y1, 200, .inl (fun _ => 0))), (q6, .inl (y1, 200, .inl (fun _ => 0))), (q7, .inl (y1, 200, .inl (fun _ => 0))), (q8, .inl (y1, 200, .inl (fun _ => 0))), (q9, .inl (y1, 1536, .inl (fun _ => 0))), (q10, .inl (y0, 18, .inl (fun _ => 0))), (q11, .inl (y1, 864, .inl (fun _ => 0)))] := hD
  refine lv_aload_n hx hb dX0_init_123 rfl (lv_at hl 0 rfl) ?_
  refine lv_bipush (v := nI 16) hx hb dX0_init_124 (by decide) ?_
  refine va_newa (atype := .int) (ty := .int) (n := nI 16) (N' := 16) (a0 := (16, .inl (fun _ => 0))) hx hb (hts (.arrayClass .int) (by decide +kernel)) rfl hK hP hD hS hA (fun _ => rfl) (by decide) (by decide) (by decide) (Nat.le_of_ble_eq_true rfl) (Nat.le_of_ble_eq_true rfl) dX0_init_126 (fun q12 y12 H hK hP hD hS => ?_)
  have hK : va_K D vwCl [(y0, .boolean), (y1, .int), (y1, .int), (y1, .int), (y1, .int), (y1, .int), (y1, .int), (y1, .int), (y1, .int), (y1, .int), (y0, .boolean), (y1, .int), (y12, .int)] s := hK
  obtain rfl : y1 = y12 := ty_eq hK 1 12 rfl rfl (fun C h9 => by cases h9)
  have hP : va_P D vwCl [(h, .inr (0, [.ref q0, .ref q1, .ref q2, .ref q3, .int (nI 0), .ref q4, .ref q5, .ref q6, .ref q7, .ref q8, .int (nI 0), .int (nI 0), .ref q9, .ref q10, .ref q11, .null])), (q0, .inl (y0, 16, .inl (fun _ => 0))), (q1, .inl (y1, 16, .inl (fun _ => 0))), (q2, .inl (y1, 16, .inl (fun _ => 0))), (q3, .inl (y1, 256, .inl (fun _ => 0))), (q4, .inl (y1, 200, .inl (fun _ => 0))), (q5, .inl (y1, 200, .inl (fun _ => 0))), (q6, .inl (y1, 200, .inl (fun _ => 0))), (q7, .inl (y1, 200, .inl (fun _ => 0))), (q8, .inl (y1, 200, .inl (fun _ => 0))), (q9, .inl (y1, 1536, .inl (fun _ => 0))), (q10, .inl (y0, 18, .inl (fun _ => 0))), (q11, .inl (y1, 864, .inl (fun _ => 0))), (q12, .inl (y1, 16, .inl (fun _ => 0)))] H := hP
  have hD : va_D A [(h, .inr (0, [.ref q0, .ref q1, .ref q2, .ref q3, .int (nI 0), .ref q4, .ref q5, .ref q6, .ref q7, .ref q8, .int (nI 0), .int (nI 0), .ref q9, .ref q10, .ref q11, .null])), (q0, .inl (y0, 16, .inl (fun _ => 0))), (q1, .inl (y1, 16, .inl (fun _ => 0))), (q2, .inl (y1, 16, .inl (fun _ => 0))), (q3, .inl (y1, 256, .inl (fun _ => 0))), (q4, .inl (y1, 200, .inl (fun _ => 0))), (q5, .inl (y1, 200, .inl (fun _ => 0))), (q6, .inl (y1, 200, .inl (fun _ => 0))), (q7, .inl (y1, 200, .inl (fun _ => 0))), (q8, .inl (y1, 200, .inl (fun _ => 0))), (q9, .inl (y1, 1536, .inl (fun _ => 0))), (q10, .inl (y0, 18, .inl (fun _ => 0))), (q11, .inl (y1, 864, .inl (fun _ => 0))), (q12, .inl (y1, 16, .inl (fun _ => 0)))] := hD
  refine va_putF (D := D) (ci := 0) (v := .ref q12) (ty := .array .int) (C := RX0) (T := TX0) (N := 16) hx hb hts iX0_init tyX0 tyX0_ok nmX0 hown hK hP hD hS 0 rfl rfl 15 (by decide) (hts (.fieldLink RX0 57 "ShopHub" "prices" "[I") (by decide +kernel)) (fun _ h9 => h9) rfl hin rfl (by decide +kernel) rfl rfl (Nat.le_of_ble_eq_true rfl) dX0_init_128 (fun H locs hP hD hS => ?_)
  have hP : va_P D vwCl [(h, .inr (0, [.ref q0, .ref q1, .ref q2, .ref q3, .int (nI 0), .ref q4, .ref q5, .ref q6, .ref q7, .ref q8, .int (nI 0), .int (nI 0), .ref q9, .ref q10, .ref q11, .ref q12])), (q0, .inl (y0, 16, .inl (fun _ => 0))), (q1, .inl (y1, 16, .inl (fun _ => 0))), (q2, .inl (y1, 16, .inl (fun _ => 0))), (q3, .inl (y1, 256, .inl (fun _ => 0))), (q4, .inl (y1, 200, .inl (fun _ => 0))), (q5, .inl (y1, 200, .inl (fun _ => 0))), (q6, .inl (y1, 200, .inl (fun _ => 0))), (q7, .inl (y1, 200, .inl (fun _ => 0))), (q8, .inl (y1, 200, .inl (fun _ => 0))), (q9, .inl (y1, 1536, .inl (fun _ => 0))), (q10, .inl (y0, 18, .inl (fun _ => 0))), (q11, .inl (y1, 864, .inl (fun _ => 0))), (q12, .inl (y1, 16, .inl (fun _ => 0)))] H := hP
  have hD : va_D A [(h, .inr (0, [.ref q0, .ref q1, .ref q2, .ref q3, .int (nI 0), .ref q4, .ref q5, .ref q6, .ref q7, .ref q8, .int (nI 0), .int (nI 0), .ref q9, .ref q10, .ref q11, .ref q12])), (q0, .inl (y0, 16, .inl (fun _ => 0))), (q1, .inl (y1, 16, .inl (fun _ => 0))), (q2, .inl (y1, 16, .inl (fun _ => 0))), (q3, .inl (y1, 256, .inl (fun _ => 0))), (q4, .inl (y1, 200, .inl (fun _ => 0))), (q5, .inl (y1, 200, .inl (fun _ => 0))), (q6, .inl (y1, 200, .inl (fun _ => 0))), (q7, .inl (y1, 200, .inl (fun _ => 0))), (q8, .inl (y1, 200, .inl (fun _ => 0))), (q9, .inl (y1, 1536, .inl (fun _ => 0))), (q10, .inl (y0, 18, .inl (fun _ => 0))), (q11, .inl (y1, 864, .inl (fun _ => 0))), (q12, .inl (y1, 16, .inl (fun _ => 0)))] := hD
  refine W.widen (k := 13) (n := 3738) (Nat.le_of_ble_eq_true rfl) (Nat.le_of_ble_eq_true rfl) ?_
  obtain ⟨ad, had⟩ : ∃ ad : Nat → Nat, ad = fun k => [q0, q1, q2, q3, 0, q4, q5, q6, q7, q8, 0, 0, q9, q10, q11, q12].getD k 0 := ⟨_, rfl⟩
  have hP : va_P D vwCl (hW h ad y1 y0 (fun _ => false) (fun _ => some 0) (fun _ => 0) (fun _ => 0) 0 (fun _ => 0) (fun _ => 0) (fun _ => some 0) (fun _ => 0) (fun _ => 0) 0 0 (fun _ => some 0) (fun _ => false) (fun _ => some 0) (fun _ => some 0)) H := by subst had; exact hP
  have hD : va_D A (hW h ad y1 y0 (fun _ => false) (fun _ => some 0) (fun _ => 0) (fun _ => 0) 0 (fun _ => 0) (fun _ => 0) (fun _ => some 0) (fun _ => 0) (fun _ => 0) 0 0 (fun _ => some 0) (fun _ => false) (fun _ => some 0) (fun _ => some 0)) := by subst had; exact hD
  have hK : va_K D vwCl (hT y1 y0) s := hK.sub [0, 1] rfl
  refine lv_iconst (v := nI 0) hx hb dX0_init_131 (by decide) ?_
  refine lv_istore_n (lv' := [(1, .int (nI 0)), (0, .ref h)]) hx hb dX0_init_132 rfl hl (by decide) rfl (fun ls hl => ?_)
  have loop133 : ∀ (ni : Nat) (i : Nat), (i ≤ 16) → (17 ≤ i + ni) → ∀ (H : Heap) (locs : List Loc), va_P D vwCl (hW h ad y1 y0 (fun _ => false) (cle (fun _ => some 0) i) (fun _ => 0) (fun _ => 0) 0 (fun _ => 0) (fun _ => 0) (fun _ => some 0) (fun _ => 0) (fun _ => 0) 0 0 (fun _ => some 0) (fun _ => false) (fun _ => some 0) (fun _ => some 0)) H → va_D A (hW h ad y1 y0 (fun _ => false) (cle (fun _ => some 0) i) (fun _ => 0) (fun _ => 0) 0 (fun _ => 0) (fun _ => 0) (fun _ => some 0) (fun _ => 0) (fun _ => 0) 0 0 (fun _ => some 0) (fun _ => false) (fun _ => some 0) (fun _ => some 0)) → va_S A s.heap H locs → ∀ ls : Array Slot, lv_has ls 2 [(0, .ref h), (1, .int (nI i))] → W p l e ({ frames := 1, cells := 13, slots := 3738, locals := 12 } : Room) s m ([.ref h] : List Value).toArray below meth c H locs 13 3738 (MQ below (hQ0 D h) ([.ref h] : List Value).toArray s 13 3738 A) (F0 m 133 ls []) := by
    intro ni
    induction ni with
    | zero => intro i hlei hni; omega
    | succ ni ihi =>
      intro i hlei hni H locs hP hD hS ls hl
      refine lv_iload_n hx hb dX0_init_133 rfl (lv_at hl 1 rfl) ?_
      refine lv_aload_n hx hb dX0_init_134 rfl (lv_at hl 0 rfl) ?_
      refine va_get (D := D) (ci := 0) (v := .ref (ad 1)) (C := RX0) (T := TX0) (N := 16) hx hb hts (iX0_init) hown hK hP 0 rfl rfl 1 (by decide) (hts (.fieldLink RX0 13 "ShopHub" "parents" "[I") (by decide +kernel)) (fun _ h9 => h9) rfl dX0_init_135 ?_
      refine va_alen hx hb hK hP 2 1 rfl rfl (v := nI 16) rfl dX0_init_138 ?_
      refine q_icmpN_ge (a := i) (b := 16) (tgt := 155) (by omega) (by omega) hx hb dX0_init_139 (by decide) (fun k139 => ?_) (fun k139 => ?_)
      · refine lv_iconst (v := nI 0) hx hb dX0_init_155 (by decide) ?_
        refine lv_istore_n (lv' := [(1, .int (nI 0)), (0, .ref h)]) hx hb dX0_init_156 rfl hl (by decide) rfl (fun ls hl => ?_)
        have loop157 : ∀ (nj : Nat) (j : Nat), (j ≤ 1536) → (1537 ≤ j + nj) → ∀ (H : Heap) (locs : List Loc), va_P D vwCl (hW h ad y1 y0 (fun _ => false) (cle (fun _ => some 0) i) (fun _ => 0) (fun _ => 0) 0 (fun _ => 0) (fun _ => 0) (fun _ => some 0) (fun _ => 0) (fun _ => 0) 0 0 (cle (fun _ => some 0) j) (fun _ => false) (fun _ => some 0) (fun _ => some 0)) H → va_D A (hW h ad y1 y0 (fun _ => false) (cle (fun _ => some 0) i) (fun _ => 0) (fun _ => 0) 0 (fun _ => 0) (fun _ => 0) (fun _ => some 0) (fun _ => 0) (fun _ => 0) 0 0 (cle (fun _ => some 0) j) (fun _ => false) (fun _ => some 0) (fun _ => some 0)) → va_S A s.heap H locs → ∀ ls : Array Slot, lv_has ls 2 [(0, .ref h), (1, .int (nI j))] → W p l e ({ frames := 1, cells := 13, slots := 3738, locals := 12 } : Room) s m ([.ref h] : List Value).toArray below meth c H locs 13 3738 (MQ below (hQ0 D h) ([.ref h] : List Value).toArray s 13 3738 A) (F0 m 157 ls []) := by
          intro nj
          induction nj with
          | zero => intro j hlej hnj; omega
          | succ nj ihj =>
            intro j hlej hnj H locs hP hD hS ls hl
            refine lv_iload_n hx hb dX0_init_157 rfl (lv_at hl 1 rfl) ?_
            refine lv_aload_n hx hb dX0_init_158 rfl (lv_at hl 0 rfl) ?_
            refine va_get (D := D) (ci := 0) (v := .ref (ad 12)) (C := RX0) (T := TX0) (N := 16) hx hb hts (iX0_init) hown hK hP 0 rfl rfl 12 (by decide) (hts (.fieldLink RX0 48 "ShopHub" "holders" "[I") (by decide +kernel)) (fun _ h9 => h9) rfl dX0_init_159 ?_
            refine va_alen hx hb hK hP 10 1 rfl rfl (v := nI 1536) rfl dX0_init_162 ?_
            refine q_icmpN_ge (a := j) (b := 1536) (tgt := 179) (by omega) (by omega) hx hb dX0_init_163 (by decide) (fun k163 => ?_) (fun k163 => ?_)
            · refine lv_iconst (v := nI 0) hx hb dX0_init_179 (by decide) ?_
              refine lv_istore_n (lv' := [(1, .int (nI 0)), (0, .ref h)]) hx hb dX0_init_180 rfl hl (by decide) rfl (fun ls hl => ?_)
              have loop181 : ∀ (nk : Nat) (k : Nat), (k ≤ 864) → (865 ≤ k + nk) → ∀ (H : Heap) (locs : List Loc), va_P D vwCl (hW h ad y1 y0 (fun _ => false) (cle (fun _ => some 0) i) (fun _ => 0) (fun _ => 0) 0 (fun _ => 0) (fun _ => 0) (fun _ => some 0) (fun _ => 0) (fun _ => 0) 0 0 (cle (fun _ => some 0) j) (fun _ => false) (cle (fun _ => some 0) k) (fun _ => some 0)) H → va_D A (hW h ad y1 y0 (fun _ => false) (cle (fun _ => some 0) i) (fun _ => 0) (fun _ => 0) 0 (fun _ => 0) (fun _ => 0) (fun _ => some 0) (fun _ => 0) (fun _ => 0) 0 0 (cle (fun _ => some 0) j) (fun _ => false) (cle (fun _ => some 0) k) (fun _ => some 0)) → va_S A s.heap H locs → ∀ ls : Array Slot, lv_has ls 2 [(0, .ref h), (1, .int (nI k))] → W p l e ({ frames := 1, cells := 13, slots := 3738, locals := 12 } : Room) s m ([.ref h] : List Value).toArray below meth c H locs 13 3738 (MQ below (hQ0 D h) ([.ref h] : List Value).toArray s 13 3738 A) (F0 m 181 ls []) := by
                intro nk
                induction nk with
                | zero => intro k hlek hnk; omega
                | succ nk ihk =>
                  intro k hlek hnk H locs hP hD hS ls hl
                  refine lv_iload_n hx hb dX0_init_181 rfl (lv_at hl 1 rfl) ?_
                  refine lv_aload_n hx hb dX0_init_182 rfl (lv_at hl 0 rfl) ?_
                  refine va_get (D := D) (ci := 0) (v := .ref (ad 14)) (C := RX0) (T := TX0) (N := 16) hx hb hts (iX0_init) hown hK hP 0 rfl rfl 14 (by decide) (hts (.fieldLink RX0 54 "ShopHub" "seen" "[I") (by decide +kernel)) (fun _ h9 => h9) rfl dX0_init_183 ?_
                  refine va_alen hx hb hK hP 12 1 rfl rfl (v := nI 864) rfl dX0_init_186 ?_
                  refine q_icmpN_ge (a := k) (b := 864) (tgt := 203) (by omega) (by omega) hx hb dX0_init_187 (by decide) (fun k187 => ?_) (fun k187 => ?_)
                  · have hP : va_P D vwCl (hW h ad y1 y0 (fun _ => false) (cle (fun _ => some 0) 16) (fun _ => 0) (fun _ => 0) 0 (fun _ => 0) (fun _ => 0) (fun _ => some 0) (fun _ => 0) (fun _ => 0) 0 0 (cle (fun _ => some 0) j) (fun _ => false) (cle (fun _ => some 0) k) (fun _ => some 0)) H := by rw [show cle (fun _ => some 0) 16 = cle (fun _ => some 0) i from by rw [show i = 16 by omega]]; exact hP
                    have hD : va_D A (hW h ad y1 y0 (fun _ => false) (cle (fun _ => some 0) 16) (fun _ => 0) (fun _ => 0) 0 (fun _ => 0) (fun _ => 0) (fun _ => some 0) (fun _ => 0) (fun _ => 0) 0 0 (cle (fun _ => some 0) j) (fun _ => false) (cle (fun _ => some 0) k) (fun _ => some 0)) := by rw [show cle (fun _ => some 0) 16 = cle (fun _ => some 0) i from by rw [show i = 16 by omega]]; exact hD
                    have hP : va_P D vwCl (hW h ad y1 y0 (fun _ => false) (cle (fun _ => some 0) 16) (fun _ => 0) (fun _ => 0) 0 (fun _ => 0) (fun _ => 0) (fun _ => some 0) (fun _ => 0) (fun _ => 0) 0 0 (cle (fun _ => some 0) 1536) (fun _ => false) (cle (fun _ => some 0) k) (fun _ => some 0)) H := by rw [show cle (fun _ => some 0) 1536 = cle (fun _ => some 0) j from by rw [show j = 1536 by omega]]; exact hP
                    have hD : va_D A (hW h ad y1 y0 (fun _ => false) (cle (fun _ => some 0) 16) (fun _ => 0) (fun _ => 0) 0 (fun _ => 0) (fun _ => 0) (fun _ => some 0) (fun _ => 0) (fun _ => 0) 0 0 (cle (fun _ => some 0) 1536) (fun _ => false) (cle (fun _ => some 0) k) (fun _ => some 0)) := by rw [show cle (fun _ => some 0) 1536 = cle (fun _ => some 0) j from by rw [show j = 1536 by omega]]; exact hD
                    have hP : va_P D vwCl (hW h ad y1 y0 (fun _ => false) (cle (fun _ => some 0) 16) (fun _ => 0) (fun _ => 0) 0 (fun _ => 0) (fun _ => 0) (fun _ => some 0) (fun _ => 0) (fun _ => 0) 0 0 (cle (fun _ => some 0) 1536) (fun _ => false) (cle (fun _ => some 0) 864) (fun _ => some 0)) H := by rw [show cle (fun _ => some 0) 864 = cle (fun _ => some 0) k from by rw [show k = 864 by omega]]; exact hP
                    have hD : va_D A (hW h ad y1 y0 (fun _ => false) (cle (fun _ => some 0) 16) (fun _ => 0) (fun _ => 0) 0 (fun _ => 0) (fun _ => 0) (fun _ => some 0) (fun _ => 0) (fun _ => 0) 0 0 (cle (fun _ => some 0) 1536) (fun _ => false) (cle (fun _ => some 0) 864) (fun _ => some 0)) := by rw [show cle (fun _ => some 0) 864 = cle (fun _ => some 0) k from by rw [show k = 864 by omega]]; exact hD
                    exact W.vret hx hb hr (fun t ht hW => ⟨rfl, ⟨ad, y1, y0, by rw [ht]; exact hP, va_K.moved hW.alike hK, by rw [hAe]; exact hD⟩, by rw [hAe]; exact hS.F ht⟩) hS.2.2 dX0_init_203 hlocks
                  · refine lv_aload_n hx hb dX0_init_190 rfl (lv_at hl 0 rfl) ?_
                    refine va_get (D := D) (ci := 0) (v := .ref (ad 14)) (C := RX0) (T := TX0) (N := 16) hx hb hts (iX0_init) hown hK hP 0 rfl rfl 14 (by decide) (hts (.fieldLink RX0 54 "ShopHub" "seen" "[I") (by decide +kernel)) (fun _ h9 => h9) rfl dX0_init_191 ?_
                    refine lv_iload_n hx hb dX0_init_194 rfl (lv_at hl 1 rfl) ?_
                    refine lv_iconst (v := oI none) hx hb dX0_init_195 (by decide) ?_
                    refine q_ast oI (cle (fun _ => some 0) k) none hx hb hK hP hD hS 12 1 rfl rfl (k := k) (by omega) (Nat.le_of_ble_eq_true rfl) dX0_init_196 (fun H locs hP hD hS => ?_)
                    have hP : va_P D vwCl (hW h ad y1 y0 (fun _ => false) (cle (fun _ => some 0) i) (fun _ => 0) (fun _ => 0) 0 (fun _ => 0) (fun _ => 0) (fun _ => some 0) (fun _ => 0) (fun _ => 0) 0 0 (cle (fun _ => some 0) j) (fun _ => false) (va_up (cle (fun _ => some 0) k) k none) (fun _ => some 0)) H := hP
                    have hD : va_D A (hW h ad y1 y0 (fun _ => false) (cle (fun _ => some 0) i) (fun _ => 0) (fun _ => 0) 0 (fun _ => 0) (fun _ => 0) (fun _ => some 0) (fun _ => 0) (fun _ => 0) 0 0 (cle (fun _ => some 0) j) (fun _ => false) (va_up (cle (fun _ => some 0) k) k none) (fun _ => some 0)) := hD
                    refine lv_iinc (v := nI (k + 1)) (lv' := [(1, .int (nI (k + 1))), (0, .ref h)]) hx hb dX0_init_197 hl (k := 1) rfl (i1_n k) (by decide) rfl (fun ls hl => ?_)
                    refine lv_goto (tgt := 181) hx hb dX0_init_200 (by decide) ?_
                    have hP : va_P D vwCl (hW h ad y1 y0 (fun _ => false) (cle (fun _ => some 0) i) (fun _ => 0) (fun _ => 0) 0 (fun _ => 0) (fun _ => 0) (fun _ => some 0) (fun _ => 0) (fun _ => 0) 0 0 (cle (fun _ => some 0) j) (fun _ => false) (cle (fun _ => some 0) (k + 1)) (fun _ => some 0)) H := by rw [show cle (fun _ => some 0) (k + 1) = va_up (cle (fun _ => some 0) k) k none from cle_s (fun _ => some 0) k]; exact hP
                    have hD : va_D A (hW h ad y1 y0 (fun _ => false) (cle (fun _ => some 0) i) (fun _ => 0) (fun _ => 0) 0 (fun _ => 0) (fun _ => 0) (fun _ => some 0) (fun _ => 0) (fun _ => 0) 0 0 (cle (fun _ => some 0) j) (fun _ => false) (cle (fun _ => some 0) (k + 1)) (fun _ => some 0)) := by rw [show cle (fun _ => some 0) (k + 1) = va_up (cle (fun _ => some 0) k) k none from cle_s (fun _ => some 0) k]; exact hD
                    exact ihk (k + 1) (by omega) (by omega) _ _ hP hD hS _ (lv_sub hl [1, 0] rfl)
              have hP : va_P D vwCl (hW h ad y1 y0 (fun _ => false) (cle (fun _ => some 0) i) (fun _ => 0) (fun _ => 0) 0 (fun _ => 0) (fun _ => 0) (fun _ => some 0) (fun _ => 0) (fun _ => 0) 0 0 (cle (fun _ => some 0) j) (fun _ => false) (cle (fun _ => some 0) 0) (fun _ => some 0)) H := by rw [show cle (fun _ => some 0) 0 = (fun _ => some 0) from rfl]; exact hP
              have hD : va_D A (hW h ad y1 y0 (fun _ => false) (cle (fun _ => some 0) i) (fun _ => 0) (fun _ => 0) 0 (fun _ => 0) (fun _ => 0) (fun _ => some 0) (fun _ => 0) (fun _ => 0) 0 0 (cle (fun _ => some 0) j) (fun _ => false) (cle (fun _ => some 0) 0) (fun _ => some 0)) := by rw [show cle (fun _ => some 0) 0 = (fun _ => some 0) from rfl]; exact hD
              exact loop181 865 0 (by omega) (Nat.le_refl 865) _ _ hP hD hS _ (lv_sub hl [1, 0] rfl)
            · refine lv_aload_n hx hb dX0_init_166 rfl (lv_at hl 0 rfl) ?_
              refine va_get (D := D) (ci := 0) (v := .ref (ad 12)) (C := RX0) (T := TX0) (N := 16) hx hb hts (iX0_init) hown hK hP 0 rfl rfl 12 (by decide) (hts (.fieldLink RX0 48 "ShopHub" "holders" "[I") (by decide +kernel)) (fun _ h9 => h9) rfl dX0_init_167 ?_
              refine lv_iload_n hx hb dX0_init_170 rfl (lv_at hl 1 rfl) ?_
              refine lv_iconst (v := oI none) hx hb dX0_init_171 (by decide) ?_
              refine q_ast oI (cle (fun _ => some 0) j) none hx hb hK hP hD hS 10 1 rfl rfl (k := j) (by omega) (Nat.le_of_ble_eq_true rfl) dX0_init_172 (fun H locs hP hD hS => ?_)
              have hP : va_P D vwCl (hW h ad y1 y0 (fun _ => false) (cle (fun _ => some 0) i) (fun _ => 0) (fun _ => 0) 0 (fun _ => 0) (fun _ => 0) (fun _ => some 0) (fun _ => 0) (fun _ => 0) 0 0 (va_up (cle (fun _ => some 0) j) j none) (fun _ => false) (fun _ => some 0) (fun _ => some 0)) H := hP
              have hD : va_D A (hW h ad y1 y0 (fun _ => false) (cle (fun _ => some 0) i) (fun _ => 0) (fun _ => 0) 0 (fun _ => 0) (fun _ => 0) (fun _ => some 0) (fun _ => 0) (fun _ => 0) 0 0 (va_up (cle (fun _ => some 0) j) j none) (fun _ => false) (fun _ => some 0) (fun _ => some 0)) := hD
              refine lv_iinc (v := nI (j + 1)) (lv' := [(1, .int (nI (j + 1))), (0, .ref h)]) hx hb dX0_init_173 hl (k := 1) rfl (i1_n j) (by decide) rfl (fun ls hl => ?_)
              refine lv_goto (tgt := 157) hx hb dX0_init_176 (by decide) ?_
              have hP : va_P D vwCl (hW h ad y1 y0 (fun _ => false) (cle (fun _ => some 0) i) (fun _ => 0) (fun _ => 0) 0 (fun _ => 0) (fun _ => 0) (fun _ => some 0) (fun _ => 0) (fun _ => 0) 0 0 (cle (fun _ => some 0) (j + 1)) (fun _ => false) (fun _ => some 0) (fun _ => some 0)) H := by rw [show cle (fun _ => some 0) (j + 1) = va_up (cle (fun _ => some 0) j) j none from cle_s (fun _ => some 0) j]; exact hP
              have hD : va_D A (hW h ad y1 y0 (fun _ => false) (cle (fun _ => some 0) i) (fun _ => 0) (fun _ => 0) 0 (fun _ => 0) (fun _ => 0) (fun _ => some 0) (fun _ => 0) (fun _ => 0) 0 0 (cle (fun _ => some 0) (j + 1)) (fun _ => false) (fun _ => some 0) (fun _ => some 0)) := by rw [show cle (fun _ => some 0) (j + 1) = va_up (cle (fun _ => some 0) j) j none from cle_s (fun _ => some 0) j]; exact hD
              exact ihj (j + 1) (by omega) (by omega) _ _ hP hD hS _ (lv_sub hl [1, 0] rfl)
        have hP : va_P D vwCl (hW h ad y1 y0 (fun _ => false) (cle (fun _ => some 0) i) (fun _ => 0) (fun _ => 0) 0 (fun _ => 0) (fun _ => 0) (fun _ => some 0) (fun _ => 0) (fun _ => 0) 0 0 (cle (fun _ => some 0) 0) (fun _ => false) (fun _ => some 0) (fun _ => some 0)) H := by rw [show cle (fun _ => some 0) 0 = (fun _ => some 0) from rfl]; exact hP
        have hD : va_D A (hW h ad y1 y0 (fun _ => false) (cle (fun _ => some 0) i) (fun _ => 0) (fun _ => 0) 0 (fun _ => 0) (fun _ => 0) (fun _ => some 0) (fun _ => 0) (fun _ => 0) 0 0 (cle (fun _ => some 0) 0) (fun _ => false) (fun _ => some 0) (fun _ => some 0)) := by rw [show cle (fun _ => some 0) 0 = (fun _ => some 0) from rfl]; exact hD
        exact loop157 1537 0 (by omega) (Nat.le_refl 1537) _ _ hP hD hS _ (lv_sub hl [1, 0] rfl)
      · refine lv_aload_n hx hb dX0_init_142 rfl (lv_at hl 0 rfl) ?_
        refine va_get (D := D) (ci := 0) (v := .ref (ad 1)) (C := RX0) (T := TX0) (N := 16) hx hb hts (iX0_init) hown hK hP 0 rfl rfl 1 (by decide) (hts (.fieldLink RX0 13 "ShopHub" "parents" "[I") (by decide +kernel)) (fun _ h9 => h9) rfl dX0_init_143 ?_
        refine lv_iload_n hx hb dX0_init_146 rfl (lv_at hl 1 rfl) ?_
        refine lv_iconst (v := oI none) hx hb dX0_init_147 (by decide) ?_
        refine q_ast oI (cle (fun _ => some 0) i) none hx hb hK hP hD hS 2 1 rfl rfl (k := i) (by omega) (Nat.le_of_ble_eq_true rfl) dX0_init_148 (fun H locs hP hD hS => ?_)
        have hP : va_P D vwCl (hW h ad y1 y0 (fun _ => false) (va_up (cle (fun _ => some 0) i) i none) (fun _ => 0) (fun _ => 0) 0 (fun _ => 0) (fun _ => 0) (fun _ => some 0) (fun _ => 0) (fun _ => 0) 0 0 (fun _ => some 0) (fun _ => false) (fun _ => some 0) (fun _ => some 0)) H := hP
        have hD : va_D A (hW h ad y1 y0 (fun _ => false) (va_up (cle (fun _ => some 0) i) i none) (fun _ => 0) (fun _ => 0) 0 (fun _ => 0) (fun _ => 0) (fun _ => some 0) (fun _ => 0) (fun _ => 0) 0 0 (fun _ => some 0) (fun _ => false) (fun _ => some 0) (fun _ => some 0)) := hD
        refine lv_iinc (v := nI (i + 1)) (lv' := [(1, .int (nI (i + 1))), (0, .ref h)]) hx hb dX0_init_149 hl (k := 1) rfl (i1_n i) (by decide) rfl (fun ls hl => ?_)
        refine lv_goto (tgt := 133) hx hb dX0_init_152 (by decide) ?_
        have hP : va_P D vwCl (hW h ad y1 y0 (fun _ => false) (cle (fun _ => some 0) (i + 1)) (fun _ => 0) (fun _ => 0) 0 (fun _ => 0) (fun _ => 0) (fun _ => some 0) (fun _ => 0) (fun _ => 0) 0 0 (fun _ => some 0) (fun _ => false) (fun _ => some 0) (fun _ => some 0)) H := by rw [show cle (fun _ => some 0) (i + 1) = va_up (cle (fun _ => some 0) i) i none from cle_s (fun _ => some 0) i]; exact hP
        have hD : va_D A (hW h ad y1 y0 (fun _ => false) (cle (fun _ => some 0) (i + 1)) (fun _ => 0) (fun _ => 0) 0 (fun _ => 0) (fun _ => 0) (fun _ => some 0) (fun _ => 0) (fun _ => 0) 0 0 (fun _ => some 0) (fun _ => false) (fun _ => some 0) (fun _ => some 0)) := by rw [show cle (fun _ => some 0) (i + 1) = va_up (cle (fun _ => some 0) i) i none from cle_s (fun _ => some 0) i]; exact hD
        exact ihi (i + 1) (by omega) (by omega) _ _ hP hD hS _ (lv_sub hl [1, 0] rfl)
  have hP : va_P D vwCl (hW h ad y1 y0 (fun _ => false) (cle (fun _ => some 0) 0) (fun _ => 0) (fun _ => 0) 0 (fun _ => 0) (fun _ => 0) (fun _ => some 0) (fun _ => 0) (fun _ => 0) 0 0 (fun _ => some 0) (fun _ => false) (fun _ => some 0) (fun _ => some 0)) H := by rw [show cle (fun _ => some 0) 0 = (fun _ => some 0) from rfl]; exact hP
  have hD : va_D A (hW h ad y1 y0 (fun _ => false) (cle (fun _ => some 0) 0) (fun _ => 0) (fun _ => 0) 0 (fun _ => 0) (fun _ => 0) (fun _ => some 0) (fun _ => 0) (fun _ => 0) 0 0 (fun _ => some 0) (fun _ => false) (fun _ => some 0) (fun _ => some 0)) := by rw [show cle (fun _ => some 0) 0 = (fun _ => some 0) from rfl]; exact hD
  exact loop133 17 0 (by omega) (Nat.le_refl 17) _ _ hP hD hS _ (lv_sub hl [1, 0] rfl)
end
section
/-! methods with a table of their own: the law's helpers -/
theorem mt_ofWH {l : Launch} {y : MethodName} {ws ws' : List Cond} {rm : Room} {Pc : Array Value → State → Prop} {Qc : Array Value → State → Outcome → State → Prop} {mc ms : Nat} {free : Addr → Prop} {cc : ByteArray} {maxL : Nat} {ret : Option FieldType} {hh : List (Nat × Nat × Nat × Nat)}
    (hy : plainName y.cls = true) (hw : ws = Cond.codeWith y cc maxL ret hh :: ws')
    (body : ∀ p e s m args below meth c s₁, BodyLoose p l y (headSpec ws rm) cc maxL ret e s m args below meth c s₁ → c.maxLocals = maxL → c.exceptionTable.toList.map (fun h => (h.startPc, h.endPc, h.handlerPc, h.catchType)) = hh → Pc args s →
      W p l e (headSpec ws rm).room s m args below meth c s.heap [] 0 0 (MQ below Qc args s mc ms free) (entryFrame m args maxL)) : Met l y ws rm Pc Qc mc ms free := by
  refine MetFree.of_bodyS (code := cc) (maxLocals := maxL) (ret := ret) hy ?_ ?_
  · intro args s m h hn
    obtain ⟨m9, meth, c, hn9, h1, h2, h3, h4, -, h5, h6, -⟩ := Cond.codeWith_spec (atoms_spec (ws := ws) h _ (by rw [hw]; exact List.mem_cons_self))
    cases hn.symm.trans hn9
    exact ⟨meth, c, h1, h2, h3, h4, h5, h6⟩
  · intro p e s m args below meth c s₁ B hml hP _
    have hh0 : s₁.heap = s.heap := by rw [B.state]; rfl
    have htab : c.exceptionTable.toList.map (fun h => (h.startPc, h.endPc, h.handlerPc, h.catchType)) = hh := by
      obtain ⟨m9, meth9, c9, hn9, h1, h2, h3, h4, h5, -⟩ := Cond.codeWith_spec (atoms_spec (ws := ws) B.pre _ (by rw [hw]; exact List.mem_cons_self))
      cases Option.some.inj (hn9.symm.trans B.named)
      cases Option.some.inj (h1.symm.trans B.method)
      have h9 := (Stand.of_body B).code
      first
        | (cases Option.some.inj (h2.symm.trans h9); exact h5)
        | (rw [State.code?_eq, B.method] at h9; cases Option.some.inj (h2.symm.trans h9); exact h5)
    obtain ⟨t, a1, o, b1, b2, b3⟩ := body p e s m args below meth c s₁ B hml htab hP s₁ hh0 (Stand.of_body B)
    exact ⟨t, o, a1, b1, b2, b3⟩
/-- the rows of a table, out of their numbers -/
theorem tab_1 {l : List ExceptionTableEntry} {a b c d : Nat} (h : l.map (fun h => (h.startPc, h.endPc, h.handlerPc, h.catchType)) = [(a, b, c, d)]) : l = [⟨a, b, c, d⟩] := by
  match l, h with
  | [x], h =>
    obtain ⟨x1, x2, x3, x4⟩ := x
    simp only [List.map_cons, List.map_nil, List.cons.injEq, Prod.mk.injEq, and_true] at h
    obtain ⟨rfl, rfl, rfl, rfl⟩ := h
    rfl
theorem tab_c {l : List ExceptionTableEntry} {r : List (Nat × Nat × Nat × Nat)} {a b c d : Nat} (h : l.map (fun h => (h.startPc, h.endPc, h.handlerPc, h.catchType)) = (a, b, c, d) :: r) : ∃ l2, l = ⟨a, b, c, d⟩ :: l2 ∧ l2.map (fun h => (h.startPc, h.endPc, h.handlerPc, h.catchType)) = r := by
  match l, h with
  | x :: l2, h =>
    obtain ⟨x1, x2, x3, x4⟩ := x
    simp only [List.map_cons, List.cons.injEq, Prod.mk.injEq] at h
    obtain ⟨⟨rfl, rfl, rfl, rfl⟩, h2⟩ := h
    exact ⟨l2, rfl, h2⟩
/-- a world and what stands beside it -/
theorem va_Pl {D : va_G} {cl : List vw_C} {wa wb : va_W} {H : Heap} (h : va_P D cl (wa ++ wb) H) : va_P D cl wa H := fun k q hk => h k q (by
  have hlt : k < wa.length := (List.getElem?_eq_some_iff.mp hk).1
  rw [List.getElem?_append_left hlt]; exact hk)
theorem va_Pr {D : va_G} {cl : List vw_C} {wa wb : va_W} {H : Heap} (h : va_P D cl (wa ++ wb) H) : va_P D cl wb H := fun k q hk => h (wa.length + k) q (by
  rw [List.getElem?_append_right (Nat.le_add_right _ _), Nat.add_sub_cancel_left]; exact hk)
theorem va_Dl {A : Nat → Prop} {wa wb : va_W} (h : va_D A (wa ++ wb)) : va_D A wa := by
  have e : ∀ (k : Nat) (q : Nat × va_E), wa[k]? = some q → (wa ++ wb)[k]? = some q := fun k q hk => by
    have hlt : k < wa.length := (List.getElem?_eq_some_iff.mp hk).1
    rw [List.getElem?_append_left hlt]; exact hk
  exact ⟨fun i j x y hx hy hxy => h.1 i j x y (e i x hx) (e j y hy) hxy, fun k q hk => h.2 k q (e k q hk)⟩
theorem va_Dr {A : Nat → Prop} {wa wb : va_W} (h : va_D A (wa ++ wb)) : va_D A wb := by
  have e : ∀ (k : Nat) (q : Nat × va_E), wb[k]? = some q → (wa ++ wb)[wa.length + k]? = some q := fun k q hk => by
    rw [List.getElem?_append_right (Nat.le_add_right _ _), Nat.add_sub_cancel_left]; exact hk
  exact ⟨fun i j x y hx hy hxy => by have := h.1 _ _ x y (e i x hx) (e j y hy) hxy; omega, fun k q hk => h.2 _ q (e k q hk)⟩
theorem va_Dx {A : Nat → Prop} {wa wb : va_W} (h : va_D A (wa ++ wb)) {i j : Nat} {x y : Nat × va_E} (hx : wa[i]? = some x) (hy : wb[j]? = some y) : x.1 ≠ y.1 := fun e => by
  have h1 : (wa ++ wb)[i]? = some x := by
    rw [List.getElem?_append_left (List.getElem?_eq_some_iff.mp hx).1]; exact hx
  have h2 : (wa ++ wb)[wa.length + j]? = some y := by
    rw [List.getElem?_append_right (Nat.le_add_right _ _), Nat.add_sub_cancel_left]; exact hy
  have h3 := h.1 _ _ x y h1 h2 e
  have h4 := (List.getElem?_eq_some_iff.mp hx).1
  omega
theorem va_Pk {D : va_G} {cl : List vw_C} {wa wb : va_W} {H H1 : Heap} {A : Nat → Prop} (hP : va_P D cl wb H) (hx : ∀ (j : Nat) (y : Nat × va_E), wb[j]? = some y → ∀ (i : Nat) (x : Nat × va_E), wa[i]? = some x → x.1 ≠ y.1) (hk : ∀ q : Nat, q < H.size → ¬ va_A wa H.size q → H1[q]? = H[q]?) : va_P D cl wb H1 := hP.kept (fun k q hq => hk q.1 (hP k q hq).lt (fun z => by
  rcases z with ⟨i, e0, hi⟩ | z
  · exact hx k q hq i (q.1, e0) hi rfl
  · have := (hP k q hq).lt
    omega))
section HB3
variable {p : Program} {l : Launch} {e : Env} {R : Room} {s : State} {m : MethodId} {args : Array Value} {below : List Frame} {meth : Method} {c : Code} {H H0 : Heap} {locs : List Loc} {cells slots : Nat} {Q : State → Prop} {cc : ByteArray} {pc : Nat} {ls : Array Slot} {rest st0 : List Value} {D : va_G} {cl : List vw_C} {tys : List (ClassId × FieldType)} {ws : va_W} {a : Nat} {A : Nat → Prop}
/-- it has returned v; n cells more at least, no old one changed -/
def rQ (v : Value) (n : Nat) : Array Value → State → Outcome → State → Prop := fun _ st o t => o = .returned (some v) ∧ st.heap.size + n ≤ t.heap.size ∧ ∀ q : Nat, q < st.heap.size → t.heap[q]? = st.heap[q]?
/-- a call that throws, caught here: the heap is larger -/
theorem q_catchS {E0 : String} {av : Array Value} (hr : vx_Run p l e R s m args below meth c s.heap [] 0 0 1 6 (F0 m pc ls st0) rest (nQ av) (tX E0) nF)
    (kx : ∀ (H1 : Heap) (ce : Cell) (q9 : Addr), s.heap.size < H1.size → (∀ q : Nat, q < s.heap.size → H1[q]? = s.heap[q]?) → H1[q9]? = some ce → ce.vm = .none → s.vm.findClass E0 = some ce.cls → vx_W p l e R s m args below meth c H1 [] 1 6 Q (F0 m pc ls rest) q9) : W p l e R s m args below meth c s.heap [] 0 0 Q (F0 m pc ls st0) := by
  intro T hT X
  rcases hr T hT X with ⟨v, st₀, t, T', L, h0, X', hL, e1, e2, hq, st⟩ | ⟨q, st₀, t, T', L, E, ce, h0, X', hL, e1, e2, hXC, hce, hcv, hcl, st⟩
  · exact hq.elim
  · have hL0 : L = [] := by
      cases L with
      | nil => rfl
      | cons z r => exact absurd (hL z List.mem_cons_self) (fun q => q)
    subst hL0
    obtain ⟨rfl, g2, g3⟩ := hXC
    rw [h0] at g2 g3
    rw [← e1] at hce g2 g3
    obtain ⟨t2, a1, b1⟩ := kx T'.heap ce q g2 g3 hce hcv hcl T' rfl X'
    exact ⟨t2, st.trans a1, b1⟩
theorem q_rret {v : Int32} (hx : p.tables.exec = Jvm.exec) (hb : c.code = cc) (hr : meth.sig.returnType = some .int) (hlocks : meth.locks = false) (h1 : s.heap.size < H.size) (h2 : ∀ q : Nat, q < s.heap.size → H[q]? = s.heap[q]?) (hdg : decode cc pc = .ok (.ireturn, 1)) :
    W p l e R s m args below meth c H [] 1 6 (MQ below (rQ (.int v) 1) args s 1 6 nF) (F0 m pc ls [.int v]) :=
  W.iret (v := v) hx hb hr (fun t ht hW => ⟨rfl, by rw [ht]; exact h1, fun q hq => by rw [ht]; exact h2 q hq⟩) (fun z hz => by cases hz) hdg hlocks
/-- the end of one that asks many, and answers true -/
theorem q_rretZ {n k : Nat} (hx : p.tables.exec = Jvm.exec) (hb : c.code = cc) (hr : meth.sig.returnType = some .boolean) (hlocks : meth.locks = false) (hz : s.heap.size + k ≤ H.size) (hk : n ≤ k) (hS : va_S nF s.heap H []) (hdg : decode cc pc = .ok (.ireturn, 1)) {mc ms : Nat} (hc : cells ≤ mc) (hs : slots ≤ ms) :
    W p l e R s m args below meth c H [] cells slots (MQ below (rQ (.int (bI true)) n) args s mc ms nF) (F0 m pc ls [.int (bI true)]) :=
  W.widen hc hs (W.zret (v := bI true) (ty := .boolean) hx hb hr (nar_bI true) (fun t ht hW => ⟨rfl, by rw [ht]; omega, fun q hq => by rw [ht]; exact hS.2.1 q hq (fun h => h)⟩) (fun z hz => by cases hz) hdg hlocks)
/-- a call of one that has made n cells more at least -/
theorem q_rcall {n k z mc ms : Nat} {v : Value} {av : Array Value} (hr : va_Run p l e R s m args below meth c H locs cells slots mc ms (F0 m pc ls st0) rest (rQ v n av) nF) (hP : va_P D vwCl ws H) (hS : va_S A H0 H locs) (hz : z + k ≤ H.size)
    (kk : ∀ H1 : Heap, va_P D vwCl ws H1 → va_S A H0 H1 locs → z + (k + n) ≤ H1.size → W p l e R s m args below meth c H1 locs (cells + mc) (slots + ms) Q (F0 m (pc + 3) ls (v :: rest))) : W p l e R s m args below meth c H locs cells slots Q (F0 m pc ls st0) := by
  intro T hT X
  obtain ⟨v', st₀, t, T', L, h0, X', hL, e1, e2, ⟨hv, hz2, hk⟩, st⟩ := hr T hT X
  cases hv
  have hL0 : L = [] := by
    cases L with
    | nil => rfl
    | cons z r => exact absurd (hL z List.mem_cons_self) (fun q => q)
  subst hL0
  rw [h0] at hz2 hk
  rw [List.append_nil] at X'
  obtain ⟨t2, a1, b1⟩ := kk T'.heap (hP.kept (fun k q hq => by rw [e1]; exact hk q.1 (hP k q hq).lt)) ⟨Nat.le_trans hS.1 (by rw [e1]; omega), fun q h1 h2 => by rw [e1, hk q (Nat.lt_of_lt_of_le h1 hS.1)]; exact hS.2.1 q h1 h2, hS.2.2⟩ (by rw [e1]; omega) T' rfl X'
  exact ⟨t2, st t2 a1, b1⟩
end HB3
/-- which of the three can't be cast to which -/
def nE (U : State) : Prop := va_Nc "java/lang/IllegalStateException" "java/lang/IndexOutOfBoundsException" U ∧ va_Nc "java/lang/IllegalArgumentException" "java/lang/IndexOutOfBoundsException" U ∧ va_Nc "java/lang/IllegalStateException" "java/lang/IllegalArgumentException" U
def tN (D : va_G) (w : va_W) (ty : List (ClassId × FieldType)) (av : List Value) : Array Value → State → Prop := va_Pc av (fun U => va_P D vwCl w U.heap ∧ va_K D vwCl ty U ∧ tE U ∧ nE U)
theorem tN_blind {D : va_G} {w : va_W} {ty : List (ClassId × FieldType)} {av : List Value} : FrameBlind (tN D w ty av) := fun a U g mk q => by
  obtain ⟨q0, qP, qK, qE, q1, q2, q3⟩ := q
  exact ⟨q0, qP, va_K.moved (u := U) (U := U.calling g mk a) (Vm.Alike.refl U.vm) qK, tE_calling qE, va_Nc.moved (u := U) (U := U.calling g mk a) (Vm.Alike.refl U.vm) q1, va_Nc.moved (u := U) (U := U.calling g mk a) (Vm.Alike.refl U.vm) q2, va_Nc.moved (u := U) (U := U.calling g mk a) (Vm.Alike.refl U.vm) q3⟩
/-! what a throw needs, beside cells that may change; calls with cells of their own -/
def tEA (A : Nat → Prop) (U : State) (H : Heap) : Prop := vx_Zq Bundle.tN "UNASSIGNED_STACK" Bundle.steD A U H ∧ vx_Zq Bundle.tN "SUPPRESSED_SENTINEL" Bundle.listD A U H ∧ (∀ q ∈ hbS, ∃ a, vk_R RX0 q.1 q.2 a U) ∧ (∀ E ∈ exN, va_Nw (.castable E E) U) ∧ ∀ Y ∈ dcN, va_Nw (.declares (Bundle.initS Y)) U
theorem tEA_at {A : Nat → Prop} {s : State} {H : Heap} {locs : List Loc} (h : tEA A s s.heap) (hS : va_S A s.heap H locs) : tEA A s H := ⟨h.1.kept hS.2.1, h.2.1.kept hS.2.1, h.2.2⟩
theorem tEA_na {A B : Nat → Prop} {U : State} {H : Heap} (h : tEA A U H) (hAB : ∀ q, B q → A q) : tEA B U H := ⟨h.1.narrow hAB, h.2.1.narrow hAB, h.2.2⟩
theorem tEA_warm {A : Nat → Prop} {s U : State} {H : Heap} (hW : s.WarmedH U.vm) (hH : U.heap = H) (h : tEA A s H) : tEA A U U.heap :=
  ⟨by rw [hH]; exact vx_Zq.moved hW.alike h.1, by rw [hH]; exact vx_Zq.moved hW.alike h.2.1, fun q hq => (h.2.2.1 q hq).elim (fun a h9 => ⟨a, vk_R.warm hW h9⟩), fun E hE => va_Nw.warmC hW (h.2.2.2.1 E hE), fun Y hY => va_Nw.warmD hW (h.2.2.2.2 Y hY)⟩
theorem tEA_calling {A : Nat → Prop} {a : Array Value} {U : State} {g : JFrame} {mk : MethodId} (h : tEA A U U.heap) : tEA A (U.calling g mk a) (U.calling g mk a).heap :=
  ⟨vx_Zq.moved (u := U) (U := U.calling g mk a) (Vm.Alike.refl U.vm) h.1, vx_Zq.moved (u := U) (U := U.calling g mk a) (Vm.Alike.refl U.vm) h.2.1, fun q hq => (h.2.2.1 q hq).elim (fun a h9 => ⟨a, vk_R.same (u := U) rfl h9⟩), fun E hE => va_Nw.same rfl (u := U) rfl (h.2.2.2.1 E hE), fun Y hY => va_Nw.same rfl (u := U) rfl (h.2.2.2.2 Y hY)⟩
theorem nE_warm {s U : State} (hW : s.WarmedH U.vm) (h : nE s) : nE U := ⟨va_Nc.moved hW.alike h.1, va_Nc.moved hW.alike h.2.1, va_Nc.moved hW.alike h.2.2⟩
theorem tN_pre {D : va_G} {w : va_W} {ty : List (ClassId × FieldType)} {av : List Value} {s : State} {H : Heap} {A : Nat → Prop} (hP : va_P D vwCl w H) (hK : va_K D vwCl ty s) (hE : tEA A s H) (hN : nE s) : ∀ U : State, U.heap = H → s.WarmedH U.vm → tN D w ty av av.toArray U :=
  fun U hU hW => ⟨rfl, by rw [hU]; exact hP, va_K.moved hW.alike hK, tEA_warm (A := nF) hW hU (tEA_na hE (fun q h => h.elim)), nE_warm hW hN⟩
theorem va_Psw {D : va_G} {cl : List vw_C} {wa wb : va_W} {H : Heap} (h : va_P D cl (wa ++ wb) H) : va_P D cl (wb ++ wa) H := va_P.app (va_Pr h) (va_Pl h)
theorem va_Dsw {A : Nat → Prop} {wa wb : va_W} (h : va_D A (wa ++ wb)) : va_D A (wb ++ wa) := by
  have hl := va_Dl h
  have hr := va_Dr h
  refine ⟨fun i j x y hx hy hxy => ?_, fun k q hk => ?_⟩
  · rw [List.getElem?_append] at hx hy
    by_cases ci : i < wb.length
    · rw [if_pos ci] at hx
      by_cases cj : j < wb.length
      · rw [if_pos cj] at hy; exact hr.1 i j x y hx hy hxy
      · rw [if_neg cj] at hy; exact absurd hxy.symm (va_Dx h hy hx)
    · rw [if_neg ci] at hx
      by_cases cj : j < wb.length
      · rw [if_pos cj] at hy; exact absurd hxy (va_Dx h hx hy)
      · rw [if_neg cj] at hy
        have := hl.1 _ _ x y hx hy hxy
        omega
  · rw [List.getElem?_append] at hk
    by_cases ck : k < wb.length
    · rw [if_pos ck] at hk; exact hr.2 k q hk
    · rw [if_neg ck] at hk; exact hl.2 _ q hk
/-- cells of a part of the world came after the start -/
theorem lq_sub {s : State} {w : va_W} {H : Heap} {locs : List Loc} (hD : va_D (fun q : Nat => s.heap.size ≤ q) w) (hS : va_S (fun q : Nat => s.heap.size ≤ q) s.heap H locs) : ∀ q, va_A w H.size q → (fun q : Nat => s.heap.size ≤ q) q := by
  intro q h
  rcases h with ⟨k, e0, h⟩ | h
  · exact hD.2 k (q, e0) h
  · exact Nat.le_trans hS.1 h
theorem va_Dj {D : va_G} {cl : List vw_C} {A : Nat → Prop} {wa wb w1 : va_W} {H : Heap} (hP : va_P D cl (wa ++ wb) H) (hD : va_D A (wa ++ wb)) (hA : ∀ q, va_A wa H.size q → A q) (hD1 : va_D (va_A wa H.size) w1) : va_D A (w1 ++ wb) := by
  have hr := va_Dr hD
  have hPr := va_Pr hP
  have hx : ∀ (i j : Nat) (x y : Nat × va_E), w1[i]? = some x → wb[j]? = some y → x.1 ≠ y.1 := fun i j x y hx hy he => by
    rcases hD1.2 i x hx with ⟨k, e0, hk⟩ | hk
    · exact va_Dx hD hk hy he
    · have := (hPr j y hy).lt
      omega
  refine ⟨fun i j x y hx1 hy1 hxy => ?_, fun k q hk => ?_⟩
  · rw [List.getElem?_append] at hx1 hy1
    by_cases ci : i < w1.length
    · rw [if_pos ci] at hx1
      by_cases cj : j < w1.length
      · rw [if_pos cj] at hy1; exact hD1.1 i j x y hx1 hy1 hxy
      · rw [if_neg cj] at hy1; exact absurd hxy (hx _ _ x y hx1 hy1)
    · rw [if_neg ci] at hx1
      by_cases cj : j < w1.length
      · rw [if_pos cj] at hy1; exact absurd hxy.symm (hx _ _ y x hy1 hx1)
      · rw [if_neg cj] at hy1
        have := hr.1 _ _ x y hx1 hy1 hxy
        omega
  · rw [List.getElem?_append] at hk
    by_cases ck : k < w1.length
    · rw [if_pos ck] at hk; exact hA _ (hD1.2 k q hk)
    · rw [if_neg ck] at hk; exact hr.2 _ q hk
section HB5
variable {p : Program} {l : Launch} {e : Env} {R : Room} {s : State} {m : MethodId} {args : Array Value} {below : List Frame} {meth : Method} {c : Code} {H H0 : Heap} {locs : List Loc} {cells slots : Nat} {Q : State → Prop} {cc : ByteArray} {pc : Nat} {ls : Array Slot} {rest st0 : List Value} {D : va_G} {A : Nat → Prop}
/-- a call of a constructor, its object's world being a part of the caller's -/
theorem q_newc {mc ms : Nat} {wa wb : va_W} {B : State → State → Prop} (hr : va_Run p l e R s m args below meth c H locs cells slots mc ms (F0 m pc ls st0) rest (fun st o t => o = .returned none ∧ B st t ∧ va_F (va_A wa st.heap.size) st t) (va_A wa H.size)) (hP : va_P D vwCl (wa ++ wb) H) (hD : va_D A (wa ++ wb)) (hS : va_S A H0 H locs) (hA : ∀ q : Nat, H0.size ≤ q → A q)
    (kk : ∀ (st t : State) (H1 : Heap) (locs1 : List Loc), st.heap = H → t.heap = H1 → s.vm.Alike t.vm → B st t → va_P D vwCl wb H1 → va_S A H0 H1 locs1 → W p l e R s m args below meth c H1 locs1 (cells + mc) (slots + ms) Q (F0 m (pc + 3) ls rest)) : W p l e R s m args below meth c H locs cells slots Q (F0 m pc ls st0) := by
  have hF : ∀ q, va_A wa H.size q → A q := by
    intro q h
    rcases h with ⟨k, e0, h⟩ | h
    · exact (va_Dl hD).2 k (q, e0) h
    · exact hA q (Nat.le_trans hS.1 h)
  intro T hT X
  obtain ⟨v', st₀, t, T', L, h0, X', hL, e1, e2, ⟨hv, hB, hz, hk⟩, st⟩ := hr T hT X
  cases hv
  rw [h0] at hz hk
  have hPb : va_P D vwCl wb T'.heap := va_Pk (A := A) (wa := wa) (va_Pr hP) (fun j y hy i x hx => va_Dx hD hx hy) (fun q h1 h2 => by rw [e1]; exact hk q h1 h2)
  obtain ⟨t2, a1, b1⟩ := kk st₀ t T'.heap (locs ++ L) h0 e1.symm (by rw [← e2]; exact X'.warmed.alike) hB hPb
    ⟨Nat.le_trans hS.1 (by rw [e1]; exact hz), fun q h1 h2 => by rw [e1, hk q (Nat.lt_of_lt_of_le h1 hS.1) (fun z => h2 (hF q z))]; exact hS.2.1 q h1 h2, fun q hq => by
      rcases List.mem_append.mp hq with h | h
      · exact hS.2.2 q h
      · exact hF _ (hL q h)⟩ T' rfl X'
  exact ⟨t2, st t2 a1, b1⟩
end HB5
end
section
theorem dL_part_0 : decode cL_part 0 = .ok (.iload_n 1, 1) := by decide +kernel
theorem dL_part_1 : decode cL_part 1 = .ok (.aload_n 0, 1) := by decide +kernel
theorem dL_part_2 : decode cL_part 2 = .ok (.arraylength, 1) := by decide +kernel
theorem dL_part_3 : decode cL_part 3 = .ok (.if_icmp .ge 9, 3) := by decide +kernel
theorem dL_part_6 : decode cL_part 6 = .ok (.aload_n 0, 1) := by decide +kernel
theorem dL_part_7 : decode cL_part 7 = .ok (.iload_n 1, 1) := by decide +kernel
theorem dL_part_8 : decode cL_part 8 = .ok (.iaload, 1) := by decide +kernel
theorem dL_part_9 : decode cL_part 9 = .ok (.goto 16, 3) := by decide +kernel
theorem dL_part_25 : decode cL_part 25 = .ok (.istore_n 3, 1) := by decide +kernel
theorem dL_part_26 : decode cL_part 26 = .ok (.iload_n 3, 1) := by decide +kernel
theorem dL_part_27 : decode cL_part 27 = .ok (.ldc 7, 2) := by decide +kernel
theorem dL_part_29 : decode cL_part 29 = .ok (.iand, 1) := by decide +kernel
theorem dL_part_30 : decode cL_part 30 = .ok (.iload_n 2, 1) := by decide +kernel
theorem dL_part_31 : decode cL_part 31 = .ok (.irem, 1) := by decide +kernel
theorem dL_part_32 : decode cL_part 32 = .ok (.ireturn, 1) := by decide +kernel
theorem dL_does_0 : decode cL_does 0 = .ok (.iload_n 1, 1) := by decide +kernel
theorem dL_does_1 : decode cL_does 1 = .ok (.ifCond .ne 11, 3) := by decide +kernel
theorem dL_does_12 : decode cL_does 12 = .ok (.iload_n 1, 1) := by decide +kernel
theorem dL_does_13 : decode cL_does 13 = .ok (.iconst 1, 1) := by decide +kernel
theorem dL_does_14 : decode cL_does 14 = .ok (.if_icmp .ne 12, 3) := by decide +kernel
theorem dL_does_26 : decode cL_does 26 = .ok (.iload_n 1, 1) := by decide +kernel
theorem dL_does_27 : decode cL_does 27 = .ok (.iconst 2, 1) := by decide +kernel
theorem dL_does_28 : decode cL_does 28 = .ok (.if_icmp .ne 11, 3) := by decide +kernel
theorem dL_does_39 : decode cL_does 39 = .ok (.iload_n 1, 1) := by decide +kernel
theorem dL_does_40 : decode cL_does 40 = .ok (.iconst 3, 1) := by decide +kernel
theorem dL_does_41 : decode cL_does 41 = .ok (.if_icmp .ne 14, 3) := by decide +kernel
theorem dL_does_55 : decode cL_does 55 = .ok (.iload_n 1, 1) := by decide +kernel
theorem dL_does_56 : decode cL_does 56 = .ok (.iconst 4, 1) := by decide +kernel
theorem dL_does_57 : decode cL_does 57 = .ok (.if_icmp .ne 12, 3) := by decide +kernel
theorem dL_does_69 : decode cL_does 69 = .ok (.iload_n 1, 1) := by decide +kernel
theorem dL_does_70 : decode cL_does 70 = .ok (.iconst 5, 1) := by decide +kernel
theorem dL_does_71 : decode cL_does 71 = .ok (.if_icmp .ne 19, 3) := by decide +kernel
theorem dL_does_90 : decode cL_does 90 = .ok (.iload_n 1, 1) := by decide +kernel
theorem dL_does_91 : decode cL_does 91 = .ok (.bipush 6, 2) := by decide +kernel
theorem dL_does_93 : decode cL_does 93 = .ok (.if_icmp .ne 19, 3) := by decide +kernel
theorem dL_does_112 : decode cL_does 112 = .ok (.iload_n 1, 1) := by decide +kernel
theorem dL_does_113 : decode cL_does 113 = .ok (.bipush 7, 2) := by decide +kernel
theorem dL_does_115 : decode cL_does 115 = .ok (.if_icmp .ne 11, 3) := by decide +kernel
theorem dL_does_126 : decode cL_does 126 = .ok (.iload_n 1, 1) := by decide +kernel
theorem dL_does_127 : decode cL_does 127 = .ok (.bipush 8, 2) := by decide +kernel
theorem dL_does_129 : decode cL_does 129 = .ok (.if_icmp .ne 20, 3) := by decide +kernel
theorem dL_does_149 : decode cL_does 149 = .ok (.aload_n 0, 1) := by decide +kernel
theorem dL_does_150 : decode cL_does 150 = .ok (.iload_n 2, 1) := by decide +kernel
theorem dL_does_151 : decode cL_does 151 = .ok (.invokevirtual 49, 3) := by decide +kernel
theorem dL_does_155 : decode cL_does 155 = .ok (.astore 5, 2) := by decide +kernel
theorem dL_does_157 : decode cL_does 157 = .ok (.bipush (-30), 2) := by decide +kernel
theorem dL_does_159 : decode cL_does 159 = .ok (.ireturn, 1) := by decide +kernel
theorem dL_asks_0 : decode cL_asks 0 = .ok (.iload_n 1, 1) := by decide +kernel
theorem dL_asks_1 : decode cL_asks 1 = .ok (.ifCond .ne 16, 3) := by decide +kernel
theorem dL_asks_4 : decode cL_asks 4 = .ok (.aload_n 0, 1) := by decide +kernel
theorem dL_asks_5 : decode cL_asks 5 = .ok (.iload_n 2, 1) := by decide +kernel
theorem dL_asks_6 : decode cL_asks 6 = .ok (.iload_n 3, 1) := by decide +kernel
theorem dL_asks_7 : decode cL_asks 7 = .ok (.iload 4, 2) := by decide +kernel
theorem dL_asks_9 : decode cL_asks 9 = .ok (.iload 5, 2) := by decide +kernel
theorem dL_asks_11 : decode cL_asks 11 = .ok (.invokevirtual 62, 3) := by decide +kernel
theorem dL_asks_17 : decode cL_asks 17 = .ok (.iload_n 1, 1) := by decide +kernel
theorem dL_asks_18 : decode cL_asks 18 = .ok (.iconst 1, 1) := by decide +kernel
theorem dL_asks_19 : decode cL_asks 19 = .ok (.if_icmp .ne 16, 3) := by decide +kernel
theorem dL_asks_22 : decode cL_asks 22 = .ok (.aload_n 0, 1) := by decide +kernel
theorem dL_asks_23 : decode cL_asks 23 = .ok (.iload_n 2, 1) := by decide +kernel
theorem dL_asks_24 : decode cL_asks 24 = .ok (.iload_n 3, 1) := by decide +kernel
theorem dL_asks_25 : decode cL_asks 25 = .ok (.iload 4, 2) := by decide +kernel
theorem dL_asks_27 : decode cL_asks 27 = .ok (.iload 5, 2) := by decide +kernel
theorem dL_asks_29 : decode cL_asks 29 = .ok (.invokevirtual 66, 3) := by decide +kernel
theorem dL_asks_35 : decode cL_asks 35 = .ok (.iload_n 1, 1) := by decide +kernel
theorem dL_asks_36 : decode cL_asks 36 = .ok (.iconst 2, 1) := by decide +kernel
theorem dL_asks_37 : decode cL_asks 37 = .ok (.if_icmp .ne 11, 3) := by decide +kernel
theorem dL_asks_48 : decode cL_asks 48 = .ok (.iload_n 1, 1) := by decide +kernel
theorem dL_asks_49 : decode cL_asks 49 = .ok (.iconst 3, 1) := by decide +kernel
theorem dL_asks_50 : decode cL_asks 50 = .ok (.if_icmp .ne 14, 3) := by decide +kernel
theorem dL_asks_53 : decode cL_asks 53 = .ok (.aload_n 0, 1) := by decide +kernel
theorem dL_asks_54 : decode cL_asks 54 = .ok (.iload_n 2, 1) := by decide +kernel
theorem dL_asks_55 : decode cL_asks 55 = .ok (.iload_n 3, 1) := by decide +kernel
theorem dL_asks_56 : decode cL_asks 56 = .ok (.iload 4, 2) := by decide +kernel
theorem dL_asks_58 : decode cL_asks 58 = .ok (.invokevirtual 72, 3) := by decide +kernel
theorem dL_asks_64 : decode cL_asks 64 = .ok (.iload_n 1, 1) := by decide +kernel
theorem dL_asks_65 : decode cL_asks 65 = .ok (.iconst 4, 1) := by decide +kernel
theorem dL_asks_66 : decode cL_asks 66 = .ok (.if_icmp .ne 11, 3) := by decide +kernel
theorem dL_asks_69 : decode cL_asks 69 = .ok (.aload_n 0, 1) := by decide +kernel
theorem dL_asks_70 : decode cL_asks 70 = .ok (.iload_n 2, 1) := by decide +kernel
theorem dL_asks_71 : decode cL_asks 71 = .ok (.invokevirtual 75, 3) := by decide +kernel
theorem dL_asks_77 : decode cL_asks 77 = .ok (.iload_n 1, 1) := by decide +kernel
theorem dL_asks_78 : decode cL_asks 78 = .ok (.iconst 5, 1) := by decide +kernel
theorem dL_asks_79 : decode cL_asks 79 = .ok (.if_icmp .ne 12, 3) := by decide +kernel
theorem dL_asks_82 : decode cL_asks 82 = .ok (.aload_n 0, 1) := by decide +kernel
theorem dL_asks_83 : decode cL_asks 83 = .ok (.iload_n 2, 1) := by decide +kernel
theorem dL_asks_84 : decode cL_asks 84 = .ok (.iload_n 3, 1) := by decide +kernel
theorem dL_asks_85 : decode cL_asks 85 = .ok (.invokevirtual 78, 3) := by decide +kernel
theorem dL_asks_91 : decode cL_asks 91 = .ok (.aload_n 0, 1) := by decide +kernel
theorem dL_asks_92 : decode cL_asks 92 = .ok (.iload_n 2, 1) := by decide +kernel
theorem dL_asks_93 : decode cL_asks 93 = .ok (.invokevirtual 81, 3) := by decide +kernel
theorem dL_asks_97 : decode cL_asks 97 = .ok (.astore 6, 2) := by decide +kernel
theorem dL_asks_99 : decode cL_asks 99 = .ok (.bipush (-30), 2) := by decide +kernel
theorem dL_asks_101 : decode cL_asks 101 = .ok (.ireturn, 1) := by decide +kernel
theorem dL_areShops_0 : decode cL_areShops 0 = .ok (.aload_n 0, 1) := by decide +kernel
theorem dL_areShops_1 : decode cL_areShops 1 = .ok (.iconst 4, 1) := by decide +kernel
theorem dL_areShops_2 : decode cL_areShops 2 = .ok (.iconst 3, 1) := by decide +kernel
theorem dL_areShops_3 : decode cL_areShops 3 = .ok (.iconst 0, 1) := by decide +kernel
theorem dL_areShops_4 : decode cL_areShops 4 = .ok (.iconst 0, 1) := by decide +kernel
theorem dL_areShops_5 : decode cL_areShops 5 = .ok (.iconst 0, 1) := by decide +kernel
theorem dL_areShops_6 : decode cL_areShops 6 = .ok (.invokestatic 91, 3) := by decide +kernel
theorem dL_areShops_9 : decode cL_areShops 9 = .ok (.bipush (-30), 2) := by decide +kernel
theorem dL_areShops_11 : decode cL_areShops 11 = .ok (.if_icmp .ne 83, 3) := by decide +kernel
theorem dL_areShops_14 : decode cL_areShops 14 = .ok (.aload_n 0, 1) := by decide +kernel
theorem dL_areShops_15 : decode cL_areShops 15 = .ok (.iconst 5, 1) := by decide +kernel
theorem dL_areShops_16 : decode cL_areShops 16 = .ok (.iconst 0, 1) := by decide +kernel
theorem dL_areShops_17 : decode cL_areShops 17 = .ok (.iconst 3, 1) := by decide +kernel
theorem dL_areShops_18 : decode cL_areShops 18 = .ok (.iconst 0, 1) := by decide +kernel
theorem dL_areShops_19 : decode cL_areShops 19 = .ok (.iconst 0, 1) := by decide +kernel
theorem dL_areShops_20 : decode cL_areShops 20 = .ok (.invokestatic 91, 3) := by decide +kernel
theorem dL_areShops_23 : decode cL_areShops 23 = .ok (.bipush (-30), 2) := by decide +kernel
theorem dL_areShops_25 : decode cL_areShops 25 = .ok (.if_icmp .ne 69, 3) := by decide +kernel
theorem dL_areShops_28 : decode cL_areShops 28 = .ok (.aload_n 0, 1) := by decide +kernel
theorem dL_areShops_29 : decode cL_areShops 29 = .ok (.bipush 6, 2) := by decide +kernel
theorem dL_areShops_31 : decode cL_areShops 31 = .ok (.iconst (-1), 1) := by decide +kernel
theorem dL_areShops_32 : decode cL_areShops 32 = .ok (.iconst 0, 1) := by decide +kernel
theorem dL_areShops_33 : decode cL_areShops 33 = .ok (.iconst 0, 1) := by decide +kernel
theorem dL_areShops_34 : decode cL_areShops 34 = .ok (.iconst 0, 1) := by decide +kernel
theorem dL_areShops_35 : decode cL_areShops 35 = .ok (.invokestatic 91, 3) := by decide +kernel
theorem dL_areShops_38 : decode cL_areShops 38 = .ok (.bipush (-30), 2) := by decide +kernel
theorem dL_areShops_40 : decode cL_areShops 40 = .ok (.if_icmp .ne 54, 3) := by decide +kernel
theorem dL_areShops_43 : decode cL_areShops 43 = .ok (.aload_n 0, 1) := by decide +kernel
theorem dL_areShops_44 : decode cL_areShops 44 = .ok (.iconst 0, 1) := by decide +kernel
theorem dL_areShops_45 : decode cL_areShops 45 = .ok (.aload_n 3, 1) := by decide +kernel
theorem dL_areShops_46 : decode cL_areShops 46 = .ok (.iconst 0, 1) := by decide +kernel
theorem dL_areShops_47 : decode cL_areShops 47 = .ok (.iaload, 1) := by decide +kernel
theorem dL_areShops_48 : decode cL_areShops 48 = .ok (.iconst 0, 1) := by decide +kernel
theorem dL_areShops_49 : decode cL_areShops 49 = .ok (.iconst 0, 1) := by decide +kernel
theorem dL_areShops_50 : decode cL_areShops 50 = .ok (.iconst 0, 1) := by decide +kernel
theorem dL_areShops_51 : decode cL_areShops 51 = .ok (.invokestatic 91, 3) := by decide +kernel
theorem dL_areShops_54 : decode cL_areShops 54 = .ok (.bipush (-30), 2) := by decide +kernel
theorem dL_areShops_56 : decode cL_areShops 56 = .ok (.if_icmp .ne 38, 3) := by decide +kernel
theorem dL_areShops_59 : decode cL_areShops 59 = .ok (.aload_n 0, 1) := by decide +kernel
theorem dL_areShops_60 : decode cL_areShops 60 = .ok (.iconst 1, 1) := by decide +kernel
theorem dL_areShops_61 : decode cL_areShops 61 = .ok (.iconst 0, 1) := by decide +kernel
theorem dL_areShops_62 : decode cL_areShops 62 = .ok (.bipush 6, 2) := by decide +kernel
theorem dL_areShops_64 : decode cL_areShops 64 = .ok (.iconst 0, 1) := by decide +kernel
theorem dL_areShops_65 : decode cL_areShops 65 = .ok (.iconst 0, 1) := by decide +kernel
theorem dL_areShops_66 : decode cL_areShops 66 = .ok (.invokestatic 91, 3) := by decide +kernel
theorem dL_areShops_69 : decode cL_areShops 69 = .ok (.bipush (-30), 2) := by decide +kernel
theorem dL_areShops_71 : decode cL_areShops 71 = .ok (.if_icmp .ne 23, 3) := by decide +kernel
theorem dL_areShops_74 : decode cL_areShops 74 = .ok (.aload_n 0, 1) := by decide +kernel
theorem dL_areShops_75 : decode cL_areShops 75 = .ok (.iconst 3, 1) := by decide +kernel
theorem dL_areShops_76 : decode cL_areShops 76 = .ok (.aload_n 3, 1) := by decide +kernel
theorem dL_areShops_77 : decode cL_areShops 77 = .ok (.iconst 0, 1) := by decide +kernel
theorem dL_areShops_78 : decode cL_areShops 78 = .ok (.iaload, 1) := by decide +kernel
theorem dL_areShops_79 : decode cL_areShops 79 = .ok (.iconst 0, 1) := by decide +kernel
theorem dL_areShops_80 : decode cL_areShops 80 = .ok (.iconst 0, 1) := by decide +kernel
theorem dL_areShops_81 : decode cL_areShops 81 = .ok (.iconst 0, 1) := by decide +kernel
theorem dL_areShops_82 : decode cL_areShops 82 = .ok (.invokestatic 91, 3) := by decide +kernel
theorem dL_areShops_85 : decode cL_areShops 85 = .ok (.bipush (-30), 2) := by decide +kernel
theorem dL_areShops_87 : decode cL_areShops 87 = .ok (.if_icmp .ne 7, 3) := by decide +kernel
theorem dL_areShops_90 : decode cL_areShops 90 = .ok (.iconst 1, 1) := by decide +kernel
theorem dL_areShops_91 : decode cL_areShops 91 = .ok (.goto 4, 3) := by decide +kernel
theorem dL_areShops_95 : decode cL_areShops 95 = .ok (.istore 4, 2) := by decide +kernel
theorem dL_areShops_97 : decode cL_areShops 97 = .ok (.iconst 0, 1) := by decide +kernel
theorem dL_areShops_98 : decode cL_areShops 98 = .ok (.istore 5, 2) := by decide +kernel
theorem dL_areShops_100 : decode cL_areShops 100 = .ok (.iload 5, 2) := by decide +kernel
theorem dL_areShops_102 : decode cL_areShops 102 = .ok (.iconst 3, 1) := by decide +kernel
theorem dL_areShops_103 : decode cL_areShops 103 = .ok (.if_icmp .ge 365, 3) := by decide +kernel
theorem dL_areShops_106 : decode cL_areShops 106 = .ok (.iload 4, 2) := by decide +kernel
theorem dL_areShops_108 : decode cL_areShops 108 = .ok (.ifCond .eq 360, 3) := by decide +kernel
theorem dL_areShops_111 : decode cL_areShops 111 = .ok (.iconst 0, 1) := by decide +kernel
theorem dL_areShops_112 : decode cL_areShops 112 = .ok (.istore 6, 2) := by decide +kernel
theorem dL_areShops_114 : decode cL_areShops 114 = .ok (.iconst 0, 1) := by decide +kernel
theorem dL_areShops_115 : decode cL_areShops 115 = .ok (.istore 7, 2) := by decide +kernel
theorem dL_areShops_117 : decode cL_areShops 117 = .ok (.iload 7, 2) := by decide +kernel
theorem dL_areShops_119 : decode cL_areShops 119 = .ok (.aload_n 3, 1) := by decide +kernel
theorem dL_areShops_120 : decode cL_areShops 120 = .ok (.iconst 0, 1) := by decide +kernel
theorem dL_areShops_121 : decode cL_areShops 121 = .ok (.iaload, 1) := by decide +kernel
theorem dL_areShops_122 : decode cL_areShops 122 = .ok (.if_icmp .ge 294, 3) := by decide +kernel
theorem dL_areShops_416 : decode cL_areShops 416 = .ok (.iload 4, 2) := by decide +kernel
theorem dL_areShops_418 : decode cL_areShops 418 = .ok (.ifCond .eq 41, 3) := by decide +kernel
theorem dL_areShops_421 : decode cL_areShops 421 = .ok (.aload_n 0, 1) := by decide +kernel
theorem dL_areShops_422 : decode cL_areShops 422 = .ok (.iload 5, 2) := by decide +kernel
theorem dL_areShops_424 : decode cL_areShops 424 = .ok (.invokevirtual 75, 3) := by decide +kernel
theorem dL_areShops_427 : decode cL_areShops 427 = .ok (.iload 6, 2) := by decide +kernel
theorem dL_areShops_429 : decode cL_areShops 429 = .ok (.if_icmp .ne 30, 3) := by decide +kernel
theorem dL_areShops_432 : decode cL_areShops 432 = .ok (.aload_n 0, 1) := by decide +kernel
theorem dL_areShops_433 : decode cL_areShops 433 = .ok (.iload 5, 2) := by decide +kernel
theorem dL_areShops_435 : decode cL_areShops 435 = .ok (.invokevirtual 81, 3) := by decide +kernel
theorem dL_areShops_438 : decode cL_areShops 438 = .ok (.ifCond .lt 21, 3) := by decide +kernel
theorem dL_areShops_441 : decode cL_areShops 441 = .ok (.aload_n 0, 1) := by decide +kernel
theorem dL_areShops_442 : decode cL_areShops 442 = .ok (.iload 5, 2) := by decide +kernel
theorem dL_areShops_444 : decode cL_areShops 444 = .ok (.invokevirtual 81, 3) := by decide +kernel
theorem dL_areShops_447 : decode cL_areShops 447 = .ok (.iconst 1, 1) := by decide +kernel
theorem dL_areShops_448 : decode cL_areShops 448 = .ok (.aload_n 3, 1) := by decide +kernel
theorem dL_areShops_449 : decode cL_areShops 449 = .ok (.iconst 0, 1) := by decide +kernel
theorem dL_areShops_450 : decode cL_areShops 450 = .ok (.iaload, 1) := by decide +kernel
theorem dL_areShops_451 : decode cL_areShops 451 = .ok (.ishl, 1) := by decide +kernel
theorem dL_areShops_452 : decode cL_areShops 452 = .ok (.if_icmp .ge 7, 3) := by decide +kernel
theorem dL_areShops_455 : decode cL_areShops 455 = .ok (.iconst 1, 1) := by decide +kernel
theorem dL_areShops_456 : decode cL_areShops 456 = .ok (.goto 4, 3) := by decide +kernel
theorem dL_areShops_460 : decode cL_areShops 460 = .ok (.istore 4, 2) := by decide +kernel
theorem dL_areShops_462 : decode cL_areShops 462 = .ok (.iinc 5 1, 3) := by decide +kernel
theorem dL_areShops_465 : decode cL_areShops 465 = .ok (.goto (-365), 3) := by decide +kernel
theorem dL_areShops_468 : decode cL_areShops 468 = .ok (.iload 4, 2) := by decide +kernel
theorem dL_areShops_470 : decode cL_areShops 470 = .ok (.ireturn, 1) := by decide +kernel
theorem dL_isDone_0 : decode cL_isDone 0 = .ok (.aload_n 1, 1) := by decide +kernel
theorem dL_isDone_1 : decode cL_isDone 1 = .ok (.iload_n 2, 1) := by decide +kernel
theorem dL_isDone_2 : decode cL_isDone 2 = .ok (.bipush 40, 2) := by decide +kernel
theorem dL_isDone_4 : decode cL_isDone 4 = .ok (.invokestatic 124, 3) := by decide +kernel
theorem dL_isDone_7 : decode cL_isDone 7 = .ok (.istore 9, 2) := by decide +kernel
theorem dL_isDone_9 : decode cL_isDone 9 = .ok (.aload_n 1, 1) := by decide +kernel
theorem dL_isDone_10 : decode cL_isDone 10 = .ok (.iload_n 2, 1) := by decide +kernel
theorem dL_isDone_11 : decode cL_isDone 11 = .ok (.iconst 1, 1) := by decide +kernel
theorem dL_isDone_12 : decode cL_isDone 12 = .ok (.iadd, 1) := by decide +kernel
theorem dL_isDone_13 : decode cL_isDone 13 = .ok (.sipush 6000, 3) := by decide +kernel
theorem dL_isDone_16 : decode cL_isDone 16 = .ok (.invokestatic 124, 3) := by decide +kernel
theorem dL_isDone_19 : decode cL_isDone 19 = .ok (.istore 10, 2) := by decide +kernel
theorem dL_isDone_21 : decode cL_isDone 21 = .ok (.aload_n 1, 1) := by decide +kernel
theorem dL_isDone_22 : decode cL_isDone 22 = .ok (.iload_n 2, 1) := by decide +kernel
theorem dL_isDone_23 : decode cL_isDone 23 = .ok (.iconst 2, 1) := by decide +kernel
theorem dL_isDone_24 : decode cL_isDone 24 = .ok (.iadd, 1) := by decide +kernel
theorem dL_isDone_25 : decode cL_isDone 25 = .ok (.sipush 7000, 3) := by decide +kernel
theorem dL_isDone_28 : decode cL_isDone 28 = .ok (.invokestatic 124, 3) := by decide +kernel
theorem dL_isDone_31 : decode cL_isDone 31 = .ok (.istore 11, 2) := by decide +kernel
theorem dL_isDone_33 : decode cL_isDone 33 = .ok (.aload_n 1, 1) := by decide +kernel
theorem dL_isDone_34 : decode cL_isDone 34 = .ok (.iload_n 2, 1) := by decide +kernel
theorem dL_isDone_35 : decode cL_isDone 35 = .ok (.iconst 3, 1) := by decide +kernel
theorem dL_isDone_36 : decode cL_isDone 36 = .ok (.iadd, 1) := by decide +kernel
theorem dL_isDone_37 : decode cL_isDone 37 = .ok (.sipush 8000, 3) := by decide +kernel
theorem dL_isDone_40 : decode cL_isDone 40 = .ok (.invokestatic 124, 3) := by decide +kernel
theorem dL_isDone_43 : decode cL_isDone 43 = .ok (.istore 12, 2) := by decide +kernel
theorem dL_isDone_45 : decode cL_isDone 45 = .ok (.iload 9, 2) := by decide +kernel
theorem dL_isDone_47 : decode cL_isDone 47 = .ok (.bipush 8, 2) := by decide +kernel
theorem dL_isDone_49 : decode cL_isDone 49 = .ok (.if_icmp .ge 39, 3) := by decide +kernel
theorem dL_isDone_88 : decode cL_isDone 88 = .ok (.iload 9, 2) := by decide +kernel
theorem dL_isDone_90 : decode cL_isDone 90 = .ok (.bipush 11, 2) := by decide +kernel
theorem dL_isDone_92 : decode cL_isDone 92 = .ok (.if_icmp .ge 19, 3) := by decide +kernel
theorem dL_isDone_111 : decode cL_isDone 111 = .ok (.iload 9, 2) := by decide +kernel
theorem dL_isDone_113 : decode cL_isDone 113 = .ok (.bipush 22, 2) := by decide +kernel
theorem dL_isDone_115 : decode cL_isDone 115 = .ok (.if_icmp .ge 38, 3) := by decide +kernel
theorem dL_isDone_153 : decode cL_isDone 153 = .ok (.iload 9, 2) := by decide +kernel
theorem dL_isDone_155 : decode cL_isDone 155 = .ok (.bipush 30, 2) := by decide +kernel
theorem dL_isDone_157 : decode cL_isDone 157 = .ok (.if_icmp .ge 36, 3) := by decide +kernel
theorem dL_isDone_193 : decode cL_isDone 193 = .ok (.iload 9, 2) := by decide +kernel
theorem dL_isDone_195 : decode cL_isDone 195 = .ok (.bipush 30, 2) := by decide +kernel
theorem dL_isDone_197 : decode cL_isDone 197 = .ok (.if_icmp .ne 95, 3) := by decide +kernel
theorem dL_isDone_292 : decode cL_isDone 292 = .ok (.iload 9, 2) := by decide +kernel
theorem dL_isDone_294 : decode cL_isDone 294 = .ok (.bipush 34, 2) := by decide +kernel
theorem dL_isDone_296 : decode cL_isDone 296 = .ok (.if_icmp .ge 93, 3) := by decide +kernel
theorem dL_isDone_389 : decode cL_isDone 389 = .ok (.iload 9, 2) := by decide +kernel
theorem dL_isDone_391 : decode cL_isDone 391 = .ok (.bipush 37, 2) := by decide +kernel
theorem dL_isDone_393 : decode cL_isDone 393 = .ok (.if_icmp .ge 79, 3) := by decide +kernel
theorem dL_isDone_472 : decode cL_isDone 472 = .ok (.iload 10, 2) := by decide +kernel
theorem dL_isDone_474 : decode cL_isDone 474 = .ok (.iconst 4, 1) := by decide +kernel
theorem dL_isDone_475 : decode cL_isDone 475 = .ok (.irem, 1) := by decide +kernel
theorem dL_isDone_476 : decode cL_isDone 476 = .ok (.istore 13, 2) := by decide +kernel
theorem dL_isDone_478 : decode cL_isDone 478 = .ok (.iload 13, 2) := by decide +kernel
theorem dL_isDone_480 : decode cL_isDone 480 = .ok (.iconst 3, 1) := by decide +kernel
theorem dL_isDone_481 : decode cL_isDone 481 = .ok (.if_icmp .ge 12, 3) := by decide +kernel
theorem dL_isDone_493 : decode cL_isDone 493 = .ok (.iconst 0, 1) := by decide +kernel
theorem dL_isDone_494 : decode cL_isDone 494 = .ok (.istore 14, 2) := by decide +kernel
theorem dL_isDone_496 : decode cL_isDone 496 = .ok (.iconst 0, 1) := by decide +kernel
theorem dL_isDone_497 : decode cL_isDone 497 = .ok (.istore 15, 2) := by decide +kernel
theorem dL_isDone_499 : decode cL_isDone 499 = .ok (.iconst 0, 1) := by decide +kernel
theorem dL_isDone_500 : decode cL_isDone 500 = .ok (.istore 16, 2) := by decide +kernel
theorem dL_isDone_502 : decode cL_isDone 502 = .ok (.iload 16, 2) := by decide +kernel
theorem dL_isDone_504 : decode cL_isDone 504 = .ok (.bipush 8, 2) := by decide +kernel
theorem dL_isDone_506 : decode cL_isDone 506 = .ok (.if_icmp .ge 21, 3) := by decide +kernel
theorem dL_isDone_509 : decode cL_isDone 509 = .ok (.iload 15, 2) := by decide +kernel
theorem dL_isDone_511 : decode cL_isDone 511 = .ok (.iload 14, 2) := by decide +kernel
theorem dL_isDone_513 : decode cL_isDone 513 = .ok (.iload 16, 2) := by decide +kernel
theorem dL_isDone_515 : decode cL_isDone 515 = .ok (.ishr, 1) := by decide +kernel
theorem dL_isDone_516 : decode cL_isDone 516 = .ok (.iconst 1, 1) := by decide +kernel
theorem dL_isDone_517 : decode cL_isDone 517 = .ok (.iand, 1) := by decide +kernel
theorem dL_isDone_518 : decode cL_isDone 518 = .ok (.iadd, 1) := by decide +kernel
theorem dL_isDone_519 : decode cL_isDone 519 = .ok (.istore 15, 2) := by decide +kernel
theorem dL_isDone_521 : decode cL_isDone 521 = .ok (.iinc 16 1, 3) := by decide +kernel
theorem dL_isDone_524 : decode cL_isDone 524 = .ok (.goto (-22), 3) := by decide +kernel
theorem dL_isDone_527 : decode cL_isDone 527 = .ok (.aload_n 0, 1) := by decide +kernel
theorem dL_isDone_528 : decode cL_isDone 528 = .ok (.bipush 9, 2) := by decide +kernel
theorem dL_isDone_530 : decode cL_isDone 530 = .ok (.iload 13, 2) := by decide +kernel
theorem dL_isDone_532 : decode cL_isDone 532 = .ok (.iconst 0, 1) := by decide +kernel
theorem dL_isDone_533 : decode cL_isDone 533 = .ok (.iconst 0, 1) := by decide +kernel
theorem dL_isDone_534 : decode cL_isDone 534 = .ok (.invokestatic 110, 3) := by decide +kernel
theorem dL_isDone_537 : decode cL_isDone 537 = .ok (.iload 13, 2) := by decide +kernel
theorem dL_isDone_539 : decode cL_isDone 539 = .ok (.iconst 3, 1) := by decide +kernel
theorem dL_isDone_540 : decode cL_isDone 540 = .ok (.if_icmp .ne 8, 3) := by decide +kernel
theorem dL_isDone_543 : decode cL_isDone 543 = .ok (.bipush (-30), 2) := by decide +kernel
theorem dL_isDone_545 : decode cL_isDone 545 = .ok (.goto 5, 3) := by decide +kernel
theorem dL_isDone_550 : decode cL_isDone 550 = .ok (.if_icmp .ne 31, 3) := by decide +kernel
theorem dL_isDone_553 : decode cL_isDone 553 = .ok (.iload 13, 2) := by decide +kernel
theorem dL_isDone_555 : decode cL_isDone 555 = .ok (.iconst 3, 1) := by decide +kernel
theorem dL_isDone_556 : decode cL_isDone 556 = .ok (.if_icmp .eq 21, 3) := by decide +kernel
theorem dL_isDone_577 : decode cL_isDone 577 = .ok (.iconst 1, 1) := by decide +kernel
theorem dL_isDone_578 : decode cL_isDone 578 = .ok (.goto 4, 3) := by decide +kernel
theorem dL_isDone_582 : decode cL_isDone 582 = .ok (.ireturn, 1) := by decide +kernel
theorem dL_law_0 : decode cL_law 0 = .ok (.new 9, 3) := by decide +kernel
theorem dL_law_3 : decode cL_law 3 = .ok (.dup, 1) := by decide +kernel
theorem dL_law_4 : decode cL_law 4 = .ok (.invokespecial 143, 3) := by decide +kernel
theorem dL_law_7 : decode cL_law 7 = .ok (.astore_n 1, 1) := by decide +kernel
theorem dL_law_8 : decode cL_law 8 = .ok (.bipush 24, 2) := by decide +kernel
theorem dL_law_10 : decode cL_law 10 = .ok (.newarray .int, 2) := by decide +kernel
theorem dL_law_12 : decode cL_law 12 = .ok (.astore_n 2, 1) := by decide +kernel
theorem dL_law_13 : decode cL_law 13 = .ok (.bipush 64, 2) := by decide +kernel
theorem dL_law_15 : decode cL_law 15 = .ok (.newarray .int, 2) := by decide +kernel
theorem dL_law_17 : decode cL_law 17 = .ok (.astore_n 3, 1) := by decide +kernel
theorem dL_law_18 : decode cL_law 18 = .ok (.bipush 60, 2) := by decide +kernel
theorem dL_law_20 : decode cL_law 20 = .ok (.newarray .int, 2) := by decide +kernel
theorem dL_law_22 : decode cL_law 22 = .ok (.astore 4, 2) := by decide +kernel
theorem dL_law_24 : decode cL_law 24 = .ok (.bipush 60, 2) := by decide +kernel
theorem dL_law_26 : decode cL_law 26 = .ok (.newarray .int, 2) := by decide +kernel
theorem dL_law_28 : decode cL_law 28 = .ok (.astore 5, 2) := by decide +kernel
theorem dL_law_30 : decode cL_law 30 = .ok (.iconst 3, 1) := by decide +kernel
theorem dL_law_31 : decode cL_law 31 = .ok (.newarray .int, 2) := by decide +kernel
theorem dL_law_33 : decode cL_law 33 = .ok (.astore 6, 2) := by decide +kernel
theorem dL_law_35 : decode cL_law 35 = .ok (.iconst 3, 1) := by decide +kernel
theorem dL_law_36 : decode cL_law 36 = .ok (.newarray .int, 2) := by decide +kernel
theorem dL_law_38 : decode cL_law 38 = .ok (.astore 7, 2) := by decide +kernel
theorem dL_law_40 : decode cL_law 40 = .ok (.aload_n 1, 1) := by decide +kernel
theorem dL_law_41 : decode cL_law 41 = .ok (.aload_n 2, 1) := by decide +kernel
theorem dL_law_42 : decode cL_law 42 = .ok (.aload_n 3, 1) := by decide +kernel
theorem dL_law_43 : decode cL_law 43 = .ok (.aload 7, 2) := by decide +kernel
theorem dL_law_45 : decode cL_law 45 = .ok (.invokestatic 144, 3) := by decide +kernel
theorem dL_law_48 : decode cL_law 48 = .ok (.istore 8, 2) := by decide +kernel
theorem dL_law_50 : decode cL_law 50 = .ok (.iconst 0, 1) := by decide +kernel
theorem dL_law_51 : decode cL_law 51 = .ok (.istore 9, 2) := by decide +kernel
theorem dL_law_53 : decode cL_law 53 = .ok (.iload 9, 2) := by decide +kernel
theorem dL_law_55 : decode cL_law 55 = .ok (.bipush 60, 2) := by decide +kernel
theorem dL_law_57 : decode cL_law 57 = .ok (.if_icmp .ge 84, 3) := by decide +kernel
theorem dL_law_60 : decode cL_law 60 = .ok (.iload 8, 2) := by decide +kernel
theorem dL_law_62 : decode cL_law 62 = .ok (.ifCond .eq 79, 3) := by decide +kernel
theorem dL_law_65 : decode cL_law 65 = .ok (.aload_n 1, 1) := by decide +kernel
theorem dL_law_66 : decode cL_law 66 = .ok (.aload_n 0, 1) := by decide +kernel
theorem dL_law_67 : decode cL_law 67 = .ok (.iconst 4, 1) := by decide +kernel
theorem dL_law_68 : decode cL_law 68 = .ok (.iload 9, 2) := by decide +kernel
theorem dL_law_70 : decode cL_law 70 = .ok (.imul, 1) := by decide +kernel
theorem dL_law_71 : decode cL_law 71 = .ok (.aload_n 2, 1) := by decide +kernel
theorem dL_law_72 : decode cL_law 72 = .ok (.aload_n 3, 1) := by decide +kernel
theorem dL_law_73 : decode cL_law 73 = .ok (.aload 4, 2) := by decide +kernel
theorem dL_law_75 : decode cL_law 75 = .ok (.aload 5, 2) := by decide +kernel
theorem dL_law_77 : decode cL_law 77 = .ok (.aload 6, 2) := by decide +kernel
theorem dL_law_79 : decode cL_law 79 = .ok (.aload 7, 2) := by decide +kernel
theorem dL_law_81 : decode cL_law 81 = .ok (.invokestatic 148, 3) := by decide +kernel
theorem dL_law_84 : decode cL_law 84 = .ok (.ifCond .eq 48, 3) := by decide +kernel
theorem dL_law_87 : decode cL_law 87 = .ok (.aload_n 1, 1) := by decide +kernel
theorem dL_law_88 : decode cL_law 88 = .ok (.aload_n 2, 1) := by decide +kernel
theorem dL_law_89 : decode cL_law 89 = .ok (.aload_n 3, 1) := by decide +kernel
theorem dL_law_90 : decode cL_law 90 = .ok (.aload 7, 2) := by decide +kernel
theorem dL_law_92 : decode cL_law 92 = .ok (.invokestatic 144, 3) := by decide +kernel
theorem dL_law_95 : decode cL_law 95 = .ok (.ifCond .eq 37, 3) := by decide +kernel
theorem dL_law_98 : decode cL_law 98 = .ok (.aload 7, 2) := by decide +kernel
theorem dL_law_100 : decode cL_law 100 = .ok (.iconst 0, 1) := by decide +kernel
theorem dL_law_101 : decode cL_law 101 = .ok (.iaload, 1) := by decide +kernel
theorem dL_law_102 : decode cL_law 102 = .ok (.ifCond .eq 26, 3) := by decide +kernel
theorem dL_law_128 : decode cL_law 128 = .ok (.iconst 1, 1) := by decide +kernel
theorem dL_law_129 : decode cL_law 129 = .ok (.goto 4, 3) := by decide +kernel
theorem dL_law_133 : decode cL_law 133 = .ok (.istore 8, 2) := by decide +kernel
theorem dL_law_135 : decode cL_law 135 = .ok (.iinc 9 1, 3) := by decide +kernel
theorem dL_law_138 : decode cL_law 138 = .ok (.goto (-85), 3) := by decide +kernel
end
section
theorem goodIn_cc {big a : List Cond} {c : Cond} (hc : GoodIn big [c]) (ha : GoodIn big a) : GoodIn big (c :: a) := fun w h => (List.mem_cons.mp h).elim (fun e => hc w (List.mem_cons.mpr (Or.inl e))) (ha w)
set_option maxRecDepth 20000 in
theorem ggL_does_X0_feed : GoodIn wsL_does wsX0_feed := goodIn_ca (goodIn_r _ [133, 124, 125, 7, 126, 18, 19, 134, 135, 136, 137, 138, 139, 140, 141, 142, 143, 144, 145, 146, 147, 148, 149, 150, 151, 13, 20, 21, 22, 23, 12, 152, 153, 154, 155, 76, 156, 157, 158, 84, 85, 86, 87, 69, 159, 160, 161, 162, 163, 164, 165, 166, 167, 168, 169, 170, 171, 172, 173, 174, 175, 176, 177, 178, 179, 180, 181, 182, 183, 184, 185] (by decide +kernel) (by decide +kernel)) (goodIn_sub (fun _ h => List.mem_cons_of_mem _ (List.mem_append_left _ (List.mem_append_right _ h))) (by decide +kernel))
set_option maxRecDepth 20000 in
theorem gL_does_X0_feed : GoodIn wsL_does (wsV RL 49 RX0 yX0_feed wsX0_feed) := goodIn_app (goodIn_of _ (by decide +kernel)) ggL_does_X0_feed
set_option maxRecDepth 20000 in
theorem ggL_asks_X0_value : GoodIn wsL_asks wsX0_value := goodIn_ca (goodIn_ca (goodIn_r _ [7, 8, 9, 10, 11, 12, 6, 13, 14, 15, 16, 17, 18, 19, 20, 21, 22, 23, 24, 25, 26, 27, 28, 29, 30, 31, 32, 33, 34, 35, 36, 37, 38, 39, 40, 41, 42, 43, 44, 45, 46, 47, 48, 49, 50, 51, 52, 53, 54, 55, 56, 112, 113, 114, 115, 116, 117, 118, 119, 120, 121, 122, 123, 124, 125, 126, 127] (by decide +kernel) (by decide +kernel)) (goodIn_sub (fun _ h => List.mem_cons_of_mem _ (List.mem_append_left _ (List.mem_append_right _ h))) (by decide +kernel))) (goodIn_sub (fun _ h => List.mem_cons_of_mem _ (List.mem_append_right _ h)) (by decide +kernel))
set_option maxRecDepth 20000 in
theorem gL_asks_X0_value : GoodIn wsL_asks (wsV RL 62 RX0 yX0_value wsX0_value) := goodIn_app (goodIn_of _ (by decide +kernel)) ggL_asks_X0_value
set_option maxRecDepth 20000 in
theorem ggL_asks_X0_origin : GoodIn wsL_asks wsX0_origin := goodIn_ca (goodIn_r _ [60, 10, 11, 12, 6, 13, 14, 15, 16, 17, 18, 19, 20, 21, 22, 23, 24, 25, 26, 27, 28, 29, 30, 31, 32, 33, 39, 40, 41, 42, 43, 44, 45, 46, 47, 48, 49, 50, 51, 112, 113, 114, 115, 116, 117, 118, 119, 120, 121, 122, 123, 124, 125, 126, 127] (by decide +kernel) (by decide +kernel)) (goodIn_sub (fun _ h => List.mem_cons_of_mem _ (List.mem_append_right _ h)) (by decide +kernel))
set_option maxRecDepth 20000 in
theorem gL_asks_X0_origin : GoodIn wsL_asks (wsV RL 66 RX0 yX0_origin wsX0_origin) := goodIn_app (goodIn_of _ (by decide +kernel)) ggL_asks_X0_origin
set_option maxRecDepth 20000 in
theorem ggL_asks_X0_missing : GoodIn wsL_asks wsX0_missing := goodIn_ca (goodIn_r _ [68, 14, 15, 16, 6, 17, 18, 19, 20, 21, 22, 23, 24, 28, 29, 30, 31, 32, 33, 69, 70, 71, 72, 73, 34, 35, 36, 37, 38, 39, 40, 41, 42, 43, 44, 45, 46, 47, 48, 49, 50, 51, 52, 53, 54, 55, 56, 112, 113, 114, 115, 116, 117, 118, 119, 120, 121, 122, 123, 124, 125, 126, 127] (by decide +kernel) (by decide +kernel)) (goodIn_sub (fun _ h => List.mem_cons_of_mem _ (List.mem_append_right _ h)) (by decide +kernel))
set_option maxRecDepth 20000 in
theorem gL_asks_X0_missing : GoodIn wsL_asks (wsV RL 72 RX0 yX0_missing wsX0_missing) := goodIn_app (goodIn_of _ (by decide +kernel)) ggL_asks_X0_missing
set_option maxRecDepth 20000 in
theorem ggL_asks_X0_complete : GoodIn wsL_asks wsX0_complete := goodIn_ca (goodIn_r _ [77, 24, 28, 29, 6, 30, 18, 19, 78, 79, 80, 81, 69, 70, 71, 72, 73, 34, 35, 36, 37, 38, 39, 40, 41, 42, 43, 20, 21, 22, 23, 44, 45, 46, 47, 48, 49, 50, 51, 52, 53, 54, 55, 56, 112, 113, 114, 115, 116, 117, 118, 119, 120, 121, 122, 123, 124, 125, 126, 127] (by decide +kernel) (by decide +kernel)) (goodIn_sub (fun _ h => List.mem_cons_of_mem _ (List.mem_append_right _ h)) (by decide +kernel))
set_option maxRecDepth 20000 in
theorem gL_asks_X0_complete : GoodIn wsL_asks (wsV RL 75 RX0 yX0_complete wsX0_complete) := goodIn_app (goodIn_of _ (by decide +kernel)) ggL_asks_X0_complete
set_option maxRecDepth 20000 in
theorem ggL_asks_X0_price : GoodIn wsL_asks wsX0_price := goodIn_ca (goodIn_ca (goodIn_r _ [85, 8, 9, 14, 15, 16, 6, 17, 18, 19, 20, 21, 22, 23, 24, 28, 29, 30, 86, 87, 88, 89, 90, 34, 35, 36, 37, 38, 39, 40, 41, 42, 43, 44, 45, 46, 47, 48, 49, 50, 51, 52, 53, 54, 55, 56, 91, 92, 93, 94, 95, 96, 97, 98, 112, 113, 114, 115, 116, 117, 118, 119, 120, 121, 122, 123, 124, 125, 126, 127] (by decide +kernel) (by decide +kernel)) (goodIn_sub (fun _ h => List.mem_cons_of_mem _ (List.mem_append_left _ (List.mem_append_right _ h))) (by decide +kernel))) (goodIn_sub (fun _ h => List.mem_cons_of_mem _ (List.mem_append_right _ h)) (by decide +kernel))
set_option maxRecDepth 20000 in
theorem gL_asks_X0_price : GoodIn wsL_asks (wsV RL 78 RX0 yX0_price wsX0_price) := goodIn_app (goodIn_of _ (by decide +kernel)) ggL_asks_X0_price
set_option maxRecDepth 20000 in
theorem ggL_asks_X0_changed : GoodIn wsL_asks wsX0_changed := goodIn_ca (goodIn_r _ [102, 28, 29, 6, 30, 18, 19, 103, 104, 105, 106, 107, 108, 109, 110, 111, 34, 35, 36, 37, 38, 39, 40, 41, 42, 43, 20, 21, 22, 23, 24, 44, 45, 46, 47, 48, 49, 50, 51, 52, 53, 54, 55, 56, 112, 113, 114, 115, 116, 117, 118, 119, 120, 121, 122, 123, 124, 125, 126, 127] (by decide +kernel) (by decide +kernel)) (goodIn_sub (fun _ h => List.mem_cons_of_mem _ (List.mem_append_right _ h)) (by decide +kernel))
set_option maxRecDepth 20000 in
theorem gL_asks_X0_changed : GoodIn wsL_asks (wsV RL 81 RX0 yX0_changed wsX0_changed) := goodIn_app (goodIn_of _ (by decide +kernel)) ggL_asks_X0_changed
set_option maxRecDepth 20000 in
theorem ggL_areShops_L_asks_c0 : GoodIn wsL_areShops wsL_asks_r1 := goodIn_r _ [7, 8, 9, 10, 11, 12, 13, 14, 15, 16, 17, 18, 19, 20, 21, 22, 23, 24, 25, 26, 27, 28, 29, 30] (by decide +kernel) (by decide +kernel)
set_option maxRecDepth 20000 in
theorem ggL_areShops_L_asks_c1 : GoodIn wsL_areShops wsL_asks_r2 := goodIn_r _ [31, 32, 33, 34, 35, 36, 37, 38, 39, 40, 41, 42, 43, 44, 45, 46, 47, 48, 49, 50, 51, 52, 53, 54] (by decide +kernel) (by decide +kernel)
set_option maxRecDepth 20000 in
theorem ggL_areShops_L_asks_c2 : GoodIn wsL_areShops wsL_asks_r3 := goodIn_r _ [55, 56, 57, 58, 59, 60, 61, 62, 63, 64, 65, 66, 67, 68, 69, 70, 71, 72, 73, 74, 75, 76, 77, 78] (by decide +kernel) (by decide +kernel)
set_option maxRecDepth 20000 in
theorem ggL_areShops_L_asks_c3 : GoodIn wsL_areShops wsL_asks_r4 := goodIn_r _ [79, 80, 81, 82, 83, 84, 85, 86, 87, 88, 89, 90, 91, 92, 93, 94, 95, 96, 97, 98, 99, 100, 101, 102] (by decide +kernel) (by decide +kernel)
set_option maxRecDepth 20000 in
theorem ggL_areShops_L_asks_c4 : GoodIn wsL_areShops wsL_asks_r5 := goodIn_r _ [103, 104, 105, 106, 107, 108, 109, 110, 111, 112, 113, 114, 115, 116, 117] (by decide +kernel) (by decide +kernel)
set_option maxRecDepth 20000 in
theorem ggL_areShops_L_asks_h : GoodIn wsL_areShops [Cond.codeWith yL_asks cL_asks 7 (some .int) [(0, 96, 97, 52), (0, 96, 102, 56)]] := goodIn_r _ [6] (by decide +kernel) (by decide +kernel)
set_option maxRecDepth 20000 in
theorem ggL_areShops_L_asks_x : GoodIn wsL_areShops wsX00 := goodIn_r _ [118, 119, 120, 121, 122, 123, 124, 125, 126, 127, 128, 129, 130, 131, 132, 133] (by decide +kernel) (by decide +kernel)
set_option maxRecDepth 20000 in
theorem ggL_areShops_L_asks : GoodIn wsL_areShops wsL_asks := goodIn_ca (goodIn_ca (goodIn_ca (goodIn_cc ggL_areShops_L_asks_h (goodIn_app ggL_areShops_L_asks_c0 (goodIn_app ggL_areShops_L_asks_c1 (goodIn_app ggL_areShops_L_asks_c2 (goodIn_app ggL_areShops_L_asks_c3 (ggL_areShops_L_asks_c4)))))) ggL_areShops_L_asks_x) (goodIn_sub (fun _ h => List.mem_cons_of_mem _ (List.mem_append_left _ (List.mem_append_right _ h))) (by decide +kernel))) (goodIn_sub (fun _ h => List.mem_cons_of_mem _ (List.mem_append_right _ h)) (by decide +kernel))
set_option maxRecDepth 20000 in
theorem gL_areShops_L_asks : GoodIn wsL_areShops (va_wsS RL 91 yL_asks wsL_asks) := goodIn_app (goodIn_of _ (by decide +kernel)) ggL_areShops_L_asks
set_option maxRecDepth 20000 in
theorem ggL_areShops_X0_complete : GoodIn wsL_areShops wsX0_complete := goodIn_ca (goodIn_r _ [83, 30, 34, 35, 12, 36, 24, 25, 84, 85, 86, 87, 75, 76, 77, 78, 79, 40, 41, 42, 43, 44, 45, 46, 47, 48, 49, 26, 27, 28, 29, 50, 51, 52, 53, 54, 55, 56, 57, 58, 59, 60, 61, 62, 118, 119, 120, 121, 122, 123, 124, 125, 126, 127, 128, 129, 130, 131, 132, 133] (by decide +kernel) (by decide +kernel)) (goodIn_sub (fun _ h => List.mem_cons_of_mem _ (List.mem_append_right _ h)) (by decide +kernel))
set_option maxRecDepth 20000 in
theorem gL_areShops_X0_complete : GoodIn wsL_areShops (wsV RL 75 RX0 yX0_complete wsX0_complete) := goodIn_app (goodIn_of _ (by decide +kernel)) ggL_areShops_X0_complete
set_option maxRecDepth 20000 in
theorem ggL_areShops_X0_changed : GoodIn wsL_areShops wsX0_changed := goodIn_ca (goodIn_r _ [108, 34, 35, 12, 36, 24, 25, 109, 110, 111, 112, 113, 114, 115, 116, 117, 40, 41, 42, 43, 44, 45, 46, 47, 48, 49, 26, 27, 28, 29, 30, 50, 51, 52, 53, 54, 55, 56, 57, 58, 59, 60, 61, 62, 118, 119, 120, 121, 122, 123, 124, 125, 126, 127, 128, 129, 130, 131, 132, 133] (by decide +kernel) (by decide +kernel)) (goodIn_sub (fun _ h => List.mem_cons_of_mem _ (List.mem_append_right _ h)) (by decide +kernel))
set_option maxRecDepth 20000 in
theorem gL_areShops_X0_changed : GoodIn wsL_areShops (wsV RL 81 RX0 yX0_changed wsX0_changed) := goodIn_app (goodIn_of _ (by decide +kernel)) ggL_areShops_X0_changed
set_option maxRecDepth 20000 in
theorem ggL_isDone_L_part : GoodIn wsL_isDone wsL_part := goodIn_r _ [4, 5] (by decide +kernel) (by decide +kernel)
set_option maxRecDepth 20000 in
theorem gL_isDone_L_part : GoodIn wsL_isDone (va_wsS RL 124 yL_part wsL_part) := goodIn_app (goodIn_of _ (by decide +kernel)) ggL_isDone_L_part
set_option maxRecDepth 20000 in
theorem ggL_isDone_L_does_c0 : GoodIn wsL_isDone wsL_does_r1 := goodIn_r _ [65, 66, 67, 68, 69, 70, 18, 71, 72, 73, 74, 20, 44, 75, 76, 77, 78, 24, 25, 45, 46, 47, 48, 79] (by decide +kernel) (by decide +kernel)
set_option maxRecDepth 20000 in
theorem ggL_isDone_L_does_c1 : GoodIn wsL_isDone wsL_does_r2 := goodIn_r _ [80, 81, 82, 83, 84, 85, 86, 87, 88, 89, 90, 91, 92, 93, 94, 95, 96, 97, 98, 99, 100, 101, 102, 103] (by decide +kernel) (by decide +kernel)
set_option maxRecDepth 20000 in
theorem ggL_isDone_L_does_c2 : GoodIn wsL_isDone wsL_does_r3 := goodIn_r _ [104, 3, 105, 106, 107, 108, 109, 110, 111, 112, 113, 114, 115, 116, 117, 118, 119, 120, 121, 122, 61, 123, 124, 125] (by decide +kernel) (by decide +kernel)
set_option maxRecDepth 20000 in
theorem ggL_isDone_L_does_c3 : GoodIn wsL_isDone wsL_does_r4 := goodIn_r _ [126, 127, 128, 53, 129, 130, 131, 132, 133, 134, 135, 57, 58, 59, 60, 136, 137, 138, 139, 140, 141, 142, 143, 144] (by decide +kernel) (by decide +kernel)
set_option maxRecDepth 20000 in
theorem ggL_isDone_L_does_c4 : GoodIn wsL_isDone wsL_does_r5 := goodIn_r _ [145, 146, 147, 148, 149, 150, 151, 152, 153, 154, 155, 156, 157, 158, 159, 160, 161, 162, 163, 164, 165, 166, 167, 168] (by decide +kernel) (by decide +kernel)
set_option maxRecDepth 20000 in
theorem ggL_isDone_L_does_c5 : GoodIn wsL_isDone wsL_does_r6 := goodIn_r _ [169, 170, 34, 21, 22, 23, 171, 172, 173, 174, 175, 176, 177, 178, 179, 180, 181, 182, 183, 184, 185, 186, 35, 36] (by decide +kernel) (by decide +kernel)
set_option maxRecDepth 20000 in
theorem ggL_isDone_L_does_c6 : GoodIn wsL_isDone wsL_does_r7 := goodIn_r _ [37, 38, 39, 40, 41, 42, 43, 49, 50, 51, 52, 54, 55, 56, 187, 188, 189, 190, 191, 192, 193, 194, 195, 196] (by decide +kernel) (by decide +kernel)
set_option maxRecDepth 20000 in
theorem ggL_isDone_L_does_c7 : GoodIn wsL_isDone wsL_does_r8 := goodIn_r _ [197] (by decide +kernel) (by decide +kernel)
set_option maxRecDepth 20000 in
theorem ggL_isDone_L_does_h : GoodIn wsL_isDone [Cond.codeWith yL_does cL_does 6 (some .int) [(0, 154, 155, 52), (0, 154, 160, 54), (0, 154, 165, 56)]] := goodIn_r _ [64] (by decide +kernel) (by decide +kernel)
set_option maxRecDepth 20000 in
theorem ggL_isDone_L_does_x : GoodIn wsL_isDone wsX00 := goodIn_r _ [233, 234, 235, 236, 237, 238, 239, 240, 241, 242, 243, 244, 245, 246, 247, 248] (by decide +kernel) (by decide +kernel)
set_option maxRecDepth 20000 in
theorem ggL_isDone_L_does : GoodIn wsL_isDone wsL_does := goodIn_ca (goodIn_ca (goodIn_ca (goodIn_ca (goodIn_cc ggL_isDone_L_does_h (goodIn_app ggL_isDone_L_does_c0 (goodIn_app ggL_isDone_L_does_c1 (goodIn_app ggL_isDone_L_does_c2 (goodIn_app ggL_isDone_L_does_c3 (goodIn_app ggL_isDone_L_does_c4 (goodIn_app ggL_isDone_L_does_c5 (goodIn_app ggL_isDone_L_does_c6 (ggL_isDone_L_does_c7))))))))) ggL_isDone_L_does_x) (goodIn_sub (fun _ h => List.mem_cons_of_mem _ (List.mem_append_left _ (List.mem_append_right _ h))) (by decide +kernel))) (goodIn_sub (fun _ h => List.mem_cons_of_mem _ (List.mem_append_left _ (List.mem_append_left _ (List.mem_append_right _ h)))) (by decide +kernel))) (goodIn_sub (fun _ h => List.mem_cons_of_mem _ (List.mem_append_right _ h)) (by decide +kernel))
set_option maxRecDepth 20000 in
theorem gL_isDone_L_does : GoodIn wsL_isDone (va_wsS RL 110 yL_does wsL_does) := goodIn_app (goodIn_of _ (by decide +kernel)) ggL_isDone_L_does
set_option maxRecDepth 20000 in
theorem ggL_law_X0_init : GoodIn wsL_law wsX0_init := goodIn_r _ [6, 7, 8, 9, 10, 11, 3, 12, 13, 14, 15, 16, 17, 18, 19, 20, 21, 22, 23, 24, 25, 26, 294, 295, 296, 297, 298, 299, 300, 301, 302, 303, 304, 305, 306, 307, 308, 309] (by decide +kernel) (by decide +kernel)
set_option maxRecDepth 20000 in
theorem gL_law_X0_init : GoodIn wsL_law (wsX0_init) := ggL_law_X0_init
set_option maxRecDepth 20000 in
theorem ggL_law_L_areShops_c0 : GoodIn wsL_law wsL_areShops_r1 := goodIn_r _ [31, 32, 33, 34, 29, 35, 36, 37, 38, 39, 40, 2, 41, 42, 43, 44, 45, 46, 47, 48, 49, 50, 51, 52] (by decide +kernel) (by decide +kernel)
set_option maxRecDepth 20000 in
theorem ggL_law_L_areShops_c1 : GoodIn wsL_law wsL_areShops_r2 := goodIn_r _ [53, 54, 55, 56, 57, 11, 58, 59, 60, 61, 62, 63, 64, 65, 66, 67, 68, 69, 70, 18, 71, 72, 73, 74] (by decide +kernel) (by decide +kernel)
set_option maxRecDepth 20000 in
theorem ggL_law_L_areShops_c2 : GoodIn wsL_law wsL_areShops_r3 := goodIn_r _ [12, 75, 76, 77, 78, 23, 79, 80, 81, 82, 83, 84, 85, 21, 86, 87, 88, 89, 90, 91, 92, 93, 94, 95] (by decide +kernel) (by decide +kernel)
set_option maxRecDepth 20000 in
theorem ggL_law_L_areShops_c3 : GoodIn wsL_law wsL_areShops_r4 := goodIn_r _ [96, 97, 98, 99, 100, 101, 24, 102, 103, 104, 105, 106, 107, 108, 109, 110, 111, 112, 113, 114, 115, 116, 117, 26] (by decide +kernel) (by decide +kernel)
set_option maxRecDepth 20000 in
theorem ggL_law_L_areShops_c4 : GoodIn wsL_law wsL_areShops_r5 := goodIn_r _ [118, 119, 120, 121, 14, 13, 122, 123, 124, 125, 126, 127, 128, 129, 130, 131, 132, 133, 134, 135, 25] (by decide +kernel) (by decide +kernel)
set_option maxRecDepth 20000 in
theorem ggL_law_L_areShops_h : GoodIn wsL_law [Cond.code yL_areShops cL_areShops 17 (some .boolean)] := goodIn_r _ [30] (by decide +kernel) (by decide +kernel)
set_option maxRecDepth 20000 in
theorem ggL_law_L_areShops_x : GoodIn wsL_law wsX00 := goodIn_r _ [294, 295, 296, 297, 298, 299, 300, 301, 302, 303, 304, 305, 306, 307, 308, 309] (by decide +kernel) (by decide +kernel)
set_option maxRecDepth 20000 in
theorem ggL_law_L_areShops : GoodIn wsL_law wsL_areShops := goodIn_ca (goodIn_ca (goodIn_ca (goodIn_cc ggL_law_L_areShops_h (goodIn_app ggL_law_L_areShops_c0 (goodIn_app ggL_law_L_areShops_c1 (goodIn_app ggL_law_L_areShops_c2 (goodIn_app ggL_law_L_areShops_c3 (ggL_law_L_areShops_c4)))))) ggL_law_L_areShops_x) (goodIn_sub (fun _ h => List.mem_append_left _ (List.mem_append_left _ (List.mem_append_right _ h))) (by decide +kernel))) (goodIn_sub (fun _ h => List.mem_append_left _ (List.mem_append_right _ h)) (by decide +kernel))
set_option maxRecDepth 20000 in
theorem gL_law_L_areShops : GoodIn wsL_law (va_wsS RL 144 yL_areShops wsL_areShops) := goodIn_app (goodIn_of _ (by decide +kernel)) ggL_law_L_areShops
set_option maxRecDepth 20000 in
theorem ggL_law_L_isDone_c0 : GoodIn wsL_law wsL_isDone_r1 := goodIn_r _ [139, 140, 29, 141, 142, 143, 144, 145, 146, 147, 148, 149, 150, 151, 102, 103, 104, 2, 105, 11, 61, 62, 63, 52] (by decide +kernel) (by decide +kernel)
set_option maxRecDepth 20000 in
theorem ggL_law_L_isDone_c1 : GoodIn wsL_law wsL_isDone_r2 := goodIn_r _ [53, 106, 107, 108, 109, 98, 99, 100, 101, 24, 67, 68, 69, 70, 18, 71, 72, 73, 74, 12, 54, 55, 56, 57] (by decide +kernel) (by decide +kernel)
set_option maxRecDepth 20000 in
theorem ggL_law_L_isDone_c2 : GoodIn wsL_law wsL_isDone_r3 := goodIn_r _ [75, 76, 77, 78, 23, 79, 80, 81, 82, 83, 84, 85, 21, 152, 153, 154, 36, 155, 37, 156, 157, 158, 159, 42] (by decide +kernel) (by decide +kernel)
set_option maxRecDepth 20000 in
theorem ggL_law_L_isDone_c3 : GoodIn wsL_law wsL_isDone_r4 := goodIn_r _ [43, 15, 160, 161, 162, 163, 164, 165, 166, 167, 168, 169, 170, 171, 48, 49, 50, 51, 172, 173, 174, 175, 176, 177] (by decide +kernel) (by decide +kernel)
set_option maxRecDepth 20000 in
theorem ggL_law_L_isDone_c4 : GoodIn wsL_law wsL_isDone_r5 := goodIn_r _ [178, 179, 180, 181, 182, 183, 184, 185, 186, 187, 188, 189, 190, 14, 191, 192, 193, 194, 195, 196, 197, 198, 199, 200] (by decide +kernel) (by decide +kernel)
set_option maxRecDepth 20000 in
theorem ggL_law_L_isDone_c5 : GoodIn wsL_law wsL_isDone_r6 := goodIn_r _ [201, 202, 16, 20, 203, 204, 205, 206, 19, 22, 207, 208, 209, 210, 17, 211, 212, 213, 214, 215, 216, 217, 218, 219] (by decide +kernel) (by decide +kernel)
set_option maxRecDepth 20000 in
theorem ggL_law_L_isDone_c6 : GoodIn wsL_law wsL_isDone_r7 := goodIn_r _ [220, 13, 221, 222, 223, 224, 225, 226, 227, 228, 229, 230, 231, 232, 233, 234, 235, 236, 237, 238, 239, 240, 241, 242] (by decide +kernel) (by decide +kernel)
set_option maxRecDepth 20000 in
theorem ggL_law_L_isDone_c7 : GoodIn wsL_law wsL_isDone_r8 := goodIn_r _ [243, 244, 58, 59, 60, 245, 246, 247, 248, 128, 129, 130, 131, 132, 133, 134, 135, 25, 249, 250, 251, 252, 253, 254] (by decide +kernel) (by decide +kernel)
set_option maxRecDepth 20000 in
theorem ggL_law_L_isDone_c8 : GoodIn wsL_law wsL_isDone_r9 := goodIn_r _ [255, 256, 257, 258, 259, 260, 261, 262, 263, 264, 265, 266, 267, 268, 269, 270, 271, 272, 273, 274, 275, 276, 277, 278] (by decide +kernel) (by decide +kernel)
set_option maxRecDepth 20000 in
theorem ggL_law_L_isDone_c9 : GoodIn wsL_law wsL_isDone_r10 := goodIn_r _ [279, 280, 281, 64, 65, 66, 282, 283, 284, 285, 286, 287, 124, 125, 126, 127] (by decide +kernel) (by decide +kernel)
set_option maxRecDepth 20000 in
theorem ggL_law_L_isDone_h : GoodIn wsL_law [Cond.code yL_isDone cL_isDone 17 (some .boolean)] := goodIn_r _ [138] (by decide +kernel) (by decide +kernel)
set_option maxRecDepth 20000 in
theorem ggL_law_L_isDone_x : GoodIn wsL_law wsX00 := goodIn_r _ [294, 295, 296, 297, 298, 299, 300, 301, 302, 303, 304, 305, 306, 307, 308, 309] (by decide +kernel) (by decide +kernel)
set_option maxRecDepth 20000 in
theorem ggL_law_L_isDone : GoodIn wsL_law wsL_isDone := goodIn_ca (goodIn_ca (goodIn_ca (goodIn_ca (goodIn_cc ggL_law_L_isDone_h (goodIn_app ggL_law_L_isDone_c0 (goodIn_app ggL_law_L_isDone_c1 (goodIn_app ggL_law_L_isDone_c2 (goodIn_app ggL_law_L_isDone_c3 (goodIn_app ggL_law_L_isDone_c4 (goodIn_app ggL_law_L_isDone_c5 (goodIn_app ggL_law_L_isDone_c6 (goodIn_app ggL_law_L_isDone_c7 (goodIn_app ggL_law_L_isDone_c8 (ggL_law_L_isDone_c9))))))))))) ggL_law_L_isDone_x) (goodIn_sub (fun _ h => List.mem_append_left _ (List.mem_append_right _ h)) (by decide +kernel))) (goodIn_sub (fun _ h => List.mem_append_left _ (List.mem_append_left _ (List.mem_append_right _ h))) (by decide +kernel))) (goodIn_sub (fun _ h => List.mem_append_right _ h) (by decide +kernel))
set_option maxRecDepth 20000 in
theorem gL_law_L_isDone : GoodIn wsL_law (va_wsS RL 148 yL_isDone wsL_isDone) := goodIn_app (goodIn_of _ (by decide +kernel)) ggL_law_L_isDone
end
section
theorem PR_0 : PR (cle (fun _ => some 0) 16) := fun g hg k e => by
  rw [show cle (fun _ => some 0) 16 g = none from if_pos hg] at e; cases e
theorem HO_0 {dc : Nat} : HO (cle (fun _ => some 0) 1536) dc := fun q hq k e => by
  rw [show cle (fun _ => some 0) 1536 q = none from if_pos hq] at e; cases e
theorem DV_0 : DV (fun _ => some 0) 0 := fun k hk => absurd hk (Nat.not_lt_zero k)
theorem SE_0 : ∀ k, k < 864 → ∀ v, cle (fun _ => some 0) 864 k = some v → v ≤ 100000 := fun k hk v e => by
  rw [show cle (fun _ => some 0) 864 k = none from if_pos hk] at e; cases e
theorem cpl_0 {sp : Nat} {pa ho dv : Nat → Option Nat} {ak : Nat → Bool} : cnt (cpl (fun _ => false) pa ho dv ak sp) 16 = 0 := rfl
theorem lkd_0 {sp : Nat} {pa ho dv : Nat → Option Nat} (h : sp < 3) : bset (lkd (fun _ => false) pa ho dv (cle (fun _ => some 0) 864) sp) 16 = 0 := bset_ex.mpr (exU_no.mpr (fun g hg => exU_no.mpr (fun j hj => by
  unfold lkj
  rw [vlu_dead rfl, show cle (fun _ => some 0) 864 (sp * 288 + g * 18 + j) = none from if_pos (by omega)]
  exact decide_eq_false (fun z => z rfl))))
theorem tP_preH {D : va_G} {w : va_W} {ty : List (ClassId × FieldType)} {av : List Value} {s : State} {H : Heap} {A : Nat → Prop} (hP : va_P D vwCl w H) (hK : va_K D vwCl ty s) (hE : tEA A s H) : ∀ U : State, U.heap = H → s.WarmedH U.vm → tP D w ty av av.toArray U :=
  fun U hU hW => ⟨rfl, by rw [hU]; exact hP, va_K.moved hW.alike hK, tEA_warm (A := nF) hW hU (tEA_na hE (fun q h => h.elim))⟩
/-- a start from which the script can be read too -/
def oP (D : va_G) (w : va_W) (ty : List (ClassId × FieldType)) (b L : Nat) (xs : Nat → Int32) (av : List Value) : Array Value → State → Prop := va_Pc av (fun U => va_P D vwCl w U.heap ∧ va_K D vwCl ty U ∧ tE U ∧ va_X b L xs U U.heap)
theorem oP_blind {D : va_G} {w : va_W} {ty : List (ClassId × FieldType)} {b L : Nat} {xs : Nat → Int32} {av : List Value} : FrameBlind (oP D w ty b L xs av) := fun a U g mk q => by
  obtain ⟨q0, qP, qK, qE, qX⟩ := q
  exact ⟨q0, qP, va_K.moved (u := U) (U := U.calling g mk a) (Vm.Alike.refl U.vm) qK, tE_calling qE, va_X.moved (u := U) (U := U.calling g mk a) (Vm.Alike.refl U.vm) qX⟩
theorem oP_preH {D : va_G} {w : va_W} {ty : List (ClassId × FieldType)} {b L : Nat} {xs : Nat → Int32} {av : List Value} {s : State} {H : Heap} {A : Nat → Prop} (hP : va_P D vwCl w H) (hK : va_K D vwCl ty s) (hE : tEA A s H) (hX : va_X b L xs s H) : ∀ U : State, U.heap = H → s.WarmedH U.vm → oP D w ty b L xs av av.toArray U :=
  fun U hU hW => ⟨rfl, by rw [hU]; exact hP, va_K.moved hW.alike hK, tEA_warm (A := nF) hW hU (tEA_na hE (fun q h => h.elim)), by rw [hU]; exact va_X.moved hW.alike hX⟩
/-- the script, to be read alone -/
def sX (b L : Nat) (xs : Nat → Int32) (av : List Value) : Array Value → State → Prop := va_Pc av (fun U => va_X b L xs U U.heap)
theorem sX_blind {b L : Nat} {xs : Nat → Int32} {av : List Value} : FrameBlind (sX b L xs av) := fun a U g mk q => ⟨q.1, va_X.moved (u := U) (U := U.calling g mk a) (Vm.Alike.refl U.vm) q.2⟩
theorem sX_preH {b L : Nat} {xs : Nat → Int32} {av : List Value} {s : State} {H : Heap} (hX : va_X b L xs s H) : ∀ U : State, U.heap = H → s.WarmedH U.vm → sX b L xs av av.toArray U :=
  fun U hU hW => ⟨rfl, by show va_X b L xs U U.heap; rw [hU]; exact va_X.moved hW.alike hX⟩
theorem va_X_lt {b L : Nat} {xs : Nat → Int32} {U : State} {H : Heap} (h : va_X b L xs U H) : b < H.size := by
  obtain ⟨scr, h1, -⟩ := h
  exact (Array.getElem?_eq_some_iff.mp h1).1
end
section
set_option maxHeartbeats 4000000 in
set_option maxRecDepth 100000 in
theorem kL_asks4 (l : Launch) (D : va_G) (h : Nat) (ad : Nat → Nat) (cI cZ : ClassId) (hlf : l.stackTraces = false) : Met l yL_asks wsL_asks ({ frames := 8, cells := 1, slots := 6, locals := 125 } : Room) (tP D (hWi h ad cI cZ) (hT cI cZ) [.ref h, .int (nI 4), .int (nI 3), .int (nI 0), .int (nI 0), .int (nI 0)]) (rQ (.int (-30)) 1) 1 6 nF := by
  refine mt_ofWH (cc := cL_asks) (maxL := 7) (ret := (some .int)) (by decide) rfl ?_
  intro p e s m args below meth c s₁ B hml htab hv
  obtain ⟨rfl, hP, hK, hE⟩ := hv
  have hx := B.exec
  have hb := B.bytes
  have hr := B.returns
  have hts := atoms_spec (ws := wsL_asks) B.pre
  have hown : s.vm.findClass RL = some m.cls := findClass_of_methodNamed B.named
  have hlocks := B.notSynchronized
  have hl := lv_entry ([.ref h, .int (nI 4), .int (nI 3), .int (nI 0), .int (nI 0), .int (nI 0)]) (n := 7) (Nat.le_of_ble_eq_true rfl)
  rw [lg_entry_eq]
  generalize (lg_sl ([.ref h, .int (nI 4), .int (nI 3), .int (nI 0), .int (nI 0), .int (nI 0)]) ++ List.replicate (7 - (lg_sl ([.ref h, .int (nI 4), .int (nI 3), .int (nI 0), .int (nI 0), .int (nI 0)])).length) Slot.unset).toArray = ls at hl ⊢
  have hl : lv_has ls 7 [(0, .ref h), (1, .int (nI 4)), (2, .int (nI 3)), (3, .int (nI 0)), (4, .int (nI 0)), (5, .int (nI 0))] := hl
  refine lv_iload_n hx hb dL_asks_0 rfl (lv_at hl 1 rfl) ?_
  refine lv_if_ne (tgt := 17) hx hb dL_asks_1 (by decide) (fun _ => ?_) (fun z => (show False by revert z; decide).elim)
  refine lv_iload_n hx hb dL_asks_17 rfl (lv_at hl 1 rfl) ?_
  refine lv_iconst (v := (nI 1)) hx hb dL_asks_18 (by decide) ?_
  refine lv_icmp_ne (tgt := 35) hx hb dL_asks_19 (by decide) (fun _ => ?_) (fun z => (show False by revert z; decide).elim)
  refine lv_iload_n hx hb dL_asks_35 rfl (lv_at hl 1 rfl) ?_
  refine lv_iconst (v := (nI 2)) hx hb dL_asks_36 (by decide) ?_
  refine lv_icmp_ne (tgt := 48) hx hb dL_asks_37 (by decide) (fun _ => ?_) (fun z => (show False by revert z; decide).elim)
  refine lv_iload_n hx hb dL_asks_48 rfl (lv_at hl 1 rfl) ?_
  refine lv_iconst (v := (nI 3)) hx hb dL_asks_49 (by decide) ?_
  refine lv_icmp_ne (tgt := 64) hx hb dL_asks_50 (by decide) (fun _ => ?_) (fun z => (show False by revert z; decide).elim)
  refine lv_iload_n hx hb dL_asks_64 rfl (lv_at hl 1 rfl) ?_
  refine lv_iconst (v := (nI 4)) hx hb dL_asks_65 (by decide) ?_
  refine lv_icmp_ne (tgt := 77) hx hb dL_asks_66 (by decide) (fun z => (show False by revert z; decide).elim) (fun _ => ?_)
  refine lv_aload_n hx hb dL_asks_69 rfl (lv_at hl 0 rfl) ?_
  refine lv_iload_n hx hb dL_asks_70 rfl (lv_at hl 2 rfl) ?_
  refine q_catchS (vx_runV (As := [.int (nI 3)]) (rest := []) ⟨hx, hb, hml, hown, hts⟩ (kX0_completeXI l D h ad cI cZ (fun _ => false) (cle (fun _ => some 0) 16) (fun _ => 0) (fun _ => 0) 0 (fun _ => 0) (fun _ => 0) (fun _ => some 0) (fun _ => 0) (fun _ => 0) 0 0 (cle (fun _ => some 0) 1536) (fun _ => false) (cle (fun _ => some 0) 864) (fun _ => some 0) hlf (nI 3) (Or.inr (by decide))) (cwV 1 hts gL_asks_X0_complete rfl rfl rfl (by decide +kernel) ⟨Nat.le_of_ble_eq_true rfl, Nat.le_of_ble_eq_true rfl⟩) ⟨tP_blind, va_recv hK hP (ci := 0) (q0 := 0) rfl rfl, tP_pre hP hK hE⟩ rfl rfl hl.1 rfl (lv_room (Nat.le_of_ble_eq_true rfl)) dL_asks_71 ⟨Nat.le_of_ble_eq_true rfl, Nat.le_of_ble_eq_true rfl⟩) (fun H ce q9 h1 h2 h3 h4 h5 => ?_)
  obtain ⟨t0, ht0, htab⟩ := tab_c htab
  refine vx_catch (own := RL) (name := "java/lang/IndexOutOfBoundsException") (E := "java/lang/IndexOutOfBoundsException") hown [] ⟨0, 96, 97, 52⟩ t0 ht0 (fun z hz => by cases hz) (by decide) (by decide) (hts (.classLink RL 52 "java/lang/IndexOutOfBoundsException") (by decide +kernel)) (va_Nw.use rfl (hE.2.2.2.1 "java/lang/IndexOutOfBoundsException" (by decide))) h3 h4 h5 ?_
  refine lv_astore (lv' := [(6, .ref q9), (0, .ref h), (1, .int (nI 4)), (2, .int (nI 3)), (3, .int (nI 0)), (4, .int (nI 0)), (5, .int (nI 0))]) hx hb dL_asks_97 hl (by decide) rfl (fun ls hl => ?_)
  refine lv_bipush (v := (-30)) hx hb dL_asks_99 (by decide) ?_
  exact q_rret hx hb hr hlocks h1 h2 dL_asks_101

set_option maxHeartbeats 4000000 in
set_option maxRecDepth 100000 in
theorem kL_asks5 (l : Launch) (D : va_G) (h : Nat) (ad : Nat → Nat) (cI cZ : ClassId) (hlf : l.stackTraces = false) : Met l yL_asks wsL_asks ({ frames := 8, cells := 1, slots := 6, locals := 126 } : Room) (tP D (hWi h ad cI cZ) (hT cI cZ) [.ref h, .int (nI 5), .int (nI 0), .int (nI 3), .int (nI 0), .int (nI 0)]) (rQ (.int (-30)) 1) 1 6 nF := by
  refine mt_ofWH (cc := cL_asks) (maxL := 7) (ret := (some .int)) (by decide) rfl ?_
  intro p e s m args below meth c s₁ B hml htab hv
  obtain ⟨rfl, hP, hK, hE⟩ := hv
  have hx := B.exec
  have hb := B.bytes
  have hr := B.returns
  have hts := atoms_spec (ws := wsL_asks) B.pre
  have hown : s.vm.findClass RL = some m.cls := findClass_of_methodNamed B.named
  have hlocks := B.notSynchronized
  have hl := lv_entry ([.ref h, .int (nI 5), .int (nI 0), .int (nI 3), .int (nI 0), .int (nI 0)]) (n := 7) (Nat.le_of_ble_eq_true rfl)
  rw [lg_entry_eq]
  generalize (lg_sl ([.ref h, .int (nI 5), .int (nI 0), .int (nI 3), .int (nI 0), .int (nI 0)]) ++ List.replicate (7 - (lg_sl ([.ref h, .int (nI 5), .int (nI 0), .int (nI 3), .int (nI 0), .int (nI 0)])).length) Slot.unset).toArray = ls at hl ⊢
  have hl : lv_has ls 7 [(0, .ref h), (1, .int (nI 5)), (2, .int (nI 0)), (3, .int (nI 3)), (4, .int (nI 0)), (5, .int (nI 0))] := hl
  refine lv_iload_n hx hb dL_asks_0 rfl (lv_at hl 1 rfl) ?_
  refine lv_if_ne (tgt := 17) hx hb dL_asks_1 (by decide) (fun _ => ?_) (fun z => (show False by revert z; decide).elim)
  refine lv_iload_n hx hb dL_asks_17 rfl (lv_at hl 1 rfl) ?_
  refine lv_iconst (v := (nI 1)) hx hb dL_asks_18 (by decide) ?_
  refine lv_icmp_ne (tgt := 35) hx hb dL_asks_19 (by decide) (fun _ => ?_) (fun z => (show False by revert z; decide).elim)
  refine lv_iload_n hx hb dL_asks_35 rfl (lv_at hl 1 rfl) ?_
  refine lv_iconst (v := (nI 2)) hx hb dL_asks_36 (by decide) ?_
  refine lv_icmp_ne (tgt := 48) hx hb dL_asks_37 (by decide) (fun _ => ?_) (fun z => (show False by revert z; decide).elim)
  refine lv_iload_n hx hb dL_asks_48 rfl (lv_at hl 1 rfl) ?_
  refine lv_iconst (v := (nI 3)) hx hb dL_asks_49 (by decide) ?_
  refine lv_icmp_ne (tgt := 64) hx hb dL_asks_50 (by decide) (fun _ => ?_) (fun z => (show False by revert z; decide).elim)
  refine lv_iload_n hx hb dL_asks_64 rfl (lv_at hl 1 rfl) ?_
  refine lv_iconst (v := (nI 4)) hx hb dL_asks_65 (by decide) ?_
  refine lv_icmp_ne (tgt := 77) hx hb dL_asks_66 (by decide) (fun _ => ?_) (fun z => (show False by revert z; decide).elim)
  refine lv_iload_n hx hb dL_asks_77 rfl (lv_at hl 1 rfl) ?_
  refine lv_iconst (v := (nI 5)) hx hb dL_asks_78 (by decide) ?_
  refine lv_icmp_ne (tgt := 91) hx hb dL_asks_79 (by decide) (fun z => (show False by revert z; decide).elim) (fun _ => ?_)
  refine lv_aload_n hx hb dL_asks_82 rfl (lv_at hl 0 rfl) ?_
  refine lv_iload_n hx hb dL_asks_83 rfl (lv_at hl 2 rfl) ?_
  refine lv_iload_n hx hb dL_asks_84 rfl (lv_at hl 3 rfl) ?_
  refine q_catchS (vx_runV (As := [.int (nI 0), .int (nI 3)]) (rest := []) ⟨hx, hb, hml, hown, hts⟩ (kX0_priceXI l D h ad cI cZ (fun _ => false) (cle (fun _ => some 0) 16) (fun _ => 0) (fun _ => 0) 0 (fun _ => 0) (fun _ => 0) (fun _ => some 0) (fun _ => 0) (fun _ => 0) 0 0 (cle (fun _ => some 0) 1536) (fun _ => false) (cle (fun _ => some 0) 864) (fun _ => some 0) hlf (nI 0) (nI 3) (Or.inl (fun j _ _ => rfl))) (cwV 2 hts gL_asks_X0_price rfl rfl rfl (by decide +kernel) ⟨Nat.le_of_ble_eq_true rfl, Nat.le_of_ble_eq_true rfl⟩) ⟨tP_blind, va_recv hK hP (ci := 0) (q0 := 0) rfl rfl, tP_pre hP hK hE⟩ rfl rfl hl.1 rfl (lv_room (Nat.le_of_ble_eq_true rfl)) dL_asks_85 ⟨Nat.le_of_ble_eq_true rfl, Nat.le_of_ble_eq_true rfl⟩) (fun H ce q9 h1 h2 h3 h4 h5 => ?_)
  obtain ⟨t0, ht0, htab⟩ := tab_c htab
  refine vx_catch (own := RL) (name := "java/lang/IndexOutOfBoundsException") (E := "java/lang/IndexOutOfBoundsException") hown [] ⟨0, 96, 97, 52⟩ t0 ht0 (fun z hz => by cases hz) (by decide) (by decide) (hts (.classLink RL 52 "java/lang/IndexOutOfBoundsException") (by decide +kernel)) (va_Nw.use rfl (hE.2.2.2.1 "java/lang/IndexOutOfBoundsException" (by decide))) h3 h4 h5 ?_
  refine lv_astore (lv' := [(6, .ref q9), (0, .ref h), (1, .int (nI 5)), (2, .int (nI 0)), (3, .int (nI 3)), (4, .int (nI 0)), (5, .int (nI 0))]) hx hb dL_asks_97 hl (by decide) rfl (fun ls hl => ?_)
  refine lv_bipush (v := (-30)) hx hb dL_asks_99 (by decide) ?_
  exact q_rret hx hb hr hlocks h1 h2 dL_asks_101

set_option maxHeartbeats 4000000 in
set_option maxRecDepth 100000 in
theorem kL_asks6 (l : Launch) (D : va_G) (h : Nat) (ad : Nat → Nat) (cI cZ : ClassId) (hlf : l.stackTraces = false) : Met l yL_asks wsL_asks ({ frames := 8, cells := 1, slots := 6, locals := 123 } : Room) (tP D (hWi h ad cI cZ) (hT cI cZ) [.ref h, .int (nI 6), .int (-1), .int (nI 0), .int (nI 0), .int (nI 0)]) (rQ (.int (-30)) 1) 1 6 nF := by
  refine mt_ofWH (cc := cL_asks) (maxL := 7) (ret := (some .int)) (by decide) rfl ?_
  intro p e s m args below meth c s₁ B hml htab hv
  obtain ⟨rfl, hP, hK, hE⟩ := hv
  have hx := B.exec
  have hb := B.bytes
  have hr := B.returns
  have hts := atoms_spec (ws := wsL_asks) B.pre
  have hown : s.vm.findClass RL = some m.cls := findClass_of_methodNamed B.named
  have hlocks := B.notSynchronized
  have hl := lv_entry ([.ref h, .int (nI 6), .int (-1), .int (nI 0), .int (nI 0), .int (nI 0)]) (n := 7) (Nat.le_of_ble_eq_true rfl)
  rw [lg_entry_eq]
  generalize (lg_sl ([.ref h, .int (nI 6), .int (-1), .int (nI 0), .int (nI 0), .int (nI 0)]) ++ List.replicate (7 - (lg_sl ([.ref h, .int (nI 6), .int (-1), .int (nI 0), .int (nI 0), .int (nI 0)])).length) Slot.unset).toArray = ls at hl ⊢
  have hl : lv_has ls 7 [(0, .ref h), (1, .int (nI 6)), (2, .int (-1)), (3, .int (nI 0)), (4, .int (nI 0)), (5, .int (nI 0))] := hl
  refine lv_iload_n hx hb dL_asks_0 rfl (lv_at hl 1 rfl) ?_
  refine lv_if_ne (tgt := 17) hx hb dL_asks_1 (by decide) (fun _ => ?_) (fun z => (show False by revert z; decide).elim)
  refine lv_iload_n hx hb dL_asks_17 rfl (lv_at hl 1 rfl) ?_
  refine lv_iconst (v := (nI 1)) hx hb dL_asks_18 (by decide) ?_
  refine lv_icmp_ne (tgt := 35) hx hb dL_asks_19 (by decide) (fun _ => ?_) (fun z => (show False by revert z; decide).elim)
  refine lv_iload_n hx hb dL_asks_35 rfl (lv_at hl 1 rfl) ?_
  refine lv_iconst (v := (nI 2)) hx hb dL_asks_36 (by decide) ?_
  refine lv_icmp_ne (tgt := 48) hx hb dL_asks_37 (by decide) (fun _ => ?_) (fun z => (show False by revert z; decide).elim)
  refine lv_iload_n hx hb dL_asks_48 rfl (lv_at hl 1 rfl) ?_
  refine lv_iconst (v := (nI 3)) hx hb dL_asks_49 (by decide) ?_
  refine lv_icmp_ne (tgt := 64) hx hb dL_asks_50 (by decide) (fun _ => ?_) (fun z => (show False by revert z; decide).elim)
  refine lv_iload_n hx hb dL_asks_64 rfl (lv_at hl 1 rfl) ?_
  refine lv_iconst (v := (nI 4)) hx hb dL_asks_65 (by decide) ?_
  refine lv_icmp_ne (tgt := 77) hx hb dL_asks_66 (by decide) (fun _ => ?_) (fun z => (show False by revert z; decide).elim)
  refine lv_iload_n hx hb dL_asks_77 rfl (lv_at hl 1 rfl) ?_
  refine lv_iconst (v := (nI 5)) hx hb dL_asks_78 (by decide) ?_
  refine lv_icmp_ne (tgt := 91) hx hb dL_asks_79 (by decide) (fun _ => ?_) (fun z => (show False by revert z; decide).elim)
  refine lv_aload_n hx hb dL_asks_91 rfl (lv_at hl 0 rfl) ?_
  refine lv_iload_n hx hb dL_asks_92 rfl (lv_at hl 2 rfl) ?_
  refine q_catchS (vx_runV (As := [.int (-1)]) (rest := []) ⟨hx, hb, hml, hown, hts⟩ (kX0_changedXI l D h ad cI cZ (fun _ => false) (cle (fun _ => some 0) 16) (fun _ => 0) (fun _ => 0) 0 (fun _ => 0) (fun _ => 0) (fun _ => some 0) (fun _ => 0) (fun _ => 0) 0 0 (cle (fun _ => some 0) 1536) (fun _ => false) (cle (fun _ => some 0) 864) (fun _ => some 0) hlf (-1) (Or.inl (by decide))) (cwV 1 hts gL_asks_X0_changed rfl rfl rfl (by decide +kernel) ⟨Nat.le_of_ble_eq_true rfl, Nat.le_of_ble_eq_true rfl⟩) ⟨tP_blind, va_recv hK hP (ci := 0) (q0 := 0) rfl rfl, tP_pre hP hK hE⟩ rfl rfl hl.1 rfl (lv_room (Nat.le_of_ble_eq_true rfl)) dL_asks_93 ⟨Nat.le_of_ble_eq_true rfl, Nat.le_of_ble_eq_true rfl⟩) (fun H ce q9 h1 h2 h3 h4 h5 => ?_)
  obtain ⟨t0, ht0, htab⟩ := tab_c htab
  refine vx_catch (own := RL) (name := "java/lang/IndexOutOfBoundsException") (E := "java/lang/IndexOutOfBoundsException") hown [] ⟨0, 96, 97, 52⟩ t0 ht0 (fun z hz => by cases hz) (by decide) (by decide) (hts (.classLink RL 52 "java/lang/IndexOutOfBoundsException") (by decide +kernel)) (va_Nw.use rfl (hE.2.2.2.1 "java/lang/IndexOutOfBoundsException" (by decide))) h3 h4 h5 ?_
  refine lv_astore (lv' := [(6, .ref q9), (0, .ref h), (1, .int (nI 6)), (2, .int (-1)), (3, .int (nI 0)), (4, .int (nI 0)), (5, .int (nI 0))]) hx hb dL_asks_97 hl (by decide) rfl (fun ls hl => ?_)
  refine lv_bipush (v := (-30)) hx hb dL_asks_99 (by decide) ?_
  exact q_rret hx hb hr hlocks h1 h2 dL_asks_101

set_option maxHeartbeats 4000000 in
set_option maxRecDepth 100000 in
theorem kL_asks0 (l : Launch) (D : va_G) (h : Nat) (ad : Nat → Nat) (cI cZ : ClassId) (hlf : l.stackTraces = false) : Met l yL_asks wsL_asks ({ frames := 9, cells := 1, slots := 6, locals := 152 } : Room) (tP D (hWi h ad cI cZ) (hT cI cZ) [.ref h, .int (nI 0), .int (nI 0), .int (nI 0), .int (nI 0), .int (nI 0)]) (rQ (.int (-30)) 1) 1 6 nF := by
  refine mt_ofWH (cc := cL_asks) (maxL := 7) (ret := (some .int)) (by decide) rfl ?_
  intro p e s m args below meth c s₁ B hml htab hv
  obtain ⟨rfl, hP, hK, hE⟩ := hv
  have hx := B.exec
  have hb := B.bytes
  have hr := B.returns
  have hts := atoms_spec (ws := wsL_asks) B.pre
  have hown : s.vm.findClass RL = some m.cls := findClass_of_methodNamed B.named
  have hlocks := B.notSynchronized
  have hl := lv_entry ([.ref h, .int (nI 0), .int (nI 0), .int (nI 0), .int (nI 0), .int (nI 0)]) (n := 7) (Nat.le_of_ble_eq_true rfl)
  rw [lg_entry_eq]
  generalize (lg_sl ([.ref h, .int (nI 0), .int (nI 0), .int (nI 0), .int (nI 0), .int (nI 0)]) ++ List.replicate (7 - (lg_sl ([.ref h, .int (nI 0), .int (nI 0), .int (nI 0), .int (nI 0), .int (nI 0)])).length) Slot.unset).toArray = ls at hl ⊢
  have hl : lv_has ls 7 [(0, .ref h), (1, .int (nI 0)), (2, .int (nI 0)), (3, .int (nI 0)), (4, .int (nI 0)), (5, .int (nI 0))] := hl
  refine lv_iload_n hx hb dL_asks_0 rfl (lv_at hl 1 rfl) ?_
  refine lv_if_ne (tgt := 17) hx hb dL_asks_1 (by decide) (fun z => (show False by revert z; decide).elim) (fun _ => ?_)
  refine lv_aload_n hx hb dL_asks_4 rfl (lv_at hl 0 rfl) ?_
  refine lv_iload_n hx hb dL_asks_5 rfl (lv_at hl 2 rfl) ?_
  refine lv_iload_n hx hb dL_asks_6 rfl (lv_at hl 3 rfl) ?_
  refine lv_iload hx hb dL_asks_7 (lv_at hl 4 rfl) ?_
  refine lv_iload hx hb dL_asks_9 (lv_at hl 5 rfl) ?_
  refine q_catchS (vx_runV (As := [.int (nI 0), .int (nI 0), .int (nI 0), .int (nI 0)]) (rest := []) ⟨hx, hb, hml, hown, hts⟩ (kX0_valueXI l D h ad cI cZ (fun _ => false) (cle (fun _ => some 0) 16) (fun _ => 0) (fun _ => 0) 0 (fun _ => 0) (fun _ => 0) (fun _ => some 0) (fun _ => 0) (fun _ => 0) 0 0 (cle (fun _ => some 0) 1536) (fun _ => false) (cle (fun _ => some 0) 864) (fun _ => some 0) hlf (nI 0) (nI 0) (nI 0) (nI 0) (Or.inl (fun j _ _ => rfl))) (cwV 4 hts gL_asks_X0_value rfl rfl rfl (by decide +kernel) ⟨Nat.le_of_ble_eq_true rfl, Nat.le_of_ble_eq_true rfl⟩) ⟨tP_blind, va_recv hK hP (ci := 0) (q0 := 0) rfl rfl, tP_pre hP hK hE⟩ rfl rfl hl.1 rfl (lv_room (Nat.le_of_ble_eq_true rfl)) dL_asks_11 ⟨Nat.le_of_ble_eq_true rfl, Nat.le_of_ble_eq_true rfl⟩) (fun H ce q9 h1 h2 h3 h4 h5 => ?_)
  obtain ⟨t0, ht0, htab⟩ := tab_c htab
  refine vx_catch (own := RL) (name := "java/lang/IndexOutOfBoundsException") (E := "java/lang/IndexOutOfBoundsException") hown [] ⟨0, 96, 97, 52⟩ t0 ht0 (fun z hz => by cases hz) (by decide) (by decide) (hts (.classLink RL 52 "java/lang/IndexOutOfBoundsException") (by decide +kernel)) (va_Nw.use rfl (hE.2.2.2.1 "java/lang/IndexOutOfBoundsException" (by decide))) h3 h4 h5 ?_
  refine lv_astore (lv' := [(6, .ref q9), (0, .ref h), (1, .int (nI 0)), (2, .int (nI 0)), (3, .int (nI 0)), (4, .int (nI 0)), (5, .int (nI 0))]) hx hb dL_asks_97 hl (by decide) rfl (fun ls hl => ?_)
  refine lv_bipush (v := (-30)) hx hb dL_asks_99 (by decide) ?_
  exact q_rret hx hb hr hlocks h1 h2 dL_asks_101

set_option maxHeartbeats 4000000 in
set_option maxRecDepth 100000 in
theorem kL_asks1 (l : Launch) (D : va_G) (h : Nat) (ad : Nat → Nat) (cI cZ : ClassId) (hlf : l.stackTraces = false) : Met l yL_asks wsL_asks ({ frames := 9, cells := 1, slots := 6, locals := 151 } : Room) (tP D (hWi h ad cI cZ) (hT cI cZ) [.ref h, .int (nI 1), .int (nI 0), .int (nI 6), .int (nI 0), .int (nI 0)]) (rQ (.int (-30)) 1) 1 6 nF := by
  refine mt_ofWH (cc := cL_asks) (maxL := 7) (ret := (some .int)) (by decide) rfl ?_
  intro p e s m args below meth c s₁ B hml htab hv
  obtain ⟨rfl, hP, hK, hE⟩ := hv
  have hx := B.exec
  have hb := B.bytes
  have hr := B.returns
  have hts := atoms_spec (ws := wsL_asks) B.pre
  have hown : s.vm.findClass RL = some m.cls := findClass_of_methodNamed B.named
  have hlocks := B.notSynchronized
  have hl := lv_entry ([.ref h, .int (nI 1), .int (nI 0), .int (nI 6), .int (nI 0), .int (nI 0)]) (n := 7) (Nat.le_of_ble_eq_true rfl)
  rw [lg_entry_eq]
  generalize (lg_sl ([.ref h, .int (nI 1), .int (nI 0), .int (nI 6), .int (nI 0), .int (nI 0)]) ++ List.replicate (7 - (lg_sl ([.ref h, .int (nI 1), .int (nI 0), .int (nI 6), .int (nI 0), .int (nI 0)])).length) Slot.unset).toArray = ls at hl ⊢
  have hl : lv_has ls 7 [(0, .ref h), (1, .int (nI 1)), (2, .int (nI 0)), (3, .int (nI 6)), (4, .int (nI 0)), (5, .int (nI 0))] := hl
  refine lv_iload_n hx hb dL_asks_0 rfl (lv_at hl 1 rfl) ?_
  refine lv_if_ne (tgt := 17) hx hb dL_asks_1 (by decide) (fun _ => ?_) (fun z => (show False by revert z; decide).elim)
  refine lv_iload_n hx hb dL_asks_17 rfl (lv_at hl 1 rfl) ?_
  refine lv_iconst (v := (nI 1)) hx hb dL_asks_18 (by decide) ?_
  refine lv_icmp_ne (tgt := 35) hx hb dL_asks_19 (by decide) (fun z => (show False by revert z; decide).elim) (fun _ => ?_)
  refine lv_aload_n hx hb dL_asks_22 rfl (lv_at hl 0 rfl) ?_
  refine lv_iload_n hx hb dL_asks_23 rfl (lv_at hl 2 rfl) ?_
  refine lv_iload_n hx hb dL_asks_24 rfl (lv_at hl 3 rfl) ?_
  refine lv_iload hx hb dL_asks_25 (lv_at hl 4 rfl) ?_
  refine lv_iload hx hb dL_asks_27 (lv_at hl 5 rfl) ?_
  refine q_catchS (vx_runV (As := [.int (nI 0), .int (nI 6), .int (nI 0), .int (nI 0)]) (rest := []) ⟨hx, hb, hml, hown, hts⟩ (kX0_originXI l D h ad cI cZ (fun _ => false) (cle (fun _ => some 0) 16) (fun _ => 0) (fun _ => 0) 0 (fun _ => 0) (fun _ => 0) (fun _ => some 0) (fun _ => 0) (fun _ => 0) 0 0 (cle (fun _ => some 0) 1536) (fun _ => false) (cle (fun _ => some 0) 864) (fun _ => some 0) hlf (nI 0) (nI 6) (nI 0) (nI 0) (Or.inl (fun j _ _ => rfl))) (cwV 4 hts gL_asks_X0_origin rfl rfl rfl (by decide +kernel) ⟨Nat.le_of_ble_eq_true rfl, Nat.le_of_ble_eq_true rfl⟩) ⟨tP_blind, va_recv hK hP (ci := 0) (q0 := 0) rfl rfl, tP_pre hP hK hE⟩ rfl rfl hl.1 rfl (lv_room (Nat.le_of_ble_eq_true rfl)) dL_asks_29 ⟨Nat.le_of_ble_eq_true rfl, Nat.le_of_ble_eq_true rfl⟩) (fun H ce q9 h1 h2 h3 h4 h5 => ?_)
  obtain ⟨t0, ht0, htab⟩ := tab_c htab
  refine vx_catch (own := RL) (name := "java/lang/IndexOutOfBoundsException") (E := "java/lang/IndexOutOfBoundsException") hown [] ⟨0, 96, 97, 52⟩ t0 ht0 (fun z hz => by cases hz) (by decide) (by decide) (hts (.classLink RL 52 "java/lang/IndexOutOfBoundsException") (by decide +kernel)) (va_Nw.use rfl (hE.2.2.2.1 "java/lang/IndexOutOfBoundsException" (by decide))) h3 h4 h5 ?_
  refine lv_astore (lv' := [(6, .ref q9), (0, .ref h), (1, .int (nI 1)), (2, .int (nI 0)), (3, .int (nI 6)), (4, .int (nI 0)), (5, .int (nI 0))]) hx hb dL_asks_97 hl (by decide) rfl (fun ls hl => ?_)
  refine lv_bipush (v := (-30)) hx hb dL_asks_99 (by decide) ?_
  exact q_rret hx hb hr hlocks h1 h2 dL_asks_101

set_option maxHeartbeats 4000000 in
set_option maxRecDepth 100000 in
theorem kL_asks3 (l : Launch) (D : va_G) (h : Nat) (ad : Nat → Nat) (cI cZ : ClassId) (hlf : l.stackTraces = false) : Met l yL_asks wsL_asks ({ frames := 8, cells := 1, slots := 6, locals := 126 } : Room) (tP D (hWi h ad cI cZ) (hT cI cZ) [.ref h, .int (nI 3), .int (nI 0), .int (nI 0), .int (nI 0), .int (nI 0)]) (rQ (.int (-30)) 1) 1 6 nF := by
  refine mt_ofWH (cc := cL_asks) (maxL := 7) (ret := (some .int)) (by decide) rfl ?_
  intro p e s m args below meth c s₁ B hml htab hv
  obtain ⟨rfl, hP, hK, hE⟩ := hv
  have hx := B.exec
  have hb := B.bytes
  have hr := B.returns
  have hts := atoms_spec (ws := wsL_asks) B.pre
  have hown : s.vm.findClass RL = some m.cls := findClass_of_methodNamed B.named
  have hlocks := B.notSynchronized
  have hl := lv_entry ([.ref h, .int (nI 3), .int (nI 0), .int (nI 0), .int (nI 0), .int (nI 0)]) (n := 7) (Nat.le_of_ble_eq_true rfl)
  rw [lg_entry_eq]
  generalize (lg_sl ([.ref h, .int (nI 3), .int (nI 0), .int (nI 0), .int (nI 0), .int (nI 0)]) ++ List.replicate (7 - (lg_sl ([.ref h, .int (nI 3), .int (nI 0), .int (nI 0), .int (nI 0), .int (nI 0)])).length) Slot.unset).toArray = ls at hl ⊢
  have hl : lv_has ls 7 [(0, .ref h), (1, .int (nI 3)), (2, .int (nI 0)), (3, .int (nI 0)), (4, .int (nI 0)), (5, .int (nI 0))] := hl
  refine lv_iload_n hx hb dL_asks_0 rfl (lv_at hl 1 rfl) ?_
  refine lv_if_ne (tgt := 17) hx hb dL_asks_1 (by decide) (fun _ => ?_) (fun z => (show False by revert z; decide).elim)
  refine lv_iload_n hx hb dL_asks_17 rfl (lv_at hl 1 rfl) ?_
  refine lv_iconst (v := (nI 1)) hx hb dL_asks_18 (by decide) ?_
  refine lv_icmp_ne (tgt := 35) hx hb dL_asks_19 (by decide) (fun _ => ?_) (fun z => (show False by revert z; decide).elim)
  refine lv_iload_n hx hb dL_asks_35 rfl (lv_at hl 1 rfl) ?_
  refine lv_iconst (v := (nI 2)) hx hb dL_asks_36 (by decide) ?_
  refine lv_icmp_ne (tgt := 48) hx hb dL_asks_37 (by decide) (fun _ => ?_) (fun z => (show False by revert z; decide).elim)
  refine lv_iload_n hx hb dL_asks_48 rfl (lv_at hl 1 rfl) ?_
  refine lv_iconst (v := (nI 3)) hx hb dL_asks_49 (by decide) ?_
  refine lv_icmp_ne (tgt := 64) hx hb dL_asks_50 (by decide) (fun z => (show False by revert z; decide).elim) (fun _ => ?_)
  refine lv_aload_n hx hb dL_asks_53 rfl (lv_at hl 0 rfl) ?_
  refine lv_iload_n hx hb dL_asks_54 rfl (lv_at hl 2 rfl) ?_
  refine lv_iload_n hx hb dL_asks_55 rfl (lv_at hl 3 rfl) ?_
  refine lv_iload hx hb dL_asks_56 (lv_at hl 4 rfl) ?_
  refine q_catchS (vx_runV (As := [.int (nI 0), .int (nI 0), .int (nI 0)]) (rest := []) ⟨hx, hb, hml, hown, hts⟩ (kX0_missingXI l D h ad cI cZ (fun _ => false) (cle (fun _ => some 0) 16) (fun _ => 0) (fun _ => 0) 0 (fun _ => 0) (fun _ => 0) (fun _ => some 0) (fun _ => 0) (fun _ => 0) 0 0 (cle (fun _ => some 0) 1536) (fun _ => false) (cle (fun _ => some 0) 864) (fun _ => some 0) hlf (nI 0) (nI 0) (nI 0) (Or.inl (fun j _ _ => rfl))) (cwV 3 hts gL_asks_X0_missing rfl rfl rfl (by decide +kernel) ⟨Nat.le_of_ble_eq_true rfl, Nat.le_of_ble_eq_true rfl⟩) ⟨tP_blind, va_recv hK hP (ci := 0) (q0 := 0) rfl rfl, tP_pre hP hK hE⟩ rfl rfl hl.1 rfl (lv_room (Nat.le_of_ble_eq_true rfl)) dL_asks_58 ⟨Nat.le_of_ble_eq_true rfl, Nat.le_of_ble_eq_true rfl⟩) (fun H ce q9 h1 h2 h3 h4 h5 => ?_)
  obtain ⟨t0, ht0, htab⟩ := tab_c htab
  refine vx_catch (own := RL) (name := "java/lang/IndexOutOfBoundsException") (E := "java/lang/IndexOutOfBoundsException") hown [] ⟨0, 96, 97, 52⟩ t0 ht0 (fun z hz => by cases hz) (by decide) (by decide) (hts (.classLink RL 52 "java/lang/IndexOutOfBoundsException") (by decide +kernel)) (va_Nw.use rfl (hE.2.2.2.1 "java/lang/IndexOutOfBoundsException" (by decide))) h3 h4 h5 ?_
  refine lv_astore (lv' := [(6, .ref q9), (0, .ref h), (1, .int (nI 3)), (2, .int (nI 0)), (3, .int (nI 0)), (4, .int (nI 0)), (5, .int (nI 0))]) hx hb dL_asks_97 hl (by decide) rfl (fun ls hl => ?_)
  refine lv_bipush (v := (-30)) hx hb dL_asks_99 (by decide) ?_
  exact q_rret hx hb hr hlocks h1 h2 dL_asks_101

set_option maxHeartbeats 4000000 in
set_option maxRecDepth 100000 in
theorem kL_does9 (l : Launch) (D : va_G) (h : Nat) (ad : Nat → Nat) (cI cZ : ClassId) (hlf : l.stackTraces = false) : Met l yL_does wsL_does ({ frames := 8, cells := 1, slots := 6, locals := 125 } : Room) (tP D (hWi h ad cI cZ) (hT cI cZ) [.ref h, .int (nI 9), .int (nI 3), .int (nI 0), .int (nI 0)]) (rQ (.int (-30)) 1) 1 6 nF := by
  refine mt_ofWH (cc := cL_does) (maxL := 6) (ret := (some .int)) (by decide) rfl ?_
  intro p e s m args below meth c s₁ B hml htab hv
  obtain ⟨rfl, hP, hK, hE⟩ := hv
  have hx := B.exec
  have hb := B.bytes
  have hr := B.returns
  have hts := atoms_spec (ws := wsL_does) B.pre
  have hown : s.vm.findClass RL = some m.cls := findClass_of_methodNamed B.named
  have hlocks := B.notSynchronized
  have hl := lv_entry ([.ref h, .int (nI 9), .int (nI 3), .int (nI 0), .int (nI 0)]) (n := 6) (Nat.le_of_ble_eq_true rfl)
  rw [lg_entry_eq]
  generalize (lg_sl ([.ref h, .int (nI 9), .int (nI 3), .int (nI 0), .int (nI 0)]) ++ List.replicate (6 - (lg_sl ([.ref h, .int (nI 9), .int (nI 3), .int (nI 0), .int (nI 0)])).length) Slot.unset).toArray = ls at hl ⊢
  have hl : lv_has ls 6 [(0, .ref h), (1, .int (nI 9)), (2, .int (nI 3)), (3, .int (nI 0)), (4, .int (nI 0))] := hl
  refine lv_iload_n hx hb dL_does_0 rfl (lv_at hl 1 rfl) ?_
  refine lv_if_ne (tgt := 12) hx hb dL_does_1 (by decide) (fun _ => ?_) (fun z => (show False by revert z; decide).elim)
  refine lv_iload_n hx hb dL_does_12 rfl (lv_at hl 1 rfl) ?_
  refine lv_iconst (v := (nI 1)) hx hb dL_does_13 (by decide) ?_
  refine lv_icmp_ne (tgt := 26) hx hb dL_does_14 (by decide) (fun _ => ?_) (fun z => (show False by revert z; decide).elim)
  refine lv_iload_n hx hb dL_does_26 rfl (lv_at hl 1 rfl) ?_
  refine lv_iconst (v := (nI 2)) hx hb dL_does_27 (by decide) ?_
  refine lv_icmp_ne (tgt := 39) hx hb dL_does_28 (by decide) (fun _ => ?_) (fun z => (show False by revert z; decide).elim)
  refine lv_iload_n hx hb dL_does_39 rfl (lv_at hl 1 rfl) ?_
  refine lv_iconst (v := (nI 3)) hx hb dL_does_40 (by decide) ?_
  refine lv_icmp_ne (tgt := 55) hx hb dL_does_41 (by decide) (fun _ => ?_) (fun z => (show False by revert z; decide).elim)
  refine lv_iload_n hx hb dL_does_55 rfl (lv_at hl 1 rfl) ?_
  refine lv_iconst (v := (nI 4)) hx hb dL_does_56 (by decide) ?_
  refine lv_icmp_ne (tgt := 69) hx hb dL_does_57 (by decide) (fun _ => ?_) (fun z => (show False by revert z; decide).elim)
  refine lv_iload_n hx hb dL_does_69 rfl (lv_at hl 1 rfl) ?_
  refine lv_iconst (v := (nI 5)) hx hb dL_does_70 (by decide) ?_
  refine lv_icmp_ne (tgt := 90) hx hb dL_does_71 (by decide) (fun _ => ?_) (fun z => (show False by revert z; decide).elim)
  refine lv_iload_n hx hb dL_does_90 rfl (lv_at hl 1 rfl) ?_
  refine lv_bipush (v := (nI 6)) hx hb dL_does_91 (by decide) ?_
  refine lv_icmp_ne (tgt := 112) hx hb dL_does_93 (by decide) (fun _ => ?_) (fun z => (show False by revert z; decide).elim)
  refine lv_iload_n hx hb dL_does_112 rfl (lv_at hl 1 rfl) ?_
  refine lv_bipush (v := (nI 7)) hx hb dL_does_113 (by decide) ?_
  refine lv_icmp_ne (tgt := 126) hx hb dL_does_115 (by decide) (fun _ => ?_) (fun z => (show False by revert z; decide).elim)
  refine lv_iload_n hx hb dL_does_126 rfl (lv_at hl 1 rfl) ?_
  refine lv_bipush (v := (nI 8)) hx hb dL_does_127 (by decide) ?_
  refine lv_icmp_ne (tgt := 149) hx hb dL_does_129 (by decide) (fun _ => ?_) (fun z => (show False by revert z; decide).elim)
  refine lv_aload_n hx hb dL_does_149 rfl (lv_at hl 0 rfl) ?_
  refine lv_iload_n hx hb dL_does_150 rfl (lv_at hl 2 rfl) ?_
  refine q_catchS (vx_runV (As := [.int (nI 3)]) (rest := []) ⟨hx, hb, hml, hown, hts⟩ (kX0_feedXI l D h ad cI cZ (fun _ => false) (cle (fun _ => some 0) 16) (fun _ => 0) (fun _ => 0) 0 (fun _ => 0) (fun _ => 0) (fun _ => some 0) (fun _ => 0) (fun _ => 0) 0 0 (cle (fun _ => some 0) 1536) (fun _ => false) (cle (fun _ => some 0) 864) (fun _ => some 0) hlf (nI 3) (Or.inr (by decide))) (cwV 1 hts gL_does_X0_feed rfl rfl rfl (by decide +kernel) ⟨Nat.le_of_ble_eq_true rfl, Nat.le_of_ble_eq_true rfl⟩) ⟨tP_blind, va_recv hK hP (ci := 0) (q0 := 0) rfl rfl, tP_pre hP hK hE⟩ rfl rfl hl.1 rfl (lv_room (Nat.le_of_ble_eq_true rfl)) dL_does_151 ⟨Nat.le_of_ble_eq_true rfl, Nat.le_of_ble_eq_true rfl⟩) (fun H ce q9 h1 h2 h3 h4 h5 => ?_)
  obtain ⟨t0, ht0, htab⟩ := tab_c htab
  refine vx_catch (own := RL) (name := "java/lang/IndexOutOfBoundsException") (E := "java/lang/IndexOutOfBoundsException") hown [] ⟨0, 154, 155, 52⟩ t0 ht0 (fun z hz => by cases hz) (by decide) (by decide) (hts (.classLink RL 52 "java/lang/IndexOutOfBoundsException") (by decide +kernel)) (va_Nw.use rfl (hE.2.2.2.1 "java/lang/IndexOutOfBoundsException" (by decide))) h3 h4 h5 ?_
  refine lv_astore (lv' := [(5, .ref q9), (0, .ref h), (1, .int (nI 9)), (2, .int (nI 3)), (3, .int (nI 0)), (4, .int (nI 0))]) hx hb dL_does_155 hl (by decide) rfl (fun ls hl => ?_)
  refine lv_bipush (v := (-30)) hx hb dL_does_157 (by decide) ?_
  exact q_rret hx hb hr hlocks h1 h2 dL_does_159
end
section
set_option maxHeartbeats 4000000 in
set_option maxRecDepth 100000 in
theorem kL_areShops (l : Launch) (D : va_G) (h : Nat) (ad : Nat → Nat) (cI cZ : ClassId) (hlf : l.stackTraces = false) (ta qa ga : Nat) : Met l yL_areShops wsL_areShops ({ frames := 10, cells := 6, slots := 36, locals := 178 } : Room) (tP D ((hWi h ad cI cZ) ++ [(ga, .inl (cI, 3, .inl (fun _ => nI 0)))]) (hT cI cZ) [.ref h, .ref ta, .ref qa, .ref ga]) (rQ (.int (bI true)) 6) 6 36 nF := by
  refine Met.ofW (cc := cL_areShops) (maxL := 17) (ret := (some .boolean)) (by decide) rfl ?_
  intro p e s m args below meth c s₁ B hml hv
  obtain ⟨rfl, hP, hK, hE⟩ := hv
  have hx := B.exec
  have hb := B.bytes
  have hr := B.returns
  have hts := atoms_spec (ws := wsL_areShops) B.pre
  have hown : s.vm.findClass RL = some m.cls := findClass_of_methodNamed B.named
  have hlocks := B.notSynchronized
  have hl := lv_entry ([.ref h, .ref ta, .ref qa, .ref ga]) (n := 17) (Nat.le_of_ble_eq_true rfl)
  rw [lg_entry_eq]
  generalize (lg_sl ([.ref h, .ref ta, .ref qa, .ref ga]) ++ List.replicate (17 - (lg_sl ([.ref h, .ref ta, .ref qa, .ref ga])).length) Slot.unset).toArray = ls at hl ⊢
  have hl : lv_has ls 17 [(0, .ref h), (1, .ref ta), (2, .ref qa), (3, .ref ga)] := hl
  have hE : tEA nF s s.heap := hE
  have hS : va_S nF s.heap s.heap [] := va_S.rf
  have hz : s.heap.size + 0 ≤ s.heap.size := Nat.le_refl _
  refine lv_aload_n hx hb dL_areShops_0 rfl (lv_at hl 0 rfl) ?_
  refine lv_iconst (v := (nI 4)) hx hb dL_areShops_1 (by decide) ?_
  refine lv_iconst (v := (nI 3)) hx hb dL_areShops_2 (by decide) ?_
  refine lv_iconst (v := (nI 0)) hx hb dL_areShops_3 (by decide) ?_
  refine lv_iconst (v := (nI 0)) hx hb dL_areShops_4 (by decide) ?_
  refine lv_iconst (v := (nI 0)) hx hb dL_areShops_5 (by decide) ?_
  refine q_rcall (vx_runSW (As := [.ref h, .int (nI 4), .int (nI 3), .int (nI 0), .int (nI 0), .int (nI 0)]) (rest := []) ⟨hx, hb, hml, hown, hts⟩ (kL_asks4 l D h ad cI cZ hlf) (vx_cwSW 6 hts gL_areShops_L_asks rfl rfl rfl (by decide +kernel) ⟨Nat.le_of_ble_eq_true rfl, Nat.le_of_ble_eq_true rfl⟩) ⟨tP_blind, tP_preH (va_Pl hP) hK (tEA_at hE hS)⟩ rfl rfl hl.1 rfl (lv_room (Nat.le_of_ble_eq_true rfl)) dL_areShops_6 ⟨Nat.le_of_ble_eq_true rfl, Nat.le_of_ble_eq_true rfl⟩) hP hS hz (fun H hP hS hz => ?_)
  refine W.widen (k := 1) (n := 6) (Nat.le_of_ble_eq_true rfl) (Nat.le_of_ble_eq_true rfl) ?_
  refine lv_bipush (v := (-30)) hx hb dL_areShops_9 (by decide) ?_
  refine lv_icmp_ne (tgt := 94) hx hb dL_areShops_11 (by decide) (fun z => (show False by revert z; decide).elim) (fun _ => ?_)
  refine lv_aload_n hx hb dL_areShops_14 rfl (lv_at hl 0 rfl) ?_
  refine lv_iconst (v := (nI 5)) hx hb dL_areShops_15 (by decide) ?_
  refine lv_iconst (v := (nI 0)) hx hb dL_areShops_16 (by decide) ?_
  refine lv_iconst (v := (nI 3)) hx hb dL_areShops_17 (by decide) ?_
  refine lv_iconst (v := (nI 0)) hx hb dL_areShops_18 (by decide) ?_
  refine lv_iconst (v := (nI 0)) hx hb dL_areShops_19 (by decide) ?_
  refine q_rcall (vx_runSW (As := [.ref h, .int (nI 5), .int (nI 0), .int (nI 3), .int (nI 0), .int (nI 0)]) (rest := []) ⟨hx, hb, hml, hown, hts⟩ (kL_asks5 l D h ad cI cZ hlf) (vx_cwSW 6 hts gL_areShops_L_asks rfl rfl rfl (by decide +kernel) ⟨Nat.le_of_ble_eq_true rfl, Nat.le_of_ble_eq_true rfl⟩) ⟨tP_blind, tP_preH (va_Pl hP) hK (tEA_at hE hS)⟩ rfl rfl hl.1 rfl (lv_room (Nat.le_of_ble_eq_true rfl)) dL_areShops_20 ⟨Nat.le_of_ble_eq_true rfl, Nat.le_of_ble_eq_true rfl⟩) hP hS hz (fun H hP hS hz => ?_)
  refine W.widen (k := 2) (n := 12) (Nat.le_of_ble_eq_true rfl) (Nat.le_of_ble_eq_true rfl) ?_
  refine lv_bipush (v := (-30)) hx hb dL_areShops_23 (by decide) ?_
  refine lv_icmp_ne (tgt := 94) hx hb dL_areShops_25 (by decide) (fun z => (show False by revert z; decide).elim) (fun _ => ?_)
  refine lv_aload_n hx hb dL_areShops_28 rfl (lv_at hl 0 rfl) ?_
  refine lv_bipush (v := (nI 6)) hx hb dL_areShops_29 (by decide) ?_
  refine lv_iconst (v := (-1)) hx hb dL_areShops_31 (by decide) ?_
  refine lv_iconst (v := (nI 0)) hx hb dL_areShops_32 (by decide) ?_
  refine lv_iconst (v := (nI 0)) hx hb dL_areShops_33 (by decide) ?_
  refine lv_iconst (v := (nI 0)) hx hb dL_areShops_34 (by decide) ?_
  refine q_rcall (vx_runSW (As := [.ref h, .int (nI 6), .int (-1), .int (nI 0), .int (nI 0), .int (nI 0)]) (rest := []) ⟨hx, hb, hml, hown, hts⟩ (kL_asks6 l D h ad cI cZ hlf) (vx_cwSW 6 hts gL_areShops_L_asks rfl rfl rfl (by decide +kernel) ⟨Nat.le_of_ble_eq_true rfl, Nat.le_of_ble_eq_true rfl⟩) ⟨tP_blind, tP_preH (va_Pl hP) hK (tEA_at hE hS)⟩ rfl rfl hl.1 rfl (lv_room (Nat.le_of_ble_eq_true rfl)) dL_areShops_35 ⟨Nat.le_of_ble_eq_true rfl, Nat.le_of_ble_eq_true rfl⟩) hP hS hz (fun H hP hS hz => ?_)
  refine W.widen (k := 3) (n := 18) (Nat.le_of_ble_eq_true rfl) (Nat.le_of_ble_eq_true rfl) ?_
  refine lv_bipush (v := (-30)) hx hb dL_areShops_38 (by decide) ?_
  refine lv_icmp_ne (tgt := 94) hx hb dL_areShops_40 (by decide) (fun z => (show False by revert z; decide).elim) (fun _ => ?_)
  refine lv_aload_n hx hb dL_areShops_43 rfl (lv_at hl 0 rfl) ?_
  refine lv_iconst (v := (nI 0)) hx hb dL_areShops_44 (by decide) ?_
  refine lv_aload_n hx hb dL_areShops_45 rfl (lv_at hl 3 rfl) ?_
  refine lv_iconst (v := (nI 0)) hx hb dL_areShops_46 (by decide) ?_
  refine q_ald nI (fun _ => 0) hx hb hK hP 14 1 rfl rfl (k := 0) (by decide) (Nat.le_of_ble_eq_true rfl) dL_areShops_47 ?_
  refine lv_iconst (v := (nI 0)) hx hb dL_areShops_48 (by decide) ?_
  refine lv_iconst (v := (nI 0)) hx hb dL_areShops_49 (by decide) ?_
  refine lv_iconst (v := (nI 0)) hx hb dL_areShops_50 (by decide) ?_
  refine q_rcall (vx_runSW (As := [.ref h, .int (nI 0), .int (nI 0), .int (nI 0), .int (nI 0), .int (nI 0)]) (rest := []) ⟨hx, hb, hml, hown, hts⟩ (kL_asks0 l D h ad cI cZ hlf) (vx_cwSW 6 hts gL_areShops_L_asks rfl rfl rfl (by decide +kernel) ⟨Nat.le_of_ble_eq_true rfl, Nat.le_of_ble_eq_true rfl⟩) ⟨tP_blind, tP_preH (va_Pl hP) hK (tEA_at hE hS)⟩ rfl rfl hl.1 rfl (lv_room (Nat.le_of_ble_eq_true rfl)) dL_areShops_51 ⟨Nat.le_of_ble_eq_true rfl, Nat.le_of_ble_eq_true rfl⟩) hP hS hz (fun H hP hS hz => ?_)
  refine W.widen (k := 4) (n := 24) (Nat.le_of_ble_eq_true rfl) (Nat.le_of_ble_eq_true rfl) ?_
  refine lv_bipush (v := (-30)) hx hb dL_areShops_54 (by decide) ?_
  refine lv_icmp_ne (tgt := 94) hx hb dL_areShops_56 (by decide) (fun z => (show False by revert z; decide).elim) (fun _ => ?_)
  refine lv_aload_n hx hb dL_areShops_59 rfl (lv_at hl 0 rfl) ?_
  refine lv_iconst (v := (nI 1)) hx hb dL_areShops_60 (by decide) ?_
  refine lv_iconst (v := (nI 0)) hx hb dL_areShops_61 (by decide) ?_
  refine lv_bipush (v := (nI 6)) hx hb dL_areShops_62 (by decide) ?_
  refine lv_iconst (v := (nI 0)) hx hb dL_areShops_64 (by decide) ?_
  refine lv_iconst (v := (nI 0)) hx hb dL_areShops_65 (by decide) ?_
  refine q_rcall (vx_runSW (As := [.ref h, .int (nI 1), .int (nI 0), .int (nI 6), .int (nI 0), .int (nI 0)]) (rest := []) ⟨hx, hb, hml, hown, hts⟩ (kL_asks1 l D h ad cI cZ hlf) (vx_cwSW 6 hts gL_areShops_L_asks rfl rfl rfl (by decide +kernel) ⟨Nat.le_of_ble_eq_true rfl, Nat.le_of_ble_eq_true rfl⟩) ⟨tP_blind, tP_preH (va_Pl hP) hK (tEA_at hE hS)⟩ rfl rfl hl.1 rfl (lv_room (Nat.le_of_ble_eq_true rfl)) dL_areShops_66 ⟨Nat.le_of_ble_eq_true rfl, Nat.le_of_ble_eq_true rfl⟩) hP hS hz (fun H hP hS hz => ?_)
  refine W.widen (k := 5) (n := 30) (Nat.le_of_ble_eq_true rfl) (Nat.le_of_ble_eq_true rfl) ?_
  refine lv_bipush (v := (-30)) hx hb dL_areShops_69 (by decide) ?_
  refine lv_icmp_ne (tgt := 94) hx hb dL_areShops_71 (by decide) (fun z => (show False by revert z; decide).elim) (fun _ => ?_)
  refine lv_aload_n hx hb dL_areShops_74 rfl (lv_at hl 0 rfl) ?_
  refine lv_iconst (v := (nI 3)) hx hb dL_areShops_75 (by decide) ?_
  refine lv_aload_n hx hb dL_areShops_76 rfl (lv_at hl 3 rfl) ?_
  refine lv_iconst (v := (nI 0)) hx hb dL_areShops_77 (by decide) ?_
  refine q_ald nI (fun _ => 0) hx hb hK hP 14 1 rfl rfl (k := 0) (by decide) (Nat.le_of_ble_eq_true rfl) dL_areShops_78 ?_
  refine lv_iconst (v := (nI 0)) hx hb dL_areShops_79 (by decide) ?_
  refine lv_iconst (v := (nI 0)) hx hb dL_areShops_80 (by decide) ?_
  refine lv_iconst (v := (nI 0)) hx hb dL_areShops_81 (by decide) ?_
  refine q_rcall (vx_runSW (As := [.ref h, .int (nI 3), .int (nI 0), .int (nI 0), .int (nI 0), .int (nI 0)]) (rest := []) ⟨hx, hb, hml, hown, hts⟩ (kL_asks3 l D h ad cI cZ hlf) (vx_cwSW 6 hts gL_areShops_L_asks rfl rfl rfl (by decide +kernel) ⟨Nat.le_of_ble_eq_true rfl, Nat.le_of_ble_eq_true rfl⟩) ⟨tP_blind, tP_preH (va_Pl hP) hK (tEA_at hE hS)⟩ rfl rfl hl.1 rfl (lv_room (Nat.le_of_ble_eq_true rfl)) dL_areShops_82 ⟨Nat.le_of_ble_eq_true rfl, Nat.le_of_ble_eq_true rfl⟩) hP hS hz (fun H hP hS hz => ?_)
  refine W.widen (k := 6) (n := 36) (Nat.le_of_ble_eq_true rfl) (Nat.le_of_ble_eq_true rfl) ?_
  refine lv_bipush (v := (-30)) hx hb dL_areShops_85 (by decide) ?_
  refine lv_icmp_ne (tgt := 94) hx hb dL_areShops_87 (by decide) (fun z => (show False by revert z; decide).elim) (fun _ => ?_)
  refine lv_iconst (v := (nI 1)) hx hb dL_areShops_90 (by decide) ?_
  refine lv_goto (tgt := 95) hx hb dL_areShops_91 (by decide) ?_
  refine lv_istore (lv' := [(4, .int (nI 1)), (0, .ref h), (1, .ref ta), (2, .ref qa), (3, .ref ga)]) hx hb dL_areShops_95 hl (by decide) rfl (fun ls hl => ?_)
  refine lv_iconst (v := (nI 0)) hx hb dL_areShops_97 (by decide) ?_
  refine lv_istore (lv' := [(5, .int (nI 0)), (4, .int (nI 1)), (0, .ref h), (1, .ref ta), (2, .ref qa), (3, .ref ga)]) hx hb dL_areShops_98 hl (by decide) rfl (fun ls hl => ?_)
  refine lv_iload hx hb dL_areShops_100 (lv_at hl 0 rfl) ?_
  refine lv_iconst (v := (nI 3)) hx hb dL_areShops_102 (by decide) ?_
  refine lv_icmp_ge (tgt := 468) hx hb dL_areShops_103 (by decide) (fun z => (show False by revert z; decide).elim) (fun _ => ?_)
  refine lv_iload hx hb dL_areShops_106 (lv_at hl 1 rfl) ?_
  refine lv_if_eq (tgt := 468) hx hb dL_areShops_108 (by decide) (fun z => (show False by revert z; decide).elim) (fun _ => ?_)
  refine lv_iconst (v := (nI 0)) hx hb dL_areShops_111 (by decide) ?_
  refine lv_istore (lv' := [(6, .int (nI 0)), (5, .int (nI 0)), (4, .int (nI 1)), (0, .ref h), (1, .ref ta), (2, .ref qa), (3, .ref ga)]) hx hb dL_areShops_112 hl (by decide) rfl (fun ls hl => ?_)
  refine lv_iconst (v := (nI 0)) hx hb dL_areShops_114 (by decide) ?_
  refine lv_istore (lv' := [(7, .int (nI 0)), (6, .int (nI 0)), (5, .int (nI 0)), (4, .int (nI 1)), (0, .ref h), (1, .ref ta), (2, .ref qa), (3, .ref ga)]) hx hb dL_areShops_115 hl (by decide) rfl (fun ls hl => ?_)
  refine lv_iload hx hb dL_areShops_117 (lv_at hl 0 rfl) ?_
  refine lv_aload_n hx hb dL_areShops_119 rfl (lv_at hl 7 rfl) ?_
  refine lv_iconst (v := (nI 0)) hx hb dL_areShops_120 (by decide) ?_
  refine q_ald nI (fun _ => 0) hx hb hK hP 14 1 rfl rfl (k := 0) (by decide) (Nat.le_of_ble_eq_true rfl) dL_areShops_121 ?_
  refine lv_icmp_ge (tgt := 416) hx hb dL_areShops_122 (by decide) (fun _ => ?_) (fun z => (show False by revert z; decide).elim)
  refine lv_iload hx hb dL_areShops_416 (lv_at hl 3 rfl) ?_
  refine lv_if_eq (tgt := 459) hx hb dL_areShops_418 (by decide) (fun z => (show False by revert z; decide).elim) (fun _ => ?_)
  refine lv_aload_n hx hb dL_areShops_421 rfl (lv_at hl 4 rfl) ?_
  refine lv_iload hx hb dL_areShops_422 (lv_at hl 2 rfl) ?_
  refine q_callI (r := nI (cnt (cpl (fun _ => false) (cle (fun _ => some 0) 16) (cle (fun _ => some 0) 1536) (fun _ => some 0) (fun _ => false) 0) 16)) (va_runV (As := [.int (nI 0)]) (rest := []) ⟨hx, hb, hml, hown, hts⟩ (kX0_complete l D h ad cI cZ (fun _ => false) (cle (fun _ => some 0) 16) (fun _ => 0) (fun _ => 0) 0 (fun _ => 0) (fun _ => 0) (fun _ => some 0) (fun _ => 0) (fun _ => 0) 0 0 (cle (fun _ => some 0) 1536) (fun _ => false) (cle (fun _ => some 0) 864) (fun _ => some 0) 0 (by decide) PR_0 HO_0 (Nat.zero_le 200) DV_0) (cwV 1 hts gL_areShops_X0_complete rfl rfl rfl (by decide +kernel) ⟨Nat.le_of_ble_eq_true rfl, Nat.le_of_ble_eq_true rfl⟩) ⟨pP_blind, va_recv hK (va_Pl hP) (ci := 0) (q0 := 0) rfl rfl, pP_pre (va_Pl hP) hK⟩ rfl rfl hl.1 rfl (lv_room (Nat.le_of_ble_eq_true rfl)) dL_areShops_424 ⟨Nat.le_of_ble_eq_true rfl, Nat.le_of_ble_eq_true rfl⟩) ?_
  refine q_top (y := nI 0) (by rw [cpl_0]) ?_
  refine lv_iload hx hb dL_areShops_427 (lv_at hl 1 rfl) ?_
  refine lv_icmp_ne (tgt := 459) hx hb dL_areShops_429 (by decide) (fun z => (show False by revert z; decide).elim) (fun _ => ?_)
  refine lv_aload_n hx hb dL_areShops_432 rfl (lv_at hl 4 rfl) ?_
  refine lv_iload hx hb dL_areShops_433 (lv_at hl 2 rfl) ?_
  refine q_callI (r := nI (bset (lkd (fun _ => false) (cle (fun _ => some 0) 16) (cle (fun _ => some 0) 1536) (fun _ => some 0) (cle (fun _ => some 0) 864) 0) 16)) (va_runV (As := [.int (nI 0)]) (rest := []) ⟨hx, hb, hml, hown, hts⟩ (kX0_changed l D h ad cI cZ (fun _ => false) (cle (fun _ => some 0) 16) (fun _ => 0) (fun _ => 0) 0 (fun _ => 0) (fun _ => 0) (fun _ => some 0) (fun _ => 0) (fun _ => 0) 0 0 (cle (fun _ => some 0) 1536) (fun _ => false) (cle (fun _ => some 0) 864) (fun _ => some 0) 0 (by decide) PR_0 HO_0 (Nat.zero_le 200) DV_0 SE_0) (cwV 1 hts gL_areShops_X0_changed rfl rfl rfl (by decide +kernel) ⟨Nat.le_of_ble_eq_true rfl, Nat.le_of_ble_eq_true rfl⟩) ⟨pP_blind, va_recv hK (va_Pl hP) (ci := 0) (q0 := 0) rfl rfl, pP_pre (va_Pl hP) hK⟩ rfl rfl hl.1 rfl (lv_room (Nat.le_of_ble_eq_true rfl)) dL_areShops_435 ⟨Nat.le_of_ble_eq_true rfl, Nat.le_of_ble_eq_true rfl⟩) ?_
  refine q_top (y := nI 0) (by rw [lkd_0 (by decide : 0 < 3)]) ?_
  refine lv_if_lt (tgt := 459) hx hb dL_areShops_438 (by decide) (fun z => (show False by revert z; decide).elim) (fun _ => ?_)
  refine lv_aload_n hx hb dL_areShops_441 rfl (lv_at hl 4 rfl) ?_
  refine lv_iload hx hb dL_areShops_442 (lv_at hl 2 rfl) ?_
  refine q_callI (r := nI (bset (lkd (fun _ => false) (cle (fun _ => some 0) 16) (cle (fun _ => some 0) 1536) (fun _ => some 0) (cle (fun _ => some 0) 864) 0) 16)) (va_runV (As := [.int (nI 0)]) (rest := []) ⟨hx, hb, hml, hown, hts⟩ (kX0_changed l D h ad cI cZ (fun _ => false) (cle (fun _ => some 0) 16) (fun _ => 0) (fun _ => 0) 0 (fun _ => 0) (fun _ => 0) (fun _ => some 0) (fun _ => 0) (fun _ => 0) 0 0 (cle (fun _ => some 0) 1536) (fun _ => false) (cle (fun _ => some 0) 864) (fun _ => some 0) 0 (by decide) PR_0 HO_0 (Nat.zero_le 200) DV_0 SE_0) (cwV 1 hts gL_areShops_X0_changed rfl rfl rfl (by decide +kernel) ⟨Nat.le_of_ble_eq_true rfl, Nat.le_of_ble_eq_true rfl⟩) ⟨pP_blind, va_recv hK (va_Pl hP) (ci := 0) (q0 := 0) rfl rfl, pP_pre (va_Pl hP) hK⟩ rfl rfl hl.1 rfl (lv_room (Nat.le_of_ble_eq_true rfl)) dL_areShops_444 ⟨Nat.le_of_ble_eq_true rfl, Nat.le_of_ble_eq_true rfl⟩) ?_
  refine q_top (y := nI 0) (by rw [lkd_0 (by decide : 0 < 3)]) ?_
  refine lv_iconst (v := (nI 1)) hx hb dL_areShops_447 (by decide) ?_
  refine lv_aload_n hx hb dL_areShops_448 rfl (lv_at hl 7 rfl) ?_
  refine lv_iconst (v := (nI 0)) hx hb dL_areShops_449 (by decide) ?_
  refine q_ald nI (fun _ => 0) hx hb hK hP 14 1 rfl rfl (k := 0) (by decide) (Nat.le_of_ble_eq_true rfl) dL_areShops_450 ?_
  refine lv_ishl hx hb dL_areShops_451 ?_
  refine q_top (y := (nI 1)) (by decide) ?_
  refine lv_icmp_ge (tgt := 459) hx hb dL_areShops_452 (by decide) (fun z => (show False by revert z; decide).elim) (fun _ => ?_)
  refine lv_iconst (v := (nI 1)) hx hb dL_areShops_455 (by decide) ?_
  refine lv_goto (tgt := 460) hx hb dL_areShops_456 (by decide) ?_
  refine lv_istore (lv' := [(4, .int (nI 1)), (7, .int (nI 0)), (6, .int (nI 0)), (5, .int (nI 0)), (0, .ref h), (1, .ref ta), (2, .ref qa), (3, .ref ga)]) hx hb dL_areShops_460 hl (by decide) rfl (fun ls hl => ?_)
  refine lv_iinc (v := (nI 1)) (lv' := [(5, .int (nI 1)), (4, .int (nI 1)), (7, .int (nI 0)), (6, .int (nI 0)), (0, .ref h), (1, .ref ta), (2, .ref qa), (3, .ref ga)]) hx hb dL_areShops_462 hl (k := 3) rfl (by decide) (by decide) rfl (fun ls hl => ?_)
  refine lv_goto (tgt := 100) hx hb dL_areShops_465 (by decide) ?_
  refine lv_iload hx hb dL_areShops_100 (lv_at hl 0 rfl) ?_
  refine lv_iconst (v := (nI 3)) hx hb dL_areShops_102 (by decide) ?_
  refine lv_icmp_ge (tgt := 468) hx hb dL_areShops_103 (by decide) (fun z => (show False by revert z; decide).elim) (fun _ => ?_)
  refine lv_iload hx hb dL_areShops_106 (lv_at hl 1 rfl) ?_
  refine lv_if_eq (tgt := 468) hx hb dL_areShops_108 (by decide) (fun z => (show False by revert z; decide).elim) (fun _ => ?_)
  refine lv_iconst (v := (nI 0)) hx hb dL_areShops_111 (by decide) ?_
  refine lv_istore (lv' := [(6, .int (nI 0)), (5, .int (nI 1)), (4, .int (nI 1)), (7, .int (nI 0)), (0, .ref h), (1, .ref ta), (2, .ref qa), (3, .ref ga)]) hx hb dL_areShops_112 hl (by decide) rfl (fun ls hl => ?_)
  refine lv_iconst (v := (nI 0)) hx hb dL_areShops_114 (by decide) ?_
  refine lv_istore (lv' := [(7, .int (nI 0)), (6, .int (nI 0)), (5, .int (nI 1)), (4, .int (nI 1)), (0, .ref h), (1, .ref ta), (2, .ref qa), (3, .ref ga)]) hx hb dL_areShops_115 hl (by decide) rfl (fun ls hl => ?_)
  refine lv_iload hx hb dL_areShops_117 (lv_at hl 0 rfl) ?_
  refine lv_aload_n hx hb dL_areShops_119 rfl (lv_at hl 7 rfl) ?_
  refine lv_iconst (v := (nI 0)) hx hb dL_areShops_120 (by decide) ?_
  refine q_ald nI (fun _ => 0) hx hb hK hP 14 1 rfl rfl (k := 0) (by decide) (Nat.le_of_ble_eq_true rfl) dL_areShops_121 ?_
  refine lv_icmp_ge (tgt := 416) hx hb dL_areShops_122 (by decide) (fun _ => ?_) (fun z => (show False by revert z; decide).elim)
  refine lv_iload hx hb dL_areShops_416 (lv_at hl 3 rfl) ?_
  refine lv_if_eq (tgt := 459) hx hb dL_areShops_418 (by decide) (fun z => (show False by revert z; decide).elim) (fun _ => ?_)
  refine lv_aload_n hx hb dL_areShops_421 rfl (lv_at hl 4 rfl) ?_
  refine lv_iload hx hb dL_areShops_422 (lv_at hl 2 rfl) ?_
  refine q_callI (r := nI (cnt (cpl (fun _ => false) (cle (fun _ => some 0) 16) (cle (fun _ => some 0) 1536) (fun _ => some 0) (fun _ => false) 1) 16)) (va_runV (As := [.int (nI 1)]) (rest := []) ⟨hx, hb, hml, hown, hts⟩ (kX0_complete l D h ad cI cZ (fun _ => false) (cle (fun _ => some 0) 16) (fun _ => 0) (fun _ => 0) 0 (fun _ => 0) (fun _ => 0) (fun _ => some 0) (fun _ => 0) (fun _ => 0) 0 0 (cle (fun _ => some 0) 1536) (fun _ => false) (cle (fun _ => some 0) 864) (fun _ => some 0) 1 (by decide) PR_0 HO_0 (Nat.zero_le 200) DV_0) (cwV 1 hts gL_areShops_X0_complete rfl rfl rfl (by decide +kernel) ⟨Nat.le_of_ble_eq_true rfl, Nat.le_of_ble_eq_true rfl⟩) ⟨pP_blind, va_recv hK (va_Pl hP) (ci := 0) (q0 := 0) rfl rfl, pP_pre (va_Pl hP) hK⟩ rfl rfl hl.1 rfl (lv_room (Nat.le_of_ble_eq_true rfl)) dL_areShops_424 ⟨Nat.le_of_ble_eq_true rfl, Nat.le_of_ble_eq_true rfl⟩) ?_
  refine q_top (y := nI 0) (by rw [cpl_0]) ?_
  refine lv_iload hx hb dL_areShops_427 (lv_at hl 1 rfl) ?_
  refine lv_icmp_ne (tgt := 459) hx hb dL_areShops_429 (by decide) (fun z => (show False by revert z; decide).elim) (fun _ => ?_)
  refine lv_aload_n hx hb dL_areShops_432 rfl (lv_at hl 4 rfl) ?_
  refine lv_iload hx hb dL_areShops_433 (lv_at hl 2 rfl) ?_
  refine q_callI (r := nI (bset (lkd (fun _ => false) (cle (fun _ => some 0) 16) (cle (fun _ => some 0) 1536) (fun _ => some 0) (cle (fun _ => some 0) 864) 1) 16)) (va_runV (As := [.int (nI 1)]) (rest := []) ⟨hx, hb, hml, hown, hts⟩ (kX0_changed l D h ad cI cZ (fun _ => false) (cle (fun _ => some 0) 16) (fun _ => 0) (fun _ => 0) 0 (fun _ => 0) (fun _ => 0) (fun _ => some 0) (fun _ => 0) (fun _ => 0) 0 0 (cle (fun _ => some 0) 1536) (fun _ => false) (cle (fun _ => some 0) 864) (fun _ => some 0) 1 (by decide) PR_0 HO_0 (Nat.zero_le 200) DV_0 SE_0) (cwV 1 hts gL_areShops_X0_changed rfl rfl rfl (by decide +kernel) ⟨Nat.le_of_ble_eq_true rfl, Nat.le_of_ble_eq_true rfl⟩) ⟨pP_blind, va_recv hK (va_Pl hP) (ci := 0) (q0 := 0) rfl rfl, pP_pre (va_Pl hP) hK⟩ rfl rfl hl.1 rfl (lv_room (Nat.le_of_ble_eq_true rfl)) dL_areShops_435 ⟨Nat.le_of_ble_eq_true rfl, Nat.le_of_ble_eq_true rfl⟩) ?_
  refine q_top (y := nI 0) (by rw [lkd_0 (by decide : 1 < 3)]) ?_
  refine lv_if_lt (tgt := 459) hx hb dL_areShops_438 (by decide) (fun z => (show False by revert z; decide).elim) (fun _ => ?_)
  refine lv_aload_n hx hb dL_areShops_441 rfl (lv_at hl 4 rfl) ?_
  refine lv_iload hx hb dL_areShops_442 (lv_at hl 2 rfl) ?_
  refine q_callI (r := nI (bset (lkd (fun _ => false) (cle (fun _ => some 0) 16) (cle (fun _ => some 0) 1536) (fun _ => some 0) (cle (fun _ => some 0) 864) 1) 16)) (va_runV (As := [.int (nI 1)]) (rest := []) ⟨hx, hb, hml, hown, hts⟩ (kX0_changed l D h ad cI cZ (fun _ => false) (cle (fun _ => some 0) 16) (fun _ => 0) (fun _ => 0) 0 (fun _ => 0) (fun _ => 0) (fun _ => some 0) (fun _ => 0) (fun _ => 0) 0 0 (cle (fun _ => some 0) 1536) (fun _ => false) (cle (fun _ => some 0) 864) (fun _ => some 0) 1 (by decide) PR_0 HO_0 (Nat.zero_le 200) DV_0 SE_0) (cwV 1 hts gL_areShops_X0_changed rfl rfl rfl (by decide +kernel) ⟨Nat.le_of_ble_eq_true rfl, Nat.le_of_ble_eq_true rfl⟩) ⟨pP_blind, va_recv hK (va_Pl hP) (ci := 0) (q0 := 0) rfl rfl, pP_pre (va_Pl hP) hK⟩ rfl rfl hl.1 rfl (lv_room (Nat.le_of_ble_eq_true rfl)) dL_areShops_444 ⟨Nat.le_of_ble_eq_true rfl, Nat.le_of_ble_eq_true rfl⟩) ?_
  refine q_top (y := nI 0) (by rw [lkd_0 (by decide : 1 < 3)]) ?_
  refine lv_iconst (v := (nI 1)) hx hb dL_areShops_447 (by decide) ?_
  refine lv_aload_n hx hb dL_areShops_448 rfl (lv_at hl 7 rfl) ?_
  refine lv_iconst (v := (nI 0)) hx hb dL_areShops_449 (by decide) ?_
  refine q_ald nI (fun _ => 0) hx hb hK hP 14 1 rfl rfl (k := 0) (by decide) (Nat.le_of_ble_eq_true rfl) dL_areShops_450 ?_
  refine lv_ishl hx hb dL_areShops_451 ?_
  refine q_top (y := (nI 1)) (by decide) ?_
  refine lv_icmp_ge (tgt := 459) hx hb dL_areShops_452 (by decide) (fun z => (show False by revert z; decide).elim) (fun _ => ?_)
  refine lv_iconst (v := (nI 1)) hx hb dL_areShops_455 (by decide) ?_
  refine lv_goto (tgt := 460) hx hb dL_areShops_456 (by decide) ?_
  refine lv_istore (lv' := [(4, .int (nI 1)), (7, .int (nI 0)), (6, .int (nI 0)), (5, .int (nI 1)), (0, .ref h), (1, .ref ta), (2, .ref qa), (3, .ref ga)]) hx hb dL_areShops_460 hl (by decide) rfl (fun ls hl => ?_)
  refine lv_iinc (v := (nI 2)) (lv' := [(5, .int (nI 2)), (4, .int (nI 1)), (7, .int (nI 0)), (6, .int (nI 0)), (0, .ref h), (1, .ref ta), (2, .ref qa), (3, .ref ga)]) hx hb dL_areShops_462 hl (k := 3) rfl (by decide) (by decide) rfl (fun ls hl => ?_)
  refine lv_goto (tgt := 100) hx hb dL_areShops_465 (by decide) ?_
  refine lv_iload hx hb dL_areShops_100 (lv_at hl 0 rfl) ?_
  refine lv_iconst (v := (nI 3)) hx hb dL_areShops_102 (by decide) ?_
  refine lv_icmp_ge (tgt := 468) hx hb dL_areShops_103 (by decide) (fun z => (show False by revert z; decide).elim) (fun _ => ?_)
  refine lv_iload hx hb dL_areShops_106 (lv_at hl 1 rfl) ?_
  refine lv_if_eq (tgt := 468) hx hb dL_areShops_108 (by decide) (fun z => (show False by revert z; decide).elim) (fun _ => ?_)
  refine lv_iconst (v := (nI 0)) hx hb dL_areShops_111 (by decide) ?_
  refine lv_istore (lv' := [(6, .int (nI 0)), (5, .int (nI 2)), (4, .int (nI 1)), (7, .int (nI 0)), (0, .ref h), (1, .ref ta), (2, .ref qa), (3, .ref ga)]) hx hb dL_areShops_112 hl (by decide) rfl (fun ls hl => ?_)
  refine lv_iconst (v := (nI 0)) hx hb dL_areShops_114 (by decide) ?_
  refine lv_istore (lv' := [(7, .int (nI 0)), (6, .int (nI 0)), (5, .int (nI 2)), (4, .int (nI 1)), (0, .ref h), (1, .ref ta), (2, .ref qa), (3, .ref ga)]) hx hb dL_areShops_115 hl (by decide) rfl (fun ls hl => ?_)
  refine lv_iload hx hb dL_areShops_117 (lv_at hl 0 rfl) ?_
  refine lv_aload_n hx hb dL_areShops_119 rfl (lv_at hl 7 rfl) ?_
  refine lv_iconst (v := (nI 0)) hx hb dL_areShops_120 (by decide) ?_
  refine q_ald nI (fun _ => 0) hx hb hK hP 14 1 rfl rfl (k := 0) (by decide) (Nat.le_of_ble_eq_true rfl) dL_areShops_121 ?_
  refine lv_icmp_ge (tgt := 416) hx hb dL_areShops_122 (by decide) (fun _ => ?_) (fun z => (show False by revert z; decide).elim)
  refine lv_iload hx hb dL_areShops_416 (lv_at hl 3 rfl) ?_
  refine lv_if_eq (tgt := 459) hx hb dL_areShops_418 (by decide) (fun z => (show False by revert z; decide).elim) (fun _ => ?_)
  refine lv_aload_n hx hb dL_areShops_421 rfl (lv_at hl 4 rfl) ?_
  refine lv_iload hx hb dL_areShops_422 (lv_at hl 2 rfl) ?_
  refine q_callI (r := nI (cnt (cpl (fun _ => false) (cle (fun _ => some 0) 16) (cle (fun _ => some 0) 1536) (fun _ => some 0) (fun _ => false) 2) 16)) (va_runV (As := [.int (nI 2)]) (rest := []) ⟨hx, hb, hml, hown, hts⟩ (kX0_complete l D h ad cI cZ (fun _ => false) (cle (fun _ => some 0) 16) (fun _ => 0) (fun _ => 0) 0 (fun _ => 0) (fun _ => 0) (fun _ => some 0) (fun _ => 0) (fun _ => 0) 0 0 (cle (fun _ => some 0) 1536) (fun _ => false) (cle (fun _ => some 0) 864) (fun _ => some 0) 2 (by decide) PR_0 HO_0 (Nat.zero_le 200) DV_0) (cwV 1 hts gL_areShops_X0_complete rfl rfl rfl (by decide +kernel) ⟨Nat.le_of_ble_eq_true rfl, Nat.le_of_ble_eq_true rfl⟩) ⟨pP_blind, va_recv hK (va_Pl hP) (ci := 0) (q0 := 0) rfl rfl, pP_pre (va_Pl hP) hK⟩ rfl rfl hl.1 rfl (lv_room (Nat.le_of_ble_eq_true rfl)) dL_areShops_424 ⟨Nat.le_of_ble_eq_true rfl, Nat.le_of_ble_eq_true rfl⟩) ?_
  refine q_top (y := nI 0) (by rw [cpl_0]) ?_
  refine lv_iload hx hb dL_areShops_427 (lv_at hl 1 rfl) ?_
  refine lv_icmp_ne (tgt := 459) hx hb dL_areShops_429 (by decide) (fun z => (show False by revert z; decide).elim) (fun _ => ?_)
  refine lv_aload_n hx hb dL_areShops_432 rfl (lv_at hl 4 rfl) ?_
  refine lv_iload hx hb dL_areShops_433 (lv_at hl 2 rfl) ?_
  refine q_callI (r := nI (bset (lkd (fun _ => false) (cle (fun _ => some 0) 16) (cle (fun _ => some 0) 1536) (fun _ => some 0) (cle (fun _ => some 0) 864) 2) 16)) (va_runV (As := [.int (nI 2)]) (rest := []) ⟨hx, hb, hml, hown, hts⟩ (kX0_changed l D h ad cI cZ (fun _ => false) (cle (fun _ => some 0) 16) (fun _ => 0) (fun _ => 0) 0 (fun _ => 0) (fun _ => 0) (fun _ => some 0) (fun _ => 0) (fun _ => 0) 0 0 (cle (fun _ => some 0) 1536) (fun _ => false) (cle (fun _ => some 0) 864) (fun _ => some 0) 2 (by decide) PR_0 HO_0 (Nat.zero_le 200) DV_0 SE_0) (cwV 1 hts gL_areShops_X0_changed rfl rfl rfl (by decide +kernel) ⟨Nat.le_of_ble_eq_true rfl, Nat.le_of_ble_eq_true rfl⟩) ⟨pP_blind, va_recv hK (va_Pl hP) (ci := 0) (q0 := 0) rfl rfl, pP_pre (va_Pl hP) hK⟩ rfl rfl hl.1 rfl (lv_room (Nat.le_of_ble_eq_true rfl)) dL_areShops_435 ⟨Nat.le_of_ble_eq_true rfl, Nat.le_of_ble_eq_true rfl⟩) ?_
  refine q_top (y := nI 0) (by rw [lkd_0 (by decide : 2 < 3)]) ?_
  refine lv_if_lt (tgt := 459) hx hb dL_areShops_438 (by decide) (fun z => (show False by revert z; decide).elim) (fun _ => ?_)
  refine lv_aload_n hx hb dL_areShops_441 rfl (lv_at hl 4 rfl) ?_
  refine lv_iload hx hb dL_areShops_442 (lv_at hl 2 rfl) ?_
  refine q_callI (r := nI (bset (lkd (fun _ => false) (cle (fun _ => some 0) 16) (cle (fun _ => some 0) 1536) (fun _ => some 0) (cle (fun _ => some 0) 864) 2) 16)) (va_runV (As := [.int (nI 2)]) (rest := []) ⟨hx, hb, hml, hown, hts⟩ (kX0_changed l D h ad cI cZ (fun _ => false) (cle (fun _ => some 0) 16) (fun _ => 0) (fun _ => 0) 0 (fun _ => 0) (fun _ => 0) (fun _ => some 0) (fun _ => 0) (fun _ => 0) 0 0 (cle (fun _ => some 0) 1536) (fun _ => false) (cle (fun _ => some 0) 864) (fun _ => some 0) 2 (by decide) PR_0 HO_0 (Nat.zero_le 200) DV_0 SE_0) (cwV 1 hts gL_areShops_X0_changed rfl rfl rfl (by decide +kernel) ⟨Nat.le_of_ble_eq_true rfl, Nat.le_of_ble_eq_true rfl⟩) ⟨pP_blind, va_recv hK (va_Pl hP) (ci := 0) (q0 := 0) rfl rfl, pP_pre (va_Pl hP) hK⟩ rfl rfl hl.1 rfl (lv_room (Nat.le_of_ble_eq_true rfl)) dL_areShops_444 ⟨Nat.le_of_ble_eq_true rfl, Nat.le_of_ble_eq_true rfl⟩) ?_
  refine q_top (y := nI 0) (by rw [lkd_0 (by decide : 2 < 3)]) ?_
  refine lv_iconst (v := (nI 1)) hx hb dL_areShops_447 (by decide) ?_
  refine lv_aload_n hx hb dL_areShops_448 rfl (lv_at hl 7 rfl) ?_
  refine lv_iconst (v := (nI 0)) hx hb dL_areShops_449 (by decide) ?_
  refine q_ald nI (fun _ => 0) hx hb hK hP 14 1 rfl rfl (k := 0) (by decide) (Nat.le_of_ble_eq_true rfl) dL_areShops_450 ?_
  refine lv_ishl hx hb dL_areShops_451 ?_
  refine q_top (y := (nI 1)) (by decide) ?_
  refine lv_icmp_ge (tgt := 459) hx hb dL_areShops_452 (by decide) (fun z => (show False by revert z; decide).elim) (fun _ => ?_)
  refine lv_iconst (v := (nI 1)) hx hb dL_areShops_455 (by decide) ?_
  refine lv_goto (tgt := 460) hx hb dL_areShops_456 (by decide) ?_
  refine lv_istore (lv' := [(4, .int (nI 1)), (7, .int (nI 0)), (6, .int (nI 0)), (5, .int (nI 2)), (0, .ref h), (1, .ref ta), (2, .ref qa), (3, .ref ga)]) hx hb dL_areShops_460 hl (by decide) rfl (fun ls hl => ?_)
  refine lv_iinc (v := (nI 3)) (lv' := [(5, .int (nI 3)), (4, .int (nI 1)), (7, .int (nI 0)), (6, .int (nI 0)), (0, .ref h), (1, .ref ta), (2, .ref qa), (3, .ref ga)]) hx hb dL_areShops_462 hl (k := 3) rfl (by decide) (by decide) rfl (fun ls hl => ?_)
  refine lv_goto (tgt := 100) hx hb dL_areShops_465 (by decide) ?_
  refine lv_iload hx hb dL_areShops_100 (lv_at hl 0 rfl) ?_
  refine lv_iconst (v := (nI 3)) hx hb dL_areShops_102 (by decide) ?_
  refine lv_icmp_ge (tgt := 468) hx hb dL_areShops_103 (by decide) (fun _ => ?_) (fun z => (show False by revert z; decide).elim)
  refine lv_iload hx hb dL_areShops_468 (lv_at hl 1 rfl) ?_
  refine q_top (y := bI true) (by decide) ?_
  exact q_rretZ hx hb hr hlocks hz (Nat.le_of_ble_eq_true rfl) hS dL_areShops_470 (Nat.le_of_ble_eq_true rfl) (Nat.le_of_ble_eq_true rfl)
end
section
set_option maxHeartbeats 4000000 in
set_option maxRecDepth 100000 in
theorem kL_part (l : Launch) (b L k n : Nat) (hk : k < L) (hL : L < 2147483648) (hn : 0 < n) (hn2 : n < 2147483648) : Met l yL_part wsL_part ({ frames := 0, cells := 0, slots := 0, locals := 0 } : Room) (sX b L (fun _ => nI 39) [.ref b, .int (nI k), .int (nI n)]) (pQ (some (.int (nI (39 % n))))) 0 0 nF := by
  refine Met.ofW (cc := cL_part) (maxL := 4) (ret := (some .int)) (by decide) rfl ?_
  intro p e s m args below meth c s₁ B hml hv
  obtain ⟨rfl, hX⟩ := hv
  have hx := B.exec
  have hb := B.bytes
  have hr := B.returns
  have hts := atoms_spec (ws := wsL_part) B.pre
  have hown : s.vm.findClass RL = some m.cls := findClass_of_methodNamed B.named
  have hlocks := B.notSynchronized
  have hl := lv_entry ([.ref b, .int (nI k), .int (nI n)]) (n := 4) (Nat.le_of_ble_eq_true rfl)
  rw [lg_entry_eq]
  generalize (lg_sl ([.ref b, .int (nI k), .int (nI n)]) ++ List.replicate (4 - (lg_sl ([.ref b, .int (nI k), .int (nI n)])).length) Slot.unset).toArray = ls at hl ⊢
  have hl : lv_has ls 4 [(0, .ref b), (1, .int (nI k)), (2, .int (nI n))] := hl
  have hX : va_X b L (fun _ => nI 39) s s.heap := hX
  have hbl := va_X_lt hX
  have hS : va_S nF s.heap s.heap [] := va_S.rf
  have hbA : ¬ nF b := fun z => z
  refine lv_iload_n hx hb dL_part_0 rfl (lv_at hl 1 rfl) ?_
  refine lv_aload_n hx hb dL_part_1 rfl (lv_at hl 0 rfl) ?_
  refine va_slen hx hb hX hbl hbA hS dL_part_2 ?_
  refine q_icmpN_ge (a := k) (b := L) (tgt := 12) (by omega) (by omega) hx hb dL_part_3 (by decide) (fun z => absurd z (by omega)) (fun _ => ?_)
  refine lv_aload_n hx hb dL_part_6 rfl (lv_at hl 0 rfl) ?_
  refine lv_iload_n hx hb dL_part_7 rfl (lv_at hl 1 rfl) ?_
  refine va_sld hx hb hX hbl hbA hS (vp_in_nI hk (by omega)) dL_part_8 ?_
  refine lv_goto (tgt := 25) hx hb dL_part_9 (by decide) ?_
  refine lv_istore_n (lv' := [(3, .int (nI 39)), (0, .ref b), (1, .int (nI k)), (2, .int (nI n))]) hx hb dL_part_25 rfl hl (by decide) rfl (fun ls hl => ?_)
  refine lv_iload_n hx hb dL_part_26 rfl (lv_at hl 0 rfl) ?_
  refine lv_ldc (v := 2147483647) hx hb hown (hts (.constant RL 7 (2147483647)) (by decide +kernel)) dL_part_27 ?_
  refine lv_iand hx hb dL_part_29 ?_
  refine q_top (y := nI 39) (by decide) ?_
  refine lv_iload_n hx hb dL_part_30 rfl (lv_at hl 3 rfl) ?_
  refine q_remN (a := 39) (b := n) (by decide) hn hn2 hx hb dL_part_31 ?_
  exact q_retI hx hb hr hlocks rfl dL_part_32

set_option maxHeartbeats 4000000 in
set_option maxRecDepth 100000 in
theorem kL_isDone (l : Launch) (D : va_G) (h : Nat) (ad : Nat → Nat) (cI cZ : ClassId) (hlf : l.stackTraces = false) (b L k ta qa da ea aa ga : Nat) (hk : k + 3 < L) (hL : L < 2147483648) : Met l yL_isDone wsL_isDone ({ frames := 9, cells := 1, slots := 6, locals := 150 } : Room) (oP D (hWi h ad cI cZ) (hT cI cZ) b L (fun _ => nI 39) [.ref h, .ref b, .int (nI k), .ref ta, .ref qa, .ref da, .ref ea, .ref aa, .ref ga]) (rQ (.int (bI true)) 1) 1 6 nF := by
  refine Met.ofW (cc := cL_isDone) (maxL := 17) (ret := (some .boolean)) (by decide) rfl ?_
  intro p e s m args below meth c s₁ B hml hv
  obtain ⟨rfl, hP, hK, hE, hX⟩ := hv
  have hx := B.exec
  have hb := B.bytes
  have hr := B.returns
  have hts := atoms_spec (ws := wsL_isDone) B.pre
  have hown : s.vm.findClass RL = some m.cls := findClass_of_methodNamed B.named
  have hlocks := B.notSynchronized
  have hl := lv_entry ([.ref h, .ref b, .int (nI k), .ref ta, .ref qa, .ref da, .ref ea, .ref aa, .ref ga]) (n := 17) (Nat.le_of_ble_eq_true rfl)
  rw [lg_entry_eq]
  generalize (lg_sl ([.ref h, .ref b, .int (nI k), .ref ta, .ref qa, .ref da, .ref ea, .ref aa, .ref ga]) ++ List.replicate (17 - (lg_sl ([.ref h, .ref b, .int (nI k), .ref ta, .ref qa, .ref da, .ref ea, .ref aa, .ref ga])).length) Slot.unset).toArray = ls at hl ⊢
  have hl : lv_has ls 17 [(0, .ref h), (1, .ref b), (2, .int (nI k)), (3, .ref ta), (4, .ref qa), (5, .ref da), (6, .ref ea), (7, .ref aa), (8, .ref ga)] := hl
  have hbl := va_X_lt hX
  have hE : tEA nF s s.heap := hE
  have hS : va_S nF s.heap s.heap [] := va_S.rf
  have hz : s.heap.size + 0 ≤ s.heap.size := Nat.le_refl _
  refine lv_aload_n hx hb dL_isDone_0 rfl (lv_at hl 1 rfl) ?_
  refine lv_iload_n hx hb dL_isDone_1 rfl (lv_at hl 2 rfl) ?_
  refine lv_bipush (v := nI 40) hx hb dL_isDone_2 (by decide) ?_
  refine q_callI (r := nI 39) (va_runS (As := [.ref b, .int (nI k), .int (nI 40)]) (rest := []) ⟨hx, hb, hml, hown, hts⟩ (kL_part l b L k 40 (by omega) hL (by decide) (by decide)) (va_cwS 3 hts gL_isDone_L_part rfl rfl rfl (by decide +kernel) ⟨Nat.le_of_ble_eq_true rfl, Nat.le_of_ble_eq_true rfl⟩) ⟨sX_blind, sX_preH hX⟩ rfl rfl hl.1 rfl (lv_room (Nat.le_of_ble_eq_true rfl)) dL_isDone_4 ⟨Nat.le_of_ble_eq_true rfl, Nat.le_of_ble_eq_true rfl⟩) ?_
  refine lv_istore (lv' := [(9, .int (nI 39)), (0, .ref h), (1, .ref b), (2, .int (nI k)), (3, .ref ta), (4, .ref qa), (5, .ref da), (6, .ref ea), (7, .ref aa), (8, .ref ga)]) hx hb dL_isDone_7 hl (by decide) rfl (fun ls hl => ?_)
  refine lv_aload_n hx hb dL_isDone_9 rfl (lv_at hl 2 rfl) ?_
  refine lv_iload_n hx hb dL_isDone_10 rfl (lv_at hl 3 rfl) ?_
  refine lv_iconst (v := nI 1) hx hb dL_isDone_11 (by decide) ?_
  refine q_addN (a := k) (b := 1) hx hb dL_isDone_12 ?_
  refine lv_sipush (v := nI 6000) hx hb dL_isDone_13 (by decide) ?_
  refine q_callI (r := nI 39) (va_runS (As := [.ref b, .int (nI (k + 1)), .int (nI 6000)]) (rest := []) ⟨hx, hb, hml, hown, hts⟩ (kL_part l b L (k + 1) 6000 (by omega) hL (by decide) (by decide)) (va_cwS 3 hts gL_isDone_L_part rfl rfl rfl (by decide +kernel) ⟨Nat.le_of_ble_eq_true rfl, Nat.le_of_ble_eq_true rfl⟩) ⟨sX_blind, sX_preH hX⟩ rfl rfl hl.1 rfl (lv_room (Nat.le_of_ble_eq_true rfl)) dL_isDone_16 ⟨Nat.le_of_ble_eq_true rfl, Nat.le_of_ble_eq_true rfl⟩) ?_
  refine lv_istore (lv' := [(10, .int (nI 39)), (9, .int (nI 39)), (0, .ref h), (1, .ref b), (2, .int (nI k)), (3, .ref ta), (4, .ref qa), (5, .ref da), (6, .ref ea), (7, .ref aa), (8, .ref ga)]) hx hb dL_isDone_19 hl (by decide) rfl (fun ls hl => ?_)
  refine lv_aload_n hx hb dL_isDone_21 rfl (lv_at hl 3 rfl) ?_
  refine lv_iload_n hx hb dL_isDone_22 rfl (lv_at hl 4 rfl) ?_
  refine lv_iconst (v := nI 2) hx hb dL_isDone_23 (by decide) ?_
  refine q_addN (a := k) (b := 2) hx hb dL_isDone_24 ?_
  refine lv_sipush (v := nI 7000) hx hb dL_isDone_25 (by decide) ?_
  refine q_callI (r := nI 39) (va_runS (As := [.ref b, .int (nI (k + 2)), .int (nI 7000)]) (rest := []) ⟨hx, hb, hml, hown, hts⟩ (kL_part l b L (k + 2) 7000 (by omega) hL (by decide) (by decide)) (va_cwS 3 hts gL_isDone_L_part rfl rfl rfl (by decide +kernel) ⟨Nat.le_of_ble_eq_true rfl, Nat.le_of_ble_eq_true rfl⟩) ⟨sX_blind, sX_preH hX⟩ rfl rfl hl.1 rfl (lv_room (Nat.le_of_ble_eq_true rfl)) dL_isDone_28 ⟨Nat.le_of_ble_eq_true rfl, Nat.le_of_ble_eq_true rfl⟩) ?_
  refine lv_istore (lv' := [(11, .int (nI 39)), (10, .int (nI 39)), (9, .int (nI 39)), (0, .ref h), (1, .ref b), (2, .int (nI k)), (3, .ref ta), (4, .ref qa), (5, .ref da), (6, .ref ea), (7, .ref aa), (8, .ref ga)]) hx hb dL_isDone_31 hl (by decide) rfl (fun ls hl => ?_)
  refine lv_aload_n hx hb dL_isDone_33 rfl (lv_at hl 4 rfl) ?_
  refine lv_iload_n hx hb dL_isDone_34 rfl (lv_at hl 5 rfl) ?_
  refine lv_iconst (v := nI 3) hx hb dL_isDone_35 (by decide) ?_
  refine q_addN (a := k) (b := 3) hx hb dL_isDone_36 ?_
  refine lv_sipush (v := nI 8000) hx hb dL_isDone_37 (by decide) ?_
  refine q_callI (r := nI 39) (va_runS (As := [.ref b, .int (nI (k + 3)), .int (nI 8000)]) (rest := []) ⟨hx, hb, hml, hown, hts⟩ (kL_part l b L (k + 3) 8000 (by omega) hL (by decide) (by decide)) (va_cwS 3 hts gL_isDone_L_part rfl rfl rfl (by decide +kernel) ⟨Nat.le_of_ble_eq_true rfl, Nat.le_of_ble_eq_true rfl⟩) ⟨sX_blind, sX_preH hX⟩ rfl rfl hl.1 rfl (lv_room (Nat.le_of_ble_eq_true rfl)) dL_isDone_40 ⟨Nat.le_of_ble_eq_true rfl, Nat.le_of_ble_eq_true rfl⟩) ?_
  refine lv_istore (lv' := [(12, .int (nI 39)), (11, .int (nI 39)), (10, .int (nI 39)), (9, .int (nI 39)), (0, .ref h), (1, .ref b), (2, .int (nI k)), (3, .ref ta), (4, .ref qa), (5, .ref da), (6, .ref ea), (7, .ref aa), (8, .ref ga)]) hx hb dL_isDone_43 hl (by decide) rfl (fun ls hl => ?_)
  refine lv_iload hx hb dL_isDone_45 (lv_at hl 3 rfl) ?_
  refine lv_bipush (v := (nI 8)) hx hb dL_isDone_47 (by decide) ?_
  refine lv_icmp_ge (tgt := 88) hx hb dL_isDone_49 (by decide) (fun _ => ?_) (fun z => (show False by revert z; decide).elim)
  refine lv_iload hx hb dL_isDone_88 (lv_at hl 3 rfl) ?_
  refine lv_bipush (v := (nI 11)) hx hb dL_isDone_90 (by decide) ?_
  refine lv_icmp_ge (tgt := 111) hx hb dL_isDone_92 (by decide) (fun _ => ?_) (fun z => (show False by revert z; decide).elim)
  refine lv_iload hx hb dL_isDone_111 (lv_at hl 3 rfl) ?_
  refine lv_bipush (v := (nI 22)) hx hb dL_isDone_113 (by decide) ?_
  refine lv_icmp_ge (tgt := 153) hx hb dL_isDone_115 (by decide) (fun _ => ?_) (fun z => (show False by revert z; decide).elim)
  refine lv_iload hx hb dL_isDone_153 (lv_at hl 3 rfl) ?_
  refine lv_bipush (v := (nI 30)) hx hb dL_isDone_155 (by decide) ?_
  refine lv_icmp_ge (tgt := 193) hx hb dL_isDone_157 (by decide) (fun _ => ?_) (fun z => (show False by revert z; decide).elim)
  refine lv_iload hx hb dL_isDone_193 (lv_at hl 3 rfl) ?_
  refine lv_bipush (v := (nI 30)) hx hb dL_isDone_195 (by decide) ?_
  refine lv_icmp_ne (tgt := 292) hx hb dL_isDone_197 (by decide) (fun _ => ?_) (fun z => (show False by revert z; decide).elim)
  refine lv_iload hx hb dL_isDone_292 (lv_at hl 3 rfl) ?_
  refine lv_bipush (v := (nI 34)) hx hb dL_isDone_294 (by decide) ?_
  refine lv_icmp_ge (tgt := 389) hx hb dL_isDone_296 (by decide) (fun _ => ?_) (fun z => (show False by revert z; decide).elim)
  refine lv_iload hx hb dL_isDone_389 (lv_at hl 3 rfl) ?_
  refine lv_bipush (v := (nI 37)) hx hb dL_isDone_391 (by decide) ?_
  refine lv_icmp_ge (tgt := 472) hx hb dL_isDone_393 (by decide) (fun _ => ?_) (fun z => (show False by revert z; decide).elim)
  refine lv_iload hx hb dL_isDone_472 (lv_at hl 2 rfl) ?_
  refine lv_iconst (v := (nI 4)) hx hb dL_isDone_474 (by decide) ?_
  refine lv_irem hx hb dL_isDone_475 (by decide) ?_
  refine q_top (y := (nI 3)) (by decide) ?_
  refine lv_istore (lv' := [(13, .int (nI 3)), (12, .int (nI 39)), (11, .int (nI 39)), (10, .int (nI 39)), (9, .int (nI 39)), (0, .ref h), (1, .ref b), (2, .int (nI k)), (3, .ref ta), (4, .ref qa), (5, .ref da), (6, .ref ea), (7, .ref aa), (8, .ref ga)]) hx hb dL_isDone_476 hl (by decide) rfl (fun ls hl => ?_)
  refine lv_iload hx hb dL_isDone_478 (lv_at hl 0 rfl) ?_
  refine lv_iconst (v := (nI 3)) hx hb dL_isDone_480 (by decide) ?_
  refine lv_icmp_ge (tgt := 493) hx hb dL_isDone_481 (by decide) (fun _ => ?_) (fun z => (show False by revert z; decide).elim)
  refine lv_iconst (v := (nI 0)) hx hb dL_isDone_493 (by decide) ?_
  refine lv_istore (lv' := [(14, .int (nI 0)), (13, .int (nI 3)), (12, .int (nI 39)), (11, .int (nI 39)), (10, .int (nI 39)), (9, .int (nI 39)), (0, .ref h), (1, .ref b), (2, .int (nI k)), (3, .ref ta), (4, .ref qa), (5, .ref da), (6, .ref ea), (7, .ref aa), (8, .ref ga)]) hx hb dL_isDone_494 hl (by decide) rfl (fun ls hl => ?_)
  refine lv_iconst (v := (nI 0)) hx hb dL_isDone_496 (by decide) ?_
  refine lv_istore (lv' := [(15, .int (nI 0)), (14, .int (nI 0)), (13, .int (nI 3)), (12, .int (nI 39)), (11, .int (nI 39)), (10, .int (nI 39)), (9, .int (nI 39)), (0, .ref h), (1, .ref b), (2, .int (nI k)), (3, .ref ta), (4, .ref qa), (5, .ref da), (6, .ref ea), (7, .ref aa), (8, .ref ga)]) hx hb dL_isDone_497 hl (by decide) rfl (fun ls hl => ?_)
  refine lv_iconst (v := (nI 0)) hx hb dL_isDone_499 (by decide) ?_
  refine lv_istore (lv' := [(16, .int (nI 0)), (15, .int (nI 0)), (14, .int (nI 0)), (13, .int (nI 3)), (12, .int (nI 39)), (11, .int (nI 39)), (10, .int (nI 39)), (9, .int (nI 39)), (0, .ref h), (1, .ref b), (2, .int (nI k)), (3, .ref ta), (4, .ref qa), (5, .ref da), (6, .ref ea), (7, .ref aa), (8, .ref ga)]) hx hb dL_isDone_500 hl (by decide) rfl (fun ls hl => ?_)
  refine lv_iload hx hb dL_isDone_502 (lv_at hl 0 rfl) ?_
  refine lv_bipush (v := (nI 8)) hx hb dL_isDone_504 (by decide) ?_
  refine lv_icmp_ge (tgt := 527) hx hb dL_isDone_506 (by decide) (fun z => (show False by revert z; decide).elim) (fun _ => ?_)
  refine lv_iload hx hb dL_isDone_509 (lv_at hl 1 rfl) ?_
  refine lv_iload hx hb dL_isDone_511 (lv_at hl 2 rfl) ?_
  refine lv_iload hx hb dL_isDone_513 (lv_at hl 0 rfl) ?_
  refine lv_ishr hx hb dL_isDone_515 ?_
  refine q_top (y := (nI 0)) (by decide) ?_
  refine lv_iconst (v := (nI 1)) hx hb dL_isDone_516 (by decide) ?_
  refine lv_iand hx hb dL_isDone_517 ?_
  refine q_top (y := (nI 0)) (by decide) ?_
  refine lv_iadd hx hb dL_isDone_518 ?_
  refine q_top (y := (nI 0)) (by decide) ?_
  refine lv_istore (lv' := [(15, .int (nI 0)), (16, .int (nI 0)), (14, .int (nI 0)), (13, .int (nI 3)), (12, .int (nI 39)), (11, .int (nI 39)), (10, .int (nI 39)), (9, .int (nI 39)), (0, .ref h), (1, .ref b), (2, .int (nI k)), (3, .ref ta), (4, .ref qa), (5, .ref da), (6, .ref ea), (7, .ref aa), (8, .ref ga)]) hx hb dL_isDone_519 hl (by decide) rfl (fun ls hl => ?_)
  refine lv_iinc (v := (nI 1)) (lv' := [(16, .int (nI 1)), (15, .int (nI 0)), (14, .int (nI 0)), (13, .int (nI 3)), (12, .int (nI 39)), (11, .int (nI 39)), (10, .int (nI 39)), (9, .int (nI 39)), (0, .ref h), (1, .ref b), (2, .int (nI k)), (3, .ref ta), (4, .ref qa), (5, .ref da), (6, .ref ea), (7, .ref aa), (8, .ref ga)]) hx hb dL_isDone_521 hl (k := 1) rfl (by decide) (by decide) rfl (fun ls hl => ?_)
  refine lv_goto (tgt := 502) hx hb dL_isDone_524 (by decide) ?_
  refine lv_iload hx hb dL_isDone_502 (lv_at hl 0 rfl) ?_
  refine lv_bipush (v := (nI 8)) hx hb dL_isDone_504 (by decide) ?_
  refine lv_icmp_ge (tgt := 527) hx hb dL_isDone_506 (by decide) (fun z => (show False by revert z; decide).elim) (fun _ => ?_)
  refine lv_iload hx hb dL_isDone_509 (lv_at hl 1 rfl) ?_
  refine lv_iload hx hb dL_isDone_511 (lv_at hl 2 rfl) ?_
  refine lv_iload hx hb dL_isDone_513 (lv_at hl 0 rfl) ?_
  refine lv_ishr hx hb dL_isDone_515 ?_
  refine q_top (y := (nI 0)) (by decide) ?_
  refine lv_iconst (v := (nI 1)) hx hb dL_isDone_516 (by decide) ?_
  refine lv_iand hx hb dL_isDone_517 ?_
  refine q_top (y := (nI 0)) (by decide) ?_
  refine lv_iadd hx hb dL_isDone_518 ?_
  refine q_top (y := (nI 0)) (by decide) ?_
  refine lv_istore (lv' := [(15, .int (nI 0)), (16, .int (nI 1)), (14, .int (nI 0)), (13, .int (nI 3)), (12, .int (nI 39)), (11, .int (nI 39)), (10, .int (nI 39)), (9, .int (nI 39)), (0, .ref h), (1, .ref b), (2, .int (nI k)), (3, .ref ta), (4, .ref qa), (5, .ref da), (6, .ref ea), (7, .ref aa), (8, .ref ga)]) hx hb dL_isDone_519 hl (by decide) rfl (fun ls hl => ?_)
  refine lv_iinc (v := (nI 2)) (lv' := [(16, .int (nI 2)), (15, .int (nI 0)), (14, .int (nI 0)), (13, .int (nI 3)), (12, .int (nI 39)), (11, .int (nI 39)), (10, .int (nI 39)), (9, .int (nI 39)), (0, .ref h), (1, .ref b), (2, .int (nI k)), (3, .ref ta), (4, .ref qa), (5, .ref da), (6, .ref ea), (7, .ref aa), (8, .ref ga)]) hx hb dL_isDone_521 hl (k := 1) rfl (by decide) (by decide) rfl (fun ls hl => ?_)
  refine lv_goto (tgt := 502) hx hb dL_isDone_524 (by decide) ?_
  refine lv_iload hx hb dL_isDone_502 (lv_at hl 0 rfl) ?_
  refine lv_bipush (v := (nI 8)) hx hb dL_isDone_504 (by decide) ?_
  refine lv_icmp_ge (tgt := 527) hx hb dL_isDone_506 (by decide) (fun z => (show False by revert z; decide).elim) (fun _ => ?_)
  refine lv_iload hx hb dL_isDone_509 (lv_at hl 1 rfl) ?_
  refine lv_iload hx hb dL_isDone_511 (lv_at hl 2 rfl) ?_
  refine lv_iload hx hb dL_isDone_513 (lv_at hl 0 rfl) ?_
  refine lv_ishr hx hb dL_isDone_515 ?_
  refine q_top (y := (nI 0)) (by decide) ?_
  refine lv_iconst (v := (nI 1)) hx hb dL_isDone_516 (by decide) ?_
  refine lv_iand hx hb dL_isDone_517 ?_
  refine q_top (y := (nI 0)) (by decide) ?_
  refine lv_iadd hx hb dL_isDone_518 ?_
  refine q_top (y := (nI 0)) (by decide) ?_
  refine lv_istore (lv' := [(15, .int (nI 0)), (16, .int (nI 2)), (14, .int (nI 0)), (13, .int (nI 3)), (12, .int (nI 39)), (11, .int (nI 39)), (10, .int (nI 39)), (9, .int (nI 39)), (0, .ref h), (1, .ref b), (2, .int (nI k)), (3, .ref ta), (4, .ref qa), (5, .ref da), (6, .ref ea), (7, .ref aa), (8, .ref ga)]) hx hb dL_isDone_519 hl (by decide) rfl (fun ls hl => ?_)
  refine lv_iinc (v := (nI 3)) (lv' := [(16, .int (nI 3)), (15, .int (nI 0)), (14, .int (nI 0)), (13, .int (nI 3)), (12, .int (nI 39)), (11, .int (nI 39)), (10, .int (nI 39)), (9, .int (nI 39)), (0, .ref h), (1, .ref b), (2, .int (nI k)), (3, .ref ta), (4, .ref qa), (5, .ref da), (6, .ref ea), (7, .ref aa), (8, .ref ga)]) hx hb dL_isDone_521 hl (k := 1) rfl (by decide) (by decide) rfl (fun ls hl => ?_)
  refine lv_goto (tgt := 502) hx hb dL_isDone_524 (by decide) ?_
  refine lv_iload hx hb dL_isDone_502 (lv_at hl 0 rfl) ?_
  refine lv_bipush (v := (nI 8)) hx hb dL_isDone_504 (by decide) ?_
  refine lv_icmp_ge (tgt := 527) hx hb dL_isDone_506 (by decide) (fun z => (show False by revert z; decide).elim) (fun _ => ?_)
  refine lv_iload hx hb dL_isDone_509 (lv_at hl 1 rfl) ?_
  refine lv_iload hx hb dL_isDone_511 (lv_at hl 2 rfl) ?_
  refine lv_iload hx hb dL_isDone_513 (lv_at hl 0 rfl) ?_
  refine lv_ishr hx hb dL_isDone_515 ?_
  refine q_top (y := (nI 0)) (by decide) ?_
  refine lv_iconst (v := (nI 1)) hx hb dL_isDone_516 (by decide) ?_
  refine lv_iand hx hb dL_isDone_517 ?_
  refine q_top (y := (nI 0)) (by decide) ?_
  refine lv_iadd hx hb dL_isDone_518 ?_
  refine q_top (y := (nI 0)) (by decide) ?_
  refine lv_istore (lv' := [(15, .int (nI 0)), (16, .int (nI 3)), (14, .int (nI 0)), (13, .int (nI 3)), (12, .int (nI 39)), (11, .int (nI 39)), (10, .int (nI 39)), (9, .int (nI 39)), (0, .ref h), (1, .ref b), (2, .int (nI k)), (3, .ref ta), (4, .ref qa), (5, .ref da), (6, .ref ea), (7, .ref aa), (8, .ref ga)]) hx hb dL_isDone_519 hl (by decide) rfl (fun ls hl => ?_)
  refine lv_iinc (v := (nI 4)) (lv' := [(16, .int (nI 4)), (15, .int (nI 0)), (14, .int (nI 0)), (13, .int (nI 3)), (12, .int (nI 39)), (11, .int (nI 39)), (10, .int (nI 39)), (9, .int (nI 39)), (0, .ref h), (1, .ref b), (2, .int (nI k)), (3, .ref ta), (4, .ref qa), (5, .ref da), (6, .ref ea), (7, .ref aa), (8, .ref ga)]) hx hb dL_isDone_521 hl (k := 1) rfl (by decide) (by decide) rfl (fun ls hl => ?_)
  refine lv_goto (tgt := 502) hx hb dL_isDone_524 (by decide) ?_
  refine lv_iload hx hb dL_isDone_502 (lv_at hl 0 rfl) ?_
  refine lv_bipush (v := (nI 8)) hx hb dL_isDone_504 (by decide) ?_
  refine lv_icmp_ge (tgt := 527) hx hb dL_isDone_506 (by decide) (fun z => (show False by revert z; decide).elim) (fun _ => ?_)
  refine lv_iload hx hb dL_isDone_509 (lv_at hl 1 rfl) ?_
  refine lv_iload hx hb dL_isDone_511 (lv_at hl 2 rfl) ?_
  refine lv_iload hx hb dL_isDone_513 (lv_at hl 0 rfl) ?_
  refine lv_ishr hx hb dL_isDone_515 ?_
  refine q_top (y := (nI 0)) (by decide) ?_
  refine lv_iconst (v := (nI 1)) hx hb dL_isDone_516 (by decide) ?_
  refine lv_iand hx hb dL_isDone_517 ?_
  refine q_top (y := (nI 0)) (by decide) ?_
  refine lv_iadd hx hb dL_isDone_518 ?_
  refine q_top (y := (nI 0)) (by decide) ?_
  refine lv_istore (lv' := [(15, .int (nI 0)), (16, .int (nI 4)), (14, .int (nI 0)), (13, .int (nI 3)), (12, .int (nI 39)), (11, .int (nI 39)), (10, .int (nI 39)), (9, .int (nI 39)), (0, .ref h), (1, .ref b), (2, .int (nI k)), (3, .ref ta), (4, .ref qa), (5, .ref da), (6, .ref ea), (7, .ref aa), (8, .ref ga)]) hx hb dL_isDone_519 hl (by decide) rfl (fun ls hl => ?_)
  refine lv_iinc (v := (nI 5)) (lv' := [(16, .int (nI 5)), (15, .int (nI 0)), (14, .int (nI 0)), (13, .int (nI 3)), (12, .int (nI 39)), (11, .int (nI 39)), (10, .int (nI 39)), (9, .int (nI 39)), (0, .ref h), (1, .ref b), (2, .int (nI k)), (3, .ref ta), (4, .ref qa), (5, .ref da), (6, .ref ea), (7, .ref aa), (8, .ref ga)]) hx hb dL_isDone_521 hl (k := 1) rfl (by decide) (by decide) rfl (fun ls hl => ?_)
  refine lv_goto (tgt := 502) hx hb dL_isDone_524 (by decide) ?_
  refine lv_iload hx hb dL_isDone_502 (lv_at hl 0 rfl) ?_
  refine lv_bipush (v := (nI 8)) hx hb dL_isDone_504 (by decide) ?_
  refine lv_icmp_ge (tgt := 527) hx hb dL_isDone_506 (by decide) (fun z => (show False by revert z; decide).elim) (fun _ => ?_)
  refine lv_iload hx hb dL_isDone_509 (lv_at hl 1 rfl) ?_
  refine lv_iload hx hb dL_isDone_511 (lv_at hl 2 rfl) ?_
  refine lv_iload hx hb dL_isDone_513 (lv_at hl 0 rfl) ?_
  refine lv_ishr hx hb dL_isDone_515 ?_
  refine q_top (y := (nI 0)) (by decide) ?_
  refine lv_iconst (v := (nI 1)) hx hb dL_isDone_516 (by decide) ?_
  refine lv_iand hx hb dL_isDone_517 ?_
  refine q_top (y := (nI 0)) (by decide) ?_
  refine lv_iadd hx hb dL_isDone_518 ?_
  refine q_top (y := (nI 0)) (by decide) ?_
  refine lv_istore (lv' := [(15, .int (nI 0)), (16, .int (nI 5)), (14, .int (nI 0)), (13, .int (nI 3)), (12, .int (nI 39)), (11, .int (nI 39)), (10, .int (nI 39)), (9, .int (nI 39)), (0, .ref h), (1, .ref b), (2, .int (nI k)), (3, .ref ta), (4, .ref qa), (5, .ref da), (6, .ref ea), (7, .ref aa), (8, .ref ga)]) hx hb dL_isDone_519 hl (by decide) rfl (fun ls hl => ?_)
  refine lv_iinc (v := (nI 6)) (lv' := [(16, .int (nI 6)), (15, .int (nI 0)), (14, .int (nI 0)), (13, .int (nI 3)), (12, .int (nI 39)), (11, .int (nI 39)), (10, .int (nI 39)), (9, .int (nI 39)), (0, .ref h), (1, .ref b), (2, .int (nI k)), (3, .ref ta), (4, .ref qa), (5, .ref da), (6, .ref ea), (7, .ref aa), (8, .ref ga)]) hx hb dL_isDone_521 hl (k := 1) rfl (by decide) (by decide) rfl (fun ls hl => ?_)
  refine lv_goto (tgt := 502) hx hb dL_isDone_524 (by decide) ?_
  refine lv_iload hx hb dL_isDone_502 (lv_at hl 0 rfl) ?_
  refine lv_bipush (v := (nI 8)) hx hb dL_isDone_504 (by decide) ?_
  refine lv_icmp_ge (tgt := 527) hx hb dL_isDone_506 (by decide) (fun z => (show False by revert z; decide).elim) (fun _ => ?_)
  refine lv_iload hx hb dL_isDone_509 (lv_at hl 1 rfl) ?_
  refine lv_iload hx hb dL_isDone_511 (lv_at hl 2 rfl) ?_
  refine lv_iload hx hb dL_isDone_513 (lv_at hl 0 rfl) ?_
  refine lv_ishr hx hb dL_isDone_515 ?_
  refine q_top (y := (nI 0)) (by decide) ?_
  refine lv_iconst (v := (nI 1)) hx hb dL_isDone_516 (by decide) ?_
  refine lv_iand hx hb dL_isDone_517 ?_
  refine q_top (y := (nI 0)) (by decide) ?_
  refine lv_iadd hx hb dL_isDone_518 ?_
  refine q_top (y := (nI 0)) (by decide) ?_
  refine lv_istore (lv' := [(15, .int (nI 0)), (16, .int (nI 6)), (14, .int (nI 0)), (13, .int (nI 3)), (12, .int (nI 39)), (11, .int (nI 39)), (10, .int (nI 39)), (9, .int (nI 39)), (0, .ref h), (1, .ref b), (2, .int (nI k)), (3, .ref ta), (4, .ref qa), (5, .ref da), (6, .ref ea), (7, .ref aa), (8, .ref ga)]) hx hb dL_isDone_519 hl (by decide) rfl (fun ls hl => ?_)
  refine lv_iinc (v := (nI 7)) (lv' := [(16, .int (nI 7)), (15, .int (nI 0)), (14, .int (nI 0)), (13, .int (nI 3)), (12, .int (nI 39)), (11, .int (nI 39)), (10, .int (nI 39)), (9, .int (nI 39)), (0, .ref h), (1, .ref b), (2, .int (nI k)), (3, .ref ta), (4, .ref qa), (5, .ref da), (6, .ref ea), (7, .ref aa), (8, .ref ga)]) hx hb dL_isDone_521 hl (k := 1) rfl (by decide) (by decide) rfl (fun ls hl => ?_)
  refine lv_goto (tgt := 502) hx hb dL_isDone_524 (by decide) ?_
  refine lv_iload hx hb dL_isDone_502 (lv_at hl 0 rfl) ?_
  refine lv_bipush (v := (nI 8)) hx hb dL_isDone_504 (by decide) ?_
  refine lv_icmp_ge (tgt := 527) hx hb dL_isDone_506 (by decide) (fun z => (show False by revert z; decide).elim) (fun _ => ?_)
  refine lv_iload hx hb dL_isDone_509 (lv_at hl 1 rfl) ?_
  refine lv_iload hx hb dL_isDone_511 (lv_at hl 2 rfl) ?_
  refine lv_iload hx hb dL_isDone_513 (lv_at hl 0 rfl) ?_
  refine lv_ishr hx hb dL_isDone_515 ?_
  refine q_top (y := (nI 0)) (by decide) ?_
  refine lv_iconst (v := (nI 1)) hx hb dL_isDone_516 (by decide) ?_
  refine lv_iand hx hb dL_isDone_517 ?_
  refine q_top (y := (nI 0)) (by decide) ?_
  refine lv_iadd hx hb dL_isDone_518 ?_
  refine q_top (y := (nI 0)) (by decide) ?_
  refine lv_istore (lv' := [(15, .int (nI 0)), (16, .int (nI 7)), (14, .int (nI 0)), (13, .int (nI 3)), (12, .int (nI 39)), (11, .int (nI 39)), (10, .int (nI 39)), (9, .int (nI 39)), (0, .ref h), (1, .ref b), (2, .int (nI k)), (3, .ref ta), (4, .ref qa), (5, .ref da), (6, .ref ea), (7, .ref aa), (8, .ref ga)]) hx hb dL_isDone_519 hl (by decide) rfl (fun ls hl => ?_)
  refine lv_iinc (v := (nI 8)) (lv' := [(16, .int (nI 8)), (15, .int (nI 0)), (14, .int (nI 0)), (13, .int (nI 3)), (12, .int (nI 39)), (11, .int (nI 39)), (10, .int (nI 39)), (9, .int (nI 39)), (0, .ref h), (1, .ref b), (2, .int (nI k)), (3, .ref ta), (4, .ref qa), (5, .ref da), (6, .ref ea), (7, .ref aa), (8, .ref ga)]) hx hb dL_isDone_521 hl (k := 1) rfl (by decide) (by decide) rfl (fun ls hl => ?_)
  refine lv_goto (tgt := 502) hx hb dL_isDone_524 (by decide) ?_
  refine lv_iload hx hb dL_isDone_502 (lv_at hl 0 rfl) ?_
  refine lv_bipush (v := (nI 8)) hx hb dL_isDone_504 (by decide) ?_
  refine lv_icmp_ge (tgt := 527) hx hb dL_isDone_506 (by decide) (fun _ => ?_) (fun z => (show False by revert z; decide).elim)
  refine lv_aload_n hx hb dL_isDone_527 rfl (lv_at hl 8 rfl) ?_
  refine lv_bipush (v := (nI 9)) hx hb dL_isDone_528 (by decide) ?_
  refine lv_iload hx hb dL_isDone_530 (lv_at hl 3 rfl) ?_
  refine lv_iconst (v := (nI 0)) hx hb dL_isDone_532 (by decide) ?_
  refine lv_iconst (v := (nI 0)) hx hb dL_isDone_533 (by decide) ?_
  refine q_rcall (vx_runSW (As := [.ref h, .int (nI 9), .int (nI 3), .int (nI 0), .int (nI 0)]) (rest := []) ⟨hx, hb, hml, hown, hts⟩ (kL_does9 l D h ad cI cZ hlf) (vx_cwSW 5 hts gL_isDone_L_does rfl rfl rfl (by decide +kernel) ⟨Nat.le_of_ble_eq_true rfl, Nat.le_of_ble_eq_true rfl⟩) ⟨tP_blind, tP_preH hP hK (tEA_at hE hS)⟩ rfl rfl hl.1 rfl (lv_room (Nat.le_of_ble_eq_true rfl)) dL_isDone_534 ⟨Nat.le_of_ble_eq_true rfl, Nat.le_of_ble_eq_true rfl⟩) hP hS hz (fun H hP hS hz => ?_)
  refine W.widen (k := 1) (n := 6) (Nat.le_of_ble_eq_true rfl) (Nat.le_of_ble_eq_true rfl) ?_
  refine lv_iload hx hb dL_isDone_537 (lv_at hl 3 rfl) ?_
  refine lv_iconst (v := (nI 3)) hx hb dL_isDone_539 (by decide) ?_
  refine lv_icmp_ne (tgt := 548) hx hb dL_isDone_540 (by decide) (fun z => (show False by revert z; decide).elim) (fun _ => ?_)
  refine lv_bipush (v := (-30)) hx hb dL_isDone_543 (by decide) ?_
  refine lv_goto (tgt := 550) hx hb dL_isDone_545 (by decide) ?_
  refine lv_icmp_ne (tgt := 581) hx hb dL_isDone_550 (by decide) (fun z => (show False by revert z; decide).elim) (fun _ => ?_)
  refine lv_iload hx hb dL_isDone_553 (lv_at hl 3 rfl) ?_
  refine lv_iconst (v := (nI 3)) hx hb dL_isDone_555 (by decide) ?_
  refine lv_icmp_eq (tgt := 577) hx hb dL_isDone_556 (by decide) (fun _ => ?_) (fun z => (show False by revert z; decide).elim)
  refine lv_iconst (v := (nI 1)) hx hb dL_isDone_577 (by decide) ?_
  refine lv_goto (tgt := 582) hx hb dL_isDone_578 (by decide) ?_
  refine q_top (y := bI true) (by decide) ?_
  exact q_rretZ hx hb hr hlocks hz (Nat.le_of_ble_eq_true rfl) hS dL_isDone_582 (Nat.le_of_ble_eq_true rfl) (Nat.le_of_ble_eq_true rfl)
end
section
/-- as the claim's room, but wider -/
def room_2 : Room := { frames := 14, cells := 400, slots := 8000, locals := 568 }
/-- what holds at the law's entry -/
def lc_At (p : Program) (s : State) (m : MethodId) (meth : Method) (c : Code) (b L : Nat) (xs : Nat → Int32) : Prop :=
  p.tables.exec = Jvm.exec ∧ c.code = code ∧ c.maxLocals = 10 ∧ s.vm.findClass RL = some m.cls ∧ (∀ w ∈ lw_tbl, w.before #[Value.ref b] s = true) ∧ va_X b L xs s s.heap ∧ b < s.heap.size ∧ meth.locks = false ∧ (Jvm.Cond.and given_1 narrow_1).before #[Value.ref b] s = true
/-- more than 118 cells are new, and the law hasn't ended -/
def lc_Q (below : List Frame) (s : State) : State → Prop := fun t => s.heap.size + 118 < t.heap.size ∧ Within t below
set_option maxRecDepth 100000 in
theorem hb_t : ∀ q ∈ hbS, Cond.stringRef RX0 q.1 q.2 ∈ lw_tbl := by decide +kernel
set_option maxRecDepth 100000 in
theorem hb_x : ∀ q ∈ hbS, Cond.exactly (.string RX0 q.1) "java/lang/String" ∈ flatC (Jvm.Cond.and given_1 narrow_1) := by decide +kernel
set_option maxRecDepth 100000 in
theorem ex_t : ∀ E ∈ exN, Cond.castable E E ∈ lw_tbl := by decide +kernel
set_option maxRecDepth 100000 in
theorem dc_t : ∀ Y ∈ dcN, Cond.declares (Bundle.initS Y) ∈ lw_tbl := by decide +kernel
set_option maxRecDepth 100000 in
theorem st_t : Cond.laysStatic Bundle.tN "UNASSIGNED_STACK" Bundle.steD ∈ lw_tbl ∧ Cond.laysStatic Bundle.tN "SUPPRESSED_SENTINEL" Bundle.listD ∈ lw_tbl ∧ Cond.initialized Bundle.tN ∈ lw_tbl := by decide +kernel
set_option maxRecDepth 100000 in
theorem st_x : Cond.isRef (.static Bundle.tN "UNASSIGNED_STACK" Bundle.steD) ∈ flatC (Jvm.Cond.and given_1 narrow_1) ∧ Cond.isRef (.static Bundle.tN "SUPPRESSED_SENTINEL" Bundle.listD) ∈ flatC (Jvm.Cond.and given_1 narrow_1) := by decide +kernel
set_option maxRecDepth 100000 in
theorem nc_x : Cond.not (.castable "java/lang/IllegalStateException" "java/lang/IndexOutOfBoundsException") ∈ flatC (Jvm.Cond.and given_1 narrow_1) ∧ Cond.not (.castable "java/lang/IllegalArgumentException" "java/lang/IndexOutOfBoundsException") ∈ flatC (Jvm.Cond.and given_1 narrow_1) ∧ Cond.not (.castable "java/lang/IllegalStateException" "java/lang/IllegalArgumentException") ∈ flatC (Jvm.Cond.and given_1 narrow_1) := by decide +kernel
theorem lw_E {args : Array Value} {s : State} (ht : ∀ w ∈ lw_tbl, w.before args s = true) (hg : (Jvm.Cond.and given_1 narrow_1).before args s = true) : tEA (fun q : Nat => s.heap.size ≤ q) s s.heap ∧ nE s := by
  have hs := flat_of_before _ hg
  have hA : ∀ a : Nat, a < s.heap.size → ¬ (fun q : Nat => s.heap.size ≤ q) a := fun a h => Nat.not_le.mpr h
  refine ⟨⟨vx_Zqof (ht _ st_t.1) (ht _ st_t.2.2) (hs _ st_x.1) hA, vx_Zqof (ht _ st_t.2.1) (ht _ st_t.2.2) (hs _ st_x.2) hA, fun q hq => ?_, fun E hE => va_Nw.of rfl (ht _ (ex_t E hE)), fun Y hY => va_Nw.of rfl (ht _ (dc_t Y hY))⟩, va_Nc.of (hs _ nc_x.1), va_Nc.of (hs _ nc_x.2.1), va_Nc.of (hs _ nc_x.2.2)⟩
  obtain ⟨a, c, cell, k, q1, -⟩ := Cond.exactly_spec (args := args) (first := s) (o := none) (s := s) (idx := []) (t := .string RX0 q.1) (cls := "java/lang/String") (hs _ (hb_x q hq))
  exact ⟨a, vk_R.of (ht _ (hb_t q hq)) q1⟩
theorem r1_in : ∀ w ∈ wsL_law0_r1, w ∈ wsL_law := fun _ h => List.mem_append_left _ (List.mem_append_left _ (List.mem_append_left _ (List.mem_append_left _ (List.mem_append_left _ (List.mem_append_left _ h)))))
set_option maxHeartbeats 4000000 in
set_option maxRecDepth 100000 in
theorem law_walk {p : Program} {e : Env} {s : State} {m : MethodId} {below : List Frame} {meth : Method} {c : Code} (l : Launch) (hflags : l.flags = flags0) {b L : Nat} (hL : 80 ≤ L) (hL2 : L < 2147483648) (C0 : lc_At p s m meth c b L (fun _ => nI 39)) : W p l e room_2 s m #[Value.ref b] below meth c s.heap [] 0 0 (lc_Q below s) (entryFrame m ([Value.ref b] : List Value).toArray 10) := by
  have hlf : l.stackTraces = false := by unfold Launch.stackTraces; rw [hflags]; decide
  obtain ⟨hx, hb, hml, hown, hts0, hX, hbl, hlocks, hgv⟩ := id C0
  have hts : ∀ w ∈ wsL_law, w.before #[Value.ref b] s = true := fun w hw => hts0 w (wsL_law_in w hw)
  have ht1 : ∀ w ∈ wsL_law0_r1, w.before #[Value.ref b] s = true := fun w hw => hts w (r1_in w hw)
  have hA : ∀ q : Nat, s.heap.size ≤ q → (fun q : Nat => s.heap.size ≤ q) q := fun _ h => h
  have hbA : ¬ (fun q : Nat => s.heap.size ≤ q) b := Nat.not_le.mpr hbl
  obtain ⟨hE, hN⟩ := lw_E hts0 hgv
  obtain ⟨c0, iS0, hKn0⟩ := u_known (C := RX0) (T := TX0) (N := 16) (n := 16) hts inlX0 (ht1 (.instantiable RX0 16) (by decide +kernel))
  obtain ⟨D, hKc⟩ : ∃ D : va_G, ∀ (k : Nat) (q : vw_C), vwCl[k]? = some q → u_Kn s q.1 q.2.1 q.2.2 (D.1 k) (D.2 k) := by
    refine ⟨(fun _ => c0, fun _ => iS0), ?_⟩
    intro k q hq
    match k, hq with
    | 0, hq => cases hq; exact hKn0
    | k + 1, hq => simp [vwCl] at hq
  have hS : va_S (fun q : Nat => s.heap.size ≤ q) s.heap s.heap [] := va_S.rf
  have hK : va_K D vwCl [] s := ⟨hKc, fun k q h => by simp at h⟩
  have hP : va_P D vwCl [] s.heap := fun k q h => by simp at h
  have hD : va_D (fun q : Nat => s.heap.size ≤ q) [] := ⟨fun i j p q h => by simp at h, fun k q h => by simp at h⟩
  have hl := lv_entry ([.ref b]) (n := 10) (Nat.le_of_ble_eq_true rfl)
  rw [lg_entry_eq]
  generalize (lg_sl ([.ref b]) ++ List.replicate (10 - (lg_sl ([.ref b])).length) Slot.unset).toArray = ls at hl ⊢
  have hl : lv_has ls 10 [(0, .ref b)] := hl
  refine va_new (ci := 0) (fs := [.null, .null, .null, .null, .int 0, .null, .null, .null, .null, .null, .int 0, .int 0, .null, .null, .null, .null]) (C := RX0) (T := TX0) (N := 16) hx hb hts inlX0 tyX0 tyX0_ok hown (ht1 (.classLink RL 9 RX0) (by decide +kernel)) (ht1 (.instantiable RX0 16) (by decide +kernel)) (ht1 (.initialized RX0) (by decide +kernel)) hK hP hD hS hA rfl (fun j hj => match j, hj with | 0, _ => rfl | 1, _ => rfl | 2, _ => rfl | 3, _ => rfl | 4, _ => rfl | 5, _ => rfl | 6, _ => rfl | 7, _ => rfl | 8, _ => rfl | 9, _ => rfl | 10, _ => rfl | 11, _ => rfl | 12, _ => rfl | 13, _ => rfl | 14, _ => rfl | 15, _ => rfl | k + 16, h9 => absurd h9 (by omega)) (Nat.le_of_ble_eq_true rfl) (Nat.le_of_ble_eq_true rfl) dL_law_0 (fun h H hP hD hS => ?_)
  have hP : va_P D vwCl (h0W h ++ []) H := hP
  have hD : va_D (fun q : Nat => s.heap.size ≤ q) (h0W h ++ []) := hD
  refine lv_dup hx hb dL_law_3 rfl ?_
  refine q_newc (mc := 13) (ms := 3738) (wa := h0W h) (wb := []) (B := fun st t => ∃ (ad : Nat → Nat) (cI cZ : ClassId), va_P D vwCl (hWi h ad cI cZ) t.heap ∧ va_K D vwCl (hT cI cZ) t ∧ va_D (va_A (h0W h) st.heap.size) (hWi h ad cI cZ)) (va_runI (As := []) (rest := [.ref h]) ⟨hx, hb, hml, hown, hts⟩ (kX0_init l D h H.size) (cwI 0 hts gL_law_X0_init rfl rfl rfl (ht1 (.initialized RX0) (by decide +kernel)) (ht1 (.methodLink RL 143 yX0_init) (by decide +kernel)) (ht1 (.instanceMethod yX0_init) (by decide +kernel)) rfl (by decide +kernel) ⟨Nat.le_of_ble_eq_true rfl, Nat.le_of_ble_eq_true rfl⟩) ⟨wP_blind, wP_pre (va_Pl hP) hK (va_Dl hD)⟩ rfl rfl hl.1 rfl (lv_room (Nat.le_of_ble_eq_true rfl)) dL_law_4 ⟨Nat.le_of_ble_eq_true rfl, Nat.le_of_ble_eq_true rfl⟩) hP hD hS hA (fun st t H1 locs es et hvm hB hPb hS1 => ?_)
  obtain ⟨ad, cI, cZ, hP1, hK1, hD1⟩ := hB
  rw [et] at hP1
  rw [es] at hD1
  have hK := va_K.moved hvm.symm hK1
  have hD := va_Dj hP hD (lq_sub (va_Dl hD) hS) hD1
  have hP := va_P.app hP1 hPb
  have hS := hS1
  clear hS1
  generalize H1 = H at hP hD hS ⊢
  have hP : va_P D vwCl (hWi h ad cI cZ) H := va_Pl hP
  have hD : va_D (fun q : Nat => s.heap.size ≤ q) (hWi h ad cI cZ) := va_Dl hD
  refine lv_astore_n (lv' := [(1, .ref h), (0, .ref b)]) hx hb dL_law_7 rfl hl (by decide) rfl (fun ls hl => ?_)
  refine lv_bipush (v := nI 24) hx hb dL_law_8 (by decide) ?_
  refine va_newa (atype := .int) (ty := .int) (n := nI 24) (N' := 24) (a0 := (24, .inl (fun _ => 0))) hx hb (ht1 (.arrayClass .int) (by decide +kernel)) rfl hK hP hD hS hA (fun _ => rfl) (by decide) (by decide) (by decide) (Nat.le_of_ble_eq_true rfl) (Nat.le_of_ble_eq_true rfl) dL_law_10 (fun ta c9 H hK hP hD hS => ?_)
  have hK : va_K D vwCl [(cZ, .boolean), (cI, .int), (c9, .int)] s := hK
  obtain rfl : cI = c9 := ty_eq hK 1 2 rfl rfl (fun C h9 => by cases h9)
  have hK : va_K D vwCl (hT cI cZ) s := hK.sub [0, 1] rfl
  have hP : va_P D vwCl ((hWi h ad cI cZ) ++ [(ta, .inl (cI, 24, .inl (fun _ => 0)))]) H := hP
  have hD : va_D (fun q : Nat => s.heap.size ≤ q) ((hWi h ad cI cZ) ++ [(ta, .inl (cI, 24, .inl (fun _ => 0)))]) := hD
  refine lv_astore_n (lv' := [(2, .ref ta), (1, .ref h), (0, .ref b)]) hx hb dL_law_12 rfl hl (by decide) rfl (fun ls hl => ?_)
  refine lv_bipush (v := nI 64) hx hb dL_law_13 (by decide) ?_
  refine va_newa (atype := .int) (ty := .int) (n := nI 64) (N' := 64) (a0 := (64, .inl (fun _ => 0))) hx hb (ht1 (.arrayClass .int) (by decide +kernel)) rfl hK hP hD hS hA (fun _ => rfl) (by decide) (by decide) (by decide) (Nat.le_of_ble_eq_true rfl) (Nat.le_of_ble_eq_true rfl) dL_law_15 (fun qa c9 H hK hP hD hS => ?_)
  have hK : va_K D vwCl [(cZ, .boolean), (cI, .int), (c9, .int)] s := hK
  obtain rfl : cI = c9 := ty_eq hK 1 2 rfl rfl (fun C h9 => by cases h9)
  have hK : va_K D vwCl (hT cI cZ) s := hK.sub [0, 1] rfl
  have hP : va_P D vwCl (((hWi h ad cI cZ) ++ [(ta, .inl (cI, 24, .inl (fun _ => 0)))]) ++ [(qa, .inl (cI, 64, .inl (fun _ => 0)))]) H := hP
  have hD : va_D (fun q : Nat => s.heap.size ≤ q) (((hWi h ad cI cZ) ++ [(ta, .inl (cI, 24, .inl (fun _ => 0)))]) ++ [(qa, .inl (cI, 64, .inl (fun _ => 0)))]) := hD
  refine lv_astore_n (lv' := [(3, .ref qa), (2, .ref ta), (1, .ref h), (0, .ref b)]) hx hb dL_law_17 rfl hl (by decide) rfl (fun ls hl => ?_)
  refine lv_bipush (v := nI 60) hx hb dL_law_18 (by decide) ?_
  refine va_newa (atype := .int) (ty := .int) (n := nI 60) (N' := 60) (a0 := (60, .inl (fun _ => 0))) hx hb (ht1 (.arrayClass .int) (by decide +kernel)) rfl hK hP hD hS hA (fun _ => rfl) (by decide) (by decide) (by decide) (Nat.le_of_ble_eq_true rfl) (Nat.le_of_ble_eq_true rfl) dL_law_20 (fun da c9 H hK hP hD hS => ?_)
  have hK : va_K D vwCl [(cZ, .boolean), (cI, .int), (c9, .int)] s := hK
  obtain rfl : cI = c9 := ty_eq hK 1 2 rfl rfl (fun C h9 => by cases h9)
  have hK : va_K D vwCl (hT cI cZ) s := hK.sub [0, 1] rfl
  have hP : va_P D vwCl ((((hWi h ad cI cZ) ++ [(ta, .inl (cI, 24, .inl (fun _ => 0)))]) ++ [(qa, .inl (cI, 64, .inl (fun _ => 0)))]) ++ [(da, .inl (cI, 60, .inl (fun _ => 0)))]) H := hP
  have hD : va_D (fun q : Nat => s.heap.size ≤ q) ((((hWi h ad cI cZ) ++ [(ta, .inl (cI, 24, .inl (fun _ => 0)))]) ++ [(qa, .inl (cI, 64, .inl (fun _ => 0)))]) ++ [(da, .inl (cI, 60, .inl (fun _ => 0)))]) := hD
  refine lv_astore (lv' := [(4, .ref da), (3, .ref qa), (2, .ref ta), (1, .ref h), (0, .ref b)]) hx hb dL_law_22 hl (by decide) rfl (fun ls hl => ?_)
  refine lv_bipush (v := nI 60) hx hb dL_law_24 (by decide) ?_
  refine va_newa (atype := .int) (ty := .int) (n := nI 60) (N' := 60) (a0 := (60, .inl (fun _ => 0))) hx hb (ht1 (.arrayClass .int) (by decide +kernel)) rfl hK hP hD hS hA (fun _ => rfl) (by decide) (by decide) (by decide) (Nat.le_of_ble_eq_true rfl) (Nat.le_of_ble_eq_true rfl) dL_law_26 (fun ea c9 H hK hP hD hS => ?_)
  have hK : va_K D vwCl [(cZ, .boolean), (cI, .int), (c9, .int)] s := hK
  obtain rfl : cI = c9 := ty_eq hK 1 2 rfl rfl (fun C h9 => by cases h9)
  have hK : va_K D vwCl (hT cI cZ) s := hK.sub [0, 1] rfl
  have hP : va_P D vwCl (((((hWi h ad cI cZ) ++ [(ta, .inl (cI, 24, .inl (fun _ => 0)))]) ++ [(qa, .inl (cI, 64, .inl (fun _ => 0)))]) ++ [(da, .inl (cI, 60, .inl (fun _ => 0)))]) ++ [(ea, .inl (cI, 60, .inl (fun _ => 0)))]) H := hP
  have hD : va_D (fun q : Nat => s.heap.size ≤ q) (((((hWi h ad cI cZ) ++ [(ta, .inl (cI, 24, .inl (fun _ => 0)))]) ++ [(qa, .inl (cI, 64, .inl (fun _ => 0)))]) ++ [(da, .inl (cI, 60, .inl (fun _ => 0)))]) ++ [(ea, .inl (cI, 60, .inl (fun _ => 0)))]) := hD
  refine lv_astore (lv' := [(5, .ref ea), (4, .ref da), (3, .ref qa), (2, .ref ta), (1, .ref h), (0, .ref b)]) hx hb dL_law_28 hl (by decide) rfl (fun ls hl => ?_)
  refine lv_iconst (v := nI 3) hx hb dL_law_30 (by decide) ?_
  refine va_newa (atype := .int) (ty := .int) (n := nI 3) (N' := 3) (a0 := (3, .inl (fun _ => 0))) hx hb (ht1 (.arrayClass .int) (by decide +kernel)) rfl hK hP hD hS hA (fun _ => rfl) (by decide) (by decide) (by decide) (Nat.le_of_ble_eq_true rfl) (Nat.le_of_ble_eq_true rfl) dL_law_31 (fun aa c9 H hK hP hD hS => ?_)
  have hK : va_K D vwCl [(cZ, .boolean), (cI, .int), (c9, .int)] s := hK
  obtain rfl : cI = c9 := ty_eq hK 1 2 rfl rfl (fun C h9 => by cases h9)
  have hK : va_K D vwCl (hT cI cZ) s := hK.sub [0, 1] rfl
  have hP : va_P D vwCl ((((((hWi h ad cI cZ) ++ [(ta, .inl (cI, 24, .inl (fun _ => 0)))]) ++ [(qa, .inl (cI, 64, .inl (fun _ => 0)))]) ++ [(da, .inl (cI, 60, .inl (fun _ => 0)))]) ++ [(ea, .inl (cI, 60, .inl (fun _ => 0)))]) ++ [(aa, .inl (cI, 3, .inl (fun _ => 0)))]) H := hP
  have hD : va_D (fun q : Nat => s.heap.size ≤ q) ((((((hWi h ad cI cZ) ++ [(ta, .inl (cI, 24, .inl (fun _ => 0)))]) ++ [(qa, .inl (cI, 64, .inl (fun _ => 0)))]) ++ [(da, .inl (cI, 60, .inl (fun _ => 0)))]) ++ [(ea, .inl (cI, 60, .inl (fun _ => 0)))]) ++ [(aa, .inl (cI, 3, .inl (fun _ => 0)))]) := hD
  refine lv_astore (lv' := [(6, .ref aa), (5, .ref ea), (4, .ref da), (3, .ref qa), (2, .ref ta), (1, .ref h), (0, .ref b)]) hx hb dL_law_33 hl (by decide) rfl (fun ls hl => ?_)
  refine lv_iconst (v := nI 3) hx hb dL_law_35 (by decide) ?_
  refine va_newa (atype := .int) (ty := .int) (n := nI 3) (N' := 3) (a0 := (3, .inl (fun _ => 0))) hx hb (ht1 (.arrayClass .int) (by decide +kernel)) rfl hK hP hD hS hA (fun _ => rfl) (by decide) (by decide) (by decide) (Nat.le_of_ble_eq_true rfl) (Nat.le_of_ble_eq_true rfl) dL_law_36 (fun ga c9 H hK hP hD hS => ?_)
  have hK : va_K D vwCl [(cZ, .boolean), (cI, .int), (c9, .int)] s := hK
  obtain rfl : cI = c9 := ty_eq hK 1 2 rfl rfl (fun C h9 => by cases h9)
  have hK : va_K D vwCl (hT cI cZ) s := hK.sub [0, 1] rfl
  have hP : va_P D vwCl (((((((hWi h ad cI cZ) ++ [(ta, .inl (cI, 24, .inl (fun _ => 0)))]) ++ [(qa, .inl (cI, 64, .inl (fun _ => 0)))]) ++ [(da, .inl (cI, 60, .inl (fun _ => 0)))]) ++ [(ea, .inl (cI, 60, .inl (fun _ => 0)))]) ++ [(aa, .inl (cI, 3, .inl (fun _ => 0)))]) ++ [(ga, .inl (cI, 3, .inl (fun _ => 0)))]) H := hP
  have hD : va_D (fun q : Nat => s.heap.size ≤ q) (((((((hWi h ad cI cZ) ++ [(ta, .inl (cI, 24, .inl (fun _ => 0)))]) ++ [(qa, .inl (cI, 64, .inl (fun _ => 0)))]) ++ [(da, .inl (cI, 60, .inl (fun _ => 0)))]) ++ [(ea, .inl (cI, 60, .inl (fun _ => 0)))]) ++ [(aa, .inl (cI, 3, .inl (fun _ => 0)))]) ++ [(ga, .inl (cI, 3, .inl (fun _ => 0)))]) := hD
  refine lv_astore (lv' := [(7, .ref ga), (6, .ref aa), (5, .ref ea), (4, .ref da), (3, .ref qa), (2, .ref ta), (1, .ref h), (0, .ref b)]) hx hb dL_law_38 hl (by decide) rfl (fun ls hl => ?_)
  have hP : va_P D vwCl ((hWi h ad cI cZ) ++ [(ga, .inl (cI, 3, .inl (fun _ => nI 0)))]) H := va_P.app (va_Pl (va_Pl (va_Pl (va_Pl (va_Pl (va_Pl hP)))))) (va_Pr hP)
  clear hD
  have hz : s.heap.size + 0 ≤ H.size := hS.1
  refine lv_aload_n hx hb dL_law_40 rfl (lv_at hl 6 rfl) ?_
  refine lv_aload_n hx hb dL_law_41 rfl (lv_at hl 5 rfl) ?_
  refine lv_aload_n hx hb dL_law_42 rfl (lv_at hl 4 rfl) ?_
  refine lv_aload hx hb dL_law_43 (lv_at hl 0 rfl) ?_
  refine q_rcall (va_runS (As := [.ref h, .ref ta, .ref qa, .ref ga]) (rest := []) ⟨hx, hb, hml, hown, hts⟩ (kL_areShops l D h ad cI cZ hlf ta qa ga) (va_cwS 4 hts gL_law_L_areShops rfl rfl rfl (by decide +kernel) ⟨Nat.le_of_ble_eq_true rfl, Nat.le_of_ble_eq_true rfl⟩) ⟨tP_blind, tP_preH hP hK (tEA_at hE hS)⟩ rfl rfl hl.1 rfl (lv_room (Nat.le_of_ble_eq_true rfl)) dL_law_45 ⟨Nat.le_of_ble_eq_true rfl, Nat.le_of_ble_eq_true rfl⟩) hP hS hz (fun H hP hS hz => ?_)
  refine lv_istore (lv' := [(8, .int (bI true)), (7, .ref ga), (6, .ref aa), (5, .ref ea), (4, .ref da), (3, .ref qa), (2, .ref ta), (1, .ref h), (0, .ref b)]) hx hb dL_law_48 hl (by decide) rfl (fun ls hl => ?_)
  refine lv_iconst (v := nI 0) hx hb dL_law_50 (by decide) ?_
  refine lv_istore (lv' := [(9, .int (nI 0)), (8, .int (bI true)), (7, .ref ga), (6, .ref aa), (5, .ref ea), (4, .ref da), (3, .ref qa), (2, .ref ta), (1, .ref h), (0, .ref b)]) hx hb dL_law_51 hl (by decide) rfl (fun ls hl => ?_)
  refine W.widen (k := 26 + 7 * 0) (n := 4004 + 42 * 0) (Nat.le_of_ble_eq_true rfl) (Nat.le_of_ble_eq_true rfl) ?_
  have hz : s.heap.size + 7 * 0 ≤ H.size := by omega
  have loop : ∀ (g k : Nat), k + g = 17 → ∀ (H : Heap) (locs : List Loc) (ls : Array Slot), va_P D vwCl ((hWi h ad cI cZ) ++ [(ga, .inl (cI, 3, .inl (fun _ => nI 0)))]) H → va_S (fun q : Nat => s.heap.size ≤ q) s.heap H locs → s.heap.size + 7 * k ≤ H.size → lv_has ls 10 [(9, .int (nI k)), (8, .int (bI true)), (0, .ref b), (1, .ref h), (2, .ref ta), (3, .ref qa), (4, .ref da), (5, .ref ea), (6, .ref aa), (7, .ref ga)] → W p l e room_2 s m #[Value.ref b] below meth c H locs (26 + 7 * k) (4004 + 42 * k) (lc_Q below s) (F0 m 53 ls []) := by
    intro g
    induction g with
    | zero =>
      intro k hk H locs ls hP hS hz hl T hT X
      refine ⟨T.setTop (F0 m 53 ls []), Steps.refl _, ?_, ?_⟩
      · show s.heap.size + 118 < T.heap.size
        rw [hT]; omega
      · refine within_of_frames (f := F0 m 53 ls []) (mid := []) ?_
        rw [State.frames_setTop' _ X.here.top, X.tail]; rfl
    | succ g ih =>
      intro k hk H locs ls hP hS hz hl
      refine lv_iload hx hb dL_law_53 (lv_at hl 0 rfl) ?_
      refine lv_bipush (v := nI 60) hx hb dL_law_55 (by decide) ?_
      refine q_icmpN_ge (a := k) (b := 60) (tgt := 141) (by omega) (by omega) hx hb dL_law_57 (by decide) (fun z => absurd z (by omega)) (fun _ => ?_)
      refine lv_iload hx hb dL_law_60 (lv_at hl 1 rfl) ?_
      refine q_ifB_eq (b := true) (tgt := 141) hx hb dL_law_62 (by decide) (fun z => by cases z) (fun _ => ?_)
      refine lv_aload_n hx hb dL_law_65 rfl (lv_at hl 3 rfl) ?_
      refine lv_aload_n hx hb dL_law_66 rfl (lv_at hl 2 rfl) ?_
      refine lv_iconst (v := nI 4) hx hb dL_law_67 (by decide) ?_
      refine lv_iload hx hb dL_law_68 (lv_at hl 0 rfl) ?_
      refine q_mulN (a := 4) (b := k) hx hb dL_law_70 ?_
      refine lv_aload_n hx hb dL_law_71 rfl (lv_at hl 4 rfl) ?_
      refine lv_aload_n hx hb dL_law_72 rfl (lv_at hl 5 rfl) ?_
      refine lv_aload hx hb dL_law_73 (lv_at hl 6 rfl) ?_
      refine lv_aload hx hb dL_law_75 (lv_at hl 7 rfl) ?_
      refine lv_aload hx hb dL_law_77 (lv_at hl 8 rfl) ?_
      refine lv_aload hx hb dL_law_79 (lv_at hl 9 rfl) ?_
      refine q_rcall (va_runS (As := [.ref h, .ref b, .int (nI (4 * k)), .ref ta, .ref qa, .ref da, .ref ea, .ref aa, .ref ga]) (rest := []) ⟨hx, hb, hml, hown, hts⟩ (kL_isDone l D h ad cI cZ hlf b L (4 * k) ta qa da ea aa ga (by omega) hL2) (va_cwS 9 hts gL_law_L_isDone rfl rfl rfl (by decide +kernel) ⟨Nat.le_of_ble_eq_true rfl, Nat.le_of_ble_eq_true rfl⟩) ⟨oP_blind, oP_preH (va_Pl hP) hK (tEA_at hE hS) (hX.kept (hS.2.1 b hbl hbA))⟩ rfl rfl hl.1 rfl (lv_room (Nat.le_of_ble_eq_true rfl)) dL_law_81 ⟨show 26 + 7 * k + 1 ≤ 400 by omega, show 4004 + 42 * k + 6 ≤ 8000 by omega⟩) hP hS hz (fun H hP hS hz => ?_)
      refine q_ifB_eq (b := true) (tgt := 132) hx hb dL_law_84 (by decide) (fun z => by cases z) (fun _ => ?_)
      refine lv_aload_n hx hb dL_law_87 rfl (lv_at hl 3 rfl) ?_
      refine lv_aload_n hx hb dL_law_88 rfl (lv_at hl 4 rfl) ?_
      refine lv_aload_n hx hb dL_law_89 rfl (lv_at hl 5 rfl) ?_
      refine lv_aload hx hb dL_law_90 (lv_at hl 9 rfl) ?_
      refine q_rcall (va_runS (As := [.ref h, .ref ta, .ref qa, .ref ga]) (rest := []) ⟨hx, hb, hml, hown, hts⟩ (kL_areShops l D h ad cI cZ hlf ta qa ga) (va_cwS 4 hts gL_law_L_areShops rfl rfl rfl (by decide +kernel) ⟨Nat.le_of_ble_eq_true rfl, Nat.le_of_ble_eq_true rfl⟩) ⟨tP_blind, tP_preH hP hK (tEA_at hE hS)⟩ rfl rfl hl.1 rfl (lv_room (Nat.le_of_ble_eq_true rfl)) dL_law_92 ⟨show 26 + 7 * k + 1 + 6 ≤ 400 by omega, show 4004 + 42 * k + 6 + 36 ≤ 8000 by omega⟩) hP hS hz (fun H hP hS hz => ?_)
      refine q_ifB_eq (b := true) (tgt := 132) hx hb dL_law_95 (by decide) (fun z => by cases z) (fun _ => ?_)
      refine lv_aload hx hb dL_law_98 (lv_at hl 9 rfl) ?_
      refine lv_iconst (v := nI 0) hx hb dL_law_100 (by decide) ?_
      refine q_ald nI (fun _ => 0) hx hb hK hP 14 1 rfl rfl (k := 0) (by decide) (Nat.le_of_ble_eq_true rfl) dL_law_101 ?_
      refine q_ifN_eq (a := 0) (tgt := 128) (by decide) hx hb dL_law_102 (by decide) (fun _ => ?_) (fun z => absurd rfl z)
      refine lv_iconst (v := bI true) hx hb dL_law_128 (by decide) ?_
      refine lv_goto (tgt := 133) hx hb dL_law_129 (by decide) ?_
      refine lv_istore (lv' := [(8, .int (bI true)), (9, .int (nI k)), (0, .ref b), (1, .ref h), (2, .ref ta), (3, .ref qa), (4, .ref da), (5, .ref ea), (6, .ref aa), (7, .ref ga)]) hx hb dL_law_133 hl (by decide) rfl (fun ls hl => ?_)
      refine lv_iinc (v := nI (k + 1)) (lv' := [(9, .int (nI (k + 1))), (8, .int (bI true)), (0, .ref b), (1, .ref h), (2, .ref ta), (3, .ref qa), (4, .ref da), (5, .ref ea), (6, .ref aa), (7, .ref ga)]) hx hb dL_law_135 hl (k := 1) rfl (i1_n k) (by decide) rfl (fun ls hl => ?_)
      refine lv_goto (tgt := 53) hx hb dL_law_138 (by decide) ?_
      refine W.widen (k := 26 + 7 * (k + 1)) (n := 4004 + 42 * (k + 1)) (by omega) (by omega) ?_
      exact ih (k + 1) (by omega) H locs ls hP hS (by omega) (lv_sub hl [0, 1, 2, 3, 4, 5, 6, 7, 8, 9] rfl)
  exact loop 17 0 (by omega) H _ ls hP hS hz (lv_sub hl [0, 1, 9, 8, 7, 6, 5, 4, 3, 2] rfl)
end
section
/-! the statement is false: at a start that meets all its premises more than 118 cells are new before the law ends -/
def rf_cells : Array Value := ⟨List.replicate 80 (.int 39)⟩
/-- the witness' start, its script another one: eighty times 39 -/
def rf_s : State := start1.aboutOf rf_cells
theorem rf_ended {s : State} {below : List Frame} {o : Outcome} (h : Ended s below o) : ¬ Within s below := by
  rintro ⟨above, hf, hne, hth⟩
  cases o with
  | threw a =>
    have h2 : s.frames = .throwing a :: below := h
    rw [hf] at h2
    match above, hne, hth, h2 with
    | [], hne, _, _ => exact hne rfl
    | [f], _, hth, h2 =>
      have h3 : f = .throwing a := (List.cons.inj h2).1
      exact hth a (by rw [h3])
    | f :: g :: r, _, _, h2 =>
      have h3 := congrArg List.length h2
      simp only [List.length_append, List.length_cons] at h3
      omega
  | returned v =>
    have key : s.frames.length = below.length := by
      unfold Ended at h
      simp only at h
      split at h
      · obtain ⟨_, _, _, _, _, h⟩ := h
        rw [h]; rfl
      · rw [h]; rfl
      · rw [h]; rfl
      · rw [h.2]
    rw [hf, List.length_append] at key
    cases above with
    | nil => exact hne rfl
    | cons f r =>
      simp only [List.length_cons] at key
      omega
set_option maxRecDepth 16384 in
theorem rf_rest0 : (tables_1_1.take 120).all (fun c => vx_ot c || c.before start1.args0 rf_s) = true := by decide +kernel
set_option maxRecDepth 16384 in
theorem rf_rest1 : (tables_1_1.drop 120).all (fun c => vx_ot c || c.before start1.args0 rf_s) = true := by decide +kernel
set_option maxRecDepth 16384 in
theorem rf_rest2 : (tables_1_2.take 120).all (fun c => vx_ot c || c.before start1.args0 rf_s) = true := by decide +kernel
set_option maxRecDepth 16384 in
theorem rf_rest3 : (tables_1_2.drop 120).all (fun c => vx_ot c || c.before start1.args0 rf_s) = true := by decide +kernel
theorem rf_hd : vx_ot (Cond.code x code maxLocals ret) = true := rfl
theorem rf_all {L : List Cond} {n : Nat} (h1 : (L.take n).all (fun c => vx_ot c || c.before start1.args0 rf_s) = true) (h2 : (L.drop n).all (fun c => vx_ot c || c.before start1.args0 rf_s) = true) : ∀ c ∈ L, (vx_ot c || c.before start1.args0 rf_s) = true := by
  intro c hc
  rw [← List.take_append_drop n L] at hc
  rcases List.mem_append.mp hc with h | h
  · exact List.all_eq_true.mp h1 c h
  · exact List.all_eq_true.mp h2 c h
theorem rf_words : ∀ c ∈ (Cond.code x code maxLocals ret :: tables_1), c.before start1.args0 rf_s = true := by
  intro c hc
  have h0 := start1.words c hc
  have h1 : (vx_ot c || c.before start1.args0 rf_s) = true := by
    rcases List.mem_cons.mp hc with h | h
    · rw [h, rf_hd]; rfl
    · have h2 : c ∈ tables_1_1 ++ tables_1_2 := h
      rcases List.mem_append.mp h2 with h3 | h3
      · exact rf_all rf_rest0 rf_rest1 c h3
      · exact rf_all rf_rest2 rf_rest3 c h3
  rcases Bool.or_eq_true_iff.mp h1 with h2 | h2
  · exact vx_ot_at (s := start1.about) (U := rf_s) (State.WarmedH.refl start1.about) rfl h2 h0
  · exact h2
set_option maxRecDepth 16384 in
theorem rf_rest : rest_1_c.before start1.args0 rf_s = true := by decide +kernel
set_option maxRecDepth 16384 in
theorem rf_given : (Cond.and given_1 narrow_1).before start1.args0 rf_s = true := by decide +kernel
set_option maxRecDepth 16384 in
theorem rf_1 : (headSpec (Cond.code x code maxLocals ret :: tables_1) room_1).applies x start1.e0.platform rf_s = true :=
  (Spec.applies_iff rfl).mpr ⟨rfl, rfl, rfl, by decide +kernel, by decide +kernel, by decide +kernel, launch0.hasRoom_least _ room_1 (by decide +kernel) (by decide +kernel) (by decide +kernel) (by decide +kernel) (by decide +kernel) (by decide +kernel), atoms_intro rf_words⟩
set_option maxRecDepth 16384 in
theorem rf_2 : (headSpec (Cond.code x code maxLocals ret :: tables_1) room_2).applies x start1.e0.platform rf_s = true :=
  (Spec.applies_iff rfl).mpr ⟨rfl, rfl, rfl, by decide +kernel, by decide +kernel, by decide +kernel, launch0.hasRoom_least _ room_2 (by decide +kernel) (by decide +kernel) (by decide +kernel) (by decide +kernel) (by decide +kernel) (by decide +kernel), atoms_intro rf_words⟩
set_option maxRecDepth 16384 in
theorem rf_fit : argsFit rf_s.vm ⟨0, 0⟩ start1.args0 = true := by decide +kernel
set_option maxRecDepth 16384 in
theorem rf_heap : heapFits rf_s = true := by decide +kernel
theorem rf_X : va_X 0 80 (fun _ => nI 39) rf_s rf_s.heap := by
  refine ⟨{ cls := 13, slots := rf_cells, vm := .none }, rfl, ?_, ?_, ?_, ?_⟩
  · exact ⟨(fun k z => by cases z), start1.cArr "[I" 12 .int, rfl, 12, rfl⟩
  · intro z; cases z
  · rfl
  · intro j hj
    show rf_cells[j]? = _
    rw [← Array.getElem?_toList]
    show (List.replicate 80 (Value.int 39))[j]? = _
    rw [List.getElem?_replicate, if_pos hj]
    rfl
theorem rf_walk : ∃ (k : Nat) (t : State), (∀ j, j ≤ k → Within (stepsAlone start1.p0.tables start1.e0 j rf_s) Lib.HandBits.below0) ∧ stepsAlone start1.p0.tables start1.e0 k rf_s = t ∧ rf_s.heap.size + 118 < t.heap.size := by
  obtain ⟨meth, c, B, hcode, hlocals, hfirst⟩ := BodyLoose.of_appliesLoose (l := launch0) (x := x) (S := headSpec (Cond.code x code maxLocals ret :: tables_1) room_2) (code := code) (maxLocals := maxLocals) (ret := ret) (by decide) (fun args s h => atoms_spec (ws := Cond.code x code maxLocals ret :: tables_1) h _ List.mem_cons_self) start1.p0 (launch0.admits_env _ _ _) fairChoices_fair.cas fairChoices_fair.clock (s := rf_s) (m := ⟨0, 0⟩) (args := start1.args0) (below := Lib.HandBits.below0) rfl ((Spec.applies_iff_loose rfl).mp rf_2).1
  have hts : ∀ w ∈ lw_tbl, w.before #[Value.ref 0] rf_s = true := k2_hts_sels lw_privs (fun w hw => rf_words w (List.mem_cons_of_mem _ hw)) lw_privs_ok
  have hown : rf_s.vm.findClass RL = some ((⟨0, 0⟩ : MethodId)).cls := findClass_of_methodNamed B.named
  have hh0 : ((rf_s.setFrames (.java (entryFrame ⟨0, 0⟩ start1.args0 maxLocals) :: Lib.HandBits.below0))).heap = rf_s.heap := rfl
  obtain ⟨t, st, hbig, hw⟩ := law_walk (p := start1.p0) (e := start1.e0) (s := rf_s) (m := ⟨0, 0⟩) (below := Lib.HandBits.below0) (meth := meth) (c := c) launch0 rfl (b := 0) (L := 80) (Nat.le_refl 80) (by decide) ⟨B.exec, B.bytes, hlocals, hown, hts, rf_X, va_X_lt rf_X, B.notSynchronized, rf_given⟩ _ hh0 (Stand.of_body B)
  obtain ⟨k, hk1, hk2⟩ := (hfirst.trans st).moment hw
  exact ⟨k, t, hk1, hk2, hbig⟩
/-- no end of the law at this start keeps within 118 new cells -/
theorem rf_no {Post : Tables → Env → Array Value → State → Outcome → State → Prop} (hPost : ∀ tb e a s o t, Post tb e a s o t → t.heap.size ≤ s.heap.size + 118)
    (h : ArmFor flags0 classFile x code maxLocals ret World_1 tables_1 room_1 Calls_1 rest_1 Pre_1 Post) : False := by
  obtain ⟨n, o, hw, hrun, hend, hpost⟩ := h launch0 rfl lists_1 trivial start1.p0 start1.e0 (launch0.admits_env _ _ _) fairChoices_fair.cas fairChoices_fair.clock rf_s ⟨0, 0⟩ start1.args0 Lib.HandBits.below0 rfl rf_fit rf_heap rf_1 ⟨trivial, rf_rest, rf_given⟩
  obtain ⟨k, t, hk1, hk2, hbig⟩ := rf_walk
  have hle := hPost _ _ _ _ _ _ hpost
  have hnk : k < n := by
    rcases Nat.lt_or_ge k n with q | q
    · exact q
    · exact absurd (hk1 n q) (rf_ended hend)
  have e1 : stepsAlone start1.p0.tables start1.e0 n rf_s = stepsAlone start1.p0.tables start1.e0 (n - k) t := by
    rw [← hk2, ← stepsAlone_add, Nat.add_sub_cancel' (Nat.le_of_lt hnk)]
  have e2 := stepsAlone_heap_le start1.p0.tables start1.e0 (n - k) t
  rw [← e1] at e2
  omega
theorem p21_refuted_1 : ¬ Claimed_1_1 := fun h => rf_no (Post := Post_1_1) (fun _ _ _ _ _ _ q => q.2.2.2.2.2.1) h
theorem p21_refuted_2 : ¬ Claimed_1_2 := fun h => rf_no (Post := Post_1_2) (fun _ _ _ _ _ _ q => q.2.2.2.2.2.1) h
/-- what is owed can't be proved: it is false -/
theorem p21_refuted : ¬ (Claimed_1_1 ∧ Claimed_1_2) := fun h => p21_refuted_1 h.1
theorem i_vc : Claimed_1_1 ∧ Claimed_1_2 := sorry
end
