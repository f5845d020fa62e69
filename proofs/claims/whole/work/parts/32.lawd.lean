/-! the law: its end, what holds at its head, what arguments may be -/
def R_law : String := "ShopHubLaw"
def lw_P (b : Addr) (xs : List Int32) (args : Array Value) (s : State) : Prop := args = #[.ref b] ∧ s.IntsAt b xs ∧ xs.length ≤ 3584 ∧ (Jvm.Cond.and given_1 narrow_1).before args s = true
def lw_Q (_ : Array Value) (s : State) (o : Outcome) (t : State) : Prop := o = .returned (some (.int 1)) ∧ Framed s o t [] 1078 14711
def lw_Z (below : List Frame) (a : Array Value) (s : State) : State → Prop := fun t => ∃ o, t.status = .running ∧ Ended t below o ∧ lw_Q a s o t
/-- the law's own end, with 1 on the stack, nothing written that was there before, its room as the claim has it -/
theorem lw_ret {p : Program} {l : Launch} {e : Env} {s : State} {m : MethodId} {below : List Frame} {meth : Method} {c : Code} {b : Nat} (hx : p.tables.exec = Jvm.exec) (hb : c.code = code) (hr : meth.sig.returnType = ret) (hlocks : meth.locks = false) {pc : Nat} {H : Heap} {ls : Array Slot} (hdg : decode code pc = .ok (.ireturn, 1)) : W p l e room_1 s m #[Value.ref b] below meth c H [] 1078 14711 (lw_Z below #[Value.ref b] s) (F0 m pc ls [.int 1]) := by
  intro T hT X
  obtain ⟨fs, hret, hrun, hended, hW, hframe⟩ := X.leave (v := some (.int 1)) (hlocks := hlocks) (fun h => by rw [hr] at h; cases h)
  have hmeth' : T.vm.method? m = some meth := X.method'
  refine ⟨T.setFrames fs, ?_, .returned (some (.int 1)), hrun, hended, rfl, ⟨_, rfl⟩, hW, hframe⟩
  jvm_step X.here [X.here.top, hx, hb, hdg, hmeth', hr, ret, narrow_b1]
  (try refine ⟨rfl, ?_⟩); (try refine ⟨rfl, ?_⟩)
  first | (intro acts; rw [hret _ acts rfl rfl rfl]) | rw [hret _ _ rfl rfl rfl]
  exact Steps.refl _
/-- what holds at the law's entry: the machine, the code, the tables' words (any of lw_tbl by 'hts w (by decide +kernel)'), the script of L ints xs at the cell b, what the Statement gives of the start (any of its parts by flat_of_before) -/
def lw_At (p : Program) (s : State) (m : MethodId) (meth : Method) (c : Code) (b L : Nat) (xs : Nat → Int32) : Prop :=
  p.tables.exec = Jvm.exec ∧ c.code = code ∧ meth.sig.returnType = ret ∧ c.maxLocals = 7 ∧ s.vm.findClass R_law = some m.cls ∧ (∀ w ∈ lw_tbl, w.before #[Value.ref b] s = true) ∧ va_X b L xs s s.heap ∧ b < s.heap.size ∧ meth.locks = false ∧ (Jvm.Cond.and given_1 narrow_1).before #[Value.ref b] s = true
/-- what both sides hold beside each other, n calls after the start -/
def LI (n : Nat) (lev : Nat → Nat) (ex : Nat → Bool) (pa mpa : Nat → Option Nat) (di qu mu : Nat → Nat) (gc : Nat) (dg dp da : Nat → Nat) (dh dt dv : Nat → Option Nat) (dd ds ms : Nat → Nat) (dc td : Nat) (ho : Nat → Option Nat) (se pr mr : Nat → Option Nat) : Prop :=
  TR lev ex pa mpa gc ∧ QR ex di qu mu gc ∧ BR ex gc dc dg dp da dh dt dv dd ds ms td ho ∧ SR gc se ∧ PP pr ∧ PP mr ∧ td ≤ 100 * n ∧ ∀ k, dc ≤ k → ms k = 0
/-- what the walk of the law stands on -/
def LCX (p : Program) (s : State) (m : MethodId) (meth : Method) (c : Code) (b L : Nat) (xs : Nat → Int32) (D : va_G) (cI cJ cZ : ClassId) : Prop :=
  lw_At p s m meth c b L xs ∧ va_K D vwCl (mT cI cJ cZ) s ∧ tEA (fun q : Nat => s.heap.size ≤ q) s s.heap ∧ nE s
/-- how the law goes on behind a call -/
def LK (p : Program) (l : Launch) (e : Env) (s : State) (m : MethodId) (below : List Frame) (meth : Method) (c : Code) (b : Nat) (D : va_G) (cI cJ cZ : ClassId) (h : Nat) (ad : Nat → Nat) (h2 : Nat) (ad2 : Nat → Nat) (ob i cells slots n : Nat) : Prop :=
  ∀ (f : Nat → Int64) (lev : Nat → Nat) (ex : Nat → Bool) (pa mpa : Nat → Option Nat) (di qu mu : Nat → Nat) (gc : Nat) (dg dp da : Nat → Nat) (dh dt dv : Nat → Option Nat) (dd ds ms : Nat → Nat) (dc td : Nat) (ho : Nat → Option Nat) (ak : Nat → Bool) (se pr mr : Nat → Option Nat) (th : Nat) (H : Heap) (locs : List Loc) (ls : Array Slot), LI n lev ex pa mpa di qu mu gc dg dp da dh dt dv dd ds ms dc td ho se pr mr → va_P D vwCl (((hW h ad cI cZ ex pa di qu gc dg dp dv dd ds dc td ho ak se pr) ++ [(ob, .inl (cJ, 1, .inr (.inl f)))]) ++ (mW h2 ad2 cI cJ cZ td gc ex mpa di mu dc dg da dh dt dv dd ms ak se mr th)) H → va_D (fun q : Nat => s.heap.size ≤ q) (((hW h ad cI cZ ex pa di qu gc dg dp dv dd ds dc td ho ak se pr) ++ [(ob, .inl (cJ, 1, .inr (.inl f)))]) ++ (mW h2 ad2 cI cJ cZ td gc ex mpa di mu dc dg da dh dt dv dd ms ak se mr th)) → va_S (fun q : Nat => s.heap.size ≤ q) s.heap H locs → lv_has ls 7 [(4, .int (nI i)), (0, .ref b), (1, .ref h), (2, .ref h2), (3, .ref ob)] → W p l e room_1 s m #[Value.ref b] below meth c H locs cells slots (lw_Z below #[Value.ref b] s) (F0 m 1367 ls [])
theorem k_good (ex : Nat → Bool) (r : Int32) : gBad ex r ∨ ∃ g, g < 16 ∧ r = nI g ∧ ex g = true := by
  by_cases c : ∃ g, g < 16 ∧ r = nI g ∧ ex g = true
  · exact Or.inr c
  · refine Or.inl (fun j hj e => ?_)
    cases hx : ex j with
    | false => rfl
    | true => exact absurd ⟨j, hj, e, hx⟩ c
theorem k_par (ex : Nat → Bool) (r : Int32) : (gBad ex r ∧ r ≠ -1) ∨ ∃ o, r = oI o ∧ okO ex o := by
  rcases k_good ex r with h | ⟨g, hg, e, he⟩
  · by_cases c : r = -1
    · exact Or.inr ⟨none, c, fun k z => by cases z⟩
    · exact Or.inl ⟨h, c⟩
  · exact Or.inr ⟨some g, e, fun k z => by cases z; exact ⟨hg, he⟩⟩
theorem k_ix (n : Nat) (hn : n < 2 ^ 31) (r : Int32) : aBad n r ∨ ∃ j, j < n ∧ r = nI j := by
  rcases pk_ix r hn with h | h | h
  · exact Or.inl (Or.inl h)
  · exact Or.inl (Or.inr h)
  · exact Or.inr h
theorem k_opt (r : Int32) : (aBad 3 r ∧ r ≠ -1) ∨ ∃ o, r = oI o ∧ ∀ k, o = some k → k < 3 := by
  rcases k_ix 3 (by decide) r with h | ⟨j, hj, e⟩
  · by_cases c : r = -1
    · exact Or.inr ⟨none, c, fun k z => by cases z⟩
    · exact Or.inl ⟨h, c⟩
  · exact Or.inr ⟨some j, e, fun k z => by cases z; exact hj⟩
theorem k_ox {x : Option Nat} {r : Int32} (e : r = oI x) (h : ∀ k, x = some k → k < 3) : r = -1 ∨ ∃ x2, x2 < 3 ∧ r = nI x2 := by
  cases x with
  | none => exact Or.inl e
  | some k => exact Or.inr ⟨k, h k rfl, e⟩
theorem k_rn0 (hi : Nat) (hh : hi < 2 ^ 31) (r : Int32) : (r < 0 ∨ nI hi < r) ∨ ∃ w, w ≤ hi ∧ r = nI w := by
  by_cases c : r < 0
  · exact Or.inl (Or.inl c)
  · obtain ⟨w, hw, rfl⟩ := nI_any c
    by_cases c2 : w ≤ hi
    · exact Or.inr ⟨w, c2, rfl⟩
    · exact Or.inl (Or.inr ((nI_ltI hh hw).mpr (by omega)))
theorem k_rng (lo hi : Nat) (hl : lo < 2 ^ 31) (hh : hi < 2 ^ 31) (r : Int32) : (r < nI lo ∨ nI hi < r) ∨ ∃ w, lo ≤ w ∧ w ≤ hi ∧ r = nI w := by
  by_cases c : r < 0
  · exact Or.inl (Or.inl (Int32.lt_of_lt_of_le c (nI_pos' hl)))
  · obtain ⟨w, hw, rfl⟩ := nI_any c
    by_cases c1 : lo ≤ w
    · by_cases c2 : w ≤ hi
      · exact Or.inr ⟨w, c1, c2, rfl⟩
      · exact Or.inl (Or.inr ((nI_ltI hh hw).mpr (by omega)))
    · exact Or.inl (Or.inl ((nI_ltI hw hl).mpr (by omega)))
theorem k_val (r : Int32) : (r ≠ -1 ∧ (r < 0 ∨ nI 100000 < r)) ∨ ∃ o, r = oI o ∧ ∀ k, o = some k → k ≤ 100000 := by
  by_cases c : r = -1
  · exact Or.inr ⟨none, c, fun k z => by cases z⟩
  · rcases k_rn0 100000 (by decide) r with h | ⟨w, hw, e⟩
    · exact Or.inl ⟨c, h⟩
    · exact Or.inr ⟨some w, e, fun k z => by cases z; exact hw⟩
theorem vpU {f : Nat → Int64} {x : Int64} : vp_updL f 0 x (nI 0).toNatClampNeg = x := by
  rw [nI_clamp (by decide)]; exact if_pos rfl
theorem wth_m {ex : Nat → Bool} {pa mpa : Nat → Option Nat} {g : Nat} {o : Option Nat} {v : Bool} (hme : ∀ g, g < 16 → ex g = true → mpa g = pa g) (hpr : PR pa) (ho : okO ex o) (h : wth ex pa g 3 o = v) : wth ex mpa g 3 o = v := by
  rw [wth_cong hme hpr 3 o (fun k e => (ho k e).1)]; exact h
theorem prs_vl {vl wl : Nat → Option Nat} {qu di : Nat → Nat} {pr : Nat → Option Nat} : ∀ n, (∀ k, k < n → vl k = wl k) → prs vl qu di pr n = prs wl qu di pr n
  | 0, _ => rfl
  | n + 1, h => by
    show va_up (prs vl qu di pr n) n (match vl n with | some v => some v | none => bnd qu (prs vl qu di pr n) di n) = va_up (prs wl qu di pr n) n (match wl n with | some v => some v | none => bnd qu (prs wl qu di pr n) di n)
    rw [prs_vl n (fun k hk => h k (by omega)), h n (Nat.lt_succ_self n)]
theorem prs_m {lev : Nat → Nat} {ex : Nat → Bool} {pa mpa ho dv pr mr : Nat → Option Nat} {gc g sp : Nat} {di qu mu : Nat → Nat} (hT : TR lev ex pa mpa gc) (hp : PT ex qu mu) (hg : g < 16) (he : ex g = true) : prs (vlu ex mpa ho dv 0 (sp + 1) (0 + 1)) mu di mr (g + 1) g = prs (vlu ex pa ho dv 0 (sp + 1) (0 + 1)) qu di pr (g + 1) g := by
  rw [prs_vl (wl := vlu ex pa ho dv 0 (sp + 1) (0 + 1)) (g + 1) (fun k hk => vlu_cong hT.2.1 hT.2.2.1 (by omega))]
  exact prs_eq hp (g + 1) (by omega) g (Nat.lt_succ_self g) he
section LQ
variable {p : Program} {l : Launch} {e : Env} {R : Room} {s : State} {m : MethodId} {args : Array Value} {below : List Frame} {meth : Method} {c : Code} {H H0 : Heap} {locs : List Loc} {cells slots : Nat} {Q : State → Prop} {cc : ByteArray} {pc : Nat} {ls : Array Slot} {rest : List Value} {A : Nat → Prop}
/-- an argument out of the script -/
theorem lq_arg {b L i k : Nat} {n : Int} {xs : Nat → Int32} {y : Int32} {lv : List (Nat × Value)} (hx : p.tables.exec = Jvm.exec) (hb : c.code = cc) (hX : va_X b L xs s H0) (hbl : b < H0.size) (hbA : ¬ A b) (hS : va_S A H0 H locs) (hl : lv_has ls 7 lv) (p0 p4 : Nat) (h0 : lv[p0]? = some (0, .ref b)) (h4 : lv[p4]? = some (4, .int (nI i)))
    (hi : i + k < L) (hL : L < 2 ^ 31) (hk : Int32.ofInt n = nI k) (hy : xs (i + k) = y) (d0 : decode cc pc = .ok (.aload_n 0, 1)) (d1 : decode cc (pc + 1) = .ok (.iload 4, 2)) (d3 : decode cc (pc + 1 + 2) = .ok (.iconst n, 1)) (d4 : decode cc (pc + 1 + 2 + 1) = .ok (.iadd, 1)) (d5 : decode cc (pc + 1 + 2 + 1 + 1) = .ok (.iaload, 1))
    (kk : W p l e R s m args below meth c H locs cells slots Q (F0 m (pc + 1 + 2 + 1 + 1 + 1) ls (.int y :: rest))) : W p l e R s m args below meth c H locs cells slots Q (F0 m pc ls rest) := by
  refine lv_aload_n hx hb d0 rfl (lv_at hl p0 h0) ?_
  refine lv_iload hx hb d1 (lv_at hl p4 h4) ?_
  refine lv_iconst (v := nI k) hx hb d3 hk ?_
  refine q_addN hx hb d4 ?_
  refine va_sld hx hb hX hbl hbA hS (vp_in_nI hi hL) d5 ?_
  exact q_top (y := y) (by rw [nI_clamp (by omega)]; exact hy) kk
theorem lq_ar6 {b L i k : Nat} {n : Int} {xs : Nat → Int32} {y : Int32} {lv : List (Nat × Value)} (hx : p.tables.exec = Jvm.exec) (hb : c.code = cc) (hX : va_X b L xs s H0) (hbl : b < H0.size) (hbA : ¬ A b) (hS : va_S A H0 H locs) (hl : lv_has ls 7 lv) (p0 p4 : Nat) (h0 : lv[p0]? = some (0, .ref b)) (h4 : lv[p4]? = some (4, .int (nI i)))
    (hi : i + k < L) (hL : L < 2 ^ 31) (hk : (Int8.ofInt n).toInt32 = nI k) (hy : xs (i + k) = y) (d0 : decode cc pc = .ok (.aload_n 0, 1)) (d1 : decode cc (pc + 1) = .ok (.iload 4, 2)) (d3 : decode cc (pc + 1 + 2) = .ok (.bipush n, 2)) (d4 : decode cc (pc + 1 + 2 + 2) = .ok (.iadd, 1)) (d5 : decode cc (pc + 1 + 2 + 2 + 1) = .ok (.iaload, 1))
    (kk : W p l e R s m args below meth c H locs cells slots Q (F0 m (pc + 1 + 2 + 2 + 1 + 1) ls (.int y :: rest))) : W p l e R s m args below meth c H locs cells slots Q (F0 m pc ls rest) := by
  refine lv_aload_n hx hb d0 rfl (lv_at hl p0 h0) ?_
  refine lv_iload hx hb d1 (lv_at hl p4 h4) ?_
  refine lv_bipush (v := nI k) hx hb d3 hk ?_
  refine q_addN hx hb d4 ?_
  refine va_sld hx hb hX hbl hbA hS (vp_in_nI hi hL) d5 ?_
  exact q_top (y := y) (by rw [nI_clamp (by omega)]; exact hy) kk
end LQ
