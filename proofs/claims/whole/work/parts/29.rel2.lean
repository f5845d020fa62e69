/-! the relation of the two sides, in bundles; each call keeps it -/
def TR (lev : Nat → Nat) (ex : Nat → Bool) (pa mpa : Nat → Option Nat) (gc : Nat) : Prop :=
  TI ex pa lev ∧ (∀ g, g < 16 → ex g = true → mpa g = pa g) ∧ PR pa ∧ PR mpa ∧ (∀ g, g < 16 → ex g = false → pa g = none) ∧ gc ≤ 16 ∧ (∀ j, j < 16 → ex j = true → j < gc)
def QR (ex : Nat → Bool) (di qu mu : Nat → Nat) (gc : Nat) : Prop :=
  (∀ k, k < 16 → di k ≤ 100) ∧ (∀ k, k < 256 → qu k ≤ 20) ∧ (∀ k, k < 256 → mu k ≤ 20) ∧ PT ex qu mu ∧ (∀ g p, gc ≤ g → g < 16 → p < 16 → mu (g * 16 + p) = 0)
def BR (ex : Nat → Bool) (gc dc : Nat) (dg dp da : Nat → Nat) (dh dt dv : Nat → Option Nat) (dd ds ms : Nat → Nat) (td : Nat) (ho : Nat → Option Nat) : Prop :=
  RD dc dg da dh dt dd ms td ∧ DR ex dc dg dp da dh dt ds ms ∧ (∀ k, k < dc → ds k ≤ 4) ∧ (∀ q, q < 1536 → ho q = bst (drf ds dd dp td q) dd dc) ∧ DV dv dc ∧ (∀ k, k < dc → dg k < gc)
def SR (gc : Nat) (se : Nat → Option Nat) : Prop :=
  (∀ k, k < 864 → ∀ v, se k = some v → v ≤ 100000) ∧ (∀ sp g j, sp < 3 → gc ≤ g → g < 16 → j < 18 → se (sp * 288 + g * 18 + j) = none)
def PP (pr : Nat → Option Nat) : Prop := ∀ k, k < 16 → ∀ v, pr k = some v → v ≤ 1000000000
theorem BR_HO {ex : Nat → Bool} {gc dc : Nat} {dg dp da : Nat → Nat} {dh dt dv : Nat → Option Nat} {dd ds ms : Nat → Nat} {td : Nat} {ho : Nat → Option Nat} (h : BR ex gc dc dg dp da dh dt dv dd ds ms td ho) : HO ho dc := fun q hq k e => by
  rw [h.2.2.2.1 q hq] at e
  exact (bst_in dc k e).1
theorem BR_RH {ex : Nat → Bool} {gc dc : Nat} {dg dp da : Nat → Nat} {dh dt dv : Nat → Option Nat} {dd ds ms : Nat → Nat} {td : Nat} {ho : Nat → Option Nat} (h : BR ex gc dc dg dp da dh dt dv dd ds ms td ho) : RH ex ho dc dg da dh dt dd ms td := RH_of h.2.1 h.1 h.2.2.2.1
theorem BR_dp {ex : Nat → Bool} {gc dc : Nat} {dg dp da : Nat → Nat} {dh dt dv : Nat → Option Nat} {dd ds ms : Nat → Nat} {td : Nat} {ho : Nat → Option Nat} (h : BR ex gc dc dg dp da dh dt dv dd ds ms td ho) : ∀ k, k < dc → dp k < 1536 := fun k hk => by
  rw [h.2.1.1 k hk]
  obtain ⟨-, -, r1, r2, r3, r4, -, -⟩ := h.1
  exact plc_lt (r1 k hk) (r2 k hk) (sx_lt (r3 k hk)) (sx_lt (r4 k hk))
/-- what holds, settled anew -/
theorem stl_at {ho : Nat → Option Nat} {ds dd dp : Nat → Nat} {td dc q : Nat} (hq : q < 1536) : stl ho ds dd dp td dc q = bst (drf ds dd dp td q) dd dc := if_pos hq
def tpl (lev : Nat → Nat) (o : Option Nat) : Nat := match o with
  | none => 0
  | some q => lev q + 1
theorem tpl_Z (lev : Nat → Nat) (o : Option Nat) : ((tpl lev o : Nat) : Int) = lvZ lev o + 1 := by
  cases o with
  | none => rfl
  | some q => show ((lev q + 1 : Nat) : Int) = (lev q : Int) + 1; omega
/-- addGood -/
theorem TR_add {lev : Nat → Nat} {ex : Nat → Bool} {pa mpa : Nat → Option Nat} {gc : Nat} {o : Option Nat} (h : TR lev ex pa mpa gc) (hg : gc < 16) (ho : okO ex o) (hl : lvZ lev o ≤ 1) : TR (va_up lev gc (tpl lev o)) (va_up ex gc true) (va_up pa gc o) (va_up mpa gc o) (gc + 1) := by
  obtain ⟨h1, h2, h3, h4, h5, h6, h7⟩ := h
  have hne : ∀ k, k < 16 → ex k = true → k ≠ gc := fun k hk he e => by have := h7 k hk he; omega
  have hz := tpl_Z lev o
  refine ⟨?_, ?_, ?_, ?_, ?_, by omega, ?_⟩
  · intro g hg2 he
    by_cases c : g = gc
    · subst c
      rw [up_at, up_at]
      refine ⟨by omega, ?_⟩
      cases o with
      | none => exact Or.inl ⟨rfl, rfl⟩
      | some q =>
        obtain ⟨q1, q2⟩ := ho q rfl
        refine Or.inr ⟨q, q1, ?_, rfl, ?_⟩
        · rw [up_ne _ _ (hne q q1 q2)]; exact q2
        · rw [up_ne _ _ (hne q q1 q2)]; rfl
    · rw [up_ne _ _ c] at he
      rw [up_ne _ _ c, up_ne _ _ c]
      obtain ⟨a1, a2⟩ := h1 g hg2 he
      refine ⟨a1, ?_⟩
      rcases a2 with a2 | ⟨p, p1, p2, p3, p4⟩
      · exact Or.inl a2
      · refine Or.inr ⟨p, p1, ?_, p3, ?_⟩
        · rw [up_ne _ _ (hne p p1 p2)]; exact p2
        · rw [up_ne _ _ (hne p p1 p2)]; exact p4
  · intro g hg2 he
    by_cases c : g = gc
    · rw [c, up_at, up_at]
    · rw [up_ne _ _ c] at he
      rw [up_ne _ _ c, up_ne _ _ c]; exact h2 g hg2 he
  · intro g hg2 k e
    by_cases c : g = gc
    · rw [c, up_at] at e; exact (ho k e).1
    · rw [up_ne _ _ c] at e; exact h3 g hg2 k e
  · intro g hg2 k e
    by_cases c : g = gc
    · rw [c, up_at] at e; exact (ho k e).1
    · rw [up_ne _ _ c] at e; exact h4 g hg2 k e
  · intro g hg2 he
    by_cases c : g = gc
    · rw [c, up_at] at he; cases he
    · rw [up_ne _ _ c] at he
      rw [up_ne _ _ c]; exact h5 g hg2 he
  · intro j hj he
    by_cases c : j = gc
    · omega
    · rw [up_ne _ _ c] at he
      have := h7 j hj he
      omega
theorem ex_gc {lev : Nat → Nat} {ex : Nat → Bool} {pa mpa : Nat → Option Nat} {gc : Nat} (h : TR lev ex pa mpa gc) {g : Nat} (h1 : gc ≤ g) (h2 : g < 16) : ex g = false := by
  cases e : ex g with
  | false => rfl
  | true => have := h.2.2.2.2.2.2 g h2 e; omega
theorem QR_add {lev : Nat → Nat} {ex : Nat → Bool} {pa mpa : Nat → Option Nat} {di qu mu : Nat → Nat} {gc : Nat} (ht : TR lev ex pa mpa gc) (h : QR ex di qu mu gc) (hg : gc < 16) : QR (va_up ex gc true) di qu mu (gc + 1) := by
  obtain ⟨h1, h2, h3, ⟨p1, p2, p3⟩, h5⟩ := h
  have hgc := ex_gc ht (Nat.le_refl gc) hg
  refine ⟨h1, h2, h3, ⟨?_, ?_, ?_⟩, fun g p hg2 => h5 g p (by omega)⟩
  · intro g p hg2 hp he
    by_cases c : g = gc
    · rw [c, h5 gc p (Nat.le_refl gc) hg hp, p2 gc p hg hp hgc]
    · rw [up_ne _ _ c] at he; exact p1 g p hg2 hp he
  · intro g p hg2 hp he
    by_cases c : g = gc
    · rw [c, up_at] at he; cases he
    · rw [up_ne _ _ c] at he; exact p2 g p hg2 hp he
  · intro g p hg2 hp hq
    obtain ⟨a1, a2⟩ := p3 g p hg2 hp hq
    refine ⟨a1, ?_⟩
    by_cases c : p = gc
    · rw [c, up_at]
    · rw [up_ne _ _ c]; exact a2
theorem BR_add {ex : Nat → Bool} {gc dc : Nat} {dg dp da : Nat → Nat} {dh dt dv : Nat → Option Nat} {dd ds ms : Nat → Nat} {td : Nat} {ho : Nat → Option Nat} (h : BR ex gc dc dg dp da dh dt dv dd ds ms td ho) : BR (va_up ex gc true) (gc + 1) dc dg dp da dh dt dv dd ds ms td ho := by
  obtain ⟨h1, ⟨d1, d2, d3⟩, h3, h4, h5, h6⟩ := h
  have hne : ∀ k, k < dc → dg k ≠ gc := fun k hk e => by have := h6 k hk; omega
  refine ⟨h1, ⟨d1, fun k hk he => ?_, fun k hk he => ?_⟩, h3, h4, h5, fun k hk => Nat.lt_succ_of_lt (h6 k hk)⟩
  · rw [up_ne _ _ (hne k hk)] at he; exact d2 k hk he
  · rw [up_ne _ _ (hne k hk)] at he; exact d3 k hk he
theorem SR_add {gc : Nat} {se : Nat → Option Nat} (h : SR gc se) : SR (gc + 1) se := ⟨h.1, fun sp g j h1 h2 => h.2 sp g j h1 (by omega)⟩
/-- delete -/
theorem TR_del {lev : Nat → Nat} {ex : Nat → Bool} {pa mpa : Nat → Option Nat} {gc g : Nat} (h : TR lev ex pa mpa gc) (hp : ∀ k, k < 16 → pa k ≠ some g) : TR lev (va_up ex g false) (va_up pa g none) mpa gc := by
  obtain ⟨h1, h2, h3, h4, h5, h6, h7⟩ := h
  refine ⟨?_, ?_, ?_, h4, ?_, h6, ?_⟩
  · intro k hk he
    by_cases c : k = g
    · rw [c, up_at] at he; cases he
    · rw [up_ne _ _ c] at he
      rw [up_ne _ _ c]
      obtain ⟨a1, a2⟩ := h1 k hk he
      refine ⟨a1, ?_⟩
      rcases a2 with a2 | ⟨p, p1, p2, p3, p4⟩
      · exact Or.inl a2
      · refine Or.inr ⟨p, p1, ?_, p3, p4⟩
        rw [up_ne _ _ (fun e => hp k hk (by rw [p3, e]))]; exact p2
  · intro k hk he
    by_cases c : k = g
    · rw [c, up_at] at he; cases he
    · rw [up_ne _ _ c] at he
      rw [up_ne _ _ c]; exact h2 k hk he
  · intro k hk j e
    by_cases c : k = g
    · rw [c, up_at] at e; cases e
    · rw [up_ne _ _ c] at e; exact h3 k hk j e
  · intro k hk he
    by_cases c : k = g
    · rw [c, up_at]
    · rw [up_ne _ _ c] at he
      rw [up_ne _ _ c]; exact h5 k hk he
  · intro j hj he
    by_cases c : j = g
    · rw [c, up_at] at he; cases he
    · rw [up_ne _ _ c] at he; exact h7 j hj he
theorem clr_row {qu : Nat → Nat} {g k p : Nat} (hp : p < 16) : clr qu (g * 16) 16 (k * 16 + p) = if k = g then 0 else qu (k * 16 + p) := by
  unfold clr
  by_cases c : k = g
  · rw [if_pos c, if_pos (by omega)]
  · rw [if_neg c, if_neg (by omega)]
theorem QR_del {ex : Nat → Bool} {di qu mu : Nat → Nat} {gc g : Nat} (h : QR ex di qu mu gc) (hq : ∀ k, k < 16 → qu (k * 16 + g) = 0) (hg : g < 16) : QR (va_up ex g false) di (clr qu (g * 16) 16) mu gc := by
  obtain ⟨h1, h2, h3, ⟨p1, p2, p3⟩, h5⟩ := h
  refine ⟨h1, fun k hk => ?_, h3, ⟨?_, ?_, ?_⟩, h5⟩
  · unfold clr
    by_cases c : g * 16 ≤ k ∧ k < g * 16 + 16
    · rw [if_pos c]; exact Nat.zero_le _
    · rw [if_neg c]; exact h2 k hk
  · intro k p hk hp he
    by_cases c : k = g
    · rw [c, up_at] at he; cases he
    · rw [up_ne _ _ c] at he
      rw [clr_row hp, if_neg c]; exact p1 k p hk hp he
  · intro k p hk hp he
    rw [clr_row hp]
    by_cases c : k = g
    · rw [if_pos c]
    · rw [up_ne _ _ c] at he
      rw [if_neg c]; exact p2 k p hk hp he
  · intro k p hk hp hq2
    rw [clr_row hp] at hq2
    by_cases c : k = g
    · rw [if_pos c] at hq2; cases hq2
    · rw [if_neg c] at hq2
      obtain ⟨a1, a2⟩ := p3 k p hk hp hq2
      refine ⟨a1, ?_⟩
      rw [up_ne _ _ (fun e => by rw [e, hq k hk] at hq2; cases hq2)]; exact a2
theorem BR_del {ex : Nat → Bool} {gc dc g : Nat} {dg dp da : Nat → Nat} {dh dt dv : Nat → Option Nat} {dd ds ms : Nat → Nat} {td : Nat} {ho : Nat → Option Nat} (h : BR ex gc dc dg dp da dh dt dv dd ds ms td ho) : BR (va_up ex g false) gc dc dg dp da dh dt dv dd (kil ds dg g dc) ms td (stl ho (kil ds dg g dc) dd dp td dc) := by
  obtain ⟨h1, ⟨d1, d2, d3⟩, h3, h4, h5, h6⟩ := h
  refine ⟨h1, ⟨d1, fun k hk he => ?_, fun k hk he => ?_⟩, kil_le h3, fun q hq => stl_at hq, h5, h6⟩
  · by_cases c : dg k = g
    · rw [c, up_at] at he; cases he
    · rw [up_ne _ _ c] at he
      unfold kil
      rw [if_neg (fun z => c z.2)]; exact d2 k hk he
  · unfold kil
    by_cases c : dg k = g
    · rw [if_pos ⟨hk, c⟩]
    · rw [up_ne _ _ c] at he
      rw [if_neg (fun z => c z.2)]; exact d3 k hk he
/-- draft -/
theorem drf_new {ds dd dp : Nat → Nat} {td q n w pl k : Nat} (hk : k < n) : drf (va_up ds n 1) (va_up dd n w) (va_up dp n pl) td q k = drf ds dd dp td q k := by
  have c : k ≠ n := by omega
  unfold drf
  rw [up_ne _ _ c, up_ne _ _ c, up_ne _ _ c]
theorem BR_dra {ex : Nat → Bool} {gc dc g a w : Nat} {x y v : Option Nat} {dg dp da : Nat → Nat} {dh dt dv : Nat → Option Nat} {dd ds ms : Nat → Nat} {td : Nat} {ho : Nat → Option Nat} (h : BR ex gc dc dg dp da dh dt dv dd ds ms td ho) (hm : ∀ k, dc ≤ k → ms k = 0) (hg : g < 16) (hg2 : g < gc) (he : ex g = true) (ha : a < 6) (hx : ∀ k, x = some k → k < 3) (hy : ∀ k, y = some k → k < 3) (hv : ∀ k, v = some k → k ≤ 100000) (hw : w ≤ 1000) (hdc : dc < 200) :
    BR ex gc (dc + 1) (va_up dg dc g) (va_up dp dc (plc g a (sx x) (sx y))) (va_up da dc a) (va_up dh dc x) (va_up dt dc y) (va_up dv dc v) (va_up dd dc w) (va_up ds dc 1) ms td ho := by
  obtain ⟨⟨r1, r2, r3, r4, r5, r6, r7, r8⟩, ⟨d1, d2, d3⟩, h3, h4, h5, h6⟩ := h
  have hc : ∀ k, k < dc + 1 → k ≠ dc → k < dc := fun k h1 h2 => by omega
  refine ⟨⟨by omega, r2, ?_, ?_, ?_, ?_, ?_, ?_⟩, ⟨?_, ?_, ?_⟩, ?_, ?_, ?_, ?_⟩
  · intro k hk
    by_cases c : k = dc
    · rw [c, up_at]; exact hg
    · rw [up_ne _ _ c]; exact r3 k (hc k hk c)
  · intro k hk
    by_cases c : k = dc
    · rw [c, up_at]; exact ha
    · rw [up_ne _ _ c]; exact r4 k (hc k hk c)
  · intro k hk u e
    by_cases c : k = dc
    · rw [c, up_at] at e; exact hx u e
    · rw [up_ne _ _ c] at e; exact r5 k (hc k hk c) u e
  · intro k hk u e
    by_cases c : k = dc
    · rw [c, up_at] at e; exact hy u e
    · rw [up_ne _ _ c] at e; exact r6 k (hc k hk c) u e
  · intro k hk
    by_cases c : k = dc
    · rw [c, up_at]; exact hw
    · rw [up_ne _ _ c]; exact r7 k (hc k hk c)
  · intro k hk
    by_cases c : k = dc
    · rw [c, hm dc (Nat.le_refl dc)]; decide
    · exact r8 k (hc k hk c)
  · intro k hk
    by_cases c : k = dc
    · rw [c, up_at, up_at, up_at, up_at, up_at]
    · rw [up_ne _ _ c, up_ne _ _ c, up_ne _ _ c, up_ne _ _ c, up_ne _ _ c]; exact d1 k (hc k hk c)
  · intro k hk e
    by_cases c : k = dc
    · rw [c, up_at, hm dc (Nat.le_refl dc)]
    · rw [up_ne _ _ c] at e
      rw [up_ne _ _ c]; exact d2 k (hc k hk c) e
  · intro k hk e
    by_cases c : k = dc
    · rw [c, up_at, he] at e; cases e
    · rw [up_ne _ _ c] at e
      rw [up_ne _ _ c]; exact d3 k (hc k hk c) e
  · intro k hk
    by_cases c : k = dc
    · rw [c, up_at]; decide
    · rw [up_ne _ _ c]; exact h3 k (hc k hk c)
  · intro q hq
    rw [bst_skip (show drf (va_up ds dc 1) (va_up dd dc w) (va_up dp dc (plc g a (sx x) (sx y))) td q dc = false by unfold drf; rw [up_at]; rfl)]
    rw [h4 q hq, bst_cong (fun k hk => (drf_new (ds := ds) (dd := dd) (dp := dp) (td := td) (q := q) (w := w) (pl := plc g a (sx x) (sx y)) hk).symm)]
    exact bst_dd (fun k hk => (up_ne _ _ (by omega)).symm)
  · intro k hk u e
    by_cases c : k = dc
    · rw [c, up_at] at e; exact hv u e
    · rw [up_ne _ _ c] at e; exact h5 k (hc k hk c) u e
  · intro k hk
    by_cases c : k = dc
    · rw [c, up_at]; exact hg2
    · rw [up_ne _ _ c]; exact h6 k (hc k hk c)
/-- approve, reject, pass -/
theorem BR_set {ex : Nat → Bool} {gc dc d u : Nat} {dg dp da : Nat → Nat} {dh dt dv : Nat → Option Nat} {dd ds ms : Nat → Nat} {td : Nat} {ho : Nat → Option Nat} (h : BR ex gc dc dg dp da dh dt dv dd ds ms td ho) (hd : d < dc) (he : ex (dg d) = true) (hu : u ≤ 2) : BR ex gc dc dg dp da dh dt dv dd (va_up ds d (u + 1)) (va_up ms d u) td (stl ho (va_up ds d (u + 1)) dd dp td dc) := by
  obtain ⟨h1, ⟨d1, d2, d3⟩, h3, h4, h5, h6⟩ := h
  refine ⟨RD_up h1 hu, ⟨d1, fun k hk e => ?_, fun k hk e => ?_⟩, up_le (by omega) h3, fun q hq => stl_at hq, h5, h6⟩
  · by_cases c : k = d
    · rw [c, up_at, up_at]
    · rw [up_ne _ _ c, up_ne _ _ c]; exact d2 k hk e
  · by_cases c : k = d
    · rw [c, he] at e; cases e
    · rw [up_ne _ _ c]; exact d3 k hk e
theorem BR_pas {ex : Nat → Bool} {gc dc w : Nat} {dg dp da : Nat → Nat} {dh dt dv : Nat → Option Nat} {dd ds ms : Nat → Nat} {td : Nat} {ho : Nat → Option Nat} (h : BR ex gc dc dg dp da dh dt dv dd ds ms td ho) (hw : td + w < 2147483648) : BR ex gc dc dg dp da dh dt dv dd ds ms (td + w) (stl ho ds dd dp (td + w) dc) := by
  obtain ⟨⟨r1, r2, r3⟩, h2, h3, h4, h5, h6⟩ := h
  exact ⟨⟨r1, hw, r3⟩, h2, h3, fun q hq => stl_at hq, h5, h6⟩
/-- addPart -/
theorem QR_prt {ex : Nat → Bool} {di qu mu : Nat → Nat} {gc g q w : Nat} (h : QR ex di qu mu gc) (hg : g < 16) (he : ex g = true) (hgc : g < gc) (hq : q < 16) (he2 : ex q = true) (hlt : q < g) (hw : qu (g * 16 + q) + w ≤ 20) : QR ex di (va_up qu (g * 16 + q) (qu (g * 16 + q) + w)) (va_up mu (g * 16 + q) (mu (g * 16 + q) + w)) gc := by
  obtain ⟨h1, h2, h3, ⟨p1, p2, p3⟩, h5⟩ := h
  have em := p1 g q hg hq he
  have hne : ∀ k p, p < 16 → k ≠ g → k * 16 + p ≠ g * 16 + q := fun k p hp c e => by omega
  refine ⟨h1, fun k hk => ?_, fun k hk => ?_, ⟨?_, ?_, ?_⟩, ?_⟩
  · by_cases c : k = g * 16 + q
    · rw [c, up_at]; exact hw
    · rw [up_ne _ _ c]; exact h2 k hk
  · by_cases c : k = g * 16 + q
    · rw [c, up_at, em]; exact hw
    · rw [up_ne _ _ c]; exact h3 k hk
  · intro k p hk hp e
    by_cases c : k * 16 + p = g * 16 + q
    · rw [c, up_at, up_at, em]
    · rw [up_ne _ _ c, up_ne _ _ c]; exact p1 k p hk hp e
  · intro k p hk hp e
    by_cases c : k = g
    · rw [c, he] at e; cases e
    · rw [up_ne _ _ (hne k p hp c)]; exact p2 k p hk hp e
  · intro k p hk hp e
    by_cases c : k * 16 + p = g * 16 + q
    · have c1 : k = g := by omega
      have c2 : p = q := by omega
      rw [c1, c2]; exact ⟨hlt, he2⟩
    · rw [up_ne _ _ c] at e; exact p3 k p hk hp e
  · intro k p hk hk2 hp
    rw [up_ne _ _ (hne k p hp (by omega))]; exact h5 k p hk hk2 hp
theorem QR_dis {ex : Nat → Bool} {di qu mu : Nat → Nat} {gc g w : Nat} (h : QR ex di qu mu gc) (hw : w ≤ 100) : QR ex (va_up di g w) qu mu gc := by
  obtain ⟨h1, h2⟩ := h
  refine ⟨fun k hk => ?_, h2⟩
  by_cases c : k = g
  · rw [c, up_at]; exact hw
  · rw [up_ne _ _ c]; exact h1 k hk
