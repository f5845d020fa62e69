/-! the two pictures: the cells of a hub, and of the reference -/
def hW (h : Nat) (ad : Nat → Nat) (cI cZ : ClassId) (ex : Nat → Bool) (pa : Nat → Option Nat) (di qu : Nat → Nat) (gc : Nat) (dg dp : Nat → Nat) (dv : Nat → Option Nat) (dd ds : Nat → Nat) (dc td : Nat) (ho : Nat → Option Nat) (ak : Nat → Bool) (se pr : Nat → Option Nat) : va_W :=
  [(h, .inr (0, [.ref (ad 0), .ref (ad 1), .ref (ad 2), .ref (ad 3), .int (nI gc), .ref (ad 5), .ref (ad 6), .ref (ad 7), .ref (ad 8), .ref (ad 9), .int (nI dc), .int (nI td), .ref (ad 12), .ref (ad 13), .ref (ad 14), .ref (ad 15)])),
   (ad 0, .inl (cZ, 16, .inl (fun j => bI (ex j)))),
   (ad 1, .inl (cI, 16, .inl (fun j => oI (pa j)))),
   (ad 2, .inl (cI, 16, .inl (fun j => nI (di j)))),
   (ad 3, .inl (cI, 256, .inl (fun j => nI (qu j)))),
   (ad 5, .inl (cI, 200, .inl (fun j => nI (dg j)))),
   (ad 6, .inl (cI, 200, .inl (fun j => nI (dp j)))),
   (ad 7, .inl (cI, 200, .inl (fun j => oI (dv j)))),
   (ad 8, .inl (cI, 200, .inl (fun j => nI (dd j)))),
   (ad 9, .inl (cI, 200, .inl (fun j => nI (ds j)))),
   (ad 12, .inl (cI, 1536, .inl (fun j => oI (ho j)))),
   (ad 13, .inl (cZ, 18, .inl (fun j => bI (ak j)))),
   (ad 14, .inl (cI, 864, .inl (fun j => oI (se j)))),
   (ad 15, .inl (cI, 16, .inl (fun j => oI (pr j))))]
abbrev hT (cI cZ : ClassId) : List (ClassId × FieldType) := [(cZ, .boolean), (cI, .int)]
def mW (h : Nat) (ad : Nat → Nat) (cI cJ cZ : ClassId) (td gc : Nat) (ex : Nat → Bool) (pa : Nat → Option Nat) (di qu : Nat → Nat) (dc : Nat) (dg da : Nat → Nat) (dh dt dv : Nat → Option Nat) (dd ds : Nat → Nat) (ak : Nat → Bool) (se pr : Nat → Option Nat) (th : Nat) : va_W :=
  [(h, .inr (1, [.int (nI td), .int (nI gc), .ref (ad 2), .ref (ad 3), .ref (ad 4), .ref (ad 5), .int (nI dc), .ref (ad 7), .ref (ad 8), .ref (ad 9), .ref (ad 10), .ref (ad 11), .ref (ad 12), .ref (ad 13), .ref (ad 14), .ref (ad 15), .ref (ad 16), .int (nI th)])),
   (ad 2, .inl (cZ, 16, .inl (fun j => bI (ex j)))),
   (ad 3, .inl (cI, 16, .inl (fun j => oI (pa j)))),
   (ad 4, .inl (cI, 16, .inl (fun j => nI (di j)))),
   (ad 5, .inl (cI, 256, .inl (fun j => nI (qu j)))),
   (ad 7, .inl (cI, 200, .inl (fun j => nI (dg j)))),
   (ad 8, .inl (cI, 200, .inl (fun j => nI (da j)))),
   (ad 9, .inl (cI, 200, .inl (fun j => oI (dh j)))),
   (ad 10, .inl (cI, 200, .inl (fun j => oI (dt j)))),
   (ad 11, .inl (cI, 200, .inl (fun j => oI (dv j)))),
   (ad 12, .inl (cI, 200, .inl (fun j => nI (dd j)))),
   (ad 13, .inl (cI, 200, .inl (fun j => nI (ds j)))),
   (ad 14, .inl (cZ, 18, .inl (fun j => bI (ak j)))),
   (ad 15, .inl (cI, 864, .inl (fun j => oI (se j)))),
   (ad 16, .inl (cJ, 16, .inr (.inl (fun j => oL (pr j)))))]
abbrev mT (cI cJ cZ : ClassId) : List (ClassId × FieldType) := [(cZ, .boolean), (cI, .int), (cJ, .long)]
/-- the forest: each good that is there has its level (ghost) and its parent; the others have none -/
def TI (ex : Nat → Bool) (pa : Nat → Option Nat) (lev : Nat → Nat) : Prop :=
  ∀ g, g < 16 → ex g = true → lev g ≤ 2 ∧ ((pa g = none ∧ lev g = 0) ∨ ∃ p, p < 16 ∧ ex p = true ∧ pa g = some p ∧ lev g = lev p + 1)
theorem TI_some {ex : Nat → Bool} {pa : Nat → Option Nat} {lev : Nat → Nat} (h : TI ex pa lev) {g p : Nat} (hg : g < 16) (he : ex g = true) (hp : pa g = some p) : p < 16 ∧ ex p = true ∧ lev g = lev p + 1 := by
  obtain ⟨-, ⟨h1, -⟩ | ⟨q, h1, h2, h3, h4⟩⟩ := h g hg he
  · rw [h1] at hp; cases hp
  · rw [h3] at hp
    cases hp
    exact ⟨h1, h2, h4⟩
theorem TI_none {ex : Nat → Bool} {pa : Nat → Option Nat} {lev : Nat → Nat} (h : TI ex pa lev) {g : Nat} (hg : g < 16) (he : ex g = true) (hp : pa g = none) : lev g = 0 := by
  obtain ⟨-, ⟨-, h1⟩ | ⟨q, h1, h2, h3, h4⟩⟩ := h g hg he
  · exact h1
  · rw [h3] at hp; cases hp
theorem TI_le {ex : Nat → Bool} {pa : Nat → Option Nat} {lev : Nat → Nat} (h : TI ex pa lev) {g : Nat} (hg : g < 16) (he : ex g = true) : lev g ≤ 2 := (h g hg he).1
/-- a parent or none: what it may be -/
def okO (ex : Nat → Bool) (o : Option Nat) : Prop := ∀ k, o = some k → k < 16 ∧ ex k = true
theorem TI_ok {ex : Nat → Bool} {pa : Nat → Option Nat} {lev : Nat → Nat} (h : TI ex pa lev) {g : Nat} (hg : g < 16) (he : ex g = true) : okO ex (pa g) := fun _ hk => ⟨(TI_some h hg he hk).1, (TI_some h hg he hk).2.1⟩
/-- the level of a good, -1 for none -/
def lvZ (lev : Nat → Nat) (o : Option Nat) : Int := match o with
  | none => -1
  | some g => (lev g : Int)
/-- t is k, or above it, within n steps -/
def bel (pa : Nat → Option Nat) (t : Nat) : Nat → Option Nat → Bool
  | 0, _ => false
  | _ + 1, none => false
  | n + 1, some k => (k == t) || bel pa t n (pa k)
/-- some number below n -/
def exU (f : Nat → Bool) : Nat → Bool
  | 0 => false
  | n + 1 => exU f n || f n
theorem exU_no {f : Nat → Bool} : ∀ {n : Nat}, exU f n = false ↔ ∀ k, k < n → f k = false
  | 0 => ⟨fun _ k hk => absurd hk (Nat.not_lt_zero k), fun _ => rfl⟩
  | n + 1 => by
    rw [exU, Bool.or_eq_false_iff, exU_no (n := n)]
    constructor
    · intro h k hk
      rcases Nat.lt_or_ge k n with q | q
      · exact h.1 k q
      · have e : k = n := by omega
        rw [e]; exact h.2
    · intro h
      exact ⟨fun k hk => h k (by omega), h n (by omega)⟩
theorem exU_yes {f : Nat → Bool} {n k : Nat} (hk : k < n) (h : f k = true) : exU f n = true := by
  cases e : exU f n with
  | true => rfl
  | false => rw [exU_no.mp e k hk] at h; cases h
/-- the place of a draft: shop and tongue count from 1, 0 is all -/
def plc (g a sh to : Nat) : Nat := (g * 6 + a) * 16 + (sh * 4 + to)
theorem lvZ_ge (lev : Nat → Nat) (o : Option Nat) : -1 ≤ lvZ lev o := by
  cases o with
  | none => exact Int.le_refl _
  | some g => show (-1 : Int) ≤ (lev g : Int); omega
theorem lvZ_le {ex : Nat → Bool} {pa : Nat → Option Nat} {lev : Nat → Nat} (h : TI ex pa lev) {o : Option Nat} (ho : okO ex o) : lvZ lev o ≤ 2 := by
  cases o with
  | none => show (-1 : Int) ≤ 2; omega
  | some g =>
    have h1 := TI_le h (ho g rfl).1 (ho g rfl).2
    show (lev g : Int) ≤ 2
    omega
theorem lvZ_pa {ex : Nat → Bool} {pa : Nat → Option Nat} {lev : Nat → Nat} (h : TI ex pa lev) {g : Nat} (hg : g < 16) (he : ex g = true) : lvZ lev (pa g) = (lev g : Int) - 1 := by
  cases hp : pa g with
  | none =>
    have h1 := TI_none h hg he hp
    show (-1 : Int) = (lev g : Int) - 1
    omega
  | some q =>
    have h1 := (TI_some h hg he hp).2.2
    show (lev q : Int) = (lev g : Int) - 1
    omega
/-- each parent is a number below 16 -/
def PR (pa : Nat → Option Nat) : Prop := ∀ g, g < 16 → ∀ k, pa g = some k → k < 16
/-- as bel, over goods that are there -/
def wth (ex : Nat → Bool) (pa : Nat → Option Nat) (t : Nat) : Nat → Option Nat → Bool
  | 0, _ => false
  | _ + 1, none => false
  | n + 1, some k => ex k && ((k == t) || wth ex pa t n (pa k))
theorem wth_some {ex : Nat → Bool} {pa : Nat → Option Nat} {t n m k : Nat} (h : n = m + 1) : wth ex pa t n (some k) = (ex k && ((k == t) || wth ex pa t m (pa k))) := by subst h; rfl
theorem wth_none {ex : Nat → Bool} {pa : Nat → Option Nat} {t n : Nat} : wth ex pa t n none = false := by cases n <;> rfl
theorem retT {b : Bool} (h : b = true) : nI 1 = bI b := by rw [h]; decide
theorem retF {b : Bool} (h : b = false) : nI 0 = bI b := by rw [h]; decide
/-- the first of two that is one -/
def orE : Option Nat → Option Nat → Option Nat
  | some x, _ => some x
  | none, y => y
theorem orE_l {x y : Option Nat} (h : x ≠ none) : orE x y = x := by
  cases x with
  | none => exact absurd rfl h
  | some k => rfl
theorem orE_r {x y : Option Nat} (h : x = none) : orE x y = y := by subst h; rfl
theorem orE_in {x y : Option Nat} {P : Nat → Prop} (hx : ∀ k, x = some k → P k) (hy : ∀ k, y = some k → P k) : ∀ k, orE x y = some k → P k := by
  intro k h
  cases x with
  | none => exact hy k h
  | some j => exact hx k h
/-- the draft that decides among a good's own places -/
def own (ho : Nat → Option Nat) (g a sh to : Nat) : Option Nat := orE (ho (plc g a sh to)) (orE (ho (plc g a sh 0)) (orE (ho (plc g a 0 to)) (ho (plc g a 0 0))))
theorem plc_lt {g a sh to : Nat} (hg : g < 16) (ha : a < 6) (hs : sh < 4) (ht : to < 4) : plc g a sh to < 1536 := by unfold plc; omega
/-- each holder is a draft that has been entered -/
def HO (ho : Nat → Option Nat) (dc : Nat) : Prop := ∀ q, q < 1536 → ∀ k, ho q = some k → k < dc
theorem own_in {ho : Nat → Option Nat} {dc g a sh to : Nat} (h : HO ho dc) (hg : g < 16) (ha : a < 6) (hs : sh < 4) (ht : to < 4) : ∀ k, own ho g a sh to = some k → k < dc :=
  orE_in (h _ (plc_lt hg ha hs ht)) (orE_in (h _ (plc_lt hg ha hs (by omega))) (orE_in (h _ (plc_lt hg ha (by omega) ht)) (h _ (plc_lt hg ha (by omega) (by omega)))))
/-- the draft that decides, in the good and above it -/
def org (ex : Nat → Bool) (pa ho : Nat → Option Nat) (a sh to : Nat) : Nat → Option Nat → Option Nat
  | 0, _ => none
  | _ + 1, none => none
  | n + 1, some k => if ex k = true then orE (own ho k a sh to) (org ex pa ho a sh to n (pa k)) else none
theorem org_some {ex : Nat → Bool} {pa ho : Nat → Option Nat} {a sh to n m k : Nat} (h : n = m + 1) : org ex pa ho a sh to n (some k) = if ex k = true then orE (own ho k a sh to) (org ex pa ho a sh to m (pa k)) else none := by subst h; rfl
theorem org_none {ex : Nat → Bool} {pa ho : Nat → Option Nat} {a sh to n : Nat} : org ex pa ho a sh to n none = none := by cases n <;> rfl
theorem org_in {ex : Nat → Bool} {pa ho : Nat → Option Nat} {dc a sh to : Nat} (h : HO ho dc) (hp : PR pa) (ha : a < 6) (hs : sh < 4) (ht : to < 4) : ∀ (n : Nat) (o : Option Nat), (∀ k, o = some k → k < 16) → ∀ k, org ex pa ho a sh to n o = some k → k < dc
  | 0, _, _, k, e => by cases e
  | _ + 1, none, _, k, e => by cases e
  | n + 1, some q, hq, k, e => by
    rw [org_some rfl] at e
    by_cases c : ex q = true
    · rw [if_pos c] at e
      exact orE_in (own_in h (hq q rfl) ha hs ht) (org_in h hp ha hs ht n (pa q) (hp q (hq q rfl))) k e
    · rw [if_neg c] at e; cases e
/-- the value that a good has -/
def vlu (ex : Nat → Bool) (pa ho dv : Nat → Option Nat) (a sh to g : Nat) : Option Nat := match org ex pa ho a sh to 3 (some g) with
  | none => none
  | some k => dv k
theorem vlu_none {ex : Nat → Bool} {pa ho dv : Nat → Option Nat} {a sh to g : Nat} (h : none = org ex pa ho a sh to 3 (some g)) : vlu ex pa ho dv a sh to g = none := by unfold vlu; rw [← h]
theorem vlu_some {ex : Nat → Bool} {pa ho dv : Nat → Option Nat} {a sh to g k : Nat} (h : some k = org ex pa ho a sh to 3 (some g)) : vlu ex pa ho dv a sh to g = dv k := by unfold vlu; rw [← h]
/-- the values that drafts tell are at most 100000 -/
def DV (dv : Nat → Option Nat) (dc : Nat) : Prop := ∀ k, k < dc → ∀ v, dv k = some v → v ≤ 100000
theorem vlu_in {ex : Nat → Bool} {pa ho dv : Nat → Option Nat} {dc a sh to g : Nat} (h : HO ho dc) (hp : PR pa) (hv : DV dv dc) (hg : g < 16) (ha : a < 6) (hs : sh < 4) (ht : to < 4) : ∀ v, vlu ex pa ho dv a sh to g = some v → v ≤ 100000 := by
  intro v e
  cases ho2 : org ex pa ho a sh to 3 (some g) with
  | none => rw [vlu_none ho2.symm] at e; cases e
  | some k =>
    rw [vlu_some ho2.symm] at e
    exact hv k (org_in h hp ha hs ht 3 (some g) (fun k hk => by cases hk; exact hg) k ho2) v e
/-- a set of numbers below n, as bits -/
def bset (f : Nat → Bool) : Nat → Nat
  | 0 => 0
  | n + 1 => if f n = true then bset f n ||| 2 ^ n else bset f n
theorem bset_t {f : Nat → Bool} {n : Nat} (h : f n = true) : bset f (n + 1) = bset f n ||| 2 ^ n := by rw [bset, if_pos h]
theorem bset_f {f : Nat → Bool} {n : Nat} (h : f n = false) : bset f (n + 1) = bset f n := by rw [bset, if_neg (by rw [h]; decide)]
theorem bset_lt (f : Nat → Bool) : ∀ n, bset f n < 2 ^ n
  | 0 => Nat.zero_lt_one
  | n + 1 => by
    have h := bset_lt f n
    rw [bset]
    by_cases c : f n = true
    · rw [if_pos c]
      exact Nat.or_lt_two_pow (Nat.lt_trans h (Nat.pow_lt_pow_right (by decide) (Nat.lt_succ_self n))) (Nat.pow_lt_pow_right (by decide) (Nat.lt_succ_self n))
    · rw [if_neg c]
      exact Nat.lt_trans h (Nat.pow_lt_pow_right (by decide) (Nat.lt_succ_self n))
theorem bset_lt' (f : Nat → Bool) {n m : Nat} (h : n ≤ m) : bset f n < 2 ^ m := Nat.lt_of_lt_of_le (bset_lt f n) (Nat.pow_le_pow_right (by decide) h)
theorem bset_ex {f : Nat → Bool} : ∀ {n : Nat}, bset f n = 0 ↔ exU f n = false
  | 0 => ⟨fun _ => rfl, fun _ => rfl⟩
  | n + 1 => by
    rw [bset, exU, Bool.or_eq_false_iff, ← bset_ex (n := n)]
    by_cases c : f n = true
    · rw [if_pos c, c]
      constructor
      · intro h
        have h1 : 2 ^ n ≤ bset f n ||| 2 ^ n := Nat.right_le_or
        have h2 : 0 < 2 ^ n := Nat.two_pow_pos n
        omega
      · intro h; cases h.2
    · rw [if_neg c]
      exact ⟨fun h => ⟨h, by cases h9 : f n with | false => rfl | true => exact absurd h9 c⟩, fun h => h.1⟩
theorem nI_or (a b : Nat) : nI a ||| nI b = nI (a ||| b) := by
  apply Int32.toBitVec_inj.1
  show BitVec.ofNat 32 a ||| BitVec.ofNat 32 b = BitVec.ofNat 32 (a ||| b)
  apply BitVec.eq_of_getLsbD_eq
  intro i hi
  simp [hi]
theorem shl1 : ∀ i, i < 16 → nI 1 <<< (nI i &&& 31) = nI (2 ^ i) := by decide
/-- what a shop lacks of a good -/
def lck (ex : Nat → Bool) (pa ho dv : Nat → Option Nat) (ak : Nat → Bool) (g sh to : Nat) : Nat → Bool := fun a => ak (sh * 6 + a) && decide (vlu ex pa ho dv a (sh + 1) (to + 1) g = none)
/-- what a shop has seen of a good is something else now -/
def lkj (ex : Nat → Bool) (pa ho dv se : Nat → Option Nat) (sp g : Nat) : Nat → Bool := fun j => decide (se (sp * 288 + g * 18 + j) ≠ vlu ex pa ho dv (j / 3) (sp + 1) (j % 3 + 1) g)
def lkd (ex : Nat → Bool) (pa ho dv se : Nat → Option Nat) (sp : Nat) : Nat → Bool := fun g => exU (lkj ex pa ho dv se sp g) 18
/-- of the drafts below n that f picks: the one with the latest day, of several the last -/
def bst (f : Nat → Bool) (dd : Nat → Nat) : Nat → Option Nat
  | 0 => none
  | n + 1 => if f n = true ∧ (∀ r, bst f dd n = some r → dd r ≤ dd n) then some n else bst f dd n
theorem bst_in {f : Nat → Bool} {dd : Nat → Nat} : ∀ (n k : Nat), bst f dd n = some k → k < n ∧ f k = true
  | 0, k, h => by cases h
  | n + 1, k, h => by
    rw [bst] at h
    by_cases c : f n = true ∧ (∀ r, bst f dd n = some r → dd r ≤ dd n)
    · rw [if_pos c] at h
      cases h
      exact ⟨Nat.lt_succ_self n, c.1⟩
    · rw [if_neg c] at h
      exact ⟨Nat.lt_succ_of_lt (bst_in n k h).1, (bst_in n k h).2⟩
theorem bst_skip {f : Nat → Bool} {dd : Nat → Nat} {n : Nat} (h : f n = false) : bst f dd (n + 1) = bst f dd n := by
  rw [bst, if_neg (fun c => by rw [h] at c; cases c.1)]
/-- one draft is put at its place -/
def phd (ho : Nat → Option Nat) (dp dd : Nat → Nat) (d : Nat) : Nat → Option Nat := if (∀ r, ho (dp d) = some r → dd r ≤ dd d) then va_up ho (dp d) (some d) else ho
theorem phd_none {ho : Nat → Option Nat} {dp dd : Nat → Nat} {d : Nat} (h : none = ho (dp d)) : phd ho dp dd d = va_up ho (dp d) (some d) := if_pos (fun r e => by rw [← h] at e; cases e)
theorem phd_ge {ho : Nat → Option Nat} {dp dd : Nat → Nat} {d q : Nat} (h : some q = ho (dp d)) (h2 : dd q ≤ dd d) : phd ho dp dd d = va_up ho (dp d) (some d) := if_pos (fun r e => by rw [← h] at e; cases e; exact h2)
theorem phd_lt {ho : Nat → Option Nat} {dp dd : Nat → Nat} {d q : Nat} (h : some q = ho (dp d)) (h2 : dd d < dd q) : phd ho dp dd d = ho := if_neg (fun e => Nat.not_le.mpr h2 (e q h.symm))
/-- the drafts that may hold at the place q -/
def drf (ds dd dp : Nat → Nat) (td q : Nat) : Nat → Bool := fun k => decide (ds k = 2) && (decide (dd k ≤ td) && decide (dp k = q))
/-- the holders, with the drafts below n settled -/
def stl (ho : Nat → Option Nat) (ds dd dp : Nat → Nat) (td n : Nat) : Nat → Option Nat := fun q => if q < 1536 then bst (drf ds dd dp td q) dd n else ho q
def cle (ho : Nat → Option Nat) (n : Nat) : Nat → Option Nat := fun q => if q < n then none else ho q
theorem cle_0 (ho : Nat → Option Nat) : cle ho 0 = ho := rfl
theorem cle_s (ho : Nat → Option Nat) (n : Nat) : cle ho (n + 1) = va_up (cle ho n) n none := by
  funext q
  unfold cle va_up
  by_cases h : q = n
  · rw [if_pos h, if_pos (by omega)]
  · rw [if_neg h]
    dsimp only
    by_cases h2 : q < n
    · rw [if_pos h2, if_pos (by omega)]
    · rw [if_neg h2, if_neg (by omega)]
theorem stl_HO {ho : Nat → Option Nat} {ds dd dp : Nat → Nat} {td n dc : Nat} (h : n ≤ dc) : HO (stl ho ds dd dp td n) dc := fun q hq k e => by
  unfold stl at e
  rw [if_pos hq] at e
  exact Nat.lt_of_lt_of_le (bst_in n k e).1 h
theorem stl_skip {ho : Nat → Option Nat} {ds dd dp : Nat → Nat} {td n : Nat} (h : ds n ≠ 2 ∨ td < dd n) : stl ho ds dd dp td (n + 1) = stl ho ds dd dp td n := by
  funext q
  unfold stl
  by_cases hq : q < 1536
  · rw [if_pos hq, if_pos hq, bst_skip]
    unfold drf
    rcases h with h | h
    · rw [decide_eq_false h]; rfl
    · rw [decide_eq_false (show ¬ dd n ≤ td by omega), Bool.false_and, Bool.and_false]
  · rw [if_neg hq, if_neg hq]
theorem stl_put {ho : Nat → Option Nat} {ds dd dp : Nat → Nat} {td n : Nat} (h1 : ds n = 2) (h2 : dd n ≤ td) (h3 : dp n < 1536) : stl ho ds dd dp td (n + 1) = phd (stl ho ds dd dp td n) dp dd n := by
  have hx : stl ho ds dd dp td n (dp n) = bst (drf ds dd dp td (dp n)) dd n := by unfold stl; rw [if_pos h3]
  have hy : drf ds dd dp td (dp n) n = true := by unfold drf; rw [decide_eq_true h1, decide_eq_true h2, decide_eq_true rfl]; rfl
  funext q
  unfold phd
  rw [hx]
  by_cases hq : q = dp n
  · subst hq
    show (if dp n < 1536 then bst (drf ds dd dp td (dp n)) dd (n + 1) else ho (dp n)) = _
    rw [if_pos h3, bst]
    by_cases c : (∀ r, bst (drf ds dd dp td (dp n)) dd n = some r → dd r ≤ dd n)
    · rw [if_pos ⟨hy, c⟩, if_pos c]
      unfold va_up
      rw [if_pos rfl]
    · rw [if_neg (fun z => c z.2), if_neg c, hx]
  · have h9 : drf ds dd dp td q n = false := by unfold drf; rw [decide_eq_false (show ¬ dp n = q from fun e => hq e.symm), Bool.and_false, Bool.and_false]
    have h8 : stl ho ds dd dp td (n + 1) q = stl ho ds dd dp td n q := by
      unfold stl
      by_cases hq2 : q < 1536
      · rw [if_pos hq2, if_pos hq2, bst_skip h9]
      · rw [if_neg hq2, if_neg hq2]
    rw [h8]
    by_cases c : (∀ r, bst (drf ds dd dp td (dp n)) dd n = some r → dd r ≤ dd n)
    · rw [if_pos c]
      unfold va_up
      rw [if_neg hq]
    · rw [if_neg c]
/-- the drafts of a good are deleted -/
def kil (ds dg : Nat → Nat) (g n : Nat) : Nat → Nat := fun k => if k < n ∧ dg k = g then 4 else ds k
theorem kil_0 (ds dg : Nat → Nat) (g : Nat) : kil ds dg g 0 = ds := by
  funext k
  unfold kil
  rw [if_neg (fun z => Nat.not_lt_zero k z.1)]
theorem kil_t {ds dg : Nat → Nat} {g n : Nat} (h : dg n = g) : kil ds dg g (n + 1) = va_up (kil ds dg g n) n 4 := by
  funext k
  unfold kil va_up
  by_cases e : k = n
  · rw [if_pos e, if_pos ⟨by omega, by rw [e]; exact h⟩]
  · rw [if_neg e]
    dsimp only
    by_cases c : k < n ∧ dg k = g
    · rw [if_pos c, if_pos ⟨by omega, c.2⟩]
    · rw [if_neg c, if_neg (fun z => c ⟨by omega, z.2⟩)]
theorem kil_f {ds dg : Nat → Nat} {g n : Nat} (h : dg n ≠ g) : kil ds dg g (n + 1) = kil ds dg g n := by
  funext k
  unfold kil
  by_cases c : k < n ∧ dg k = g
  · rw [if_pos c, if_pos ⟨by omega, c.2⟩]
  · rw [if_neg c, if_neg (fun z => c ⟨(Nat.lt_or_ge k n).elim id (fun h8 => absurd (show dg n = g by rw [show n = k by omega]; exact z.2) h), z.2⟩)]
/-- what a shop sees is kept -/
def rmb (se v : Nat → Option Nat) (b n : Nat) : Nat → Option Nat := fun k => if b ≤ k ∧ k < b + n then v (k - b) else se k
theorem rmb_0 (se v : Nat → Option Nat) (b : Nat) : rmb se v b 0 = se := by
  funext k
  unfold rmb
  rw [if_neg (by omega)]
theorem rmb_s (se v : Nat → Option Nat) (b n : Nat) : rmb se v b (n + 1) = va_up (rmb se v b n) (b + n) (v n) := by
  funext k
  unfold rmb va_up
  by_cases e : k = b + n
  · rw [if_pos e, if_pos ⟨by omega, by omega⟩, show k - b = n by omega]
  · rw [if_neg e]
    dsimp only
    by_cases c : b ≤ k ∧ k < b + n
    · rw [if_pos c, if_pos ⟨c.1, by omega⟩]
    · rw [if_neg c, if_neg (fun z => c ⟨z.1, by omega⟩)]
def sgt (ex : Nat → Bool) (pa ho dv : Nat → Option Nat) (sp g : Nat) : Nat → Option Nat := fun j => vlu ex pa ho dv (j / 3) (sp + 1) (j % 3 + 1) g
theorem wth_ex {ex : Nat → Bool} {pa : Nat → Option Nat} {t n k : Nat} (h : wth ex pa t n (some k) = true) : ex k = true := by
  cases n with
  | zero => cases h
  | succ m =>
    rw [wth_some rfl] at h
    cases e : ex k with
    | true => rfl
    | false => rw [e] at h; cases h
/-- the deepest level among those that f picks, b at least -/
def mxd (f : Nat → Bool) (lev : Nat → Nat) (b : Nat) : Nat → Nat
  | 0 => b
  | n + 1 => if f n = true then max (mxd f lev b n) (lev n) else mxd f lev b n
theorem mxd_t {f : Nat → Bool} {lev : Nat → Nat} {b n : Nat} (h : f n = true) : mxd f lev b (n + 1) = max (mxd f lev b n) (lev n) := by rw [mxd, if_pos h]
theorem mxd_f {f : Nat → Bool} {lev : Nat → Nat} {b n : Nat} (h : f n = false) : mxd f lev b (n + 1) = mxd f lev b n := by rw [mxd, if_neg (by rw [h]; decide)]
theorem zmax {a b : Nat} (ha : a ≤ 2) (hb : b ≤ 2) : (if zI ((a : Nat) : Int) < zI ((b : Nat) : Int) then zI ((b : Nat) : Int) else zI ((a : Nat) : Int)) = zI ((max a b : Nat) : Int) := by
  by_cases h : a < b
  · rw [if_pos ((zI_lt (by omega) (by omega)).mpr (by omega)), Nat.max_eq_right (by omega)]
  · rw [if_neg (fun e => h (by have := (zI_lt (by omega) (by omega)).mp e; omega)), Nat.max_eq_left (by omega)]
/-- prices of bundles -/
def vz (o : Option Nat) : Nat := match o with
  | none => 0
  | some v => v
def pos (qu : Nat → Nat) (g : Nat) : Nat → Bool := fun p => decide (0 < qu (g * 16 + p))
def nop (qu : Nat → Nat) (pr : Nat → Option Nat) (g : Nat) : Nat → Bool := fun p => decide (0 < qu (g * 16 + p)) && decide (pr p = none)
def psm (qu : Nat → Nat) (pr : Nat → Option Nat) (g : Nat) : Nat → Nat
  | 0 => 0
  | n + 1 => psm qu pr g n + vz (pr n) * qu (g * 16 + n)
def bnd (qu : Nat → Nat) (pr : Nat → Option Nat) (di : Nat → Nat) (g : Nat) : Option Nat :=
  if exU (nop qu pr g) g = true then none else if exU (pos qu g) g = true ∧ psm qu pr g g * (100 - di g) / 100 ≤ 1000000000 then some (psm qu pr g g * (100 - di g) / 100) else none
theorem psm_le {qu : Nat → Nat} {pr : Nat → Option Nat} {g : Nat} (hq : ∀ k, k < 256 → qu k ≤ 20) (hp : ∀ k, k < 16 → ∀ v, pr k = some v → v ≤ 1000000000) (hg : g < 16) : ∀ n, n ≤ 16 → psm qu pr g n ≤ n * 20000000000
  | 0, _ => Nat.le_of_eq rfl
  | n + 1, h => by
    have h1 := psm_le hq hp hg n (by omega)
    have h2 := hq (g * 16 + n) (by omega)
    have h3 : vz (pr n) ≤ 1000000000 := by
      cases e : pr n with
      | none => exact Nat.zero_le _
      | some v => exact hp n (by omega) v e
    have h4 : vz (pr n) * qu (g * 16 + n) ≤ 1000000000 * 20 := Nat.mul_le_mul h3 h2
    show psm qu pr g n + vz (pr n) * qu (g * 16 + n) ≤ (n + 1) * 20000000000
    omega
theorem psm_0 {qu : Nat → Nat} {pr : Nat → Option Nat} {g n : Nat} (h : qu (g * 16 + n) = 0) : psm qu pr g (n + 1) = psm qu pr g n := by
  show psm qu pr g n + vz (pr n) * qu (g * 16 + n) = psm qu pr g n
  rw [h, Nat.mul_zero, Nat.add_zero]
theorem psm_s {qu : Nat → Nat} {pr : Nat → Option Nat} {g n v : Nat} (h : pr n = some v) : psm qu pr g (n + 1) = psm qu pr g n + v * qu (g * 16 + n) := by
  show psm qu pr g n + vz (pr n) * qu (g * 16 + n) = psm qu pr g n + v * qu (g * 16 + n)
  rw [h]; rfl
theorem exU_s {f : Nat → Bool} {n : Nat} (h : f n = false) : exU f (n + 1) = exU f n := by rw [exU, h, Bool.or_false]
theorem exU_t {f : Nat → Bool} {n : Nat} (h : f n = true) : exU f (n + 1) = true := by rw [exU, h, Bool.or_true]
theorem dsc_le {x d : Nat} : x * (100 - d) / 100 ≤ x := by
  have h : x * (100 - d) ≤ x * 100 := Nat.mul_le_mul_left x (by omega)
  omega
theorem bnd_in {qu : Nat → Nat} {pr : Nat → Option Nat} {di : Nat → Nat} {g : Nat} : ∀ v, bnd qu pr di g = some v → v ≤ 1000000000 := by
  intro v e
  unfold bnd at e
  split at e
  · cases e
  · split at e
    · rename_i h
      cases e
      exact h.2
    · cases e
/-- the prices of the goods below n -/
def prs (vl : Nat → Option Nat) (qu di : Nat → Nat) (pr : Nat → Option Nat) : Nat → Nat → Option Nat
  | 0 => pr
  | n + 1 => va_up (prs vl qu di pr n) n (match vl n with | some v => some v | none => bnd qu (prs vl qu di pr n) di n)
theorem prs_v {vl : Nat → Option Nat} {qu di : Nat → Nat} {pr : Nat → Option Nat} {n : Nat} (h : vl n ≠ none) : prs vl qu di pr (n + 1) = va_up (prs vl qu di pr n) n (vl n) := by
  show va_up (prs vl qu di pr n) n (match vl n with | some v => some v | none => bnd qu (prs vl qu di pr n) di n) = _
  cases e : vl n with
  | none => exact absurd e h
  | some v => rfl
theorem prs_b {vl : Nat → Option Nat} {qu di : Nat → Nat} {pr : Nat → Option Nat} {n : Nat} (h : vl n = none) : prs vl qu di pr (n + 1) = va_up (prs vl qu di pr n) n (bnd qu (prs vl qu di pr n) di n) := by
  show va_up (prs vl qu di pr n) n (match vl n with | some v => some v | none => bnd qu (prs vl qu di pr n) di n) = _
  rw [h]
theorem prs_in {vl : Nat → Option Nat} {qu di : Nat → Nat} {pr : Nat → Option Nat} (hv : ∀ k, k < 16 → ∀ v, vl k = some v → v ≤ 100000) (hp : ∀ k, k < 16 → ∀ v, pr k = some v → v ≤ 1000000000) : ∀ n, n ≤ 16 → ∀ k, k < 16 → ∀ v, prs vl qu di pr n k = some v → v ≤ 1000000000
  | 0, _ => hp
  | n + 1, h => fun k hk v e => by
    have ih := prs_in hv hp (qu := qu) (di := di) n (by omega)
    by_cases c : vl n = none
    · rw [prs_b c] at e
      unfold va_up at e
      by_cases ek : k = n
      · rw [if_pos ek] at e; exact bnd_in v e
      · rw [if_neg ek] at e; exact ih k hk v e
    · rw [prs_v c] at e
      unfold va_up at e
      by_cases ek : k = n
      · rw [if_pos ek] at e
        exact Nat.le_trans (hv n (by omega) v e) (by decide)
      · rw [if_neg ek] at e; exact ih k hk v e
def sx (o : Option Nat) : Nat := match o with
  | none => 0
  | some k => k + 1
theorem mxd_le {f : Nat → Bool} {lev : Nat → Nat} {b : Nat} (hb : b ≤ 2) (h : ∀ k, k < 16 → f k = true → lev k ≤ 2) : ∀ n, n ≤ 16 → mxd f lev b n ≤ 2
  | 0, _ => hb
  | n + 1, hn => by
    have ih := mxd_le hb h n (by omega)
    by_cases c : f n = true
    · rw [mxd_t c]; exact Nat.max_le.mpr ⟨ih, h n (by omega) c⟩
    · rw [mxd, if_neg c]; exact ih
theorem mxd_ge {f : Nat → Bool} {lev : Nat → Nat} {b : Nat} : ∀ n, b ≤ mxd f lev b n
  | 0 => Nat.le_refl b
  | n + 1 => by
    have ih := @mxd_ge f lev b n
    by_cases c : f n = true
    · rw [mxd_t c]; exact Nat.le_trans ih (Nat.le_max_left _ _)
    · rw [mxd, if_neg c]; exact ih
def clr (qu : Nat → Nat) (b n : Nat) : Nat → Nat := fun k => if b ≤ k ∧ k < b + n then 0 else qu k
theorem clr_0 (qu : Nat → Nat) (b : Nat) : clr qu b 0 = qu := by
  funext k
  unfold clr
  rw [if_neg (by omega)]
theorem clr_s (qu : Nat → Nat) (b n : Nat) : clr qu b (n + 1) = va_up (clr qu b n) (b + n) 0 := by
  funext k
  unfold clr va_up
  by_cases e : k = b + n
  · rw [if_pos e, if_pos ⟨by omega, by omega⟩]
  · rw [if_neg e]
    dsimp only
    by_cases c : b ≤ k ∧ k < b + n
    · rw [if_pos c, if_pos ⟨c.1, by omega⟩]
    · rw [if_neg c, if_neg (fun z => c ⟨z.1, by omega⟩)]
theorem kil_le {ds dg : Nat → Nat} {g n dc : Nat} (h : ∀ k, k < dc → ds k ≤ 4) : ∀ k, k < dc → kil ds dg g n k ≤ 4 := fun k hk => by
  unfold kil
  by_cases c : k < n ∧ dg k = g
  · rw [if_pos c]; decide
  · rw [if_neg c]; exact h k hk
theorem up_le {ds : Nat → Nat} {d v dc : Nat} (hv : v ≤ 4) (h : ∀ k, k < dc → ds k ≤ 4) : ∀ k, k < dc → va_up ds d v k ≤ 4 := fun k hk => by
  unfold va_up
  by_cases c : k = d
  · rw [if_pos c]; exact hv
  · rw [if_neg c]; exact h k hk
theorem up_at {α : Type} (f : Nat → α) (k : Nat) (v : α) : va_up f k v k = v := if_pos rfl
theorem up_ne {α : Type} (f : Nat → α) {k j : Nat} (v : α) (h : j ≠ k) : va_up f k v j = f j := if_neg h
/-- how many below n -/
def cnt (f : Nat → Bool) : Nat → Nat
  | 0 => 0
  | n + 1 => if f n = true then cnt f n + 1 else cnt f n
theorem cnt_t {f : Nat → Bool} {n : Nat} (h : f n = true) : cnt f (n + 1) = cnt f n + 1 := by rw [cnt, if_pos h]
theorem cnt_f {f : Nat → Bool} {n : Nat} (h : f n = false) : cnt f (n + 1) = cnt f n := by rw [cnt, if_neg (by rw [h]; decide)]
theorem cnt_le (f : Nat → Bool) : ∀ n, cnt f n ≤ n
  | 0 => Nat.le_refl 0
  | n + 1 => by
    have ih := cnt_le f n
    rw [cnt]
    by_cases c : f n = true
    · rw [if_pos c]; omega
    · rw [if_neg c]; omega
/-- a good that is there and lacks nothing in a shop -/
def cpl (ex : Nat → Bool) (pa ho dv : Nat → Option Nat) (ak : Nat → Bool) (sp : Nat) : Nat → Bool := fun g => ex g && !exU (fun t => decide (bset (lck ex pa ho dv ak g sp t) 6 ≠ 0)) 3
/-- no such good; no such attribute, shop or tongue; no such draft -/
def gBad (ex : Nat → Bool) (g : Int32) : Prop := ∀ j, j < 16 → g = nI j → ex j = false
theorem gBad_c {ex : Nat → Bool} {g : Int32} (h : gBad ex g) : (g < 0 ∨ nI 16 ≤ g) ∨ ∃ j, j < 16 ∧ g = nI j ∧ ex j = false := by
  rcases pk_ix g (n := 16) (by decide) with h1 | h1 | ⟨j, h1, h2⟩
  · exact Or.inl (Or.inl h1)
  · exact Or.inl (Or.inr h1)
  · exact Or.inr ⟨j, h1, h2, h j h1 h2⟩
def aBad (n : Nat) (x : Int32) : Prop := x < 0 ∨ nI n ≤ x
def dBad (dc : Nat) (ds : Nat → Nat) (d : Int32) : Prop := d < 0 ∨ nI dc ≤ d ∨ ∃ j, j < dc ∧ d = nI j ∧ ds j = 4
theorem nI_any {x : Int32} (h : ¬ x < 0) : ∃ j : Nat, j < 2147483648 ∧ x = nI j := nI_of h
/-! the reference -/
def isin (v a b : Int32) : Bool := decide (a ≤ v) && decide (v ≤ b)
theorem isin_lo {v a b : Int32} (h : v < a) : isin v a b = false := by
  unfold isin
  rw [decide_eq_false (Int32.not_le.mpr h), Bool.false_and]
theorem isin_hi {v a b : Int32} (h : b < v) : isin v a b = false := by
  unfold isin
  rw [decide_eq_false (Int32.not_le.mpr h), Bool.and_false]
theorem isin_in {v a b : Int32} (h1 : ¬ v < a) (h2 : ¬ b < v) : isin v a b = true := by
  unfold isin
  rw [decide_eq_true (Int32.not_lt.mp h1), decide_eq_true (Int32.not_lt.mp h2)]; rfl
theorem isin_N {j n : Nat} (hj : j < 2147483648) (hn : n < 2147483648) : isin (nI j) (nI 0) (nI n) = decide (j ≤ n) := by
  unfold isin
  rw [decide_eq_true ((nI_leI (by decide) hj).mpr (Nat.zero_le j)), Bool.true_and]
  by_cases h : j ≤ n
  · rw [decide_eq_true h, decide_eq_true ((nI_leI hj hn).mpr h)]
  · rw [decide_eq_false h, decide_eq_false (fun e => h ((nI_leI hj hn).mp e))]
theorem isin_gd {j n : Nat} (hj : j < 2147483648) (hn : n ≤ 200) : isin (nI j) (nI 0) (zI (((n : Nat) : Int) - ((1 : Nat) : Int))) = decide (j < n) := by
  unfold isin
  rw [decide_eq_true ((nI_leI (by decide) hj).mpr (Nat.zero_le j)), Bool.true_and, nz j]
  by_cases h : j < n
  · rw [decide_eq_true h, decide_eq_true ((zI_le (by omega) (by omega)).mpr (by omega))]
  · rw [decide_eq_false h, decide_eq_false (fun e => h (by have := (zI_le (by omega) (by omega)).mp e; omega))]
theorem isin_bd {g : Int32} {n m : Nat} (hm : m ≤ 200) (hn : n ≤ m) (h : g < 0 ∨ nI m ≤ g) : isin g (nI 0) (zI (((n : Nat) : Int) - ((1 : Nat) : Int))) = false := by
  rcases h with h | h
  · exact isin_lo h
  · refine isin_hi ?_
    refine Int32.lt_of_lt_of_le ?_ h
    rw [nz m]
    exact (zI_lt (by omega) (by omega)).mpr (by omega)
theorem isin_ab {x : Int32} {n m : Nat} (hm : m ≤ 200) (hn : n + 1 = m) (h : aBad m x) : isin x (nI 0) (nI n) = false := by
  rcases h with h | h
  · exact isin_lo h
  · exact isin_hi (Int32.lt_of_lt_of_le ((nI_ltI (by omega) (by omega)).mpr (by omega)) h)
def rdf (dg da : Nat → Nat) (dh dt : Nat → Option Nat) (ds dd : Nat → Nat) (td g a : Nat) (x y : Option Nat) : Nat → Bool := fun k =>
  decide (dg k = g) && (decide (da k = a) && (decide (dh k = x) && (decide (dt k = y) && (decide (ds k = 1) && decide (dd k ≤ td)))))
theorem bst_new {f : Nat → Bool} {dd : Nat → Nat} {n : Nat} (hf : f n = true) (h : ∀ r, bst f dd n = some r → dd r ≤ dd n) : bst f dd (n + 1) = some n := by rw [bst, if_pos ⟨hf, h⟩]
theorem bst_keep {f : Nat → Bool} {dd : Nat → Nat} {n r : Nat} (h : bst f dd n = some r) (h2 : dd n < dd r) : bst f dd (n + 1) = bst f dd n := by
  rw [bst, if_neg (fun z => Nat.not_le.mpr h2 (z.2 r h))]
/-- what holds at a place of a good that is there -/
def RH (ex : Nat → Bool) (ho : Nat → Option Nat) (dc : Nat) (dg da : Nat → Nat) (dh dt : Nat → Option Nat) (dd ds : Nat → Nat) (td : Nat) : Prop :=
  ∀ g a x y, g < 16 → ex g = true → a < 6 → (∀ k, x = some k → k < 3) → (∀ k, y = some k → k < 3) → bst (rdf dg da dh dt ds dd td g a x y) dd dc = ho (plc g a (sx x) (sx y))
/-- the reference's rows of drafts: what they may hold -/
def RD (dc : Nat) (dg da : Nat → Nat) (dh dt : Nat → Option Nat) (dd ds : Nat → Nat) (td : Nat) : Prop :=
  dc ≤ 200 ∧ td < 2147483648 ∧ (∀ k, k < dc → dg k < 16) ∧ (∀ k, k < dc → da k < 6) ∧ (∀ k, k < dc → ∀ v, dh k = some v → v < 3) ∧ (∀ k, k < dc → ∀ v, dt k = some v → v < 3) ∧ (∀ k, k < dc → dd k ≤ 1000) ∧ (∀ k, k < dc → ds k ≤ 2)
theorem vlu_dead {ex : Nat → Bool} {pa ho dv : Nat → Option Nat} {a sh to g : Nat} (h : ex g = false) : vlu ex pa ho dv a sh to g = none := by
  refine vlu_none ?_
  rw [org_some rfl, if_neg (by rw [h]; decide)]
theorem own_1 {ho : Nat → Option Nat} {q a sh to : Nat} (h : ho (plc q a sh to) ≠ none) : own ho q a sh to = ho (plc q a sh to) := orE_l h
theorem own_2 {ho : Nat → Option Nat} {q a sh to : Nat} (h : ho (plc q a sh to) = none) (h2 : ho (plc q a sh 0) ≠ none) : own ho q a sh to = ho (plc q a sh 0) := by unfold own; rw [orE_r h, orE_l h2]
theorem own_3 {ho : Nat → Option Nat} {q a sh to : Nat} (h : ho (plc q a sh to) = none) (h2 : ho (plc q a sh 0) = none) (h3 : ho (plc q a 0 to) ≠ none) : own ho q a sh to = ho (plc q a 0 to) := by unfold own; rw [orE_r h, orE_r h2, orE_l h3]
theorem own_4 {ho : Nat → Option Nat} {q a sh to : Nat} (h : ho (plc q a sh to) = none) (h2 : ho (plc q a sh 0) = none) (h3 : ho (plc q a 0 to) = none) : own ho q a sh to = ho (plc q a 0 0) := by unfold own; rw [orE_r h, orE_r h2, orE_r h3]
theorem or_twice (b c : Nat) : (b ||| c) ||| c = b ||| c := by rw [Nat.or_assoc, Nat.or_self]
