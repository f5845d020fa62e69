/-! the two pictures: the cells of a hub, and of the reference -/
def hW (h : Nat) (ad : Nat → Nat) (cI cZ : ClassId) (ex : Nat → Bool) (pa : Nat → Option Nat) (di qu : Nat → Nat) (gc : Nat) (dg dp : Nat → Nat) (dv : Nat → Option Nat) (dd ds : Nat → Nat) (dc td : Nat) (ho : Nat → Option Nat) (ak : Nat → Bool) (se pr : Nat → Option Nat) : va_W :=
  [(h, .inr (0, [.ref (ad 0), .ref (ad 1), .ref (ad 2), .ref (ad 3), .int (nI gc), .ref (ad 5), .ref (ad 6), .ref (ad 7), .ref (ad 8), .ref (ad 9), .int (nI dc), .int (nI td), .ref (ad 12), .ref (ad 13), .ref (ad 14), .ref (ad 15)])),
   (ad 0, .inl (cZ, 16, .inl (fun j => bI (ex j)))),
   (ad 1, .inl (cI, 16, .inl (fun j => oI (pa j)))),
   (ad 2, .inl (cI, 16, .inl (fun j => nI (di j)))),
   (ad 3, .inl (cI, 256, .inl (fun j => nI (qu j)))),
   (ad 5, .inl (cI, 200, .inl (fun j => nI (dg j)))),
   (ad 6, .inl (cI, 200, .inl (fun j => nI (dp j)))),
   (ad 7, .inl (cI, 200, .inl (fun j => oI (dv j)))),
   (ad 8, .inl (cI, 200, .inl (fun j => nI (dd j)))),
   (ad 9, .inl (cI, 200, .inl (fun j => nI (ds j)))),
   (ad 12, .inl (cI, 1536, .inl (fun j => oI (ho j)))),
   (ad 13, .inl (cZ, 18, .inl (fun j => bI (ak j)))),
   (ad 14, .inl (cI, 864, .inl (fun j => oI (se j)))),
   (ad 15, .inl (cI, 16, .inl (fun j => oI (pr j))))]
abbrev hT (cI cZ : ClassId) : List (ClassId × FieldType) := [(cZ, .boolean), (cI, .int)]
def mW (h : Nat) (ad : Nat → Nat) (cI cJ cZ : ClassId) (td gc : Nat) (ex : Nat → Bool) (pa : Nat → Option Nat) (di qu : Nat → Nat) (dc : Nat) (dg da : Nat → Nat) (dh dt dv : Nat → Option Nat) (dd ds : Nat → Nat) (ak : Nat → Bool) (se pr : Nat → Option Nat) (th : Nat) : va_W :=
  [(h, .inr (1, [.int (nI td), .int (nI gc), .ref (ad 2), .ref (ad 3), .ref (ad 4), .ref (ad 5), .int (nI dc), .ref (ad 7), .ref (ad 8), .ref (ad 9), .ref (ad 10), .ref (ad 11), .ref (ad 12), .ref (ad 13), .ref (ad 14), .ref (ad 15), .ref (ad 16), .int (nI th)])),
   (ad 2, .inl (cZ, 16, .inl (fun j => bI (ex j)))),
   (ad 3, .inl (cI, 16, .inl (fun j => oI (pa j)))),
   (ad 4, .inl (cI, 16, .inl (fun j => nI (di j)))),
   (ad 5, .inl (cI, 256, .inl (fun j => nI (qu j)))),
   (ad 7, .inl (cI, 200, .inl (fun j => nI (dg j)))),
   (ad 8, .inl (cI, 200, .inl (fun j => nI (da j)))),
   (ad 9, .inl (cI, 200, .inl (fun j => oI (dh j)))),
   (ad 10, .inl (cI, 200, .inl (fun j => oI (dt j)))),
   (ad 11, .inl (cI, 200, .inl (fun j => oI (dv j)))),
   (ad 12, .inl (cI, 200, .inl (fun j => nI (dd j)))),
   (ad 13, .inl (cI, 200, .inl (fun j => nI (ds j)))),
   (ad 14, .inl (cZ, 18, .inl (fun j => bI (ak j)))),
   (ad 15, .inl (cI, 864, .inl (fun j => oI (se j)))),
   (ad 16, .inl (cJ, 16, .inr (.inl (fun j => oL (pr j)))))]
abbrev mT (cI cJ cZ : ClassId) : List (ClassId × FieldType) := [(cZ, .boolean), (cI, .int), (cJ, .long)]
/-- the forest: each good that is there has its level (ghost) and its parent; the others have none -/
def TI (ex : Nat → Bool) (pa : Nat → Option Nat) (lev : Nat → Nat) : Prop :=
  ∀ g, g < 16 → ex g = true → lev g ≤ 2 ∧ ((pa g = none ∧ lev g = 0) ∨ ∃ p, p < 16 ∧ ex p = true ∧ pa g = some p ∧ lev g = lev p + 1)
theorem TI_some {ex : Nat → Bool} {pa : Nat → Option Nat} {lev : Nat → Nat} (h : TI ex pa lev) {g p : Nat} (hg : g < 16) (he : ex g = true) (hp : pa g = some p) : p < 16 ∧ ex p = true ∧ lev g = lev p + 1 := by
  obtain ⟨-, ⟨h1, -⟩ | ⟨q, h1, h2, h3, h4⟩⟩ := h g hg he
  · rw [h1] at hp; cases hp
  · rw [h3] at hp
    cases hp
    exact ⟨h1, h2, h4⟩
theorem TI_none {ex : Nat → Bool} {pa : Nat → Option Nat} {lev : Nat → Nat} (h : TI ex pa lev) {g : Nat} (hg : g < 16) (he : ex g = true) (hp : pa g = none) : lev g = 0 := by
  obtain ⟨-, ⟨-, h1⟩ | ⟨q, h1, h2, h3, h4⟩⟩ := h g hg he
  · exact h1
  · rw [h3] at hp; cases hp
theorem TI_le {ex : Nat → Bool} {pa : Nat → Option Nat} {lev : Nat → Nat} (h : TI ex pa lev) {g : Nat} (hg : g < 16) (he : ex g = true) : lev g ≤ 2 := (h g hg he).1
/-- a parent or none: what it may be -/
def okO (ex : Nat → Bool) (o : Option Nat) : Prop := ∀ k, o = some k → k < 16 ∧ ex k = true
theorem TI_ok {ex : Nat → Bool} {pa : Nat → Option Nat} {lev : Nat → Nat} (h : TI ex pa lev) {g : Nat} (hg : g < 16) (he : ex g = true) : okO ex (pa g) := fun _ hk => ⟨(TI_some h hg he hk).1, (TI_some h hg he hk).2.1⟩
/-- the level of a good, -1 for none -/
def lvZ (lev : Nat → Nat) (o : Option Nat) : Int := match o with
  | none => -1
  | some g => (lev g : Int)
/-- t is k, or above it, within n steps -/
def bel (pa : Nat → Option Nat) (t : Nat) : Nat → Option Nat → Bool
  | 0, _ => false
  | _ + 1, none => false
  | n + 1, some k => (k == t) || bel pa t n (pa k)
/-- some number below n -/
def exU (f : Nat → Bool) : Nat → Bool
  | 0 => false
  | n + 1 => exU f n || f n
theorem exU_no {f : Nat → Bool} : ∀ {n : Nat}, exU f n = false ↔ ∀ k, k < n → f k = false
  | 0 => ⟨fun _ k hk => absurd hk (Nat.not_lt_zero k), fun _ => rfl⟩
  | n + 1 => by
    rw [exU, Bool.or_eq_false_iff, exU_no (n := n)]
    constructor
    · intro h k hk
      rcases Nat.lt_or_ge k n with q | q
      · exact h.1 k q
      · have e : k = n := by omega
        rw [e]; exact h.2
    · intro h
      exact ⟨fun k hk => h k (by omega), h n (by omega)⟩
theorem exU_yes {f : Nat → Bool} {n k : Nat} (hk : k < n) (h : f k = true) : exU f n = true := by
  cases e : exU f n with
  | true => rfl
  | false => rw [exU_no.mp e k hk] at h; cases h
/-- the place of a draft: shop and tongue count from 1, 0 is all -/
def plc (g a sh to : Nat) : Nat := (g * 6 + a) * 16 + (sh * 4 + to)
theorem lvZ_ge (lev : Nat → Nat) (o : Option Nat) : -1 ≤ lvZ lev o := by
  cases o with
  | none => exact Int.le_refl _
  | some g => show (-1 : Int) ≤ (lev g : Int); omega
theorem lvZ_le {ex : Nat → Bool} {pa : Nat → Option Nat} {lev : Nat → Nat} (h : TI ex pa lev) {o : Option Nat} (ho : okO ex o) : lvZ lev o ≤ 2 := by
  cases o with
  | none => show (-1 : Int) ≤ 2; omega
  | some g =>
    have h1 := TI_le h (ho g rfl).1 (ho g rfl).2
    show (lev g : Int) ≤ 2
    omega
theorem lvZ_pa {ex : Nat → Bool} {pa : Nat → Option Nat} {lev : Nat → Nat} (h : TI ex pa lev) {g : Nat} (hg : g < 16) (he : ex g = true) : lvZ lev (pa g) = (lev g : Int) - 1 := by
  cases hp : pa g with
  | none =>
    have h1 := TI_none h hg he hp
    show (-1 : Int) = (lev g : Int) - 1
    omega
  | some q =>
    have h1 := (TI_some h hg he hp).2.2
    show (lev q : Int) = (lev g : Int) - 1
    omega
/-- each parent is a number below 16 -/
def PR (pa : Nat → Option Nat) : Prop := ∀ g, g < 16 → ∀ k, pa g = some k → k < 16
/-- as bel, over goods that are there -/
def wth (ex : Nat → Bool) (pa : Nat → Option Nat) (t : Nat) : Nat → Option Nat → Bool
  | 0, _ => false
  | _ + 1, none => false
  | n + 1, some k => ex k && ((k == t) || wth ex pa t n (pa k))
theorem wth_some {ex : Nat → Bool} {pa : Nat → Option Nat} {t n m k : Nat} (h : n = m + 1) : wth ex pa t n (some k) = (ex k && ((k == t) || wth ex pa t m (pa k))) := by subst h; rfl
theorem wth_none {ex : Nat → Bool} {pa : Nat → Option Nat} {t n : Nat} : wth ex pa t n none = false := by cases n <;> rfl
theorem retT {b : Bool} (h : b = true) : nI 1 = bI b := by rw [h]; decide
theorem retF {b : Bool} (h : b = false) : nI 0 = bI b := by rw [h]; decide
/-- the first of two that is one -/
def orE : Option Nat → Option Nat → Option Nat
  | some x, _ => some x
  | none, y => y
theorem orE_l {x y : Option Nat} (h : x ≠ none) : orE x y = x := by
  cases x with
  | none => exact absurd rfl h
  | some k => rfl
theorem orE_r {x y : Option Nat} (h : x = none) : orE x y = y := by subst h; rfl
theorem orE_in {x y : Option Nat} {P : Nat → Prop} (hx : ∀ k, x = some k → P k) (hy : ∀ k, y = some k → P k) : ∀ k, orE x y = some k → P k := by
  intro k h
  cases x with
  | none => exact hy k h
  | some j => exact hx k h
/-- the draft that decides among a good's own places -/
def own (ho : Nat → Option Nat) (g a sh to : Nat) : Option Nat := orE (ho (plc g a sh to)) (orE (ho (plc g a sh 0)) (orE (ho (plc g a 0 to)) (ho (plc g a 0 0))))
theorem plc_lt {g a sh to : Nat} (hg : g < 16) (ha : a < 6) (hs : sh < 4) (ht : to < 4) : plc g a sh to < 1536 := by unfold plc; omega
/-- each holder is a draft that has been entered -/
def HO (ho : Nat → Option Nat) (dc : Nat) : Prop := ∀ q, q < 1536 → ∀ k, ho q = some k → k < dc
theorem own_in {ho : Nat → Option Nat} {dc g a sh to : Nat} (h : HO ho dc) (hg : g < 16) (ha : a < 6) (hs : sh < 4) (ht : to < 4) : ∀ k, own ho g a sh to = some k → k < dc :=
  orE_in (h _ (plc_lt hg ha hs ht)) (orE_in (h _ (plc_lt hg ha hs (by omega))) (orE_in (h _ (plc_lt hg ha (by omega) ht)) (h _ (plc_lt hg ha (by omega) (by omega)))))
/-- the draft that decides, in the good and above it -/
def org (ex : Nat → Bool) (pa ho : Nat → Option Nat) (a sh to : Nat) : Nat → Option Nat → Option Nat
  | 0, _ => none
  | _ + 1, none => none
  | n + 1, some k => if ex k = true then orE (own ho k a sh to) (org ex pa ho a sh to n (pa k)) else none
theorem org_some {ex : Nat → Bool} {pa ho : Nat → Option Nat} {a sh to n m k : Nat} (h : n = m + 1) : org ex pa ho a sh to n (some k) = if ex k = true then orE (own ho k a sh to) (org ex pa ho a sh to m (pa k)) else none := by subst h; rfl
theorem org_none {ex : Nat → Bool} {pa ho : Nat → Option Nat} {a sh to n : Nat} : org ex pa ho a sh to n none = none := by cases n <;> rfl
theorem org_in {ex : Nat → Bool} {pa ho : Nat → Option Nat} {dc a sh to : Nat} (h : HO ho dc) (hp : PR pa) (ha : a < 6) (hs : sh < 4) (ht : to < 4) : ∀ (n : Nat) (o : Option Nat), (∀ k, o = some k → k < 16) → ∀ k, org ex pa ho a sh to n o = some k → k < dc
  | 0, _, _, k, e => by cases e
  | _ + 1, none, _, k, e => by cases e
  | n + 1, some q, hq, k, e => by
    rw [org_some rfl] at e
    by_cases c : ex q = true
    · rw [if_pos c] at e
      exact orE_in (own_in h (hq q rfl) ha hs ht) (org_in h hp ha hs ht n (pa q) (hp q (hq q rfl))) k e
    · rw [if_neg c] at e; cases e
/-- the value that a good has -/
def vlu (ex : Nat → Bool) (pa ho dv : Nat → Option Nat) (a sh to g : Nat) : Option Nat := match org ex pa ho a sh to 3 (some g) with
  | none => none
  | some k => dv k
theorem vlu_none {ex : Nat → Bool} {pa ho dv : Nat → Option Nat} {a sh to g : Nat} (h : none = org ex pa ho a sh to 3 (some g)) : vlu ex pa ho dv a sh to g = none := by unfold vlu; rw [← h]
theorem vlu_some {ex : Nat → Bool} {pa ho dv : Nat → Option Nat} {a sh to g k : Nat} (h : some k = org ex pa ho a sh to 3 (some g)) : vlu ex pa ho dv a sh to g = dv k := by unfold vlu; rw [← h]
/-- the values that drafts tell are at most 100000 -/
def DV (dv : Nat → Option Nat) (dc : Nat) : Prop := ∀ k, k < dc → ∀ v, dv k = some v → v ≤ 100000
theorem vlu_in {ex : Nat → Bool} {pa ho dv : Nat → Option Nat} {dc a sh to g : Nat} (h : HO ho dc) (hp : PR pa) (hv : DV dv dc) (hg : g < 16) (ha : a < 6) (hs : sh < 4) (ht : to < 4) : ∀ v, vlu ex pa ho dv a sh to g = some v → v ≤ 100000 := by
  intro v e
  cases ho2 : org ex pa ho a sh to 3 (some g) with
  | none => rw [vlu_none ho2.symm] at e; cases e
  | some k =>
    rw [vlu_some ho2.symm] at e
    exact hv k (org_in h hp ha hs ht 3 (some g) (fun k hk => by cases hk; exact hg) k ho2) v e
/-- a set of numbers below n, as bits -/
def bset (f : Nat → Bool) : Nat → Nat
  | 0 => 0
  | n + 1 => if f n = true then bset f n ||| 2 ^ n else bset f n
theorem bset_t {f : Nat → Bool} {n : Nat} (h : f n = true) : bset f (n + 1) = bset f n ||| 2 ^ n := by rw [bset, if_pos h]
theorem bset_f {f : Nat → Bool} {n : Nat} (h : f n = false) : bset f (n + 1) = bset f n := by rw [bset, if_neg (by rw [h]; decide)]
theorem bset_lt (f : Nat → Bool) : ∀ n, bset f n < 2 ^ n
  | 0 => Nat.zero_lt_one
  | n + 1 => by
    have h := bset_lt f n
    rw [bset]
    by_cases c : f n = true
    · rw [if_pos c]
      exact Nat.or_lt_two_pow (Nat.lt_trans h (Nat.pow_lt_pow_right (by decide) (Nat.lt_succ_self n))) (Nat.pow_lt_pow_right (by decide) (Nat.lt_succ_self n))
    · rw [if_neg c]
      exact Nat.lt_trans h (Nat.pow_lt_pow_right (by decide) (Nat.lt_succ_self n))
theorem bset_lt' (f : Nat → Bool) {n m : Nat} (h : n ≤ m) : bset f n < 2 ^ m := Nat.lt_of_lt_of_le (bset_lt f n) (Nat.pow_le_pow_right (by decide) h)
theorem bset_ex {f : Nat → Bool} : ∀ {n : Nat}, bset f n = 0 ↔ exU f n = false
  | 0 => ⟨fun _ => rfl, fun _ => rfl⟩
  | n + 1 => by
    rw [bset, exU, Bool.or_eq_false_iff, ← bset_ex (n := n)]
    by_cases c : f n = true
    · rw [if_pos c, c]
      constructor
      · intro h
        have h1 : 2 ^ n ≤ bset f n ||| 2 ^ n := Nat.right_le_or
        have h2 : 0 < 2 ^ n := Nat.two_pow_pos n
        omega
      · intro h; cases h.2
    · rw [if_neg c]
      exact ⟨fun h => ⟨h, by cases h9 : f n with | false => rfl | true => exact absurd h9 c⟩, fun h => h.1⟩
theorem nI_or (a b : Nat) : nI a ||| nI b = nI (a ||| b) := by
  apply Int32.toBitVec_inj.1
  show BitVec.ofNat 32 a ||| BitVec.ofNat 32 b = BitVec.ofNat 32 (a ||| b)
  apply BitVec.eq_of_getLsbD_eq
  intro i hi
  simp [hi]
theorem shl1 : ∀ i, i < 16 → nI 1 <<< (nI i &&& 31) = nI (2 ^ i) := by decide
/-- what a shop lacks of a good -/
def lck (ex : Nat → Bool) (pa ho dv : Nat → Option Nat) (ak : Nat → Bool) (g sh to : Nat) : Nat → Bool := fun a => ak (sh * 6 + a) && decide (vlu ex pa ho dv a (sh + 1) (to + 1) g = none)
/-- what a shop has seen of a good is something else now -/
def lkj (ex : Nat → Bool) (pa ho dv se : Nat → Option Nat) (sp g : Nat) : Nat → Bool := fun j => decide (se (sp * 288 + g * 18 + j) ≠ vlu ex pa ho dv (j / 3) (sp + 1) (j % 3 + 1) g)
def lkd (ex : Nat → Bool) (pa ho dv se : Nat → Option Nat) (sp : Nat) : Nat → Bool := fun g => exU (lkj ex pa ho dv se sp g) 18
