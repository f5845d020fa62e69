/-! the reference's calls that are refused -/
def dBadM (dc : Nat) (ex : Nat → Bool) (dg : Nat → Nat) (d : Int32) : Prop := (d < 0 ∨ nI dc ≤ d) ∨ ∃ j, j < dc ∧ d = nI j ∧ ex (dg j) = false
/-- goods that bar a move -/
def bdf (ex : Nat → Bool) (pa : Nat → Option Nat) (lev : Nat → Nat) (g top : Nat) : Nat → Bool := fun k => ex k && (wth ex pa g 3 (some k) && decide (3 + lev g ≤ lev k + top))
/-- goods that bar a deletion -/
def bdd (ex : Nat → Bool) (pa : Nat → Option Nat) (qu : Nat → Nat) (g : Nat) : Nat → Bool := fun k => ex k && (decide (pa k = some g) || decide (0 < qu (k * 16 + g)))
theorem not_s {f : Nat → Bool} {n : Nat} (h : f n = false) : (!exU f (n + 1)) = !exU f n := by rw [exU_s h]
theorem not_t {f : Nat → Bool} {n : Nat} (h : f n = true) : (!exU f (n + 1)) = false := by rw [exU_t h]; rfl
theorem isin_R {v a b : Int32} (h1 : ¬ v < a) (h2 : ¬ b < v) : isin v a b = true := isin_in h1 h2
theorem isin_w {w a b : Nat} (hw : w < 2147483648) (ha : a < 2147483648) (hb : b < 2147483648) : isin (nI w) (nI a) (nI b) = (decide (a ≤ w) && decide (w ≤ b)) := by
  unfold isin
  by_cases h1 : a ≤ w
  · rw [decide_eq_true h1, decide_eq_true ((nI_leI ha hw).mpr h1)]
    by_cases h2 : w ≤ b
    · rw [decide_eq_true h2, decide_eq_true ((nI_leI hw hb).mpr h2)]
    · rw [decide_eq_false h2, decide_eq_false (fun e => h2 ((nI_leI hw hb).mp e))]
  · rw [decide_eq_false h1, decide_eq_false (fun e => h1 ((nI_leI ha hw).mp e)), Bool.false_and, Bool.false_and]
theorem isin_o {o : Option Nat} {m : Nat} (hm : m < 2147483648) (h : ∀ k, o = some k → k ≤ m) : isin (oI o) (oI none) (nI m) = true := by
  cases o with
  | none =>
    refine isin_in (fun e => Int32.lt_irrefl e) ?_
    rw [show oI none = zI (-1) from zm1, nz m]
    exact fun e => by have := (zI_lt (by omega) (by omega)).mp e; omega
  | some k =>
    have hk := h k rfl
    rw [show oI (some k) = nI k from rfl]
    refine isin_in ?_ (fun e => by have := (nI_ltI hm (by omega)).mp e; omega)
    rw [show oI none = zI (-1) from zm1, nz k]
    exact fun e => by have := (zI_lt (by omega) (by omega)).mp e; omega
theorem isin_ob {x : Int32} {n m : Nat} (hm : m ≤ 200) (hn : n + 1 = m) (h : aBad m x) (hne : x ≠ -1) : isin x (oI none) (nI n) = false := by
  rcases h with h | h
  · refine isin_lo ?_
    have h1 : x.toInt < 0 := by have := Int32.lt_iff_toInt_lt.mp h; exact this
    have h2 : x.toInt ≠ -1 := fun e => hne (Int32.toInt_inj.mp (by rw [e]; decide))
    have h3 : (oI none).toInt = -1 := by decide
    exact Int32.lt_iff_toInt_lt.mpr (by omega)
  · exact isin_hi (Int32.lt_of_lt_of_le ((nI_ltI (by omega) (by omega)).mpr (by omega)) h)
theorem isin_vb {x : Int32} {n : Nat} (hne : x ≠ -1) (h : x < 0 ∨ nI n < x) : isin x (oI none) (nI n) = false := by
  rcases h with h | h
  · refine isin_lo ?_
    have h1 : x.toInt < 0 := by have := Int32.lt_iff_toInt_lt.mp h; exact this
    have h2 : x.toInt ≠ -1 := fun e => hne (Int32.toInt_inj.mp (by rw [e]; decide))
    have h3 : (oI none).toInt = -1 := by decide
    exact Int32.lt_iff_toInt_lt.mpr (by omega)
  · exact isin_hi h
theorem isin_wb {x a b : Int32} (h : x < a ∨ b < x) : isin x a b = false := h.elim isin_lo isin_hi
