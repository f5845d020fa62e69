/-- the bits of a number below 2^n, counted -/
def pcn (b : Nat) : Nat → Nat
  | 0 => 0
  | n + 1 => pcn b n + b / 2 ^ n % 2
theorem pcn_le (b : Nat) : ∀ n, pcn b n ≤ n
  | 0 => Nat.le_refl 0
  | n + 1 => by
    have h1 := pcn_le b n
    show pcn b n + b / 2 ^ n % 2 ≤ n + 1
    omega
def bc1 (b : Nat) : Nat := b - (b / 2 ^ 1 &&& 1431655765)
def bc2 (x : Nat) : Nat := (x &&& 858993459) + (x / 2 ^ 2 &&& 858993459)
def bc3 (x : Nat) : Nat := (x + x / 2 ^ 4) &&& 252645135
def bc4 (x : Nat) : Nat := x + x / 2 ^ 8
def bc5 (x : Nat) : Nat := x + x / 2 ^ 16
def bc6 (b : Nat) : Nat := bc5 (bc4 (bc3 (bc2 (bc1 b)))) &&& 63
def bcC : Nat → Nat → Bool
  | 0, lo => Nat.beq (bc6 lo) (pcn lo 16)
  | k + 1, lo => bcC k lo && bcC k (lo + 2 ^ k)
theorem bcC_s : ∀ (k lo : Nat), bcC k lo = true → ∀ b, lo ≤ b → b < lo + 2 ^ k → bc6 b = pcn b 16
  | 0, lo, h, b, h1, h2 => by
    have e : b = lo := by omega
    rw [e]
    exact Nat.eq_of_beq_eq_true h
  | k + 1, lo, h, b, h1, h2 => by
    have h3 := Bool.and_eq_true_iff.mp (show (bcC k lo && bcC k (lo + 2 ^ k)) = true from h)
    rcases Nat.lt_or_ge b (lo + 2 ^ k) with c | c
    · exact bcC_s k lo h3.1 b h1 c
    · exact bcC_s k (lo + 2 ^ k) h3.2 b c (by have : 2 ^ (k + 1) = 2 ^ k + 2 ^ k := by rw [Nat.pow_succ]; omega
                                              omega)
set_option maxRecDepth 100000 in
theorem bc_all : bcC 16 0 = true := sorry
theorem bc_ok {b : Nat} (h : b < 65536) : bc6 b = pcn b 16 := bcC_s 16 0 bc_all b (Nat.zero_le b) (by show b < 0 + 65536; omega)
theorem nI_and (a b : Nat) : nI a &&& nI b = nI (a &&& b) := by
  apply Int32.toBitVec_inj.1
  show BitVec.ofNat 32 a &&& BitVec.ofNat 32 b = BitVec.ofNat 32 (a &&& b)
  apply BitVec.eq_of_getLsbD_eq
  intro i hi
  simp [hi]
theorem bc1_le (b : Nat) : bc1 b ≤ b := Nat.sub_le _ _
theorem bc1_h (b : Nat) : (b / 2 ^ 1 &&& 1431655765) ≤ b := Nat.le_trans Nat.and_le_left (Nat.div_le_self _ _)
theorem bc2_le (x : Nat) : bc2 x ≤ x + x := Nat.add_le_add Nat.and_le_left (Nat.le_trans Nat.and_le_left (Nat.div_le_self _ _))
theorem bc3_le (x : Nat) : bc3 x ≤ x + x := Nat.le_trans Nat.and_le_left (Nat.add_le_add (Nat.le_refl x) (Nat.div_le_self _ _))
theorem bc4_le (x : Nat) : bc4 x ≤ x + x := Nat.add_le_add (Nat.le_refl x) (Nat.div_le_self _ _)
theorem shr_k {b k : Nat} (hb : b < 65536) (hk : k < 16) : nI b >>> (nI k &&& 31) = nI (b / 2 ^ k) := pk_shrN (by omega) (nI k &&& 31) k (by
    have h2 : ∀ i, i < 16 → ((nI i &&& 31).toBitVec.smod 32).toNat = i := by decide
    exact h2 k hk)
theorem and_1 {a : Nat} (h : a < 2 ^ 32) : nI a &&& nI 1 = nI (a % 2) := pk_andN h (m := nI 1) 1 (by decide)
theorem oI_l {o : Option Nat} (h : ∀ k, o = some k → k < 2 ^ 31) : (oI o).toInt64 = oL o := by
  cases o with
  | none => decide
  | some k => exact nI_l (h k rfl)
theorem oL_i (o : Option Nat) : (oL o).toInt32 = oI o := by
  cases o with
  | none => decide
  | some k => exact lN_i k
/-- what a shop has seen, when it has been told of the goods below n -/
def fed (ex : Nat → Bool) (pa ho dv : Nat → Option Nat) (sp : Nat) (se : Nat → Option Nat) : Nat → Nat → Option Nat
  | 0 => se
  | n + 1 => rmb (fed ex pa ho dv sp se n) (sgt ex pa ho dv sp n) (sp * 288 + n * 18) 18
