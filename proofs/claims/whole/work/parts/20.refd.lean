/-- the bits of a number below 2^n, counted -/
def pcn (b : Nat) : Nat → Nat
  | 0 => 0
  | n + 1 => pcn b n + b / 2 ^ n % 2
theorem pcn_le (b : Nat) : ∀ n, pcn b n ≤ n
  | 0 => Nat.le_refl 0
  | n + 1 => by
    have h1 := pcn_le b n
    show pcn b n + b / 2 ^ n % 2 ≤ n + 1
    omega
def bc1 (b : Nat) : Nat := b - (b / 2 ^ 1 &&& 1431655765)
def bc2 (x : Nat) : Nat := (x &&& 858993459) + (x / 2 ^ 2 &&& 858993459)
def bc3 (x : Nat) : Nat := (x + x / 2 ^ 4) &&& 252645135
def bc4 (x : Nat) : Nat := x + x / 2 ^ 8
def bc5 (x : Nat) : Nat := x + x / 2 ^ 16
def bc6 (b : Nat) : Nat := bc5 (bc4 (bc3 (bc2 (bc1 b)))) &&& 63
/-- the bits of two bytes, apart -/
theorem and_cut (x M m k : Nat) (hm : m < 2 ^ k) : x &&& (M * 2 ^ k + m) = ((x / 2 ^ k) &&& M) * 2 ^ k + ((x % 2 ^ k) &&& m) := by
  have h1 : (x &&& (M * 2 ^ k + m)) / 2 ^ k = (x / 2 ^ k) &&& M := by
    rw [Nat.and_div_two_pow, Nat.add_comm, Nat.add_mul_div_right _ _ (Nat.two_pow_pos k), Nat.div_eq_of_lt hm, Nat.zero_add]
  have h2 : (x &&& (M * 2 ^ k + m)) % 2 ^ k = (x % 2 ^ k) &&& m := by
    rw [Nat.and_mod_two_pow, Nat.add_comm, Nat.add_mul_mod_self_right, Nat.mod_eq_of_lt hm]
  have h3 := Nat.div_add_mod (x &&& (M * 2 ^ k + m)) (2 ^ k)
  rw [h1, h2, Nat.mul_comm] at h3
  exact h3.symm
def by1 (y : Nat) : Nat := y - (y / 2 &&& 85)
def by2 (y : Nat) : Nat := (y &&& 51) + (y / 4 &&& 51)
def by3 (y : Nat) : Nat := y % 16 + y / 16
theorem by_a : ∀ y, y < 256 → (y / 2 &&& 5592405) = (y / 2 &&& 85) := by decide +kernel
theorem by_b : ∀ y, y < 256 → ∀ r, r < 2 → (y / 2 + 128 * r &&& 85) = (y / 2 &&& 85) := by decide +kernel
theorem by_c : ∀ y, y < 256 → (y &&& 3355443) = (y &&& 51) ∧ (y / 4 &&& 3355443) = (y / 4 &&& 51) := by decide +kernel
theorem by_d : ∀ y, y < 256 → ∀ r, r < 4 → (y / 4 + 64 * r &&& 51) = (y / 4 &&& 51) := by decide +kernel
theorem by_e : ∀ y, y < 256 → by2 (by1 y) % 16 ≤ 4 ∧ by2 (by1 y) / 16 ≤ 4 ∧ by3 (by2 (by1 y)) = pcn y 8 := by decide +kernel
theorem by_f : ∀ y, y < 256 → (y &&& 986895) = y % 16 := by decide +kernel
theorem by_1 {h l : Nat} (hh : h < 256) (hl : l < 256) : bc1 (256 * h + l) = 256 * by1 h + by1 l := by
  have e1 : ((256 * h + l) / 2 ^ 1 &&& 1431655765) = (h / 2 &&& 85) * 2 ^ 8 + (l / 2 &&& 85) := by
    rw [show (1431655765 : Nat) = 5592405 * 2 ^ 8 + 85 from rfl, and_cut _ _ _ _ (by decide), show (256 * h + l) / 2 ^ 1 / 2 ^ 8 = h / 2 by omega, show (256 * h + l) / 2 ^ 1 % 2 ^ 8 = l / 2 + 128 * (h % 2) by omega, by_a h hh, by_b l hl (h % 2) (Nat.mod_lt _ (by decide))]
  have e2 : (h / 2 &&& 85) ≤ h := Nat.le_trans Nat.and_le_left (Nat.div_le_self _ _)
  have e3 : (l / 2 &&& 85) ≤ l := Nat.le_trans Nat.and_le_left (Nat.div_le_self _ _)
  unfold bc1 by1
  rw [e1]
  omega
theorem by_2 {h l : Nat} (hh : h < 256) (hl : l < 256) : bc2 (256 * h + l) = 256 * by2 h + by2 l := by
  have e1 : ((256 * h + l) / 2 ^ 2 &&& 858993459) = (h / 4 &&& 51) * 2 ^ 8 + (l / 4 &&& 51) := by
    rw [show (858993459 : Nat) = 3355443 * 2 ^ 8 + 51 from rfl, and_cut _ _ _ _ (by decide), show (256 * h + l) / 2 ^ 2 / 2 ^ 8 = h / 4 by omega, show (256 * h + l) / 2 ^ 2 % 2 ^ 8 = l / 4 + 64 * (h % 4) by omega, (by_c h hh).2, by_d l hl (h % 4) (Nat.mod_lt _ (by decide))]
  have e2 : (256 * h + l &&& 858993459) = (h &&& 51) * 2 ^ 8 + (l &&& 51) := by
    rw [show (858993459 : Nat) = 3355443 * 2 ^ 8 + 51 from rfl, and_cut _ _ _ _ (by decide), show (256 * h + l) / 2 ^ 8 = h by omega, show (256 * h + l) % 2 ^ 8 = l by omega, (by_c h hh).1]
  unfold bc2 by2
  rw [e1, e2]
  omega
theorem by_3 {h l : Nat} (h1 : h % 16 ≤ 4) (h2 : h / 16 ≤ 4) (l1 : l % 16 ≤ 4) (l2 : l / 16 ≤ 4) : bc3 (256 * h + l) = 256 * by3 h + by3 l := by
  unfold bc3 by3
  rw [show (252645135 : Nat) = 986895 * 2 ^ 8 + 15 from rfl, and_cut _ _ _ _ (by decide), show (256 * h + l + (256 * h + l) / 2 ^ 4) / 2 ^ 8 = h + h / 16 by omega, by_f (h + h / 16) (by omega),
    show (256 * h + l + (256 * h + l) / 2 ^ 4) % 2 ^ 8 = 16 * (h % 16) + l + l / 16 by omega, show (15 : Nat) = 2 ^ 4 - 1 from rfl, Nat.and_two_pow_sub_one_eq_mod]
  have a1 : (h + h / 16) % 16 = h % 16 + h / 16 := by omega
  have a2 : (16 * (h % 16) + l + l / 16) % 2 ^ 4 = l % 16 + l / 16 := by omega
  rw [a1, a2]
  omega
theorem pcn_16 {h l : Nat} (hl : l < 256) : pcn (256 * h + l) 16 = pcn l 8 + pcn h 8 := by
  show 0 + (256 * h + l) / 1 % 2 + (256 * h + l) / 2 % 2 + (256 * h + l) / 4 % 2 + (256 * h + l) / 8 % 2 + (256 * h + l) / 16 % 2 + (256 * h + l) / 32 % 2 + (256 * h + l) / 64 % 2 + (256 * h + l) / 128 % 2
    + (256 * h + l) / 256 % 2 + (256 * h + l) / 512 % 2 + (256 * h + l) / 1024 % 2 + (256 * h + l) / 2048 % 2 + (256 * h + l) / 4096 % 2 + (256 * h + l) / 8192 % 2 + (256 * h + l) / 16384 % 2 + (256 * h + l) / 32768 % 2
    = (0 + l / 1 % 2 + l / 2 % 2 + l / 4 % 2 + l / 8 % 2 + l / 16 % 2 + l / 32 % 2 + l / 64 % 2 + l / 128 % 2) + (0 + h / 1 % 2 + h / 2 % 2 + h / 4 % 2 + h / 8 % 2 + h / 16 % 2 + h / 32 % 2 + h / 64 % 2 + h / 128 % 2)
  rw [show (256 * h + l) / 1 % 2 = l / 1 % 2 by omega, show (256 * h + l) / 2 % 2 = l / 2 % 2 by omega, show (256 * h + l) / 4 % 2 = l / 4 % 2 by omega, show (256 * h + l) / 8 % 2 = l / 8 % 2 by omega,
    show (256 * h + l) / 16 % 2 = l / 16 % 2 by omega, show (256 * h + l) / 32 % 2 = l / 32 % 2 by omega, show (256 * h + l) / 64 % 2 = l / 64 % 2 by omega, show (256 * h + l) / 128 % 2 = l / 128 % 2 by omega,
    show (256 * h + l) / 256 % 2 = h / 1 % 2 by omega, show (256 * h + l) / 512 % 2 = h / 2 % 2 by omega, show (256 * h + l) / 1024 % 2 = h / 4 % 2 by omega, show (256 * h + l) / 2048 % 2 = h / 8 % 2 by omega,
    show (256 * h + l) / 4096 % 2 = h / 16 % 2 by omega, show (256 * h + l) / 8192 % 2 = h / 32 % 2 by omega, show (256 * h + l) / 16384 % 2 = h / 64 % 2 by omega, show (256 * h + l) / 32768 % 2 = h / 128 % 2 by omega]
  simp only [Nat.add_assoc, Nat.zero_add]
theorem bc_ok {b : Nat} (hb : b < 65536) : bc6 b = pcn b 16 := by
  have e0 : b = 256 * (b / 256) + b % 256 := (Nat.div_add_mod b 256).symm
  have hh : b / 256 < 256 := by omega
  have hl : b % 256 < 256 := Nat.mod_lt _ (by decide)
  generalize b / 256 = h at e0 hh
  generalize b % 256 = l at e0 hl
  subst e0
  obtain ⟨h1, h2, h3⟩ := by_e h hh
  obtain ⟨l1, l2, l3⟩ := by_e l hl
  rw [pcn_16 hl, ← h3, ← l3]
  unfold bc6
  rw [by_1 hh hl, by_2 (show by1 h < 256 from Nat.lt_of_le_of_lt (Nat.sub_le _ _) hh) (show by1 l < 256 from Nat.lt_of_le_of_lt (Nat.sub_le _ _) hl), by_3 h1 h2 l1 l2]
  have h4 : by3 (by2 (by1 h)) ≤ 8 := by unfold by3; omega
  have l4 : by3 (by2 (by1 l)) ≤ 8 := by unfold by3; omega
  generalize by3 (by2 (by1 h)) = x at h4
  generalize by3 (by2 (by1 l)) = y at l4
  unfold bc4 bc5
  rw [show (63 : Nat) = 2 ^ 6 - 1 from rfl, Nat.and_two_pow_sub_one_eq_mod, show (256 * x + y) / 2 ^ 8 = x by omega, show (256 * x + y + x) / 2 ^ 16 = 0 by omega]
  omega
theorem nI_and (a b : Nat) : nI a &&& nI b = nI (a &&& b) := by
  apply Int32.toBitVec_inj.1
  show BitVec.ofNat 32 a &&& BitVec.ofNat 32 b = BitVec.ofNat 32 (a &&& b)
  apply BitVec.eq_of_getLsbD_eq
  intro i hi
  simp [hi]
theorem bc1_le (b : Nat) : bc1 b ≤ b := Nat.sub_le _ _
theorem bc1_h (b : Nat) : (b / 2 ^ 1 &&& 1431655765) ≤ b := Nat.le_trans Nat.and_le_left (Nat.div_le_self _ _)
theorem bc2_le (x : Nat) : bc2 x ≤ x + x := Nat.add_le_add Nat.and_le_left (Nat.le_trans Nat.and_le_left (Nat.div_le_self _ _))
theorem bc3_le (x : Nat) : bc3 x ≤ x + x := Nat.le_trans Nat.and_le_left (Nat.add_le_add (Nat.le_refl x) (Nat.div_le_self _ _))
theorem bc4_le (x : Nat) : bc4 x ≤ x + x := Nat.add_le_add (Nat.le_refl x) (Nat.div_le_self _ _)
theorem shr_k {b k : Nat} (hb : b < 65536) (hk : k < 16) : nI b >>> (nI k &&& 31) = nI (b / 2 ^ k) := pk_shrN (by omega) (nI k &&& 31) k (by
    have h2 : ∀ i, i < 16 → ((nI i &&& 31).toBitVec.smod 32).toNat = i := by decide
    exact h2 k hk)
theorem and_1 {a : Nat} (h : a < 2 ^ 32) : nI a &&& nI 1 = nI (a % 2) := pk_andN h (m := nI 1) 1 (by decide)
theorem oI_l {o : Option Nat} (h : ∀ k, o = some k → k < 2 ^ 31) : (oI o).toInt64 = oL o := by
  cases o with
  | none => decide
  | some k => exact nI_l (h k rfl)
theorem oL_i (o : Option Nat) : (oL o).toInt32 = oI o := by
  cases o with
  | none => decide
  | some k => exact lN_i k
/-- what a shop has seen, when it has been told of the goods below n -/
def fed (ex : Nat → Bool) (pa ho dv : Nat → Option Nat) (sp : Nat) (se : Nat → Option Nat) : Nat → Nat → Option Nat
  | 0 => se
  | n + 1 => rmb (fed ex pa ho dv sp se n) (sgt ex pa ho dv sp n) (sp * 288 + n * 18) 18
