theorem bnd_n {qu : Nat → Nat} {pr : Nat → Option Nat} {di : Nat → Nat} {g : Nat} (h : exU (nop qu pr g) g = true) : bnd qu pr di g = none := by unfold bnd; rw [if_pos h]
theorem bnd_p {qu : Nat → Nat} {pr : Nat → Option Nat} {di : Nat → Nat} {g : Nat} (h : exU (pos qu g) g = false) : bnd qu pr di g = none := by
  unfold bnd
  by_cases c : exU (nop qu pr g) g = true
  · rw [if_pos c]
  · rw [if_neg c, if_neg (fun z => by rw [h] at z; cases z.1)]
theorem bnd_h {qu : Nat → Nat} {pr : Nat → Option Nat} {di : Nat → Nat} {g : Nat} (h : 1000000000 < psm qu pr g g * (100 - di g) / 100) : bnd qu pr di g = none := by
  unfold bnd
  by_cases c : exU (nop qu pr g) g = true
  · rw [if_pos c]
  · rw [if_neg c, if_neg (fun z => Nat.not_le.mpr h z.2)]
theorem bnd_k {qu : Nat → Nat} {pr : Nat → Option Nat} {di : Nat → Nat} {g : Nat} (h1 : exU (nop qu pr g) g = false) (h2 : exU (pos qu g) g = true) (h3 : psm qu pr g g * (100 - di g) / 100 ≤ 1000000000) : bnd qu pr di g = some (psm qu pr g g * (100 - di g) / 100) := by
  unfold bnd
  rw [if_neg (by rw [h1]; decide), if_pos ⟨h2, h3⟩]
theorem lcm_none : lg_cmp (oL none) (oL none) = 0 := (lg_cmp_eq _ _).mpr rfl
theorem lcm_some {v : Nat} (h : v < 2 ^ 62) : ¬ lg_cmp (oL (some v)) (oL none) = 0 := fun e => by
  have h1 := (oL_m1 (o := some v) (fun k h9 => by cases h9; exact h)).mp ((lg_cmp_eq _ _).mp e)
  cases h1
theorem lcm_o {o : Option Nat} (h : ∀ k, o = some k → k < 2 ^ 62) : lg_cmp (oL o) (oL none) = 0 ↔ o = none := by
  cases o with
  | none => exact ⟨fun _ => rfl, fun _ => lcm_none⟩
  | some k => exact ⟨fun e => absurd e (lcm_some (h k rfl)), fun e => by cases e⟩
theorem RD_up {dc : Nat} {dg da : Nat → Nat} {dh dt : Nat → Option Nat} {dd ds : Nat → Nat} {td d v : Nat} (h : RD dc dg da dh dt dd ds td) (hv : v ≤ 2) : RD dc dg da dh dt dd (va_up ds d v) td := by
  obtain ⟨h1, h2, h3, h4, h5, h6, h7, h8⟩ := h
  refine ⟨h1, h2, h3, h4, h5, h6, h7, fun k hk => ?_⟩
  unfold va_up
  by_cases c : k = d
  · rw [if_pos c]; exact hv
  · rw [if_neg c]; exact h8 k hk
theorem shr_bit {b k : Nat} (hb : b < 65536) (hk : k < 16) : (nI b >>> (nI k &&& 31)) &&& 1 = nI (b / 2 ^ k % 2) := by
  have h1 : nI b >>> (nI k &&& 31) = nI (b / 2 ^ k) := pk_shrN (by omega) (nI k &&& 31) k (by
    have h2 : ∀ i, i < 16 → ((nI i &&& 31).toBitVec.smod 32).toNat = i := by decide
    exact h2 k hk)
  rw [h1]
  have h3 := pk_andN (n := b / 2 ^ k) (by have := Nat.div_le_self b (2 ^ k); omega) (m := 1) 1 (by decide)
  exact h3
theorem or_zero {a b : Nat} : a ||| b = 0 ↔ a = 0 ∧ b = 0 := by
  constructor
  · intro h
    have h1 : a ≤ a ||| b := Nat.left_le_or
    have h2 : b ≤ a ||| b := Nat.right_le_or
    omega
  · intro h
    rw [h.1, h.2]; rfl
theorem exU_or {f : Nat → Bool} {b v j : Nat} (h : b = 0 ↔ exU f j = false) (hf : f j = decide (v ≠ 0)) : b ||| v = 0 ↔ exU f (j + 1) = false := by
  rw [or_zero, h]
  show _ ↔ (exU f j || f j) = false
  rw [hf, Bool.or_eq_false_iff]
  by_cases c : v = 0
  · rw [decide_eq_false (fun z => z c)]
    exact ⟨fun z => ⟨z.1, rfl⟩, fun z => ⟨z.1, c⟩⟩
  · rw [decide_eq_true c]
    exact ⟨fun z => absurd z.2 c, fun z => by cases z.2⟩
theorem sm_0 {sm i : Nat} (h : sm ≤ i * 20000000000) : sm + 0 ≤ (i + 1) * 20000000000 := Nat.le_trans h (Nat.mul_le_mul_right _ (Nat.le_succ i))
theorem sm_s {sm i x v : Nat} (h : sm ≤ i * 20000000000) (h1 : x ≤ 20) (h2 : v ≤ 1000000000) : sm + x * v ≤ (i + 1) * 20000000000 := by
  rw [Nat.succ_mul]
  exact Nat.add_le_add h (Nat.le_trans (Nat.mul_le_mul h1 h2) (Nat.le_of_ble_eq_true rfl))
