/-! the two sides beside each other: pure facts -/
theorem org_cong {ex : Nat → Bool} {pa mpa ho : Nat → Option Nat} {a sh to : Nat} (h : ∀ g, g < 16 → ex g = true → mpa g = pa g) (hp : PR pa) : ∀ (n : Nat) (o : Option Nat), (∀ k, o = some k → k < 16) → org ex mpa ho a sh to n o = org ex pa ho a sh to n o
  | 0, _, _ => rfl
  | _ + 1, none, _ => rfl
  | n + 1, some k, hk => by
    rw [org_some rfl, org_some rfl]
    by_cases c : ex k = true
    · rw [if_pos c, if_pos c, h k (hk k rfl) c, org_cong h hp n (pa k) (hp k (hk k rfl))]
    · rw [if_neg c, if_neg c]
theorem vlu_cong {ex : Nat → Bool} {pa mpa ho dv : Nat → Option Nat} {a sh to g : Nat} (h : ∀ g, g < 16 → ex g = true → mpa g = pa g) (hp : PR pa) (hg : g < 16) : vlu ex mpa ho dv a sh to g = vlu ex pa ho dv a sh to g := by
  unfold vlu
  rw [org_cong h hp 3 (some g) (fun k e => by cases e; exact hg)]
theorem wth_cong {ex : Nat → Bool} {pa mpa : Nat → Option Nat} {t : Nat} (h : ∀ g, g < 16 → ex g = true → mpa g = pa g) (hp : PR pa) : ∀ (n : Nat) (o : Option Nat), (∀ k, o = some k → k < 16) → wth ex mpa t n o = wth ex pa t n o
  | 0, _, _ => rfl
  | _ + 1, none, _ => rfl
  | n + 1, some k, hk => by
    rw [wth_some rfl, wth_some rfl]
    cases c : ex k with
    | false => rfl
    | true => rw [h k (hk k rfl) c, wth_cong h hp n (pa k) (hp k (hk k rfl))]
theorem TI_cong {ex : Nat → Bool} {pa mpa : Nat → Option Nat} {lev : Nat → Nat} (h : ∀ g, g < 16 → ex g = true → mpa g = pa g) (ht : TI ex pa lev) : TI ex mpa lev := fun g hg he => by
  rw [h g hg he]
  exact ht g hg he
theorem exU_cut {f : Nat → Bool} {m : Nat} : ∀ n, m ≤ n → (∀ k, m ≤ k → k < n → f k = false) → exU f n = exU f m
  | 0, h, _ => by rw [Nat.le_zero.mp h]
  | n + 1, h, hf => by
    by_cases c : m = n + 1
    · rw [c]
    · rw [exU_s (hf n (by omega) (by omega))]
      exact exU_cut n (by omega) (fun k h1 h2 => hf k h1 (by omega))
theorem cnt_cut {f : Nat → Bool} {m : Nat} : ∀ n, m ≤ n → (∀ k, m ≤ k → k < n → f k = false) → cnt f n = cnt f m
  | 0, h, _ => by rw [Nat.le_zero.mp h]
  | n + 1, h, hf => by
    by_cases c : m = n + 1
    · rw [c]
    · rw [cnt_f (hf n (by omega) (by omega))]
      exact cnt_cut n (by omega) (fun k h1 h2 => hf k h1 (by omega))
theorem bset_cut {f : Nat → Bool} {m : Nat} : ∀ n, m ≤ n → (∀ k, m ≤ k → k < n → f k = false) → bset f n = bset f m
  | 0, h, _ => by rw [Nat.le_zero.mp h]
  | n + 1, h, hf => by
    by_cases c : m = n + 1
    · rw [c]
    · rw [bset_f (hf n (by omega) (by omega))]
      exact bset_cut n (by omega) (fun k h1 h2 => hf k h1 (by omega))
theorem exU_cong {f g : Nat → Bool} : ∀ {n : Nat}, (∀ k, k < n → f k = g k) → exU f n = exU g n
  | 0, _ => rfl
  | n + 1, h => by rw [exU, exU, exU_cong (fun k hk => h k (by omega)), h n (Nat.lt_succ_self n)]
theorem cnt_cong {f g : Nat → Bool} : ∀ {n : Nat}, (∀ k, k < n → f k = g k) → cnt f n = cnt g n
  | 0, _ => rfl
  | n + 1, h => by rw [cnt, cnt, cnt_cong (fun k hk => h k (by omega)), h n (Nat.lt_succ_self n)]
theorem bset_cong {f g : Nat → Bool} : ∀ {n : Nat}, (∀ k, k < n → f k = g k) → bset f n = bset g n
  | 0, _ => rfl
  | n + 1, h => by rw [bset, bset, bset_cong (fun k hk => h k (by omega)), h n (Nat.lt_succ_self n)]
theorem bst_cong {f g : Nat → Bool} {dd : Nat → Nat} : ∀ {n : Nat}, (∀ k, k < n → f k = g k) → bst f dd n = bst g dd n
  | 0, _ => rfl
  | n + 1, h => by rw [bst, bst, bst_cong (fun k hk => h k (by omega)), h n (Nat.lt_succ_self n)]
theorem bst_dd {f : Nat → Bool} {dd de : Nat → Nat} : ∀ {n : Nat}, (∀ k, k < n → dd k = de k) → bst f dd n = bst f de n
  | 0, _ => rfl
  | n + 1, h => by
    rw [bst, bst, bst_dd (fun k hk => h k (by omega))]
    have e : (f n = true ∧ ∀ r, bst f de n = some r → dd r ≤ dd n) ↔ (f n = true ∧ ∀ r, bst f de n = some r → de r ≤ de n) := by
      constructor
      · intro z
        exact ⟨z.1, fun r hr => by rw [← h r (by have := (bst_in n r hr).1; omega), ← h n (Nat.lt_succ_self n)]; exact z.2 r hr⟩
      · intro z
        exact ⟨z.1, fun r hr => by rw [h r (by have := (bst_in n r hr).1; omega), h n (Nat.lt_succ_self n)]; exact z.2 r hr⟩
    by_cases c : f n = true ∧ ∀ r, bst f de n = some r → dd r ≤ dd n
    · rw [if_pos c, if_pos (e.mp c)]
    · rw [if_neg c, if_neg (fun z => c (e.mpr z))]
theorem pcn_cut {b m : Nat} (hb : b < 2 ^ m) : ∀ n, m ≤ n → pcn b n = pcn b m
  | 0, h => by rw [Nat.le_zero.mp h]
  | n + 1, h => by
    by_cases c : m = n + 1
    · rw [c]
    · have h1 : b / 2 ^ n = 0 := Nat.div_eq_of_lt (Nat.lt_of_lt_of_le hb (Nat.pow_le_pow_right (by decide) (by omega)))
      show pcn b n + b / 2 ^ n % 2 = pcn b m
      rw [h1, pcn_cut hb n (by omega)]
      rfl
/-- places and drafts, counted from both sides -/
theorem cnt_or {f g : Nat → Bool} : ∀ {n : Nat}, (∀ k, k < n → ¬ (f k = true ∧ g k = true)) → cnt (fun k => f k || g k) n = cnt f n + cnt g n
  | 0, _ => rfl
  | n + 1, h => by
    have ih := cnt_or (f := f) (g := g) (n := n) (fun k hk => h k (by omega))
    have h1 := h n (Nat.lt_succ_self n)
    cases c1 : f n with
    | true =>
      have c2 : g n = false := by
        cases c3 : g n with
        | false => rfl
        | true => exact absurd ⟨c1, c3⟩ h1
      rw [cnt_t (f := fun k => f k || g k) (show (f n || g n) = true by rw [c1]; rfl), cnt_t c1, cnt_f c2, ih]
      omega
    | false =>
      cases c2 : g n with
      | true =>
        rw [cnt_t (f := fun k => f k || g k) (show (f n || g n) = true by rw [c1, c2]; rfl), cnt_f c1, cnt_t c2, ih]
        omega
      | false =>
        rw [cnt_f (f := fun k => f k || g k) (show (f n || g n) = false by rw [c1, c2]; rfl), cnt_f c1, cnt_f c2, ih]
theorem cnt_0 {f : Nat → Bool} {n : Nat} (h : exU f n = false) : cnt f n = 0 := cnt_cut (m := 0) n (Nat.zero_le n) (fun k _ hk => exU_no.mp h k hk)
theorem cnt_1 {f : Nat → Bool} : ∀ {n : Nat}, (∀ k k', k < n → k' < n → f k = true → f k' = true → k = k') → exU f n = true → cnt f n = 1
  | 0, _, h => by cases h
  | n + 1, hu, h => by
    cases c : f n with
    | true =>
      have h0 : exU f n = false := exU_no.mpr (fun k hk => by
        cases c2 : f k with
        | false => rfl
        | true => have := hu k n (by omega) (by omega) c2 c; omega)
      rw [cnt_t c, cnt_0 h0]
    | false =>
      rw [cnt_f c]
      rw [exU_s c] at h
      exact cnt_1 (fun k k' hk hk' => hu k k' (by omega) (by omega)) h
theorem cnt_two {r : Nat → Nat → Bool} {n : Nat} : ∀ {m : Nat}, (∀ j, j < m → ∀ k k', k < n → k' < n → r j k = true → r j k' = true → k = k') → (∀ j j' k, j < m → j' < m → k < n → r j k = true → r j' k = true → j = j') → cnt (fun j => exU (r j) n) m = cnt (fun k => exU (fun j => r j k) m) n
  | 0, _, _ => by
    show 0 = _
    exact (cnt_0 (exU_no.mpr (fun k hk => rfl))).symm
  | m + 1, h1, h2 => by
    have ih := cnt_two (r := r) (n := n) (m := m) (fun j hj => h1 j (by omega)) (fun j j' k hj hj' => h2 j j' k (by omega) (by omega))
    have e : cnt (fun k => exU (fun j => r j k) (m + 1)) n = cnt (fun k => exU (fun j => r j k) m) n + cnt (r m) n := by
      refine Eq.trans (cnt_cong (g := fun k => exU (fun j => r j k) m || r m k) (fun k _ => rfl)) (cnt_or (fun k hk z => ?_))
      have z1 : exU (fun j => r j k) m = true := z.1
      have z3 : ∃ j, j < m ∧ r j k = true := by
        refine Classical.byContradiction (fun hn => ?_)
        have z4 : exU (fun j => r j k) m = false := exU_no.mpr (fun j hj => by
          cases c : r j k with
          | false => rfl
          | true => exact absurd ⟨j, hj, c⟩ hn)
        rw [z4] at z1; cases z1
      obtain ⟨j, hj, hjk⟩ := z3
      have := h2 j m k (by omega) (by omega) hk hjk z.2
      omega
    rw [e]
    cases c : exU (r m) n with
    | true => rw [cnt_t (f := fun j => exU (r j) n) c, ih, cnt_1 (h1 m (by omega)) c]
    | false => rw [cnt_f (f := fun j => exU (r j) n) c, ih, cnt_0 c]; rfl
theorem plc_eq {g a s t g' a' s' t' : Nat} (ha : a < 6) (hs : s < 4) (ht : t < 4) (ha' : a' < 6) (hs' : s' < 4) (ht' : t' < 4) (h : plc g a s t = plc g' a' s' t') : g = g' ∧ a = a' ∧ s = s' ∧ t = t' := by
  unfold plc at h
  omega
theorem sx_inj {x y : Option Nat} (h : sx x = sx y) : x = y := by
  cases x with
  | none => cases y with
    | none => rfl
    | some k => cases h
  | some j => cases y with
    | none => cases h
    | some k => rw [show j = k from Nat.succ.inj h]
theorem sx_lt {x : Option Nat} (h : ∀ k, x = some k → k < 3) : sx x < 4 := by
  cases x with
  | none => decide
  | some k => have := h k rfl; show k + 1 < 4; omega
/-- the rows of drafts of both sides -/
def DR (ex : Nat → Bool) (dc : Nat) (dg dp da : Nat → Nat) (dh dt : Nat → Option Nat) (ds ms : Nat → Nat) : Prop :=
  (∀ k, k < dc → dp k = plc (dg k) (da k) (sx (dh k)) (sx (dt k))) ∧ (∀ k, k < dc → ex (dg k) = true → ds k = ms k + 1) ∧ (∀ k, k < dc → ex (dg k) = false → ds k = 4)
theorem RH_of {ex : Nat → Bool} {ho : Nat → Option Nat} {dc td : Nat} {dg dp da : Nat → Nat} {dh dt : Nat → Option Nat} {dd ds ms : Nat → Nat} (hd : DR ex dc dg dp da dh dt ds ms) (hr : RD dc dg da dh dt dd ms td) (hh : ∀ q, q < 1536 → ho q = bst (drf ds dd dp td q) dd dc) : RH ex ho dc dg da dh dt dd ms td := by
  intro g a x y hg he ha hx hy
  rw [hh _ (plc_lt hg ha (sx_lt hx) (sx_lt hy))]
  refine bst_cong (fun k hk => ?_)
  obtain ⟨d1, d2, d3⟩ := hd
  obtain ⟨-, -, r1, r2, r3, r4, -, -⟩ := hr
  have e1 := d1 k hk
  unfold rdf drf
  by_cases c : dp k = plc g a (sx x) (sx y)
  · rw [c] at e1
    obtain ⟨p1, p2, p3, p4⟩ := plc_eq ha (sx_lt hx) (sx_lt hy) (r2 k hk) (sx_lt (r3 k hk)) (sx_lt (r4 k hk)) e1
    have p5 := sx_inj p3
    have p6 := sx_inj p4
    have p7 := d2 k hk (by rw [← p1]; exact he)
    rw [decide_eq_true p1.symm, decide_eq_true p2.symm, decide_eq_true p5.symm, decide_eq_true p6.symm, decide_eq_true c, Bool.and_true]
    by_cases c2 : ms k = 1
    · rw [decide_eq_true c2, decide_eq_true (show ds k = 2 by omega)]; rfl
    · rw [decide_eq_false c2, decide_eq_false (show ¬ ds k = 2 by omega)]; rfl
  · rw [decide_eq_false c, Bool.and_false, Bool.and_false]
    have hn : ¬ (dg k = g ∧ da k = a ∧ dh k = x ∧ dt k = y) := fun z => c (by rw [e1, z.1, z.2.1, z.2.2.1, z.2.2.2])
    by_cases c1 : dg k = g
    · by_cases c2 : da k = a
      · by_cases c3 : dh k = x
        · by_cases c4 : dt k = y
          · exact absurd ⟨c1, c2, c3, c4⟩ hn
          · rw [decide_eq_false c4, Bool.false_and, Bool.and_false, Bool.and_false, Bool.and_false]
        · rw [decide_eq_false c3, Bool.false_and, Bool.and_false, Bool.and_false]
      · rw [decide_eq_false c2, Bool.false_and, Bool.and_false]
    · rw [decide_eq_false c1, Bool.false_and]
/-- how many places of a good itself have a draft that holds -/
theorem told_eq {ex : Nat → Bool} {ho : Nat → Option Nat} {dc td g : Nat} {dg dp da : Nat → Nat} {dh dt : Nat → Option Nat} {dd ds ms : Nat → Nat} (hd : DR ex dc dg dp da dh dt ds ms) (hr : RD dc dg da dh dt dd ms td) (hh : ∀ q, q < 1536 → ho q = bst (drf ds dd dp td q) dd dc) (hg : g < 16) (he : ex g = true) :
    cnt (fun j => decide (ho (g * 96 + j) ≠ none)) 96 = cnt (fun k => decide (dg k = g) && decide (bst (rdf dg da dh dt ms dd td (dg k) (da k) (dh k) (dt k)) dd dc = some k)) dc := by
  have hrh := RH_of hd hr hh
  obtain ⟨d1, d2, d3⟩ := hd
  obtain ⟨-, -, r1, r2, r3, r4, -, -⟩ := hr
  have hin : ∀ q, q < 1536 → ∀ k, ho q = some k → k < dc ∧ dp k = q := fun q hq k e => by
    rw [hh q hq] at e
    obtain ⟨a1, a2⟩ := bst_in dc k e
    unfold drf at a2
    exact ⟨a1, of_decide_eq_true (Bool.and_eq_true_iff.mp (Bool.and_eq_true_iff.mp a2).2).2⟩
  have hpl : ∀ k, k < dc → dp k = dg k * 96 + (da k * 16 + (sx (dh k) * 4 + sx (dt k))) ∧ da k * 16 + (sx (dh k) * 4 + sx (dt k)) < 96 := fun k hk => by
    have := d1 k hk
    have h2 := r2 k hk
    have h3 := sx_lt (r3 k hk)
    have h4 := sx_lt (r4 k hk)
    unfold plc at this
    omega
  have e1 : cnt (fun j => decide (ho (g * 96 + j) ≠ none)) 96 = cnt (fun j => exU (fun k => decide (ho (g * 96 + j) = some k)) dc) 96 := cnt_cong (fun j hj => by
    cases c : ho (g * 96 + j) with
    | none => rw [decide_eq_false (by simp), exU_no.mpr (fun k hk => decide_eq_false (by simp))]
    | some k => rw [decide_eq_true (by simp), exU_yes (hin _ (by omega) k c).1 (decide_eq_true rfl)])
  rw [e1, cnt_two (r := fun j k => decide (ho (g * 96 + j) = some k)) (n := dc) (m := 96)
    (fun j hj k k' hk hk' z z' => by
      have z1 := of_decide_eq_true z
      have z2 := of_decide_eq_true z'
      rw [z1] at z2; exact Option.some.inj z2)
    (fun j j' k hj hj' hk z z' => by
      have z1 := (hin _ (by omega) k (of_decide_eq_true z)).2
      have z2 := (hin _ (by omega) k (of_decide_eq_true z')).2
      omega)]
  refine cnt_cong (fun k hk => ?_)
  by_cases c : dg k = g
  · have h1 := hpl k hk
    rw [hrh (dg k) (da k) (dh k) (dt k) (r1 k hk) (by rw [c]; exact he) (r2 k hk) (r3 k hk) (r4 k hk), ← d1 k hk, decide_eq_true c, Bool.true_and]
    by_cases c2 : ho (dp k) = some k
    · rw [decide_eq_true c2]
      refine exU_yes (k := da k * 16 + (sx (dh k) * 4 + sx (dt k))) h1.2 (decide_eq_true ?_)
      rw [← c, ← h1.1]; exact c2
    · rw [decide_eq_false c2]
      refine exU_no.mpr (fun j hj => decide_eq_false (fun z => c2 ?_))
      have z1 := (hin _ (by omega) k z).2
      rw [z1]; exact z
  · rw [decide_eq_false c, Bool.false_and]
    refine exU_no.mpr (fun j hj => decide_eq_false (fun z => c ?_))
    have z1 := (hin _ (by omega) k z).2
    have h1 := hpl k hk
    omega
/-- the parts: whose rows both sides have alike -/
def PT (ex : Nat → Bool) (qu mu : Nat → Nat) : Prop :=
  (∀ g p, g < 16 → p < 16 → ex g = true → mu (g * 16 + p) = qu (g * 16 + p)) ∧ (∀ g p, g < 16 → p < 16 → ex g = false → qu (g * 16 + p) = 0) ∧ (∀ g p, g < 16 → p < 16 → 0 < qu (g * 16 + p) → p < g ∧ ex p = true)
theorem prs_eq {ex : Nat → Bool} {vl pr mr : Nat → Option Nat} {qu mu di : Nat → Nat} (hp : PT ex qu mu) : ∀ n, n ≤ 16 → ∀ g, g < n → ex g = true → prs vl mu di mr n g = prs vl qu di pr n g
  | 0, _, g, hg, _ => absurd hg (Nat.not_lt_zero g)
  | n + 1, hn, g, hg, he => by
    have ih := prs_eq (vl := vl) (pr := pr) (mr := mr) (di := di) hp n (by omega)
    obtain ⟨p1, p2, p3⟩ := hp
    by_cases c : g = n
    · subst c
      have eb : bnd mu (prs vl mu di mr g) di g = bnd qu (prs vl qu di pr g) di g := by
        have e1 : exU (nop mu (prs vl mu di mr g) g) g = exU (nop qu (prs vl qu di pr g) g) g := exU_cong (fun k hk => by
          unfold nop
          rw [p1 g k (by omega) (by omega) he]
          by_cases c2 : 0 < qu (g * 16 + k)
          · rw [ih k hk (p3 g k (by omega) (by omega) c2).2]
          · rw [decide_eq_false c2, Bool.false_and, Bool.false_and])
        have e2 : exU (pos mu g) g = exU (pos qu g) g := exU_cong (fun k hk => by unfold pos; rw [p1 g k (by omega) (by omega) he])
        have e3 : ∀ m, m ≤ g → psm mu (prs vl mu di mr g) g m = psm qu (prs vl qu di pr g) g m := by
          intro m
          induction m with
          | zero => intro _; rfl
          | succ m ihm =>
            intro hm
            show psm mu (prs vl mu di mr g) g m + vz (prs vl mu di mr g m) * mu (g * 16 + m) = psm qu (prs vl qu di pr g) g m + vz (prs vl qu di pr g m) * qu (g * 16 + m)
            rw [ihm (by omega), p1 g m (by omega) (by omega) he]
            by_cases c2 : 0 < qu (g * 16 + m)
            · rw [ih m (by omega) (p3 g m (by omega) (by omega) c2).2]
            · rw [show qu (g * 16 + m) = 0 by omega, Nat.mul_zero, Nat.mul_zero]
        unfold bnd
        rw [e1, e2, e3 g (Nat.le_refl g)]
      by_cases c2 : vl g = none
      · rw [prs_b c2, prs_b c2, up_at, up_at, eb]
      · rw [prs_v c2, prs_v c2, up_at, up_at]
    · have hg2 : g < n := by omega
      by_cases c2 : vl n = none
      · rw [prs_b c2, prs_b c2, up_ne _ _ c, up_ne _ _ c]; exact ih g hg2 he
      · rw [prs_v c2, prs_v c2, up_ne _ _ c, up_ne _ _ c]; exact ih g hg2 he
