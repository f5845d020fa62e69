theorem wth_fuel {ex : Nat → Bool} {pa : Nat → Option Nat} {lev : Nat → Nat} {t : Nat} (h : TI ex pa lev) : ∀ (n q : Nat), q < 16 → ex q = true → lev q < n → wth ex pa t n (some q) = wth ex pa t (n + 1) (some q)
  | 0, _, _, _, hl => absurd hl (Nat.not_lt_zero _)
  | n + 1, q, hq, he, hl => by
    rw [wth_some (m := n) rfl, wth_some (m := n + 1) rfl]
    cases hp : pa q with
    | none => rw [wth_none, wth_none]
    | some p =>
      obtain ⟨p1, p2, p3⟩ := TI_some h hq he hp
      rw [wth_fuel h n p p1 p2 (by omega)]
theorem wth_lev {ex : Nat → Bool} {pa : Nat → Option Nat} {lev : Nat → Nat} {g : Nat} (h : TI ex pa lev) : ∀ (n k : Nat), k < 16 → wth ex pa g n (some k) = true → lev g ≤ lev k
  | 0, _, _, e => by cases e
  | n + 1, k, hk, e => by
    have hx := wth_ex e
    rw [wth_some rfl, hx, Bool.true_and] at e
    by_cases c : k = g
    · rw [c]; exact Nat.le_refl _
    · rw [beq_false_of_ne c, Bool.false_or] at e
      cases hp : pa k with
      | none => rw [hp, wth_none] at e; cases e
      | some p =>
        rw [hp] at e
        obtain ⟨p1, p2, p3⟩ := TI_some h hk hx hp
        have := wth_lev h n p p1 e
        omega
theorem mxd_ub {f : Nat → Bool} {lev : Nat → Nat} {b k : Nat} : ∀ {n : Nat}, k < n → f k = true → lev k ≤ mxd f lev b n
  | 0, hk, _ => absurd hk (Nat.not_lt_zero k)
  | n + 1, hk, hf => by
    by_cases c : k = n
    · subst c
      rw [mxd_t hf]; exact Nat.le_max_right _ _
    · have ih := mxd_ub (f := f) (lev := lev) (b := b) (k := k) (n := n) (by omega) hf
      by_cases c2 : f n = true
      · rw [mxd_t c2]; exact Nat.le_trans ih (Nat.le_max_left _ _)
      · rw [mxd, if_neg c2]; exact ih
theorem mxd_at {f : Nat → Bool} {lev : Nat → Nat} {b : Nat} : ∀ n, mxd f lev b n = b ∨ ∃ k, k < n ∧ f k = true ∧ mxd f lev b n = lev k
  | 0 => Or.inl rfl
  | n + 1 => by
    have ih := mxd_at (f := f) (lev := lev) (b := b) n
    by_cases c : f n = true
    · rw [mxd_t c]
      by_cases c2 : mxd f lev b n ≤ lev n
      · rw [Nat.max_eq_right c2]; exact Or.inr ⟨n, Nat.lt_succ_self n, c, rfl⟩
      · rw [Nat.max_eq_left (by omega)]
        rcases ih with ih | ⟨k, k1, k2, k3⟩
        · exact Or.inl ih
        · exact Or.inr ⟨k, by omega, k2, k3⟩
    · rw [mxd, if_neg c]
      rcases ih with ih | ⟨k, k1, k2, k3⟩
      · exact Or.inl ih
      · exact Or.inr ⟨k, by omega, k2, k3⟩
/-- the goods that bar a move, seen from both sides -/
theorem bdf_eq {lev : Nat → Nat} {ex : Nat → Bool} {pa mpa : Nat → Option Nat} {gc g top : Nat} (h : TR lev ex pa mpa gc) (hg : g < 16) (he : ex g = true) : exU (bdf ex mpa lev g top) gc = decide (3 + lev g ≤ mxd (fun k => wth ex pa g 3 (some k)) lev (lev g) 16 + top) := by
  obtain ⟨h1, h2, h3, h4, h5, h6, h7⟩ := h
  have hs : wth ex pa g 3 (some g) = true := by rw [wth_some rfl, he, beq_self_eq_true]; rfl
  have hk : ∀ k, k < 16 → bdf ex mpa lev g top k = (ex k && (wth ex pa g 3 (some k) && decide (3 + lev g ≤ lev k + top))) := fun k hk => by
    unfold bdf
    rw [wth_cong h2 h3 3 (some k) (fun j e => by cases e; exact hk)]
  by_cases c : 3 + lev g ≤ mxd (fun k => wth ex pa g 3 (some k)) lev (lev g) 16 + top
  · rw [decide_eq_true c]
    rcases mxd_at (f := fun k => wth ex pa g 3 (some k)) (lev := lev) (b := lev g) 16 with e | ⟨k, k1, k2, k3⟩
    · rw [e] at c
      exact exU_yes (h7 g hg he) (by rw [hk g hg, he, hs, decide_eq_true c]; rfl)
    · rw [k3] at c
      have hx := wth_ex k2
      exact exU_yes (h7 k k1 hx) (by
        have k4 : wth ex pa g 3 (some k) = true := k2
        rw [hk k k1, hx, k4, decide_eq_true c]; rfl)
  · rw [decide_eq_false c]
    refine exU_no.mpr (fun k hk2 => ?_)
    rw [hk k (by omega)]
    cases e1 : ex k with
    | false => rfl
    | true =>
      cases e2 : wth ex pa g 3 (some k) with
      | false => rfl
      | true =>
        have := mxd_ub (f := fun k => wth ex pa g 3 (some k)) (lev := lev) (b := lev g) (k := k) (n := 16) (by omega) e2
        rw [decide_eq_false (by omega)]; rfl
/-- move -/
def mvl (lev : Nat → Nat) (ex : Nat → Bool) (pa : Nat → Option Nat) (g top : Nat) : Nat → Nat := fun k => if wth ex pa g 3 (some k) = true then lev k + top - lev g else lev k
theorem TR_mov {lev : Nat → Nat} {ex : Nat → Bool} {pa mpa : Nat → Option Nat} {gc g : Nat} {o : Option Nat} (h : TR lev ex pa mpa gc) (hg : g < 16) (he : ex g = true) (ho : okO ex o) (hw : wth ex pa g 3 o = false)
    (hl : mxd (fun k => wth ex pa g 3 (some k)) lev (lev g) 16 + tpl lev o < 3 + lev g) : TR (mvl lev ex pa g (tpl lev o)) ex (va_up pa g o) (va_up mpa g o) gc := by
  obtain ⟨h1, h2, h3, h4, h5, h6, h7⟩ := h
  have hs : wth ex pa g 3 (some g) = true := by rw [wth_some rfl, he, beq_self_eq_true]; rfl
  have hlk : ∀ k, k < 16 → wth ex pa g 3 (some k) = true → lev k + tpl lev o < 3 + lev g := fun k hk e => by
    have := mxd_ub (f := fun k => wth ex pa g 3 (some k)) (lev := lev) (b := lev g) (k := k) (n := 16) hk e
    omega
  refine ⟨?_, ?_, ?_, ?_, ?_, h6, h7⟩
  · intro k hk hek
    have hle := TI_le h1 hk hek
    refine ⟨?_, ?_⟩
    · unfold mvl
      by_cases c : wth ex pa g 3 (some k) = true
      · rw [if_pos c]; have := hlk k hk c; omega
      · rw [if_neg c]; exact hle
    · by_cases c : k = g
      · subst c
        have e0 : mvl lev ex pa k (tpl lev o) k = tpl lev o := by unfold mvl; rw [if_pos hs]; omega
        rw [up_at, e0]
        cases o with
        | none => exact Or.inl ⟨rfl, rfl⟩
        | some q =>
          obtain ⟨q1, q2⟩ := ho q rfl
          refine Or.inr ⟨q, q1, q2, rfl, ?_⟩
          unfold mvl
          rw [if_neg (by rw [hw]; decide)]; rfl
      · rw [up_ne _ _ c]
        obtain ⟨-, a2⟩ := h1 k hk hek
        have hwk : wth ex pa g 3 (some k) = wth ex pa g 2 (pa k) := by rw [wth_some rfl, hek, beq_false_of_ne c]; rfl
        rcases a2 with ⟨a1, a2⟩ | ⟨p, p1, p2, p3, p4⟩
        · refine Or.inl ⟨a1, ?_⟩
          unfold mvl
          rw [hwk, a1, wth_none, if_neg (by decide)]; exact a2
        · refine Or.inr ⟨p, p1, p2, p3, ?_⟩
          have hf : wth ex pa g 3 (some k) = wth ex pa g 3 (some p) := by rw [hwk, p3]; exact wth_fuel h1 2 p p1 p2 (by omega)
          unfold mvl
          rw [hf]
          by_cases c2 : wth ex pa g 3 (some p) = true
          · rw [if_pos c2, if_pos c2]
            have := wth_lev h1 3 p p1 c2
            omega
          · rw [if_neg c2, if_neg c2]; exact p4
  · intro k hk hek
    by_cases c : k = g
    · rw [c, up_at, up_at]
    · rw [up_ne _ _ c, up_ne _ _ c]; exact h2 k hk hek
  · intro k hk j e
    by_cases c : k = g
    · rw [c, up_at] at e; exact (ho j e).1
    · rw [up_ne _ _ c] at e; exact h3 k hk j e
  · intro k hk j e
    by_cases c : k = g
    · rw [c, up_at] at e; exact (ho j e).1
    · rw [up_ne _ _ c] at e; exact h4 k hk j e
  · intro k hk hek
    by_cases c : k = g
    · rw [c, he] at hek; cases hek
    · rw [up_ne _ _ c]; exact h5 k hk hek
/-- the goods that bar a deletion, seen from both sides -/
theorem exU_oo {f g : Nat → Bool} : ∀ {n : Nat}, exU (fun k => f k || g k) n = (exU f n || exU g n)
  | 0 => rfl
  | n + 1 => by
    have ih := exU_oo (f := f) (g := g) (n := n)
    show (exU (fun k => f k || g k) n || (f n || g n)) = ((exU f n || f n) || (exU g n || g n))
    rw [ih]
    cases exU f n <;> cases exU g n <;> cases f n <;> cases g n <;> rfl
theorem bdd_eq {lev : Nat → Nat} {ex : Nat → Bool} {pa mpa : Nat → Option Nat} {gc g : Nat} {di qu mu : Nat → Nat} (h : TR lev ex pa mpa gc) (hq : QR ex di qu mu gc) (hg : g < 16) : exU (bdd ex mpa mu g) gc = (exU (fun k => decide (pa k = some g)) 16 || exU (fun k => decide (0 < qu (k * 16 + g))) 16) := by
  obtain ⟨h1, h2, h3, h4, h5, h6, h7⟩ := h
  obtain ⟨q1, q2, q3, ⟨p1, p2, p3⟩, q5⟩ := hq
  have hk : ∀ k, k < 16 → bdd ex mpa mu g k = (decide (pa k = some g) || decide (0 < qu (k * 16 + g))) := fun k hk => by
    unfold bdd
    cases e : ex k with
    | true => rw [h2 k hk e, p1 k g hk hg e]; rfl
    | false => rw [h5 k hk e, p2 k g hk hg e]; rfl
  rw [← exU_oo, ← exU_cut 16 h6 (fun k k1 k2 => by
    unfold bdd
    cases e : ex k with
    | false => rfl
    | true => have := h7 k k2 e; omega)]
  exact exU_cong (fun k hk2 => hk k hk2)
/-- what shops see -/
theorem sgt_cong {lev : Nat → Nat} {ex : Nat → Bool} {pa mpa : Nat → Option Nat} {gc sp g : Nat} {ho dv : Nat → Option Nat} (h : TR lev ex pa mpa gc) (hg : g < 16) : sgt ex mpa ho dv sp g = sgt ex pa ho dv sp g := by
  funext j
  exact vlu_cong h.2.1 h.2.2.1 hg
theorem lkd_cong {lev : Nat → Nat} {ex : Nat → Bool} {pa mpa : Nat → Option Nat} {gc sp g : Nat} {ho dv se : Nat → Option Nat} (h : TR lev ex pa mpa gc) (hg : g < 16) : lkd ex mpa ho dv se sp g = lkd ex pa ho dv se sp g :=
  exU_cong (fun j _ => by
    unfold lkj
    rw [vlu_cong h.2.1 h.2.2.1 hg])
theorem lkd_dead {lev : Nat → Nat} {ex : Nat → Bool} {pa mpa : Nat → Option Nat} {gc sp g : Nat} {ho dv se : Nat → Option Nat} (h : TR lev ex pa mpa gc) (hs : SR gc se) (hsp : sp < 3) (h1 : gc ≤ g) (h2 : g < 16) : lkd ex pa ho dv se sp g = false :=
  exU_no.mpr (fun j hj => by
    unfold lkj
    rw [vlu_dead (ex_gc h h1 h2), hs.2 sp g j hsp h1 h2 hj]
    exact decide_eq_false (fun z => z rfl))
theorem chg_eq {lev : Nat → Nat} {ex : Nat → Bool} {pa mpa : Nat → Option Nat} {gc sp : Nat} {ho dv se : Nat → Option Nat} (h : TR lev ex pa mpa gc) (hs : SR gc se) (hsp : sp < 3) : bset (lkd ex mpa ho dv se sp) gc = bset (lkd ex pa ho dv se sp) 16 := by
  rw [bset_cut 16 h.2.2.2.2.2.1 (fun k k1 k2 => lkd_dead h hs hsp k1 k2)]
  exact bset_cong (fun k hk => lkd_cong h (by have := h.2.2.2.2.2.1; omega))
theorem cpl_cong {lev : Nat → Nat} {ex : Nat → Bool} {pa mpa : Nat → Option Nat} {gc sp g : Nat} {ho dv : Nat → Option Nat} {ak : Nat → Bool} (h : TR lev ex pa mpa gc) (hg : g < 16) : cpl ex mpa ho dv ak sp g = cpl ex pa ho dv ak sp g := by
  unfold cpl
  have e : ∀ t, lck ex mpa ho dv ak g sp t = lck ex pa ho dv ak g sp t := fun t => by
    funext a
    unfold lck
    rw [vlu_cong h.2.1 h.2.2.1 hg]
  rw [show (fun t => decide (bset (lck ex mpa ho dv ak g sp t) 6 ≠ 0)) = fun t => decide (bset (lck ex pa ho dv ak g sp t) 6 ≠ 0) from by funext t; rw [e t]]
theorem cmp_eq {lev : Nat → Nat} {ex : Nat → Bool} {pa mpa : Nat → Option Nat} {gc sp : Nat} {ho dv : Nat → Option Nat} {ak : Nat → Bool} (h : TR lev ex pa mpa gc) : cnt (cpl ex mpa ho dv ak sp) gc = cnt (cpl ex pa ho dv ak sp) 16 := by
  rw [cnt_cut 16 h.2.2.2.2.2.1 (fun k k1 k2 => by unfold cpl; rw [ex_gc h k1 k2]; rfl)]
  exact cnt_cong (fun k hk => cpl_cong h (by have := h.2.2.2.2.2.1; omega))
theorem mis_eq {lev : Nat → Nat} {ex : Nat → Bool} {pa mpa : Nat → Option Nat} {gc sp tp g : Nat} {ho dv : Nat → Option Nat} {ak : Nat → Bool} (h : TR lev ex pa mpa gc) (hg : g < 16) : bset (lck ex mpa ho dv ak g sp tp) 6 = bset (lck ex pa ho dv ak g sp tp) 6 := bset_cong (fun a _ => by
  unfold lck
  rw [vlu_cong h.2.1 h.2.2.1 hg])
/-- feed -/
theorem fed_out {ex : Nat → Bool} {pa ho dv se : Nat → Option Nat} {sp k : Nat} {n : Nat} (h : k < sp * 288 ∨ sp * 288 + n * 18 ≤ k) : fed ex pa ho dv sp se n k = se k := by
  induction n with
  | zero => show se k = se k; rfl
  | succ n ih =>
    show rmb (fed ex pa ho dv sp se n) (sgt ex pa ho dv sp n) (sp * 288 + n * 18) 18 k = se k
    unfold rmb
    rw [if_neg (by omega)]
    exact ih (by omega)
theorem fed_cut {lev : Nat → Nat} {ex : Nat → Bool} {pa mpa : Nat → Option Nat} {gc sp : Nat} {ho dv se : Nat → Option Nat} (h : TR lev ex pa mpa gc) (hs : SR gc se) (hsp : sp < 3) : ∀ n, gc ≤ n → n ≤ 16 → fed ex pa ho dv sp se n = fed ex pa ho dv sp se gc
  | 0, h1, _ => by rw [Nat.le_zero.mp h1]
  | n + 1, h1, h2 => by
    by_cases c : gc = n + 1
    · rw [c]
    · rw [← fed_cut h hs hsp n (by omega) (by omega)]
      funext k
      show rmb (fed ex pa ho dv sp se n) (sgt ex pa ho dv sp n) (sp * 288 + n * 18) 18 k = _
      unfold rmb
      by_cases c2 : sp * 288 + n * 18 ≤ k ∧ k < sp * 288 + n * 18 + 18
      · rw [if_pos c2, fed_out (Or.inr c2.1)]
        have e := hs.2 sp n (k - (sp * 288 + n * 18)) hsp (by omega) (by omega) (by omega)
        rw [show sp * 288 + n * 18 + (k - (sp * 288 + n * 18)) = k by omega] at e
        rw [e]
        exact vlu_dead (ex_gc h (by omega) (by omega))
      · rw [if_neg c2]
theorem fed_cong {lev : Nat → Nat} {ex : Nat → Bool} {pa mpa : Nat → Option Nat} {gc sp : Nat} {ho dv se : Nat → Option Nat} (h : TR lev ex pa mpa gc) : ∀ n, n ≤ 16 → fed ex mpa ho dv sp se n = fed ex pa ho dv sp se n
  | 0, _ => rfl
  | n + 1, hn => by
    show rmb (fed ex mpa ho dv sp se n) (sgt ex mpa ho dv sp n) (sp * 288 + n * 18) 18 = rmb (fed ex pa ho dv sp se n) (sgt ex pa ho dv sp n) (sp * 288 + n * 18) 18
    rw [fed_cong h n (by omega), sgt_cong h (by omega)]
theorem fed_eq {lev : Nat → Nat} {ex : Nat → Bool} {pa mpa : Nat → Option Nat} {gc sp : Nat} {ho dv se : Nat → Option Nat} (h : TR lev ex pa mpa gc) (hs : SR gc se) (hsp : sp < 3) : fed ex mpa ho dv sp se gc = fed ex pa ho dv sp se 16 := by
  rw [fed_cong h gc h.2.2.2.2.2.1, fed_cut h hs hsp 16 h.2.2.2.2.2.1 (Nat.le_refl 16)]
theorem fed_in {ex : Nat → Bool} {pa ho dv se : Nat → Option Nat} {dc sp : Nat} (hho : HO ho dc) (hpr : PR pa) (hdv : DV dv dc) (hsp : sp < 3) (hse : ∀ k, k < 864 → ∀ v, se k = some v → v ≤ 100000) : ∀ n, n ≤ 16 → ∀ k, k < 864 → ∀ v, fed ex pa ho dv sp se n k = some v → v ≤ 100000
  | 0, _ => hse
  | n + 1, hn => fun k hk v e => by
    have e2 : rmb (fed ex pa ho dv sp se n) (sgt ex pa ho dv sp n) (sp * 288 + n * 18) 18 k = some v := e
    unfold rmb at e2
    by_cases c2 : sp * 288 + n * 18 ≤ k ∧ k < sp * 288 + n * 18 + 18
    · rw [if_pos c2] at e2
      exact vlu_in hho hpr hdv (by omega) (show (k - (sp * 288 + n * 18)) / 3 < 6 by omega) (show sp + 1 < 4 by omega) (show (k - (sp * 288 + n * 18)) % 3 + 1 < 4 by omega) v e2
    · rw [if_neg c2] at e2
      exact fed_in hho hpr hdv hsp hse n (by omega) k hk v e2
theorem SR_fed {lev : Nat → Nat} {ex : Nat → Bool} {pa mpa : Nat → Option Nat} {gc dc sp : Nat} {ho dv se : Nat → Option Nat} (h : TR lev ex pa mpa gc) (hs : SR gc se) (hsp : sp < 3) (hho : HO ho dc) (hdv : DV dv dc) : SR gc (fed ex pa ho dv sp se 16) := by
  refine ⟨fed_in hho h.2.2.1 hdv hsp hs.1 16 (Nat.le_refl 16), fun sp2 g j a1 a2 a3 a4 => ?_⟩
  rw [fed_cut h hs hsp 16 h.2.2.2.2.2.1 (Nat.le_refl 16), fed_out (by
    by_cases c : sp2 = sp
    · right; subst c; omega
    · have := h.2.2.2.2.2.1
      rcases Nat.lt_or_gt_of_ne c with c2 | c2
      · left; omega
      · right; omega)]
  exact hs.2 sp2 g j a1 a2 a3 a4
theorem fed_n {lev : Nat → Nat} {ex : Nat → Bool} {pa mpa : Nat → Option Nat} {gc sp : Nat} {ho dv se : Nat → Option Nat} (h : TR lev ex pa mpa gc) (hs : SR gc se) (hsp : sp < 3) : pcn (bset (lkd ex mpa ho dv se sp) gc) gc = pcn (bset (lkd ex pa ho dv se sp) 16) 16 := by
  rw [pcn_cut (m := gc) (b := bset (lkd ex pa ho dv se sp) 16) (by rw [← chg_eq h hs hsp]; exact bset_lt _ gc) 16 h.2.2.2.2.2.1, chg_eq h hs hsp]
