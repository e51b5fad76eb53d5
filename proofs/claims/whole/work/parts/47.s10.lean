/-! BOTH SIDES: frost -/
theorem sty_eq : ∀ z, z < 256 → ∀ k, k < 8 → ctn (nI z).toInt64 (nI k) = styM z k := by decide +kernel
theorem ff_eq {t : Nat → Nat} {L : LV} (hL : RLd L t) {r z : Nat} (hr : r < t 2) (hz : z < 256) : ∀ (q k : Nat) (s : Nat → Nat) (o : OV), Sn t s → RP t s o → k + q ≤ 8 → s 0 + q < 2 ^ 31 → Sn t (frP t r z q k s) ∧ RP t (frP t r z q k s) (ffFrom L (nI r) (nI z) q k o) := by
  intro q
  induction q with
  | zero => intro k s o h hP _ _; exact ⟨h, hP⟩
  | succ q ih =>
    intro k s o h hP hk hy
    have o1 := h.1.1
    rw [frP, ffFrom, sty_eq z hz k (by omega)]
    have hf : ∀ x, x < 3 → (nI x = fzM (styM z k) r ↔ nI x = (if styM z k = true then nI r else -4)) := fun x hx => by
      unfold fzM
      by_cases hs : styM z k = true
      · rw [if_pos hs, if_pos hs]
      · rw [if_neg hs, if_neg hs]; exact fc4 x hx
    obtain ⟨g1, g2, g3, -⟩ := year_P h hL hP (by omega) hf
    exact ih (k + 1) _ _ g1 g2 (by omega) (by omega)
theorem wt_eq {z x : Nat} (hz : z < 256) (hx : x ≤ 10) : ∀ (q k w : Nat), k + q ≤ 8 → wtFrom (nI z) (nI x) q k (lN w) = lN (frW x z q k w) := by
  intro q
  induction q with
  | zero => intro k w _; rfl
  | succ q ih =>
    intro k w hk
    rw [wtFrom, frW, sty_eq z hz k (by omega)]
    have e : (if styM z k = true then (nI x).toInt64 else (10 - nI x).toInt64) = lN (if styM z k = true then x else 10 - x) := by
      by_cases hs : styM z k = true
      · rw [if_pos hs, if_pos hs, nI_l (by omega)]
      · rw [if_neg hs, if_neg hs, show (10 : Int32) - nI x = nI (10 - x) from nI_subE (a := 10) rfl rfl hx, nI_l (by omega)]
    rw [e, lN_muL]
    exact ih (k + 1) _ (by omega)
theorem frW_lt {x z : Nat} (hx : x ≤ 10) : ∀ (q k w : Nat), frW x z q k w ≤ w * 10 ^ q := by
  intro q
  induction q with
  | zero => intro k w; rw [frW, Nat.pow_zero, Nat.mul_one]; exact Nat.le_refl _
  | succ q ih =>
    intro k w
    rw [frW]
    refine Nat.le_trans (ih _ _) ?_
    rw [Nat.pow_succ, Nat.mul_assoc, Nat.mul_comm (10 ^ q) 10]
    refine Nat.mul_le_mul_left w ?_
    refine Nat.mul_le_mul_right _ ?_
    split <;> omega
def sumR (x m : Nat) : Nat → Nat → Nat
  | 0, _ => 0
  | q + 1, z => frW x z m 0 1 + sumR x m q (z + 1)
theorem sumR_all : ∀ m, m < 9 → ∀ x, x < 11 → sumR x m (2 ^ m) 0 = 10 ^ m := by decide +kernel
theorem frS_le {t s : Nat → Nat} {r : Nat} {cell : Int32} {x m : Nat} : ∀ (q z ab : Nat), frS t s r cell x m q z ab ≤ ab + sumR x m q z := by
  intro q
  induction q with
  | zero => intro z ab; exact Nat.le_refl _
  | succ q ih =>
    intro z ab
    have h1 := ih (z + 1) (ab + (if nI (frP t r z m 0 s (11 + 4 * r)) = cell then frW x z m 0 1 else 0))
    rw [frS, sumR]
    have h2 : (if nI (frP t r z m 0 s (11 + 4 * r)) = cell then frW x z m 0 1 else 0) ≤ frW x z m 0 1 := by split <;> omega
    omega
theorem frAB_le {t s : Nat → Nat} {r : Nat} {cell : Int32} {x m : Nat} (hm : m ≤ 8) (hx : x ≤ 10) : frAB t s r cell x m ≤ 10 ^ m := by
  have h := frS_le (t := t) (s := s) (r := r) (cell := cell) (x := x) (m := m) (2 ^ m) 0 0
  rw [sumR_all m (by omega) x (by omega), Nat.zero_add] at h
  exact h
theorem p10_le {m : Nat} (hm : m ≤ 8) : 10 ^ m ≤ 100000000 := Nat.pow_le_pow_right (by decide) hm
theorem frAB_lt {t s : Nat → Nat} {r : Nat} {cell : Int32} {x m : Nat} (hm : m ≤ 8) (hx : x ≤ 10) : frAB t s r cell x m < 2 ^ 31 := by
  have h1 := frAB_le (t := t) (s := s) (r := r) (cell := cell) hm hx
  have h2 := p10_le hm
  omega
theorem cas_eq {C : CS} {t s : Nat → Nat} (hI : RQ (cL C 0) (cO C 0) t s) {m r x : Nat} (hm : m ≤ 8) (hr : r < t 2) (hx : x ≤ 10) (cell : Int32) : ∀ (q z ab : Nat) (a : OV), z + q ≤ 256 → (casFrom C m (nI r) cell (nI x) q z (lN ab) a).1 = lN (frS t s r cell x m q z ab) := by
  obtain ⟨h, hL, hP, hw, hy, h2⟩ := hI
  intro q
  induction q with
  | zero => intro z ab a _; rfl
  | succ q ih =>
    intro z ab a hz
    rw [casFrom, frS, show (1 : Int64) = lN 1 from rfl, wt_eq (by omega) hx m 0 1 (by omega)]
    have hwl : frW x z m 0 1 < 2 ^ 31 := by
      have h1 := frW_lt (z := z) hx m 0 1
      have h2 := p10_le hm
      omega
    by_cases h0 : frW x z m 0 1 = 0
    · rw [if_pos (by rw [h0]; decide), h0]
      have e : (if nI (frP t r z m 0 s (11 + 4 * r)) = cell then (0 : Nat) else 0) = 0 := by split <;> rfl
      rw [e, Nat.add_zero]
      exact ih (z + 1) ab a (by omega)
    · have hn : ¬ lg_cmp (lN (frW x z m 0 1)) 0 ≤ 0 := by
        rw [lg_cmp_le]
        intro zz
        have z1 := Int64.le_iff_toInt_le.mp zz
        rw [lN_toInt hwl] at z1
        have z0 : (0 : Int64).toInt = 0 := by decide
        omega
      rw [if_neg hn]
      obtain ⟨g1, g2⟩ := ff_eq hL hr (show z < 256 by omega) m 0 s _ h (copy_P h hP a).1 (by omega) (by omega)
      have ef : firstR (ffA C a m (nI r) (nI z)) (nI r) = nI (frP t r z m 0 s (11 + 4 * r)) := firstR_eq g1.1 g2 hr
      rw [ef]
      by_cases hc : nI (frP t r z m 0 s (11 + 4 * r)) = cell
      · rw [if_neg (fun y => y hc), if_pos hc, lN_adL]
        exact ih (z + 1) _ _ (by omega)
      · rw [if_pos hc, if_neg hc, Nat.add_zero]
        exact ih (z + 1) ab _ (by omega)
theorem p10_eq : ∀ (q k : Nat), p10From q (lN (10 ^ k)) = lN (10 ^ (k + q)) := by
  intro q
  induction q with
  | zero => intro k; rfl
  | succ q ih =>
    intro k
    rw [p10From, show (10 : Int64) = lN 10 from rfl, lN_muL, ← Nat.pow_succ, ih (k + 1), show k + 1 + q = k + (q + 1) by omega]
def redN (d : Nat) (z : Nat × Nat) : Nat × Nat := if z.1 % d = 0 ∧ z.2 % d = 0 then (z.1 / d, z.2 / d) else z
def redNs : Nat → Nat × Nat → Nat × Nat
  | 0, z => z
  | q + 1, z => redNs q (redN 5 (redN 2 z))
theorem redD_eq {d a b : Nat} (hd : d < 100) (hd0 : 0 < d) (ha : a < 2 ^ 31) (hb : b < 2 ^ 31) : redD (lN d) (lN a, lN b) = (lN (redN d (a, b)).1, lN (redN d (a, b)).2) ∧ (redN d (a, b)).1 < 2 ^ 31 ∧ (redN d (a, b)).2 < 2 ^ 31 := by
  have e1 : ∀ y, y < 2 ^ 31 → lN y % lN d = lN (y % d) := fun y hy => (Int64.ofNat_mod (by omega) (by omega)).symm
  have e2 : ∀ y, y < 2 ^ 31 → lN y / lN d = lN (y / d) := fun y hy => (Int64.ofNat_div (by omega) (by omega)).symm
  have e3 : ∀ y, y < 2 ^ 31 → (lg_cmp (lN y % lN d) 0 = 0 ↔ y % d = 0) := fun y hy => by
    rw [e1 y hy, lg_cmp_eq]
    have hm : y % d < d := Nat.mod_lt _ hd0
    constructor
    · intro q
      have q1 := congrArg Int64.toInt q
      rw [lN_toInt (by omega)] at q1
      have z0 : (0 : Int64).toInt = 0 := by decide
      omega
    · intro q; rw [q]; rfl
  unfold redD redN
  dsimp only
  have l1 : a / d ≤ a := Nat.div_le_self _ _
  have l2 : b / d ≤ b := Nat.div_le_self _ _
  by_cases h1 : a % d = 0
  · rw [if_neg (fun q => q ((e3 a ha).mpr h1))]
    by_cases h2 : b % d = 0
    · rw [if_neg (fun q => q ((e3 b hb).mpr h2)), if_pos ⟨h1, h2⟩, e2 a ha, e2 b hb]
      exact ⟨rfl, by dsimp only; omega, by dsimp only; omega⟩
    · rw [if_pos (fun q => h2 ((e3 b hb).mp q)), if_neg (fun q => h2 q.2)]
      exact ⟨rfl, ha, hb⟩
  · rw [if_pos (fun q => h1 ((e3 a ha).mp q)), if_neg (fun q => h1 q.1)]
    exact ⟨rfl, ha, hb⟩
theorem redFrom_eq : ∀ (q a b : Nat), a < 2 ^ 31 → b < 2 ^ 31 → redFrom q (lN a, lN b) = (lN (redNs q (a, b)).1, lN (redNs q (a, b)).2) := by
  intro q
  induction q with
  | zero => intro a b _ _; rfl
  | succ q ih =>
    intro a b ha hb
    rw [redFrom, redNs]
    obtain ⟨e1, l1, l2⟩ := redD_eq (d := 2) (by decide) (by decide) ha hb
    rw [show (2 : Int64) = lN 2 from rfl, e1]
    generalize redN 2 (a, b) = z at *
    obtain ⟨a1, b1⟩ := z
    obtain ⟨e2, l3, l4⟩ := redD_eq (d := 5) (by decide) (by decide) l1 l2
    rw [show (5 : Int64) = lN 5 from rfl, e2]
    exact ih _ _ l3 l4
/-- what has been divided by: g; how often 2, 5 went into both: p, q -/
def RedI (a0 b0 p q : Nat) (z : Nat × Nat) : Prop := (∃ g, 0 < g ∧ a0 = z.1 * g ∧ b0 = z.2 * g) ∧ (¬ (z.1 % 2 = 0 ∧ z.2 % 2 = 0) ∨ ∃ w, b0 = 2 ^ p * z.2 * w) ∧ (¬ (z.1 % 5 = 0 ∧ z.2 % 5 = 0) ∨ ∃ w, b0 = 5 ^ q * z.2 * w)
theorem red_2 {a0 b0 p q : Nat} {z : Nat × Nat} (h : RedI a0 b0 p q z) : RedI a0 b0 (p + 1) q (redN 2 z) := by
  obtain ⟨a, b⟩ := z
  obtain ⟨⟨g, g0, g1, g2⟩, h2, h5⟩ := h
  unfold redN
  dsimp only at *
  by_cases hz : a % 2 = 0 ∧ b % 2 = 0
  · rw [if_pos hz]
    obtain ⟨c, rfl⟩ : ∃ c, a = 2 * c := ⟨a / 2, by omega⟩
    obtain ⟨d, rfl⟩ : ∃ d, b = 2 * d := ⟨b / 2, by omega⟩
    have e1 : 2 * c / 2 = c := by omega
    have e2 : 2 * d / 2 = d := by omega
    rw [e1, e2]
    refine ⟨⟨2 * g, by omega, ?_, ?_⟩, Or.inr ?_, ?_⟩
    · dsimp only; rw [g1, Nat.mul_comm 2 c, Nat.mul_assoc]
    · dsimp only; rw [g2, Nat.mul_comm 2 d, Nat.mul_assoc]
    · obtain ⟨w, hw⟩ := h2.resolve_left (fun y => y hz)
      exact ⟨w, by dsimp only; rw [hw, Nat.pow_succ, Nat.mul_assoc (2 ^ p) 2 d]⟩
    · rcases h5 with h5 | ⟨w, hw⟩
      · exact Or.inl (fun y => h5 (by dsimp only at y; omega))
      · exact Or.inr ⟨2 * w, by dsimp only; rw [hw, ← Nat.mul_assoc (5 ^ q) 2 d, Nat.mul_comm (5 ^ q) 2, Nat.mul_assoc 2, Nat.mul_assoc 2, Nat.mul_left_comm]⟩
  · rw [if_neg hz]
    exact ⟨⟨g, g0, g1, g2⟩, Or.inl hz, h5⟩
theorem red_5 {a0 b0 p q : Nat} {z : Nat × Nat} (h : RedI a0 b0 p q z) : RedI a0 b0 p (q + 1) (redN 5 z) := by
  obtain ⟨a, b⟩ := z
  obtain ⟨⟨g, g0, g1, g2⟩, h2, h5⟩ := h
  unfold redN
  dsimp only at *
  by_cases hz : a % 5 = 0 ∧ b % 5 = 0
  · rw [if_pos hz]
    obtain ⟨c, rfl⟩ : ∃ c, a = 5 * c := ⟨a / 5, by omega⟩
    obtain ⟨d, rfl⟩ : ∃ d, b = 5 * d := ⟨b / 5, by omega⟩
    have e1 : 5 * c / 5 = c := by omega
    have e2 : 5 * d / 5 = d := by omega
    rw [e1, e2]
    refine ⟨⟨5 * g, by omega, ?_, ?_⟩, ?_, Or.inr ?_⟩
    · dsimp only; rw [g1, Nat.mul_comm 5 c, Nat.mul_assoc]
    · dsimp only; rw [g2, Nat.mul_comm 5 d, Nat.mul_assoc]
    · rcases h2 with h2 | ⟨w, hw⟩
      · exact Or.inl (fun y => h2 (by dsimp only at y; omega))
      · exact Or.inr ⟨5 * w, by dsimp only; rw [hw, ← Nat.mul_assoc (2 ^ p) 5 d, Nat.mul_comm (2 ^ p) 5, Nat.mul_assoc 5, Nat.mul_assoc 5, Nat.mul_left_comm]⟩
    · obtain ⟨w, hw⟩ := h5.resolve_left (fun y => y hz)
      exact ⟨w, by dsimp only; rw [hw, Nat.pow_succ, Nat.mul_assoc (5 ^ q) 5 d]⟩
  · rw [if_neg hz]
    exact ⟨⟨g, g0, g1, g2⟩, h2, Or.inl hz⟩
theorem red_all {a0 b0 : Nat} : ∀ (q p : Nat) (z : Nat × Nat), RedI a0 b0 p p z → RedI a0 b0 (p + q) (p + q) (redNs q z) := by
  intro q
  induction q with
  | zero => intro p z h; exact h
  | succ q ih =>
    intro p z h
    rw [redNs, show p + (q + 1) = p + 1 + q by omega]
    exact ih (p + 1) _ (red_5 (red_2 h))
theorem no_2 : ∀ m, m < 9 → ∀ w, ¬ 10 ^ m = 2 ^ m * 2 * w := by
  intro m hm w h
  match m, hm with
  | 0, _ | 1, _ | 2, _ | 3, _ | 4, _ | 5, _ | 6, _ | 7, _ | 8, _ => simp only [Nat.reducePow, Nat.reduceMul] at h; omega
  | m + 9, h => omega
theorem no_5 : ∀ m, m < 9 → ∀ w, ¬ 10 ^ m = 5 ^ m * 5 * w := by
  intro m hm w h
  match m, hm with
  | 0, _ | 1, _ | 2, _ | 3, _ | 4, _ | 5, _ | 6, _ | 7, _ | 8, _ => simp only [Nat.reducePow, Nat.reduceMul] at h; omega
  | m + 9, h => omega
theorem red_gcd {a m : Nat} (hm : m ≤ 8) : redNs m (a, 10 ^ m) = (a / Nat.gcd a (10 ^ m), 10 ^ m / Nat.gcd a (10 ^ m)) := by
  have h0 : RedI a (10 ^ m) 0 0 (a, 10 ^ m) := ⟨⟨1, by decide, (Nat.mul_one _).symm, (Nat.mul_one _).symm⟩, Or.inr ⟨1, by simp⟩, Or.inr ⟨1, by simp⟩⟩
  have h1 := red_all m 0 _ h0
  rw [Nat.zero_add] at h1
  generalize redNs m (a, 10 ^ m) = z at *
  obtain ⟨x, y⟩ := z
  obtain ⟨⟨g, g0, g1, g2⟩, h2, h5⟩ := h1
  dsimp only at *
  have n2 : ¬ (x % 2 = 0 ∧ y % 2 = 0) := by
    rcases h2 with h2 | ⟨w, hw⟩
    · exact h2
    · intro hz
      obtain ⟨d, rfl⟩ : ∃ d, y = 2 * d := ⟨y / 2, by omega⟩
      exact no_2 m (by omega) (d * w) (by rw [hw, ← Nat.mul_assoc (2 ^ m) 2 d, Nat.mul_assoc])
  have n5 : ¬ (x % 5 = 0 ∧ y % 5 = 0) := by
    rcases h5 with h5 | ⟨w, hw⟩
    · exact h5
    · intro hz
      obtain ⟨d, rfl⟩ : ∃ d, y = 5 * d := ⟨y / 5, by omega⟩
      exact no_5 m (by omega) (d * w) (by rw [hw, ← Nat.mul_assoc (5 ^ m) 5 d, Nat.mul_assoc])
  have c1 : Nat.gcd x y = 1 := by
    have d1 : Nat.gcd x y ∣ x := Nat.gcd_dvd_left x y
    have d2 : Nat.gcd x y ∣ y := Nat.gcd_dvd_right x y
    generalize Nat.gcd x y = e at *
    have e2 : ¬ 2 ∣ e := fun q => n2 ⟨Nat.mod_eq_zero_of_dvd (Nat.dvd_trans q d1), Nat.mod_eq_zero_of_dvd (Nat.dvd_trans q d2)⟩
    have e5 : ¬ 5 ∣ e := fun q => n5 ⟨Nat.mod_eq_zero_of_dvd (Nat.dvd_trans q d1), Nat.mod_eq_zero_of_dvd (Nat.dvd_trans q d2)⟩
    have hc : Nat.Coprime e 10 := by
      have k1 : Nat.gcd e 10 ∣ e := Nat.gcd_dvd_left e 10
      have k2 : Nat.gcd e 10 ∣ 10 := Nat.gcd_dvd_right e 10
      have k3 : Nat.gcd e 10 ≤ 10 := Nat.le_of_dvd (by decide) k2
      show Nat.gcd e 10 = 1
      generalize Nat.gcd e 10 = f at *
      obtain ⟨u, hu⟩ := k2
      have hf : f = 1 ∨ f = 2 ∨ f = 5 ∨ f = 10 := by
        match f, k3 with
        | 0, _ => omega
        | 1, _ => exact Or.inl rfl
        | 2, _ => exact Or.inr (Or.inl rfl)
        | 3, _ => omega
        | 4, _ => omega
        | 5, _ => exact Or.inr (Or.inr (Or.inl rfl))
        | 6, _ => omega
        | 7, _ => omega
        | 8, _ => omega
        | 9, _ => omega
        | 10, _ => exact Or.inr (Or.inr (Or.inr rfl))
        | f + 11, h => omega
      rcases hf with z | z | z | z
      · exact z
      · subst z; exact absurd k1 e2
      · subst z; exact absurd k1 e5
      · subst z; exact absurd (Nat.dvd_trans ⟨5, rfl⟩ k1) e2
    have hp : Nat.Coprime e (10 ^ m) := Nat.Coprime.pow_right m hc
    exact Nat.Coprime.eq_one_of_dvd hp (Nat.dvd_trans d2 ⟨g, g2⟩)
  have hg : Nat.gcd a (10 ^ m) = g := by
    conv => lhs; rw [g1, g2]
    rw [Nat.gcd_mul_right, c1, Nat.one_mul]
  rw [hg]
  have q1 : a / g = x := by rw [g1]; exact Nat.mul_div_cancel _ g0
  have q2 : 10 ^ m / g = y := by rw [g2]; exact Nat.mul_div_cancel _ g0
  rw [q1, q2]
theorem frost_eq {C : CS} {t s : Nat → Nat} (hI : RQ (cL C 0) (cO C 0) t s) (a : OV) (A : Nat → Nat) (r cell y x w : Int32) : (frostC C a r cell y x w).1 = (froQ t s A r cell y x w).1 := by
  obtain ⟨h, hL, hP, hw, hy, h2⟩ := id hI
  have o1 := h.1.1
  have o2 := h.1.2.1
  unfold frostC froQ rC hC
  rw [row_eq o1 hP.1, cell_eq hL o2]
  by_cases a1 : rowQ t r = false
  · rw [if_pos a1, if_pos a1]
  · rw [if_neg a1, if_neg a1]
    by_cases a2 : cellQ t cell = false
    · rw [if_pos a2, if_pos a2]
    · rw [if_neg a2, if_neg a2]
      by_cases a3 : withinC y 0 8 = false
      · rw [if_pos a3, if_pos a3]
      · rw [if_neg a3, if_neg a3]
        by_cases a4 : withinC x 0 10 = false
        · rw [if_pos a4, if_pos a4]
        · rw [if_neg a4, if_neg a4]
          by_cases a5 : withinC w 0 1 = false
          · rw [if_pos a5, if_pos a5]
          · rw [if_neg a5, if_neg a5]
            have a1' : rowQ t r = true := by cases z : rowQ t r; exact absurd z a1; rfl
            have a3' : withinC y 0 8 = true := by cases z : withinC y 0 8; exact absurd z a3; rfl
            have a4' : withinC x 0 10 = true := by cases z : withinC x 0 10; exact absurd z a4; rfl
            obtain ⟨c, hc, rfl⟩ := rowQ_ok h.1 a1'
            obtain ⟨m, -, hm, rfl⟩ := within_nI (a := 0) (b := 8) rfl rfl a3'
            obtain ⟨e, -, he, rfl⟩ := within_nI (a := 0) (b := 10) rfl rfl a4'
            rw [nI_clamp (show c < 2 ^ 31 by omega), nI_clamp (show m < 2 ^ 31 by omega), nI_clamp (show e < 2 ^ 31 by omega)]
            have hz : frostZ C a m (nI c) cell (nI e) = (lN (frAB t s c cell e m / Nat.gcd (frAB t s c cell e m) (10 ^ m)), lN (10 ^ m / Nat.gcd (frAB t s c cell e m) (10 ^ m))) := by
              unfold frostZ
              have e2m : 2 ^ m ≤ 256 := Nat.pow_le_pow_right (n := 2) (by decide) hm
              have p10 := p10_le hm
              rw [show (0 : Int64) = lN 0 from rfl, cas_eq hI hm hc he cell (2 ^ m) 0 0 a (by omega), show (1 : Int64) = lN (10 ^ 0) from rfl, p10_eq, Nat.zero_add]
              have l1 : frAB t s c cell e m < 2 ^ 31 := frAB_lt hm he
              show redFrom m (lN (frAB t s c cell e m), lN (10 ^ m)) = _
              rw [redFrom_eq m _ _ l1 (by omega), red_gcd hm]
            rw [hz]
            unfold frR
            dsimp only
            by_cases hw0 : w = 0
            · rw [if_pos hw0, if_pos hw0, lN_i]
            · rw [if_neg hw0, if_neg hw0, lN_i]
