/-! BOTH SIDES: what comes -/
/-- what both sides have in common at one time -/
def RQ (L : LV) (o : OV) (t s : Nat → Nat) : Prop := Sn t s ∧ RLd L t ∧ RP t s o ∧ RW s o.2.2.2.2.2.2.1 ∧ s 0 ≤ 1280 ∧ 0 < t 2 ∧ (∀ p, p < 4 → s (1 + p) ≤ 123 * s 0)
theorem cp4_at (a b : Nat → Int32) (k : Nat) (hk : k < 4) : cp4 a b k = b k := by
  unfold cp4 upd
  match k, hk with
  | 0, _ => rfl
  | 1, _ => rfl
  | 2, _ => rfl
  | 3, _ => rfl
  | k + 4, h => exact absurd h (by omega)
theorem cpFrom_at {N : Nat} (hN : N ≤ 3) (rs2 : Nat → RV) : ∀ (q r : Nat) (rs : Nat → RV), r + q = 3 → ∀ x, x < N → cpFrom (nI N) rs2 q r rs x = if r ≤ x then cpRow (rs x) (rs2 x) else rs x := by
  intro q
  induction q with
  | zero => intro r rs hq x hx; rw [cpFrom, if_neg (by omega)]
  | succ q ih =>
    intro r rs hq x hx
    rw [cpFrom]
    by_cases h : N ≤ r
    · rw [if_pos (nI_le h (by omega)), if_neg (by omega)]
    · rw [if_neg (nI_ge (by omega) (by omega)), ih (r + 1) _ (by omega) x hx]
      by_cases hxr : x = r
      · subst hxr; rw [if_neg (by omega), if_pos (Nat.le_refl _), va_up_self]
      · rw [va_up_ne _ _ hxr]
        by_cases h2 : r ≤ x
        · rw [if_pos (by omega), if_pos h2]
        · rw [if_neg (by omega), if_neg h2]
theorem copy_P {t s : Nat → Nat} (h : Sn t s) {b : OV} (hP : RP t s b) (a : OV) : RP t s (copyC a b) ∧ (RW s b.2.2.2.2.2.2.1 → RW s (copyC a b).2.2.2.2.2.2.1) := by
  obtain ⟨p1, p2, p3, p4, p5, p6⟩ := hP
  have o1 := h.1.1
  refine ⟨⟨p1, p2, p3, p4, p5, fun r hr => ?_⟩, fun hw p hp => ?_⟩
  · show RowR t s r (cpFrom b.1 b.2.2.2.2.2.2.2 3 0 a.2.2.2.2.2.2.2 r)
    rw [p1, cpFrom_at o1 _ 3 0 _ rfl r hr, if_pos (Nat.zero_le _)]
    obtain ⟨r1, r2, r3, r4, r5⟩ := p6 r hr
    have o5 := h.1.2.2.2.2.1 r (by omega)
    refine ⟨r1, r2, r3, r4, fun k hk => ?_⟩
    show cp4 _ _ k = _
    rw [cp4_at _ _ k (by omega)]
    exact r5 k hk
  · show cp4 _ _ p = _
    rw [cp4_at _ _ p hp]
    exact hw p hp
theorem fc4 : ∀ r, r < 3 → (nI r = -1 ↔ nI r = -4) := fun r hr => by
  rcases (show r = 0 ∨ r = 1 ∨ r = 2 by omega) with z | z | z <;> subst z <;> decide
theorem yr_P {t s : Nat → Nat} (h : Sn t s) {L : LV} (hL : RLd L t) {o : OV} (hP : RP t s o) (hy : s 0 < 2 ^ 31) : Sn t (passM t s (-1)) ∧ RP t (passM t s (-1)) (goYearC L (-4) o) ∧ passM t s (-1) 0 = s 0 + 1 ∧ (∀ q, q < 3 → passM t s (-1) (8 + q) = s (8 + q)) := year_P h hL hP hy fc4
theorem run_P {t : Nat → Nat} {L : LV} (hL : RLd L t) : ∀ (m : Nat) (s : Nat → Nat) (o : OV), Sn t s → RP t s o → s 0 + m < 2 ^ 31 → Sn t (passN t m s) ∧ RP t (passN t m s) (goYs L (-4) m o) := by
  intro m
  induction m with
  | zero => intro s o h hP _; exact ⟨h, hP⟩
  | succ m ih =>
    intro s o h hP hy
    obtain ⟨g1, g2, g3, -⟩ := yr_P h hL hP (by omega)
    rw [passN, goYs]
    exact ih _ _ g1 g2 (by omega)
theorem runs_W {t : Nat → Nat} {L : LV} (hL : RLd L t) : ∀ (m : Nat) (s : Nat → Nat) (o : OV), Sn t s → RP t s o → RW s o.2.2.2.2.2.2.1 → s 0 + m < 2 ^ 31 → Sn t (passN t m s) ∧ RP t (passN t m s) (yearsC L m o) ∧ RW (passN t m s) (yearsC L m o).2.2.2.2.2.2.1 ∧ passN t m s 0 = s 0 + m := by
  intro m
  induction m with
  | zero => intro s o h hP hw _; exact ⟨h, hP, hw, rfl⟩
  | succ m ih =>
    intro s o h hP hw hy
    obtain ⟨g1, -, g3, -⟩ := yr_P h hL hP (by omega)
    obtain ⟨w1, w2⟩ := year_W h hL hP hw (by omega)
    rw [passN, yearsC]
    obtain ⟨k1, k2, k3, k4⟩ := ih _ _ g1 w1 w2 (by omega)
    exact ⟨k1, k2, k3, by omega⟩
theorem within_iff {N : Nat} (hN : N < 1000) (x : Int32) : withinC x 0 (nI N - 1) = true ↔ ∃ c : Nat, c < N ∧ x = nI c := by
  refine ⟨fun h => wQ_ok hN h, ?_⟩
  rintro ⟨c, hc, rfl⟩
  obtain ⟨k, rfl⟩ : ∃ k, N = k + 1 := ⟨N - 1, by omega⟩
  unfold withinC
  rw [if_neg (nI_pos (by omega)), nI_pred, if_neg (nI_nlt (by omega) (by omega))]
theorem nI_n3 {a : Nat} (h : a < 3) : ¬ (3 : Int32) ≤ nI a := nI_ge (b := 3) h (by decide)
theorem row_eq {t : Nat → Nat} {n : Int32} (h2 : t 2 ≤ 3) (hn : n = nI (t 2)) (r : Int32) : orHoldsC n r = rowQ t r := by
  subst hn
  rw [Bool.eq_iff_iff]
  unfold rowQ
  rw [within_iff (by omega)]
  unfold orHoldsC
  constructor
  · intro h
    obtain ⟨j, hj, rfl⟩ := orHolds_nI (rc := nI (t 2)) (r := r) h
    split at h
    · cases h
    · split at h
      · cases h
      · rename_i h1
        refine ⟨j, ?_, rfl⟩
        rcases Nat.lt_or_ge j (t 2) with q | q
        · exact q
        · exact absurd (nI_le q (by omega)) h1
  · rintro ⟨c, hc, rfl⟩
    rw [if_neg (nI_pos (by omega)), if_neg (nI_ge hc (by omega)), if_neg (nI_n3 (by omega))]
theorem li_wi {t : Nat → Nat} {L : LV} (hL : RLd L t) : L.2.2.2.1 * L.2.2.2.2.1 = nI (t 0) := by
  obtain ⟨⟨ln, l1, l2, l3⟩, l4, -⟩ := hL
  rw [l2, l4, l3]
  exact (Int32.ofNat_mul ln (t 1)).symm
theorem cell_eq {t : Nat → Nat} {L : LV} (hL : RLd L t) (h0 : t 0 ≤ 36) (x : Int32) : holdsC L.2.2.2.1 L.2.2.2.2.1 x = cellQ t x := by
  rw [Bool.eq_iff_iff]
  unfold cellQ
  rw [within_iff (by omega)]
  unfold holdsC
  rw [li_wi hL]
  constructor
  · intro h
    split at h
    · cases h
    · rename_i h0
      split at h
      · cases h
      · rename_i h1
        obtain ⟨j, hj, rfl⟩ := nI_of h0
        refine ⟨j, ?_, rfl⟩
        rcases Nat.lt_or_ge j (t 0) with q | q
        · exact q
        · exact absurd (nI_le q (by omega)) h1
  · rintro ⟨c, hc, rfl⟩
    rw [if_neg (nI_pos (by omega)), if_neg (nI_ge hc (by omega)), if_neg (nI_n36 (by omega))]
theorem own_eq (p : Int32) : isOwnC p = withinC p 0 3 := by
  unfold isOwnC withinC
  have e : (4 ≤ p) = (3 < p) := propext (by
    rw [Int32.le_iff_toInt_le, Int32.lt_iff_toInt_lt]
    have a : (4 : Int32).toInt = 4 := by decide
    have b : (3 : Int32).toInt = 3 := by decide
    omega)
  simp only [e]
theorem first_eq {t s : Nat → Nat} (h : OkS t s) {o : OV} (hP : RP t s o) {r : Nat} (hr : r < t 2) : (o.2.2.2.2.2.2.2 r).2.2.2.2 0 = nI (s (11 + 4 * r)) := (hP.2.2.2.2.2 r hr).2.2.2.2 0 (by have := h.2.2.2.2.2.2.2.2.1 r hr; omega)
theorem firstR_eq {t s : Nat → Nat} (h : OkS t s) {o : OV} (hP : RP t s o) {r : Nat} (hr : r < t 2) : firstR o (nI r) = nI (s (11 + 4 * r)) := by
  have h1 := h.1
  unfold firstR
  rw [row_eq h1 hP.1]
  have : rowQ t (nI r) = true := by unfold rowQ; exact (within_iff (by omega) _).mpr ⟨r, hr, rfl⟩
  rw [if_pos this, nI_clamp (by omega)]
  exact first_eq h hP hr
theorem orDit_0 (o : OV) : orDit o 0 = o := by
  unfold orDit
  have e : o.2.2.1 ||| 0 = o.2.2.1 := gb_ext (fun j => by rw [gb_or, gb_0, Bool.or_false])
  rw [e]
theorem behind_eq {C : CS} {t s : Nat → Nat} (hI : RQ (cL C 0) (cO C 0) t s) (a : OV) (A : Nat → Nat) (x r : Int32) : (behindC C a x r).1 = (behQ t s A x r).1 := by
  obtain ⟨h, hL, hP, hw, hy, h2⟩ := hI
  have o1 := h.1.1
  unfold behindC behQ rC
  rw [row_eq o1 hP.1]
  by_cases a1 : withinC x 0 60 = false
  · rw [if_pos a1, if_pos a1]
  · rw [if_neg a1, if_neg a1]
    by_cases a2 : rowQ t r = false
    · rw [if_pos a2, if_pos a2]
    · rw [if_neg a2, if_neg a2]
      have a1' : withinC x 0 60 = true := by cases z : withinC x 0 60; exact absurd z a1; rfl
      have a2' : rowQ t r = true := by cases z : rowQ t r; exact absurd z a2; rfl
      obtain ⟨m, -, hm, rfl⟩ := within_nI (a := 0) (b := 60) rfl rfl a1'
      obtain ⟨c, hc, rfl⟩ := rowQ_ok h.1 a2'
      rw [nI_clamp (by omega), nI_clamp (by omega)]
      obtain ⟨g1, g2⟩ := run_P hL m s _ h (copy_P h hP a).1 (by omega)
      show firstR (ftbA C a m 0) (nI c) = nI (passN t m s (11 + 4 * c))
      unfold ftbA
      rw [orDit_0]
      exact firstR_eq g1.1 g2 hc
theorem ownR_eq {s : Nat → Nat} {o : OV} (hw : RW s o.2.2.2.2.2.2.1) {p : Nat} (hp : p < 4) : ownR o (nI p) = nI (s (1 + p)) := by
  unfold ownR
  have : isOwnC (nI p) = true := by
    rcases (show p = 0 ∨ p = 1 ∨ p = 2 ∨ p = 3 by omega) with z | z | z | z <;> subst z <;> decide
  rw [if_pos this, nI_clamp (by omega)]
  exact hw p hp
theorem wealth_eq {C : CS} {t s : Nat → Nat} (hI : RQ (cL C 0) (cO C 0) t s) (a : OV) (A : Nat → Nat) (x p : Int32) : (wealthC C a x p).1 = (weaQ t s A x p).1 := by
  obtain ⟨h, hL, hP, hw, hy, h2⟩ := hI
  unfold wealthC weaQ
  rw [own_eq]
  by_cases a1 : withinC x 0 60 = false
  · rw [if_pos a1, if_pos a1]
  · rw [if_neg a1, if_neg a1]
    by_cases a2 : withinC p 0 3 = false
    · rw [if_pos a2, if_pos a2]
    · rw [if_neg a2, if_neg a2]
      have a1' : withinC x 0 60 = true := by cases z : withinC x 0 60; exact absurd z a1; rfl
      have a2' : withinC p 0 3 = true := by cases z : withinC p 0 3; exact absurd z a2; rfl
      obtain ⟨m, -, hm, rfl⟩ := within_nI (a := 0) (b := 60) rfl rfl a1'
      obtain ⟨c, -, hc, rfl⟩ := within_nI (a := 0) (b := 3) rfl rfl a2'
      rw [nI_clamp (by omega), nI_clamp (by omega)]
      obtain ⟨k1, k2⟩ := copy_P h hP a
      obtain ⟨g1, g2, g3, -⟩ := runs_W hL m s _ h k1 (k2 hw) (by omega)
      show ownR (obA C a m 0) (nI c) = nI (passN t m s (1 + c))
      unfold obA
      rw [orDit_0]
      exact ownR_eq g3 (by omega)
theorem com_eq {t : Nat → Nat} {L : LV} (hL : RLd L t) {r : Nat} (hr : r < t 2) (x : Int32) : ∀ (q k : Nat) (s : Nat → Nat) (o : OV), Sn t s → RP t s o → s 0 + q < 2 ^ 31 → (comFrom L r x q k o).1 = comN t x r q k s := by
  intro q
  induction q with
  | zero => intro k s o _ _ _; rfl
  | succ q ih =>
    intro k s o h hP hy
    rw [comFrom, comN, first_eq h.1 hP hr]
    by_cases hx : nI (s (11 + 4 * r)) = x
    · rw [if_pos hx, if_pos hx]
    · rw [if_neg hx, if_neg hx]
      obtain ⟨g1, g2, g3, -⟩ := yr_P h hL hP (by omega)
      exact ih (k + 1) _ _ g1 g2 (by omega)
theorem comes_eq {C : CS} {t s : Nat → Nat} (hI : RQ (cL C 0) (cO C 0) t s) (a : OV) (A : Nat → Nat) (r x : Int32) : (comesC C a r x).1 = (comQ t s A r x).1 := by
  obtain ⟨h, hL, hP, hw, hy, h2⟩ := hI
  have o1 := h.1.1
  have o2 := h.1.2.1
  unfold comesC comQ rC hC
  rw [row_eq o1 hP.1, cell_eq hL o2]
  by_cases a1 : rowQ t r = false
  · rw [if_pos a1, if_pos a1]
  · rw [if_neg a1, if_neg a1]
    by_cases a2 : cellQ t x = false
    · rw [if_pos a2, if_pos a2]
    · rw [if_neg a2, if_neg a2]
      have a1' : rowQ t r = true := by cases z : rowQ t r; exact absurd z a1; rfl
      obtain ⟨c, hc, rfl⟩ := rowQ_ok h.1 a1'
      rw [nI_clamp (by omega)]
      exact com_eq hL hc x 61 0 s _ h (copy_P h hP a).1 (by omega)
theorem sideC_iff (li wi : Int32) {n : Nat} (hn : n ≤ 4) (v : Nat → Int32) (cs : Int64) : sideC li wi (nI n) v cs = true ↔ ∃ k, k < n ∧ besC li wi (v k) cs = true := by
  unfold sideC
  match n, hn with
  | 0, _ => rw [if_pos (by decide)]; exact ⟨fun q => (by cases q), fun ⟨k, hk, _⟩ => absurd hk (by omega)⟩
  | 1, _ =>
    rw [if_neg (by decide)]
    constructor
    · intro h
      split at h
      · rename_i q; exact ⟨0, by omega, q⟩
      · rw [if_pos (by decide)] at h; cases h
    · rintro ⟨k, hk, q⟩
      rw [show k = 0 by omega] at q
      rw [if_pos q]
  | 2, _ =>
    rw [if_neg (by decide)]
    constructor
    · intro h
      split at h
      · rename_i q; exact ⟨0, by omega, q⟩
      · rw [if_neg (by decide)] at h
        split at h
        · rename_i q; exact ⟨1, by omega, q⟩
        · rw [if_pos (by decide)] at h; cases h
    · rintro ⟨k, hk, q⟩
      by_cases b0 : besC li wi (v 0) cs = true
      · rw [if_pos b0]
      · rw [if_neg b0, if_neg (by decide)]
        rcases (show k = 0 ∨ k = 1 by omega) with z | z <;> subst z
        · exact absurd q b0
        · rw [if_pos q]
  | 3, _ =>
    rw [if_neg (by decide)]
    constructor
    · intro h
      split at h
      · rename_i q; exact ⟨0, by omega, q⟩
      · rw [if_neg (by decide)] at h
        split at h
        · rename_i q; exact ⟨1, by omega, q⟩
        · rw [if_neg (by decide)] at h
          split at h
          · rename_i q; exact ⟨2, by omega, q⟩
          · rw [if_pos (by decide)] at h; cases h
    · rintro ⟨k, hk, q⟩
      by_cases b0 : besC li wi (v 0) cs = true
      · rw [if_pos b0]
      · rw [if_neg b0, if_neg (by decide)]
        by_cases b1 : besC li wi (v 1) cs = true
        · rw [if_pos b1]
        · rw [if_neg b1, if_neg (by decide)]
          rcases (show k = 0 ∨ k = 1 ∨ k = 2 by omega) with z | z | z <;> subst z
          · exact absurd q b0
          · exact absurd q b1
          · rw [if_pos q]
  | 4, _ =>
    rw [if_neg (by decide)]
    constructor
    · intro h
      split at h
      · rename_i q; exact ⟨0, by omega, q⟩
      · rw [if_neg (by decide)] at h
        split at h
        · rename_i q; exact ⟨1, by omega, q⟩
        · rw [if_neg (by decide)] at h
          split at h
          · rename_i q; exact ⟨2, by omega, q⟩
          · rw [if_neg (by decide)] at h
            split at h
            · rename_i q; exact ⟨3, by omega, q⟩
            · cases h
    · rintro ⟨k, hk, q⟩
      by_cases b0 : besC li wi (v 0) cs = true
      · rw [if_pos b0]
      · rw [if_neg b0, if_neg (by decide)]
        by_cases b1 : besC li wi (v 1) cs = true
        · rw [if_pos b1]
        · rw [if_neg b1, if_neg (by decide)]
          by_cases b2 : besC li wi (v 2) cs = true
          · rw [if_pos b2]
          · rw [if_neg b2, if_neg (by decide)]
            rcases (show k = 0 ∨ k = 1 ∨ k = 2 ∨ k = 3 by omega) with z | z | z | z <;> subst z
            · exact absurd q b0
            · exact absurd q b1
            · exact absurd q b2
            · rw [if_pos q]
  | n + 5, h => exact absurd h (by omega)
theorem sdIn_iff (t s : Nat → Nat) (r q k : Nat) : ∀ (u d : Nat) (b : Bool), sdIn t s r q k u d b = true ↔ b = true ∨ ∃ e, d ≤ e ∧ e < d + u ∧ ¬ besM t (s (11 + 4 * r + k)) (nI e) = -4 ∧ treeM t s (besM t (s (11 + 4 * r + k)) (nI e)).toNatClampNeg = nI q := by
  intro u
  induction u with
  | zero => intro d b; rw [sdIn]; exact ⟨Or.inl, fun h => h.elim id (fun ⟨e, h1, h2, _⟩ => absurd h2 (by omega))⟩
  | succ u ih =>
    intro d b
    rw [sdIn, ih]
    constructor
    · rintro (h | ⟨e, h1, h2, h3⟩)
      · split at h
        · rename_i hb; exact Or.inl hb
        · split at h
          · cases h
          · split at h
            · rename_i g1 g2; exact Or.inr ⟨d, Nat.le_refl _, by omega, g1, g2⟩
            · cases h
      · exact Or.inr ⟨e, by omega, by omega, h3⟩
    · rintro (h | ⟨e, h1, h2, h3, h4⟩)
      · left; rw [if_pos h]
      · by_cases hed : e = d
        · subst hed
          left
          by_cases hb : b = true
          · rw [if_pos hb]
          · rw [if_neg hb, if_neg h3, if_pos h4]
        · exact Or.inr ⟨e, by omega, by omega, h3, h4⟩
theorem sdOut_iff (t s : Nat → Nat) (r q : Nat) : ∀ (u k : Nat) (b : Bool), sdOut t s r q u k b = true ↔ b = true ∨ ∃ j, k ≤ j ∧ j < k + u ∧ ∃ e, e < 4 ∧ ¬ besM t (s (11 + 4 * r + j)) (nI e) = -4 ∧ treeM t s (besM t (s (11 + 4 * r + j)) (nI e)).toNatClampNeg = nI q := by
  intro u
  induction u with
  | zero => intro k b; rw [sdOut]; exact ⟨Or.inl, fun h => h.elim id (fun ⟨e, h1, h2, _⟩ => absurd h2 (by omega))⟩
  | succ u ih =>
    intro k b
    rw [sdOut, ih, sdIn_iff]
    constructor
    · rintro ((h | ⟨e, h1, h2, h3⟩) | ⟨j, h1, h2, h3⟩)
      · exact Or.inl h
      · exact Or.inr ⟨k, Nat.le_refl _, by omega, e, by omega, h3⟩
      · exact Or.inr ⟨j, by omega, by omega, h3⟩
    · rintro (h | ⟨j, h1, h2, e, h3, h4⟩)
      · exact Or.inl (Or.inl h)
      · by_cases hj : j = k
        · subst hj; exact Or.inl (Or.inr ⟨e, Nat.zero_le _, by omega, h4⟩)
        · exact Or.inr ⟨j, by omega, by omega, e, h3, h4⟩
theorem side_eq {t s : Nat → Nat} (h : Sn t s) {L : LV} (hL : RLd L t) {o : OV} (hP : RP t s o) {r q : Nat} (hr : r < t 2) (hq : q < t 2) : sideO L o r q = sideM t s r q := by
  obtain ⟨o1, o2, o3, o4, o5, o6, o7, o8, o9, o10, o11⟩ := id h.1
  obtain ⟨r1, r2, r3, r4, r5⟩ := hP.2.2.2.2.2 r hr
  obtain ⟨q1, q2, q3, q4, q5⟩ := hP.2.2.2.2.2 q hq
  have o5r := o5 r (by omega)
  rw [Bool.eq_iff_iff]
  unfold sideO sideM
  rw [r1, q1, sideC_iff _ _ o5r, sdOut_iff]
  have key : ∀ k, k < s (8 + r) → (besC L.2.2.2.1 L.2.2.2.2.1 ((o.2.2.2.2.2.2.2 r).2.2.2.2 k) (rowCellsC (nI (s (8 + q))) (o.2.2.2.2.2.2.2 q).2.2.2.2) = true ↔ ∃ e, e < 4 ∧ ¬ besM t (s (11 + 4 * r + k)) (nI e) = -4 ∧ treeM t s (besM t (s (11 + 4 * r + k)) (nI e)).toNatClampNeg = nI q) := by
    intro k hk
    have hc := o10 r hr k hk
    rw [besC_iff, r5 k hk]
    have one : ∀ e, e < 4 → (ctn (rowCellsC (nI (s (8 + q))) (o.2.2.2.2.2.2.2 q).2.2.2.2) (nextC L.2.2.2.1 L.2.2.2.2.1 (nI (s (11 + 4 * r + k))) (nI e)) = true ↔ ¬ besM t (s (11 + 4 * r + k)) (nI e) = -4 ∧ treeM t s (besM t (s (11 + 4 * r + k)) (nI e)).toNatClampNeg = nI q) := by
      intro e he
      rw [bes_eq h.1 hL hc he]
      rcases bes_ok h.1 hc (nI e) with z | ⟨c0, h0, z⟩
      · rw [z, ctn_no]; exact ⟨fun y => (by cases y), fun y => absurd rfl y.1⟩
      · rw [z, ctn_gb _ (by omega), rowCells_iff (o5 q (by omega)) (o6 q (by omega)) q5, nI_clamp (by omega), treeM_is h (by omega) hq]
        exact ⟨fun y => ⟨nI_not4 (by omega), y⟩, fun y => y.2⟩
    exact ⟨fun ⟨e, he, y⟩ => ⟨e, he, (one e he).mp y⟩, fun ⟨e, he, y⟩ => ⟨e, he, (one e he).mpr y⟩⟩
  constructor
  · rintro ⟨k, hk, y⟩
    exact Or.inr ⟨k, Nat.zero_le _, by omega, (key k hk).mp y⟩
  · rintro (y | ⟨k, -, hk, y⟩)
    · cases y
    · exact ⟨k, by omega, (key k (by omega)).mpr y⟩
theorem met_eq {t : Nat → Nat} {L : LV} (hL : RLd L t) {r p : Nat} (hr : r < t 2) (hp : p < t 2) : ∀ (q k : Nat) (s : Nat → Nat) (o : OV), Sn t s → RP t s o → s 0 + q < 2 ^ 31 → (metFrom L r p q k o).1 = metN t r p q k s := by
  intro q
  induction q with
  | zero => intro k s o _ _ _; rfl
  | succ q ih =>
    intro k s o h hP hy
    rw [metFrom, metN, side_eq h hL hP hr hp]
    by_cases hx : sideM t s r p = true
    · rw [if_pos hx, if_pos hx]
    · rw [if_neg hx, if_neg hx]
      obtain ⟨g1, g2, g3, -⟩ := yr_P h hL hP (by omega)
      exact ih (k + 1) _ _ g1 g2 (by omega)
theorem meet_eq {C : CS} {t s : Nat → Nat} (hI : RQ (cL C 0) (cO C 0) t s) (a : OV) (A : Nat → Nat) (r q : Int32) : (meetC C a r q).1 = (metQ t s A r q).1 := by
  obtain ⟨h, hL, hP, hw, hy, h2⟩ := hI
  have o1 := h.1.1
  unfold meetC metQ rC
  rw [row_eq o1 hP.1, row_eq o1 hP.1]
  by_cases a1 : rowQ t r = false
  · rw [if_pos a1, if_pos a1]
  · rw [if_neg a1, if_neg a1]
    by_cases a2 : rowQ t q = false
    · rw [if_pos a2, if_pos a2]
    · rw [if_neg a2, if_neg a2]
      by_cases a3 : r = q
      · rw [if_pos a3, if_pos a3]
      · rw [if_neg a3, if_neg a3]
        have a1' : rowQ t r = true := by cases z : rowQ t r; exact absurd z a1; rfl
        have a2' : rowQ t q = true := by cases z : rowQ t q; exact absurd z a2; rfl
        obtain ⟨c, hc, rfl⟩ := rowQ_ok h.1 a1'
        obtain ⟨e, he, rfl⟩ := rowQ_ok h.1 a2'
        rw [nI_clamp (by omega), nI_clamp (by omega)]
        exact met_eq hL hc he 61 0 s _ h (copy_P h hP a).1 (by omega)
