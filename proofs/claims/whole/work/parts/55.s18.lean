/-! BOTH SIDES: a row's item, whole (2); a line's item -/
theorem row_self {t s : Nat → Nat} {rs : Nat → RV} {r : Nat} {v : RV} (h : RowR t s r v) : RowR t s r (va_up rs r v r) := by rw [va_up_self]; exact h
theorem row_ne {t s : Nat → Nat} {rs : Nat → RV} {r q : Nat} {v : RV} (hq : q ≠ r) (h : RowR t s q (rs q)) : RowR t s q (va_up rs r v q) := by rw [va_up_ne _ _ hq]; exact h
section S18
variable {K : Nat} {le : Nat → Int32} {D : MS} {p : Nat} {dr be : Nat → Nat}
theorem cl_t4 (h : TxK K le D) (hp : p < 900) (nums : Nat → Int32) (z : (rnFrom K le (nI D.1.1) 7 0 0 (nI p) nums).1 = true) (hm : ∀ m, m < 4 → ¬ (rnFrom K le (nI D.1.1) 7 0 0 (nI p) nums).2.1 = nI m) : (fgP D p = true ∧ chP D (enP D p) 44 = true) ∧ (fgP D (enP D p + 1) = true ∧ chP D (enP D (enP D p + 1)) 44 = true) ∧ (fgP D (enP D (enP D p + 1) + 1) = true ∧ chP D (enP D (enP D (enP D p + 1) + 1)) 44 = true) := by
  have n1 := (en_le (D := D) (p := p)).1
  have n2 := (en_le (D := D) (p := (enP D p + 1))).1
  obtain ⟨k1, k2⟩ := cl_tt h hp nums z (fun m hm' => hm m (by omega))
  refine ⟨k1, k2, ?_⟩
  rw [cl3 h hp nums k1 k2 4] at z hm
  by_cases c3 : fgP D (enP D (enP D p + 1) + 1) = true
  · by_cases d3 : chP D (enP D (enP D (enP D p + 1) + 1)) 44 = true
    · exact ⟨c3, d3⟩
    · exfalso
      by_cases f3 : chP D (enP D (enP D (enP D p + 1) + 1)) 59 = true
      · rw [rn_59 h (by omega) c3 f3] at hm
        exact hm 3 (by omega) rfl
      · rw [rn_el h (by omega) d3 f3] at z; cases z
  · rw [rn_no h (by omega) (bf c3)] at z; cases z
theorem cl4 (h : TxK K le D) (hp : p < 900) (nums : Nat → Int32) (c1 : fgP D p = true ∧ chP D (enP D p) 44 = true) (c2 : fgP D (enP D p + 1) = true ∧ chP D (enP D (enP D p + 1)) 44 = true) (c3 : fgP D (enP D (enP D p + 1) + 1) = true ∧ chP D (enP D (enP D (enP D p + 1) + 1)) 44 = true) : (rnFrom K le (nI D.1.1) 7 0 0 (nI p) nums) = rnFrom K le (nI D.1.1) 4 3 (nI 3) (nI (enP D (enP D (enP D p + 1) + 1) + 1)) (upd (upd (upd nums 0 (nI (vaP D p))) 1 (nI (vaP D (enP D p + 1)))) 2 (nI (vaP D (enP D (enP D p + 1) + 1)))) := by
  have n1 := (en_le (D := D) (p := p)).1
  have n2 := (en_le (D := D) (p := (enP D p + 1))).1
  rw [cl3 h hp nums c1 c2 4, rn_44 h (by omega) c3.1 c3.2]
  rfl
theorem row_PT {L : LV} {O : OV} {t s : Nat → Nat} {k b d : Nat} (hD : DR L O t s) (hr : t 2 < 3) (hd : d < 4) : PT (rowD t k b) (t 2) O.2.2.2.2.1 0 (O.2.2.2.2.2.2.2 (t 2)).2.2.2.2 (rowB t s d) := by
  obtain ⟨⟨hI, hS⟩, hL, hP, hW⟩ := hD
  obtain ⟨i1, i2, i3, i4, i5, i6, i7, i8, i9, i10, i11, i12, i13⟩ := hI
  obtain ⟨p1, p2, p3, p4, p5, p6⟩ := hP
  obtain ⟨y0, y1, y2⟩ := rowD_at t k b hr
  have eo : ∀ j, j < 75 → j ≠ 2 → rowD t k b j = t j := fun j hj hh => by unfold rowD; rw [va_up_ne _ _ (by omega), va_up_ne _ _ (by omega), va_up_ne _ _ (by omega)]
  have eb : ∀ j, j ≠ 5 + t 2 → rowB t s d j = s j := fun j hj => by unfold rowB; rw [va_up_ne _ _ hj]
  have eb5 : rowB t s d (5 + t 2) = d := by unfold rowB; rw [va_up_self]
  have z8 : s (8 + t 2) = 0 := i13 (t 2) (by omega) hr
  have tin : ∀ q j, q < 3 → (TrIn (rowB t s d) q j ↔ TrIn s q j) := fun q j hq => by
    unfold TrIn
    rw [eb _ (by omega)]
    exact ⟨fun ⟨k, a, b⟩ => ⟨k, a, by rw [← eb (11 + 4 * q + k) (by omega)]; exact b⟩, fun ⟨k, a, b⟩ => ⟨k, a, by rw [eb _ (by omega)]; exact b⟩⟩
  have tany : ∀ j, TrAny t s j ↔ TrAny (rowD t k b) (rowB t s d) j := fun j => by
    unfold TrAny
    rw [y2]
    constructor
    · rintro ⟨q, a, b⟩
      exact ⟨q, by omega, (tin q j (by omega)).mpr b⟩
    · rintro ⟨q, a, b⟩
      have b' := (tin q j (by omega)).mp b
      by_cases hq : q = t 2
      · obtain ⟨k, g, -⟩ := b'
        rw [hq, z8] at g
        omega
      · exact ⟨q, by omega, b'⟩
  have sz : ∀ q, q < t 2 + 1 → ∀ k, k < s (8 + q) → q < t 2 := fun q hq k hk => by
    by_cases y : q = t 2
    · rw [y, z8] at hk; omega
    · omega
  refine ⟨⟨by rw [y2]; omega, by rw [y0]; exact i2, by rw [y1]; exact i3, by rw [y0, y1]; exact i4, fun r hq => by rw [eb _ (by omega)]; exact i5 r hq, fun r hq k hk => by rw [eb _ (by omega)]; exact i6 r hq k hk, fun i hi => by rw [eo _ (by omega) (by omega)]; exact i7 i hi, fun r hq => ?_, fun q hq k hk => ?_, fun j hj => by rw [eb _ (by omega)]; exact i10 j hj, fun c hc => by rw [eb _ (by omega)]; exact i11 c hc, fun q1 q2 a b g1 g2 g3 g4 g5 => ?_, fun r g1 g2 => ?_⟩, y2, ?_, fun k hk => ?_, fun j => ?_⟩
  · by_cases y : r = t 2
    · rw [y, eb5]; omega
    · rw [eb _ (by omega)]; exact i8 r hq
  · rw [y2] at hq
    rw [eb _ (by omega)] at hk
    rw [eb _ (by omega), y0]
    exact i9 q (sz q hq k hk) k hk
  · rw [y2] at g1 g2
    rw [eb _ (by omega)] at g3 g4
    rw [eb _ (by omega), eb _ (by omega)] at g5
    exact i12 q1 q2 a b (sz q1 g1 a g3) (sz q2 g2 b g4) g3 g4 g5
  · rw [y2] at g1
    rw [eb _ (by omega)]
    exact i13 r (by omega) g2
  · rw [eb _ (by omega), z8]; rfl
  · rw [eb _ (by omega), z8] at hk; omega
  · rw [p5 j, ← tany j]
    constructor
    · rintro ⟨a, b | b⟩
      · have := i11 j a; omega
      · exact b
    · intro b
      obtain ⟨q, a1, k, a2, a3⟩ := b
      have g1 := i5 q (by omega)
      have g2 := i6 q (by omega) k (by omega)
      rw [a3] at g2
      exact ⟨g2, Or.inr ⟨q, a1, k, a2, a3⟩⟩
theorem row_DR {L : LV} {O : OV} {t s s' : Nat → Nat} {k b d : Nat} {ta : Int64} {sz v0 v1 v2 : Int32} {tt : Nat → Int32} (hD : DR L O t s) (hr : t 2 < 3) (hL' : RLd L (rowD t k b)) (c : PT (rowD t k b) (t 2) ta sz tt s') (b4 : 1 ≤ s' (8 + t 2)) (b5 : ∀ j, j < 59 → (j ≠ 8 + t 2 ∧ (j < 11 + 4 * t 2 ∨ 15 + 4 * t 2 ≤ j)) → s' j = rowB t s d j) (e0 : v0 = nI k) (e1 : v1 = nI d) (e2 : v2 = nI b) : DR L (O.1 + 1, O.2.1, O.2.2.1, O.2.2.2.1, ta, O.2.2.2.2.2.1, O.2.2.2.2.2.2.1, va_up O.2.2.2.2.2.2.2 (t 2) (sz, v0, v1, v2, tt)) (rowD t k b) s' := by
  obtain ⟨⟨hI, hS⟩, hL, hP, hW⟩ := hD
  obtain ⟨i1, i2, i3, i4, i5, i6, i7, i8, i9, i10, i11, i12, i13⟩ := hI
  obtain ⟨p1, p2, p3, p4, p5, p6⟩ := hP
  obtain ⟨y0, y1, y2⟩ := rowD_at t k b hr
  obtain ⟨c1, c2, c3, c4, c5⟩ := c
  have eb : ∀ j, j ≠ 5 + t 2 → rowB t s d j = s j := fun j hj => by unfold rowB; rw [va_up_ne _ _ hj]
  have eb5 : rowB t s d (5 + t 2) = d := by unfold rowB; rw [va_up_self]
  have f8 : ∀ q, q < t 2 → ∀ j, (j = 5 + q ∨ j = 8 + q ∨ (11 + 4 * q ≤ j ∧ j < 15 + 4 * q)) → s' j = s j := fun q hq j hj => by
    rw [b5 j (by omega) (by omega), eb _ (by omega)]
  have f0 : ∀ j, (j < 5 ∨ 23 ≤ j) → j < 59 → s' j = s j := fun j hj hj2 => by
    rw [b5 j hj2 (by omega), eb _ (by omega)]
  have i5' := c1.2.2.2.2.1
  have lie : ∀ v j, (j < 36 ∧ s (23 + j) = v) ↔ (j < 36 ∧ s' (23 + j) = v) := fun v j => ⟨fun ⟨a, b⟩ => ⟨a, by rw [f0 _ (by omega) (by omega)]; exact b⟩, fun ⟨a, b⟩ => ⟨a, by rw [← f0 (23 + j) (by omega) (by omega)]; exact b⟩⟩
  refine ⟨⟨c1, fun q hq => ?_⟩, hL', ⟨?_, by rw [f0 0 (by omega) (by omega)]; exact p2, fun j => (p3 j).trans (lie 1 j), fun j => (p4 j).trans (lie 2 j), fun j => ?_, fun q hq => ?_⟩, fun x hx => ?_⟩
  · rw [y2] at hq
    by_cases y : q = t 2
    · rw [y]; exact b4
    · rw [f8 q (by omega) _ (Or.inr (Or.inl rfl))]
      exact hS q (by omega)
  · show O.1 + 1 = _
    rw [p1, nI_1, y2]
  · show gb ta j = true ↔ _
    rw [c5 j]
    constructor
    · intro a
      obtain ⟨q, a1, k, a2, a3⟩ := id a
      have hq3 : q < 3 := by omega
      have w1 := c1.2.2.2.2.2.1 q hq3 k (by have := i5' q hq3; omega)
      rw [a3] at w1
      exact ⟨w1, Or.inr a⟩
    · rintro ⟨a, b | b⟩
      · have w1 := c1.2.2.2.2.2.2.2.2.2.2.1 j a
        omega
      · exact b
  · rw [y2] at hq
    by_cases y : q = t 2
    · subst y
      refine row_self (rs := O.2.2.2.2.2.2.2) ⟨c3, ?_, ?_, ?_, c4⟩
      · show v0 = _
        rw [e0]
        unfold rowD
        rw [va_up_ne _ _ (by omega), va_up_ne _ _ (by omega), va_up_self]
      · show v1 = _
        rw [e1, b5 _ (by omega) (by omega), eb5]
      · show v2 = _
        rw [e2]
        unfold rowD
        rw [va_up_ne _ _ (by omega), va_up_self]
    · have hq2 : q < t 2 := by omega
      obtain ⟨r1, r2, r3, r4, r5⟩ := p6 q hq2
      have w5 := i5 q (by omega)
      refine row_ne (rs := O.2.2.2.2.2.2.2) y ⟨by rw [f8 q hq2 _ (by omega)]; exact r1, ?_, by rw [f8 q hq2 _ (by omega)]; exact r3, ?_, fun k hk => ?_⟩
      · rw [r2]
        unfold rowD
        rw [va_up_ne _ _ (by omega), va_up_ne _ _ (by omega), va_up_ne _ _ (by omega)]
      · rw [r4]
        unfold rowD
        rw [va_up_ne _ _ (by omega), va_up_ne _ _ (by omega), va_up_ne _ _ (by omega)]
      · rw [f8 q hq2 (8 + q) (by omega)] at hk
        rw [f8 q hq2 _ (by omega)]
        exact r5 k hk
  · show O.2.2.2.2.2.2.1 x = _
    rw [f0 _ (by omega) (by omega)]
    exact hW x hx
theorem tw_item {L : LV} {O : OV} (h : TxK K le D) (hp : p < 900) (hD : DR L O dr be) (nums : Nat → Int32) : ((if (rnFrom K le (nI D.1.1) 7 0 0 (nI p) nums).1 = false then false else (plRow (rnFrom K le (nI D.1.1) 7 0 0 (nI p) nums).2.1 (rnFrom K le (nI D.1.1) 7 0 0 (nI p) nums).2.2.2 L O).1) = (rwM D p dr be).1) ∧ ((rwM D p dr be).1 = true → (rnFrom K le (nI D.1.1) 7 0 0 (nI p) nums).1 = true ∧ (rnFrom K le (nI D.1.1) 7 0 0 (nI p) nums).2.2.1 = nI (rwM D p dr be).2.1 ∧ DR L (plRow (rnFrom K le (nI D.1.1) 7 0 0 (nI p) nums).2.1 (rnFrom K le (nI D.1.1) 7 0 0 (nI p) nums).2.2.2 L O).2 (rwM D p dr be).2.2.1 (rwM D p dr be).2.2.2) := by
  obtain ⟨⟨hI, hS⟩, hL, hP, hW⟩ := id hD
  obtain ⟨i1, i2, i3, i4, i5, i6, i7, i8, i9, i10, i11, i12, i13⟩ := id hI
  obtain ⟨p1, p2, p3, p4, p5, p6⟩ := id hP
  have n1 := (en_le (D := D) (p := p)).1
  have n2 := (en_le (D := D) (p := (enP D p + 1))).1
  have n3 := (en_le (D := D) (p := (enP D (enP D p + 1) + 1))).1
  by_cases ok : rwOk D dr p
  · rw [rw_yes h hp ok]
    dsimp only
    obtain ⟨k1, k2, k3, x1, x2, x3, x4⟩ := ok
    have v1 := va_lt k1.1
    have v2 := va_lt k2.1
    have v3 := va_lt k3.1
    have hr : dr 2 < 3 := by omega
    rw [cl4 h hp nums k1 k2 k3]
    have hL' : RLd L (rowD dr (vaP D p) (vaP D (enP D (enP D p + 1) + 1))) := RLd_row i2 hr x1 x3 hL
    obtain ⟨y0, y1, y2⟩ := rowD_at dr (vaP D p) (vaP D (enP D (enP D p + 1) + 1)) hr
    have pt0 := row_PT (k := vaP D p) (b := vaP D (enP D (enP D p + 1) + 1)) (d := vaP D (enP D p + 1)) hD hr (by omega)
    have z8 : rowB dr be (vaP D (enP D p + 1)) (8 + dr 2) = 0 := by unfold rowB; rw [va_up_ne _ _ (by omega)]; exact i13 (dr 2) (by omega) hr
    have pr := pr_eq h hL' 4 3 (enP D (enP D (enP D p + 1) + 1) + 1) (upd (upd (upd nums 0 (nI (vaP D p))) 1 (nI (vaP D (enP D p + 1)))) 2 (nI (vaP D (enP D (enP D p + 1) + 1)))) O.2.2.2.2.1 0 (O.2.2.2.2.2.2.2 (dr 2)).2.2.2.2 (rowB dr be (vaP D (enP D p + 1))) rfl (by omega) (by omega) pt0 (by rw [z8])
    by_cases zt : (rnFrom K le (nI D.1.1) 4 3 (nI 3) (nI (enP D (enP D (enP D p + 1) + 1) + 1)) (upd (upd (upd nums 0 (nI (vaP D p))) 1 (nI (vaP D (enP D p + 1)))) 2 (nI (vaP D (enP D (enP D p + 1) + 1))))).1 = true
    · obtain ⟨m, m1, m2, m3, m4⟩ := rn_told h 4 3 (enP D (enP D (enP D p + 1) + 1) + 1) (upd (upd (upd nums 0 (nI (vaP D p))) 1 (nI (vaP D (enP D p + 1)))) 2 (nI (vaP D (enP D (enP D p + 1) + 1)))) (by omega) zt
      have e0 : (rnFrom K le (nI D.1.1) 4 3 (nI 3) (nI (enP D (enP D (enP D p + 1) + 1) + 1)) (upd (upd (upd nums 0 (nI (vaP D p))) 1 (nI (vaP D (enP D p + 1)))) 2 (nI (vaP D (enP D (enP D p + 1) + 1))))).2.2.2 0 = nI (vaP D p) := m4 0 (by omega)
      have e1 : (rnFrom K le (nI D.1.1) 4 3 (nI 3) (nI (enP D (enP D (enP D p + 1) + 1) + 1)) (upd (upd (upd nums 0 (nI (vaP D p))) 1 (nI (vaP D (enP D p + 1)))) 2 (nI (vaP D (enP D (enP D p + 1) + 1))))).2.2.2 1 = nI (vaP D (enP D p + 1)) := m4 1 (by omega)
      have e2 : (rnFrom K le (nI D.1.1) 4 3 (nI 3) (nI (enP D (enP D (enP D p + 1) + 1) + 1)) (upd (upd (upd nums 0 (nI (vaP D p))) 1 (nI (vaP D (enP D p + 1)))) 2 (nI (vaP D (enP D (enP D p + 1) + 1))))).2.2.2 2 = nI (vaP D (enP D (enP D p + 1) + 1)) := m4 2 (by omega)
      have po := (po_iff (w := dr 2) m1 (by omega) (by omega) (by omega) (by omega) (by omega) e0 e1 e2).mpr ⟨hr, x1, x2, x3⟩
      have epl : plRow (rnFrom K le (nI D.1.1) 4 3 (nI 3) (nI (enP D (enP D (enP D p + 1) + 1) + 1)) (upd (upd (upd nums 0 (nI (vaP D p))) 1 (nI (vaP D (enP D p + 1)))) 2 (nI (vaP D (enP D (enP D p + 1) + 1))))).2.1 (rnFrom K le (nI D.1.1) 4 3 (nI 3) (nI (enP D (enP D (enP D p + 1) + 1) + 1)) (upd (upd (upd nums 0 (nI (vaP D p))) 1 (nI (vaP D (enP D p + 1)))) 2 (nI (vaP D (enP D (enP D p + 1) + 1))))).2.2.2 L O = prPut (rnFrom K le (nI D.1.1) 4 3 (nI 3) (nI (enP D (enP D (enP D p + 1) + 1) + 1)) (upd (upd (upd nums 0 (nI (vaP D p))) 1 (nI (vaP D (enP D p + 1)))) 2 (nI (vaP D (enP D (enP D p + 1) + 1))))).2.2.2 O (dr 2) (prFrom L.1 L.2.1 L.2.2.2.1 L.2.2.2.2.1 (rnFrom K le (nI D.1.1) 4 3 (nI 3) (nI (enP D (enP D (enP D p + 1) + 1) + 1)) (upd (upd (upd nums 0 (nI (vaP D p))) 1 (nI (vaP D (enP D p + 1)))) 2 (nI (vaP D (enP D (enP D p + 1) + 1))))).2.1 (rnFrom K le (nI D.1.1) 4 3 (nI 3) (nI (enP D (enP D (enP D p + 1) + 1) + 1)) (upd (upd (upd nums 0 (nI (vaP D p))) 1 (nI (vaP D (enP D p + 1)))) 2 (nI (vaP D (enP D (enP D p + 1) + 1))))).2.2.2 4 3 O.2.2.2.2.1 0 (O.2.2.2.2.2.2.2 (dr 2)).2.2.2.2) := by
        unfold plRow
        rw [m3, p1, if_pos po, nI_clamp (by omega)]
      rw [epl]
      refine ⟨pr.1, fun z => ?_⟩
      obtain ⟨b1, b2, b3, b4, b5⟩ := pr.2 z
      refine ⟨b1, b2, ?_⟩
      have pt : (prFrom L.1 L.2.1 L.2.2.2.1 L.2.2.2.2.1 (rnFrom K le (nI D.1.1) 4 3 (nI 3) (nI (enP D (enP D (enP D p + 1) + 1) + 1)) (upd (upd (upd nums 0 (nI (vaP D p))) 1 (nI (vaP D (enP D p + 1)))) 2 (nI (vaP D (enP D (enP D p + 1) + 1))))).2.1 (rnFrom K le (nI D.1.1) 4 3 (nI 3) (nI (enP D (enP D (enP D p + 1) + 1) + 1)) (upd (upd (upd nums 0 (nI (vaP D p))) 1 (nI (vaP D (enP D p + 1)))) 2 (nI (vaP D (enP D (enP D p + 1) + 1))))).2.2.2 4 3 O.2.2.2.2.1 0 (O.2.2.2.2.2.2.2 (dr 2)).2.2.2.2).1 = true := by
        have w := pr.1
        rw [if_neg (by rw [zt]; decide)] at w
        exact w.trans z
      unfold prPut
      dsimp only
      rw [if_pos pt]
      exact row_DR hD hr hL' b3 b4 b5 e0 e1 e2
    · have e := pr.1
      rw [if_pos (bf zt)] at e ⊢
      refine ⟨e, fun z => ?_⟩
      rw [← e] at z
      exact Bool.noConfusion z
  · have r0 : (rwM D p dr be).1 = false := bf (fun z => ok (rw_tt h hp z))
    rw [r0]
    refine ⟨?_, fun z => Bool.noConfusion z⟩
    by_cases z : (rnFrom K le (nI D.1.1) 7 0 0 (nI p) nums).1 = true
    · rw [if_neg (by rw [z]; decide)]
      refine bf (fun g => ok ?_)
      have g' : prOk (rnFrom K le (nI D.1.1) 7 0 0 (nI p) nums).2.1 (rnFrom K le (nI D.1.1) 7 0 0 (nI p) nums).2.2.2 O.1 = true := by
        unfold plRow at g
        by_cases y : prOk (rnFrom K le (nI D.1.1) 7 0 0 (nI p) nums).2.1 (rnFrom K le (nI D.1.1) 7 0 0 (nI p) nums).2.2.2 O.1 = true
        · exact y
        · rw [if_neg y] at g; cases g
      have t4 : ∀ m, m < 4 → ¬ (rnFrom K le (nI D.1.1) 7 0 0 (nI p) nums).2.1 = nI m := fun m hm y => by
        unfold prOk at g'
        rw [y, if_pos (show nI m < 4 from nI_lt (b := 4) hm (by decide))] at g'
        cases g'
      obtain ⟨k1, k2, k3⟩ := cl_t4 h hp nums z t4
      have v1 := va_lt k1.1
      have v2 := va_lt k2.1
      have v3 := va_lt k3.1
      rw [cl4 h hp nums k1 k2 k3] at z g'
      obtain ⟨m, m1, m2, m3, m4⟩ := rn_told h 4 3 (enP D (enP D (enP D p + 1) + 1) + 1) (upd (upd (upd nums 0 (nI (vaP D p))) 1 (nI (vaP D (enP D p + 1)))) 2 (nI (vaP D (enP D (enP D p + 1) + 1)))) (by omega) z
      rw [m3, p1] at g'
      obtain ⟨w1, w2, w3, w4⟩ := (po_iff (k := vaP D p) (d := vaP D (enP D p + 1)) (b := vaP D (enP D (enP D p + 1) + 1)) m1 (by omega) (by omega) (by omega) (by omega) (by omega) (m4 0 (by omega)) (m4 1 (by omega)) (m4 2 (by omega))).mp g'
      exact ⟨k1, k2, k3, w2, w3, w4, by omega⟩
    · rw [if_pos (bf z)]
end S18
