/-! BOTH SIDES: a row's item -/
theorem tr_st {s : Nat → Nat} {r c q j : Nat} (hr : r < 3) (hq : q < 3) (h4 : s (8 + r) < 4) (hs : ∀ q, q < 3 → s (8 + q) ≤ 4) : TrIn (stM s r c) q j ↔ TrIn s q j ∨ (q = r ∧ j = c) := by
  have e8 : ∀ q, q < 3 → stM s r c (8 + q) = if q = r then s (8 + r) + 1 else s (8 + q) := fun q hq => by
    unfold stM
    by_cases y : q = r
    · rw [if_pos y, y, va_up_self]
    · rw [if_neg y, va_up_ne _ _ (by omega), va_up_ne _ _ (by omega)]
  have e11 : ∀ q k, q < 3 → k < 4 → stM s r c (11 + 4 * q + k) = if q = r ∧ k = s (8 + r) then c else s (11 + 4 * q + k) := fun q k hq hk => by
    unfold stM
    rw [va_up_ne _ _ (by omega)]
    by_cases y : q = r ∧ k = s (8 + r)
    · rw [if_pos y, y.1, y.2, va_up_self]
    · rw [if_neg y, va_up_ne _ _ (by omega)]
  unfold TrIn
  rw [e8 q hq]
  have hq4 := hs q hq
  constructor
  · rintro ⟨k, k1, k2⟩
    by_cases y : q = r
    · subst y
      rw [if_pos rfl] at k1
      rw [e11 q k hq (by omega)] at k2
      by_cases w : k = s (8 + q)
      · rw [if_pos ⟨rfl, w⟩] at k2
        exact Or.inr ⟨rfl, k2.symm⟩
      · rw [if_neg (fun g => w g.2)] at k2
        exact Or.inl ⟨k, by omega, k2⟩
    · rw [if_neg y] at k1
      rw [e11 q k hq (by omega), if_neg (fun g => y g.1)] at k2
      exact Or.inl ⟨k, k1, k2⟩
  · rintro (⟨k, k1, k2⟩ | ⟨rfl, rfl⟩)
    · by_cases y : q = r
      · subst y
        rw [if_pos rfl]
        exact ⟨k, by omega, by rw [e11 q k hq (by omega), if_neg (fun g => by have := g.2; omega)]; exact k2⟩
      · rw [if_neg y]
        exact ⟨k, k1, by rw [e11 q k hq (by omega), if_neg (fun g => y g.1)]; exact k2⟩
    · rw [if_pos rfl]
      exact ⟨s (8 + q), by omega, by rw [e11 q _ hq h4, if_pos ⟨rfl, rfl⟩]⟩
theorem itIn_iff (s : Nat → Nat) (c r : Nat) (hc : c < 2 ^ 31) : ∀ (u k : Nat) (b : Bool), (∀ j, k ≤ j → j < k + u → s (11 + 4 * r + j) < 2 ^ 31) → (itIn s c r u k b = true ↔ b = true ∨ ∃ j, k ≤ j ∧ j < k + u ∧ s (11 + 4 * r + j) = c) := by
  intro u
  induction u with
  | zero => intro k b _; exact ⟨fun z => Or.inl z, fun z => z.elim (fun y => y) (fun ⟨j, j1, j2, _⟩ => by omega)⟩
  | succ u ih =>
    intro k b hb
    rw [itIn, ih (k + 1) _ (fun j j1 j2 => hb j (by omega) (by omega))]
    have e := nI_eq (hb k (by omega) (by omega)) hc
    constructor
    · rintro (z | ⟨j, j1, j2, j3⟩)
      · by_cases y : b = true
        · exact Or.inl y
        · rw [if_neg y] at z
          by_cases w : nI (s (11 + 4 * r + k)) = nI c
          · exact Or.inr ⟨k, by omega, by omega, e.mp w⟩
          · rw [if_neg w] at z; cases z
      · exact Or.inr ⟨j, by omega, by omega, j3⟩
    · rintro (z | ⟨j, j1, j2, j3⟩)
      · exact Or.inl (by rw [if_pos z])
      · by_cases y : j = k
        · subst y
          refine Or.inl ?_
          by_cases w : b = true
          · rw [if_pos w]
          · rw [if_neg w, if_pos (e.mpr j3)]
        · exact Or.inr ⟨j, by omega, by omega, j3⟩
theorem itOut_iff {s : Nat → Nat} {c : Nat} (hc : c < 2 ^ 31) : ∀ (u r : Nat) (b : Bool), r + u ≤ 3 → (∀ q, q < 3 → s (8 + q) ≤ 4) → (∀ q, q < 3 → ∀ k, k < 4 → s (11 + 4 * q + k) < 36) → (itOut s c u r b = true ↔ b = true ∨ ∃ q, r ≤ q ∧ q < r + u ∧ TrIn s q c) := by
  intro u
  induction u with
  | zero => intro r b _ _ _; exact ⟨fun z => Or.inl z, fun z => z.elim (fun y => y) (fun ⟨j, j1, j2, _⟩ => by omega)⟩
  | succ u ih =>
    intro r b hr h8 h11
    have h8r := h8 r (by omega)
    rw [itOut, ih (r + 1) _ (by omega) h8 h11, itIn_iff s c r hc (s (8 + r)) 0 b (fun j _ j2 => by have := h11 r (by omega) j (by omega); omega)]
    constructor
    · rintro ((z | ⟨j, j1, j2, j3⟩) | ⟨q, q1, q2, q3⟩)
      · exact Or.inl z
      · exact Or.inr ⟨r, by omega, by omega, j, by omega, j3⟩
      · exact Or.inr ⟨q, by omega, by omega, q3⟩
    · rintro (z | ⟨q, q1, q2, q3⟩)
      · exact Or.inl (Or.inl z)
      · by_cases y : q = r
        · subst y
          obtain ⟨j, j1, j2⟩ := q3
          exact Or.inl (Or.inr ⟨j, by omega, by omega, j2⟩)
        · exact Or.inr ⟨q, by omega, by omega, q3⟩
theorem itM_iff {t s : Nat → Nat} {c : Nat} (h : DI1 t s) (hc : c < 1000) : itM t s c = true ↔ TrAny t s c := by
  unfold itM TrAny
  rw [itOut_iff (by omega) (t 2) 0 false (by have := h.1; omega) h.2.2.2.2.1 h.2.2.2.2.2.1]
  constructor
  · rintro (z | ⟨q, q1, q2, q3⟩)
    · cases z
    · exact ⟨q, by omega, q3⟩
  · rintro ⟨q, q1, q2⟩
    exact Or.inr ⟨q, by omega, by omega, q2⟩
theorem tk_iff {t s : Nat → Nat} {r c : Nat} (h : DI1 t s) (hr : r < 3) (hc : c < 36) (hg : t (3 + c) ≤ 3) : tkM t s r c = true ↔ s (8 + r) < 4 ∧ t (3 + c) ≤ 1 ∧ ¬ TrAny t s c ∧ (s (8 + r) = 0 ∨ nxtM c (s (11 + 4 * r + s (8 + r) - 1)) (t 1) = true) := by
  have h4 := h.2.2.2.2.1 r hr
  have e := itM_iff h (c := c) (by omega)
  unfold tkM
  by_cases a1 : s (8 + r) = 4
  · rw [if_pos (by rw [a1]; rfl)]
    exact ⟨fun z => Bool.noConfusion z, fun z => absurd z.1 (by omega)⟩
  · rw [if_neg (show ¬ nI (s (8 + r)) = 4 from fun z => a1 (nI_inj (b := 4) (by omega) (by omega) z))]
    by_cases a2 : t (3 + c) ≤ 1
    · rw [if_neg (show ¬ 1 < nI (t (3 + c)) from nI_nlt (a := 1) a2 (by omega))]
      by_cases a3 : itM t s c = true
      · rw [if_pos a3]
        exact ⟨fun z => Bool.noConfusion z, fun z => absurd (e.mp a3) z.2.2.1⟩
      · rw [if_neg a3]
        by_cases a4 : s (8 + r) = 0
        · rw [if_pos (show nI (s (8 + r)) ≤ 0 from nI_le (b := 0) (by omega) (by omega))]
          exact ⟨fun _ => ⟨by omega, a2, fun z => a3 (e.mpr z), Or.inl a4⟩, fun _ => rfl⟩
        · rw [if_neg (nI_nle (by omega) (by omega))]
          by_cases a5 : nxtM c (s (11 + 4 * r + s (8 + r) - 1)) (t 1) = true
          · rw [if_pos a5]
            exact ⟨fun _ => ⟨by omega, a2, fun z => a3 (e.mpr z), Or.inr a5⟩, fun _ => rfl⟩
          · rw [if_neg a5]
            exact ⟨fun z => Bool.noConfusion z, fun z => z.2.2.2.elim (fun y => absurd y a4) (fun y => absurd y a5)⟩
    · rw [if_pos (show 1 < nI (t (3 + c)) from nI_lt (a := 1) (by omega) (by omega))]
      exact ⟨fun z => Bool.noConfusion z, fun z => absurd z.2.1 a2⟩
theorem bool3 (a b c : Bool) : ((a || b) && !c) = true ↔ (a = true ∨ b = true) ∧ c = false := by cases a <;> cases b <;> cases c <;> decide
theorem ctn_far (F : Int64) {c : Nat} (h : 36 ≤ c) (h2 : c < 1000) : ctn F (nI c) = false := by
  unfold ctn
  rw [if_neg (nI_nn h2), if_pos (show 36 ≤ nI c from nI_le (a := 36) h (by omega))]
theorem bes_all : ∀ ln, ln < 7 → ∀ w, w < 7 → 1 ≤ w → ∀ c, c < ln * w → ∀ d, d < ln * w → besC (nI ln) (nI w) (nI c) (bitC (nI d)) = nxtM c d w := by decide +kernel
/-- a row being planted: size, trees, taken over what the reference has -/
def PT (t : Nat → Nat) (r : Nat) (ta : Int64) (sz : Int32) (tt : Nat → Int32) (s : Nat → Nat) : Prop := DI1 t s ∧ t 2 = r + 1 ∧ sz = nI (s (8 + r)) ∧ (∀ k, k < s (8 + r) → tt k = nI (s (11 + 4 * r + k))) ∧ (∀ j, gb ta j = true ↔ TrAny t s j)
theorem pt_iff {L : LV} {t s : Nat → Nat} {r c : Nat} {ta : Int64} {sz : Int32} {tt : Nat → Int32} (hL : RLd L t) (h : PT t r ta sz tt s) (hc : c < 100) (h4 : s (8 + r) < 4) : ptC L.1 L.2.1 L.2.2.2.1 L.2.2.2.2.1 ta sz tt (nI c) = true ↔ c < t 0 ∧ tkM t s r c = true := by
  obtain ⟨hI, h2, hsz, htt, hta⟩ := h
  obtain ⟨⟨ln, l1, l2, l3⟩, l4, l5, l6, l7, l8, l9, l10⟩ := hL
  obtain ⟨i1, i2, i3, i4, i5, i6, i7, i8, i9, i10, i11, i12, i13⟩ := id hI
  have ec : ctn ((L.1 ||| L.2.1) &&& (ta ^^^ (-1))) (nI c) = true ↔ c < t 0 ∧ t (3 + c) ≤ 1 ∧ ¬ TrAny t s c := by
    by_cases c36 : c < 36
    · rw [ctn_gb _ c36, gb_mi, gb_or, bool3]
      have e1 := l5 c
      have e2 := l6 c
      have e3 := hta c
      constructor
      · rintro ⟨y, w⟩
        refine ⟨y.elim (fun y => (e1.mp y).1) (fun y => (e2.mp y).1), y.elim (fun y => by have := (e1.mp y).2; omega) (fun y => by have := (e2.mp y).2; omega), fun y => ?_⟩
        rw [e3.mpr y] at w
        exact Bool.noConfusion w
      · rintro ⟨z1, z2, z3⟩
        refine ⟨?_, bf (fun y => z3 (e3.mp y))⟩
        by_cases y : t (3 + c) = 0
        · exact Or.inl (e1.mpr ⟨z1, y⟩)
        · exact Or.inr (e2.mpr ⟨z1, by omega⟩)
    · rw [ctn_far _ (by omega) (by omega)]
      exact ⟨fun z => Bool.noConfusion z, fun z => absurd z.1 (by omega)⟩
  unfold ptC
  by_cases a1 : c < t 0 ∧ t (3 + c) ≤ 1 ∧ ¬ TrAny t s c
  · rw [if_neg (by rw [ec.mpr a1]; decide), tk_iff hI (by omega) (by omega) (by omega), hsz]
    by_cases a4 : s (8 + r) = 0
    · rw [if_pos (show nI (s (8 + r)) ≤ 0 from nI_le (b := 0) (by omega) (by omega))]
      exact ⟨fun _ => ⟨a1.1, h4, a1.2.1, a1.2.2, Or.inl a4⟩, fun _ => rfl⟩
    · rw [if_neg (nI_nle (by omega) (by omega))]
      have el : treeAtC (nI (s (8 + r))) tt (nI (s (8 + r)) - 1) = nI (s (11 + 4 * r + s (8 + r) - 1)) := by
        obtain ⟨m, hm⟩ : ∃ m, s (8 + r) = m + 1 := ⟨s (8 + r) - 1, by omega⟩
        rw [hm, nI_pred]
        unfold treeAtC
        rw [if_neg (nI_nn (by omega)), if_neg (nI_ge (by omega) (by omega)), if_neg (nI_n4 (by omega)), nI_clamp (by omega), htt m (by omega)]
        rfl
      have hl : s (11 + 4 * r + s (8 + r) - 1) < t 0 := by
        have := i9 r (by omega) (s (8 + r) - 1) (by omega)
        rw [show 11 + 4 * r + s (8 + r) - 1 = 11 + 4 * r + (s (8 + r) - 1) by omega]
        exact this
      have hw := i4 (by omega)
      rw [el, l2, l4, bes_all ln l1 (t 1) (by omega) hw c (by omega) _ (by omega)]
      by_cases a5 : nxtM c (s (11 + 4 * r + s (8 + r) - 1)) (t 1) = true
      · rw [if_pos a5]
        exact ⟨fun _ => ⟨a1.1, h4, a1.2.1, a1.2.2, Or.inr a5⟩, fun _ => rfl⟩
      · rw [if_neg a5]
        exact ⟨fun z => Bool.noConfusion z, fun z => z.2.2.2.2.elim (fun y => absurd y a4) (fun y => absurd y a5)⟩
  · rw [if_pos (bf (fun z => a1 (ec.mp z)))]
    refine ⟨fun z => Bool.noConfusion z, fun z => absurd ?_ a1⟩
    have c0 := z.1
    have g := (tk_iff hI (by omega) (by omega) (l9 c z.1)).mp z.2
    exact ⟨z.1, g.2.1, g.2.2.1⟩
/-- one tree more -/
theorem pt_step {L : LV} {t s : Nat → Nat} {r c : Nat} {ta : Int64} {sz : Int32} {tt : Nat → Int32} (hL : RLd L t) (h : PT t r ta sz tt s) (hc : c < t 0) (hk : tkM t s r c = true) : PT t r (ta ||| bitC (nI c)) (plantF sz tt (nI c)).1 (plantF sz tt (nI c)).2 (stM s r c) ∧ stM s r c (8 + r) = s (8 + r) + 1 ∧ ∀ j, j < 59 → (j ≠ 8 + r ∧ (j < 11 + 4 * r ∨ 15 + 4 * r ≤ j)) → stM s r c j = s j := by
  obtain ⟨hI, h2, hsz, htt, hta⟩ := h
  obtain ⟨i1, i2, i3, i4, i5, i6, i7, i8, i9, i10, i11, i12, i13⟩ := id hI
  have hr : r < 3 := by omega
  obtain ⟨k1, k2, k3, k4⟩ := (tk_iff hI hr (by omega) (hL.2.2.2.2.2.2.1 c hc)).mp hk
  have e8 : ∀ q, q < 3 → stM s r c (8 + q) = if q = r then s (8 + r) + 1 else s (8 + q) := fun q hq => by
    unfold stM
    by_cases y : q = r
    · rw [if_pos y, y, va_up_self]
    · rw [if_neg y, va_up_ne _ _ (by omega), va_up_ne _ _ (by omega)]
  have e11 : ∀ q k, q < 3 → k < 4 → stM s r c (11 + 4 * q + k) = if q = r ∧ k = s (8 + r) then c else s (11 + 4 * q + k) := fun q k hq hk => by
    unfold stM
    rw [va_up_ne _ _ (by omega)]
    by_cases y : q = r ∧ k = s (8 + r)
    · rw [if_pos y, y.1, y.2, va_up_self]
    · rw [if_neg y, va_up_ne _ _ (by omega)]
  have eo : ∀ j, j < 59 → (j ≠ 8 + r ∧ (j < 11 + 4 * r ∨ 15 + 4 * r ≤ j)) → stM s r c j = s j := fun j hj hh => by
    unfold stM
    rw [va_up_ne _ _ (by omega), va_up_ne _ _ (by omega)]
  have epl : plantF sz tt (nI c) = (nI (s (8 + r) + 1), upd tt (s (8 + r)) (nI c)) := by
    unfold plantF
    rw [hsz, if_neg (nI_nn (by omega)), if_neg (nI_n4 (by omega)), nI_1, nI_clamp (by omega)]
  have tn : ∀ q, q < r + 1 → ∀ k, k < s (8 + q) → ¬ s (11 + 4 * q + k) = c := fun q hq k hk z => k3 ⟨q, by omega, k, hk, z⟩
  refine ⟨⟨⟨i1, i2, i3, i4, fun q hq => ?_, fun q hq k hk => ?_, i7, fun q hq => ?_, fun q hq k hk => ?_, fun j hj => ?_, fun j hj => ?_, fun q1 q2 a b g1 g2 g3 g4 g5 => ?_, fun q g1 g2 => ?_⟩, h2, ?_, fun k hk => ?_, fun j => ?_⟩, by rw [e8 r hr, if_pos rfl], eo⟩
  · have := i5 q hq
    rw [e8 q hq]
    by_cases y : q = r
    · rw [if_pos y]; omega
    · rw [if_neg y]; omega
  · rw [e11 q k hq hk]
    by_cases y : q = r ∧ k = s (8 + r)
    · rw [if_pos y]; omega
    · rw [if_neg y]; exact i6 q hq k hk
  · rw [eo _ (by omega) (by omega)]; exact i8 q hq
  · have hq3 : q < 3 := by omega
    have g5 := i5 q hq3
    rw [e8 q hq3] at hk
    by_cases y : q = r
    · rw [if_pos y] at hk
      rw [e11 q k hq3 (by omega)]
      by_cases w : k = s (8 + r)
      · rw [if_pos ⟨y, w⟩]; exact hc
      · rw [if_neg (fun z => w z.2)]; exact i9 q hq k (by rw [y]; omega)
    · rw [if_neg y] at hk
      rw [e11 q k hq3 (by omega), if_neg (fun z => y z.1)]
      exact i9 q hq k hk
  · rw [eo _ (by omega) (by omega)]; exact i10 j hj
  · rw [eo _ (by omega) (by omega)]; exact i11 j hj
  · have w1 : q1 < 3 := by omega
    have w2 : q2 < 3 := by omega
    have w3 := i5 q1 w1
    have w4 := i5 q2 w2
    have b1 : a < 4 := by rw [e8 q1 w1] at g3; by_cases y : q1 = r; (rw [if_pos y] at g3; omega); (rw [if_neg y] at g3; omega)
    have b2 : b < 4 := by rw [e8 q2 w2] at g4; by_cases y : q2 = r; (rw [if_pos y] at g4; omega); (rw [if_neg y] at g4; omega)
    rw [e11 q1 a w1 b1, e11 q2 b w2 b2] at g5
    rw [e8 q1 w1] at g3
    rw [e8 q2 w2] at g4
    by_cases y1 : q1 = r ∧ a = s (8 + r)
    · rw [if_pos y1] at g5
      by_cases y2 : q2 = r ∧ b = s (8 + r)
      · exact ⟨y1.1.trans y2.1.symm, y1.2.trans y2.2.symm⟩
      · rw [if_neg y2] at g5
        exfalso
        refine tn q2 (by omega) b ?_ g5.symm
        by_cases v : q2 = r
        · rw [if_pos v] at g4
          have : ¬ b = s (8 + r) := fun w => y2 ⟨v, w⟩
          rw [v]; omega
        · rw [if_neg v] at g4; exact g4
    · rw [if_neg y1] at g5
      have h1 : a < s (8 + q1) := by
        by_cases v : q1 = r
        · rw [if_pos v] at g3
          have : ¬ a = s (8 + r) := fun w => y1 ⟨v, w⟩
          rw [v]; omega
        · rw [if_neg v] at g3; exact g3
      by_cases y2 : q2 = r ∧ b = s (8 + r)
      · rw [if_pos y2] at g5
        exact absurd g5 (tn q1 (by omega) a h1)
      · rw [if_neg y2] at g5
        have h2' : b < s (8 + q2) := by
          by_cases v : q2 = r
          · rw [if_pos v] at g4
            have : ¬ b = s (8 + r) := fun w => y2 ⟨v, w⟩
            rw [v]; omega
          · rw [if_neg v] at g4; exact g4
        exact i12 q1 q2 a b g1 g2 h1 h2' g5
  · rw [e8 q g2, if_neg (by omega)]
    exact i13 q g1 g2
  · rw [epl, e8 r hr, if_pos rfl]
  · rw [e8 r hr, if_pos rfl] at hk
    rw [epl, e11 r k hr (by omega)]
    dsimp only
    unfold upd
    by_cases w : k = s (8 + r)
    · rw [if_pos w, if_pos ⟨rfl, w⟩]
    · rw [if_neg w, if_neg (fun z => w z.2)]
      exact htt k (by omega)
  · rw [gb_or1 _ (by omega), Bool.or_eq_true, hta j, decide_eq_true_iff]
    unfold TrAny
    constructor
    · rintro (⟨q, q1, q2⟩ | rfl)
      · exact ⟨q, q1, (tr_st hr (by omega) k1 i5).mpr (Or.inl q2)⟩
      · exact ⟨r, by omega, (tr_st hr hr k1 i5).mpr (Or.inr ⟨rfl, rfl⟩)⟩
    · rintro ⟨q, q1, q2⟩
      rcases (tr_st hr (by omega) k1 i5).mp q2 with z | z
      · exact Or.inl ⟨q, q1, z⟩
      · exact Or.inr z.2
