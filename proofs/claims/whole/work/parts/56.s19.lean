/-! BOTH SIDES: a line's item -/
/-- a line being read: m of its cells are told -/
def LM (L : LV) (t : Nat → Nat) (m : Nat) : Prop := (∃ ln, ln < 6 ∧ L.2.2.2.1 = nI ln ∧ t 0 = ln * t 1 ∧ (0 < ln → 1 ≤ t 1)) ∧ t 1 ≤ 6 ∧ L.2.2.2.2.1 = nI (t 1) ∧ (∀ j, gb L.1 j = true ↔ j < t 0 + m ∧ t (3 + j) = 0) ∧ (∀ j, gb L.2.1 j = true ↔ j < t 0 + m ∧ t (3 + j) = 1) ∧ (∀ j, gb L.2.2.1 j = true ↔ j < t 0 + m ∧ t (3 + j) = 2) ∧ (∀ c, c < 36 → L.2.2.2.2.2 c = nI (t (39 + c))) ∧ (∀ c, c < t 0 + m → t (3 + c) ≤ 3) ∧ (∀ r, r < 3 → t (75 + r) ≤ 3 ∧ t (78 + r) ≤ 9)
theorem LM_lt {L : LV} {t : Nat → Nat} {m : Nat} (h : LM L t m) : t 0 ≤ 30 := by
  obtain ⟨⟨ln, l1, -, l3, -⟩, l4, -⟩ := h
  have := Nat.mul_le_mul (show ln ≤ 5 by omega) l4
  omega
theorem grd_bits {F Hd Br : Int64} {t : Nat → Nat} {d g : Nat} (hd : d < 36) (hg : g ≤ 3) (h0 : ∀ j, gb F j = true ↔ j < d ∧ t (3 + j) = 0) (h1 : ∀ j, gb Hd j = true ↔ j < d ∧ t (3 + j) = 1) (h2 : ∀ j, gb Br j = true ↔ j < d ∧ t (3 + j) = 2) (li wi : Int32) (lo : Nat → Int32) : ∃ F' H' B', grd (F, Hd, Br, li, wi, lo) (nI d) (nI g) = (F', H', B', li, wi, lo) ∧ (∀ j, gb F' j = true ↔ j < d + 1 ∧ va_up t (3 + d) g (3 + j) = 0) ∧ (∀ j, gb H' j = true ↔ j < d + 1 ∧ va_up t (3 + d) g (3 + j) = 1) ∧ (∀ j, gb B' j = true ↔ j < d + 1 ∧ va_up t (3 + d) g (3 + j) = 2) := by
  have keep : ∀ (x : Int64) (v : Nat), (∀ j, gb x j = true ↔ j < d ∧ t (3 + j) = v) → g ≠ v → ∀ j, gb x j = true ↔ j < d + 1 ∧ va_up t (3 + d) g (3 + j) = v := fun x v hx hv j => by
    rw [hx j]
    by_cases y : j = d
    · subst y
      rw [va_up_self]
      exact ⟨fun z => absurd z.1 (by omega), fun z => absurd z.2 hv⟩
    · rw [va_up_ne _ _ (by omega)]
      exact ⟨fun z => ⟨by omega, z.2⟩, fun z => ⟨by omega, z.2⟩⟩
  have set : ∀ (x : Int64) (v : Nat), (∀ j, gb x j = true ↔ j < d ∧ t (3 + j) = v) → g = v → ∀ j, gb (x ||| bitC (nI d)) j = true ↔ j < d + 1 ∧ va_up t (3 + d) g (3 + j) = v := fun x v hx hv j => by
    rw [gb_or1 _ hd, Bool.or_eq_true, hx j, decide_eq_true_iff]
    by_cases y : j = d
    · subst y
      rw [va_up_self]
      exact ⟨fun _ => ⟨by omega, hv⟩, fun _ => Or.inr rfl⟩
    · rw [va_up_ne _ _ (by omega)]
      exact ⟨fun z => z.elim (fun w => ⟨by omega, w.2⟩) (fun w => absurd w y), fun z => Or.inl ⟨by omega, z.2⟩⟩
  have hg4 : g = 0 ∨ g = 1 ∨ g = 2 ∨ g = 3 := by omega
  rcases hg4 with y | y | y | y
  · exact ⟨F ||| bitC (nI d), Hd, Br, by rw [y]; rfl, set _ _ h0 y, keep _ _ h1 (by omega), keep _ _ h2 (by omega)⟩
  · exact ⟨F, Hd ||| bitC (nI d), Br, by rw [y]; rfl, keep _ _ h0 (by omega), set _ _ h1 y, keep _ _ h2 (by omega)⟩
  · exact ⟨F, Hd, Br ||| bitC (nI d), by rw [y]; rfl, keep _ _ h0 (by omega), keep _ _ h1 (by omega), set _ _ h2 y⟩
  · exact ⟨F, Hd, Br, by rw [y]; rfl, keep _ _ h0 (by omega), keep _ _ h1 (by omega), keep _ _ h2 (by omega)⟩
theorem LM_step {L : LV} {t : Nat → Nat} {m g : Nat} (hm : m < 6) (hg : g ≤ 3) (h : LM L t m) : LM (grd L (nI (t 0) + nI m) (nI g)) (va_up t (3 + (t 0 + m)) g) (m + 1) := by
  have h30 := LM_lt h
  obtain ⟨⟨ln, l1, l2, l3, l33⟩, l4, l5, l6, l7, l8, l9, l10, l11⟩ := h
  obtain ⟨F, Hd, Br, li, wi, lo⟩ := L
  obtain ⟨F', H', B', e, f0, f1, f2⟩ := grd_bits (d := t 0 + m) (by omega) hg l6 l7 l8 li wi lo
  rw [nI_add, e]
  have e0 : va_up t (3 + (t 0 + m)) g 0 = t 0 := va_up_ne _ _ (by omega)
  have e1 : va_up t (3 + (t 0 + m)) g 1 = t 1 := va_up_ne _ _ (by omega)
  refine ⟨⟨ln, l1, l2, by rw [e0, e1]; exact l3, by rw [e1]; exact l33⟩, by rw [e1]; exact l4, by rw [e1]; exact l5, by rw [e0]; exact f0, by rw [e0]; exact f1, by rw [e0]; exact f2, fun c hc => by rw [va_up_ne _ _ (by omega)]; exact l9 c hc, fun c hc => ?_, fun r hr => by rw [va_up_ne _ _ (by omega), va_up_ne _ _ (by omega)]; exact l11 r hr⟩
  rw [e0] at hc
  by_cases y : c = t 0 + m
  · subst y
    rw [va_up_self]; exact hg
  · rw [va_up_ne _ _ (by omega)]; exact l10 c (by omega)
section S19
variable {K : Nat} {le : Nat → Int32} {D : MS} {p : Nat} {dr be : Nat → Nat}
theorem le_eq (h : TxK K le D) {L : LV} {t : Nat → Nat} {m : Nat} (hm : m ≤ 6) (hp : p < 980) (hL : LM L t m) : (rlEnd (m, nlV K le (nI D.1.1) (nI p), nlA K (nI D.1.1) (nI p), L)).1 = (rlEndM D m p t).1 ∧ ((rlEndM D m p t).1 = true → (rlEnd (m, nlV K le (nI D.1.1) (nI p), nlA K (nI D.1.1) (nI p), L)).2.1 = nI (rlEndM D m p t).2.1 ∧ RLd (rlEnd (m, nlV K le (nI D.1.1) (nI p), nlA K (nI D.1.1) (nI p), L)).2.2 (rlEndM D m p t).2.2) := by
  have h30 := LM_lt hL
  obtain ⟨⟨ln, l1, l2, l3, l33⟩, l4, l5, l6, l7, l8, l9, l10, l11⟩ := hL
  unfold rlEndM rlEnd
  dsimp only
  by_cases a1 : chP D p 59 = true
  · rw [if_neg (fun z => z ((c_59 h (by omega)).mpr a1)), if_pos ((m_59 h (by omega)).mpr a1), nlA_yes h (ch_iff.mp a1).1]
    by_cases a2 : m = 0
    · rw [if_pos (show nI m = 0 by rw [a2]; rfl), if_pos a2]
      exact ⟨rfl, fun z => Bool.noConfusion z⟩
    · rw [if_neg (nI_ne0 (by omega) (by omega)), if_neg a2, l2, l5]
      have fin : (t 0 + m = (ln + 1) * m) → RLd (L.1, L.2.1, L.2.2.1, nI ln + 1, nI m, L.2.2.2.2.2) (va_up (va_up t 1 m) 0 (t 0 + m)) := fun em => by
        have eo : ∀ j, 2 ≤ j → va_up (va_up t 1 m) 0 (t 0 + m) j = t j := fun j hj => by rw [va_up_ne _ _ (by omega), va_up_ne _ _ (by omega)]
        have e1 : va_up (va_up t 1 m) 0 (t 0 + m) 1 = m := by rw [va_up_ne _ _ (by omega), va_up_self]
        have e0 : va_up (va_up t 1 m) 0 (t 0 + m) 0 = t 0 + m := va_up_self _ _ _
        refine ⟨⟨ln + 1, by omega, nI_1 ln, by rw [e0, e1]; exact em⟩, by rw [e1], fun j => ?_, fun j => ?_, fun j => ?_, fun c hc => by rw [eo _ (by omega)]; exact l9 c hc, fun c hc => ?_, fun r hr => by rw [eo _ (by omega), eo _ (by omega)]; exact l11 r hr⟩
        · rw [e0, eo _ (by omega)]; exact l6 j
        · rw [e0, eo _ (by omega)]; exact l7 j
        · rw [e0, eo _ (by omega)]; exact l8 j
        · rw [e0] at hc; rw [eo _ (by omega)]; exact l10 c hc
      by_cases a3 : ln = 0
      · have t0 : t 0 = 0 := by rw [l3, a3, Nat.zero_mul]
        rw [if_pos (show nI ln ≤ 0 from nI_le (b := 0) (by omega) (by omega)), if_neg (by omega), if_neg (by omega)]
        exact ⟨rfl, fun _ => ⟨rfl, fin (by rw [t0, a3]; omega)⟩⟩
      · have w1 := l33 (by omega)
        rw [if_neg (nI_nle (by omega) (by omega))]
        have tp : 0 < t 0 := by rw [l3]; exact Nat.mul_pos (by omega) w1
        by_cases a4 : m = t 1
        · have a5 : t 0 < 6 * m := by rw [l3, a4]; exact Nat.mul_lt_mul_of_lt_of_le l1 (Nat.le_refl _) w1
          rw [if_pos (by rw [a4]), if_neg (fun z => z.2 a4), if_neg (by omega)]
          exact ⟨rfl, fun _ => ⟨rfl, fin (by rw [l3, a4, Nat.add_mul, Nat.one_mul])⟩⟩
        · rw [if_neg (fun z => a4 (nI_inj (by omega) (by omega) z)), if_pos ⟨tp, a4⟩]
          exact ⟨rfl, fun z => Bool.noConfusion z⟩
  · rw [if_pos (fun z => a1 ((c_59 h (by omega)).mp z)), if_neg (fun z => a1 ((m_59 h (by omega)).mp z))]
    exact ⟨rfl, fun z => Bool.noConfusion z⟩
theorem gr_is (h : TxK K le D) (hp : p < 980) : withinC (letM D p) 48 51 = true ↔ p < D.1.1 ∧ 48 ≤ D.2 0 p ∧ D.2 0 p ≤ 51 := by
  have h1 := h.1
  have h2 := h.2.1
  by_cases a1 : p < D.1.1
  · obtain ⟨g1, g2⟩ := h.2.2 p a1
    rw [let_yes a1 (by omega)]
    exact (wi_iff (lo := 48) (hi := 51) (by omega) (by omega) (by omega)).trans ⟨fun z => ⟨a1, z.1, z.2⟩, fun z => z.2⟩
  · rw [let_no (by omega) (by omega)]
    exact ⟨fun z => absurd z (by decide), fun z => absurd z.1 a1⟩
theorem gr_c (h : TxK K le D) (hp : p < 980) : (¬ nlV K le (nI D.1.1) (nI p) < 48 ∧ ¬ 51 < nlV K le (nI D.1.1) (nI p)) ↔ p < D.1.1 ∧ 48 ≤ D.2 0 p ∧ D.2 0 p ≤ 51 := by
  have h1 := h.1
  have h2 := h.2.1
  by_cases a1 : p < D.1.1
  · obtain ⟨g1, g2⟩ := h.2.2 p a1
    rw [nlV_yes h a1]
    have e1 : nI (D.2 0 p) < 48 ↔ D.2 0 p < 48 := nI_ltI (b := 48) (by omega) (by omega)
    have e2 : 51 < nI (D.2 0 p) ↔ 51 < D.2 0 p := nI_ltI (a := 51) (by omega) (by omega)
    rw [e1, e2]
    omega
  · rw [nlV_no h (by omega) (by omega)]
    exact ⟨fun z => absurd (by decide) z.1, fun z => absurd z.1 a1⟩
theorem rl_eq (h : TxK K le D) : ∀ (u m p : Nat) (L : LV) (t : Nat → Nat), m + u = 6 → p + u < 970 → LM L t m → (rlEnd (rlFrom K le (nI D.1.1) (nI (t 0)) u m (nlV K le (nI D.1.1) (nI p)) (nlA K (nI D.1.1) (nI p)) L)).1 = (rlM D u m p t).1 ∧ ((rlM D u m p t).1 = true → (rlEnd (rlFrom K le (nI D.1.1) (nI (t 0)) u m (nlV K le (nI D.1.1) (nI p)) (nlA K (nI D.1.1) (nI p)) L)).2.1 = nI (rlM D u m p t).2.1 ∧ RLd (rlEnd (rlFrom K le (nI D.1.1) (nI (t 0)) u m (nlV K le (nI D.1.1) (nI p)) (nlA K (nI D.1.1) (nI p)) L)).2.2 (rlM D u m p t).2.2) := by
  intro u
  induction u with
  | zero => intro m p L t hm hp hL; exact le_eq h (by omega) (by omega) hL
  | succ u ih =>
    intro m p L t hm hp hL
    have h30 := LM_lt hL
    rw [rlFrom, rlM]
    by_cases a1 : p < D.1.1 ∧ 48 ≤ D.2 0 p ∧ D.2 0 p ≤ 51
    · obtain ⟨c1, c2⟩ := (gr_c h (by omega)).mpr a1
      obtain ⟨g1, g2⟩ := h.2.2 p a1.1
      have hh := h.1
      have hh2 := h.2.1
      rw [if_neg c1, if_neg c2, if_pos ((gr_is h (by omega)).mpr a1), if_neg (by omega), nlV_yes h a1.1, nlA_yes h a1.1, let_yes a1.1 (by omega), nI_clamp (by omega), nI_subE rfl (show (48 : Int32) = nI 48 from rfl) a1.2.1]
      have st := LM_step (g := D.2 0 p - 48) (by omega) (by omega) hL
      have e0 : va_up t (3 + (t 0 + m)) (D.2 0 p - 48) 0 = t 0 := va_up_ne _ _ (by omega)
      have r := ih (m + 1) (p + 1) _ _ (by omega) (by omega) st
      rw [e0] at r
      exact r
    · rw [if_neg (fun z => a1 ((gr_is h (by omega)).mp z))]
      by_cases c1 : nlV K le (nI D.1.1) (nI p) < 48
      · rw [if_pos c1]
        exact le_eq h (by omega) (by omega) hL
      · rw [if_neg c1, if_pos (by
          by_cases c2 : 51 < nlV K le (nI D.1.1) (nI p)
          · exact c2
          · exact absurd ((gr_c h (by omega)).mp ⟨c1, c2⟩) a1)]
        exact le_eq h (by omega) (by omega) hL
theorem rl_six : ∀ (u m p : Nat) (t : Nat → Nat), 0 < t 0 → t 0 = 6 * t 1 → (rlM D u m p t).1 = false := by
  have fin : ∀ (m p : Nat) (t : Nat → Nat), 0 < t 0 → t 0 = 6 * t 1 → (rlEndM D m p t).1 = false := by
    intro m p t h0 h1
    unfold rlEndM
    by_cases a1 : letM D p = 59
    · rw [if_pos a1]
      by_cases a2 : m = 0
      · rw [if_pos a2]
      · rw [if_neg a2]
        by_cases a3 : m = t 1
        · rw [if_neg (fun z => z.2 a3), if_pos (by omega)]
        · rw [if_pos ⟨h0, a3⟩]
    · rw [if_neg a1]
  intro u
  induction u with
  | zero => intro m p t h0 h1; exact fin m p t h0 h1
  | succ u ih =>
    intro m p t h0 h1
    rw [rlM]
    by_cases a1 : withinC (letM D p) 48 51 = true
    · rw [if_pos a1]
      by_cases a2 : 36 ≤ t 0 + m
      · rw [if_pos a2]
      · rw [if_neg a2]
        exact ih _ _ _ (by rw [va_up_ne _ _ (by omega)]; exact h0) (by rw [va_up_ne _ _ (by omega), va_up_ne _ _ (by omega)]; exact h1)
    · rw [if_neg a1]
      exact fin m p t h0 h1
theorem rl_keep : ∀ (u m p : Nat) (t : Nat → Nat) (j : Nat), 39 ≤ j → (rlM D u m p t).2.2 j = t j := by
  have fin : ∀ (m p : Nat) (t : Nat → Nat) (j : Nat), 39 ≤ j → (rlEndM D m p t).2.2 j = t j := by
    intro m p t j hj
    unfold rlEndM
    (repeat' split) <;> first | rfl | (show va_up (va_up t 1 m) 0 (t 0 + m) j = t j; rw [va_up_ne _ _ (by omega), va_up_ne _ _ (by omega)])
  intro u
  induction u with
  | zero => intro m p t j hj; exact fin m p t j hj
  | succ u ih =>
    intro m p t j hj
    rw [rlM]
    by_cases a1 : withinC (letM D p) 48 51 = true
    · rw [if_pos a1]
      by_cases a2 : 36 ≤ t 0 + m
      · rw [if_pos a2]
      · rw [if_neg a2, ih _ _ _ j hj, va_up_ne _ _ (by omega)]
    · rw [if_neg a1]
      exact fin m p t j hj
/-- the line's item -/
theorem ln_item {L : LV} {O : OV} (h : TxK K le D) (hp : p < 900) (hD : DR L O dr be) (h1 : L.2.2.2.1 = 0 ∨ 1 ≤ dr 1) : (rdLine K le (nI D.1.1) (nI p) L).1 = (rlM D 6 0 p dr).1 ∧ ((rlM D 6 0 p dr).1 = true → (rdLine K le (nI D.1.1) (nI p) L).2.1 = nI (rlM D 6 0 p dr).2.1 ∧ DR (rdLine K le (nI D.1.1) (nI p) L).2.2 O (rlM D 6 0 p dr).2.2 be ∧ 1 ≤ (rlM D 6 0 p dr).2.2 1) := by
  obtain ⟨⟨hI, hS⟩, hL, hP, hW⟩ := id hD
  have lw := liwi hL
  obtain ⟨i1, i2, i3, i4, i5, i6, i7, i8, i9, i10, i11, i12, i13⟩ := id hI
  obtain ⟨⟨ln, l1, l2, l3⟩, l4, l5, l6, l7, l8, l9, l10⟩ := id hL
  unfold rdLine
  rw [lw, l2]
  have hz : 0 < ln → 1 ≤ dr 1 := fun q => h1.elim (fun z => absurd (l2.symm.trans z) (nI_ne0 q (by omega))) (fun z => z)
  by_cases a1 : ln < 6
  · rw [if_pos (show nI ln < 6 from nI_lt (b := 6) a1 (by decide))]
    obtain ⟨r1, r2⟩ := rl_eq h 6 0 p L dr rfl (by omega) ⟨⟨ln, a1, l2, l3, hz⟩, i3, l4, l5, l6, l7, l8, l9, l10⟩
    refine ⟨r1, fun z => ?_⟩
    obtain ⟨g1, g2⟩ := r2 z
    obtain ⟨m', b1, b2, b3, b4, b5, b6, b7, b8, b9⟩ := rlM_ok 6 0 p dr rfl (by omega) z
    refine ⟨g1, ⟨⟨⟨by rw [b7]; exact i1, by rw [b5]; exact b4, by rw [b6]; exact b3, fun _ => by rw [b6]; exact b2, i5, i6, fun i hi => by rw [rl_keep _ _ _ _ _ (by omega)]; exact i7 i hi, i8, fun r hr k hk => ?_, i10, i11, by rw [b7]; exact i12, by rw [b7]; exact i13⟩, by rw [b7]; exact hS⟩, g2, RP_t b7 (fun r hr => rl_keep _ _ _ _ _ (by omega)) (fun r hr => rl_keep _ _ _ _ _ (by omega)) i1 hP, hW⟩, by rw [b6]; exact b2⟩
    rw [b7] at hr
    rw [b5]
    exact Nat.lt_of_lt_of_le (i9 r hr k hk) (by omega)
  · have e6 : ln = 6 := by omega
    have w := hz (by omega)
    have r0 := rl_six (D := D) 6 0 p dr (by rw [l3, e6]; omega) (by rw [l3, e6])
    rw [if_neg (show ¬ nI ln < 6 from nI_nlt (b := 6) (by omega) (by omega)), r0]
    exact ⟨rfl, fun z => Bool.noConfusion z⟩
end S19
