/-! BOTH SIDES: ditches, best -/
theorem mayDig_iff {t s : Nat → Nat} (h : Sn t s) {L : LV} (hL : RLd L t) {c : Nat} (hc : c < t 0) : mayDigM t s c = true ↔ t (3 + c) = 0 ∧ s (23 + c) = 0 ∧ ¬ TrAny t s c := by
  have o2 := h.1.2.1
  have hso := hL.2.2.2.2.2.2.1 c hc
  have k0 : nI (t (3 + c)) = 0 ↔ t (3 + c) = 0 := nI_eq (b := 0) (by omega) (by decide)
  have l0 : nI (s (23 + c)) = 0 ↔ s (23 + c) = 0 := lie_0 h (by omega) 0 (by decide)
  unfold mayDigM
  by_cases a1 : t (3 + c) = 0
  · rw [if_pos (k0.mpr a1)]
    by_cases a2 : s (23 + c) = 0
    · rw [if_pos (l0.mpr a2)]
      by_cases a3 : treeM t s c = -4
      · rw [if_pos a3]; exact ⟨fun _ => ⟨a1, a2, (treeM_no h.1 (by omega)).mp a3⟩, fun _ => rfl⟩
      · rw [if_neg a3]; exact ⟨fun z => (by cases z), fun z => absurd ((treeM_no h.1 (by omega)).mpr z.2.2) a3⟩
    · rw [if_neg (fun z => a2 (l0.mp z))]; exact ⟨fun z => (by cases z), fun z => absurd z.2.1 a2⟩
  · rw [if_neg (fun z => a1 (k0.mp z))]; exact ⟨fun z => (by cases z), fun z => absurd z.1 a1⟩
theorem dig_eq {t s : Nat → Nat} (h : Sn t s) {L : LV} (hL : RLd L t) {o : OV} (hP : RP t s o) {c : Nat} (hc : c < t 0) : digC L.1 o.2.2.1 o.2.2.2.2.1 (nI c) = mayDigM t s c := by
  have o2 := h.1.2.1
  obtain ⟨p1, p2, p3, p4, p5, p6⟩ := hP
  have hl := h.2.1 c (by omega)
  rw [Bool.eq_iff_iff, mayDig_iff h hL hc]
  unfold digC
  rw [ctn_gb _ (by omega), gb_mi, gb_mi]
  simp only [Bool.and_eq_true, Bool.not_eq_true', ← Bool.not_eq_true, p3, p5, hL.2.2.1]
  constructor
  · rintro ⟨⟨⟨a1, a2⟩, a3⟩, a4⟩
    have b1 : ¬ s (23 + c) = 1 := fun z => a3 ⟨by omega, z⟩
    have b2 : ¬ s (23 + c) = 2 := fun z => a4 ⟨by omega, Or.inl z⟩
    exact ⟨a2, by omega, fun z => a4 ⟨by omega, Or.inr z⟩⟩
  · rintro ⟨a1, a2, a3⟩
    refine ⟨⟨⟨hc, a1⟩, fun z => by omega⟩, fun z => ?_⟩
    rcases z.2 with z | z
    · omega
    · exact a3 z
theorem lie_up {t s : Nat → Nat} (h : Sn t s) {c v : Nat} (hc : c < t 0) (hv : v ≤ 2) (hn : ¬ TrAny t s c) : Sn t (va_up s (23 + c) v) ∧ (∀ j, TrAny t (va_up s (23 + c) v) j ↔ TrAny t s j) := by
  have o1 := h.1.1
  have o2 := h.1.2.1
  have e : ∀ j, j < 23 → va_up s (23 + c) v j = s j := fun j hj => va_up_ne _ _ (by omega)
  have hT : ∀ j, TrAny t (va_up s (23 + c) v) j ↔ TrAny t s j := by
    intro j
    unfold TrAny TrIn
    constructor
    · rintro ⟨r, hr, k, hk, ek⟩
      have o5 := h.1.2.2.2.2.1 r (by omega)
      rw [e _ (by omega)] at hk
      rw [e _ (by omega)] at ek
      exact ⟨r, hr, k, hk, ek⟩
    · rintro ⟨r, hr, k, hk, ek⟩
      have o5 := h.1.2.2.2.2.1 r (by omega)
      exact ⟨r, hr, k, by rw [e _ (by omega)]; exact hk, by rw [e _ (by omega)]; exact ek⟩
  refine ⟨⟨okS_of h.1 (fun j _ h2 => e j h2), fun x hx => ?_, fun x h1 h2 => ?_, fun r q k m hr hq hk hm g => ?_, fun r k hr hk => ?_, fun r h1 h2 => by rw [e _ (by omega)]; exact h.2.2.2.2.2 r h1 h2⟩, hT⟩
  · by_cases hx2 : x = c
    · subst hx2; rw [va_up_self]; exact hv
    · rw [va_up_ne _ _ (by omega)]; exact h.2.1 x hx
  · rw [va_up_ne _ _ (by omega)]; exact h.2.2.1 x h1 h2
  · have a5 := h.1.2.2.2.2.1 r (by omega)
    have b5 := h.1.2.2.2.2.1 q (by omega)
    rw [e _ (by omega)] at hk hm
    rw [e _ (by omega), e _ (by omega)] at g
    exact h.2.2.2.1 r q k m hr hq hk hm g
  · have a5 := h.1.2.2.2.2.1 r (by omega)
    rw [e _ (by omega)] at hk
    rw [e (11 + 4 * r + k) (by omega)]
    have hne : s (11 + 4 * r + k) ≠ c := fun z => hn ⟨r, hr, k, hk, z⟩
    rw [va_up_ne _ _ (by omega)]
    exact h.2.2.2.2.1 r k hr hk
theorem row_up {t s : Nat → Nat} (h : Sn t s) {c v r : Nat} (hr : r < t 2) {w : RV} (hR : RowR t s r w) : RowR t (va_up s (23 + c) v) r w := by
  have o1 := h.1.1
  have a5 := h.1.2.2.2.2.1 r (by omega)
  obtain ⟨r1, r2, r3, r4, r5⟩ := hR
  refine ⟨by rw [va_up_ne _ _ (by omega)]; exact r1, r2, by rw [va_up_ne _ _ (by omega)]; exact r3, r4, fun k hk => ?_⟩
  rw [va_up_ne _ _ (by omega)] at hk
  rw [va_up_ne _ _ (by omega)]
  exact r5 k hk
theorem dig_P {t s : Nat → Nat} (h : Sn t s) {L : LV} (hL : RLd L t) {o : OV} (hP : RP t s o) {c : Nat} (hc : c < t 0) (hm : mayDigM t s c = true) : Sn t (va_up s (23 + c) 1) ∧ RP t (va_up s (23 + c) 1) (orDit o (bitC (nI c))) ∧ (RW s o.2.2.2.2.2.2.1 → RW (va_up s (23 + c) 1) (orDit o (bitC (nI c))).2.2.2.2.2.2.1) ∧ va_up s (23 + c) 1 0 = s 0 := by
  have o2 := h.1.2.1
  obtain ⟨m1, m2, m3⟩ := (mayDig_iff h hL hc).mp hm
  obtain ⟨g1, g2⟩ := lie_up h (v := 1) hc (by decide) m3
  obtain ⟨p1, p2, p3, p4, p5, p6⟩ := hP
  refine ⟨g1, ⟨p1, by rw [va_up_ne _ _ (by omega)]; exact p2, fun j => ?_, fun j => ?_, fun j => ?_, fun r hr => row_up h hr (p6 r hr)⟩, fun hw p hp => by rw [va_up_ne _ _ (by omega)]; exact hw p hp, va_up_ne _ _ (by omega)⟩
  · show gb (_ ||| _) j = true ↔ _
    rw [gb_or1 _ (by omega), Bool.or_eq_true, p3, decide_eq_true_eq]
    by_cases hj : j = c
    · subst hj; rw [va_up_self]; exact ⟨fun _ => ⟨by omega, rfl⟩, fun _ => Or.inr rfl⟩
    · rw [va_up_ne _ _ (by omega)]; exact ⟨fun z => z.elim id (fun q => absurd q hj), Or.inl⟩
  · show gb o.2.2.2.1 j = true ↔ _
    rw [p4]
    by_cases hj : j = c
    · subst hj; rw [va_up_self]; exact ⟨fun z => by omega, fun z => by omega⟩
    · rw [va_up_ne _ _ (by omega)]
  · show gb o.2.2.2.2.1 j = true ↔ _
    rw [p5, g2]
    by_cases hj : j = c
    · subst hj; rw [va_up_self, m2]
      exact ⟨fun z => ⟨z.1, z.2.elim (fun q => by omega) Or.inr⟩, fun z => ⟨z.1, z.2.elim (fun q => by omega) Or.inr⟩⟩
    · rw [va_up_ne _ _ (by omega)]
theorem mayDig_2 {t s : Nat → Nat} (h : Sn t s) {L : LV} (hL : RLd L t) {p q : Nat} (hp : p < t 0) (hq : q < t 0) (hpq : p ≠ q) (h1 : mayDigM t s p = true) (h2 : mayDigM t s q = true) : mayDigM t (va_up s (23 + p) 1) q = true := by
  obtain ⟨m1, m2, m3⟩ := (mayDig_iff h hL hp).mp h1
  obtain ⟨n1, n2, n3⟩ := (mayDig_iff h hL hq).mp h2
  obtain ⟨g1, g2⟩ := lie_up h (v := 1) hp (by decide) m3
  rw [mayDig_iff g1 hL hq, va_up_ne _ _ (by omega), g2]
  exact ⟨n1, n2, n3⟩
section DIT
variable {C : CS} {t s : Nat → Nat} (hI : RQ (cL C 0) (cO C 0) t s) {m r : Nat} (hm : m ≤ 20) (hr : r < t 2)
theorem f0_eq (hI : RQ (cL C 0) (cO C 0) t s) (hm : m ≤ 20) (hr : r < t 2) (a : OV) : firstR (ftbA C a m 0) (nI r) = nI (passN t m s (11 + 4 * r)) := by
  obtain ⟨h, hL, hP, hw, hy, h2⟩ := hI
  obtain ⟨g1, g2⟩ := run_P hL m s _ h (copy_P h hP a).1 (by omega)
  unfold ftbA
  rw [orDit_0]
  exact firstR_eq g1.1 g2 hr
theorem f1_eq (hI : RQ (cL C 0) (cO C 0) t s) (hm : m ≤ 20) (hr : r < t 2) (a : OV) {p : Nat} (hp : p < t 0) (h1 : mayDigM t s p = true) : firstR (ftbA C a m (bitC (nI p))) (nI r) = nI (passN t m (va_up s (23 + p) 1) (11 + 4 * r)) := by
  obtain ⟨h, hL, hP, hw, hy, h2⟩ := hI
  obtain ⟨d1, d2, -, d4⟩ := dig_P h hL (copy_P h hP a).1 hp h1
  obtain ⟨g1, g2⟩ := run_P hL m _ _ d1 d2 (by omega)
  exact firstR_eq g1.1 g2 hr
theorem f2_eq (hI : RQ (cL C 0) (cO C 0) t s) (hm : m ≤ 20) (hr : r < t 2) (a : OV) {p q : Nat} (hp : p < t 0) (hq : q < t 0) (hpq : p ≠ q) (h1 : mayDigM t s p = true) (h2 : mayDigM t s q = true) : firstR (ftbA C a m (bitC (nI p) ||| bitC (nI q))) (nI r) = nI (passN t m (va_up (va_up s (23 + p) 1) (23 + q) 1) (11 + 4 * r)) := by
  obtain ⟨h, hL, hP, hw, hy, h3⟩ := hI
  obtain ⟨d1, d2, -, d4⟩ := dig_P h hL (copy_P h hP a).1 hp h1
  obtain ⟨e1, e2, -, e4⟩ := dig_P d1 hL d2 hq (mayDig_2 h hL hp hq hpq h1 h2)
  obtain ⟨g1, g2⟩ := run_P hL m _ _ e1 e2 (by omega)
  unfold ftbA
  rw [← orDit_2]
  exact firstR_eq g1.1 g2 hr
theorem no1 (C : CS) (a : OV) (m : Nat) {p : Nat} (hp : p < 36) (h : gb (enO (ftbA C a m 0)) p = false) : ftbA C a m (bitC (nI p)) = orDit (ftbA C a m 0) (bitC (nI p)) := by
  unfold ftbA at h ⊢
  rw [orDit_0] at h ⊢
  exact ys_dit _ _ hp m _ h
theorem no2 (C : CS) (a : OV) (m k : Nat) {p : Nat} (hp : p < 36) (h : gb (enO (ftbA C a m (bitC (nI k)))) p = false) : ftbA C a m (bitC (nI k) ||| bitC (nI p)) = orDit (ftbA C a m (bitC (nI k))) (bitC (nI p)) := by
  unfold ftbA at h ⊢
  rw [← orDit_2]
  exact ys_dit _ _ hp m _ h
def enOk (C : CS) (m j : Nat) (E : Int64) : Prop := ∃ a', E = enO (ftbA C a' m (bitC (nI j)))
theorem br1_iff (t s : Nat → Nat) (r : Nat) (x : Int32) (m p : Nat) : br1 t s r x m p = true ↔ mayDigM t s p = true ∧ nI (passN t m (va_up s (23 + p) 1) (11 + 4 * r)) = x := by
  unfold br1 eqB
  by_cases h1 : mayDigM t s p = true
  · rw [if_pos h1]
    by_cases h2 : nI (passN t m (va_up s (23 + p) 1) (11 + 4 * r)) = x
    · rw [if_pos h2]; exact ⟨fun _ => ⟨h1, h2⟩, fun _ => rfl⟩
    · rw [if_neg h2]; exact ⟨fun z => (by cases z), fun z => absurd z.2 h2⟩
  · rw [if_neg h1]; exact ⟨fun z => (by cases z), fun z => absurd z.1 h1⟩
theorem br2_iff (t s : Nat → Nat) (r : Nat) (x : Int32) (m p q : Nat) : br2 t s r x m p q = true ↔ mayDigM t s p = true ∧ mayDigM t s q = true ∧ nI (passN t m (va_up (va_up s (23 + p) 1) (23 + q) 1) (11 + 4 * r)) = x := by
  unfold br2 eqB
  by_cases h1 : mayDigM t s p = true
  · rw [if_pos h1]
    by_cases h3 : mayDigM t s q = true
    · rw [if_pos h3]
      by_cases h2 : nI (passN t m (va_up (va_up s (23 + p) 1) (23 + q) 1) (11 + 4 * r)) = x
      · rw [if_pos h2]; exact ⟨fun _ => ⟨h1, h3, h2⟩, fun _ => rfl⟩
      · rw [if_neg h2]; exact ⟨fun z => (by cases z), fun z => absurd z.2.2 h2⟩
    · rw [if_neg h3]; exact ⟨fun z => (by cases z), fun z => absurd z.2.1 h3⟩
  · rw [if_neg h1]; exact ⟨fun z => (by cases z), fun z => absurd z.1 h1⟩
theorem vp_L (f : Nat → Int64) (i : Nat) (v : Int64) (j : Nat) : vp_updL f i v j = if j = i then v else f j := rfl
theorem first_dit (o : OV) (d : Int64) (r : Int32) : firstR (orDit o d) r = firstR o r := rfl
theorem n1_all (hI : RQ (cL C 0) (cO C 0) t s) (hm : m ≤ 20) (hr : r < t 2) {x : Int32} (a0 : OV) (hne : ¬ nI (passN t m s (11 + 4 * r)) = x) : ∀ (q k : Nat) (fd : Nat → Int32) (en : Nat → Int64) (a : OV), q + k = 36 → k ≤ t 0 → (∀ j, j < k → mayDigM t s j = true → enOk C m j (en j)) →
    ((n1From C m (nI r) x (enO (ftbA C a0 m 0)) q k fd en a).1 = 1 ∧ ∃ p, k ≤ p ∧ p < t 0 ∧ (n1From C m (nI r) x (enO (ftbA C a0 m 0)) q k fd en a).2.1 0 = nI p ∧ br1 t s r x m p = true ∧ ∀ j, k ≤ j → j < p → br1 t s r x m j = false) ∨
    ((n1From C m (nI r) x (enO (ftbA C a0 m 0)) q k fd en a).1 = -4 ∧ (∀ j, j < t 0 → mayDigM t s j = true → enOk C m j ((n1From C m (nI r) x (enO (ftbA C a0 m 0)) q k fd en a).2.2.1 j)) ∧ ∀ j, k ≤ j → j < t 0 → br1 t s r x m j = false) := by
  obtain ⟨h, hL, hP, hw, hy, h2⟩ := id hI
  have o2 := h.1.2.1
  intro q
  induction q with
  | zero =>
    intro k fd en a hq hk hen
    exact Or.inr ⟨rfl, fun j hj hd => hen j (by omega) hd, fun j h1 h2 => absurd h2 (by omega)⟩
  | succ q ih =>
    intro k fd en a hq hk hen
    rw [n1From]
    have ec : cellsC C = nI (t 0) := li_wi hL
    rw [ec]
    rcases Nat.eq_or_lt_of_le hk with e | hlt
    · rw [if_pos (nI_le (by omega) (by omega))]
      exact Or.inr ⟨rfl, fun j hj hd => hen j (by omega) hd, fun j h1 h2 => absurd h2 (by omega)⟩
    · rw [if_neg (nI_ge hlt (by omega))]
      have ed : dC0 C (nI k) = mayDigM t s k := dig_eq h hL hP hlt
      rw [ed]
      have shift : ∀ (en' : Nat → Int64) (a' : OV), (∀ j, j ≠ k → en' j = en j) → (mayDigM t s k = true → enOk C m k (en' k)) → br1 t s r x m k = false →
          ((n1From C m (nI r) x (enO (ftbA C a0 m 0)) q (k + 1) fd en' a').1 = 1 ∧ ∃ p, k ≤ p ∧ p < t 0 ∧ (n1From C m (nI r) x (enO (ftbA C a0 m 0)) q (k + 1) fd en' a').2.1 0 = nI p ∧ br1 t s r x m p = true ∧ ∀ j, k ≤ j → j < p → br1 t s r x m j = false) ∨
          ((n1From C m (nI r) x (enO (ftbA C a0 m 0)) q (k + 1) fd en' a').1 = -4 ∧ (∀ j, j < t 0 → mayDigM t s j = true → enOk C m j ((n1From C m (nI r) x (enO (ftbA C a0 m 0)) q (k + 1) fd en' a').2.2.1 j)) ∧ ∀ j, k ≤ j → j < t 0 → br1 t s r x m j = false) := by
        intro en' a' he1 he2 hb
        rcases ih (k + 1) fd en' a' (by omega) hlt (fun j hj hd => by
          by_cases hjk : j = k
          · subst hjk; exact he2 hd
          · rw [he1 j hjk]; exact hen j (by omega) hd) with ⟨g1, p, g2, g3, g4, g5, g6⟩ | ⟨g1, g2, g3⟩
        · refine Or.inl ⟨g1, p, by omega, g3, g4, g5, fun j h1 h2 => ?_⟩
          by_cases hjk : j = k
          · subst hjk; exact hb
          · exact g6 j (by omega) h2
        · refine Or.inr ⟨g1, g2, fun j h1 h2 => ?_⟩
          by_cases hjk : j = k
          · subst hjk; exact hb
          · exact g3 j (by omega) h2
      by_cases hd : mayDigM t s k = false
      · rw [if_pos hd]
        exact shift _ _ (fun j hj => by rw [vp_L, if_neg hj]) (fun z => by rw [hd] at z; cases z) (gb_nf (fun z => by rw [((br1_iff _ _ _ _ _ _).mp z).1] at hd; cases hd))
      · have hd' : mayDigM t s k = true := by cases z : mayDigM t s k; exact absurd z hd; rfl
        rw [if_neg hd, ctn_gb _ (by omega)]
        by_cases hg : gb (enO (ftbA C a0 m 0)) k = false
        · rw [if_pos hg]
          have e1 := no1 C a0 m (p := k) (by omega) hg
          refine shift _ _ (fun j hj => by rw [vp_L, if_neg hj]) (fun _ => ⟨a0, ?_⟩) (gb_nf (fun z => ?_))
          · rw [vp_L, if_pos rfl, e1]; rfl
          · have hv := ((br1_iff _ _ _ _ _ _).mp z).2
            rw [← f1_eq hI hm hr a0 hlt hd', e1, first_dit, f0_eq hI hm hr a0] at hv
            exact hne hv
        · rw [if_neg hg, f1_eq hI hm hr a hlt hd']
          by_cases hx : nI (passN t m (va_up s (23 + k) 1) (11 + 4 * r)) = x
          · rw [if_pos hx]
            exact Or.inl ⟨rfl, k, Nat.le_refl _, hlt, rfl, (br1_iff _ _ _ _ _ _).mpr ⟨hd', hx⟩, fun j h1 h2 => absurd h2 (by omega)⟩
          · rw [if_neg hx]
            refine shift _ _ (fun j hj => by rw [vp_L, if_neg hj, vp_L, if_neg hj]) (fun _ => ⟨a, ?_⟩) (gb_nf (fun z => hx ((br1_iff _ _ _ _ _ _).mp z).2))
            rw [vp_L, if_pos rfl]
theorem t2In_all (hI : RQ (cL C 0) (cO C 0) t s) (hm : m ≤ 20) (hr : r < t 2) {x : Int32} {en : Nat → Int64} (hen : ∀ j, j < t 0 → mayDigM t s j = true → enOk C m j (en j)) (hb1 : ∀ j, j < t 0 → br1 t s r x m j = false) {k : Nat} (hk : k < t 0) (hdk : mayDigM t s k = true) : ∀ (q b : Nat) (fd : Nat → Int32) (a : OV), q + b = 36 → k < b → b ≤ t 0 →
    ((t2In C m (nI r) x en k q b fd a).1 = true ∧ ∃ p, b ≤ p ∧ p < t 0 ∧ (t2In C m (nI r) x en k q b fd a).2.1 0 = nI k ∧ (t2In C m (nI r) x en k q b fd a).2.1 1 = nI p ∧ br2 t s r x m k p = true ∧ ∀ j, b ≤ j → j < p → br2 t s r x m k j = false) ∨
    ((t2In C m (nI r) x en k q b fd a).1 = false ∧ ∀ j, b ≤ j → j < t 0 → br2 t s r x m k j = false) := by
  obtain ⟨h, hL, hP, hw, hy, h2⟩ := id hI
  have o2 := h.1.2.1
  intro q
  induction q with
  | zero => intro b fd a hq hkb hb; exact Or.inr ⟨rfl, fun j h1 h2 => absurd h2 (by omega)⟩
  | succ q ih =>
    intro b fd a hq hkb hb
    rw [t2In]
    have ec : cellsC C = nI (t 0) := li_wi hL
    rw [ec]
    rcases Nat.eq_or_lt_of_le hb with e | hlt
    · rw [if_pos (nI_le (by omega) (by omega))]
      exact Or.inr ⟨rfl, fun j h1 h2 => absurd h2 (by omega)⟩
    · rw [if_neg (nI_ge hlt (by omega)), ctn_gb _ (by omega), ctn_gb _ (by omega)]
      have shift : ∀ (a' : OV), br2 t s r x m k b = false →
          ((t2In C m (nI r) x en k q (b + 1) fd a').1 = true ∧ ∃ p, b ≤ p ∧ p < t 0 ∧ (t2In C m (nI r) x en k q (b + 1) fd a').2.1 0 = nI k ∧ (t2In C m (nI r) x en k q (b + 1) fd a').2.1 1 = nI p ∧ br2 t s r x m k p = true ∧ ∀ j, b ≤ j → j < p → br2 t s r x m k j = false) ∨
          ((t2In C m (nI r) x en k q (b + 1) fd a').1 = false ∧ ∀ j, b ≤ j → j < t 0 → br2 t s r x m k j = false) := by
        intro a' hbf
        rcases ih (b + 1) fd a' (by omega) (by omega) hlt with ⟨g1, p, g2, g3, g4, g5, g6, g7⟩ | ⟨g1, g2⟩
        · refine Or.inl ⟨g1, p, by omega, g3, g4, g5, g6, fun j h1 h2 => ?_⟩
          by_cases hjb : j = b
          · subst hjb; exact hbf
          · exact g7 j (by omega) h2
        · refine Or.inr ⟨g1, fun j h1 h2 => ?_⟩
          by_cases hjb : j = b
          · subst hjb; exact hbf
          · exact g2 j (by omega) h2
      have ed : dC0 C (nI b) = mayDigM t s b := dig_eq h hL hP hlt
      by_cases hg : gb (en k) b = false
      · rw [if_pos hg]
        refine shift a (gb_nf (fun z => ?_))
        obtain ⟨z1, z2, z3⟩ := (br2_iff _ _ _ _ _ _ _).mp z
        obtain ⟨a', ea⟩ := hen k hk hdk
        rw [ea] at hg
        rw [← f2_eq hI hm hr a' hk hlt (by omega) hdk z2, no2 C a' m k (by omega) hg, first_dit, f1_eq hI hm hr a' hk hdk] at z3
        have := (br1_iff t s r x m k).mpr ⟨hdk, z3⟩
        rw [hb1 k hk] at this; cases this
      · rw [if_neg hg]
        by_cases hg2 : gb (en b) k = false
        · rw [if_pos hg2]
          refine shift a (gb_nf (fun z => ?_))
          obtain ⟨z1, z2, z3⟩ := (br2_iff _ _ _ _ _ _ _).mp z
          obtain ⟨a', ea⟩ := hen b hlt z2
          rw [ea] at hg2
          have ecm : bitC (nI k) ||| bitC (nI b) = bitC (nI b) ||| bitC (nI k) := gb_ext (fun j => by rw [gb_or, gb_or, Bool.or_comm])
          rw [← f2_eq hI hm hr a' hk hlt (by omega) hdk z2, ecm, no2 C a' m b (by omega) hg2, first_dit, f1_eq hI hm hr a' hlt z2] at z3
          have := (br1_iff t s r x m b).mpr ⟨z2, z3⟩
          rw [hb1 b hlt] at this; cases this
        · rw [if_neg hg2, ed]
          by_cases hd : mayDigM t s b = false
          · rw [if_pos hd]
            exact shift a (gb_nf (fun z => by rw [((br2_iff _ _ _ _ _ _ _).mp z).2.1] at hd; cases hd))
          · have hd' : mayDigM t s b = true := by cases z : mayDigM t s b; exact absurd z hd; rfl
            rw [if_neg hd, f2_eq hI hm hr a hk hlt (by omega) hdk hd']
            by_cases hx : nI (passN t m (va_up (va_up s (23 + k) 1) (23 + b) 1) (11 + 4 * r)) = x
            · rw [if_pos hx]
              exact Or.inl ⟨rfl, b, Nat.le_refl _, hlt, rfl, rfl, (br2_iff _ _ _ _ _ _ _).mpr ⟨hdk, hd', hx⟩, fun j h1 h2 => absurd h2 (by omega)⟩
            · rw [if_neg hx]
              exact shift _ (gb_nf (fun z => hx ((br2_iff _ _ _ _ _ _ _).mp z).2.2))
theorem d2In_hit (t s : Nat → Nat) (r : Nat) (x : Int32) (m : Nat) (kk : Int32) (k p : Nat) (hh : br2 t s r x m k p = true) : ∀ (u b : Nat), b ≤ p → p < b + u → (∀ j, b ≤ j → j < p → br2 t s r x m k j = false) → d2In t s r x m kk k u b = some (if kk = -1 then 2 else if kk = 0 then nI k else nI p) := by
  intro u
  induction u with
  | zero => intro b h1 h2; omega
  | succ u ih =>
    intro b h1 h2 h3
    rw [d2In]
    by_cases hb : b = p
    · subst hb; rw [if_pos hh]
    · rw [if_neg (by rw [h3 b (Nat.le_refl _) (by omega)]; decide)]
      exact ih (b + 1) (by omega) (by omega) (fun j g1 g2 => h3 j (by omega) g2)
theorem d2In_no (t s : Nat → Nat) (r : Nat) (x : Int32) (m : Nat) (kk : Int32) (k : Nat) : ∀ (u b : Nat), (∀ j, b ≤ j → j < b + u → br2 t s r x m k j = false) → d2In t s r x m kk k u b = none := by
  intro u
  induction u with
  | zero => intro b _; rfl
  | succ u ih =>
    intro b h
    rw [d2In, if_neg (by rw [h b (Nat.le_refl _) (by omega)]; decide)]
    exact ih (b + 1) (fun j g1 g2 => h j (by omega) (by omega))
theorem t2_all (hI : RQ (cL C 0) (cO C 0) t s) (hm : m ≤ 20) (hr : r < t 2) {x : Int32} {en : Nat → Int64} (hen : ∀ j, j < t 0 → mayDigM t s j = true → enOk C m j (en j)) (hb1 : ∀ j, j < t 0 → br1 t s r x m j = false) (kk : Int32) : ∀ (q k : Nat) (fd : Nat → Int32) (a : OV), q + k = 36 → k ≤ t 0 →
    ((t2Out C m (nI r) x en q k fd a).1 = 2 ∧ ∃ p b, (t2Out C m (nI r) x en q k fd a).2.1 0 = nI p ∧ (t2Out C m (nI r) x en q k fd a).2.1 1 = nI b ∧ p < 36 ∧ b < 36 ∧ d2Out t s r x m kk (t 0 - k) k = (if kk = -1 then 2 else if kk = 0 then nI p else nI b)) ∨
    ((t2Out C m (nI r) x en q k fd a).1 = -4 ∧ d2Out t s r x m kk (t 0 - k) k = -4) := by
  obtain ⟨h, hL, hP, hw, hy, h2⟩ := id hI
  have o2 := h.1.2.1
  intro q
  induction q with
  | zero => intro k fd a hq hk; rw [show t 0 - k = 0 by omega]; exact Or.inr ⟨rfl, rfl⟩
  | succ q ih =>
    intro k fd a hq hk
    rw [t2Out]
    have ec : cellsC C = nI (t 0) := li_wi hL
    rw [ec]
    rcases Nat.eq_or_lt_of_le hk with e | hlt
    · rw [if_pos (nI_le (by omega) (by omega)), show t 0 - k = 0 by omega]
      exact Or.inr ⟨rfl, rfl⟩
    · rw [if_neg (nI_ge hlt (by omega)), show t 0 - k = (t 0 - (k + 1)) + 1 by omega, d2Out]
      have ed : dC0 C (nI k) = mayDigM t s k := dig_eq h hL hP hlt
      rw [ed]
      by_cases hd : mayDigM t s k = false
      · rw [if_pos hd, d2In_no _ _ _ _ _ _ _ _ _ (fun j _ _ => gb_nf (fun z => by rw [((br2_iff _ _ _ _ _ _ _).mp z).1] at hd; cases hd))]
        exact ih (k + 1) fd a (by omega) hlt
      · have hd' : mayDigM t s k = true := by cases z : mayDigM t s k; exact absurd z hd; rfl
        rw [if_neg hd]
        rcases t2In_all hI hm hr hen hb1 hlt hd' q (k + 1) fd a (by omega) (by omega) hlt with ⟨g1, p, g2, g3, g4, g5, g6, g7⟩ | ⟨g1, g2⟩
        · rw [if_pos g1, d2In_hit _ _ _ _ _ _ _ _ g6 _ _ g2 (by omega) g7]
          exact Or.inl ⟨rfl, k, p, g4, g5, by omega, by omega, rfl⟩
        · rw [if_neg (by rw [g1]; decide), d2In_no _ _ _ _ _ _ _ _ _ (fun j z1 z2 => g2 j z1 (by omega))]
          exact ih (k + 1) _ _ (by omega) hlt
theorem d1_hit (t s : Nat → Nat) (r : Nat) (x : Int32) (m : Nat) (kk : Int32) (p : Nat) (hh : br1 t s r x m p = true) : ∀ (u b : Nat), b ≤ p → p < b + u → (∀ j, b ≤ j → j < p → br1 t s r x m j = false) → d1M t s r x m kk u b = (if kk = -1 then 1 else if kk = 0 then nI p else -4) := by
  intro u
  induction u with
  | zero => intro b h1 h2; omega
  | succ u ih =>
    intro b h1 h2 h3
    rw [d1M]
    by_cases hb : b = p
    · subst hb; rw [if_pos hh]
    · rw [if_neg (by rw [h3 b (Nat.le_refl _) (by omega)]; decide)]
      exact ih (b + 1) (by omega) (by omega) (fun j g1 g2 => h3 j (by omega) g2)
theorem d1_no (t s : Nat → Nat) (r : Nat) (x : Int32) (m : Nat) (kk : Int32) : ∀ (u b : Nat), (∀ j, b ≤ j → j < b + u → br1 t s r x m j = false) → d1M t s r x m kk u b = d2Out t s r x m kk (t 0) 0 := by
  intro u
  induction u with
  | zero => intro b _; rfl
  | succ u ih =>
    intro b h
    rw [d1M, if_neg (by rw [h b (Nat.le_refl _) (by omega)]; decide)]
    exact ih (b + 1) (fun j g1 g2 => h j (by omega) (by omega))
theorem k_of {k : Int32} (h : withinC k (-1) 1 = true) : k = -1 ∨ k = 0 ∨ k = 1 := by
  unfold withinC at h
  split at h
  · cases h
  · split at h
    · cases h
    · rename_i h1 h2
      have a1 : ¬ k.toInt < (-1 : Int32).toInt := fun q => h1 (Int32.lt_iff_toInt_lt.mpr q)
      have a2 : ¬ (1 : Int32).toInt < k.toInt := fun q => h2 (Int32.lt_iff_toInt_lt.mpr q)
      have b1 : (-1 : Int32).toInt = -1 := by decide
      have b2 : (1 : Int32).toInt = 1 := by decide
      rcases (show k.toInt = -1 ∨ k.toInt = 0 ∨ k.toInt = 1 by omega) with z | z | z
      · exact Or.inl (Int32.toInt_inj.mp (by rw [z]; decide))
      · exact Or.inr (Or.inl (Int32.toInt_inj.mp (by rw [z]; decide)))
      · exact Or.inr (Or.inr (Int32.toInt_inj.mp (by rw [z]; decide)))
theorem dit_eq (hI : RQ (cL C 0) (cO C 0) t s) (hm : m ≤ 20) (hr : r < t 2) {x k : Int32} (hk : withinC k (-1) 1 = true) (fd : Nat → Int32) (en : Nat → Int64) (a : OV) : ditEnd k (ditZ C m (nI r) x fd en a) = d0M t s r x m k := by
  obtain ⟨h, hL, hP, hw, hy, h2⟩ := id hI
  have o2 := h.1.2.1
  unfold ditZ noneOne d0M br0 eqB
  rw [f0_eq hI hm hr a]
  by_cases h0 : nI (passN t m s (11 + 4 * r)) = x
  · simp only [if_pos h0]
    rw [if_neg (by decide)]
    unfold ditEnd
    dsimp only
    rcases k_of hk with z | z | z <;> subst z <;> rfl
  · simp only [if_neg h0, Bool.false_eq_true, if_false]
    rcases n1_all hI hm hr a h0 36 0 fd en (ftbA C a m 0) rfl (Nat.zero_le _) (fun j hj => absurd hj (by omega)) with ⟨g1, p, g2, g3, g4, g5, g6⟩ | ⟨g1, g2, g3⟩
    · rw [if_neg (by rw [g1]; decide), d1_hit t s r x m k p g5 _ _ (Nat.zero_le _) (by omega) g6]
      unfold ditEnd
      rw [g1]
      rcases k_of hk with z | z | z
      · subst z; rfl
      · subst z
        rw [if_neg (by decide), if_neg (by decide), if_neg (by decide), if_neg (by decide), if_neg (by decide), if_neg (by decide), if_pos rfl]
        exact g4
      · subst z; rfl
    · rw [if_pos g1, d1_no t s r x m k _ _ (fun j z1 z2 => g3 j z1 (by omega))]
      rcases t2_all hI hm hr g2 (fun j hj => g3 j (Nat.zero_le _) hj) k 36 0 (n1From C m (nI r) x (enO (ftbA C a m 0)) 36 0 fd en (ftbA C a m 0)).2.1 (n1From C m (nI r) x (enO (ftbA C a m 0)) 36 0 fd en (ftbA C a m 0)).2.2.2 rfl (Nat.zero_le _) with ⟨e1, p, b, e2, e3, e4, e5, e6⟩ | ⟨e1, e2⟩
      · rw [Nat.sub_zero] at e6
        rw [e6]
        unfold ditEnd
        dsimp only
        rw [e1]
        rcases k_of hk with z | z | z
        · subst z; rfl
        · subst z
          rw [if_neg (by decide), if_neg (by decide), if_neg (by decide), if_neg (by decide), if_neg (by decide), if_neg (by decide), if_pos rfl]
          exact e2
        · subst z
          rw [if_neg (by decide), if_neg (by decide), if_neg (by decide), if_neg (by decide), if_neg (by decide), if_neg (by decide), if_neg (by decide)]
          exact e3
      · rw [Nat.sub_zero] at e2
        rw [e2]
        unfold ditEnd
        dsimp only
        rw [e1]
        rcases k_of hk with z | z | z <;> subst z <;> rfl
theorem ditches_eq (hI : RQ (cL C 0) (cO C 0) t s) (A : Nat → Nat) (r x y k : Int32) (fd : Nat → Int32) (en : Nat → Int64) (a : OV) : (ditchesC C r x y k fd en a).1 = (ditQ t s A r x y k).1 := by
  obtain ⟨h, hL, hP, hw, hy, h2⟩ := id hI
  have o1 := h.1.1
  have o2 := h.1.2.1
  unfold ditchesC ditQ rC hC
  rw [row_eq o1 hP.1, cell_eq hL o2]
  by_cases a1 : rowQ t r = false
  · rw [if_pos a1, if_pos a1]
  · rw [if_neg a1, if_neg a1]
    by_cases a2 : cellQ t x = false
    · rw [if_pos a2, if_pos a2]
    · rw [if_neg a2, if_neg a2]
      by_cases a3 : withinC y 1 20 = false
      · rw [if_pos a3, if_pos a3]
      · rw [if_neg a3, if_neg a3]
        by_cases a4 : withinC k (-1) 1 = false
        · rw [if_pos a4, if_pos a4]
        · rw [if_neg a4, if_neg a4]
          have a1' : rowQ t r = true := by cases z : rowQ t r; exact absurd z a1; rfl
          have a3' : withinC y 1 20 = true := by cases z : withinC y 1 20; exact absurd z a3; rfl
          have a4' : withinC k (-1) 1 = true := by cases z : withinC k (-1) 1; exact absurd z a4; rfl
          obtain ⟨c, hc, rfl⟩ := rowQ_ok h.1 a1'
          obtain ⟨m, -, hm, rfl⟩ := within_nI (a := 1) (b := 20) rfl rfl a3'
          rw [nI_clamp (by omega), nI_clamp (by omega)]
          exact dit_eq hI hm hc a4' fd en a
end DIT
