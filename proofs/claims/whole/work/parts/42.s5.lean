/-! BOTH SIDES: a year goes by (2): all rows, what they bear -/
theorem RowR_of {t s s' : Nat → Nat} {r : Nat} {v : RV} (hr : r < 3) (e : ∀ j, 5 ≤ j → s' j = s j) (h : RowR t s r v) : RowR t s' r v := by
  obtain ⟨h1, h2, h3, h4, h5⟩ := h
  refine ⟨by rw [e _ (by omega)]; exact h1, h2, by rw [e _ (by omega)]; exact h3, h4, fun k hk => ?_⟩
  rw [e _ (by omega)] at hk
  rw [e _ (by omega)]
  exact h5 k hk
theorem TrAny_of {t s s' : Nat → Nat} (e : ∀ j, 5 ≤ j → s' j = s j) (c : Nat) : TrAny t s' c ↔ TrAny t s c := by
  unfold TrAny TrIn
  constructor
  · rintro ⟨r, hr, k, hk, ek⟩
    rw [e _ (by omega)] at hk ek
    exact ⟨r, hr, k, hk, ek⟩
  · rintro ⟨r, hr, k, hk, ek⟩
    exact ⟨r, hr, k, by rw [e _ (by omega)]; exact hk, by rw [e _ (by omega)]; exact ek⟩
theorem RP_of {t s s' : Nat → Nat} {o : OV} (h2 : t 2 ≤ 3) (e : ∀ j, 5 ≤ j → s' j = s j) (e0 : s' 0 = s 0) (h : RP t s o) : RP t s' o := by
  obtain ⟨p1, p2, p3, p4, p5, p6⟩ := h
  refine ⟨p1, by rw [e0]; exact p2, fun j => by rw [e _ (by omega)]; exact p3 j, fun j => by rw [e _ (by omega)]; exact p4 j, fun j => by rw [e _ (by omega), TrAny_of e]; exact p5 j, fun r hr => RowR_of (by omega) e (p6 r hr)⟩
theorem Sn_of {t s s' : Nat → Nat} (e : ∀ j, 5 ≤ j → s' j = s j) (h : Sn t s) : Sn t s' := by
  obtain ⟨h1, h2, h3, h4, h5, h6⟩ := h
  refine ⟨okS_of h1 (fun j g1 _ => e j g1), fun c hc => by rw [e _ (by omega)]; exact h2 c hc, fun c g1 g2 => by rw [e _ (by omega)]; exact h3 c g1 g2, fun r q k m hr hq hk hm g => ?_, fun r k hr hk => ?_, fun r g1 g2 => by rw [e _ (by omega)]; exact h6 r g1 g2⟩
  · rw [e _ (by omega)] at hk hm
    rw [e _ (by omega), e _ (by omega)] at g
    exact h4 r q k m hr hq hk hm g
  · rw [e _ (by omega)] at hk
    rw [e (11 + 4 * r + k) (by omega), e _ (by omega)]
    exact h5 r k hr hk
theorem mvE_0 {t s : Nat → Nat} (h : OkS t s) {r d c : Nat} (hr : r < 3) (hc : c < 36) : mvE t s r d c 0 = s 0 := by
  rw [mvE_lo h hr hc 0 (by omega), if_neg (by omega)]
theorem step_all {t s : Nat → Nat} (h : Sn t s) {L : LV} (hL : RLd L t) {o : OV} (hP : RP t s o) {r : Nat} (hr : r < t 2) (hy : s 0 < 2 ^ 31) {fr fc : Int32} (hf : nI r = fr ↔ nI r = fc) : Sn t (stepS t s fr r) ∧ RP t (stepS t s fr r) (if nI r = fc then o else goRowC L o r) ∧ (RW s o.2.2.2.2.2.2.1 → RW (stepS t s fr r) (if nI r = fc then o else goRowC L o r).2.2.2.2.2.2.1) ∧ stepS t s fr r 0 = s 0 ∧ (∀ q, q < 3 → stepS t s fr r (8 + q) = s (8 + q)) := by
  have o1 := h.1.1
  have o2 := h.1.2.1
  unfold stepS
  by_cases hfr : nI r = fr
  · have e : dirM t s fr r = -4 := by unfold dirM; rw [if_pos hfr]
    rw [if_pos e, if_pos (hf.mp hfr)]
    exact ⟨h, hP, fun z => z, rfl, fun _ _ => rfl⟩
  · have e : dirM t s fr r = headM t s r := by unfold dirM; rw [if_neg hfr]
    rw [if_neg (fun z => hfr (hf.mpr z)), e]
    by_cases hn : headM t s r = -4
    · rw [if_pos hn, goRow_no h hL hP hr hy hn]
      exact ⟨h, hP, fun z => z, rfl, fun _ _ => rfl⟩
    · rw [if_neg hn]
      obtain ⟨d0, c0, hd, ed, hc, ec⟩ := (headM_ok h.1 hr).resolve_left hn
      rw [ed] at ec
      have em : mvS t s fr r = mvE t s r d0 c0 := by
        unfold mvS
        rw [e, ed, ec, nI_clamp (by omega), nI_clamp (by omega)]
      rw [em]
      obtain ⟨g1, g2, g3, -⟩ := goRow_go h hL hP hr hy hd hc ed ec
      exact ⟨g1, g2, g3, mvE_0 h.1 (by omega) (by omega), fun q hq => mv_lg h.1 (by omega) (by omega) hq⟩
theorem gy_all {t : Nat → Nat} {L : LV} (hL : RLd L t) {fr fc : Int32} (hf : ∀ r, r < 3 → (nI r = fr ↔ nI r = fc)) : ∀ (q r : Nat) (s : Nat → Nat) (o : OV), r + q = 3 → r ≤ t 2 → Sn t s → RP t s o → s 0 < 2 ^ 31 → ∃ o1, gyFrom L fc q r o = finY o1 ∧ Sn t (mvFrom t fr (t 2 - r) r s) ∧ RP t (mvFrom t fr (t 2 - r) r s) o1 ∧ (RW s o.2.2.2.2.2.2.1 → RW (mvFrom t fr (t 2 - r) r s) o1.2.2.2.2.2.2.1) ∧ mvFrom t fr (t 2 - r) r s 0 = s 0 ∧ (∀ q, q < 3 → mvFrom t fr (t 2 - r) r s (8 + q) = s (8 + q)) := by
  intro q
  induction q with
  | zero =>
    intro r s o hq hr h hP hy
    have o1 := h.1.1
    rw [show t 2 - r = 0 by omega]
    exact ⟨o, rfl, h, hP, fun z => z, rfl, fun _ _ => rfl⟩
  | succ q ih =>
    intro r s o hq hr h hP hy
    have o1 := h.1.1
    rw [gyFrom]
    rcases Nat.eq_or_lt_of_le hr with e | hlt
    · rw [if_pos (by rw [hP.1]; exact nI_le (by omega) (by omega)), show t 2 - r = 0 by omega]
      exact ⟨o, rfl, h, hP, fun z => z, rfl, fun _ _ => rfl⟩
    · rw [if_neg (by rw [hP.1]; exact nI_ge hlt (by omega)), show t 2 - r = t 2 - (r + 1) + 1 by omega, mvFrom]
      obtain ⟨g1, g2, g3, g4, g5⟩ := step_all h hL hP hlt hy (hf r (by omega))
      obtain ⟨o1, k1, k2, k3, k4, k5, k6⟩ := ih (r + 1) (stepS t s fr r) _ (by omega) hlt g1 g2 (by rw [g4]; exact hy)
      exact ⟨o1, k1, k2, k3, fun z => k4 (g3 z), k5.trans g4, fun q hq => (k6 q hq).trans (g5 q hq)⟩
theorem rowCells_iff {s : Nat → Nat} {r : Nat} {v : Nat → Int32} (h4 : s (8 + r) ≤ 4) (h6 : ∀ k, k < 4 → s (11 + 4 * r + k) < 36) (hv : ∀ k, k < s (8 + r) → v k = nI (s (11 + 4 * r + k))) (j : Nat) : gb (rowCellsC (nI (s (8 + r))) v) j = true ↔ TrIn s r j := by
  have b : ∀ k, k < s (8 + r) → ∀ j, gb (bitC (v k)) j = decide (j = s (11 + 4 * r + k)) := fun k hk j => by rw [hv k hk, gb_bit (h6 k (by omega))]
  unfold TrIn
  generalize hn : s (8 + r) = n at *
  unfold rowCellsC
  match n, h4 with
  | 0, _ =>
    rw [if_pos (by decide), gb_0]
    exact ⟨fun q => (by cases q), fun ⟨k, hk, _⟩ => absurd hk (by omega)⟩
  | 1, _ =>
    rw [if_neg (by decide), if_pos (by decide), gb_or, gb_0, b 0 (by omega)]
    simp only [Bool.false_or, decide_eq_true_eq]
    exact ⟨fun q => ⟨0, by omega, q.symm⟩, fun ⟨k, hk, ek⟩ => by rw [show k = 0 by omega] at ek; exact ek.symm⟩
  | 2, _ =>
    rw [if_neg (by decide), if_neg (by decide), if_pos (by decide), gb_or, gb_or, gb_0, b 0 (by omega), b 1 (by omega)]
    simp only [Bool.false_or, Bool.or_eq_true, decide_eq_true_eq]
    refine ⟨fun q => ?_, fun ⟨k, hk, ek⟩ => ?_⟩
    · rcases q with q | q
      · exact ⟨0, by omega, q.symm⟩
      · exact ⟨1, by omega, q.symm⟩
    · rcases (show k = 0 ∨ k = 1 by omega) with z | z <;> subst z
      · exact Or.inl ek.symm
      · exact Or.inr ek.symm
  | 3, _ =>
    rw [if_neg (by decide), if_neg (by decide), if_neg (by decide), if_pos (by decide), gb_or, gb_or, gb_or, gb_0, b 0 (by omega), b 1 (by omega), b 2 (by omega)]
    simp only [Bool.false_or, Bool.or_eq_true, decide_eq_true_eq]
    refine ⟨fun q => ?_, fun ⟨k, hk, ek⟩ => ?_⟩
    · rcases q with (q | q) | q
      · exact ⟨0, by omega, q.symm⟩
      · exact ⟨1, by omega, q.symm⟩
      · exact ⟨2, by omega, q.symm⟩
    · rcases (show k = 0 ∨ k = 1 ∨ k = 2 by omega) with z | z | z <;> subst z
      · exact Or.inl (Or.inl ek.symm)
      · exact Or.inl (Or.inr ek.symm)
      · exact Or.inr ek.symm
  | 4, _ =>
    rw [if_neg (by decide), if_neg (by decide), if_neg (by decide), if_neg (by decide), gb_or, gb_or, gb_or, gb_or, gb_0, b 0 (by omega), b 1 (by omega), b 2 (by omega), b 3 (by omega)]
    simp only [Bool.false_or, Bool.or_eq_true, decide_eq_true_eq]
    refine ⟨fun q => ?_, fun ⟨k, hk, ek⟩ => ?_⟩
    · rcases q with ((q | q) | q) | q
      · exact ⟨0, by omega, q.symm⟩
      · exact ⟨1, by omega, q.symm⟩
      · exact ⟨2, by omega, q.symm⟩
      · exact ⟨3, by omega, q.symm⟩
    · rcases (show k = 0 ∨ k = 1 ∨ k = 2 ∨ k = 3 by omega) with z | z | z | z <;> subst z
      · exact Or.inl (Or.inl (Or.inl ek.symm))
      · exact Or.inl (Or.inl (Or.inr ek.symm))
      · exact Or.inl (Or.inr ek.symm)
      · exact Or.inr ek.symm
  | n + 5, h => exact absurd h (by omega)
theorem besC_iff (li wi x : Int32) (cs : Int64) : besC li wi x cs = true ↔ ∃ d, d < 4 ∧ ctn cs (nextC li wi x (nI d)) = true := by
  unfold besC
  constructor
  · intro h
    split at h
    · rename_i q; exact ⟨0, by omega, q⟩
    · split at h
      · rename_i q; exact ⟨1, by omega, q⟩
      · split at h
        · rename_i q; exact ⟨2, by omega, q⟩
        · split at h
          · rename_i q; exact ⟨3, by omega, q⟩
          · cases h
  · rintro ⟨d, hd, q⟩
    match d, hd with
    | 0, _ => exact if_pos q
    | 1, _ => split; rfl; exact if_pos q
    | 2, _ => split; rfl; split; rfl; exact if_pos q
    | 3, _ => split; rfl; split; rfl; split; rfl; exact if_pos q
    | d + 4, h => exact absurd h (by omega)
theorem hm_iff (t s : Nat → Nat) (r c : Nat) : ∀ (q d : Nat) (b : Bool), hmFrom t s r c q d b = true ↔ b = true ∨ ∃ e, d ≤ e ∧ e < d + q ∧ ¬ mateQ t s c e = -4 ∧ ¬ mateQ t s c e = nI r := by
  intro q
  induction q with
  | zero => intro d b; rw [hmFrom]; exact ⟨Or.inl, fun h => h.elim id (fun ⟨e, h1, h2, _⟩ => absurd h2 (by omega))⟩
  | succ q ih =>
    intro d b
    rw [hmFrom, ih]
    constructor
    · rintro (h | ⟨e, h1, h2, h3⟩)
      · split at h
        · rename_i hb; exact Or.inl hb
        · split at h
          · cases h
          · split at h
            · cases h
            · rename_i g1 g2; exact Or.inr ⟨d, Nat.le_refl _, by omega, g1, g2⟩
      · exact Or.inr ⟨e, by omega, by omega, h3⟩
    · rintro (h | ⟨e, h1, h2, h3, h4⟩)
      · left; rw [if_pos h]
      · by_cases hed : e = d
        · subst hed
          left
          split
          · rfl
          · first | rfl | rw [if_neg h3, if_neg h4]
        · exact Or.inr ⟨e, by omega, by omega, h3, h4⟩
theorem mate_eq {t s : Nat → Nat} (h : Sn t s) {L : LV} (hL : RLd L t) {o : OV} (hP : RP t s o) {r c : Nat} (hr : r < t 2) (hc : c < t 0) : besC L.2.2.2.1 L.2.2.2.2.1 (nI c) ((o.2.2.2.2.1 &&& (o.2.2.2.1 ^^^ (-1))) &&& (rowCellsC (o.2.2.2.2.2.2.2 r).1 (o.2.2.2.2.2.2.2 r).2.2.2.2 ^^^ (-1))) = mateM t s r c := by
  obtain ⟨o1, o2, o3, o4, o5, o6, -⟩ := id h.1
  obtain ⟨p1, p2, p3, p4, p5, p6⟩ := id hP
  obtain ⟨r1, r2, r3, r4, r5⟩ := p6 r hr
  have hoth : ∀ j, gb ((o.2.2.2.2.1 &&& (o.2.2.2.1 ^^^ (-1))) &&& (rowCellsC (o.2.2.2.2.2.2.2 r).1 (o.2.2.2.2.2.2.2 r).2.2.2.2 ^^^ (-1))) j = true ↔ j < 36 ∧ TrAny t s j ∧ ¬ TrIn s r j := by
    intro j
    rw [gb_mi, gb_mi, r1]
    simp only [Bool.and_eq_true, Bool.not_eq_true', ← Bool.not_eq_true, p5, p4, rowCells_iff (o5 r (by omega)) (o6 r (by omega)) r5]
    constructor
    · rintro ⟨⟨⟨a1, a2⟩, a3⟩, a4⟩
      refine ⟨a1, ?_, a4⟩
      rcases a2 with a2 | a2
      · exact absurd ⟨a1, a2⟩ a3
      · exact a2
    · rintro ⟨a1, a2, a3⟩
      refine ⟨⟨⟨a1, Or.inr a2⟩, fun z => ?_⟩, a3⟩
      obtain ⟨q, hq, k, hk, ek⟩ := a2
      have := h.2.2.2.2.1 q k hq hk
      rw [ek] at this
      omega
  rw [Bool.eq_iff_iff, besC_iff]
  unfold mateM
  rw [hm_iff]
  have key : ∀ d, d < 4 → (ctn ((o.2.2.2.2.1 &&& (o.2.2.2.1 ^^^ (-1))) &&& (rowCellsC (o.2.2.2.2.2.2.2 r).1 (o.2.2.2.2.2.2.2 r).2.2.2.2 ^^^ (-1))) (nextC L.2.2.2.1 L.2.2.2.2.1 (nI c) (nI d)) = true ↔ ¬ mateQ t s c d = -4 ∧ ¬ mateQ t s c d = nI r) := by
    intro d hd
    rw [bes_eq h.1 hL hc hd]
    unfold mateQ
    rcases bes_ok h.1 hc (nI d) with e | ⟨c0, h0, e⟩
    · rw [e, ctn_no, if_pos rfl]
      exact ⟨fun q => (by cases q), fun q => absurd rfl q.1⟩
    · rw [e, if_neg (nI_not4 (by omega)), nI_clamp (by omega), ctn_gb _ (by omega), hoth, treeM_no h.1 (by omega), treeM_is h (by omega) hr, Classical.not_not]
      exact ⟨fun q => q.2, fun q => ⟨by omega, q⟩⟩
  constructor
  · rintro ⟨d, hd, q⟩
    exact Or.inr ⟨d, Nat.zero_le _, by omega, ((key d hd).mp q).1, ((key d hd).mp q).2⟩
  · rintro (q | ⟨d, -, hd, q1, q2⟩)
    · cases q
    · exact ⟨d, by omega, (key d (by omega)).mpr ⟨q1, q2⟩⟩
theorem br_in {t : Nat → Nat} {L : LV} (hL : RLd L t) {o : OV} {r : Nat} (hr : r < t 2) : ∀ (q j : Nat) (s : Nat → Nat) (ow : Nat → Int32), j + q = 4 → j ≤ s (8 + r) → Sn t s → RP t s o → RW s ow → RW (brIn t r (s (8 + r) - j) j s) (brFrom L.2.2.2.1 L.2.2.2.2.1 L.2.2.2.2.2 ((o.2.2.2.2.1 &&& (o.2.2.2.1 ^^^ (-1))) &&& (rowCellsC (o.2.2.2.2.2.2.2 r).1 (o.2.2.2.2.2.2.2 r).2.2.2.2 ^^^ (-1))) (o.2.2.2.2.2.2.2 r).2.2.2.1 (o.2.2.2.2.2.2.2 r).1 (o.2.2.2.2.2.2.2 r).2.2.2.2 q j ow) ∧ (∀ i, 5 ≤ i → brIn t r (s (8 + r) - j) j s i = s i) ∧ brIn t r (s (8 + r) - j) j s 0 = s 0 := by
  intro q
  induction q with
  | zero =>
    intro j s ow hq hj h hP hw
    have o1 := h.1.1
    have o5 := h.1.2.2.2.2.1 r (by omega)
    rw [show s (8 + r) - j = 0 by omega]
    exact ⟨hw, fun _ _ => rfl, rfl⟩
  | succ q ih =>
    intro j s ow hq hj h hP hw
    obtain ⟨o1, o2, o3, o4, o5, o6, o7, o8, o9, o10, o11⟩ := id h.1
    obtain ⟨r1, r2, r3, r4, r5⟩ := hP.2.2.2.2.2 r hr
    have o5r := o5 r (by omega)
    rw [brFrom]
    rcases Nat.eq_or_lt_of_le hj with e | hlt
    · rw [if_pos (by rw [r1]; exact nI_le (by omega) (by omega)), show s (8 + r) - j = 0 by omega]
      exact ⟨hw, fun _ _ => rfl, rfl⟩
    · have hc : s (11 + 4 * r + j) < t 0 := o10 r hr j hlt
      have h7 := o7 (s (11 + 4 * r + j)) (by omega)
      rw [if_neg (by rw [r1]; exact nI_ge hlt (by omega)), show s (8 + r) - j = s (8 + r) - (j + 1) + 1 by omega, brIn, r5 j hlt, mate_eq h hL hP hr hc, give_eq h.1 hL (by omega), r4]
      have e5 : ∀ i, 5 ≤ i → brS t s r j i = s i := fun i hi => va_up_ne _ _ (by omega)
      have e0 : brS t s r j 0 = s 0 := va_up_ne _ _ (by omega)
      have e8 : brS t s r j (8 + r) = s (8 + r) := e5 _ (by omega)
      have k := ih (j + 1) (brS t s r j) (upd ow (t (39 + s (11 + 4 * r + j))) (ow (t (39 + s (11 + 4 * r + j))) + (nI (t (78 + r)) + if zB (mateM t s r (s (11 + 4 * r + j))) = 0 then 0 else 1))) (by omega) (by rw [e8]; exact hlt) (Sn_of e5 h) (RP_of o1 e5 e0 hP) (fun p hp => by
        by_cases hpo : p = t (39 + s (11 + 4 * r + j))
        · rw [hpo, show ∀ (f : Nat → Int32) (i : Nat) (v : Int32), upd f i v i = v from fun f i v => if_pos rfl, hw _ h7]
          unfold brS
          rw [va_up_self]
          have em : (if zB (mateM t s r (s (11 + 4 * r + j))) = 0 then (0 : Int32) else 1) = nI (if mateM t s r (s (11 + 4 * r + j)) = true then 1 else 0) := by cases mateM t s r (s (11 + 4 * r + j)) <;> rfl
          rw [em, nI_add, nI_add]
        · rw [show ∀ (f : Nat → Int32) (i : Nat) (v : Int32), upd f i v p = if p = i then v else f p from fun f i v => rfl, if_neg hpo]
          unfold brS
          rw [va_up_ne _ _ (by omega)]
          exact hw p hp)
      rw [e8, r4] at k
      exact ⟨k.1, fun i hi => (k.2.1 i hi).trans (e5 i hi), k.2.2.trans e0⟩
theorem bearRowC_eq (L : LV) (o : OV) (r : Nat) : bearRowC L o r = (o.1, o.2.1, o.2.2.1, o.2.2.2.1, o.2.2.2.2.1, o.2.2.2.2.2.1, brFrom L.2.2.2.1 L.2.2.2.2.1 L.2.2.2.2.2 ((o.2.2.2.2.1 &&& (o.2.2.2.1 ^^^ (-1))) &&& (rowCellsC (o.2.2.2.2.2.2.2 r).1 (o.2.2.2.2.2.2.2 r).2.2.2.2 ^^^ (-1))) (o.2.2.2.2.2.2.2 r).2.2.2.1 (o.2.2.2.2.2.2.2 r).1 (o.2.2.2.2.2.2.2 r).2.2.2.2 4 0 o.2.2.2.2.2.2.1, o.2.2.2.2.2.2.2) := rfl
theorem by_all {t : Nat → Nat} {L : LV} (hL : RLd L t) : ∀ (q r : Nat) (s : Nat → Nat) (o : OV), r + q = 3 → r ≤ t 2 → Sn t s → RP t s o → RW s o.2.2.2.2.2.2.1 → RW (brOut t (t 2 - r) r s) (byFrom L q r o).2.2.2.2.2.2.1 ∧ RP t (brOut t (t 2 - r) r s) (byFrom L q r o) ∧ (∀ i, 5 ≤ i → brOut t (t 2 - r) r s i = s i) ∧ brOut t (t 2 - r) r s 0 = s 0 := by
  intro q
  induction q with
  | zero =>
    intro r s o hq hr h hP hw
    have o1 := h.1.1
    rw [show t 2 - r = 0 by omega]
    exact ⟨hw, hP, fun _ _ => rfl, rfl⟩
  | succ q ih =>
    intro r s o hq hr h hP hw
    have o1 := h.1.1
    rw [byFrom]
    rcases Nat.eq_or_lt_of_le hr with e | hlt
    · rw [if_pos (by rw [hP.1]; exact nI_le (by omega) (by omega)), show t 2 - r = 0 by omega]
      exact ⟨hw, hP, fun _ _ => rfl, rfl⟩
    · rw [if_neg (by rw [hP.1]; exact nI_ge hlt (by omega)), show t 2 - r = t 2 - (r + 1) + 1 by omega, brOut]
      obtain ⟨k1, k2, k3⟩ := br_in hL (o := o) hlt 4 0 s o.2.2.2.2.2.2.1 rfl (Nat.zero_le _) h hP hw
      rw [Nat.sub_zero] at k1 k2 k3
      have g := ih (r + 1) (brIn t r (s (8 + r)) 0 s) (bearRowC L o r) (by omega) hlt (Sn_of k2 h) (by rw [bearRowC_eq]; exact RP_of o1 k2 k3 hP) (by rw [bearRowC_eq]; exact k1)
      exact ⟨g.1, g.2.1, fun i hi => (g.2.2.1 i hi).trans (k2 i hi), g.2.2.2.trans k3⟩
theorem finY_P {t s : Nat → Nat} (h : Sn t s) {o : OV} (hP : RP t s o) (s' : Nat → Nat) (e : ∀ j, 5 ≤ j → s' j = s j) (e0 : s' 0 = s 0 + 1) : RP t s' (finY o) := by
  obtain ⟨p1, p2, p3, p4, p5, p6⟩ := RP_of h.1.1 (s' := va_up s' 0 (s 0)) (fun j hj => (va_up_ne _ _ (by omega)).trans (e j hj)) (va_up_self _ _ _) hP
  have hne : ∀ j, 5 ≤ j → va_up s' 0 (s 0) j = s' j := fun j hj => va_up_ne _ _ (by omega)
  refine ⟨p1, ?_, fun j => ?_, fun j => ?_, fun j => ?_, fun r hr => RowR_of (by have := h.1.1; omega) (fun j hj => (hne j hj).symm) (p6 r hr)⟩
  · show o.2.1 + 1 = nI (s' 0)
    rw [e0, p2, va_up_self, nI_1]
  · rw [← hne _ (by omega)]; exact p3 j
  · rw [← hne _ (by omega)]; exact p4 j
  · rw [← hne _ (by omega), ← TrAny_of (t := t) hne]; exact p5 j
/-- a year, but what owners have -/
theorem year_P {t s : Nat → Nat} (h : Sn t s) {L : LV} (hL : RLd L t) {o : OV} (hP : RP t s o) (hy : s 0 < 2 ^ 31) {fr fc : Int32} (hf : ∀ r, r < 3 → (nI r = fr ↔ nI r = fc)) : Sn t (passM t s fr) ∧ RP t (passM t s fr) (goYearC L fc o) ∧ passM t s fr 0 = s 0 + 1 ∧ (∀ q, q < 3 → passM t s fr (8 + q) = s (8 + q)) := by
  have o1 := h.1.1
  obtain ⟨oo, k1, k2, k3, -, k5, k6⟩ := gy_all hL hf 3 0 s o rfl (Nat.zero_le _) h hP hy
  rw [Nat.sub_zero] at k2 k3 k5 k6
  have hb : (∀ i, 5 ≤ i → brOut t (t 2) 0 (mvFrom t fr (t 2) 0 s) i = mvFrom t fr (t 2) 0 s i) ∧ brOut t (t 2) 0 (mvFrom t fr (t 2) 0 s) 0 = mvFrom t fr (t 2) 0 s 0 := by
    obtain ⟨-, -, b3, b4⟩ := by_all hL 3 0 (mvFrom t fr (t 2) 0 s) (oo.1, oo.2.1, oo.2.2.1, oo.2.2.2.1, oo.2.2.2.2.1, oo.2.2.2.2.2.1, (fun p => nI (mvFrom t fr (t 2) 0 s (1 + p))), oo.2.2.2.2.2.2.2) rfl (Nat.zero_le _) k2 k3 (fun _ _ => rfl)
    exact ⟨b3, b4⟩
  have e5 : ∀ i, 5 ≤ i → passM t s fr i = mvFrom t fr (t 2) 0 s i := fun i hi => (va_up_ne _ _ (by omega)).trans (hb.1 i hi)
  have e0 : passM t s fr 0 = mvFrom t fr (t 2) 0 s 0 + 1 := by unfold passM; rw [va_up_self, hb.2]
  refine ⟨Sn_of e5 k2, ?_, by rw [e0, k5], fun q hq => (e5 _ (by omega)).trans (k6 q hq)⟩
  unfold goYearC
  rw [k1]
  exact finY_P k2 k3 _ e5 e0
theorem byFrom_fin (L : LV) : ∀ (q r : Nat) (o : OV), byFrom L q r (finY o) = finY (byFrom L q r o) := by
  intro q
  induction q with
  | zero => intro r o; rfl
  | succ q ih =>
    intro r o
    rw [byFrom, byFrom]
    by_cases h : o.1 ≤ nI r
    · rw [if_pos (show (finY o).1 ≤ nI r from h), if_pos h]
    · rw [if_neg (show ¬ (finY o).1 ≤ nI r from h), if_neg h, ← ih]
      rfl
/-- a year, and what owners have -/
theorem year_W {t s : Nat → Nat} (h : Sn t s) {L : LV} (hL : RLd L t) {o : OV} (hP : RP t s o) (hw : RW s o.2.2.2.2.2.2.1) (hy : s 0 < 2 ^ 31) : RP t (passM t s (-1)) (yearC L o) ∧ RW (passM t s (-1)) (yearC L o).2.2.2.2.2.2.1 := by
  have o1 := h.1.1
  have hf : ∀ r, r < 3 → (nI r = -1 ↔ nI r = -4) := fun r hr => by
    rcases (show r = 0 ∨ r = 1 ∨ r = 2 by omega) with z | z | z <;> subst z <;> decide
  obtain ⟨oo, k1, k2, k3, k4, k5, k6⟩ := gy_all hL hf 3 0 s o rfl (Nat.zero_le _) h hP hy
  rw [Nat.sub_zero] at k2 k3 k4 k5 k6
  have hw1 := k4 hw
  obtain ⟨b1, b2, b3, b4⟩ := by_all hL 3 0 (mvFrom t (-1) (t 2) 0 s) oo rfl (Nat.zero_le _) k2 k3 hw1
  rw [Nat.sub_zero] at b1 b2 b3 b4
  have e : yearC L o = finY (byFrom L 3 0 oo) := by
    unfold yearC goYearC
    rw [k1, byFrom_fin]
  have ep : ∀ i, i ≠ 0 → passM t s (-1) i = brOut t (t 2) 0 (mvFrom t (-1) (t 2) 0 s) i := fun i hi => va_up_ne _ _ hi
  rw [e]
  refine ⟨finY_P (Sn_of b3 k2) b2 _ (fun j hj => ep j (by omega)) (va_up_self _ _ _), fun p hp => ?_⟩
  rw [ep _ (by omega)]
  exact b1 p hp
