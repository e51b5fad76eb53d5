/-! BOTH SIDES: a row goes, a year goes by -/
theorem nI_n4 {a : Nat} (h : a < 4) : ¬ (4 : Int32) ≤ nI a := nI_ge (b := 4) h (by decide)
theorem nI_n36 {a : Nat} (h : a < 36) : ¬ (36 : Int32) ≤ nI a := nI_ge (b := 36) h (by decide)
theorem mvE_at {t s : Nat → Nat} (h : OkS t s) {r d c : Nat} (hr : r < 3) (hc : c < 36) : ∀ j, 5 ≤ j → mvE t s r d c j = if j = 5 + r then d else if j = 11 + 4 * r then c else if 11 + 4 * r < j ∧ j ≤ 11 + 4 * r + (s (8 + r) - 1) then s (j - 1) else s j := by
  intro j hj
  have h7 := h.2.2.2.2.2.2.1 c hc
  unfold mvE
  rw [va_up_ne _ _ (by omega)]
  unfold va_up shP
  rfl
theorem mvE_lo {t s : Nat → Nat} (h : OkS t s) {r d c : Nat} (hr : r < 3) (hc : c < 36) : ∀ j, j < 5 → mvE t s r d c j = if j = 1 + t (39 + c) then s j + (if nI (t (3 + c)) = 1 then 1 else 0) else s j := by
  intro j hj
  have h7 := h.2.2.2.2.2.2.1 c hc
  have e : ∀ j, j < 5 → va_up (va_up (shP s (11 + 4 * r) (s (8 + r) - 1) 0) (11 + 4 * r) c) (5 + r) d j = s j := by
    intro j hj
    rw [va_up_ne _ _ (by omega), va_up_ne _ _ (by omega)]
    unfold shP
    rw [if_neg (by omega)]
  unfold mvE
  by_cases hz : j = 1 + t (39 + c)
  · rw [if_pos hz, hz, va_up_self, e _ (by omega)]
  · rw [if_neg hz, va_up_ne _ _ hz, e j hj]
/-- where row r's trees are, once it went to c -/
theorem mv_tr {t s : Nat → Nat} (h : OkS t s) {r d c : Nat} (hr : r < t 2) (hc : c < 36) {q k : Nat} (hq : q < t 2) (hk : k < s (8 + q)) : mvE t s r d c (11 + 4 * q + k) = if q = r then (if k = 0 then c else s (11 + 4 * r + (k - 1))) else s (11 + 4 * q + k) := by
  have o1 := h.1
  have o5 := h.2.2.2.2.1 q (by omega)
  have o5r := h.2.2.2.2.1 r (by omega)
  rw [mvE_at h (by omega) hc _ (by omega), if_neg (by omega)]
  by_cases hqr : q = r
  · subst hqr
    rw [if_pos rfl]
    by_cases hk0 : k = 0
    · subst hk0; rw [if_pos (Nat.add_zero _), if_pos rfl]
    · rw [if_neg (by omega), if_neg hk0, if_pos (by omega), show 11 + 4 * q + k - 1 = 11 + 4 * q + (k - 1) by omega]
  · rw [if_neg hqr, if_neg (by omega), if_neg (by omega)]
theorem mv_lg {t s : Nat → Nat} (h : OkS t s) {r d c : Nat} (hr : r < 3) (hc : c < 36) {q : Nat} (hq : q < 3) : mvE t s r d c (8 + q) = s (8 + q) := by
  rw [mvE_at h hr hc _ (by omega), if_neg (by omega), if_neg (by omega), if_neg (by omega)]
def lastC (s : Nat → Nat) (r : Nat) : Nat := s (11 + 4 * r + (s (8 + r) - 1))
theorem mv_any {t s : Nat → Nat} (h : Sn t s) {r d c : Nat} (hr : r < t 2) (hc : c < 36) (j : Nat) : TrAny t (mvE t s r d c) j ↔ j = c ∨ (TrAny t s j ∧ j ≠ lastC s r) := by
  obtain ⟨o1, o2, o3, o4, o5, o6, o7, o8, o9, o10, o11⟩ := id h.1
  have o9r := o9 r hr
  constructor
  · rintro ⟨q, hq, k, hk, ek⟩
    rw [mv_lg h.1 (by omega) hc (by omega)] at hk
    rw [mv_tr h.1 hr hc hq hk] at ek
    by_cases hqr : q = r
    · subst hqr
      rw [if_pos rfl] at ek
      by_cases hk0 : k = 0
      · rw [if_pos hk0] at ek; exact Or.inl ek.symm
      · rw [if_neg hk0] at ek
        refine Or.inr ⟨⟨q, hq, k - 1, by omega, ek⟩, fun z => ?_⟩
        have := (h.2.2.2.1 q q (k - 1) (s (8 + q) - 1) hq hq (by omega) (by omega) (ek.trans z)).2
        omega
    · rw [if_neg hqr] at ek
      refine Or.inr ⟨⟨q, hq, k, hk, ek⟩, fun z => ?_⟩
      exact hqr (h.2.2.2.1 q r k (s (8 + r) - 1) hq hr hk (by omega) (ek.trans z)).1
  · rintro (rfl | ⟨⟨q, hq, k, hk, ek⟩, hl⟩)
    · refine ⟨r, hr, 0, by rw [mv_lg h.1 (by omega) hc (by omega)]; omega, ?_⟩
      rw [mv_tr h.1 hr hc hr (by omega), if_pos rfl, if_pos rfl]
    · by_cases hqr : q = r
      · subst hqr
        have hk1 : k ≠ s (8 + q) - 1 := fun z => hl (by rw [← ek, z]; rfl)
        refine ⟨q, hq, k + 1, by rw [mv_lg h.1 (by omega) hc (by omega)]; omega, ?_⟩
        rw [mv_tr h.1 hr hc hr (by omega), if_pos rfl, if_neg (by omega), Nat.add_sub_cancel, ek]
      · refine ⟨q, hq, k, by rw [mv_lg h.1 (by omega) hc (by omega)]; exact hk, ?_⟩
        rw [mv_tr h.1 hr hc hq hk, if_neg hqr, ek]
theorem mv_Sn {t s : Nat → Nat} (h : Sn t s) {r d c : Nat} (hr : r < t 2) (hd : d < 4) (hc : c < t 0) (hn : ¬ TrAny t s c) (hz : s (23 + c) = 0) : Sn t (mvE t s r d c) := by
  obtain ⟨o1, o2, o3, o4, o5, o6, o7, o8, o9, o10, o11⟩ := id h.1
  have hc36 : c < 36 := by omega
  have hi : ∀ j, 23 ≤ j → mvE t s r d c j = s j := mvE_hi h.1 (by omega) hc36
  have free : ∀ q k, q < t 2 → k < s (8 + q) → s (11 + 4 * q + k) ≠ c := fun q k hq hk z => hn ⟨q, hq, k, hk, z⟩
  refine ⟨mvE_ok h.1 hr hd hc, fun x hx => by rw [hi _ (by omega)]; exact h.2.1 x hx, fun x h1 h2 => by rw [hi _ (by omega)]; exact h.2.2.1 x h1 h2, fun q p k m hq hp hk hm e => ?_, fun q k hq hk => ?_, fun q h1 h2 => by rw [mv_lg h.1 (by omega) hc36 h2]; exact h.2.2.2.2.2 q h1 h2⟩
  · rw [mv_lg h.1 (by omega) hc36 (by omega)] at hk hm
    rw [mv_tr h.1 hr hc36 hq hk, mv_tr h.1 hr hc36 hp hm] at e
    by_cases q1 : q = r
    · subst q1
      rw [if_pos rfl] at e
      by_cases p1 : p = q
      · subst p1
        rw [if_pos rfl] at e
        by_cases k0 : k = 0
        · rw [if_pos k0] at e
          by_cases m0 : m = 0
          · exact ⟨rfl, by omega⟩
          · rw [if_neg m0] at e
            exact absurd e.symm (free p (m - 1) hp (by omega))
        · rw [if_neg k0] at e
          by_cases m0 : m = 0
          · rw [if_pos m0] at e
            exact absurd e (free p (k - 1) hp (by omega))
          · rw [if_neg m0] at e
            have := (h.2.2.2.1 p p (k - 1) (m - 1) hp hp (by omega) (by omega) e).2
            exact ⟨rfl, by omega⟩
      · rw [if_neg p1] at e
        by_cases k0 : k = 0
        · rw [if_pos k0] at e
          exact absurd e.symm (free p m hp hm)
        · rw [if_neg k0] at e
          exact absurd (h.2.2.2.1 q p (k - 1) m hq hp (by omega) hm e).1.symm p1
    · rw [if_neg q1] at e
      by_cases p1 : p = r
      · subst p1
        rw [if_pos rfl] at e
        by_cases m0 : m = 0
        · rw [if_pos m0] at e
          exact absurd e (free q k hq hk)
        · rw [if_neg m0] at e
          exact absurd (h.2.2.2.1 q p k (m - 1) hq hp hk (by omega) e).1 q1
      · rw [if_neg p1] at e
        exact h.2.2.2.1 q p k m hq hp hk hm e
  · rw [mv_lg h.1 (by omega) hc36 (by omega)] at hk
    rw [mv_tr h.1 hr hc36 hq hk]
    by_cases q1 : q = r
    · subst q1
      rw [if_pos rfl]
      by_cases k0 : k = 0
      · rw [if_pos k0, hi _ (by omega)]; exact hz
      · rw [if_neg k0, hi _ (by omega)]; exact h.2.2.2.2.1 q (k - 1) hq (by omega)
    · rw [if_neg q1, hi _ (by omega)]; exact h.2.2.2.2.1 q k hq hk
theorem treeAt_last {s : Nat → Nat} {r : Nat} {v : Nat → Int32} (h1 : 1 ≤ s (8 + r)) (h4 : s (8 + r) ≤ 4) (hv : ∀ k, k < s (8 + r) → v k = nI (s (11 + 4 * r + k))) : treeAtC (nI (s (8 + r))) v (nI (s (8 + r)) - 1) = nI (lastC s r) := by
  have e : nI (s (8 + r)) - 1 = nI (s (8 + r) - 1) := nI_subE (b := 1) rfl rfl h1
  unfold treeAtC
  rw [e, if_neg (nI_pos (by omega)), if_neg (nI_ge (by omega) (by omega)), if_neg (nI_n4 (by omega)), nI_clamp (by omega), hv _ (by omega)]
  rfl
theorem sh4_at (v : Nat → Int32) (x : Int32) (k : Nat) (hk : k < 4) : sh4 v x k = if k = 0 then x else v (k - 1) := by
  unfold sh4 upd
  match k, hk with
  | 0, _ => rfl
  | 1, _ => rfl
  | 2, _ => rfl
  | 3, _ => rfl
  | k + 4, h => exact absurd h (by omega)
theorem give_eq {t s : Nat → Nat} (h : OkS t s) {L : LV} (hL : RLd L t) {c : Nat} (hc : c < 36) (ow : Nat → Int32) (m : Int32) : giveC L.2.2.2.2.2 ow (nI c) m = upd ow (t (39 + c)) (ow (t (39 + c)) + m) := by
  have h7 := h.2.2.2.2.2.2.1 c hc
  have e : ownerC L.2.2.2.2.2 (nI c) = nI (t (39 + c)) := by
    unfold ownerC
    rw [if_neg (nI_pos (by omega)), if_neg (nI_n36 (by omega)), nI_clamp (by omega)]
    exact hL.2.2.2.2.2.1 c hc
  unfold giveC
  rw [e, if_neg (nI_pos (by omega)), if_neg (nI_n4 (by omega)), nI_clamp (by omega)]
theorem goRowC_eq (L : LV) (o : OV) (r : Nat) : goRowC L o r = goRowF L.1 L.2.1 L.2.2.1 L.2.2.2.1 L.2.2.2.2.1 L.2.2.2.2.2 o.1 o.2.1 o.2.2.1 o.2.2.2.1 o.2.2.2.2.1 o.2.2.2.2.2.1 o.2.2.2.2.2.2.1 o.2.2.2.2.2.2.2 r (o.2.2.2.2.2.2.2 r).1 (o.2.2.2.2.2.2.2 r).2.1 (o.2.2.2.2.2.2.2 r).2.2.1 (o.2.2.2.2.2.2.2 r).2.2.2.1 (o.2.2.2.2.2.2.2 r).2.2.2.2 := rfl
/-- what a row does in a year -/
def stepS (t s : Nat → Nat) (fr : Int32) (r : Nat) : Nat → Nat := if dirM t s fr r = -4 then s else mvS t s fr r
theorem goRow_no {t s : Nat → Nat} (h : Sn t s) {L : LV} (hL : RLd L t) {o : OV} (hP : RP t s o) {r : Nat} (hr : r < t 2) (hy : s 0 < 2 ^ 31) (hn : headM t s r = -4) : goRowC L o r = o := by
  have ha := h.1.2.2.2.2.2.2.2.2.1 r hr
  obtain ⟨p1, p2, p3, p4, p5, p6⟩ := id hP
  obtain ⟨r1, r2, r3, r4, r5⟩ := p6 r hr
  rw [goRowC_eq]
  unfold goRowF
  rw [p2, r2, r3, r5 0 (by omega), Nat.add_zero, way_eq h hL hP hr hy, if_pos hn]
  have hv : ((o.2.2.2.2.2.2.2 r).1, nI (t (75 + r)), nI (s (5 + r)), (o.2.2.2.2.2.2.2 r).2.2.2.1, (o.2.2.2.2.2.2.2 r).2.2.2.2) = o.2.2.2.2.2.2.2 r := by
    rw [← r2, ← r3]
  rw [hv, va_up_id, ← p2]
theorem goRow_go {t s : Nat → Nat} (h : Sn t s) {L : LV} (hL : RLd L t) {o : OV} (hP : RP t s o) {r : Nat} (hr : r < t 2) (hy : s 0 < 2 ^ 31) {d c : Nat} (hd : d < 4) (hc : c < t 0) (ed : headM t s r = nI d) (ec : besM t (s (11 + 4 * r)) (nI d) = nI c) : Sn t (mvE t s r d c) ∧ RP t (mvE t s r d c) (goRowC L o r) ∧ (RW s o.2.2.2.2.2.2.1 → RW (mvE t s r d c) (goRowC L o r).2.2.2.2.2.2.1) ∧ (goRowC L o r).2.2.2.2.2.1 = (o.2.2.2.2.2.1 ||| bitC (nI c)) := by
  obtain ⟨o1, o2, o3, o4, o5, o6, o7, o8, o9, o10, o11⟩ := id h.1
  have o9r := o9 r hr
  have o5r := o5 r (by omega)
  have hc36 : c < 36 := by omega
  have hn : ¬ headM t s r = -4 := by rw [ed]; exact nI_not4 (by omega)
  have hop := headM_open hn
  rw [ed, ec, openM_iff h hL hr hc] at hop
  obtain ⟨q1, q2, q3⟩ := hop
  have hS' := mv_Sn h hr hd hc q3 q2
  obtain ⟨p1, p2, p3, p4, p5, p6⟩ := id hP
  obtain ⟨r1, r2, r3, r4, r5⟩ := p6 r hr
  have hf : s (11 + 4 * r) < t 0 := o10 r hr 0 (by omega)
  have hw := way_eq h hL hP hr hy
  have hnx := bes_eq h.1 hL hf hd
  have e0 : (o.2.2.2.2.2.2.2 r).2.2.2.2 0 = nI (s (11 + 4 * r)) := r5 0 (by omega)
  have hgo : goRowC L o r = (o.1, o.2.1, o.2.2.1, o.2.2.2.1, takenC o.2.2.2.2.1 (nI (s (8 + r))) (o.2.2.2.2.2.2.2 r).2.2.2.2 (nI c), (o.2.2.2.2.2.1 ||| bitC (nI c)), (if ctn L.2.1 (nI c) = true then giveC L.2.2.2.2.2 o.2.2.2.2.2.2.1 (nI c) 1 else o.2.2.2.2.2.2.1), va_up o.2.2.2.2.2.2.2 r (nI (s (8 + r)), nI (t (75 + r)), nI d, (o.2.2.2.2.2.2.2 r).2.2.2.1, sh4 (o.2.2.2.2.2.2.2 r).2.2.2.2 (nI c))) := by
    rw [goRowC_eq]
    unfold goRowF
    rw [p2, r1, r2, r3, e0, hw, ed, hnx, ec, if_neg (nI_not4 (by omega))]
  have hi : ∀ j, 23 ≤ j → mvE t s r d c j = s j := mvE_hi h.1 (by omega) hc36
  refine ⟨hS', ⟨?_, ?_, ?_, ?_, ?_, ?_⟩, ?_, ?_⟩
  · rw [hgo]; exact p1
  · rw [hgo]
    show o.2.1 = nI (mvE t s r d c 0)
    rw [mvE_lo h.1 (by omega) hc36 0 (by omega), if_neg (by omega)]
    exact p2
  · rw [hgo]
    intro j
    rw [hi _ (by omega)]
    exact p3 j
  · rw [hgo]
    intro j
    rw [hi _ (by omega)]
    exact p4 j
  · rw [hgo]
    intro j
    show gb (takenC _ _ _ _) j = true ↔ _
    have hl36 : lastC s r < 36 := o6 r (by omega) (s (8 + r) - 1) (by omega)
    have hlz : s (23 + lastC s r) = 0 := h.2.2.2.2.1 r (s (8 + r) - 1) hr (by omega)
    unfold takenC
    rw [treeAt_last o9r o5r r5, gb_or1 _ hc36, gb_rm1 _ hl36, hi _ (by omega), mv_any h hr hc36]
    simp only [Bool.or_eq_true, Bool.and_eq_true, Bool.not_eq_true', decide_eq_true_eq, decide_eq_false_iff_not, p5]
    constructor
    · rintro (⟨⟨a1, a2⟩, a3⟩ | a1)
      · refine ⟨a1, ?_⟩
        rcases a2 with a2 | a2
        · exact Or.inl a2
        · exact Or.inr (Or.inr ⟨a2, a3⟩)
      · exact ⟨by omega, Or.inr (Or.inl a1)⟩
    · rintro ⟨a1, a2 | a2 | ⟨a2, a3⟩⟩
      · refine Or.inl ⟨⟨a1, Or.inl a2⟩, fun z => ?_⟩
        rw [z, hlz] at a2; omega
      · exact Or.inr a2
      · exact Or.inl ⟨⟨a1, Or.inr a2⟩, a3⟩
  · rw [hgo]
    intro q hq
    show RowR t (mvE t s r d c) q (va_up _ r _ q)
    by_cases hqr : q = r
    · subst hqr
      rw [va_up_self]
      refine ⟨?_, rfl, ?_, r4, fun k hk => ?_⟩
      · rw [mv_lg h.1 (by omega) hc36 (by omega)]
      · show nI d = nI (mvE t s q d c (5 + q))
        rw [mvE_at h.1 (by omega) hc36 _ (by omega), if_pos rfl]
      · rw [mv_lg h.1 (by omega) hc36 (by omega)] at hk
        show sh4 _ _ k = _
        rw [sh4_at _ _ _ (by omega), mv_tr h.1 hr hc36 hr hk, if_pos rfl]
        by_cases k0 : k = 0
        · rw [if_pos k0, if_pos k0]
        · rw [if_neg k0, if_neg k0]; exact r5 (k - 1) (by omega)
    · rw [va_up_ne _ _ hqr]
      obtain ⟨g1, g2, g3, g4, g5⟩ := p6 q hq
      refine ⟨?_, g2, ?_, g4, fun k hk => ?_⟩
      · rw [mv_lg h.1 (by omega) hc36 (by omega)]; exact g1
      · rw [mvE_at h.1 (by omega) hc36 _ (by omega), if_neg (by omega), if_neg (by omega), if_neg (by omega)]; exact g3
      · rw [mv_lg h.1 (by omega) hc36 (by omega)] at hk
        rw [mv_tr h.1 hr hc36 hq hk, if_neg hqr]; exact g5 k hk
  · rw [hgo]
    intro hw4 p hp
    show (if ctn L.2.1 (nI c) = true then giveC L.2.2.2.2.2 o.2.2.2.2.2.2.1 (nI c) 1 else o.2.2.2.2.2.2.1) p = _
    have h7 := o7 c hc36
    have k1 : nI (t (3 + c)) = 1 ↔ t (3 + c) = 1 := nI_eq (b := 1) (by have := hL.2.2.2.2.2.2.1 c hc; omega) (by decide)
    rw [mvE_lo h.1 (by omega) hc36 _ (by omega), ctn_gb _ hc36]
    by_cases hg : gb L.2.1 c = true
    · rw [if_pos hg, give_eq h.1 hL hc36]
      have h31 := ((hL.2.2.2.1 c).mp hg).2
      rw [if_pos (k1.mpr h31)]
      by_cases hpo : p = t (39 + c)
      · rw [if_pos (by omega), hpo]
        unfold upd
        rw [if_pos rfl, hw4 _ h7]
        exact nI_1 _
      · rw [if_neg (by omega)]
        unfold upd
        rw [if_neg hpo]
        exact hw4 p hp
    · rw [if_neg hg]
      have h31 : ¬ t (3 + c) = 1 := fun z => hg ((hL.2.2.2.1 c).mpr ⟨hc, z⟩)
      rw [if_neg (fun z => h31 (k1.mp z))]
      split
      · exact hw4 p hp
      · exact hw4 p hp
  · rw [hgo]
