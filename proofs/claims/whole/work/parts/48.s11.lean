/-! BOTH SIDES: ditches filled, trees left behind, centuries, how many -/
theorem lie_no {t s : Nat → Nat} (h : Sn t s) {c : Nat} (hz : ¬ s (23 + c) = 0) : ¬ TrAny t s c := by
  rintro ⟨r, hr, k, hk, rfl⟩
  exact hz (h.2.2.2.2.1 r k hr hk)
theorem fill_P {t s : Nat → Nat} (h : Sn t s) {o : OV} (hP : RP t s o) {c : Nat} (hc : c < t 0) : Sn t (if s (23 + c) = 1 then va_up s (23 + c) 0 else s) ∧ RP t (if s (23 + c) = 1 then va_up s (23 + c) 0 else s) (fillInC o (nI c)) ∧ (RW s o.2.2.2.2.2.2.1 → RW (if s (23 + c) = 1 then va_up s (23 + c) 0 else s) (fillInC o (nI c)).2.2.2.2.2.2.1) ∧ (if s (23 + c) = 1 then va_up s (23 + c) 0 else s) 0 = s 0 := by
  have o2 := h.1.2.1
  obtain ⟨p1, p2, p3, p4, p5, p6⟩ := hP
  have hdi : ∀ j, gb (o.2.2.1 &&& (bitC (nI c) ^^^ (-1))) j = true ↔ (j < 36 ∧ s (23 + j) = 1) ∧ ¬ j = c := fun j => by
    rw [gb_rm1 _ (by omega), Bool.and_eq_true, Bool.not_eq_true', decide_eq_false_iff_not, p3]
  by_cases h1 : s (23 + c) = 1
  · rw [if_pos h1]
    have hn := lie_no h (c := c) (by omega)
    obtain ⟨g1, g2⟩ := lie_up h (v := 0) hc (by decide) hn
    refine ⟨g1, ⟨p1, by rw [va_up_ne _ _ (by omega)]; exact p2, fun j => ?_, fun j => ?_, fun j => ?_, fun r hr => row_up h hr (p6 r hr)⟩, fun hw p hp => by rw [va_up_ne _ _ (by omega)]; exact hw p hp, va_up_ne _ _ (by omega)⟩
    · show gb (o.2.2.1 &&& (bitC (nI c) ^^^ (-1))) j = true ↔ _
      rw [hdi]
      by_cases hj : j = c
      · subst hj; rw [va_up_self]; exact ⟨fun z => absurd rfl z.2, fun z => by omega⟩
      · rw [va_up_ne _ _ (by omega)]; exact ⟨fun z => z.1, fun z => ⟨z, hj⟩⟩
    · show gb o.2.2.2.1 j = true ↔ _
      rw [p4]
      by_cases hj : j = c
      · subst hj; rw [va_up_self]; exact ⟨fun z => by omega, fun z => by omega⟩
      · rw [va_up_ne _ _ (by omega)]
    · show gb o.2.2.2.2.1 j = true ↔ _
      rw [p5, g2]
      by_cases hj : j = c
      · subst hj; rw [va_up_self, h1]
        exact ⟨fun z => ⟨z.1, z.2.elim (fun q => by omega) Or.inr⟩, fun z => ⟨z.1, z.2.elim (fun q => by omega) Or.inr⟩⟩
      · rw [va_up_ne _ _ (by omega)]
  · rw [if_neg h1]
    refine ⟨h, ⟨p1, p2, fun j => ?_, p4, p5, p6⟩, fun hw => hw, rfl⟩
    show gb (o.2.2.1 &&& (bitC (nI c) ^^^ (-1))) j = true ↔ _
    rw [hdi]
    exact ⟨fun z => z.1, fun z => ⟨z, fun q => h1 (q ▸ z.2)⟩⟩
theorem lv_tr {s : Nat → Nat} {r : Nat} (h36 : leftC s r < 36) (hr : r < 3) : (∀ j, j < 23 → leavesM s r j = if j = 8 + r then s (8 + r) - 1 else s j) ∧ (∀ j, 23 ≤ j → leavesM s r j = if j = 23 + leftC s r then 2 else s j) := by
  refine ⟨fun j hj => ?_, fun j hj => ?_⟩
  · unfold leavesM; rw [va_up_ne _ _ (by omega)]; rfl
  · unfold leavesM
    by_cases h : j = 23 + leftC s r
    · rw [if_pos h, h, va_up_self]
    · rw [if_neg h, va_up_ne _ _ h, va_up_ne _ _ (by omega)]
theorem leave_P {t s : Nat → Nat} (h : Sn t s) {o : OV} (hP : RP t s o) {r : Nat} (hr : r < t 2) (h2 : 2 ≤ s (8 + r)) : Sn t (leavesM s r) ∧ RP t (leavesM s r) (leaveC o r) ∧ (RW s o.2.2.2.2.2.2.1 → RW (leavesM s r) (leaveC o r).2.2.2.2.2.2.1) ∧ leavesM s r 0 = s 0 := by
  obtain ⟨o1, o2, o3, o4, o5, o6, o7, o8, o9, o10, o11⟩ := id h.1
  have o5r := o5 r (by omega)
  have hl : leftC s r < t 0 := o10 r hr (s (8 + r) - 1) (by omega)
  obtain ⟨el, eh⟩ := lv_tr (s := s) (r := r) (by omega) (by omega)
  have hlz : s (23 + leftC s r) = 0 := h.2.2.2.2.1 r (s (8 + r) - 1) hr (by omega)
  have e8 : ∀ q, q < 3 → leavesM s r (8 + q) = if q = r then s (8 + r) - 1 else s (8 + q) := fun q hq => by
    rw [el _ (by omega)]
    by_cases hqr : q = r
    · rw [if_pos (by omega), if_pos hqr]
    · rw [if_neg (by omega), if_neg hqr]
  have hsz : ∀ q k, q < 3 → k < leavesM s r (8 + q) → k < s (8 + q) ∧ (q = r → k < s (8 + r) - 1) := fun q k hq hk => by
    rw [e8 q hq] at hk
    split at hk
    · rename_i z; subst z; exact ⟨by omega, fun _ => hk⟩
    · rename_i z; exact ⟨hk, fun y => absurd y z⟩
  have et : ∀ q k, q < 3 → k < 4 → leavesM s r (11 + 4 * q + k) = s (11 + 4 * q + k) := fun q k hq hk => by rw [el _ (by omega), if_neg (by omega)]
  have hne : ∀ q k, q < t 2 → k < leavesM s r (8 + q) → s (11 + 4 * q + k) ≠ leftC s r := fun q k hq hk z => by
    obtain ⟨k1, k2⟩ := hsz q k (by omega) hk
    have := h.2.2.2.1 q r k (s (8 + r) - 1) hq hr k1 (by omega) z
    have := k2 this.1
    omega
  have hT : ∀ j, TrAny t (leavesM s r) j ↔ TrAny t s j ∧ j ≠ leftC s r := by
    intro j
    constructor
    · rintro ⟨q, hq, k, hk, ek⟩
      obtain ⟨k1, k2⟩ := hsz q k (by omega) hk
      have a5 := o5 q (by omega)
      rw [et q k (by omega) (by omega)] at ek
      exact ⟨⟨q, hq, k, k1, ek⟩, fun z => hne q k hq hk (ek.trans z)⟩
    · rintro ⟨⟨q, hq, k, hk, ek⟩, hj⟩
      have a5 := o5 q (by omega)
      refine ⟨q, hq, k, ?_, by rw [et q k (by omega) (by omega)]; exact ek⟩
      rw [e8 q (by omega)]
      by_cases hqr : q = r
      · subst hqr
        rw [if_pos rfl]
        rcases Nat.lt_or_ge k (s (8 + q) - 1) with z | z
        · exact z
        · exfalso; apply hj; rw [← ek, show k = s (8 + q) - 1 by omega]; rfl
      · rw [if_neg hqr]; exact hk
  have hSn : Sn t (leavesM s r) := by
    refine ⟨leavesM_ok h.1 (by omega) h2, fun x hx => ?_, fun x h1 hx => ?_, fun q p k m hq hp hk hm g => ?_, fun q k hq hk => ?_, fun q h1 hq => ?_⟩
    · rw [eh _ (by omega)]; split
      · omega
      · exact h.2.1 x hx
    · rw [eh _ (by omega), if_neg (by omega)]; exact h.2.2.1 x h1 hx
    · obtain ⟨k1, -⟩ := hsz q k (by omega) hk
      obtain ⟨m1, -⟩ := hsz p m (by omega) hm
      have a5 := o5 q (by omega)
      have b5 := o5 p (by omega)
      rw [et q k (by omega) (by omega), et p m (by omega) (by omega)] at g
      exact h.2.2.2.1 q p k m hq hp k1 m1 g
    · obtain ⟨k1, -⟩ := hsz q k (by omega) hk
      have a5 := o5 q (by omega)
      have := hne q k hq hk
      rw [et q k (by omega) (by omega), eh _ (by omega), if_neg (by omega)]
      exact h.2.2.2.2.1 q k hq k1
    · rw [e8 q hq, if_neg (by omega)]; exact h.2.2.2.2.2 q h1 hq
  obtain ⟨p1, p2, p3, p4, p5, p6⟩ := hP
  obtain ⟨r1, r2, r3, r4, r5⟩ := p6 r hr
  have hlc : leaveC o r = (o.1, o.2.1, o.2.2.1, (o.2.2.2.1 ||| bitC (nI (leftC s r))), o.2.2.2.2.1, o.2.2.2.2.2.1, o.2.2.2.2.2.2.1, va_up o.2.2.2.2.2.2.2 r (nI (s (8 + r) - 1), (o.2.2.2.2.2.2.2 r).2.1, (o.2.2.2.2.2.2.2 r).2.2.1, (o.2.2.2.2.2.2.2 r).2.2.2.1, (o.2.2.2.2.2.2.2 r).2.2.2.2)) := by
    unfold leaveC leaveF
    rw [r1, if_pos (show (2 : Int32) ≤ nI (s (8 + r)) from nI_le (a := 2) h2 (by omega)), treeAt_last (by omega) o5r r5, show nI (s (8 + r)) - 1 = nI (s (8 + r) - 1) from nI_subE (b := 1) rfl rfl (by omega)]
    rfl
  refine ⟨hSn, ?_, fun hw p hp => ?_, by rw [el _ (by omega), if_neg (by omega)]⟩
  · rw [hlc]
    refine ⟨p1, by rw [el _ (by omega), if_neg (by omega)]; exact p2, fun j => ?_, fun j => ?_, fun j => ?_, fun q hq => ?_⟩
    · show gb o.2.2.1 j = true ↔ _
      rw [p3, eh _ (by omega)]
      by_cases hj : j = leftC s r
      · rw [if_pos (by omega), hj]; exact ⟨fun z => by omega, fun z => by omega⟩
      · rw [if_neg (by omega)]
    · show gb (_ ||| _) j = true ↔ _
      rw [gb_or1 _ (by omega), Bool.or_eq_true, p4, decide_eq_true_eq, eh _ (by omega)]
      by_cases hj : j = leftC s r
      · rw [if_pos (by omega)]; exact ⟨fun _ => ⟨by omega, rfl⟩, fun _ => Or.inr hj⟩
      · rw [if_neg (by omega)]; exact ⟨fun z => z.elim id (fun y => absurd y hj), Or.inl⟩
    · show gb o.2.2.2.2.1 j = true ↔ _
      rw [p5, eh _ (by omega), hT]
      by_cases hj : j = leftC s r
      · rw [if_pos (by omega)]
        exact ⟨fun z => ⟨z.1, Or.inl rfl⟩, fun z => ⟨z.1, Or.inr ⟨r, hr, s (8 + r) - 1, by omega, hj.symm⟩⟩⟩
      · rw [if_neg (by omega)]
        exact ⟨fun z => ⟨z.1, z.2.imp id (fun y => ⟨y, hj⟩)⟩, fun z => ⟨z.1, z.2.imp id (fun y => y.1)⟩⟩
    · show RowR t (leavesM s r) q (va_up _ r _ q)
      have o5q := o5 q (by omega)
      by_cases hqr : q = r
      · subst hqr
        rw [va_up_self]
        refine ⟨by rw [e8 q (by omega), if_pos rfl], r2, by rw [el _ (by omega), if_neg (by omega)]; exact r3, r4, fun k hk => ?_⟩
        obtain ⟨k1, -⟩ := hsz q k (by omega) hk
        rw [et q k (by omega) (by omega)]
        exact r5 k k1
      · rw [va_up_ne _ _ hqr]
        obtain ⟨q1, q2, q3, q4, q5⟩ := p6 q hq
        refine ⟨by rw [e8 q (by omega), if_neg hqr]; exact q1, q2, by rw [el _ (by omega), if_neg (by omega)]; exact q3, q4, fun k hk => ?_⟩
        obtain ⟨k1, -⟩ := hsz q k (by omega) hk
        rw [et q k (by omega) (by omega)]
        exact q5 k k1
  · rw [hlc]
    rw [el _ (by omega), if_neg (by omega)]
    exact hw p hp
theorem leave_no {t s : Nat → Nat} (h : Sn t s) {o : OV} (hP : RP t s o) {r : Nat} (hr : r < t 2) (h2 : s (8 + r) ≤ 1) : leaveC o r = o := by
  obtain ⟨r1, -⟩ := hP.2.2.2.2.2 r hr
  unfold leaveC leaveF
  rw [r1, if_neg (show ¬ (2 : Int32) ≤ nI (s (8 + r)) from nI_ge (b := 2) (by omega) (by decide)), ← r1]
  have e : ((o.2.2.2.2.2.2.2 r).1, (o.2.2.2.2.2.2.2 r).2.1, (o.2.2.2.2.2.2.2 r).2.2.1, (o.2.2.2.2.2.2.2 r).2.2.2.1, (o.2.2.2.2.2.2.2 r).2.2.2.2) = o.2.2.2.2.2.2.2 r := rfl
  rw [e, va_up_id]
theorem digIn_P {t s : Nat → Nat} (h : Sn t s) {L : LV} (hL : RLd L t) {o : OV} (hP : RP t s o) {c : Nat} (hc : c < t 0) : digInC L.1 o (nI c) = if mayDigM t s c = true then orDit o (bitC (nI c)) else o := by
  unfold digInC
  rw [dig_eq h hL hP hc]
  rfl
theorem min_2 {a : Nat} (h : a < 3) : minC (nI a) 2 = nI a := by
  unfold minC
  rw [if_neg (show ¬ (2 : Int32) < nI a from nI_nlt (a := 2) (b := a) (by omega) (by decide))]
theorem dis_eq {C : CS} {t s : Nat → Nat} (h : Sn t s) (hL : RLd (cL C 0) t) {o : OV} (hP : RP t s o) (hw : RW s o.2.2.2.2.2.2.1) (h0 : 0 < t 0) (h2 : 0 < t 2) {d : Nat} (hd : d < 65521) : Sn t (turnS t s d) ∧ RP t (turnS t s d) (disC C o (nI d)) ∧ RW (turnS t s d) (disC C o (nI d)).2.2.2.2.2.2.1 ∧ turnS t s d 0 = s 0 := by
  have o1 := h.1.1
  have o2 := h.1.2.1
  have hc : d / 8 % t 0 < t 0 := Nat.mod_lt _ h0
  have hr : d / 8 % t 2 < t 2 := Nat.mod_lt _ h2
  have o5 := h.1.2.2.2.2.1 (d / 8 % t 2) (by omega)
  have o9 := h.1.2.2.2.2.2.2.2.2.1 (d / 8 % t 2) hr
  have e8 : nI d % 8 = nI (d % 8) := nI_mod (b := 8) (by omega) (by decide)
  have ec : nI d / 8 % cellsC C = nI (d / 8 % t 0) := by
    rw [show cellsC C = nI (t 0) from li_wi hL, show nI d / 8 = nI (d / 8) from nI_div (b := 8) (by omega) (by decide), nI_mod (by omega) (by omega)]
  have er : nI d / 8 % o.1 = nI (d / 8 % t 2) := by
    rw [hP.1, show nI d / 8 = nI (d / 8) from nI_div (b := 8) (by omega) (by decide), nI_mod (by omega) (by omega)]
  have em : d % 8 < 8 := Nat.mod_lt _ (by decide)
  have k8 : ∀ v, v < 8 → (nI (d % 8) = nI v ↔ d % 8 = v) := fun v hv => nI_eq (by omega) (by omega)
  have kc : cellsC C = nI (t 0) := li_wi hL
  have q0 : nI (d % 8) = 0 ↔ d % 8 = 0 := k8 0 (by decide)
  have q1 : nI (d % 8) = 1 ↔ d % 8 = 1 := k8 1 (by decide)
  have q2 : nI (d % 8) = 2 ↔ d % 8 = 2 := k8 2 (by decide)
  have q3 : nI (d % 8) = 3 ↔ d % 8 = 3 := k8 3 (by decide)
  have hdis : disC C o (nI d) = if d % 8 = 0 ∨ d % 8 = 1 then digInC (cL C 0).1 o (nI (d / 8 % t 0)) else if d % 8 = 2 then fillInC o (nI (d / 8 % t 0)) else if d % 8 = 3 then leaveC o (d / 8 % t 2) else o := by
    unfold disC
    rw [ec, er, e8, min_2 (by omega), nI_clamp (by omega), kc, if_neg (show ¬ nI (t 0) < (1 : Int32) from nI_nlt (a := t 0) (b := 1) (by omega) (by omega)), hP.1, if_neg (show ¬ nI (t 2) < (1 : Int32) from nI_nlt (a := t 2) (b := 1) (by omega) (by omega)), if_neg (nI_pos (by omega))]
    by_cases z0 : d % 8 = 0
    · rw [if_pos (q0.mpr z0), if_pos (Or.inl z0)]
    · rw [if_neg (fun q => z0 (q0.mp q))]
      by_cases z1 : d % 8 = 1
      · rw [if_pos (q1.mpr z1), if_pos (Or.inr z1)]
      · rw [if_neg (fun q => z1 (q1.mp q)), if_neg (show ¬ (d % 8 = 0 ∨ d % 8 = 1) by omega)]
        by_cases z2 : d % 8 = 2
        · rw [if_pos (q2.mpr z2), if_pos z2]
        · rw [if_neg (fun q => z2 (q2.mp q)), if_neg z2]
          by_cases z3 : d % 8 = 3
          · rw [if_pos (q3.mpr z3), if_pos z3]
          · rw [if_neg (fun q => z3 (q3.mp q)), if_neg z3]
  have l1 : nI (s (23 + d / 8 % t 0)) = 1 ↔ s (23 + d / 8 % t 0) = 1 := lie_0 h (by omega) 1 (by decide)
  have g2 : (2 ≤ nI (d % 8)) ↔ 2 ≤ d % 8 := nI_leI (a := 2) (by decide) (by omega)
  rw [hdis]
  unfold turnS
  by_cases z01 : d % 8 = 0 ∨ d % 8 = 1
  · rw [if_pos z01, digIn_P h hL hP hc]
    by_cases hm : mayDigM t s (d / 8 % t 0) = true
    · rw [if_pos hm, if_pos ⟨fun q => by have := g2.mp q; omega, hm⟩]
      obtain ⟨d1, d2, d3, d4⟩ := dig_P h hL hP hc hm
      exact ⟨d1, d2, d3 hw, d4⟩
    · rw [if_neg hm, if_neg (fun q => hm q.2), if_neg (fun q => by have := q2.mp q.1; omega), if_neg (fun q => by have := q3.mp q.1; omega)]
      exact ⟨h, hP, hw, rfl⟩
  · rw [if_neg z01, if_neg (fun q => q.1 (g2.mpr (by omega)))]
    by_cases z2 : d % 8 = 2
    · rw [if_pos z2]
      obtain ⟨f1, f2, f3, f4⟩ := fill_P h hP hc
      by_cases hl : s (23 + d / 8 % t 0) = 1
      · rw [if_pos ⟨q2.mpr z2, l1.mpr hl⟩]
        rw [if_pos hl] at f1 f2 f3 f4
        exact ⟨f1, f2, f3 hw, f4⟩
      · rw [if_neg (fun q => hl (l1.mp q.2)), if_neg (fun q => by have := q3.mp q.1; omega)]
        rw [if_neg hl] at f1 f2 f3 f4
        exact ⟨f1, f2, f3 hw, f4⟩
    · rw [if_neg z2, if_neg (fun q => z2 (q2.mp q.1))]
      by_cases z3 : d % 8 = 3
      · rw [if_pos z3]
        by_cases hs : s (8 + d / 8 % t 2) ≤ 1
        · rw [if_neg (fun q => q.2 (nI_le (b := 1) hs (by decide))), leave_no h hP hr hs]
          exact ⟨h, hP, hw, rfl⟩
        · rw [if_pos ⟨q3.mpr z3, nI_ge (a := 1) (by omega) (by omega)⟩]
          obtain ⟨f1, f2, f3, f4⟩ := leave_P h hP hr (by omega)
          exact ⟨f1, f2, f3 hw, f4⟩
      · rw [if_neg z3, if_neg (fun q => z3 (q3.mp q.1))]
        exact ⟨h, hP, hw, rfl⟩
theorem cen_all {C : CS} {t : Nat → Nat} (hL : RLd (cL C 0) t) (h0 : 0 < t 0) (h2 : 0 < t 2) {z : Nat} (hz : z < 10000) : ∀ (q k : Nat) (s : Nat → Nat) (o : OV), k + q ≤ 60 → Sn t s → RP t s o → RW s o.2.2.2.2.2.2.1 → s 0 + q < 2 ^ 31 → Sn t (cenN t z q k s) ∧ RP t (cenN t z q k s) (cenFrom C (nI z) q k o) ∧ RW (cenN t z q k s) (cenFrom C (nI z) q k o).2.2.2.2.2.2.1 := by
  intro q
  induction q with
  | zero => intro k s o _ h hP hw _; exact ⟨h, hP, hw⟩
  | succ q ih =>
    intro k s o hk h hP hw hy
    rw [cenN, cenFrom]
    have ed : drawC (nI z) (nI k) = nI (dr z k) := dr_ok hz (by omega)
    obtain ⟨g1, g2, g3, g4⟩ := dis_eq h hL hP hw h0 h2 (d := dr z k) (Nat.mod_lt _ (by decide))
    rw [ed]
    obtain ⟨k1, -, k3, -⟩ := yr_P g1 hL g2 (by omega)
    obtain ⟨w1, w2⟩ := year_W g1 hL g2 g3 (by omega)
    show _ ∧ RP t _ (cenFrom C (nI z) q (k + 1) (yearC (cL C 0) (disC C o (nI (dr z k))))) ∧ _
    exact ih (k + 1) _ _ (by omega) k1 w1 w2 (by omega)
theorem have_eq {s : Nat → Nat} {ow : Nat → Int32} (hw : RW s ow) : allHaveC ow = haveM s := by
  unfold allHaveC haveM
  rw [hw 0 (by decide), hw 1 (by decide), hw 2 (by decide), hw 3 (by decide), show (0 : Int32) = nI 0 from rfl, nI_add, nI_add, nI_add, nI_add, Nat.zero_add]
theorem co_eq (s : Nat → Nat) (hs : ∀ c, c < 36 → s (23 + c) ≤ 2) (w : Nat) (hw : w ≤ 2) : ∀ (q c : Nat), c + q ≤ 36 → coFrom s (nI w) q c (nI (fb_ct (fun j => decide (s (23 + j) = w)) c)) = nI (fb_ct (fun j => decide (s (23 + j) = w)) (c + q)) := by
  intro q
  induction q with
  | zero => intro c _; rfl
  | succ q ih =>
    intro c hc
    rw [coFrom]
    have e : nI (fb_ct (fun j => decide (s (23 + j) = w)) c) + (if nI (s (23 + c)) = nI w then 1 else 0) = nI (fb_ct (fun j => decide (s (23 + j) = w)) (c + 1)) := by
      rw [fb_ct_succ]
      have k : nI (s (23 + c)) = nI w ↔ s (23 + c) = w := nI_eq (by have := hs c (by omega); omega) (by omega)
      by_cases hz : s (23 + c) = w
      · rw [if_pos (k.mpr hz), if_pos (by simpa using hz)]; exact nI_1 _
      · rw [if_neg (fun q => hz (k.mp q)), if_neg (by simpa using hz)]
        exact Int32.add_zero _
    rw [e, ih (c + 1) (by omega), show c + 1 + q = c + (q + 1) by omega]
theorem cnt_eq {t s : Nat → Nat} (h : Sn t s) {F : Int64} {w : Nat} (hw : w ≤ 2) (hw0 : w ≠ 0) (hF : ∀ j, gb F j = true ↔ j < 36 ∧ s (23 + j) = w) : bcC F = countM t s (nI w) := by
  have o2 := h.1.2.1
  unfold countM
  have e := co_eq s h.2.1 w hw (t 0) 0 (by omega)
  rw [Nat.zero_add] at e
  have e0 : nI (fb_ct (fun j => decide (s (23 + j) = w)) 0) = 0 := rfl
  rw [e0] at e
  rw [e, bcC_ct (fun j hj => gb_nf (fun z => by have := ((hF j).mp z).1; omega))]
  congr 1
  have c1 : fb_ct (fun j => gb F j) 36 = fb_ct (fun j => decide (s (23 + j) = w)) 36 := fb_ct_cong (fun k hk => by
    rw [Bool.eq_iff_iff, hF, decide_eq_true_eq]
    exact ⟨fun z => z.2, fun z => ⟨hk, z⟩⟩)
  rw [c1, show 36 = t 0 + (36 - t 0) by omega, fb_ct_split]
  have z : fb_ct (fun k => decide (s (23 + (t 0 + k)) = w)) (36 - t 0) = 0 := fb_ct_zero.mpr (fun k hk => by
    rw [h.2.2.1 (t 0 + k) (by omega) (by omega)]
    simp [Ne.symm hw0])
  rw [z, Nat.add_zero]
theorem century_eq {C : CS} {t s : Nat → Nat} (hI : RQ (cL C 0) (cO C 0) t s) (h0 : 0 < t 0) (a : OV) (A : Nat → Nat) (z y w : Int32) : (cenC C a z y w).1 = (cenQ t s A z y w).1 := by
  obtain ⟨h, hL, hP, hw, hy, h2, h3⟩ := hI
  unfold cenC cenQ
  by_cases a1 : withinC z 0 9999 = false
  · rw [if_pos a1, if_pos a1]
  · rw [if_neg a1, if_neg a1]
    by_cases a2 : withinC y 1 60 = false
    · rw [if_pos a2, if_pos a2]
    · rw [if_neg a2, if_neg a2]
      by_cases a3 : withinC w 0 1 = false
      · rw [if_pos a3, if_pos a3]
      · rw [if_neg a3, if_neg a3]
        have a1' : withinC z 0 9999 = true := by cases z : withinC z 0 9999; exact absurd z a1; rfl
        have a2' : withinC y 1 60 = true := by cases z : withinC y 1 60; exact absurd z a2; rfl
        obtain ⟨c, -, hc, rfl⟩ := within_nI (a := 0) (b := 9999) rfl rfl a1'
        obtain ⟨m, -, hm, rfl⟩ := within_nI (a := 1) (b := 60) rfl rfl a2'
        rw [nI_clamp (show c < 2 ^ 31 by omega), nI_clamp (show m < 2 ^ 31 by omega)]
        obtain ⟨k1, k2⟩ := copy_P h hP a
        obtain ⟨g1, g2, g3⟩ := cen_all (C := C) hL h0 h2 (z := c) (by omega) m 0 s _ (by omega) h k1 (k2 hw) (by omega)
        dsimp only
        by_cases w0 : w = 0
        · rw [if_pos w0, if_pos w0]; exact have_eq g3
        · rw [if_neg w0, if_neg w0]; exact cnt_eq g1 (w := 1) (by decide) (by decide) g2.2.2.1
/- trees of rows, counted -/
def rowBt (s : Nat → Nat) (r : Nat) : Nat → Nat → Bool
  | 0, _ => false
  | n + 1, j => rowBt s r n j || decide (j = s (11 + 4 * r + n))
theorem rowBt_iff (s : Nat → Nat) (r j : Nat) : ∀ n, rowBt s r n j = true ↔ ∃ k, k < n ∧ s (11 + 4 * r + k) = j := by
  intro n
  induction n with
  | zero => rw [rowBt]; exact ⟨fun z => (by cases z), fun ⟨k, hk, _⟩ => absurd hk (by omega)⟩
  | succ n ih =>
    rw [rowBt, Bool.or_eq_true, ih, decide_eq_true_eq]
    constructor
    · rintro (⟨k, hk, e⟩ | e)
      · exact ⟨k, by omega, e⟩
      · exact ⟨n, by omega, e.symm⟩
    · rintro ⟨k, hk, e⟩
      by_cases hkn : k = n
      · subst hkn; exact Or.inr e.symm
      · exact Or.inl ⟨k, by omega, e⟩
theorem ct_one (x : Nat) : ∀ n, fb_ct (fun j => decide (j = x)) n = if x < n then 1 else 0 := by
  intro n
  induction n with
  | zero => rw [if_neg (by omega)]; rfl
  | succ n ih =>
    rw [fb_ct_succ, ih]
    by_cases h : n = x
    · subst h; rw [if_neg (by omega), if_pos (by simp), if_pos (by omega)]
    · rw [if_neg (show ¬ decide (n = x) = true by simpa using h)]
      by_cases h2 : x < n
      · rw [if_pos h2, if_pos (by omega)]
      · rw [if_neg h2, if_neg (by omega)]
theorem ct_row {t s : Nat → Nat} (h : Sn t s) {r : Nat} (hr : r < t 2) : ∀ n, n ≤ s (8 + r) → fb_ct (rowBt s r n) 36 = n := by
  have o1 := h.1.1
  have o5 := h.1.2.2.2.2.1 r (by omega)
  intro n
  induction n with
  | zero => intro _; exact fb_ct_zero.mpr (fun k _ => rfl)
  | succ n ih =>
    intro hn
    have e : rowBt s r (n + 1) = fun j => rowBt s r n j || decide (j = s (11 + 4 * r + n)) := rfl
    rw [e, fb_ct_or, ih (by omega), ct_one, if_pos (h.1.2.2.2.2.2.1 r (by omega) n (by omega))]
    intro k hk ⟨g1, g2⟩
    obtain ⟨m, hm, em⟩ := (rowBt_iff s r k n).mp g1
    have e2 := of_decide_eq_true g2
    have := (h.2.2.2.1 r r m n hr hr (by omega) (by omega) (em.trans e2)).2
    omega
theorem trees_eq {t s : Nat → Nat} (h : Sn t s) {o : OV} (hP : RP t s o) : bcC (o.2.2.2.2.1 &&& (o.2.2.2.1 ^^^ (-1))) = nI (s 8 + s 9 + s 10) := by
  have o1 := h.1.1
  obtain ⟨p1, p2, p3, p4, p5, p6⟩ := hP
  have key : ∀ j, gb (o.2.2.2.2.1 &&& (o.2.2.2.1 ^^^ (-1))) j = true ↔ j < 36 ∧ TrAny t s j := fun j => by
    rw [gb_mi, Bool.and_eq_true, Bool.not_eq_true', ← Bool.not_eq_true, p5, p4]
    constructor
    · rintro ⟨⟨a1, a2⟩, a3⟩
      exact ⟨a1, a2.resolve_left (fun z => a3 ⟨a1, z⟩)⟩
    · rintro ⟨a1, a2⟩
      exact ⟨⟨a1, Or.inr a2⟩, fun z => lie_no h (by omega) a2⟩
  rw [bcC_ct (fun j hj => gb_nf (fun z => by have := ((key j).mp z).1; omega))]
  congr 1
  have hz : ∀ r, r < 3 → fb_ct (rowBt s r (s (8 + r))) 36 = s (8 + r) := fun r hr => by
    rcases Nat.lt_or_ge r (t 2) with q | q
    · exact ct_row h q _ (Nat.le_refl _)
    · rw [h.2.2.2.2.2 r q hr]; exact fb_ct_zero.mpr (fun k _ => rfl)
  have hdis : ∀ r q, r < 3 → q < 3 → r ≠ q → ∀ k, ¬ (rowBt s r (s (8 + r)) k = true ∧ rowBt s q (s (8 + q)) k = true) := fun r q hr hq hne k ⟨g1, g2⟩ => by
    have i1 := (rowBt_iff s r k _).mp g1
    have i2 := (rowBt_iff s q k _).mp g2
    have r1 : r < t 2 := by
      rcases Nat.lt_or_ge r (t 2) with y | y
      · exact y
      · obtain ⟨m, hm, _⟩ := i1; rw [h.2.2.2.2.2 r y hr] at hm; omega
    have r2 : q < t 2 := by
      rcases Nat.lt_or_ge q (t 2) with y | y
      · exact y
      · obtain ⟨m, hm, _⟩ := i2; rw [h.2.2.2.2.2 q y hq] at hm; omega
    exact hne (TrIn_one h r1 r2 i1 i2)
  have e : fb_ct (fun j => gb (o.2.2.2.2.1 &&& (o.2.2.2.1 ^^^ (-1))) j) 36 = fb_ct (fun j => (rowBt s 0 (s (8 + 0)) j || rowBt s 1 (s (8 + 1)) j) || rowBt s 2 (s (8 + 2)) j) 36 := fb_ct_cong (fun k hk => by
    rw [Bool.eq_iff_iff, key, Bool.or_eq_true, Bool.or_eq_true, rowBt_iff, rowBt_iff, rowBt_iff]
    constructor
    · rintro ⟨_, r, hr, i⟩
      rcases (show r = 0 ∨ r = 1 ∨ r = 2 by omega) with y | y | y <;> subst y
      · exact Or.inl (Or.inl i)
      · exact Or.inl (Or.inr i)
      · exact Or.inr i
    · have up : ∀ r, r < 3 → (∃ x, x < s (8 + r) ∧ s (11 + 4 * r + x) = k) → TrAny t s k := fun r hr i => by
        rcases Nat.lt_or_ge r (t 2) with y | y
        · exact ⟨r, y, i⟩
        · obtain ⟨m, hm, _⟩ := i; rw [h.2.2.2.2.2 r y hr] at hm; omega
      rintro ((i | i) | i)
      · exact ⟨hk, up 0 (by decide) i⟩
      · exact ⟨hk, up 1 (by decide) i⟩
      · exact ⟨hk, up 2 (by decide) i⟩)
  rw [e, fb_ct_or, fb_ct_or, hz 0 (by decide), hz 1 (by decide), hz 2 (by decide)]
  · exact fun k _ => hdis 0 1 (by decide) (by decide) (by decide) k
  · intro k _ ⟨g1, g2⟩
    rcases (Bool.or_eq_true _ _).mp g1 with y | y
    · exact hdis 0 2 (by decide) (by decide) (by decide) k ⟨y, g2⟩
    · exact hdis 1 2 (by decide) (by decide) (by decide) k ⟨y, g2⟩
