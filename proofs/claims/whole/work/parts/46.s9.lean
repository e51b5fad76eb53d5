/-! BOTH SIDES: best, what fits -/
theorem mvFrom_own {t : Nat → Nat} {fr : Int32} {p : Nat} (hp : p < 4) : ∀ (q r : Nat) (s : Nat → Nat), r + q = t 2 → OkS t s → mvFrom t fr q r s (1 + p) ≤ s (1 + p) + q := by
  intro q
  induction q with
  | zero => intro r s _ _; exact Nat.le_refl _
  | succ q ih =>
    intro r s hq h
    have h1 := h.1
    have h2 := h.2.1
    rw [mvFrom]
    by_cases hn : dirM t s fr r = -4
    · rw [if_pos hn]; have := ih (r + 1) s (by omega) h; omega
    · rw [if_neg hn]
      have := ih (r + 1) _ (by omega) (mvS_ok h (by omega) hn)
      obtain ⟨d0, c0, hd, ed, hc, ec⟩ := dirM_ok h fr (r := r) (by omega) hn
      have e : mvS t s fr r (1 + p) ≤ s (1 + p) + 1 := by
        unfold mvS
        rw [ec, nI_clamp (n := c0) (by omega), mvE_lo h (by omega) (by omega) _ (by omega)]
        split
        · split <;> omega
        · omega
      omega
theorem brIn_own {t : Nat → Nat} {r p : Nat} (hr : r < 3) (hb : t (78 + r) ≤ 9) : ∀ (q k : Nat) (s : Nat → Nat), k + q ≤ 4 → OkS t s → brIn t r q k s (1 + p) ≤ s (1 + p) + 10 * q := by
  intro q
  induction q with
  | zero => intro k s _ _; exact Nat.le_refl _
  | succ q ih =>
    intro k s hq h
    have := ih (k + 1) (brS t s r k) (by omega) (brS_ok (k := k) h hr (by omega)).1
    rw [brIn]
    have e : brS t s r k (1 + p) ≤ s (1 + p) + 10 := by
      unfold brS va_up
      split
      · rename_i z
        rw [z]
        split <;> omega
      · omega
    omega
theorem brOut_own {t : Nat → Nat} {p : Nat} (hb : ∀ r, r < 3 → t (78 + r) ≤ 9) : ∀ (q r : Nat) (s : Nat → Nat), r + q ≤ 3 → OkS t s → brOut t q r s (1 + p) ≤ s (1 + p) + 40 * q := by
  intro q
  induction q with
  | zero => intro r s _ _; exact Nat.le_refl _
  | succ q ih =>
    intro r s hq h
    have h5 := h.2.2.2.2.1 r (by omega)
    have h1 := ih (r + 1) (brIn t r (s (8 + r)) 0 s) (by omega) (brIn_ok (r := r) (by omega) (s (8 + r)) 0 s (by omega) h)
    have h2 := brIn_own (p := p) (show r < 3 by omega) (hb r (by omega)) (s (8 + r)) 0 s (by omega) h
    rw [brOut]
    omega
theorem passM_own {t s : Nat → Nat} (h : OkS t s) (hb : ∀ r, r < 3 → t (78 + r) ≤ 9) (fr : Int32) {p : Nat} (hp : p < 4) : passM t s fr (1 + p) ≤ s (1 + p) + 123 := by
  have h1 := h.1
  have a1 := mvFrom_own (fr := fr) hp (t 2) 0 s (by omega) h
  have a2 := brOut_own (p := p) hb (t 2) 0 (mvFrom t fr (t 2) 0 s) (by omega) (mvFrom_ok _ _ _ (by omega) h)
  unfold passM
  rw [va_up_ne _ _ (by omega)]
  omega
theorem passN_own {t : Nat → Nat} (hb : ∀ r, r < 3 → t (78 + r) ≤ 9) {p : Nat} (hp : p < 4) : ∀ (m : Nat) (s : Nat → Nat), OkS t s → passN t m s (1 + p) ≤ s (1 + p) + 123 * m := by
  intro m
  induction m with
  | zero => intro s _; exact Nat.le_refl _
  | succ m ih =>
    intro s h
    have h1 := ih _ (passM_ok h (-1))
    have h2 := passM_own h hb (-1) hp
    rw [passN]
    omega
theorem hb_of {L : LV} {t : Nat → Nat} (hL : RLd L t) : ∀ r, r < 3 → t (78 + r) ≤ 9 := fun r hr => (hL.2.2.2.2.2.2.2 r hr).2
theorem ob1_eq {C : CS} {t s : Nat → Nat} (hI : RQ (cL C 0) (cO C 0) t s) {m p : Nat} (hm : m ≤ 20) (hp : p < 4) (a : OV) {k : Nat} (hk : k < t 0) (h1 : mayDigM t s k = true) : ownR (obA C a m (bitC (nI k))) (nI p) = nI (passN t m (va_up s (23 + k) 1) (1 + p)) ∧ passN t m (va_up s (23 + k) 1) (1 + p) < 2 ^ 31 := by
  obtain ⟨h, hL, hP, hw, hy, h2, h3⟩ := hI
  obtain ⟨k1, k2⟩ := copy_P h hP a
  obtain ⟨d1, d2, d3, d4⟩ := dig_P h hL k1 hk h1
  obtain ⟨g1, g2, g3, -⟩ := runs_W hL m _ _ d1 d2 (d3 (k2 hw)) (by omega)
  refine ⟨ownR_eq g3 hp, ?_⟩
  have b1 := passN_own (hb_of hL) hp m _ d1.1
  have b2 := h3 p hp
  rw [va_up_ne _ _ (by omega)] at b1
  omega
theorem bst_eq {C : CS} {t s : Nat → Nat} (hI : RQ (cL C 0) (cO C 0) t s) {m p : Nat} (hm : m ≤ 20) (hp : p < 4) : ∀ (q k : Nat) (wh mo : Int32) (a : OV) (A : Nat → Nat), q + k = t 0 → (wh = -4 → mo = -4) → (bstFrom C m (nI p) q k wh mo a).1 = (bsN t s m p q k mo wh A).2.1 ∧ (bstFrom C m (nI p) q k wh mo a).2.1 = (bsN t s m p q k mo wh A).1 := by
  obtain ⟨h, hL, hP, hw, hy, h2, h3⟩ := id hI
  have o2 := h.1.2.1
  intro q
  induction q with
  | zero => intro k wh mo a A _ _; exact ⟨rfl, rfl⟩
  | succ q ih =>
    intro k wh mo a A hq hwm
    rw [bstFrom, bsN]
    have ed : dC0 C (nI k) = mayDigM t s k := dig_eq h hL hP (by omega)
    rw [ed]
    by_cases hd : mayDigM t s k = false
    · rw [if_pos hd, if_neg (by rw [hd]; decide)]
      exact ih (k + 1) wh mo a A (by omega) hwm
    · have hd' : mayDigM t s k = true := by cases z : mayDigM t s k; exact absurd z hd; rfl
      obtain ⟨e1, e2⟩ := ob1_eq hI hm hp a (k := k) (by omega) hd'
      rw [if_neg hd, if_pos hd', e1]
      by_cases hwh : wh = -4
      · have hn : ¬ nI (passN t m (va_up s (23 + k) 1) (1 + p)) ≤ mo := by
          rw [hwm hwh]
          intro z
          have z1 := Int32.le_iff_toInt_le.mp z
          rw [nI_toInt e2] at z1
          have e : (-4 : Int32).toInt = -4 := by decide
          omega
        rw [if_pos hwh, if_neg hn, if_neg hn]
        exact ih (k + 1) _ _ _ _ (by omega) (fun z => absurd z (nI_not4 (by omega)))
      · rw [if_neg hwh]
        by_cases hle : nI (passN t m (va_up s (23 + k) 1) (1 + p)) ≤ mo
        · rw [if_pos hle, if_pos hle, if_pos hle]
          exact ih (k + 1) _ _ _ _ (by omega) hwm
        · rw [if_neg hle, if_neg hle, if_neg hle]
          exact ih (k + 1) _ _ _ _ (by omega) (fun z => absurd z (nI_not4 (by omega)))
theorem best_eq {C : CS} {t s : Nat → Nat} (hI : RQ (cL C 0) (cO C 0) t s) (a : OV) (A : Nat → Nat) (p y w : Int32) : (bestC C (t 0) p y w a).1 = (besQ t s A p y w).1 := by
  unfold bestC besQ
  rw [own_eq]
  by_cases a1 : withinC p 0 3 = false
  · rw [if_pos a1, if_pos a1]
  · rw [if_neg a1, if_neg a1]
    by_cases a2 : withinC y 1 20 = false
    · rw [if_pos a2, if_pos a2]
    · rw [if_neg a2, if_neg a2]
      by_cases a3 : withinC w 0 1 = false
      · rw [if_pos a3, if_pos a3]
      · rw [if_neg a3, if_neg a3]
        have a1' : withinC p 0 3 = true := by cases z : withinC p 0 3; exact absurd z a1; rfl
        have a2' : withinC y 1 20 = true := by cases z : withinC y 1 20; exact absurd z a2; rfl
        obtain ⟨e, -, he, rfl⟩ := within_nI (a := 0) (b := 3) rfl rfl a1'
        obtain ⟨m, -, hm, rfl⟩ := within_nI (a := 1) (b := 20) rfl rfl a2'
        rw [nI_clamp (by omega), nI_clamp (by omega)]
        obtain ⟨g1, g2⟩ := bst_eq hI (p := e) hm (by omega) (t 0) 0 (-4) (-4) a A rfl (fun _ => rfl)
        dsimp only
        rw [g1, g2]
/- what fits -/
/-- the notes of both sides -/
def RN (C : CS) (D : MS) (t : Nat → Nat) : Prop := (cW C).2 = nI D.1.2.2.2.1 ∧ D.1.2.2.2.1 ≤ 6 ∧ ∀ i, i < D.1.2.2.2.1 → cA C 1 i = nI (D.2 7 (3 * i)) ∧ cA C 2 i = nI (D.2 7 (3 * i + 1)) ∧ cA C 3 i = nI (D.2 7 (3 * i + 2)) ∧ D.2 7 (3 * i + 2) ≤ 20
theorem seen_iff {C : CS} {N : Nat} (hW : (cW C).2 = nI N) (hN : N ≤ 6) (r t f : Int32) : ∀ (q i : Nat), q + i = 6 → (seenFrom C r t f q i = true ↔ ∀ j, i ≤ j → j < N → cA C 1 j = r → cA C 3 j = t → cA C 2 j = f) := by
  intro q
  induction q with
  | zero => intro i hi; rw [seenFrom]; exact ⟨fun _ j h1 h2 => absurd h2 (by omega), fun _ => rfl⟩
  | succ q ih =>
    intro i hi
    rw [seenFrom, hW]
    by_cases h : N ≤ i
    · rw [if_pos (nI_le h (by omega))]; exact ⟨fun _ j h1 h2 => absurd h2 (by omega), fun _ => rfl⟩
    · rw [if_neg (nI_ge (by omega) (by omega))]
      have nxt : seenFrom C r t f q (i + 1) = true ↔ ∀ j, i + 1 ≤ j → j < N → cA C 1 j = r → cA C 3 j = t → cA C 2 j = f := ih (i + 1) (by omega)
      have ext : (∀ j, i ≤ j → j < N → cA C 1 j = r → cA C 3 j = t → cA C 2 j = f) ↔ (cA C 1 i = r → cA C 3 i = t → cA C 2 i = f) ∧ ∀ j, i + 1 ≤ j → j < N → cA C 1 j = r → cA C 3 j = t → cA C 2 j = f := ⟨fun z => ⟨z i (Nat.le_refl _) (by omega), fun j h1 h2 => z j (by omega) h2⟩, fun z j h1 h2 => by
        by_cases hj : j = i
        · subst hj; exact z.1
        · exact z.2 j (by omega) h2⟩
      rw [ext]
      by_cases h1 : cA C 1 i = r
      · rw [if_neg (fun z => z h1)]
        by_cases h2 : cA C 3 i = t
        · rw [if_neg (fun z => z h2)]
          by_cases h3 : cA C 2 i = f
          · rw [if_pos h3, nxt]; exact ⟨fun z => ⟨fun _ _ => h3, z⟩, fun z => z.2⟩
          · rw [if_neg h3]; exact ⟨fun z => (by cases z), fun z => absurd (z.1 h1 h2) h3⟩
        · rw [if_pos h2, nxt]; exact ⟨fun z => ⟨fun _ y => absurd y h2, z⟩, fun z => z.2⟩
      · rw [if_pos h1, nxt]; exact ⟨fun z => ⟨fun y => absurd y h1, z⟩, fun z => z.2⟩
theorem all_iff (C : CS) (r : Int32) : ∀ (q t : Nat) (a : OV), (allFrom C r q t a).1 = true ↔ ∀ j, j < q → seenFrom C r (nI (t + j)) (firstR (goYs (cL C 0) (-4) j a) r) 6 0 = true := by
  intro q
  induction q with
  | zero => intro t a; rw [allFrom]; exact ⟨fun _ j h => absurd h (by omega), fun _ => rfl⟩
  | succ q ih =>
    intro t a
    rw [allFrom]
    by_cases h : seenFrom C r (nI t) (firstR a r) 6 0 = true
    · rw [if_pos h, ih (t + 1)]
      constructor
      · intro z j hj
        cases j with
        | zero => exact h
        | succ j => have := z j (by omega); rw [show t + 1 + j = t + (j + 1) by omega] at this; exact this
      · intro z j hj
        have := z (j + 1) (by omega)
        rw [show t + (j + 1) = t + 1 + j by omega] at this
        exact this
    · rw [if_neg h]
      exact ⟨fun z => (by cases z), fun z => absurd (z 0 (by omega)) h⟩
theorem so_iff (t s no : Nat → Nat) (r : Nat) : ∀ (u k : Nat) (b : Bool) (A : Nat → Nat), (soN t s no r u k b A).1 = true ↔ b = true ∧ ∀ i, k ≤ i → i < k + u → nI (no (3 * i)) = nI r → nI (passN t (no (3 * i + 2)) s (11 + 4 * r)) = nI (no (3 * i + 1)) := by
  intro u
  induction u with
  | zero => intro k b A; rw [soN]; exact ⟨fun h => ⟨h, fun i h1 h2 => absurd h2 (by omega)⟩, fun h => h.1⟩
  | succ u ih =>
    intro k b A
    rw [soN, ih]
    constructor
    · rintro ⟨h1, h2⟩
      split at h1
      · rename_i hb
        refine ⟨hb, fun i g1 g2 g3 => ?_⟩
        by_cases hi : i = k
        · subst hi
          rw [if_pos g3] at h1
          split at h1
          · assumption
          · cases h1
        · exact h2 i (by omega) (by omega) g3
      · cases h1
    · rintro ⟨h1, h2⟩
      refine ⟨?_, fun i g1 g2 => h2 i (by omega) (by omega)⟩
      rw [if_pos h1]
      by_cases hk : nI (no (3 * k)) = nI r
      · rw [if_pos hk, if_pos (h2 k (Nat.le_refl _) (by omega) hk)]
      · rw [if_neg hk]
theorem ft_Sn {t s : Nat → Nat} (h : Sn t s) {c d k : Nat} (hc : c < t 2) (hd : d < 4) : Sn (va_up t (75 + c) k) (va_up s (5 + c) d) := by
  have o1 := h.1.1
  have e : ∀ j, j < 75 → va_up t (75 + c) k j = t j := fun j hj => va_up_ne _ _ (by omega)
  have e2 : ∀ j, 8 ≤ j → va_up s (5 + c) d j = s j := fun j hj => va_up_ne _ _ (by omega)
  refine ⟨okS_ft h.1 c d k (by omega) hd, fun x hx => by rw [e2 _ (by omega)]; exact h.2.1 x hx, fun x h1 h2 => by rw [e 0 (by omega)] at h1; rw [e2 _ (by omega)]; exact h.2.2.1 x h1 h2, fun r q x m hr hq hx hm g => ?_, fun r x hr hx => ?_, fun r h1 h2 => by rw [e 2 (by omega)] at h1; rw [e2 _ (by omega)]; exact h.2.2.2.2.2 r h1 h2⟩
  · rw [e 2 (by omega)] at hr hq
    rw [e2 _ (by omega)] at hx hm
    rw [e2 _ (by omega), e2 _ (by omega)] at g
    exact h.2.2.2.1 r q x m hr hq hx hm g
  · rw [e 2 (by omega)] at hr
    rw [e2 _ (by omega)] at hx
    rw [e2 (11 + 4 * r + x) (by omega), e2 _ (by omega)]
    exact h.2.2.2.2.1 r x hr hx
theorem ft_RL {L : LV} {t : Nat → Nat} (hL : RLd L t) {c k : Nat} (hk : k ≤ 3) (hc : c < 3) (h0 : t 0 ≤ 36) : RLd L (va_up t (75 + c) k) := by
  have e : ∀ j, j < 75 → va_up t (75 + c) k j = t j := fun j hj => va_up_ne _ _ (by omega)
  obtain ⟨⟨ln, l1, l2, l3⟩, l4, l5, l6, l7, l8, l9, l10⟩ := hL
  have d : ∀ v (F : Int64), (∀ j, gb F j = true ↔ j < t 0 ∧ t (3 + j) = v) → ∀ j, gb F j = true ↔ j < va_up t (75 + c) k 0 ∧ va_up t (75 + c) k (3 + j) = v := by
    intro v F hF j
    rw [hF j, e 0 (by omega)]
    constructor
    · rintro ⟨a1, a2⟩; exact ⟨a1, by rw [e _ (by omega)]; exact a2⟩
    · rintro ⟨a1, a2⟩; rw [e _ (by omega)] at a2; exact ⟨a1, a2⟩
  refine ⟨⟨ln, l1, l2, by rw [e 0 (by omega), e 1 (by omega)]; exact l3⟩, by rw [e 1 (by omega)]; exact l4, d 0 _ l5, d 1 _ l6, d 2 _ l7, fun x hx => by rw [e _ (by omega)]; exact l8 x hx, fun x hx => ?_, fun r hr => ⟨?_, ?_⟩⟩
  · rw [e 0 (by omega)] at hx
    rw [e _ (by omega)]; exact l9 x hx
  · unfold va_up
    split
    · exact hk
    · exact (l10 r hr).1
  · rw [va_up_ne _ _ (by omega)]; exact (l10 r hr).2
theorem ft_RP {t s : Nat → Nat} (h : Sn t s) {o : OV} (hP : RP t s o) {c d k : Nat} (hc : c < t 2) (w : RV) (hw : w.1 = (o.2.2.2.2.2.2.2 c).1 ∧ w.2.1 = nI k ∧ w.2.2.1 = nI d ∧ w.2.2.2 = (o.2.2.2.2.2.2.2 c).2.2.2) : RP (va_up t (75 + c) k) (va_up s (5 + c) d) (putRow o c w) := by
  have o1 := h.1.1
  have e : ∀ j, j < 75 → va_up t (75 + c) k j = t j := fun j hj => va_up_ne _ _ (by omega)
  have e2 : ∀ j, 8 ≤ j → va_up s (5 + c) d j = s j := fun j hj => va_up_ne _ _ (by omega)
  obtain ⟨p1, p2, p3, p4, p5, p6⟩ := hP
  have hT : ∀ j, TrAny (va_up t (75 + c) k) (va_up s (5 + c) d) j ↔ TrAny t s j := by
    intro j
    unfold TrAny TrIn
    rw [e 2 (by omega)]
    constructor
    · rintro ⟨r, hr, x, hx, ex⟩
      rw [e2 _ (by omega)] at hx ex
      exact ⟨r, hr, x, hx, ex⟩
    · rintro ⟨r, hr, x, hx, ex⟩
      exact ⟨r, hr, x, by rw [e2 _ (by omega)]; exact hx, by rw [e2 _ (by omega)]; exact ex⟩
  refine ⟨by rw [e 2 (by omega)]; exact p1, by rw [va_up_ne _ _ (by omega)]; exact p2, fun j => by rw [e2 _ (by omega)]; exact p3 j, fun j => by rw [e2 _ (by omega)]; exact p4 j, fun j => by rw [e2 _ (by omega), hT]; exact p5 j, fun r hr => ?_⟩
  rw [e 2 (by omega)] at hr
  obtain ⟨r1, r2, r3, r4, r5⟩ := p6 r hr
  show RowR _ _ r (va_up o.2.2.2.2.2.2.2 c w r)
  have r5' : ∀ x, x < va_up s (5 + c) d (8 + r) → (o.2.2.2.2.2.2.2 r).2.2.2.2 x = nI (va_up s (5 + c) d (11 + 4 * r + x)) := fun x hx => by
    rw [e2 _ (by omega)] at hx
    rw [e2 _ (by omega)]
    exact r5 x hx
  by_cases hrc : r = c
  · subst hrc
    rw [va_up_self]
    obtain ⟨w1, w2, w3, w4⟩ := hw
    refine ⟨by rw [w1, e2 _ (by omega)]; exact r1, by rw [w2, va_up_self], by rw [w3, va_up_self], by rw [w4, va_up_ne _ _ (by omega)]; exact r4, fun x hx => by rw [w4]; exact r5' x hx⟩
  · rw [va_up_ne _ _ hrc]
    exact ⟨by rw [e2 _ (by omega)]; exact r1, by rw [va_up_ne _ _ (by omega)]; exact r2, by rw [va_up_ne _ _ (by omega)]; exact r3, by rw [va_up_ne _ _ (by omega)]; exact r4, r5'⟩
theorem so_all {C : CS} {D : MS} {t0 t s : Nat → Nat} (hN : RN C D t0) (h : Sn t s) (hL : RLd (cL C 0) t) {o : OV} (hP : RP t s o) (hy : s 0 ≤ 1280) {c : Nat} (hc : c < t 2) (A : Nat → Nat) : (allC C o (nI c)).1 = (soN t s (D.2 7) c D.1.2.2.2.1 0 true A).1 := by
  have o1 := h.1.1
  obtain ⟨n1, n2, n3⟩ := hN
  rw [Bool.eq_iff_iff]
  unfold allC
  rw [all_iff, so_iff]
  have hv : ∀ j, j < 21 → firstR (goYs (cL C 0) (-4) j o) (nI c) = nI (passN t j s (11 + 4 * c)) := fun j hj => by
    obtain ⟨g1, g2⟩ := run_P hL j s o h hP (by omega)
    exact firstR_eq g1.1 g2 hc
  constructor
  · intro z
    refine ⟨rfl, fun i _ hi e => ?_⟩
    obtain ⟨m1, m2, m3, m4⟩ := n3 i (by omega)
    have := z (D.2 7 (3 * i + 2)) (by omega)
    rw [seen_iff n1 n2 _ _ _ 6 0 rfl, Nat.zero_add] at this
    have k := this i (Nat.zero_le _) (by omega) (by rw [m1, e]) m3
    rw [m2, hv _ (by omega)] at k
    exact k.symm
  · rintro ⟨-, z⟩ j hj
    rw [seen_iff n1 n2 _ _ _ 6 0 rfl]
    intro i _ hi e1 e2
    obtain ⟨m1, m2, m3, m4⟩ := n3 i hi
    rw [m3, Nat.zero_add] at e2
    have ej : D.2 7 (3 * i + 2) = j := nI_inj (by omega) (by omega) e2
    have k := z i (Nat.zero_le _) (by omega) (by rw [← m1, e1])
    rw [ej] at k
    rw [m2, hv j hj, k]
theorem fit_eq {C : CS} {D : MS} {t s : Nat → Nat} (hI : RQ (cL C 0) (cO C 0) t s) (hN : RN C D t) {c : Nat} (hc : c < t 2) (w : Int32) : ∀ (q v : Nat) (f : Int32) (a : OV) (A : Nat → Nat), v + q = 4 → (fitFrom C (nI c) w q v f a).1 = (ftN t s (D.2 7) D.1.2.2.2.1 c w q v f A).1 := by
  obtain ⟨h, hL, hP, hw, hy, h2, h3⟩ := hI
  have o1 := h.1.1
  have o2 := h.1.2.1
  have o8 := h.1.2.2.2.2.2.2.2.1 c (by omega)
  have hk3 := (hL.2.2.2.2.2.2.2 c (by omega)).1
  intro q
  induction q with
  | zero => intro v f a A _; rfl
  | succ q ih =>
    intro v f a A hq
    rw [fitFrom, ftN, nI_clamp (show c < 2 ^ 31 by omega)]
    obtain ⟨r1, r2, r3, r4, r5⟩ := (copy_P h hP a).1.2.2.2.2.2 c hc
    have e : (allC C (fitO (copyC a (cO C 0)) c w (nI v)) (nI c)).1 = (soN (va_up t (75 + c) (if w = 0 then t (75 + c) else v)) (va_up s (5 + c) (if w = 0 then v else s (5 + c))) (D.2 7) c D.1.2.2.2.1 0 true A).1 := by
      refine so_all hN (ft_Sn h hc (by split <;> omega)) (ft_RL hL (by split <;> omega) (by omega) o2) ?_ (by rw [va_up_ne _ _ (by omega)]; exact hy) (by rw [va_up_ne _ _ (by omega)]; exact hc) A
      unfold fitO
      by_cases hw0 : w = 0
      · rw [if_pos hw0, if_pos hw0, if_pos hw0]
        exact ft_RP h (copy_P h hP a).1 hc _ ⟨rfl, r2, rfl, rfl⟩
      · rw [if_neg hw0, if_neg hw0, if_neg hw0]
        exact ft_RP h (copy_P h hP a).1 hc _ ⟨rfl, rfl, r3, rfl⟩
    rw [e]
    by_cases hs : (soN (va_up t (75 + c) (if w = 0 then t (75 + c) else v)) (va_up s (5 + c) (if w = 0 then v else s (5 + c))) (D.2 7) c D.1.2.2.2.1 0 true A).1 = true
    · rw [if_pos hs, if_pos hs]
      exact ih (v + 1) _ _ _ (by omega)
    · rw [if_neg hs, if_neg hs]
      have ez : f ||| (0 : Int32) = f := Int32.or_zero
      rw [ez]
      exact ih (v + 1) _ _ _ (by omega)
theorem fits_eq {C : CS} {D : MS} {t s : Nat → Nat} (hI : RQ (cL C 0) (cO C 0) t s) (hN : RN C D t) (a : OV) (A : Nat → Nat) (r w : Int32) : (fitsC C a r w).1 = (fitQ D t s A r w).1 := by
  obtain ⟨h, hL, hP, hw, hy, h2, h3⟩ := id hI
  have o1 := h.1.1
  unfold fitsC fitQ rC
  rw [row_eq o1 hP.1]
  by_cases a1 : rowQ t r = false
  · rw [if_pos a1, if_pos a1]
  · rw [if_neg a1, if_neg a1]
    by_cases a2 : withinC w 0 1 = false
    · rw [if_pos a2, if_pos a2]
    · rw [if_neg a2, if_neg a2]
      have a1' : rowQ t r = true := by cases z : rowQ t r; exact absurd z a1; rfl
      obtain ⟨c, hc, rfl⟩ := rowQ_ok h.1 a1'
      rw [nI_clamp (show c < 2 ^ 31 by omega)]
      exact fit_eq hI hN hc w 4 0 0 a A rfl
