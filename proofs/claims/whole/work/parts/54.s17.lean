/-! BOTH SIDES: a row's item, whole -/
section S17
variable {K : Nat} {le : Nat → Int32} {D : MS} {p : Nat} {dr be : Nat → Nat}
theorem fi_c (h : TxK K le D) (hp : p < 980) {t : Nat → Nat} (h0 : t 0 ≤ 36) (hf : fgP D p = true) (hc : vaP D p < t 0) : figM D 0 (nI (t 0) - 1) p = (nI (vaP D p), enP D p) := by
  have v := va_lt hf
  rw [fiM_yes h (by omega) hf, if_pos (show withinC (nI (vaP D p)) 0 (nI (t 0) - 1) = true from (wi_cell (lo := 0) (by omega) (by omega) (by omega)).mpr ⟨Nat.zero_le _, hc⟩)]
theorem fi_n (h : TxK K le D) (hp : p < 980) {t : Nat → Nat} (h0 : t 0 ≤ 36) (hf : ¬ (fgP D p = true ∧ vaP D p < t 0)) : (figM D 0 (nI (t 0) - 1) p).1 < 0 := by
  by_cases f : fgP D p = true
  · have v := va_lt f
    rw [fiM_yes h (by omega) f, if_neg (show ¬ withinC (nI (vaP D p)) 0 (nI (t 0) - 1) = true from fun z => hf ⟨f, ((wi_cell (lo := 0) (by omega) (by omega) (by omega)).mp z).2⟩)]
    exact m1_lt
  · rw [fiM_no h (by omega) (bf f)]
    exact m1_lt
theorem pr_end (F Hd : Int64) (li wi : Int32) (nums : Nat → Int32) (i : Nat) (ta : Int64) (sz : Int32) (tt : Nat → Int32) (hi : i < 1000) (q : Nat) : prFrom F Hd li wi (nI i) nums q i ta sz tt = (true, ta, sz, tt) := by
  rcases q with _ | q
  · rfl
  · rw [prFrom, if_pos (nI_le (Nat.le_refl _) (by omega))]
theorem pr_eq {L : LV} {t : Nat → Nat} {r : Nat} (h : TxK K le D) (hL : RLd L t) : ∀ (q i p : Nat) (nums : Nat → Int32) (ta : Int64) (sz : Int32) (tt : Nat → Int32) (s : Nat → Nat), i + q = 7 → 3 ≤ i → p + 3 * (q + 1) < 960 → PT t r ta sz tt s → s (8 + r) + 3 = i →
    (if (rnFrom K le (nI D.1.1) q i (nI i) (nI p) nums).1 = false then false else (prFrom L.1 L.2.1 L.2.2.2.1 L.2.2.2.2.1 (rnFrom K le (nI D.1.1) q i (nI i) (nI p) nums).2.1 (rnFrom K le (nI D.1.1) q i (nI i) (nI p) nums).2.2.2 q i ta sz tt).1) = (rrM D t r (q + 1) p s).1 ∧ ((rrM D t r (q + 1) p s).1 = true → (rnFrom K le (nI D.1.1) q i (nI i) (nI p) nums).1 = true ∧ (rnFrom K le (nI D.1.1) q i (nI i) (nI p) nums).2.2.1 = nI (rrM D t r (q + 1) p s).2.1 ∧ PT t r (prFrom L.1 L.2.1 L.2.2.2.1 L.2.2.2.2.1 (rnFrom K le (nI D.1.1) q i (nI i) (nI p) nums).2.1 (rnFrom K le (nI D.1.1) q i (nI i) (nI p) nums).2.2.2 q i ta sz tt).2.1 (prFrom L.1 L.2.1 L.2.2.2.1 L.2.2.2.2.1 (rnFrom K le (nI D.1.1) q i (nI i) (nI p) nums).2.1 (rnFrom K le (nI D.1.1) q i (nI i) (nI p) nums).2.2.2 q i ta sz tt).2.2.1 (prFrom L.1 L.2.1 L.2.2.2.1 L.2.2.2.2.1 (rnFrom K le (nI D.1.1) q i (nI i) (nI p) nums).2.1 (rnFrom K le (nI D.1.1) q i (nI i) (nI p) nums).2.2.2 q i ta sz tt).2.2.2 (rrM D t r (q + 1) p s).2.2 ∧ 1 ≤ (rrM D t r (q + 1) p s).2.2 (8 + r) ∧ ∀ j, j < 59 → (j ≠ 8 + r ∧ (j < 11 + 4 * r ∨ 15 + 4 * r ≤ j)) → (rrM D t r (q + 1) p s).2.2 j = s j) := by
  intro q
  induction q with
  | zero =>
    intro i p nums ta sz tt s hq hi hp hPT hs
    have i0 := hPT.1.2.1
    have hr : r < 3 := by have := hPT.1.1; have := hPT.2.1; omega
    have e : (rrM D t r (0 + 1) p s).1 = false := by
      by_cases c : fgP D p = true ∧ vaP D p < t 0
      · have v := va_lt c.1
        have ef := fi_c h (by omega) i0 c.1 c.2
        rw [rr_b (c := vaP D p) (by omega) (by rw [ef]) (bf (fun z => by have := ((tk_iff hPT.1 hr (by omega) (hL.2.2.2.2.2.2.1 _ c.2)).mp z).1; omega))]
      · rw [rr_a (fi_n h (by omega) i0 c)]
    rw [e]
    exact ⟨rfl, fun z => Bool.noConfusion z⟩
  | succ q ih =>
    intro i p nums ta sz tt s hq hi hp hPT hs
    have i0 := hPT.1.2.1
    have hr : r < 3 := by have := hPT.1.1; have := hPT.2.1; omega
    have n1 := (en_le (D := D) (p := p)).1
    by_cases c1 : fgP D p = true
    · have v := va_lt c1
      have pc := pt_iff hL hPT v (by omega)
      have up : ∀ (m : Nat) (nums' : Nat → Int32), i < m → m < 1000 → nums' i = nI (vaP D p) → prFrom L.1 L.2.1 L.2.2.2.1 L.2.2.2.2.1 (nI m) nums' (q + 1) i ta sz tt = if ptC L.1 L.2.1 L.2.2.2.1 L.2.2.2.2.1 ta sz tt (nI (vaP D p)) = true then prFrom L.1 L.2.1 L.2.2.2.1 L.2.2.2.2.1 (nI m) nums' q (i + 1) (ta ||| bitC (nI (vaP D p))) (plantF sz tt (nI (vaP D p))).1 (plantF sz tt (nI (vaP D p))).2 else (false, ta, sz, tt) := fun m nums' g1 g2 g3 => by rw [prFrom, if_neg (nI_ge g1 (by omega)), g3]
      have eu : upd nums i (nI (vaP D p)) i = nI (vaP D p) := by unfold upd; rw [if_pos rfl]
      by_cases c2 : vaP D p < t 0 ∧ tkM t s r (vaP D p) = true
      · have ef := fi_c h (by omega) i0 c1 c2.1
        have hp2 := pc.mpr c2
        obtain ⟨s1, s2, s3⟩ := pt_step hL hPT c2.1 c2.2
        by_cases c44 : chP D (enP D p) 44 = true
        · rw [rn_44 h (by omega) c1 c44, nI_1, rr_c (c := vaP D p) (by omega) (by rw [ef]) c2.2 (by rw [ef]; exact (m_44 h (by omega)).mpr c44), ef]
          dsimp only
          obtain ⟨a1, a2⟩ := ih (i + 1) (enP D p + 1) (upd nums i (nI (vaP D p))) _ _ _ _ (by omega) (by omega) (by omega) s1 (by omega)
          by_cases zt : (rnFrom K le (nI D.1.1) q (i + 1) (nI (i + 1)) (nI (enP D p + 1)) (upd nums i (nI (vaP D p)))).1 = true
          · obtain ⟨m, m1, m2, m3, m4⟩ := rn_told h q (i + 1) (enP D p + 1) _ (by omega) zt
            have e := up m _ (by omega) (by omega) ((m4 i (by omega)).trans eu)
            rw [if_pos hp2] at e
            rw [m3, e, ← m3]
            refine ⟨a1, fun z => ?_⟩
            obtain ⟨b1, b2, b3, b4, b5⟩ := a2 z
            exact ⟨b1, b2, b3, b4, fun j hj hh => (b5 j hj hh).trans (s3 j hj hh)⟩
          · rw [if_pos (bf zt)]
            rw [if_pos (bf zt)] at a1
            rw [← a1]
            exact ⟨rfl, fun z => Bool.noConfusion z⟩
        · by_cases c59 : chP D (enP D p) 59 = true
          · rw [rn_59 h (by omega) c1 c59, nI_1, rr_d (c := vaP D p) (by omega) (by rw [ef]) c2.2 (by rw [ef]; exact fun z => c44 ((m_44 h (by omega)).mp z)) (by rw [ef]; exact (m_59 h (by omega)).mpr c59), ef]
            dsimp only
            rw [up (i + 1) _ (by omega) (by omega) eu, if_pos hp2, pr_end _ _ _ _ _ _ _ _ _ (by omega)]
            dsimp only
            exact ⟨rfl, fun _ => ⟨rfl, rfl, s1, by omega, s3⟩⟩
          · have e0 := rn_el (told := nI i) (nums := nums) (q := q) (i := i) h (by omega) c44 c59
            rw [e0, rr_e (c := vaP D p) (by omega) (by rw [ef]) c2.2 (by rw [ef]; exact fun z => c44 ((m_44 h (by omega)).mp z)) (by rw [ef]; exact fun z => c59 ((m_59 h (by omega)).mp z))]
            exact ⟨rfl, fun z => Bool.noConfusion z⟩
      · have e : (rrM D t r (q + 1 + 1) p s).1 = false := by
          by_cases c : vaP D p < t 0
          · have ef := fi_c h (by omega) i0 c1 c
            rw [rr_b (c := vaP D p) (by omega) (by rw [ef]) (bf (fun z => c2 ⟨c, z⟩))]
          · rw [rr_a (fi_n h (by omega) i0 (fun z => c z.2))]
        rw [e]
        refine ⟨?_, fun z => Bool.noConfusion z⟩
        have hp2 : ¬ ptC L.1 L.2.1 L.2.2.2.1 L.2.2.2.2.1 ta sz tt (nI (vaP D p)) = true := fun z => c2 (pc.mp z)
        by_cases c44 : chP D (enP D p) 44 = true
        · rw [rn_44 h (by omega) c1 c44, nI_1]
          by_cases zt : (rnFrom K le (nI D.1.1) q (i + 1) (nI (i + 1)) (nI (enP D p + 1)) (upd nums i (nI (vaP D p)))).1 = true
          · obtain ⟨m, m1, m2, m3, m4⟩ := rn_told h q (i + 1) (enP D p + 1) _ (by omega) zt
            rw [zt, if_neg (by decide), m3, up m _ (by omega) (by omega) ((m4 i (by omega)).trans eu), if_neg hp2]
          · rw [if_pos (bf zt)]
        · by_cases c59 : chP D (enP D p) 59 = true
          · rw [rn_59 h (by omega) c1 c59, nI_1]
            dsimp only
            rw [up (i + 1) _ (by omega) (by omega) eu, if_neg hp2]
            rfl
          · rw [rn_el h (by omega) c44 c59]
            rfl
    · rw [rn_no h (by omega) (bf c1), rr_a (fi_n h (by omega) i0 (fun z => c1 z.1))]
      exact ⟨rfl, fun z => Bool.noConfusion z⟩
theorem RLd_row {L : LV} {t : Nat → Nat} {k b : Nat} (h0 : t 0 ≤ 36) (h2 : t 2 < 3) (hk : k ≤ 3) (hb : b ≤ 9) (h : RLd L t) : RLd L (rowD t k b) := by
  obtain ⟨⟨ln, l1, l2, l3⟩, l4, l5, l6, l7, l8, l9, l10⟩ := h
  have eo : ∀ j, j < 75 → j ≠ 2 → rowD t k b j = t j := fun j hj hh => by unfold rowD; rw [va_up_ne _ _ (by omega), va_up_ne _ _ (by omega), va_up_ne _ _ (by omega)]
  have e0 := eo 0 (by omega) (by omega)
  have e1 := eo 1 (by omega) (by omega)
  have go : ∀ (x : Int64) (v : Nat), (∀ j, gb x j = true ↔ j < t 0 ∧ t (3 + j) = v) → ∀ j, gb x j = true ↔ j < rowD t k b 0 ∧ rowD t k b (3 + j) = v := fun x v hx j => by
    rw [e0, hx j]
    constructor
    · rintro ⟨y, w⟩
      exact ⟨y, by rw [eo _ (by omega) (by omega)]; exact w⟩
    · rintro ⟨y, w⟩
      exact ⟨y, by rw [← eo (3 + j) (by omega) (by omega)]; exact w⟩
  refine ⟨⟨ln, l1, l2, by rw [e0, e1]; exact l3⟩, by rw [e1]; exact l4, go _ _ l5, go _ _ l6, go _ _ l7, fun c hc => ?_, fun c hc => ?_, fun r hr => ?_⟩
  · rw [eo _ (by omega) (by omega)]; exact l8 c hc
  · rw [e0] at hc
    rw [eo _ (by omega) (by omega)]; exact l9 c hc
  · have := l10 r hr
    unfold rowD va_up
    constructor <;> (repeat' split) <;> omega
def rwOk (D : MS) (t : Nat → Nat) (p : Nat) : Prop := (fgP D p = true ∧ chP D (enP D p) 44 = true) ∧ (fgP D (enP D p + 1) = true ∧ chP D (enP D (enP D p + 1)) 44 = true) ∧ (fgP D (enP D (enP D p + 1) + 1) = true ∧ chP D (enP D (enP D (enP D p + 1) + 1)) 44 = true) ∧ vaP D p ≤ 3 ∧ vaP D (enP D p + 1) ≤ 3 ∧ vaP D (enP D (enP D p + 1) + 1) ≤ 9 ∧ ¬ t 2 = 3
theorem rw_tt (h : TxK K le D) (hp : p < 900) (z : (rwM D p dr be).1 = true) : rwOk D dr p := by
  have n1 := (en_le (D := D) (p := p)).1
  have n2 := (en_le (D := D) (p := (enP D p + 1))).1
  by_cases c1 : fgP D p = true ∧ withinC (nI (vaP D p)) 0 3 = true ∧ chP D (enP D p) 44 = true
  · have v1 := va_lt c1.1
    have a1 : numM D 0 3 44 p = (nI (vaP D p), (enP D p + 1)) := nu44_yes h (by omega) c1.1 c1.2.1 c1.2.2
    have x1 := (wi_iff (lo := 0) (hi := 3) (by omega) (by omega) (by omega)).mp c1.2.1
    by_cases c2 : fgP D (enP D p + 1) = true ∧ withinC (nI (vaP D (enP D p + 1))) 0 3 = true ∧ chP D (enP D (enP D p + 1)) 44 = true
    · have v2 := va_lt c2.1
      have a2 : numM D 0 3 44 (enP D p + 1) = (nI (vaP D (enP D p + 1)), (enP D (enP D p + 1) + 1)) := nu44_yes h (by omega) c2.1 c2.2.1 c2.2.2
      have x2 := (wi_iff (lo := 0) (hi := 3) (by omega) (by omega) (by omega)).mp c2.2.1
      by_cases c3 : fgP D (enP D (enP D p + 1) + 1) = true ∧ withinC (nI (vaP D (enP D (enP D p + 1) + 1))) 0 9 = true ∧ chP D (enP D (enP D (enP D p + 1) + 1)) 44 = true
      · have v3 := va_lt c3.1
        have a3 : numM D 0 9 44 (enP D (enP D p + 1) + 1) = (nI (vaP D (enP D (enP D p + 1) + 1)), (enP D (enP D (enP D p + 1) + 1) + 1)) := nu44_yes h (by omega) c3.1 c3.2.1 c3.2.2
        have x3 := (wi_iff (lo := 0) (hi := 9) (by omega) (by omega) (by omega)).mp c3.2.1
        refine ⟨⟨c1.1, c1.2.2⟩, ⟨c2.1, c2.2.2⟩, ⟨c3.1, c3.2.2⟩, x1.2, x2.2, x3.2, fun y => ?_⟩
        rw [rw_3 (k := vaP D p) (d := vaP D (enP D p + 1)) (b := vaP D (enP D (enP D p + 1) + 1)) (by omega) (by rw [a1]) (by omega) (by rw [a1]; dsimp only; rw [a2]) (by omega) (by rw [a1]; dsimp only; rw [a2]; dsimp only; rw [a3]) y] at z
        cases z
      · exfalso
        have a3 := nu44_no h (p := (enP D (enP D p + 1) + 1)) (by omega) c3
        rw [rw_2 (k := vaP D p) (d := vaP D (enP D p + 1)) (by omega) (by rw [a1]) (by omega) (by rw [a1]; dsimp only; rw [a2]) (by rw [a1]; dsimp only; rw [a2]; exact a3)] at z
        cases z
    · exfalso
      have a2 := nu44_no h (p := (enP D p + 1)) (by omega) c2
      rw [rw_1 (k := vaP D p) (by omega) (by rw [a1]) (by rw [a1]; exact a2)] at z
      cases z
  · exfalso
    rw [rw_0 (nu44_no h (by omega) c1)] at z
    cases z
theorem rw_yes (h : TxK K le D) (hp : p < 900) (z : rwOk D dr p) : rwM D p dr be = ((rrM D (rowD dr (vaP D p) (vaP D (enP D (enP D p + 1) + 1))) (dr 2) 5 (enP D (enP D (enP D p + 1) + 1) + 1) (rowB dr be (vaP D (enP D p + 1)))).1, (rrM D (rowD dr (vaP D p) (vaP D (enP D (enP D p + 1) + 1))) (dr 2) 5 (enP D (enP D (enP D p + 1) + 1) + 1) (rowB dr be (vaP D (enP D p + 1)))).2.1, rowD dr (vaP D p) (vaP D (enP D (enP D p + 1) + 1)), (rrM D (rowD dr (vaP D p) (vaP D (enP D (enP D p + 1) + 1))) (dr 2) 5 (enP D (enP D (enP D p + 1) + 1) + 1) (rowB dr be (vaP D (enP D p + 1)))).2.2) := by
  obtain ⟨⟨c1, d1⟩, ⟨c2, d2⟩, ⟨c3, d3⟩, x1, x2, x3, x4⟩ := z
  have n1 := (en_le (D := D) (p := p)).1
  have n2 := (en_le (D := D) (p := (enP D p + 1))).1
  have v1 := va_lt c1
  have v2 := va_lt c2
  have v3 := va_lt c3
  have a1 : numM D 0 3 44 p = (nI (vaP D p), (enP D p + 1)) := nu44_yes h (by omega) c1 ((wi_iff (lo := 0) (hi := 3) (by omega) (by omega) (by omega)).mpr ⟨Nat.zero_le _, x1⟩) d1
  have a2 : numM D 0 3 44 (enP D p + 1) = (nI (vaP D (enP D p + 1)), (enP D (enP D p + 1) + 1)) := nu44_yes h (by omega) c2 ((wi_iff (lo := 0) (hi := 3) (by omega) (by omega) (by omega)).mpr ⟨Nat.zero_le _, x2⟩) d2
  have a3 : numM D 0 9 44 (enP D (enP D p + 1) + 1) = (nI (vaP D (enP D (enP D p + 1) + 1)), (enP D (enP D (enP D p + 1) + 1) + 1)) := nu44_yes h (by omega) c3 ((wi_iff (lo := 0) (hi := 9) (by omega) (by omega) (by omega)).mpr ⟨Nat.zero_le _, x3⟩) d3
  rw [rw_4 (k := vaP D p) (d := vaP D (enP D p + 1)) (b := vaP D (enP D (enP D p + 1) + 1)) (by omega) (by rw [a1]) (by omega) (by rw [a1]; dsimp only; rw [a2]) (by omega) (by rw [a1]; dsimp only; rw [a2]; dsimp only; rw [a3]) x4, a1]
  dsimp only
  rw [a2]
  dsimp only
  rw [a3]
theorem po_iff {m d k b w : Nat} {nums : Nat → Int32} (hm : 3 < m) (hm2 : m < 1000) (hw : w < 1000) (hk : k < 100) (hd : d < 100) (hb : b < 100) (e0 : nums 0 = nI k) (e1 : nums 1 = nI d) (e2 : nums 2 = nI b) : prOk (nI m) nums (nI w) = true ↔ w < 3 ∧ k ≤ 3 ∧ d ≤ 3 ∧ b ≤ 9 := by
  unfold prOk
  rw [if_neg (show ¬ nI m < 4 from nI_nlt (b := 4) hm (by omega)), if_neg (nI_nn hw), e0, e1, e2]
  by_cases a1 : w < 3
  · rw [if_neg (nI_n3 a1)]
    by_cases a2 : k < 4
    · rw [if_neg (nI_n4 a2)]
      by_cases a3 : d < 4
      · rw [if_neg (nI_n4 a3)]
        by_cases a4 : b ≤ 9
        · rw [if_pos (show nI b ≤ 9 from nI_le (b := 9) a4 (by decide))]
          exact ⟨fun _ => ⟨a1, by omega, by omega, a4⟩, fun _ => rfl⟩
        · rw [if_neg (show ¬ nI b ≤ 9 from nI_ge (a := 9) (by omega) (by omega))]
          exact ⟨fun z => Bool.noConfusion z, fun z => absurd z.2.2.2 a4⟩
      · rw [if_pos (show 4 ≤ nI d from nI_le (a := 4) (by omega) (by omega))]
        exact ⟨fun z => Bool.noConfusion z, fun z => absurd z.2.2.1 (by omega)⟩
    · rw [if_pos (show 4 ≤ nI k from nI_le (a := 4) (by omega) (by omega))]
      exact ⟨fun z => Bool.noConfusion z, fun z => absurd z.2.1 (by omega)⟩
  · rw [if_pos (show 3 ≤ nI w from nI_le (a := 3) (by omega) (by omega))]
    exact ⟨fun z => Bool.noConfusion z, fun z => absurd z.1 a1⟩
end S17
