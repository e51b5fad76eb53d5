/-! BOTH SIDES: the draft, and an owner's item -/
def DI1 (t s : Nat → Nat) : Prop := t 2 ≤ 3 ∧ t 0 ≤ 36 ∧ t 1 ≤ 6 ∧ (0 < t 0 → 1 ≤ t 1) ∧ (∀ r, r < 3 → s (8 + r) ≤ 4) ∧ (∀ r, r < 3 → ∀ k, k < 4 → s (11 + 4 * r + k) < 36) ∧ (∀ i, i < 36 → t (39 + i) < 4) ∧ (∀ r, r < 3 → s (5 + r) < 4) ∧ (∀ r, r < t 2 → ∀ k, k < s (8 + r) → s (11 + 4 * r + k) < t 0) ∧ (∀ j, j < 5 → s j = 0) ∧ (∀ c, c < 36 → s (23 + c) = 0) ∧ (∀ r q k m, r < t 2 → q < t 2 → k < s (8 + r) → m < s (8 + q) → s (11 + 4 * r + k) = s (11 + 4 * q + m) → r = q ∧ k = m) ∧ (∀ r, t 2 ≤ r → r < 3 → s (8 + r) = 0)
def DI (t s : Nat → Nat) : Prop := DI1 t s ∧ ∀ r, r < t 2 → 1 ≤ s (8 + r)
/-- what the class has read of a text is what the reference has -/
def DR (L : LV) (O : OV) (t s : Nat → Nat) : Prop := DI t s ∧ RLd L t ∧ RP t s O ∧ RW s O.2.2.2.2.2.2.1
theorem RP_t {t t' s : Nat → Nat} {o : OV} (e2 : t' 2 = t 2) (e5 : ∀ r, r < 3 → t' (75 + r) = t (75 + r)) (e8 : ∀ r, r < 3 → t' (78 + r) = t (78 + r)) (h3 : t 2 ≤ 3) (h : RP t s o) : RP t' s o := by
  obtain ⟨h1, h2, h4, h5, h6, h7⟩ := h
  refine ⟨by rw [e2]; exact h1, h2, h4, h5, fun j => ?_, fun r hr => ?_⟩
  · rw [h6 j]
    unfold TrAny
    rw [e2]
  · rw [e2] at hr
    obtain ⟨g1, g2, g3, g4, g5⟩ := h7 r hr
    exact ⟨g1, by rw [e5 r (by omega)]; exact g2, g3, by rw [e8 r (by omega)]; exact g4, g5⟩
section S15
variable {K : Nat} {le : Nat → Int32} {D : MS} {p : Nat} {dr be : Nat → Nat}
theorem bf {b : Bool} (h : ¬ b = true) : b = false := by cases b; rfl; exact absurd rfl h
def owOk (D : MS) (dr : Nat → Nat) (p : Nat) : Prop := (fgP D p = true ∧ chP D (enP D p) 44 = true) ∧ (fgP D (enP D p + 1) = true ∧ chP D (enP D (enP D p + 1)) 44 = true) ∧ (fgP D (enP D (enP D p + 1) + 1) = true ∧ chP D (enP D (enP D (enP D p + 1) + 1)) 59 = true) ∧ vaP D p < dr 0 ∧ vaP D p ≤ vaP D (enP D p + 1) ∧ vaP D (enP D p + 1) < dr 0 ∧ vaP D (enP D (enP D p + 1) + 1) ≤ 3
theorem ro_tt (h : TxK K le D) (hp : p < 900) (h0 : dr 0 ≤ 36) (z : (roM D p dr).1 = true) : owOk D dr p := by
  have n1 := (en_le (D := D) (p := p)).1
  have n2 := (en_le (D := D) (p := (enP D p + 1))).1
  by_cases c1 : fgP D p = true ∧ withinC (nI (vaP D p)) 0 (nI (dr 0) - 1) = true ∧ chP D (enP D p) 44 = true
  · have v1 := va_lt c1.1
    have a1 := nu44_yes h (by omega) c1.1 c1.2.1 c1.2.2
    have x1 := (wi_cell (lo := 0) (by omega) (by omega) (by omega)).mp c1.2.1
    by_cases c2 : fgP D (enP D p + 1) = true ∧ withinC (nI (vaP D (enP D p + 1))) (nI (vaP D p)) (nI (dr 0) - 1) = true ∧ chP D (enP D (enP D p + 1)) 44 = true
    · have v2 := va_lt c2.1
      have a2 := nu44_yes h (by omega) c2.1 c2.2.1 c2.2.2
      have x2 := (wi_cell (by omega) (by omega) (by omega)).mp c2.2.1
      by_cases c3 : fgP D (enP D (enP D p + 1) + 1) = true ∧ withinC (nI (vaP D (enP D (enP D p + 1) + 1))) 0 3 = true ∧ chP D (enP D (enP D (enP D p + 1) + 1)) 59 = true
      · have v3 := va_lt c3.1
        have x3 := (wi_iff (lo := 0) (hi := 3) (by omega) (by omega) (by omega)).mp c3.2.1
        exact ⟨⟨c1.1, c1.2.2⟩, ⟨c2.1, c2.2.2⟩, ⟨c3.1, c3.2.2⟩, x1.2, x2.1, x2.2, x3.2⟩
      · exfalso
        have a3 := nu59_no h (p := (enP D (enP D p + 1) + 1)) (by omega) c3
        rw [roM_2 (x := vaP D p) (y := vaP D (enP D p + 1)) (by omega) (by rw [a1]) (by omega) (by rw [a1]; dsimp only; rw [a2]) (by rw [a1]; dsimp only; rw [a2]; exact a3)] at z
        cases z
    · exfalso
      have a2 := nu44_no h (p := (enP D p + 1)) (by omega) c2
      rw [roM_1 (x := vaP D p) (by omega) (by rw [a1]) (by rw [a1]; exact a2)] at z
      cases z
  · exfalso
    rw [roM_0 (nu44_no h (by omega) c1)] at z
    cases z
theorem ro_yes (h : TxK K le D) (hp : p < 900) (h0 : dr 0 ≤ 36) (z : owOk D dr p) : roM D p dr = (true, (enP D (enP D (enP D p + 1) + 1) + 1), ownsM dr (vaP D p) (vaP D (enP D p + 1)) (vaP D (enP D (enP D p + 1) + 1))) := by
  obtain ⟨⟨c1, d1⟩, ⟨c2, d2⟩, ⟨c3, d3⟩, x1, x2, x3, x4⟩ := z
  have n1 := (en_le (D := D) (p := p)).1
  have n2 := (en_le (D := D) (p := (enP D p + 1))).1
  have v1 := va_lt c1
  have v2 := va_lt c2
  have v3 := va_lt c3
  have a1 := nu44_yes h (by omega) c1 ((wi_cell (lo := 0) (by omega) (by omega) (d := dr 0) (by omega)).mpr ⟨Nat.zero_le _, x1⟩) d1
  have a2 := nu44_yes h (by omega) c2 ((wi_cell (lo := vaP D p) (by omega) (by omega) (d := dr 0) (by omega)).mpr ⟨x2, x3⟩) d2
  have a3 := nu59_yes h (by omega) c3 ((wi_iff (lo := 0) (hi := 3) (by omega) (by omega) (by omega)).mpr ⟨Nat.zero_le _, x4⟩) d3
  have a1' : numM D 0 (nI (dr 0) - 1) 44 p = (nI (vaP D p), (enP D p + 1)) := a1
  have a3' : numM D 0 3 59 (enP D (enP D p + 1) + 1) = (nI (vaP D (enP D (enP D p + 1) + 1)), (enP D (enP D (enP D p + 1) + 1) + 1)) := a3
  rw [roM_3 (x := vaP D p) (y := vaP D (enP D p + 1)) (q := vaP D (enP D (enP D p + 1) + 1)) (by omega) (by rw [a1']) (by omega) (by rw [a1']; dsimp only; rw [a2]) (by omega) (by rw [a1']; dsimp only; rw [a2]; dsimp only; rw [a3']), a1']
  dsimp only
  rw [a2]
  dsimp only
  rw [a3']
theorem cl3 (h : TxK K le D) (hp : p < 900) (nums : Nat → Int32) (c1 : fgP D p = true ∧ chP D (enP D p) 44 = true) (c2 : fgP D (enP D p + 1) = true ∧ chP D (enP D (enP D p + 1)) 44 = true) (q : Nat) : rnFrom K le (nI D.1.1) (q + 3) 0 0 (nI p) nums = rnFrom K le (nI D.1.1) (q + 1) 2 2 (nI (enP D (enP D p + 1) + 1)) (upd (upd nums 0 (nI (vaP D p))) 1 (nI (vaP D (enP D p + 1)))) := by
  have n1 := (en_le (D := D) (p := p)).1
  rw [rn_44 h (by omega) c1.1 c1.2, rn_44 h (by omega) c2.1 c2.2]
  rfl
theorem cl_tt (h : TxK K le D) (hp : p < 900) (nums : Nat → Int32) (z : (rnFrom K le (nI D.1.1) 7 0 0 (nI p) nums).1 = true) (hm : ∀ m, m < 3 → ¬ (rnFrom K le (nI D.1.1) 7 0 0 (nI p) nums).2.1 = nI m) : (fgP D p = true ∧ chP D (enP D p) 44 = true) ∧ (fgP D (enP D p + 1) = true ∧ chP D (enP D (enP D p + 1)) 44 = true) := by
  have n1 := (en_le (D := D) (p := p)).1
  by_cases c1 : fgP D p = true
  · by_cases d1 : chP D (enP D p) 44 = true
    · refine ⟨⟨c1, d1⟩, ?_⟩
      rw [rn_44 h (by omega) c1 d1] at z hm
      by_cases c2 : fgP D (enP D p + 1) = true
      · by_cases d2 : chP D (enP D (enP D p + 1)) 44 = true
        · exact ⟨c2, d2⟩
        · exfalso
          by_cases f2 : chP D (enP D (enP D p + 1)) 59 = true
          · rw [rn_59 h (by omega) c2 f2] at hm
            exact hm 2 (by omega) rfl
          · rw [rn_el h (by omega) d2 f2] at z; cases z
      · rw [rn_no h (by omega) (bf c2)] at z; cases z
    · exfalso
      by_cases f1 : chP D (enP D p) 59 = true
      · rw [rn_59 h (by omega) c1 f1] at hm
        exact hm 1 (by omega) rfl
      · rw [rn_el h (by omega) d1 f1] at z; cases z
  · rw [rn_no h (by omega) (bf c1)] at z; cases z
theorem hold_iff {d x : Nat} {li wi : Int32} (hd : li * wi = nI d) (h36 : d ≤ 36) (hx : x < 1000) : holdsC li wi (nI x) = true ↔ x < d := by
  unfold holdsC
  rw [hd, if_neg (nI_nn hx)]
  by_cases a1 : d ≤ x
  · rw [if_pos (nI_le a1 (by omega))]
    exact ⟨fun z => Bool.noConfusion z, fun z => absurd z (by omega)⟩
  · rw [if_neg (nI_ge (by omega) (by omega)), if_neg (nI_n36 (by omega))]
    exact ⟨fun _ => by omega, fun _ => rfl⟩
theorem gc_at {y : Nat} (hy : y < 1000) (v : Int32) (j : Nat) : ∀ (q x : Nat) (lo : Nat → Int32), x + q = 36 → gcFrom (nI y) v q x lo j = if x ≤ j ∧ j ≤ y ∧ j < 36 then v else lo j := by
  intro q
  induction q with
  | zero => intro x lo hx; rw [gcFrom, if_neg (by omega)]
  | succ q ih =>
    intro x lo hx
    rw [gcFrom]
    by_cases a1 : y < x
    · rw [if_pos (nI_lt a1 (by omega)), if_neg (by omega)]
    · rw [if_neg (nI_nlt (by omega) (by omega)), ih (x + 1) _ (by omega)]
      by_cases a2 : j = x
      · subst a2
        rw [if_neg (by omega), if_pos (by omega)]
        unfold upd
        rw [if_pos rfl]
      · by_cases a3 : x + 1 ≤ j ∧ j ≤ y ∧ j < 36
        · rw [if_pos a3, if_pos (by omega)]
        · rw [if_neg a3, if_neg (by omega)]
          unfold upd
          rw [if_neg a2]
theorem gc_iff {x y q d : Nat} {nums : Nat → Int32} {li wi : Int32} (hx : x < 100) (hy : y < 100) (hq : q < 100) (hd : li * wi = nI d) (h36 : d ≤ 36) (e0 : nums 0 = nI x) (e1 : nums 1 = nI y) (e2 : nums 2 = nI q) : gcOk 3 nums li wi = true ↔ x < d ∧ x ≤ y ∧ y < d ∧ q ≤ 3 := by
  unfold gcOk
  rw [if_neg (by decide), e0, e1, e2]
  by_cases a1 : x < d
  · rw [if_neg (by rw [(hold_iff hd h36 (by omega)).mpr a1]; decide)]
    by_cases a2 : y < d
    · rw [if_neg (by rw [(hold_iff hd h36 (by omega)).mpr a2]; decide)]
      by_cases a3 : x ≤ y
      · rw [if_neg (nI_nlt a3 (by omega))]
        by_cases a4 : q < 4
        · rw [if_pos (show nI q < 4 from nI_lt (b := 4) a4 (by decide))]
          exact ⟨fun _ => ⟨a1, a3, a2, by omega⟩, fun _ => rfl⟩
        · rw [if_neg (show ¬ nI q < 4 from nI_nlt (b := 4) (by omega) (by omega))]
          exact ⟨fun z => Bool.noConfusion z, fun z => absurd z.2.2.2 (by omega)⟩
      · rw [if_pos (nI_lt (by omega) (by omega))]
        exact ⟨fun z => Bool.noConfusion z, fun z => absurd z.2.1 a3⟩
    · rw [if_pos (bf (fun z => a2 ((hold_iff hd h36 (by omega)).mp z)))]
      exact ⟨fun z => Bool.noConfusion z, fun z => absurd z.2.2.1 a2⟩
  · rw [if_pos (bf (fun z => a1 ((hold_iff hd h36 (by omega)).mp z)))]
    exact ⟨fun z => Bool.noConfusion z, fun z => absurd z.1 a1⟩
theorem liwi {L : LV} {t : Nat → Nat} (h : RLd L t) : L.2.2.2.1 * L.2.2.2.2.1 = nI (t 0) := by
  obtain ⟨⟨ln, l1, l2, l3⟩, l4, -⟩ := h
  rw [nI_mulE l2 l4, l3]
/-- the owner's item -/
theorem ow_item {L : LV} {O : OV} (h : TxK K le D) (hp : p < 900) (hD : DR L O dr be) (nums : Nat → Int32) : ((if (rdNums K le (nI D.1.1) (nI p) nums).1 = false then false else (giveCs (rdNums K le (nI D.1.1) (nI p) nums).2.1 (rdNums K le (nI D.1.1) (nI p) nums).2.2.2 L).1) = (roM D p dr).1) ∧ ((roM D p dr).1 = true → (rdNums K le (nI D.1.1) (nI p) nums).1 = true ∧ (rdNums K le (nI D.1.1) (nI p) nums).2.2.1 = nI (roM D p dr).2.1 ∧ DR (giveCs (rdNums K le (nI D.1.1) (nI p) nums).2.1 (rdNums K le (nI D.1.1) (nI p) nums).2.2.2 L).2 O (roM D p dr).2.2 be) := by
  obtain ⟨⟨hI, hS⟩, hL, hP, hW⟩ := id hD
  have h36 := hI.2.1
  have hlw := liwi hL
  have n1 := (en_le (D := D) (p := p)).1
  have n2 := (en_le (D := D) (p := (enP D p + 1))).1
  unfold rdNums
  have up : owOk D dr p → rnFrom K le (nI D.1.1) 7 0 0 (nI p) nums = (true, 3, nI (enP D (enP D (enP D p + 1) + 1) + 1), upd (upd (upd nums 0 (nI (vaP D p))) 1 (nI (vaP D (enP D p + 1)))) 2 (nI (vaP D (enP D (enP D p + 1) + 1)))) := by
    intro z
    rw [cl3 h hp nums z.1 z.2.1 4, rn_59 h (by omega) z.2.2.1.1 z.2.2.1.2]
    rfl
  have dn : (rnFrom K le (nI D.1.1) 7 0 0 (nI p) nums).1 = true → (giveCs (rnFrom K le (nI D.1.1) 7 0 0 (nI p) nums).2.1 (rnFrom K le (nI D.1.1) 7 0 0 (nI p) nums).2.2.2 L).1 = true → owOk D dr p := by
    intro z g
    have g' : gcOk (rnFrom K le (nI D.1.1) 7 0 0 (nI p) nums).2.1 (rnFrom K le (nI D.1.1) 7 0 0 (nI p) nums).2.2.2 L.2.2.2.1 L.2.2.2.2.1 = true := by
      unfold giveCs at g
      by_cases y : gcOk (rnFrom K le (nI D.1.1) 7 0 0 (nI p) nums).2.1 (rnFrom K le (nI D.1.1) 7 0 0 (nI p) nums).2.2.2 L.2.2.2.1 L.2.2.2.2.1 = true
      · exact y
      · rw [if_neg y] at g; cases g
    have t3 : (rnFrom K le (nI D.1.1) 7 0 0 (nI p) nums).2.1 = nI 3 := by
      unfold gcOk at g'
      by_cases y : (rnFrom K le (nI D.1.1) 7 0 0 (nI p) nums).2.1 = 3
      · exact y
      · rw [if_pos y] at g'; cases g'
    obtain ⟨k1, k2⟩ := cl_tt h hp nums z (fun m hm y => by have := nI_inj (by omega) (by omega) (t3.symm.trans y); omega)
    rw [cl3 h hp nums k1 k2 4] at z g' t3
    have k3 : fgP D (enP D (enP D p + 1) + 1) = true ∧ chP D (enP D (enP D (enP D p + 1) + 1)) 59 = true := by
      by_cases c3 : fgP D (enP D (enP D p + 1) + 1) = true
      · by_cases d3 : chP D (enP D (enP D (enP D p + 1) + 1)) 44 = true
        · exfalso
          rw [rn_44 h (by omega) c3 d3] at z t3
          obtain ⟨m, m1, m2, m3, -⟩ := rn_told h 4 3 (enP D (enP D (enP D p + 1) + 1) + 1) _ (by have := (en_le (D := D) (p := (enP D (enP D p + 1) + 1))).1; omega) z
          have := nI_inj (by omega) (by omega) (m3.symm.trans t3)
          omega
        · by_cases f3 : chP D (enP D (enP D (enP D p + 1) + 1)) 59 = true
          · exact ⟨c3, f3⟩
          · rw [rn_el h (by omega) d3 f3] at z; cases z
      · rw [rn_no h (by omega) (bf c3)] at z; cases z
    rw [rn_59 h (by omega) k3.1 k3.2] at g'
    have v1 := va_lt k1.1
    have v2 := va_lt k2.1
    have v3 := va_lt k3.1
    obtain ⟨x1, x2, x3, x4⟩ := (gc_iff (x := vaP D p) (y := vaP D (enP D p + 1)) (q := vaP D (enP D (enP D p + 1) + 1)) (nums := (upd (upd (upd nums 0 (nI (vaP D p))) 1 (nI (vaP D (enP D p + 1)))) 2 (nI (vaP D (enP D (enP D p + 1) + 1))))) (by omega) (by omega) (by omega) hlw h36 rfl rfl rfl).mp g'
    exact ⟨k1, k2, k3, x1, x2, x3, x4⟩
  by_cases ok : owOk D dr p
  · rw [up ok, ro_yes h hp h36 ok]
    obtain ⟨k1, k2, k3, x1, x2, x3, x4⟩ := ok
    have v1 := va_lt k1.1
    have v2 := va_lt k2.1
    have v3 := va_lt k3.1
    have g : gcOk 3 (upd (upd (upd nums 0 (nI (vaP D p))) 1 (nI (vaP D (enP D p + 1)))) 2 (nI (vaP D (enP D (enP D p + 1) + 1)))) L.2.2.2.1 L.2.2.2.2.1 = true := (gc_iff (x := vaP D p) (y := vaP D (enP D p + 1)) (q := vaP D (enP D (enP D p + 1) + 1)) (nums := (upd (upd (upd nums 0 (nI (vaP D p))) 1 (nI (vaP D (enP D p + 1)))) 2 (nI (vaP D (enP D (enP D p + 1) + 1))))) (by omega) (by omega) (by omega) hlw h36 rfl rfl rfl).mpr ⟨x1, x2, x3, x4⟩
    have gg : giveCs 3 (upd (upd (upd nums 0 (nI (vaP D p))) 1 (nI (vaP D (enP D p + 1)))) 2 (nI (vaP D (enP D (enP D p + 1) + 1)))) L = (true, (L.1, L.2.1, L.2.2.1, L.2.2.2.1, L.2.2.2.2.1, gcFrom (nI (vaP D (enP D p + 1))) (nI (vaP D (enP D (enP D p + 1) + 1))) (36 - vaP D p) (vaP D p) L.2.2.2.2.2)) := by
      unfold giveCs
      rw [if_pos g]
      show (true, (L.1, L.2.1, L.2.2.1, L.2.2.2.1, L.2.2.2.2.1, gcFrom (nI (vaP D (enP D p + 1))) (nI (vaP D (enP D (enP D p + 1) + 1))) (36 - (nI (vaP D p)).toNatClampNeg) (nI (vaP D p)).toNatClampNeg L.2.2.2.2.2)) = _
      rw [nI_clamp (by omega)]
    dsimp only
    rw [gg]
    refine ⟨rfl, fun _ => ⟨rfl, rfl, ?_⟩⟩
    dsimp only
    have eo : ∀ j, (j < 39 ∨ 75 ≤ j) → ownsM dr (vaP D p) (vaP D (enP D p + 1)) (vaP D (enP D (enP D p + 1) + 1)) j = dr j := fun j hj => by unfold ownsM; rw [if_neg (by omega)]
    have e0 := eo 0 (by omega)
    have e1 := eo 1 (by omega)
    have e2 := eo 2 (by omega)
    obtain ⟨i1, i2, i3, i4, i5, i6, i7, i8, i9, i10, i11, i12, i13⟩ := hI
    obtain ⟨⟨ln, l1, l2, l3⟩, l4, l5, l6, l7, l8, l9, l10⟩ := hL
    refine ⟨⟨⟨by rw [e2]; exact i1, by rw [e0]; exact i2, by rw [e1]; exact i3, by rw [e0, e1]; exact i4, i5, i6, fun i hi => ?_, i8, by rw [e2, e0]; exact i9, i10, i11, by rw [e2]; exact i12, by rw [e2]; exact i13⟩, by rw [e2]; exact hS⟩, ⟨⟨ln, l1, l2, by rw [e0, e1]; exact l3⟩, by rw [e1]; exact l4, fun j => ?_, fun j => ?_, fun j => ?_, fun c hc => ?_, fun c hc => ?_, fun r hr => ?_⟩, RP_t e2 (fun r hr => eo _ (by omega)) (fun r hr => eo _ (by omega)) i1 hP, hW⟩
    · unfold ownsM
      by_cases y : 39 + vaP D p ≤ 39 + i ∧ 39 + i ≤ 39 + vaP D (enP D p + 1)
      · rw [if_pos y]; omega
      · rw [if_neg y]; exact i7 i hi
    · rw [e0]
      exact (l5 j).trans ⟨fun y => ⟨y.1, by rw [eo _ (by omega)]; exact y.2⟩, fun y => ⟨y.1, by rw [← eo (3 + j) (by omega)]; exact y.2⟩⟩
    · rw [e0]
      exact (l6 j).trans ⟨fun y => ⟨y.1, by rw [eo _ (by omega)]; exact y.2⟩, fun y => ⟨y.1, by rw [← eo (3 + j) (by omega)]; exact y.2⟩⟩
    · rw [e0]
      exact (l7 j).trans ⟨fun y => ⟨y.1, by rw [eo _ (by omega)]; exact y.2⟩, fun y => ⟨y.1, by rw [← eo (3 + j) (by omega)]; exact y.2⟩⟩
    · show gcFrom (nI (vaP D (enP D p + 1))) (nI (vaP D (enP D (enP D p + 1) + 1))) (36 - vaP D p) (vaP D p) L.2.2.2.2.2 c = nI (ownsM dr (vaP D p) (vaP D (enP D p + 1)) (vaP D (enP D (enP D p + 1) + 1)) (39 + c))
      rw [gc_at (by omega) _ c _ _ _ (by omega)]
      unfold ownsM
      by_cases y : vaP D p ≤ c ∧ c ≤ vaP D (enP D p + 1) ∧ c < 36
      · rw [if_pos y, if_pos (by omega)]
      · rw [if_neg y, if_neg (by omega)]
        exact l8 c hc
    · rw [e0] at hc
      rw [eo _ (by omega)]
      exact l9 c hc
    · rw [eo _ (by omega), eo _ (by omega)]
      exact l10 r hr
  · have r0 : (roM D p dr).1 = false := bf (fun z => ok (ro_tt h hp h36 z))
    rw [r0]
    refine ⟨?_, fun z => Bool.noConfusion z⟩
    by_cases z : (rnFrom K le (nI D.1.1) 7 0 0 (nI p) nums).1 = true
    · rw [if_neg (by rw [z]; decide)]
      exact bf (fun g => ok (dn z g))
    · rw [if_pos (bf z)]
end S15
