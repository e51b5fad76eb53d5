/-! BOTH SIDES: letters and numbers of a text -/
/-- the class's letters and the reference's are the same -/
def TxK (K : Nat) (le : Nat → Int32) (D : MS) : Prop := D.1.1 ≤ K ∧ K ≤ 200 ∧ ∀ k, k < D.1.1 → le k = nI (D.2 0 k) ∧ D.2 0 k ≤ 126
def fgP (D : MS) (p : Nat) : Bool := decide (p < D.1.1 ∧ 48 ≤ D.2 0 p ∧ D.2 0 p ≤ 57)
def vaP (D : MS) (p : Nat) : Nat := if fgP D (p + 1) = true then 10 * (D.2 0 p - 48) + (D.2 0 (p + 1) - 48) else D.2 0 p - 48
def enP (D : MS) (p : Nat) : Nat := if fgP D (p + 1) = true then p + 2 else p + 1
def chP (D : MS) (p e : Nat) : Bool := decide (p < D.1.1 ∧ D.2 0 p = e)
section S14
variable {K : Nat} {le : Nat → Int32} {D : MS} {p : Nat}
theorem fg_iff : fgP D p = true ↔ p < D.1.1 ∧ 48 ≤ D.2 0 p ∧ D.2 0 p ≤ 57 := by unfold fgP; rw [decide_eq_true_iff]
theorem ch_iff {e : Nat} : chP D p e = true ↔ p < D.1.1 ∧ D.2 0 p = e := by unfold chP; rw [decide_eq_true_iff]
theorem va_lt (h : fgP D p = true) : vaP D p < 100 := by
  have h1 := fg_iff.mp h
  unfold vaP
  by_cases h2 : fgP D (p + 1) = true
  · have h3 := fg_iff.mp h2
    rw [if_pos h2]; omega
  · rw [if_neg h2]; omega
theorem en_le : enP D p ≤ p + 2 ∧ p + 1 ≤ enP D p := by
  unfold enP
  by_cases h2 : fgP D (p + 1) = true
  · rw [if_pos h2]; omega
  · rw [if_neg h2]; omega
theorem en_in (h : fgP D p = true) : enP D p ≤ D.1.1 := by
  have h1 := fg_iff.mp h
  unfold enP
  by_cases h2 : fgP D (p + 1) = true
  · have h3 := fg_iff.mp h2
    rw [if_pos h2]; omega
  · rw [if_neg h2]; omega
theorem ok_yes (h : TxK K le D) (hp : p < D.1.1) : okAt K (nI D.1.1) (nI p) = true := by
  obtain ⟨h1, h2, h3⟩ := h
  unfold okAt
  rw [if_neg (nI_pos (by omega)), if_neg (nI_ge hp (by omega)), if_pos (nI_lt (by omega) (by omega))]
theorem ok_no (h : TxK K le D) (hp : D.1.1 ≤ p) (hb : p < 1000) : okAt K (nI D.1.1) (nI p) = false := by
  unfold okAt
  rw [if_neg (nI_pos (by omega)), if_pos (nI_le hp (by omega))]
theorem nlV_yes (h : TxK K le D) (hp : p < D.1.1) : nlV K le (nI D.1.1) (nI p) = nI (D.2 0 p) := by
  have h1 := h.1
  have h2 := h.2.1
  unfold nlV
  rw [if_pos (ok_yes h hp), nI_clamp (by omega)]
  exact (h.2.2 p hp).1
theorem nlV_no (h : TxK K le D) (hp : D.1.1 ≤ p) (hb : p < 1000) : nlV K le (nI D.1.1) (nI p) = 0 := by
  unfold nlV
  rw [if_neg (by rw [ok_no h hp hb]; decide)]
theorem nlA_yes (h : TxK K le D) (hp : p < D.1.1) : nlA K (nI D.1.1) (nI p) = nI (p + 1) := by
  unfold nlA
  rw [if_pos (ok_yes h hp), nI_1]
theorem fgN_fg (h : TxK K le D) (hb : p < 1000) : fgN K le (nI D.1.1) (nI p) = fgP D p := by
  have h1 := h.1
  have h2 := h.2.1
  unfold fgN fgP
  rw [if_neg (nI_pos (by omega))]
  by_cases a1 : D.1.1 ≤ p
  · rw [if_pos (nI_le a1 (by omega))]
    exact (decide_eq_false (by omega)).symm
  · obtain ⟨g1, g2⟩ := h.2.2 p (by omega)
    rw [if_neg (nI_ge (by omega) (by omega)), if_neg (nI_ge (by omega) (by omega)), nI_clamp (by omega), g1]
    by_cases a2 : 48 ≤ D.2 0 p
    · rw [if_neg (show ¬ nI (D.2 0 p) < 48 from nI_nlt (b := 48) a2 (by omega))]
      by_cases a3 : D.2 0 p ≤ 57
      · rw [if_neg (show ¬ 57 < nI (D.2 0 p) from nI_nlt (a := 57) a3 (by omega))]
        exact (decide_eq_true (by omega)).symm
      · rw [if_pos (show 57 < nI (D.2 0 p) from nI_lt (a := 57) (by omega) (by omega))]
        exact (decide_eq_false (by omega)).symm
    · rw [if_pos (show nI (D.2 0 p) < 48 from nI_lt (b := 48) (by omega) (by decide))]
      exact (decide_eq_false (by omega)).symm
theorem ch_is (h : TxK K le D) (hb : p < 1000) {e : Nat} (he : 0 < e) (he2 : e < 200) : nlV K le (nI D.1.1) (nI p) = nI e ↔ chP D p e = true := by
  rw [ch_iff]
  by_cases a1 : p < D.1.1
  · obtain ⟨g1, g2⟩ := h.2.2 p a1
    rw [nlV_yes h a1, nI_eq (by omega) (by omega)]
    exact ⟨fun z => ⟨a1, z⟩, fun z => z.2⟩
  · rw [nlV_no h (by omega) hb]
    exact ⟨fun z => absurd z.symm (nI_ne0 he (by omega)), fun z => absurd z.1 a1⟩
theorem rd_no (h : TxK K le D) (hb : p < 1000) (hf : fgP D p = false) : rdNum K le (nI D.1.1) (nI p) = (-4, nI p) := by
  unfold rdNum
  rw [if_pos (by rw [fgN_fg h hb]; exact hf)]
theorem rd_yes (h : TxK K le D) (hb : p < 990) (hf : fgP D p = true) : rdNum K le (nI D.1.1) (nI p) = (nI (vaP D p), nI (enP D p)) := by
  have h1 := fg_iff.mp hf
  unfold rdNum vaP enP
  rw [if_neg (by rw [fgN_fg h (by omega), hf]; decide), nlA_yes h h1.1, fgN_fg h (by omega), nlV_yes h h1.1, nI_subE rfl (show (48 : Int32) = nI 48 from rfl) (by omega)]
  by_cases h2 : fgP D (p + 1) = true
  · have h3 := fg_iff.mp h2
    rw [if_neg (by rw [h2]; decide), if_pos h2, if_pos h2, nlV_yes h h3.1, nlA_yes h h3.1, nI_subE rfl (show (48 : Int32) = nI 48 from rfl) (by omega), nI_mulE rfl (show (10 : Int32) = nI 10 from rfl), nI_add, Nat.mul_comm]
  · rw [if_pos (by cases z : fgP D (p + 1); rfl; exact absurd z h2), if_neg h2, if_neg h2]
theorem let_yes (hp : p < D.1.1) (h : D.1.1 ≤ 200) : letM D p = nI (D.2 0 p) := by
  unfold letM
  rw [if_neg (nI_ge hp (by omega))]
theorem let_no (hp : D.1.1 ≤ p) (h : p < 1000) : letM D p = -1 := by
  unfold letM
  rw [if_pos (nI_le hp (by omega))]
theorem fgM_fg (h : TxK K le D) (hb : p < 1000) : isFigM (letM D p) = fgP D p := by
  have h1 := h.1
  have h2 := h.2.1
  by_cases a1 : D.1.1 ≤ p
  · rw [let_no a1 hb, show fgP D p = false from decide_eq_false (by omega)]
    decide
  · obtain ⟨g1, g2⟩ := h.2.2 p (by omega)
    rw [let_yes (by omega) (by omega)]
    unfold isFigM withinC fgP
    by_cases a2 : 48 ≤ D.2 0 p
    · rw [if_neg (show ¬ nI (D.2 0 p) < 48 from nI_nlt (b := 48) a2 (by omega))]
      by_cases a3 : D.2 0 p ≤ 57
      · rw [if_neg (show ¬ 57 < nI (D.2 0 p) from nI_nlt (a := 57) a3 (by omega))]
        exact (decide_eq_true (by omega)).symm
      · rw [if_pos (show 57 < nI (D.2 0 p) from nI_lt (a := 57) (by omega) (by omega))]
        exact (decide_eq_false (by omega)).symm
    · rw [if_pos (show nI (D.2 0 p) < 48 from nI_lt (b := 48) (by omega) (by decide))]
      exact (decide_eq_false (by omega)).symm
theorem chM_is (h : TxK K le D) (hb : p < 1000) {e : Nat} (he : e < 200) : letM D p = nI e ↔ chP D p e = true := by
  rw [ch_iff]
  have h1 := h.1
  have h2 := h.2.1
  by_cases a1 : p < D.1.1
  · obtain ⟨g1, g2⟩ := h.2.2 p a1
    rw [let_yes a1 (by omega), nI_eq (by omega) (by omega)]
    exact ⟨fun z => ⟨a1, z⟩, fun z => z.2⟩
  · rw [let_no (by omega) hb]
    refine ⟨fun z => ?_, fun z => absurd z.1 a1⟩
    have : (-1 : Int32).toInt = (nI e).toInt := congrArg Int32.toInt z
    rw [nI_toInt (by omega)] at this
    have e1 : (-1 : Int32).toInt = -1 := rfl
    omega
theorem fiM_no (h : TxK K le D) (hb : p < 1000) (hf : fgP D p = false) (lo hi : Int32) : figM D lo hi p = (-1, p) := figM_0 (by rw [fgM_fg h hb]; exact hf)
theorem fiM_yes (h : TxK K le D) (hb : p < 990) (hf : fgP D p = true) (lo hi : Int32) : figM D lo hi p = ((if withinC (nI (vaP D p)) lo hi = true then nI (vaP D p) else -1), enP D p) := by
  have h1 := fg_iff.mp hf
  have h0 := h.1
  have h00 := h.2.1
  have e0 : letM D p = nI (D.2 0 p) := let_yes h1.1 (by omega)
  have f0 : isFigM (letM D p) = true := by rw [fgM_fg h (by omega)]; exact hf
  unfold vaP enP
  by_cases h2 : fgP D (p + 1) = true
  · have h3 := fg_iff.mp h2
    rw [if_pos h2, if_pos h2, figM_2 e0 (by omega) f0 (let_yes h3.1 (by omega)) (by omega) (by rw [fgM_fg h (by omega)]; exact h2), Nat.add_sub_assoc h3.2.1]
  · rw [if_neg h2, if_neg h2, figM_1 e0 (by omega) f0 (by rw [fgM_fg h (by omega)]; cases z : fgP D (p + 1); rfl; exact absurd z h2)]
theorem wi_iff {c lo hi : Nat} (hc : c < 1000) (hl : lo < 1000) (hh : hi < 1000) : withinC (nI c) (nI lo) (nI hi) = true ↔ lo ≤ c ∧ c ≤ hi := by
  unfold withinC
  by_cases a1 : lo ≤ c
  · rw [if_neg (nI_nlt a1 (by omega))]
    by_cases a2 : c ≤ hi
    · rw [if_neg (nI_nlt a2 (by omega))]
      exact ⟨fun _ => ⟨a1, a2⟩, fun _ => rfl⟩
    · rw [if_pos (nI_lt (by omega) (by omega))]
      exact ⟨fun z => Bool.noConfusion z, fun z => absurd z.2 a2⟩
  · rw [if_pos (nI_lt (by omega) (by omega))]
    exact ⟨fun z => Bool.noConfusion z, fun z => absurd z.1 a1⟩
/-- a cell's limit: below the draft's size -/
theorem wi_cell {c lo d : Nat} (hc : c < 1000) (hl : lo < 1000) (hd : d < 1000) : withinC (nI c) (nI lo) (nI d - 1) = true ↔ lo ≤ c ∧ c < d := by
  rcases d with _ | d
  · refine ⟨fun z => ?_, fun z => absurd z.2 (Nat.not_lt_zero _)⟩
    exfalso
    unfold withinC at z
    by_cases a1 : nI c < nI lo
    · rw [if_pos a1] at z; cases z
    · rw [if_neg a1, if_pos (by rw [Int32.lt_iff_toInt_lt, nI_toInt (by omega)]; show (-1 : Int) < c; omega)] at z; cases z
  · rw [nI_pred, wi_iff hc hl (by omega)]
    omega
theorem nI_nn {c : Nat} (h : c < 1000) : ¬ nI c < 0 := nI_pos (by omega)
theorem nuM_yes (h : TxK K le D) (hb : p < 980) {e : Nat} (he : e < 200) {lo hi : Int32} (hf : fgP D p = true) (hw : withinC (nI (vaP D p)) lo hi = true) (hc : chP D (enP D p) e = true) : numM D lo hi (nI e) p = (nI (vaP D p), enP D p + 1) := by
  have hv := va_lt hf
  have hn := (en_le (D := D) (p := p)).1
  have h1 := fiM_yes h (by omega) hf lo hi
  unfold numM
  rw [h1, if_pos hw]
  dsimp only
  rw [if_neg (nI_nn (by omega)), if_pos ((chM_is h (by omega) he).mpr hc)]
theorem nuM_no (h : TxK K le D) (hb : p < 980) {e : Nat} (he : e < 200) {lo hi : Int32} (hf : ¬ (fgP D p = true ∧ withinC (nI (vaP D p)) lo hi = true ∧ chP D (enP D p) e = true)) : (numM D lo hi (nI e) p).1 < 0 := by
  unfold numM
  dsimp only
  by_cases a1 : fgP D p = true
  · have hv := va_lt a1
    have hn := (en_le (D := D) (p := p)).1
    rw [fiM_yes h (by omega) a1 lo hi]
    dsimp only
    by_cases a2 : withinC (nI (vaP D p)) lo hi = true
    · rw [if_pos a2, if_neg (nI_nn (by omega)), if_neg (fun z => hf ⟨a1, a2, (chM_is h (by omega) he).mp z⟩)]
      decide
    · rw [if_neg a2, if_pos m1_lt]
      exact m1_lt
  · rw [fiM_no h (by omega) (by cases z : fgP D p; rfl; exact absurd z a1) lo hi]
    dsimp only
    rw [if_pos m1_lt]
    exact m1_lt
theorem c_44 (h : TxK K le D) (hb : p < 1000) : nlV K le (nI D.1.1) (nI p) = 44 ↔ chP D p 44 = true := ch_is h hb (e := 44) (by omega) (by omega)
theorem c_59 (h : TxK K le D) (hb : p < 1000) : nlV K le (nI D.1.1) (nI p) = 59 ↔ chP D p 59 = true := ch_is h hb (e := 59) (by omega) (by omega)
theorem m_44 (h : TxK K le D) (hb : p < 1000) : letM D p = 44 ↔ chP D p 44 = true := chM_is h hb (e := 44) (by omega)
theorem m_59 (h : TxK K le D) (hb : p < 1000) : letM D p = 59 ↔ chP D p 59 = true := chM_is h hb (e := 59) (by omega)
theorem nu44_yes (h : TxK K le D) (hb : p < 980) {lo hi : Int32} (hf : fgP D p = true) (hw : withinC (nI (vaP D p)) lo hi = true) (hc : chP D (enP D p) 44 = true) : numM D lo hi 44 p = (nI (vaP D p), enP D p + 1) := nuM_yes h hb (e := 44) (by omega) hf hw hc
theorem nu59_yes (h : TxK K le D) (hb : p < 980) {lo hi : Int32} (hf : fgP D p = true) (hw : withinC (nI (vaP D p)) lo hi = true) (hc : chP D (enP D p) 59 = true) : numM D lo hi 59 p = (nI (vaP D p), enP D p + 1) := nuM_yes h hb (e := 59) (by omega) hf hw hc
theorem nu44_no (h : TxK K le D) (hb : p < 980) {lo hi : Int32} (hf : ¬ (fgP D p = true ∧ withinC (nI (vaP D p)) lo hi = true ∧ chP D (enP D p) 44 = true)) : (numM D lo hi 44 p).1 < 0 := nuM_no h hb (e := 44) (by omega) hf
theorem nu59_no (h : TxK K le D) (hb : p < 980) {lo hi : Int32} (hf : ¬ (fgP D p = true ∧ withinC (nI (vaP D p)) lo hi = true ∧ chP D (enP D p) 59 = true)) : (numM D lo hi 59 p).1 < 0 := nuM_no h hb (e := 59) (by omega) hf
/-! the class's row of numbers, one step -/
section RN
variable {told : Int32} {nums : Nat → Int32} {q i : Nat}
theorem rn_no (h : TxK K le D) (hb : p < 980) (hf : fgP D p = false) : (rnFrom K le (nI D.1.1) (q + 1) i told (nI p) nums).1 = false := by
  rw [rnFrom, rd_no h (by omega) hf, if_pos rfl]
theorem rn_44 (h : TxK K le D) (hb : p < 980) (hf : fgP D p = true) (hc : chP D (enP D p) 44 = true) : rnFrom K le (nI D.1.1) (q + 1) i told (nI p) nums = rnFrom K le (nI D.1.1) q (i + 1) (told + 1) (nI (enP D p + 1)) (upd nums i (nI (vaP D p))) := by
  have hv := va_lt hf
  have hn := (en_le (D := D) (p := p)).1
  rw [rnFrom, rd_yes h (by omega) hf]
  dsimp only
  rw [if_neg (nI_not4 (by omega)), if_pos ((c_44 h (by omega)).mpr hc), nlA_yes h (ch_iff.mp hc).1]
theorem rn_59 (h : TxK K le D) (hb : p < 980) (hf : fgP D p = true) (hc : chP D (enP D p) 59 = true) : rnFrom K le (nI D.1.1) (q + 1) i told (nI p) nums = (true, told + 1, nI (enP D p + 1), upd nums i (nI (vaP D p))) := by
  have hv := va_lt hf
  have hn := (en_le (D := D) (p := p)).1
  have h59 := (c_59 h (p := enP D p) (by omega)).mpr hc
  rw [rnFrom, rd_yes h (by omega) hf]
  dsimp only
  rw [if_neg (nI_not4 (by omega)), if_neg (by rw [h59]; decide), if_pos h59, nlA_yes h (ch_iff.mp hc).1]
theorem rn_el (h : TxK K le D) (hb : p < 980) (h44 : ¬ chP D (enP D p) 44 = true) (h59 : ¬ chP D (enP D p) 59 = true) : (rnFrom K le (nI D.1.1) (q + 1) i told (nI p) nums).1 = false := by
  by_cases hf : fgP D p = true
  · have hv := va_lt hf
    have hn := (en_le (D := D) (p := p)).1
    rw [rnFrom, rd_yes h (by omega) hf]
    dsimp only
    rw [if_neg (nI_not4 (by omega)), if_neg (fun z => h44 ((c_44 h (by omega)).mp z)), if_neg (fun z => h59 ((c_59 h (by omega)).mp z))]
  · exact rn_no h hb (by cases z : fgP D p; rfl; exact absurd z hf)
end RN
theorem rn_told (h : TxK K le D) : ∀ (q i p : Nat) (nums : Nat → Int32), p + 3 * q < 980 → (rnFrom K le (nI D.1.1) q i (nI i) (nI p) nums).1 = true → ∃ m, i < m ∧ m ≤ i + q ∧ (rnFrom K le (nI D.1.1) q i (nI i) (nI p) nums).2.1 = nI m ∧ ∀ j, j < i → (rnFrom K le (nI D.1.1) q i (nI i) (nI p) nums).2.2.2 j = nums j := by
  intro q
  induction q with
  | zero => intro i p nums _ z; cases z
  | succ q ih =>
    intro i p nums hb z
    have hn := (en_le (D := D) (p := p)).1
    have keep : ∀ (v : Int32) j, j < i → upd nums i v j = nums j := fun v j hj => by unfold upd; rw [if_neg (by omega)]
    by_cases hf : fgP D p = true
    · by_cases h44 : chP D (enP D p) 44 = true
      · rw [rn_44 h (by omega) hf h44, nI_1] at z ⊢
        obtain ⟨m, m1, m2, m3, m4⟩ := ih (i + 1) (enP D p + 1) _ (by omega) z
        exact ⟨m, by omega, by omega, m3, fun j hj => (m4 j (by omega)).trans (keep _ j hj)⟩
      · by_cases h59 : chP D (enP D p) 59 = true
        · rw [rn_59 h (by omega) hf h59, nI_1]
          exact ⟨i + 1, by omega, by omega, rfl, fun j hj => keep _ j hj⟩
        · rw [rn_el h (by omega) h44 h59] at z; cases z
    · rw [rn_no h (by omega) (by cases y : fgP D p; rfl; exact absurd y hf)] at z; cases z
end S14
