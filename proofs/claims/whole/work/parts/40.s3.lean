/-! BOTH SIDES: what the class's orchard and the reference's numbers have in common; where rows go -/
/-- row r has a tree in c -/
def TrIn (s : Nat → Nat) (r c : Nat) : Prop := ∃ k, k < s (8 + r) ∧ s (11 + 4 * r + k) = c
def TrAny (t s : Nat → Nat) (c : Nat) : Prop := ∃ r, r < t 2 ∧ TrIn s r c
def Sn (t s : Nat → Nat) : Prop := OkS t s ∧ (∀ c, c < 36 → s (23 + c) ≤ 2) ∧ (∀ c, t 0 ≤ c → c < 36 → s (23 + c) = 0) ∧ (∀ r q k m, r < t 2 → q < t 2 → k < s (8 + r) → m < s (8 + q) → s (11 + 4 * r + k) = s (11 + 4 * q + m) → r = q ∧ k = m) ∧ (∀ r k, r < t 2 → k < s (8 + r) → s (23 + s (11 + 4 * r + k)) = 0) ∧ (∀ r, t 2 ≤ r → r < 3 → s (8 + r) = 0)
def RLd (L : LV) (t : Nat → Nat) : Prop := (∃ ln, ln < 7 ∧ L.2.2.2.1 = nI ln ∧ t 0 = ln * t 1) ∧ L.2.2.2.2.1 = nI (t 1) ∧ (∀ j, gb L.1 j = true ↔ j < t 0 ∧ t (3 + j) = 0) ∧ (∀ j, gb L.2.1 j = true ↔ j < t 0 ∧ t (3 + j) = 1) ∧ (∀ j, gb L.2.2.1 j = true ↔ j < t 0 ∧ t (3 + j) = 2) ∧ (∀ c, c < 36 → L.2.2.2.2.2 c = nI (t (39 + c))) ∧ (∀ c, c < t 0 → t (3 + c) ≤ 3) ∧ (∀ r, r < 3 → t (75 + r) ≤ 3 ∧ t (78 + r) ≤ 9)
def RowR (t s : Nat → Nat) (r : Nat) (v : RV) : Prop := v.1 = nI (s (8 + r)) ∧ v.2.1 = nI (t (75 + r)) ∧ v.2.2.1 = nI (s (5 + r)) ∧ v.2.2.2.1 = nI (t (78 + r)) ∧ ∀ k, k < s (8 + r) → v.2.2.2.2 k = nI (s (11 + 4 * r + k))
/-- all but what owners have -/
def RP (t s : Nat → Nat) (o : OV) : Prop := o.1 = nI (t 2) ∧ o.2.1 = nI (s 0) ∧ (∀ j, gb o.2.2.1 j = true ↔ j < 36 ∧ s (23 + j) = 1) ∧ (∀ j, gb o.2.2.2.1 j = true ↔ j < 36 ∧ s (23 + j) = 2) ∧ (∀ j, gb o.2.2.2.2.1 j = true ↔ j < 36 ∧ (s (23 + j) = 2 ∨ TrAny t s j)) ∧ (∀ r, r < t 2 → RowR t s r (o.2.2.2.2.2.2.2 r))
def RW (s : Nat → Nat) (ow : Nat → Int32) : Prop := ∀ p, p < 4 → ow p = nI (s (1 + p))
theorem trIn_val (s : Nat → Nat) (c r : Nat) : ∀ (q k : Nat) (f : Int32), (trIn s c r q k f = nI r ∧ ∃ j, k ≤ j ∧ j < k + q ∧ nI (s (11 + 4 * r + j)) = nI c) ∨ (trIn s c r q k f = f ∧ ∀ j, k ≤ j → j < k + q → ¬ nI (s (11 + 4 * r + j)) = nI c) := by
  intro q
  induction q with
  | zero => intro k f; exact Or.inr ⟨rfl, fun j h1 h2 => absurd h2 (by omega)⟩
  | succ q ih =>
    intro k f
    rw [trIn]
    by_cases hh : nI (s (11 + 4 * r + k)) = nI c
    · rw [if_pos hh]
      left
      rcases ih (k + 1) (nI r) with ⟨h1, j, h2, h3, h4⟩ | ⟨h1, h2⟩
      · exact ⟨h1, j, by omega, by omega, h4⟩
      · exact ⟨h1, k, Nat.le_refl _, by omega, hh⟩
    · rw [if_neg hh]
      rcases ih (k + 1) f with ⟨h1, j, h2, h3, h4⟩ | ⟨h1, h2⟩
      · exact Or.inl ⟨h1, j, by omega, by omega, h4⟩
      · refine Or.inr ⟨h1, fun j h3 h4 => ?_⟩
        by_cases hj : j = k
        · subst hj; exact hh
        · exact h2 j (by omega) (by omega)
theorem trOut_val {t s : Nat → Nat} (h : OkS t s) {c : Nat} (hc : c < 36) : ∀ (q r : Nat) (f : Int32), r + q = t 2 → (trOut s c q r f = f ∧ ∀ r', r ≤ r' → r' < t 2 → ¬ TrIn s r' c) ∨ (∃ r', r ≤ r' ∧ r' < t 2 ∧ TrIn s r' c ∧ trOut s c q r f = nI r') := by
  obtain ⟨o1, o2, o3, o4, o5, o6, -⟩ := h
  intro q
  induction q with
  | zero => intro r f hq; exact Or.inl ⟨rfl, fun r' h1 h2 => absurd h2 (by omega)⟩
  | succ q ih =>
    intro r f hq
    rw [trOut]
    have o5r := o5 r (by omega)
    have key : ∀ j, j < s (8 + r) → (nI (s (11 + 4 * r + j)) = nI c ↔ s (11 + 4 * r + j) = c) := fun j hj => nI_eq (by have := o6 r (by omega) j (by omega); omega) (by omega)
    rcases ih (r + 1) (trIn s c r (s (8 + r)) 0 f) (by omega) with ⟨h1, h2⟩ | ⟨r', h1, h2, h3, h4⟩
    · rcases trIn_val s c r (s (8 + r)) 0 f with ⟨g1, j, g2, g3, g4⟩ | ⟨g1, g2⟩
      · exact Or.inr ⟨r, Nat.le_refl _, by omega, ⟨j, by omega, (key j (by omega)).mp g4⟩, by rw [h1, g1]⟩
      · refine Or.inl ⟨by rw [h1, g1], fun r' h3 h4 => ?_⟩
        by_cases hr : r' = r
        · subst hr
          rintro ⟨k, hk, ek⟩
          exact g2 k (Nat.zero_le _) (by omega) ((key k hk).mpr ek)
        · exact h2 r' (by omega) h4
    · exact Or.inr ⟨r', by omega, h2, h3, h4⟩
theorem treeM_val {t s : Nat → Nat} (h : OkS t s) {c : Nat} (hc : c < 36) : (treeM t s c = -4 ∧ ¬ TrAny t s c) ∨ (∃ r, r < t 2 ∧ TrIn s r c ∧ treeM t s c = nI r) := by
  rcases trOut_val h hc (t 2) 0 (-4) (by omega) with ⟨h1, h2⟩ | ⟨r, -, h2, h3, h4⟩
  · exact Or.inl ⟨h1, fun ⟨r, hr, hk⟩ => h2 r (Nat.zero_le _) hr hk⟩
  · exact Or.inr ⟨r, h2, h3, h4⟩
theorem TrIn_one {t s : Nat → Nat} (h : Sn t s) {r q c : Nat} (hr : r < t 2) (hq : q < t 2) (h1 : TrIn s r c) (h2 : TrIn s q c) : r = q := by
  obtain ⟨k, hk, ek⟩ := h1
  obtain ⟨m, hm, em⟩ := h2
  exact (h.2.2.2.1 r q k m hr hq hk hm (ek.trans em.symm)).1
theorem treeM_no {t s : Nat → Nat} (h : OkS t s) {c : Nat} (hc : c < 36) : treeM t s c = -4 ↔ ¬ TrAny t s c := by
  have o1 := h.1
  rcases treeM_val h hc with ⟨h1, h2⟩ | ⟨r, h1, h2, h3⟩
  · exact ⟨fun _ => h2, fun _ => h1⟩
  · refine ⟨fun q => ?_, fun q => absurd ⟨r, h1, h2⟩ q⟩
    rw [h3] at q
    exact absurd q (nI_not4 (by omega))
theorem treeM_is {t s : Nat → Nat} (h : Sn t s) {c r : Nat} (hc : c < 36) (hr : r < t 2) : treeM t s c = nI r ↔ TrIn s r c := by
  have o1 := h.1.1
  rcases treeM_val h.1 hc with ⟨h1, h2⟩ | ⟨r', h1, h2, h3⟩
  · refine ⟨fun q => ?_, fun q => absurd ⟨r, hr, q⟩ h2⟩
    rw [h1] at q
    exact absurd q.symm (nI_not4 (by omega))
  · rw [h3]
    refine ⟨fun q => ?_, fun q => ?_⟩
    · rw [← nI_inj (by omega) (by omega) q]; exact h2
    · rw [TrIn_one h h1 hr h2 q]
theorem openC_iff (F Hd Br di ta : Int64) (kd : Int32) (j : Nat) : gb (openC F Hd Br di ta kd) j = true ↔ (gb F j = true ∨ gb Hd j = true ∨ (kd = 3 ∧ gb Br j = true)) ∧ gb di j = false ∧ gb ta j = false := by
  unfold openC
  rw [gb_mi, gb_mi, gb_or, gb_or]
  by_cases hk : kd = 3
  · rw [if_pos hk]; simp only [Bool.and_eq_true, Bool.or_eq_true, Bool.not_eq_true', hk, true_and, or_assoc, and_assoc]
  · rw [if_neg hk, gb_0]; simp only [Bool.and_eq_true, Bool.or_eq_true, Bool.not_eq_true', hk, false_and, or_false, and_assoc, Bool.false_eq_true]
theorem lie_0 {t s : Nat → Nat} (h : Sn t s) {c : Nat} (hc : c < 36) (v : Nat) (hv : v < 100) : nI (s (23 + c)) = nI v ↔ s (23 + c) = v := nI_eq (by have := h.2.1 c hc; omega) (by omega)
theorem openM_iff {t s : Nat → Nat} (h : Sn t s) {L : LV} (hL : RLd L t) {r c : Nat} (hr : r < t 2) (hc : c < t 0) : openM t s r (nI c) = true ↔ (t (3 + c) = 0 ∨ t (3 + c) = 1 ∨ (t (75 + r) = 3 ∧ t (3 + c) = 2)) ∧ s (23 + c) = 0 ∧ ¬ TrAny t s c := by
  have o2 := h.1.2.1
  have o1 := h.1.1
  have hso := hL.2.2.2.2.2.2.1 c hc
  have hk := (hL.2.2.2.2.2.2.2 r (by omega)).1
  have e0 : sortM t (nI c) = nI (t (3 + c)) := by
    unfold sortM; rw [if_neg (nI_not4 (by omega)), nI_clamp (by omega)]
  have k0 : nI (t (3 + c)) = 0 ↔ t (3 + c) = 0 := nI_eq (b := 0) (by omega) (by decide)
  have k1 : nI (t (3 + c)) = 1 ↔ t (3 + c) = 1 := nI_eq (b := 1) (by omega) (by decide)
  have k2 : nI (t (3 + c)) = 2 ↔ t (3 + c) = 2 := nI_eq (b := 2) (by omega) (by decide)
  have k3 : nI (t (75 + r)) = 3 ↔ t (75 + r) = 3 := nI_eq (b := 3) (by omega) (by decide)
  have l0 : nI (s (23 + c)) = 0 ↔ s (23 + c) = 0 := lie_0 h (by omega) 0 (by decide)
  have hm : mayM t r (nI c) = true ↔ (t (3 + c) = 0 ∨ t (3 + c) = 1 ∨ (t (75 + r) = 3 ∧ t (3 + c) = 2)) := by
    unfold mayM
    rw [e0]
    by_cases a0 : t (3 + c) = 0
    · rw [if_pos (k0.mpr a0)]; exact ⟨fun _ => Or.inl a0, fun _ => rfl⟩
    · rw [if_neg (fun q => a0 (k0.mp q))]
      by_cases a1 : t (3 + c) = 1
      · rw [if_pos (k1.mpr a1)]; exact ⟨fun _ => Or.inr (Or.inl a1), fun _ => rfl⟩
      · rw [if_neg (fun q => a1 (k1.mp q))]
        by_cases a2 : t (3 + c) = 2
        · rw [if_pos (k2.mpr a2)]
          by_cases a3 : t (75 + r) = 3
          · rw [if_pos (k3.mpr a3)]; exact ⟨fun _ => Or.inr (Or.inr ⟨a3, a2⟩), fun _ => rfl⟩
          · rw [if_neg (fun q => a3 (k3.mp q))]
            exact ⟨fun q => (by cases q), fun q => by rcases q with q | q | ⟨q, _⟩ <;> omega⟩
        · rw [if_neg (fun q => a2 (k2.mp q))]
          exact ⟨fun q => (by cases q), fun q => by rcases q with q | q | ⟨_, q⟩ <;> omega⟩
  unfold openM
  rw [nI_clamp (show c < 2 ^ 31 by omega)]
  by_cases a1 : mayM t r (nI c) = true
  · rw [if_pos a1]
    by_cases a2 : s (23 + c) = 0
    · rw [if_pos (l0.mpr a2)]
      by_cases a3 : treeM t s c = -4
      · rw [if_pos a3]; exact ⟨fun _ => ⟨hm.mp a1, a2, (treeM_no h.1 (by omega)).mp a3⟩, fun _ => rfl⟩
      · rw [if_neg a3]; exact ⟨fun q => (by cases q), fun q => absurd ((treeM_no h.1 (by omega)).mpr q.2.2) a3⟩
    · rw [if_neg (fun q => a2 (l0.mp q))]; exact ⟨fun q => (by cases q), fun q => absurd q.2.1 a2⟩
  · rw [if_neg a1]; exact ⟨fun q => (by cases q), fun q => absurd (hm.mpr q.1) a1⟩
theorem open_eq {t s : Nat → Nat} (h : Sn t s) {L : LV} (hL : RLd L t) {o : OV} (hP : RP t s o) {r c : Nat} (hr : r < t 2) (hc : c < t 0) : ctn (openC L.1 L.2.1 L.2.2.1 o.2.2.1 o.2.2.2.2.1 (nI (t (75 + r)))) (nI c) = openM t s r (nI c) := by
  have o2 := h.1.2.1
  have o1 := h.1.1
  have hk := (hL.2.2.2.2.2.2.2 r (by omega)).1
  have k3 : nI (t (75 + r)) = 3 ↔ t (75 + r) = 3 := nI_eq (b := 3) (by omega) (by decide)
  have hl := h.2.1 c (by omega)
  rw [ctn_gb _ (by omega), Bool.eq_iff_iff, openC_iff, openM_iff h hL hr hc]
  obtain ⟨p1, p2, p3, p4, p5, p6⟩ := hP
  obtain ⟨l1, l2, l3, l4, l5, l6, l7, l8⟩ := hL
  rw [l3, l4, l5, k3, ← Bool.not_eq_true, p3, ← Bool.not_eq_true, p5]
  constructor
  · rintro ⟨q1, q2, q3⟩
    refine ⟨?_, ?_, fun z => q3 ⟨by omega, Or.inr z⟩⟩
    · rcases q1 with ⟨_, q⟩ | ⟨_, q⟩ | ⟨q, _, q'⟩
      · exact Or.inl q
      · exact Or.inr (Or.inl q)
      · exact Or.inr (Or.inr ⟨q, q'⟩)
    · have a1 : ¬ s (23 + c) = 1 := fun z => q2 ⟨by omega, z⟩
      have a2 : ¬ s (23 + c) = 2 := fun z => q3 ⟨by omega, Or.inl z⟩
      omega
  · rintro ⟨q1, q2, q3⟩
    refine ⟨?_, fun z => by omega, fun z => ?_⟩
    · rcases q1 with q | q | ⟨q, q'⟩
      · exact Or.inl ⟨hc, q⟩
      · exact Or.inr (Or.inl ⟨hc, q⟩)
      · exact Or.inr (Or.inr ⟨q, hc, q'⟩)
    · rcases z.2 with z | z
      · omega
      · exact q3 z
theorem bes_eq {t s : Nat → Nat} (h : OkS t s) {L : LV} (hL : RLd L t) {c d : Nat} (hc : c < t 0) (hd : d < 4) : nextC L.2.2.2.1 L.2.2.2.2.1 (nI c) (nI d) = besM t c (nI d) := by
  obtain ⟨⟨ln, l1, l2, l3⟩, l4, -⟩ := hL
  obtain ⟨o1, o2, o3, o4, -⟩ := h
  rw [l2, l4, nx_all ln l1 (t 1) (by omega) o3 c (by omega) d hd, besM_eq, l3]
theorem bes_no4 {t s : Nat → Nat} (h : OkS t s) {L : LV} (hL : RLd L t) {c : Nat} (hc : c < t 0) : nextC L.2.2.2.1 L.2.2.2.2.1 (nI c) (-4) = -4 := by
  obtain ⟨⟨ln, l1, l2, l3⟩, l4, -⟩ := hL
  obtain ⟨o1, o2, o3, o4, -⟩ := h
  rw [l2, l4, nx_no ln l1 (t 1) (by omega) o3 c (by omega)]
theorem open_bes {t s : Nat → Nat} (h : Sn t s) {L : LV} (hL : RLd L t) {o : OV} (hP : RP t s o) {r c d : Nat} (hr : r < t 2) (hc : c < t 0) (hd : d < 4) : ctn (openC L.1 L.2.1 L.2.2.1 o.2.2.1 o.2.2.2.2.1 (nI (t (75 + r)))) (nextC L.2.2.2.1 L.2.2.2.2.1 (nI c) (nI d)) = openM t s r (besM t c (nI d)) := by
  rw [bes_eq h.1 hL hc hd]
  rcases bes_ok h.1 hc (nI d) with e | ⟨c0, h0, e⟩
  · rw [e, open_no, ctn_no]
  · rw [e, open_eq h hL hP hr h0]
theorem turn_eq (t : Nat → Nat) (r : Nat) : turnC (nI (t (75 + r))) = nI (turnM t r) := by
  unfold turnC turnM
  split <;> rfl
theorem yr_eq {y : Nat} (hy : y < 2 ^ 31) : (¬ nI y % 2 = 0) ↔ nI y % 2 = 1 := by
  have e : nI y % 2 = nI (y % 2) := nI_mod (b := 2) hy (by decide)
  rw [e]
  rcases Nat.mod_two_eq_zero_or_one y with z | z
  · rw [z]; decide
  · rw [z]; decide
theorem way_eq {t s : Nat → Nat} (h : Sn t s) {L : LV} (hL : RLd L t) {o : OV} (hP : RP t s o) {r : Nat} (hr : r < t 2) (hy : s 0 < 2 ^ 31) : wayC L.1 L.2.1 L.2.2.1 L.2.2.2.1 L.2.2.2.2.1 o.2.2.1 o.2.2.2.2.1 (nI (s 0)) (nI (t (75 + r))) (nI (s (5 + r))) (nI (s (11 + 4 * r))) = headM t s r := by
  obtain ⟨o1, o2, o3, o4, o5, o6, o7, o8, o9, o10, o11⟩ := id h.1
  have h8 := o8 r (by omega)
  have h9 := o9 r hr
  have hf : s (11 + 4 * r) < t 0 := o10 r hr 0 (by omega)
  have ht := turnM_le t r
  have e1 : (nI (s (5 + r)) + turnC (nI (t (75 + r)))) % 4 = nI (s (5 + r) + turnM t r) % 4 := by rw [turn_eq, nI_add]
  have e2 : (nI (s (5 + r)) + 4 - turnC (nI (t (75 + r)))) % 4 = nI (s (5 + r) + 4 - turnM t r) % 4 := by
    rw [turn_eq, show nI (s (5 + r)) + 4 = nI (s (5 + r) + 4) from nI_add _ 4, nI_subE rfl rfl (by omega)]
  unfold wayC headM
  rw [e1, e2]
  by_cases a1 : nI (t (75 + r)) = 2 ∧ nI (s 0) % 2 = 1
  · rw [if_pos a1, if_pos ⟨a1.1, (yr_eq hy).mpr a1.2⟩]
  · rw [if_neg a1, if_neg (fun q => a1 ⟨q.1, (yr_eq hy).mp q.2⟩)]
    unfold wayC2
    rw [open_bes h hL hP hr hf h8, nI_mod4 _ (by omega), nI_mod4 _ (by omega), open_bes h hL hP hr hf (by omega), open_bes h hL hP hr hf (by omega)]
theorem headM_open {t s : Nat → Nat} {r : Nat} (hn : ¬ headM t s r = -4) : openM t s r (besM t (s (11 + 4 * r)) (headM t s r)) = true := by
  unfold headM at hn ⊢
  split at hn
  · exact absurd rfl hn
  · rename_i a1
    rw [if_neg a1]
    split at hn
    · rename_i a2; rw [if_pos a2]; exact a2
    · rename_i a2
      rw [if_neg a2]
      split at hn
      · rename_i a3; rw [if_pos a3]; exact a3
      · rename_i a3
        rw [if_neg a3]
        split at hn
        · rename_i a4; rw [if_pos a4]; exact a4
        · exact absurd rfl hn
