/-! BOTH SIDES: when all stands as now again; what a ditch changes -/
theorem asRow_iff {n : Nat} (hn : n ≤ 4) {a b : RV} (ha : a.1 = nI n) : asRow a b = true ↔ a.2.2.1 = b.2.2.1 ∧ nI n = b.1 ∧ ∀ k, k < n → a.2.2.2.2 k = b.2.2.2.2 k := by
  unfold asRow rowAsC
  rw [ha]
  by_cases h1 : a.2.2.1 = b.2.2.1
  · rw [if_neg (fun z => z h1)]
    by_cases h2 : nI n = b.1
    · rw [if_neg (fun z => z h2)]
      match n, hn with
      | 0, _ => rw [if_pos (by decide)]; exact ⟨fun _ => ⟨h1, h2, fun k hk => absurd hk (by omega)⟩, fun _ => rfl⟩
      | 1, _ =>
        rw [if_neg (by decide)]
        by_cases e0 : a.2.2.2.2 0 = b.2.2.2.2 0
        · rw [if_neg (fun z => z e0), if_pos (by decide)]
          exact ⟨fun _ => ⟨h1, h2, fun k hk => by rw [show k = 0 by omega]; exact e0⟩, fun _ => rfl⟩
        · rw [if_pos e0]; exact ⟨fun z => (by cases z), fun z => absurd (z.2.2 0 (by omega)) e0⟩
      | 2, _ =>
        rw [if_neg (by decide)]
        by_cases e0 : a.2.2.2.2 0 = b.2.2.2.2 0
        · rw [if_neg (fun z => z e0), if_neg (by decide)]
          by_cases e1 : a.2.2.2.2 1 = b.2.2.2.2 1
          · rw [if_neg (fun z => z e1), if_pos (by decide)]
            exact ⟨fun _ => ⟨h1, h2, fun k hk => by rcases (show k = 0 ∨ k = 1 by omega) with z | z <;> rw [z] <;> assumption⟩, fun _ => rfl⟩
          · rw [if_pos e1]; exact ⟨fun z => (by cases z), fun z => absurd (z.2.2 1 (by omega)) e1⟩
        · rw [if_pos e0]; exact ⟨fun z => (by cases z), fun z => absurd (z.2.2 0 (by omega)) e0⟩
      | 3, _ =>
        rw [if_neg (by decide)]
        by_cases e0 : a.2.2.2.2 0 = b.2.2.2.2 0
        · rw [if_neg (fun z => z e0), if_neg (by decide)]
          by_cases e1 : a.2.2.2.2 1 = b.2.2.2.2 1
          · rw [if_neg (fun z => z e1), if_neg (by decide)]
            by_cases e2 : a.2.2.2.2 2 = b.2.2.2.2 2
            · rw [if_neg (fun z => z e2), if_pos (by decide)]
              exact ⟨fun _ => ⟨h1, h2, fun k hk => by rcases (show k = 0 ∨ k = 1 ∨ k = 2 by omega) with z | z | z <;> rw [z] <;> assumption⟩, fun _ => rfl⟩
            · rw [if_pos e2]; exact ⟨fun z => (by cases z), fun z => absurd (z.2.2 2 (by omega)) e2⟩
          · rw [if_pos e1]; exact ⟨fun z => (by cases z), fun z => absurd (z.2.2 1 (by omega)) e1⟩
        · rw [if_pos e0]; exact ⟨fun z => (by cases z), fun z => absurd (z.2.2 0 (by omega)) e0⟩
      | 4, _ =>
        rw [if_neg (by decide)]
        by_cases e0 : a.2.2.2.2 0 = b.2.2.2.2 0
        · rw [if_neg (fun z => z e0), if_neg (by decide)]
          by_cases e1 : a.2.2.2.2 1 = b.2.2.2.2 1
          · rw [if_neg (fun z => z e1), if_neg (by decide)]
            by_cases e2 : a.2.2.2.2 2 = b.2.2.2.2 2
            · rw [if_neg (fun z => z e2), if_neg (by decide)]
              by_cases e3 : a.2.2.2.2 3 = b.2.2.2.2 3
              · rw [if_neg (fun z => z e3)]
                exact ⟨fun _ => ⟨h1, h2, fun k hk => by rcases (show k = 0 ∨ k = 1 ∨ k = 2 ∨ k = 3 by omega) with z | z | z | z <;> rw [z] <;> assumption⟩, fun _ => rfl⟩
              · rw [if_pos e3]; exact ⟨fun z => (by cases z), fun z => absurd (z.2.2 3 (by omega)) e3⟩
            · rw [if_pos e2]; exact ⟨fun z => (by cases z), fun z => absurd (z.2.2 2 (by omega)) e2⟩
          · rw [if_pos e1]; exact ⟨fun z => (by cases z), fun z => absurd (z.2.2 1 (by omega)) e1⟩
        · rw [if_pos e0]; exact ⟨fun z => (by cases z), fun z => absurd (z.2.2 0 (by omega)) e0⟩
      | n + 5, h => exact absurd h (by omega)
    · rw [if_pos h2]; exact ⟨fun z => (by cases z), fun z => absurd z.2.1 h2⟩
  · rw [if_pos h1]; exact ⟨fun z => (by cases z), fun z => absurd z.1 h1⟩
theorem saEnd_iff (y y2 : Int32) (b : Bool) : saEnd y y2 b = true ↔ b = false ∨ (y - y2) % 2 = 0 := by
  unfold saEnd
  by_cases hb : b = false
  · rw [if_pos hb]; exact ⟨fun _ => Or.inl hb, fun _ => rfl⟩
  · rw [if_neg hb]
    by_cases hz : (y - y2) % 2 = 0
    · rw [if_pos hz]; exact ⟨fun _ => Or.inr hz, fun _ => rfl⟩
    · rw [if_neg hz]; exact ⟨fun z => (by cases z), fun z => z.elim (fun q => absurd q hb) (fun q => absurd q hz)⟩
theorem sa_iff {N : Nat} (hN : N ≤ 3) (y y2 : Int32) (rs rs2 : Nat → RV) : ∀ (q r : Nat) (b : Bool), r + q = 3 → (saFrom (nI N) y y2 rs rs2 q r b = true ↔ (∀ x, r ≤ x → x < N → asRow (rs x) (rs2 x) = true) ∧ ((b = false ∧ ∀ x, r ≤ x → x < N → ¬ (rs x).2.1 = 2) ∨ (y - y2) % 2 = 0)) := by
  intro q
  induction q with
  | zero =>
    intro r b hq
    rw [saFrom, saEnd_iff]
    exact ⟨fun h => ⟨fun x h1 h2 => absurd h2 (by omega), h.imp (fun z => ⟨z, fun x h1 h2 => absurd h2 (by omega)⟩) id⟩, fun h => h.2.imp (fun z => z.1) id⟩
  | succ q ih =>
    intro r b hq
    rw [saFrom]
    by_cases h : N ≤ r
    · rw [if_pos (nI_le h (by omega)), saEnd_iff]
      exact ⟨fun h => ⟨fun x h1 h2 => absurd h2 (by omega), h.imp (fun z => ⟨z, fun x h1 h2 => absurd h2 (by omega)⟩) id⟩, fun h => h.2.imp (fun z => z.1) id⟩
    · rw [if_neg (nI_ge (by omega) (by omega))]
      by_cases ha : asRow (rs r) (rs2 r) = false
      · rw [if_pos ha]
        exact ⟨fun z => (by cases z), fun z => by have := z.1 r (Nat.le_refl _) (by omega); rw [ha] at this; cases this⟩
      · have ha' : asRow (rs r) (rs2 r) = true := by cases z : asRow (rs r) (rs2 r); exact absurd z ha; rfl
        rw [if_neg ha, ih (r + 1) _ (by omega)]
        have split_ : ∀ (Pp : Nat → Prop), ((∀ x, r ≤ x → x < N → Pp x) ↔ Pp r ∧ ∀ x, r + 1 ≤ x → x < N → Pp x) := fun Pp => ⟨fun z => ⟨z r (Nat.le_refl _) (by omega), fun x h1 h2 => z x (by omega) h2⟩, fun z x h1 h2 => by
          by_cases hx : x = r
          · subst hx; exact z.1
          · exact z.2 x (by omega) h2⟩
        rw [split_ (fun x => asRow (rs x) (rs2 x) = true), split_ (fun x => ¬ (rs x).2.1 = 2)]
        constructor
        · rintro ⟨g1, g2⟩
          refine ⟨⟨ha', g1⟩, ?_⟩
          rcases g2 with ⟨g3, g4⟩ | g3
          · split at g3
            · cases g3
            · rename_i hb
              split at g3
              · cases g3
              · rename_i hk
                exact Or.inl ⟨by cases b; rfl; exact absurd rfl hb, hk, g4⟩
          · exact Or.inr g3
        · rintro ⟨⟨_, g1⟩, g2⟩
          refine ⟨g1, ?_⟩
          rcases g2 with ⟨g3, g4, g5⟩ | g3
          · refine Or.inl ⟨?_, g5⟩
            rw [if_neg (by rw [g3]; decide), if_neg g4]
          · exact Or.inr g3
theorem agIn_iff (s a : Nat → Nat) (r : Nat) : ∀ (u k : Nat) (b : Bool), agIn s a r u k b = true ↔ b = true ∧ ∀ j, k ≤ j → j < k + u → nI (s (11 + 4 * r + j)) = nI (a (11 + 4 * r + j)) := by
  intro u
  induction u with
  | zero => intro k b; rw [agIn]; exact ⟨fun h => ⟨h, fun j h1 h2 => absurd h2 (by omega)⟩, fun h => h.1⟩
  | succ u ih =>
    intro k b
    rw [agIn, ih]
    constructor
    · rintro ⟨h1, h2⟩
      split at h1
      · rename_i hb
        split at h1
        · rename_i he
          refine ⟨hb, fun j h3 h4 => ?_⟩
          by_cases hj : j = k
          · subst hj; exact he
          · exact h2 j (by omega) (by omega)
        · cases h1
      · cases h1
    · rintro ⟨h1, h2⟩
      refine ⟨?_, fun j h3 h4 => h2 j (by omega) (by omega)⟩
      rw [if_pos h1, if_pos (h2 k (Nat.le_refl _) (by omega))]
theorem agEnd_iff (s a : Nat → Nat) (b sl : Bool) : agEnd s a b sl = true ↔ b = true ∧ (sl = false ∨ (nI (s 0) - nI (a 0)) % 2 = 0) := by
  unfold agEnd
  cases b
  · exact ⟨fun z => (by cases z), fun z => (by cases z.1)⟩
  · rw [if_pos rfl]
    cases sl
    · rw [if_neg (by decide)]; exact ⟨fun _ => ⟨rfl, Or.inl rfl⟩, fun _ => rfl⟩
    · rw [if_pos rfl]
      by_cases hz : (nI (s 0) - nI (a 0)) % 2 = 0
      · rw [if_pos hz]; exact ⟨fun _ => ⟨rfl, Or.inr hz⟩, fun _ => rfl⟩
      · rw [if_neg hz]; exact ⟨fun z => (by cases z), fun z => z.2.elim (fun q => (by cases q)) (fun q => absurd q hz)⟩
theorem agOut_iff (t s a : Nat → Nat) : ∀ (u r : Nat) (b sl : Bool), agOut t s a u r b sl = true ↔ (b = true ∧ ∀ x, r ≤ x → x < r + u → nI (s (5 + x)) = nI (a (5 + x)) ∧ ∀ k, k < s (8 + x) → nI (s (11 + 4 * x + k)) = nI (a (11 + 4 * x + k))) ∧ ((sl = false ∧ ∀ x, r ≤ x → x < r + u → ¬ nI (t (75 + x)) = 2) ∨ (nI (s 0) - nI (a 0)) % 2 = 0) := by
  intro u
  induction u with
  | zero =>
    intro r b sl
    rw [agOut, agEnd_iff]
    exact ⟨fun h => ⟨⟨h.1, fun x h1 h2 => absurd h2 (by omega)⟩, h.2.imp (fun z => ⟨z, fun x h1 h2 => absurd h2 (by omega)⟩) id⟩, fun h => ⟨h.1.1, h.2.imp (fun z => z.1) id⟩⟩
  | succ u ih =>
    intro r b sl
    rw [agOut, ih, agIn_iff]
    have split_ : ∀ (Pp : Nat → Prop), ((∀ x, r ≤ x → x < r + (u + 1) → Pp x) ↔ Pp r ∧ ∀ x, r + 1 ≤ x → x < r + 1 + u → Pp x) := fun Pp => ⟨fun z => ⟨z r (Nat.le_refl _) (by omega), fun x h1 h2 => z x (by omega) (by omega)⟩, fun z x h1 h2 => by
      by_cases hx : x = r
      · subst hx; exact z.1
      · exact z.2 x (by omega) (by omega)⟩
    rw [split_ (fun x => nI (s (5 + x)) = nI (a (5 + x)) ∧ ∀ k, k < s (8 + x) → nI (s (11 + 4 * x + k)) = nI (a (11 + 4 * x + k))), split_ (fun x => ¬ nI (t (75 + x)) = 2)]
    constructor
    · rintro ⟨⟨⟨g1, g2⟩, g3⟩, g4⟩
      split at g1
      · rename_i hb
        split at g1
        · rename_i he
          refine ⟨⟨hb, ⟨he, fun k hk => g2 k (Nat.zero_le _) (by omega)⟩, g3⟩, ?_⟩
          rcases g4 with ⟨g5, g6⟩ | g5
          · split at g5
            · cases g5
            · rename_i hs
              split at g5
              · cases g5
              · rename_i hk
                exact Or.inl ⟨by cases sl; rfl; exact absurd rfl hs, hk, g6⟩
          · exact Or.inr g5
        · cases g1
      · cases g1
    · rintro ⟨⟨g1, ⟨g2, g3⟩, g4⟩, g5⟩
      refine ⟨⟨⟨by rw [if_pos g1, if_pos g2], fun k _ hk => g3 k (by omega)⟩, g4⟩, ?_⟩
      rcases g5 with ⟨g6, g7, g8⟩ | g6
      · exact Or.inl ⟨by rw [if_neg (by rw [g6]; decide), if_neg g7], g8⟩
      · exact Or.inr g6
theorem again_at {t s s0 : Nat → Nat} (h : Sn t s) (h0 : Sn t s0) {o o0 : OV} (hP : RP t s o) (hP0 : RP t s0 o0) (hsz : ∀ q, q < 3 → s (8 + q) = s0 (8 + q)) {A : Nat → Nat} (hA : ∀ j, j < 59 → A j = s0 j) : standsAsC o o0 = agaM t s A := by
  have o1 := h.1.1
  obtain ⟨p1, p2, p3, p4, p5, p6⟩ := hP
  obtain ⟨q1, q2, q3, q4, q5, q6⟩ := hP0
  rw [Bool.eq_iff_iff]
  unfold standsAsC agaM
  rw [p1, sa_iff o1 _ _ _ _ 3 0 false rfl, agOut_iff, p2, q2, hA 0 (by omega)]
  have key : ∀ x, x < t 2 → (asRow (o.2.2.2.2.2.2.2 x) (o0.2.2.2.2.2.2.2 x) = true ↔ nI (s (5 + x)) = nI (A (5 + x)) ∧ ∀ k, k < s (8 + x) → nI (s (11 + 4 * x + k)) = nI (A (11 + 4 * x + k))) := by
    intro x hx
    obtain ⟨r1, r2, r3, r4, r5⟩ := p6 x hx
    obtain ⟨z1, z2, z3, z4, z5⟩ := q6 x hx
    have o5 := h.1.2.2.2.2.1 x (by omega)
    have es := hsz x (by omega)
    rw [asRow_iff o5 r1, r3, z3, z1, hA _ (by omega)]
    constructor
    · rintro ⟨a1, _, a3⟩
      refine ⟨a1, fun k hk => ?_⟩
      have := a3 k hk
      rw [r5 k hk, z5 k (by omega)] at this
      rw [hA _ (by omega)]; exact this
    · rintro ⟨a1, a3⟩
      refine ⟨a1, by rw [es], fun k hk => ?_⟩
      have := a3 k hk
      rw [hA _ (by omega)] at this
      rw [r5 k hk, z5 k (by omega)]; exact this
  have key2 : ∀ x, x < t 2 → ((o.2.2.2.2.2.2.2 x).2.1 = 2 ↔ nI (t (75 + x)) = 2) := fun x hx => by rw [(p6 x hx).2.1]
  constructor
  · rintro ⟨a1, a2⟩
    refine ⟨⟨rfl, fun x _ hx => (key x (by omega)).mp (a1 x (Nat.zero_le _) (by omega))⟩, ?_⟩
    rcases a2 with ⟨_, a2⟩ | a2
    · exact Or.inl ⟨rfl, fun x _ hx z => a2 x (Nat.zero_le _) (by omega) ((key2 x (by omega)).mpr z)⟩
    · exact Or.inr a2
  · rintro ⟨⟨_, a1⟩, a2⟩
    refine ⟨fun x _ hx => (key x hx).mpr (a1 x (Nat.zero_le _) (by omega)), ?_⟩
    rcases a2 with ⟨_, a2⟩ | a2
    · exact Or.inl ⟨rfl, fun x _ hx z => a2 x (Nat.zero_le _) (by omega) ((key2 x hx).mp z)⟩
    · exact Or.inr a2
theorem aga_eq {t s0 : Nat → Nat} {L : LV} (hL : RLd L t) (h0 : Sn t s0) {o0 : OV} (hP0 : RP t s0 o0) {A : Nat → Nat} (hA : ∀ j, j < 59 → A j = s0 j) : ∀ (q k : Nat) (s : Nat → Nat) (o : OV), Sn t s → RP t s o → (∀ x, x < 3 → s (8 + x) = s0 (8 + x)) → s 0 + q < 2 ^ 31 → (agaFrom L o0 q k o).1 = agN t A q k (passM t s (-1)) := by
  intro q
  induction q with
  | zero => intro k s o _ _ _ _; rfl
  | succ q ih =>
    intro k s o h hP hz hy
    obtain ⟨g1, g2, g3, g4⟩ := yr_P h hL hP (by omega)
    have hz' : ∀ x, x < 3 → passM t s (-1) (8 + x) = s0 (8 + x) := fun x hx => (g4 x hx).trans (hz x hx)
    rw [agaFrom, agN, again_at g1 h0 g2 hP0 hz' hA]
    by_cases hx : agaM t (passM t s (-1)) A = true
    · rw [if_pos hx, if_pos hx]
    · rw [if_neg hx, if_neg hx]
      exact ih (k + 1) _ _ g1 g2 hz' (by omega)
theorem again_eq {C : CS} {t s : Nat → Nat} (hI : RQ (cL C 0) (cO C 0) t s) (a : OV) (A : Nat → Nat) : (againC C a).1 = agN t (cpN A s 59) 200 1 (passM t s (-1)) := by
  obtain ⟨h, hL, hP, hw, hy, h2⟩ := hI
  exact aga_eq hL h hP (cpN_at A s) 200 1 s _ h (copy_P h hP a).1 (fun _ _ => rfl) (by omega)
/- what a ditch changes -/
theorem ctn_is {F : Int64} {y : Int32} (h : ctn F y = true) : ∃ j : Nat, j < 36 ∧ y = nI j := by
  unfold ctn at h
  split at h
  · cases h
  · rename_i h0
    split at h
    · cases h
    · rename_i h1
      obtain ⟨j, hj, rfl⟩ := nI_of h0
      refine ⟨j, ?_, rfl⟩
      rcases Nat.lt_or_ge j 36 with q | q
      · exact q
      · exact absurd (nI_le (a := 36) q hj) h1
theorem ctn_dit (F Hd Br di ta : Int64) (kd y : Int32) {c : Nat} (hc : c < 36) : ctn (openC F Hd Br (di ||| bitC (nI c)) ta kd) y = true ↔ ctn (openC F Hd Br di ta kd) y = true ∧ ¬ y = nI c := by
  have key : ∀ j, j < 36 → (ctn (openC F Hd Br (di ||| bitC (nI c)) ta kd) (nI j) = true ↔ ctn (openC F Hd Br di ta kd) (nI j) = true ∧ ¬ nI j = nI c) := by
    intro j hj
    rw [ctn_gb _ hj, ctn_gb _ hj, openC_iff, openC_iff, gb_or1 _ hc, nI_eq (by omega) (by omega)]
    simp only [Bool.or_eq_false_iff, decide_eq_false_iff_not]
    constructor
    · rintro ⟨a1, ⟨a2, a3⟩, a4⟩; exact ⟨⟨a1, a2, a4⟩, a3⟩
    · rintro ⟨⟨a1, a2, a4⟩, a3⟩; exact ⟨a1, ⟨a2, a3⟩, a4⟩
  constructor
  · intro h
    obtain ⟨j, hj, rfl⟩ := ctn_is h
    exact (key j hj).mp h
  · rintro ⟨h, h2⟩
    obtain ⟨j, hj, rfl⟩ := ctn_is h
    exact (key j hj).mpr ⟨h, h2⟩
theorem nx_m4 (li wi x : Int32) : nextC li wi x (-4) = -4 := by
  unfold nextC
  split
  · rfl
  · split
    · rfl
    · split
      · rfl
      · rw [if_neg (by decide)]
theorem way2_dit {li wi fst d1 d2 d3 : Int32} {op op' : Int64} {c : Nat} (hop : ∀ y, ctn op' y = true ↔ ctn op y = true ∧ ¬ y = nI c) (hn : wayC2 li wi op fst d1 d2 d3 = -4 ∨ ¬ nextC li wi fst (wayC2 li wi op fst d1 d2 d3) = nI c) : wayC2 li wi op' fst d1 d2 d3 = wayC2 li wi op fst d1 d2 d3 := by
  have key : ∀ d, ctn op (nextC li wi fst d) = true → (d = -4 ∨ ¬ nextC li wi fst d = nI c) → ctn op' (nextC li wi fst d) = true := by
    intro d h1 h2
    refine (hop _).mpr ⟨h1, ?_⟩
    rcases h2 with h2 | h2
    · rw [h2, nx_m4, ctn_no] at h1; cases h1
    · exact h2
  have no : ∀ d, ¬ ctn op (nextC li wi fst d) = true → ¬ ctn op' (nextC li wi fst d) = true := fun d h1 h2 => h1 ((hop _).mp h2).1
  unfold wayC2 at hn ⊢
  by_cases a1 : ctn op (nextC li wi fst d1) = true
  · rw [if_pos a1] at hn
    rw [if_pos a1, if_pos (key d1 a1 hn)]
  · rw [if_neg a1] at hn
    rw [if_neg a1, if_neg (no d1 a1)]
    by_cases a2 : ctn op (nextC li wi fst d2) = true
    · rw [if_pos a2] at hn
      rw [if_pos a2, if_pos (key d2 a2 hn)]
    · rw [if_neg a2] at hn
      rw [if_neg a2, if_neg (no d2 a2)]
      by_cases a3 : ctn op (nextC li wi fst d3) = true
      · rw [if_pos a3] at hn
        rw [if_pos a3, if_pos (key d3 a3 hn)]
      · rw [if_neg a3, if_neg (no d3 a3)]
theorem way_dit (F Hd Br : Int64) (li wi : Int32) (di ta : Int64) (yr kd hd fst : Int32) {c : Nat} (hc : c < 36) (hn : wayC F Hd Br li wi di ta yr kd hd fst = -4 ∨ ¬ nextC li wi fst (wayC F Hd Br li wi di ta yr kd hd fst) = nI c) : wayC F Hd Br li wi (di ||| bitC (nI c)) ta yr kd hd fst = wayC F Hd Br li wi di ta yr kd hd fst := by
  unfold wayC at hn ⊢
  by_cases a0 : kd = 2 ∧ ¬ yr % 2 = 0
  · rw [if_pos a0, if_pos a0]
  · rw [if_neg a0] at hn
    rw [if_neg a0, if_neg a0]
    exact way2_dit (fun y => ctn_dit F Hd Br di ta kd y hc) hn
/-- the cells into which first trees went -/
abbrev enO (o : OV) : Int64 := o.2.2.2.2.2.1
theorem goRow_en (L : LV) (o : OV) (r j : Nat) (h : gb (enO o) j = true) : gb (enO (goRowC L o r)) j = true := by
  rw [goRowC_eq]
  unfold goRowF
  split
  · exact h
  · show gb (_ ||| _) j = true
    rw [gb_or, h, Bool.true_or]
theorem goRow_dit (L : LV) (o : OV) (r : Nat) {c : Nat} (hc : c < 36) (h : gb (enO (goRowC L o r)) c = false) : goRowC L (orDit o (bitC (nI c))) r = orDit (goRowC L o r) (bitC (nI c)) := by
  have hw := way_dit L.1 L.2.1 L.2.2.1 L.2.2.2.1 L.2.2.2.2.1 o.2.2.1 o.2.2.2.2.1 o.2.1 (o.2.2.2.2.2.2.2 r).2.1 (o.2.2.2.2.2.2.2 r).2.2.1 ((o.2.2.2.2.2.2.2 r).2.2.2.2 0) hc (by
    rw [goRowC_eq] at h
    unfold goRowF at h
    split at h
    · rename_i q; exact Or.inl q
    · right
      intro z
      rw [z] at h
      have h' : gb (o.2.2.2.2.2.1 ||| bitC (nI c)) c = false := h
      rw [gb_or, gb_bit hc] at h'
      simp at h')
  rw [goRowC_eq, goRowC_eq]
  unfold goRowF
  show (if wayC L.1 L.2.1 L.2.2.1 L.2.2.2.1 L.2.2.2.2.1 (o.2.2.1 ||| bitC (nI c)) o.2.2.2.2.1 o.2.1 (o.2.2.2.2.2.2.2 r).2.1 (o.2.2.2.2.2.2.2 r).2.2.1 ((o.2.2.2.2.2.2.2 r).2.2.2.2 0) = -4 then _ else _) = _
  unfold orDit at *
  dsimp only
  rw [hw]
  split <;> rfl
theorem gy_en (L : LV) (s : Int32) (j : Nat) : ∀ (q r : Nat) (o : OV), gb (enO o) j = true → gb (enO (gyFrom L s q r o)) j = true := by
  intro q
  induction q with
  | zero => intro r o h; exact h
  | succ q ih =>
    intro r o h
    rw [gyFrom]
    split
    · exact h
    · refine ih (r + 1) _ ?_
      split
      · exact h
      · exact goRow_en L o r j h
theorem gb_nf {x : Bool} (h : ¬ x = true) : x = false := by cases x; rfl; exact absurd rfl h
theorem gy_dit (L : LV) (s : Int32) {c : Nat} (hc : c < 36) : ∀ (q r : Nat) (o : OV), gb (enO (gyFrom L s q r o)) c = false → gyFrom L s q r (orDit o (bitC (nI c))) = orDit (gyFrom L s q r o) (bitC (nI c)) := by
  intro q
  induction q with
  | zero => intro r o _; rfl
  | succ q ih =>
    intro r o h
    rw [gyFrom] at h
    rw [gyFrom, gyFrom]
    by_cases h1 : o.1 ≤ nI r
    · rw [if_pos (show (orDit o (bitC (nI c))).1 ≤ nI r from h1), if_pos h1]; rfl
    · rw [if_neg h1] at h
      rw [if_neg (show ¬ (orDit o (bitC (nI c))).1 ≤ nI r from h1), if_neg h1]
      by_cases h2 : nI r = s
      · rw [if_pos h2] at h
        rw [if_pos h2, if_pos h2]
        exact ih (r + 1) o h
      · rw [if_neg h2] at h
        rw [if_neg h2, if_neg h2]
        have h3 : gb (enO (goRowC L o r)) c = false := gb_nf (fun z => by rw [gy_en L s c q (r + 1) _ z] at h; cases h)
        rw [goRow_dit L o r hc h3]
        exact ih (r + 1) _ h
theorem ys_en (L : LV) (s : Int32) (j : Nat) : ∀ (m : Nat) (o : OV), gb (enO o) j = true → gb (enO (goYs L s m o)) j = true := by
  intro m
  induction m with
  | zero => intro o h; exact h
  | succ m ih => intro o h; exact ih _ (gy_en L s j 3 0 o h)
/-- a ditch where no row goes changes nothing -/
theorem ys_dit (L : LV) (s : Int32) {c : Nat} (hc : c < 36) : ∀ (m : Nat) (o : OV), gb (enO (goYs L s m o)) c = false → goYs L s m (orDit o (bitC (nI c))) = orDit (goYs L s m o) (bitC (nI c)) := by
  intro m
  induction m with
  | zero => intro o _; rfl
  | succ m ih =>
    intro o h
    rw [goYs] at h
    rw [goYs, goYs]
    have h3 : gb (enO (goYearC L s o)) c = false := gb_nf (fun z => by rw [ys_en L s c m _ z] at h; cases h)
    unfold goYearC at h3 h ⊢
    rw [gy_dit L s hc 3 0 o h3]
    exact ih _ h
theorem orDit_2 (o : OV) (d e : Int64) : orDit (orDit o d) e = orDit o (d ||| e) := by
  unfold orDit
  have z : o.2.2.1 ||| d ||| e = o.2.2.1 ||| (d ||| e) := gb_ext (fun j => by simp only [gb_or, Bool.or_assoc])
  rw [z]
