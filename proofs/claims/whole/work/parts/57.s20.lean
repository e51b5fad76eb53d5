/-! BOTH SIDES: items, a whole text; what is told of a text, and what is laid -/
def DRX (L : LV) (O : OV) (t s : Nat → Nat) : Prop := DR L O t s ∧ (L.2.2.2.1 = 0 ∨ 1 ≤ t 1)
theorem giv_li (told : Int32) (nums : Nat → Int32) (L : LV) : (giveCs told nums L).2.2.2.2.1 = L.2.2.2.1 := by
  unfold giveCs
  split <;> rfl
theorem DI_OkW {t s : Nat → Nat} (h : DI1 t s) : OkW t s := by
  obtain ⟨i1, i2, i3, i4, i5, i6, i7, i8, i9, i10, i11, i12, i13⟩ := h
  refine ⟨i2, i3, i1, i5, fun j hj => ?_, i4, i13⟩
  have := i6 (j / 4) (by omega) (j % 4) (by omega)
  rw [show 11 + 4 * (j / 4) + j % 4 = 11 + j by omega] at this
  exact this
section S20
variable {K : Nat} {le : Nat → Int32} {D : MS} {p : Nat} {dr be : Nat → Nat}
theorem it_eq (h : TxK K le D) (hp : p < D.1.1) (s : RS) (es : s.2.1 = nI p) (hX : DRX s.2.2.2.1 s.2.2.2.2 dr be) : (rdItem K le (nI D.1.1) s).1 = (riM D p dr be).1 ∧ ((riM D p dr be).1 = true → (rdItem K le (nI D.1.1) s).2.2.1 = nI (riM D p dr be).2.1 ∧ DRX (rdItem K le (nI D.1.1) s).2.2.2.2.1 (rdItem K le (nI D.1.1) s).2.2.2.2.2 (riM D p dr be).2.2.1 (riM D p dr be).2.2.2) := by
  obtain ⟨hD, h1⟩ := hX
  have hh := h.1
  have hh2 := h.2.1
  unfold rdItem riM
  rw [es, nlV_yes h hp, nlA_yes h hp]
  by_cases a1 : nI (D.2 0 p) = 108
  · rw [if_pos a1, if_pos a1]
    obtain ⟨g1, g2⟩ := ln_item h (by omega) hD h1 (p := p + 1)
    exact ⟨g1, fun z => ⟨(g2 z).1, (g2 z).2.1, Or.inr (g2 z).2.2⟩⟩
  · rw [if_neg a1, if_neg a1]
    by_cases a2 : nI (D.2 0 p) = 111
    · rw [if_pos a2, if_pos a2]
      obtain ⟨g1, g2⟩ := ow_item h (by omega) hD s.2.2.1 (p := p + 1)
      dsimp only
      by_cases zt : (rdNums K le (nI D.1.1) (nI (p + 1)) s.2.2.1).1 = false
      · rw [if_pos zt] at g1 ⊢
        refine ⟨g1, fun z => ?_⟩
        rw [← g1] at z
        exact Bool.noConfusion z
      · rw [if_neg zt] at g1 ⊢
        refine ⟨g1, fun z => ?_⟩
        obtain ⟨b1, b2, b3⟩ := g2 z
        refine ⟨b2, b3, ?_⟩
        rw [(roM_ok z).1 1 (by omega)]
        dsimp only
        rw [giv_li]
        exact h1
    · rw [if_neg a2, if_neg a2]
      by_cases a3 : nI (D.2 0 p) = 116
      · rw [if_pos a3, if_pos a3]
        obtain ⟨g1, g2⟩ := tw_item h (by omega) hD s.2.2.1 (p := p + 1)
        unfold rdNums
        by_cases zt : (rnFrom K le (nI D.1.1) 7 0 0 (nI (p + 1)) s.2.2.1).1 = false
        · rw [if_pos zt] at g1 ⊢
          refine ⟨g1, fun z => ?_⟩
          rw [← g1] at z
          exact Bool.noConfusion z
        · rw [if_neg zt] at g1 ⊢
          refine ⟨g1, fun z => ?_⟩
          obtain ⟨b1, b2, b3⟩ := g2 z
          refine ⟨b2, b3, ?_⟩
          have w := rw_tt h (by omega) z
          have d3 := hD.1.1.1
          rw [rw_yes h (by omega) w]
          dsimp only
          rw [(rowD_at dr _ _ (by have := w.2.2.2.2.2.2; omega)).2.1]
          exact h1
      · rw [if_neg a3, if_neg a3]
        exact ⟨rfl, fun z => Bool.noConfusion z⟩
theorem rt_eq (h : TxK K le D) : ∀ (q p : Nat) (s : RS) (dr be : Nat → Nat), D.1.1 ≤ p + q → p < 400 → s.2.1 = nI p → DRX s.2.2.2.1 s.2.2.2.2 dr be → (rtFrom K le (nI D.1.1) q s).1 = (raM D (q + 1) p dr be).1 ∧ ((raM D (q + 1) p dr be).1 = -4 → DRX (rtFrom K le (nI D.1.1) q s).2.2.2.2.1 (rtFrom K le (nI D.1.1) q s).2.2.2.2.2 (raM D (q + 1) p dr be).2.2.1 (raM D (q + 1) p dr be).2.2.2) := by
  intro q
  induction q with
  | zero =>
    intro p s dr be hq hp es hX
    rw [raM, if_pos (by omega), rtFrom]
    exact ⟨rfl, fun _ => hX⟩
  | succ q ih =>
    intro p s dr be hq hp es hX
    have hh := h.1
    have hh2 := h.2.1
    rw [raM, rtFrom, es]
    by_cases a1 : D.1.1 ≤ p
    · rw [if_pos a1, if_pos (nI_le a1 (by omega))]
      exact ⟨rfl, fun _ => hX⟩
    · rw [if_neg a1, if_neg (nI_ge (by omega) (by omega))]
      obtain ⟨g1, g2⟩ := it_eq h (by omega) s es hX
      rw [g1]
      by_cases zt : (riM D p dr be).1 = true
      · rw [if_pos zt, if_pos zt]
        obtain ⟨b1, b2⟩ := g2 zt
        obtain ⟨-, o1, o2⟩ := riM_ok (DI_OkW hX.1.1.1) zt
        exact ih _ _ _ _ (by omega) (by omega) b1 b2
      · rw [if_neg zt, if_neg zt]
        exact ⟨rfl, fun z => absurd z (nI_not4 (by omega))⟩
end S20
theorem start_DR (L : LV) (O : OV) (f g : Nat → Nat) : DRX (clrLand L) (clearOC O) (zrM 81 f) (zrM 59 g) := by
  have e : ∀ j, j < 81 → zrM 81 f j = 0 := fun j hj => by unfold zrM; rw [if_pos hj]
  have e2 : ∀ j, j < 59 → zrM 59 g j = 0 := fun j hj => by unfold zrM; rw [if_pos hj]
  have e0 := e 0 (by omega)
  have e1 := e 1 (by omega)
  have e22 := e 2 (by omega)
  refine ⟨⟨⟨⟨by omega, by omega, by omega, fun h => by omega, fun r hr => by rw [e2 _ (by omega)]; omega, fun r hr k hk => by rw [e2 _ (by omega)]; omega, fun i hi => by rw [e _ (by omega)]; omega, fun r hr => by rw [e2 _ (by omega)]; omega, fun r hr => by omega, fun j hj => e2 _ (by omega), fun c hc => e2 _ (by omega), fun r q k m hr => by omega, fun r h1 h2 => e2 _ (by omega)⟩, fun r hr => by omega⟩, ⟨⟨0, by omega, rfl, by rw [e0, Nat.zero_mul]⟩, by rw [e1]; rfl, fun j => ?_, fun j => ?_, fun j => ?_, fun c hc => ?_, fun c hc => by omega, fun r hr => ⟨by rw [e _ (by omega)]; omega, by rw [e _ (by omega)]; omega⟩⟩, ⟨by rw [e22]; rfl, by rw [e2 0 (by omega)]; rfl, fun j => ?_, fun j => ?_, fun j => ?_, fun r hr => by omega⟩, fun p hp => ?_⟩, Or.inl rfl⟩
  · exact ⟨fun z => absurd ((gb_0 j).symm.trans z) (by decide), fun z => by have := z.1; omega⟩
  · exact ⟨fun z => absurd ((gb_0 j).symm.trans z) (by decide), fun z => by have := z.1; omega⟩
  · exact ⟨fun z => absurd ((gb_0 j).symm.trans z) (by decide), fun z => by have := z.1; omega⟩
  · show cpTo 36 L.2.2.2.2.2 (fun _ => 0) c = _
    unfold cpTo
    rw [if_pos hc, e _ (by omega)]
    rfl
  · exact ⟨fun z => absurd ((gb_0 j).symm.trans z) (by decide), fun z => by have := z.2; rw [e2 _ (by omega)] at this; omega⟩
  · exact ⟨fun z => absurd ((gb_0 j).symm.trans z) (by decide), fun z => by have := z.2; rw [e2 _ (by omega)] at this; omega⟩
  · refine ⟨fun z => absurd ((gb_0 j).symm.trans z) (by decide), fun z => ?_⟩
    rcases z.2 with y | ⟨r, y, -⟩
    · rw [e2 _ (by omega)] at y; omega
    · omega
  · rw [e2 _ (by omega)]
    rcases (show p = 0 ∨ p = 1 ∨ p = 2 ∨ p = 3 by omega) with y | y | y | y <;> subst y <;> rfl
theorem tx_K {C : CS} {D : MS} (h : TxR C D.1.1 (D.2 0)) : TxK 200 (cA C 0) D := ⟨h.2.1, Nat.le_refl _, fun k hk => h.2.2.1 k hk⟩
theorem min_T {m : Nat} {K : Nat} (h : m ≤ K) (hK : K ≤ 200) : minC (nI m) (nI K) = nI m := by
  unfold minC
  by_cases y : nI K < nI m
  · exact absurd y (nI_nlt h (by omega))
  · rw [if_neg y]
theorem rt_run {C : CS} {D : MS} (h : TxR C D.1.1 (D.2 0)) : (rtRun 200 (cA C 0) (cW C).1 C).1 = (raR D).1 ∧ ((raR D).1 = -4 → DRX (rtRun 200 (cA C 0) (cW C).1 C).2.2.2.2.1 (rtRun 200 (cA C 0) (cW C).1 C).2.2.2.2.2 (raR D).2.2.1 (raR D).2.2.2) := by
  unfold rtRun raR
  rw [h.1, min_T h.2.1 (by omega)]
  exact rt_eq (tx_K h) 200 0 ((cR C).1, 0, cA C 5, clrLand (cL C 1), clearOC (cO C 2)) _ _ (by have := h.2.1; omega) (by omega) rfl (start_DR _ _ _ _)
theorem fault_all {C : CS} {D : MS} {n : Nat} (h : Inv C D n) : (rtRun 200 (cA C 0) (cW C).1 C).1 = (raR D).1 ∧ Inv (faultS C) (rdU D) (n + 1) := by
  refine ⟨(rt_run h.2.2.1).1, Inv_D (D := D) (Inv_same h rfl (fun k hk => ?_) ?_ (fun i hi h1 h2 => ?_) rfl rfl) rfl rfl rfl rfl (fun k hk => ?_)⟩
  · exact cA_sA_ne _ _ (by omega)
  · show va_up (cL C) 1 (rtRun 200 (cA C 0) (cW C).1 C).2.2.2.2.1 0 = cL C 0
    exact va_up_ne _ _ (by decide)
  · exact cO_sO_ne _ _ h2
  · show va_up (va_up D.2 2 _) 3 _ k = D.2 k
    rw [va_up_ne _ _ (by omega), va_up_ne _ _ (by omega)]
theorem Sn_81 {t t' s : Nat → Nat} (e : ∀ j, j < 81 → t' j = t j) (h : Sn t s) : Sn t' s := by
  obtain ⟨⟨o1, o2, o3, o4, o5, o6, o7, o8, o9, o10, o11⟩, h2, h3, h4, h5, h6⟩ := h
  have e0 := e 0 (by omega)
  have e1 := e 1 (by omega)
  have e2 := e 2 (by omega)
  exact ⟨⟨by rw [e2]; exact o1, by rw [e0]; exact o2, by rw [e1]; exact o3, by rw [e1]; exact o4, o5, o6, fun i hi => by rw [e _ (by omega)]; exact o7 i hi, o8, by rw [e2]; exact o9, by rw [e2, e0]; exact o10, by rw [e0, e1]; exact o11⟩, h2, by rw [e0]; exact h3, by rw [e2]; exact h4, by rw [e2]; exact h5, by rw [e2]; exact h6⟩
theorem RLd_81 {t t' : Nat → Nat} {L : LV} (e : ∀ j, j < 81 → t' j = t j) (h0 : t 0 ≤ 36) (h : RLd L t) : RLd L t' := by
  obtain ⟨⟨ln, l1, l2, l3⟩, l4, l5, l6, l7, l8, l9, l10⟩ := h
  have e0 := e 0 (by omega)
  have e1 := e 1 (by omega)
  have go : ∀ (x : Int64) (v : Nat), (∀ j, gb x j = true ↔ j < t 0 ∧ t (3 + j) = v) → ∀ j, gb x j = true ↔ j < t' 0 ∧ t' (3 + j) = v := fun x v hx j => by
    rw [e0, hx j]
    constructor
    · rintro ⟨y, w⟩
      exact ⟨y, by rw [e _ (by omega)]; exact w⟩
    · rintro ⟨y, w⟩
      exact ⟨y, by rw [← e (3 + j) (by omega)]; exact w⟩
  refine ⟨⟨ln, l1, l2, by rw [e0, e1]; exact l3⟩, by rw [e1]; exact l4, go _ _ l5, go _ _ l6, go _ _ l7, fun c hc => by rw [e _ (by omega)]; exact l8 c hc, fun c hc => ?_, fun r hr => by rw [e _ (by omega), e _ (by omega)]; exact l10 r hr⟩
  rw [e0] at hc
  rw [e _ (by omega)]; exact l9 c hc
theorem RQ_81 {L : LV} {o : OV} {t t' s : Nat → Nat} (e : ∀ j, j < 81 → t' j = t j) (h : RQ L o t s) : RQ L o t' s := by
  obtain ⟨h1, h2, h3, h4, h5, h6, h7⟩ := h
  exact ⟨Sn_81 e h1, RLd_81 e h1.1.2.1 h2, RP_t (e 2 (by omega)) (fun r hr => e _ (by omega)) (fun r hr => e _ (by omega)) h1.1.1 h3, h4, h5, by rw [e 2 (by omega)]; exact h6, h7⟩
/-- a draft with rows is an orchard at its start -/
theorem DR_RQ {L : LV} {o : OV} {t s : Nat → Nat} (h : DR L o t s) (h2 : 0 < t 2) : RQ L o t s := by
  obtain ⟨⟨⟨i1, i2, i3, i4, i5, i6, i7, i8, i9, i10, i11, i12, i13⟩, hS⟩, hL, hP, hW⟩ := h
  have w := i9 0 h2 0 (by have := hS 0 h2; omega)
  obtain ⟨⟨ln, l1, l2, l3⟩, -⟩ := id hL
  refine ⟨⟨⟨i1, i2, i4 (by omega), i3, i5, i6, i7, i8, hS, i9, by rw [l3]; exact Nat.mul_mod_left _ _⟩, fun c hc => by rw [i11 c hc]; omega, fun c _ hc => i11 c hc, i12, fun r k hr hk => ?_, i13⟩, hL, hP, hW, by rw [i10 0 (by omega)]; omega, h2, fun p hp => by rw [i10 _ (by omega)]; omega⟩
  exact i11 _ (i6 r (by omega) k (by have := i5 r (by omega); omega))
theorem RLd_cp {L : LV} {t : Nat → Nat} (h : RLd L t) (a : LV) : RLd (cpLand a L) t := by
  obtain ⟨l1, l4, l5, l6, l7, l8, l9, l10⟩ := h
  refine ⟨l1, l4, l5, l6, l7, fun c hc => ?_, l9, l10⟩
  show cpTo 36 a.2.2.2.2.2 L.2.2.2.2.2 c = _
  unfold cpTo
  rw [if_pos hc]
  exact l8 c hc
theorem lay_all {C : CS} {D : MS} {n : Nat} (h : Inv C D n) : (layC C).1 = (layQ D).1 ∧ Inv (layC C).2 (layQ D).2 (n + 1) := by
  obtain ⟨f1, f2⟩ := fault_all h
  obtain ⟨r1, r2⟩ := rt_run h.2.2.1
  unfold layC layQ
  rw [f1]
  by_cases a1 : (raR D).1 = -4
  · rw [if_pos a1, if_neg (show ¬ ¬ (raR D).1 = -4 from fun z => z a1)]
    have hX := (r2 a1).1
    have eL : cL (faultS C) 1 = (rtRun 200 (cA C 0) (cW C).1 C).2.2.2.2.1 := show va_up (cL C) 1 (rtRun 200 (cA C 0) (cW C).1 C).2.2.2.2.1 1 = _ from va_up_self _ _ _
    have eO : cO (faultS C) 2 = (rtRun 200 (cA C 0) (cW C).1 C).2.2.2.2.2 := cO_sO _ 2 _
    rw [← eL, ← eO] at hX
    have eo1 := hX.2.2.1.1
    have d2 := hX.1.1.1
    by_cases a2 : (raR D).2.2.1 2 = 0
    · rw [if_pos (show (cO (faultS C) 2).1 = 0 by rw [eo1, a2]; rfl), if_pos (show nI ((raR D).2.2.1 2) = 0 by rw [a2]; rfl)]
      exact ⟨rfl, f2⟩
    · rw [if_neg (show ¬ (cO (faultS C) 2).1 = 0 by rw [eo1]; exact nI_ne0 (by omega) (by omega)), if_neg (nI_ne0 (by omega) (by omega))]
      have e0 : cO (layS C) 0 = copyC (cO (layS1 C) 0) (cO (faultS C) 2) := cO_sO (layS1 C) 0 _
      have eL0 : cL (layS C) 0 = cpLand (cL (faultS C) 0) (cL (faultS C) 1) := cL_sL (faultS C) 0 _
      have hQ := DR_RQ hX (by omega)
      obtain ⟨q1, q2, q3, q4, q5, q6, q7⟩ := hQ
      obtain ⟨k1, k2⟩ := copy_P q1 q3 (cO (layS1 C) 0)
      have hR : RQ (cL (layS C) 0) (cO (layS C) 0) (raR D).2.2.1 (raR D).2.2.2 := by
        rw [e0, eL0]
        exact ⟨q1, RLd_cp q2 _, k1, k2 q4, q5, q6, q7⟩
      have hT : RQ (cL (layS C) 0) (cO (layS C) 0) (cpN (D.2 1) (raR D).2.2.1 81) (cpN (D.2 4) (raR D).2.2.2 59) := RQ_59 (s := (raR D).2.2.2) (fun j hj => by unfold cpN; rw [if_pos hj]) (RQ_81 (t := (raR D).2.2.1) (fun j hj => by unfold cpN; rw [if_pos hj]) hR)
      obtain ⟨-, g2, g3, ⟨pm, ⟨⟨v1, v2, v3, v4⟩, v5, v6, v7⟩⟩, ⟨⟨u1, u2, u3, u4⟩, u5⟩⟩ := h
      refine ⟨by rw [e0]; exact eo1, ⟨hT, ?_⟩, ⟨rfl, by show (0 : Nat) ≤ 6; omega, fun i hi => absurd hi (Nat.not_lt_zero _)⟩, ?_, ⟨pm, ⟨⟨?_, Nat.zero_le _, v3, v4⟩, v5, v6, fun i hi => absurd hi (Nat.not_lt_zero _)⟩⟩, ⟨⟨?_, Nat.zero_le _, u3, u4⟩, fun i hi => absurd hi (Nat.not_lt_zero _)⟩⟩
      · have z0 := hX.1.1.2.2.2.2.2.2.2.2.2.1 0 (by omega)
        show cpN (D.2 4) (raR D).2.2.2 59 0 ≤ 20 * (n + 1)
        unfold cpN
        rw [if_pos (by omega), z0]
        omega
      · exact TxR_C (C := C) rfl (show va_up (cA C) 5 (rtRun 200 (cA C 0) (cW C).1 C).2.2.2.1 0 = cA C 0 from va_up_ne _ _ (by decide)) g3
      · have w : cP (layS C) 0 = (0, (cP C 0).2) := by
          have w1 : cP (layS C) 0 = cP (layS3 C) 0 := cP_sP_ne (layS3 C) _ (by decide)
          rw [w1]
          exact cP_sP (sW (layS2 C) ((cW C).1, 0)) 0 _
        rw [w, v1]
        rfl
      · have w : cP (layS C) 1 = (0, (cP C 1).2) := cP_sP (layS3 C) 1 _
        rw [w, u1]
        rfl
  · rw [if_neg a1, if_pos a1]
    exact ⟨rfl, f2⟩
