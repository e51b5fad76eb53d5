/-! BOTH SIDES: what holds behind every call; acts -/
theorem Sn_59 {t s s' : Nat → Nat} (e : ∀ j, j < 59 → s' j = s j) (h : Sn t s) : Sn t s' := by
  obtain ⟨h1, h2, h3, h4, h5, h6⟩ := h
  have o1 := h1.1
  have o5 := h1.2.2.2.2.1
  have o6 := h1.2.2.2.2.2.1
  refine ⟨okS_of h1 (fun j _ g2 => e j (by omega)), fun c hc => by rw [e _ (by omega)]; exact h2 c hc, fun c g1 g2 => by rw [e _ (by omega)]; exact h3 c g1 g2, fun r q k m hr hq hk hm g => ?_, fun r k hr hk => ?_, fun r g1 g2 => by rw [e _ (by omega)]; exact h6 r g1 g2⟩
  · have a5 := o5 r (by omega)
    have b5 := o5 q (by omega)
    rw [e _ (by omega)] at hk hm
    rw [e _ (by omega), e _ (by omega)] at g
    exact h4 r q k m hr hq hk hm g
  · have a5 := o5 r (by omega)
    rw [e _ (by omega)] at hk
    have a6 := o6 r (by omega) k (by omega)
    rw [e (11 + 4 * r + k) (by omega), e _ (by omega)]
    exact h5 r k hr hk
theorem RP_59 {t s s' : Nat → Nat} {o : OV} (e : ∀ j, j < 59 → s' j = s j) (h : Sn t s) (hP : RP t s o) : RP t s' o := by
  have o1 := h.1.1
  have o5 := h.1.2.2.2.2.1
  obtain ⟨p1, p2, p3, p4, p5, p6⟩ := hP
  have hT : ∀ j, TrAny t s' j ↔ TrAny t s j := by
    intro j
    unfold TrAny TrIn
    constructor
    · rintro ⟨r, hr, k, hk, ek⟩
      have a5 := o5 r (by omega)
      rw [e _ (by omega)] at hk
      rw [e _ (by omega)] at ek
      exact ⟨r, hr, k, hk, ek⟩
    · rintro ⟨r, hr, k, hk, ek⟩
      have a5 := o5 r (by omega)
      exact ⟨r, hr, k, by rw [e _ (by omega)]; exact hk, by rw [e _ (by omega)]; exact ek⟩
  refine ⟨p1, by rw [e 0 (by omega)]; exact p2, fun j => ?_, fun j => ?_, fun j => ?_, fun r hr => ?_⟩
  · rw [p3]
    exact ⟨fun z => ⟨z.1, by rw [e _ (by omega)]; exact z.2⟩, fun z => ⟨z.1, by rw [← e _ (by omega)]; exact z.2⟩⟩
  · rw [p4]
    exact ⟨fun z => ⟨z.1, by rw [e _ (by omega)]; exact z.2⟩, fun z => ⟨z.1, by rw [← e _ (by omega)]; exact z.2⟩⟩
  · rw [p5, hT]
    exact ⟨fun z => ⟨z.1, by rw [e _ (by omega)]; exact z.2⟩, fun z => ⟨z.1, by rw [← e (23 + j) (by omega)]; exact z.2⟩⟩
  · have a5 := o5 r (by omega)
    obtain ⟨r1, r2, r3, r4, r5⟩ := p6 r hr
    refine ⟨by rw [e _ (by omega)]; exact r1, r2, by rw [e _ (by omega)]; exact r3, r4, fun k hk => ?_⟩
    rw [e _ (by omega)] at hk
    rw [e _ (by omega)]
    exact r5 k hk
theorem RQ_59 {L : LV} {o : OV} {t s s' : Nat → Nat} (e : ∀ j, j < 59 → s' j = s j) (h : RQ L o t s) : RQ L o t s' := by
  obtain ⟨h1, h2, h3, h4, h5, h6, h7⟩ := h
  exact ⟨Sn_59 e h1, h2, RP_59 e h1 h3, fun p hp => by rw [e _ (by omega)]; exact h4 p hp, by rw [e _ (by omega)]; exact h5, h6, fun p hp => by rw [e _ (by omega), e 0 (by omega)]; exact h7 p hp⟩
def RB (C : CS) (t s : Nat → Nat) (i n : Nat) : Prop := RQ (cL C 0) (cO C i) t s ∧ s 0 ≤ 20 * n
theorem RB_59 {C : CS} {t s s' : Nat → Nat} {i n : Nat} (e : ∀ j, j < 59 → s' j = s j) (h : RB C t s i n) : RB C t s' i n := ⟨RQ_59 e h.1, by rw [e 0 (by omega)]; exact h.2⟩
theorem RB_C {C C' : CS} {t s : Nat → Nat} {i n : Nat} (hL : cL C' 0 = cL C 0) (hO : cO C' i = cO C i) (h : RB C t s i n) : RB C' t s i n := by
  unfold RB at h ⊢
  rw [hL, hO]; exact h
theorem RB_up {C : CS} {t s : Nat → Nat} {i n : Nat} (h : RB C t s i n) : RB C t s i (n + 1) := ⟨h.1, by have := h.2; omega⟩
def TxR (C : CS) (ty : Nat) (tx : Nat → Nat) : Prop := (cW C).1 = nI ty ∧ ty ≤ 200 ∧ (∀ k, k < ty → cA C 0 k = nI (tx k) ∧ tx k ≤ 126) ∧ ∀ q, narrow .char (.int (cA C 0 q)) = .int (cA C 0 q)
def PaE (C : CS) (t : Nat → Nat) (kn : Nat) (pa : Nat → Nat) (n : Nat) (pm : Nat → Nat) : Prop := okP C 0 8 kn pm ∧ (∀ k, k < 8 → pm k < 11) ∧ (∀ i j, i < 8 → j < 8 → pm i = pm j → i = j) ∧ ∀ i, i < kn → RB C t (fun j => pa (59 * i + j)) (pm i) n
def KeR (C : CS) (t : Nat → Nat) (ke : Nat) (im : Nat → Nat) (n : Nat) : Prop := okP C 1 2 ke (fun k => 11 + k) ∧ ∀ i, i < ke → RB C t (fun j => im (59 * i + j)) (11 + i) n
def Inv (C : CS) (D : MS) (n : Nat) : Prop := RB C (D.2 1) (D.2 4) 0 n ∧ RN C D (D.2 1) ∧ TxR C D.1.1 (D.2 0) ∧ (∃ pm, PaE C (D.2 1) D.1.2.1 (D.2 5) n pm) ∧ KeR C (D.2 1) D.1.2.2.1 (D.2 6) n
theorem PaE_C {C C' : CS} {t : Nat → Nat} {kn n : Nat} {pa pm : Nat → Nat} (hL : cL C' 0 = cL C 0) (hP : cP C' 0 = cP C 0) (hO : ∀ i, 3 ≤ i → i < 11 → cO C' i = cO C i) (h : PaE C t kn pa n pm) : PaE C' t kn pa n pm := by
  obtain ⟨⟨h1, h2, h3, h4⟩, h5, h6, h7⟩ := h
  exact ⟨⟨hP.trans h1, h2, h3, h4⟩, h5, h6, fun i hi => RB_C hL (hO _ (h4 i (by omega)) (h5 i (by omega))) (h7 i hi)⟩
theorem KeR_C {C C' : CS} {t : Nat → Nat} {ke n : Nat} {im : Nat → Nat} (hL : cL C' 0 = cL C 0) (hP : cP C' 1 = cP C 1) (hO : ∀ i, 11 ≤ i → i < 13 → cO C' i = cO C i) (h : KeR C t ke im n) : KeR C' t ke im n := by
  obtain ⟨⟨h1, h2, h3, h4⟩, h7⟩ := h
  exact ⟨⟨hP.trans h1, h2, h3, h4⟩, fun i hi => RB_C hL (hO _ (by omega) (by omega)) (h7 i hi)⟩
theorem PaE_up {C : CS} {t : Nat → Nat} {kn n : Nat} {pa pm : Nat → Nat} (h : PaE C t kn pa n pm) : PaE C t kn pa (n + 1) pm := ⟨h.1, h.2.1, h.2.2.1, fun i hi => RB_up (h.2.2.2 i hi)⟩
theorem KeR_up {C : CS} {t : Nat → Nat} {ke n : Nat} {im : Nat → Nat} (h : KeR C t ke im n) : KeR C t ke im (n + 1) := ⟨h.1, fun i hi => RB_up (h.2 i hi)⟩
theorem RN_C {C C' : CS} {D : MS} {t : Nat → Nat} (hW : (cW C').2 = (cW C).2) (hA : ∀ k, 1 ≤ k → k < 4 → cA C' k = cA C k) (h : RN C D t) : RN C' D t := by
  obtain ⟨h1, h2, h3⟩ := h
  refine ⟨hW.trans h1, h2, fun i hi => ?_⟩
  rw [hA 1 (by decide) (by decide), hA 2 (by decide) (by decide), hA 3 (by decide) (by decide)]
  exact h3 i hi
theorem TxR_C {C C' : CS} {ty : Nat} {tx : Nat → Nat} (hW : (cW C').1 = (cW C).1) (hA : cA C' 0 = cA C 0) (h : TxR C ty tx) : TxR C' ty tx := by
  unfold TxR at h ⊢
  rw [hW, hA]; exact h
/-- the class keeps all but its aside; one call more -/
theorem Inv_same {C C' : CS} {D : MS} {n : Nat} (h : Inv C D n) (hW : cW C' = cW C) (hA : ∀ k, k < 4 → cA C' k = cA C k) (hL : cL C' 0 = cL C 0) (hO : ∀ i, i < 13 → i ≠ 1 → i ≠ 2 → cO C' i = cO C i) (hP0 : cP C' 0 = cP C 0) (hP1 : cP C' 1 = cP C 1) : Inv C' D (n + 1) := by
  obtain ⟨h1, h2, h3, ⟨pm, h4⟩, h5⟩ := h
  exact ⟨RB_up (RB_C hL (hO 0 (by decide) (by decide) (by decide)) h1), RN_C (by rw [hW]) (fun k _ hk => hA k hk) h2, TxR_C (by rw [hW]) (hA 0 (by decide)) h3, ⟨pm, PaE_up (PaE_C hL hP0 (fun i g1 g2 => hO i (by omega) (by omega) (by omega)) h4)⟩, KeR_up (KeR_C hL hP1 (fun i g1 g2 => hO i (by omega) (by omega) (by omega)) h5)⟩
/-- the reference keeps all but its aside, its draft -/
theorem Inv_D {C : CS} {D D' : MS} {n : Nat} (h : Inv C D n) (h1 : D'.1.1 = D.1.1) (h2 : D'.1.2.1 = D.1.2.1) (h3 : D'.1.2.2.1 = D.1.2.2.1) (h4 : D'.1.2.2.2.1 = D.1.2.2.2.1) (h5 : ∀ k, k = 0 ∨ k = 1 ∨ k = 4 ∨ k = 5 ∨ k = 6 ∨ k = 7 → D'.2 k = D.2 k) : Inv C D' n := by
  unfold Inv RN at h ⊢
  rw [h1, h2, h3, h4, h5 0 (by simp), h5 1 (by simp), h5 4 (by simp), h5 5 (by simp), h5 6 (by simp), h5 7 (by simp)]
  exact h
theorem Inv_S {C : CS} {D : MS} {n : Nat} (h : Inv C D n) (a : OV) (A : Nat → Nat) : Inv (sO C 1 a) (qS D (D.2 1) (D.2 4) A) (n + 1) :=
  Inv_D (D := D) (Inv_same h rfl (fun _ _ => rfl) rfl (fun i _ h1 _ => cO_sO_ne C a h1) rfl rfl) rfl rfl rfl rfl (fun k hk => by
    rcases hk with z | z | z | z | z | z <;> subst z <;> rfl)
/- the past: put by, taken back -/
theorem rot8_at (pm : Nat → Nat) (i : Nat) (hi : i < 8) : rot8 pm i = if i < 7 then pm (i + 1) else pm 0 := by
  unfold rot8 va_up
  match i, hi with
  | 0, _ | 1, _ | 2, _ | 3, _ | 4, _ | 5, _ | 6, _ | 7, _ => rfl
  | i + 8, h => exact absurd h (by omega)
theorem push_C {C : CS} {c : Nat} {pm : Nat → Nat} (h4 : ∀ k, k < 8 → 3 ≤ pm k) (h5 : ∀ k, k < 8 → pm k < 11) : cW (pushU C c pm) = cW C ∧ cA (pushU C c pm) = cA C ∧ cL (pushU C c pm) = cL C ∧ cP (pushU C c pm) 1 = cP C 1 ∧ (∀ i, (i < 3 ∨ 11 ≤ i) → cO (pushU C c pm) i = cO C i) := by
  unfold pushU
  by_cases hc : c < 8
  · rw [if_pos hc]
    refine ⟨rfl, rfl, rfl, cP_sP_ne _ _ (by decide), fun i hi => ?_⟩
    have a4 := h4 c hc
    have a5 := h5 c hc
    exact cO_sO_ne C _ (by omega)
  · rw [if_neg hc]
    refine ⟨rfl, rfl, rfl, cP_sP_ne _ _ (by decide), fun i hi => ?_⟩
    have a4 := h4 0 (by decide)
    have a5 := h5 0 (by decide)
    exact cO_sO_ne C _ (by omega)
theorem push_PaE {C : CS} {t s : Nat → Nat} {kn n : Nat} {pa pm : Nat → Nat} (h : PaE C t kn pa n pm) (hB : RB C t s 0 n) : PaE (pushU C kn pm) t (if kn = 8 then 8 else kn + 1) (if kn = 8 then segW (pastSh pa 413) s 413 59 else segW pa s (59 * kn) 59) n (if kn = 8 then rot8 pm else pm) := by
  obtain ⟨⟨h1, h2, h3, h4⟩, h5, h6, h7⟩ := h
  obtain ⟨⟨b1, b2, b3, b4, b5, b6, b7⟩, b8⟩ := hB
  by_cases hk : kn = 8
  · rw [if_pos hk, if_pos hk, if_pos hk]
    subst hk
    have r3 : ∀ k, k < 8 → rot8 pm k < 11 ∧ 3 ≤ rot8 pm k := fun k hk => by
      rw [rot8_at pm k hk]
      split
      · exact ⟨h5 _ (by omega), h4 _ (by omega)⟩
      · exact ⟨h5 _ (by omega), h4 _ (by omega)⟩
    have eP : pushU C 8 pm = sP (sO C (pm 0) (copyC (cO C (pm 0)) (cO C 0))) 0 (8, rot8 pm) := by unfold pushU; rw [if_neg (by decide)]
    refine ⟨⟨by rw [eP]; exact cP_sP _ _ _, Nat.le_refl _, fun k hk => by have := (r3 k hk).1; omega, fun k hk => (r3 k hk).2⟩, fun k hk => (r3 k hk).1, fun i j hi hj e => ?_, fun i hi => ?_⟩
    · rw [rot8_at pm i hi, rot8_at pm j hj] at e
      split at e <;> split at e
      · have := h6 _ _ (by omega) (by omega) e; omega
      · have := h6 _ _ (by omega) (by omega) e; omega
      · have := h6 _ _ (by omega) (by omega) e; omega
      · omega
    · rw [rot8_at pm i hi]
      by_cases h7i : i < 7
      · rw [if_pos h7i]
        have hne : pm (i + 1) ≠ pm 0 := fun z => by have := h6 _ _ (by omega) (by omega) z; omega
        refine RB_59 (s := fun j => pa (59 * (i + 1) + j)) (fun j hj => ?_) (RB_C (by rw [eP]; rfl) (by rw [eP]; exact cO_sO_ne C _ hne) (h7 (i + 1) (by omega)))
        show segW (pastSh pa 413) s 413 59 (59 * i + j) = pa (59 * (i + 1) + j)
        unfold segW pastSh
        rw [if_neg (by omega), if_pos (by omega), show 59 * i + j + 59 = 59 * (i + 1) + j by omega]
      · rw [if_neg h7i]
        obtain rfl : i = 7 := by omega
        obtain ⟨k1, k2⟩ := copy_P b1 b3 (cO C (pm 0))
        refine RB_59 (s := s) (fun j hj => ?_) ⟨?_, b8⟩
        · show segW (pastSh pa 413) s 413 59 (59 * 7 + j) = s j
          unfold segW
          rw [if_pos (by omega), show 59 * 7 + j - 413 = j by omega]
        · rw [eP]
          show RQ (cL C 0) (cO (sO C (pm 0) _) (pm 0)) t s
          rw [cO_sO]
          exact ⟨b1, b2, k1, k2 b4, b5, b6, b7⟩
  · rw [if_neg hk, if_neg hk, if_neg hk]
    have hlt : kn < 8 := by omega
    have eP : pushU C kn pm = sP (sO C (pm kn) (copyC (cO C (pm kn)) (cO C 0))) 0 (nI (kn + 1), pm) := by unfold pushU; rw [if_pos hlt]
    refine ⟨⟨by rw [eP]; exact cP_sP _ _ _, hlt, h3, h4⟩, h5, h6, fun i hi => ?_⟩
    by_cases hik : i = kn
    · subst hik
      obtain ⟨k1, k2⟩ := copy_P b1 b3 (cO C (pm i))
      refine RB_59 (s := s) (fun j hj => ?_) ⟨?_, b8⟩
      · show segW pa s (59 * i) 59 (59 * i + j) = s j
        unfold segW
        rw [if_pos (by omega), Nat.add_sub_cancel_left]
      · rw [eP]
        show RQ (cL C 0) (cO (sO C (pm i) _) (pm i)) t s
        rw [cO_sO]
        exact ⟨b1, b2, k1, k2 b4, b5, b6, b7⟩
    · have hne : pm i ≠ pm kn := fun z => hik (h6 _ _ (by omega) hlt z)
      refine RB_59 (s := fun j => pa (59 * i + j)) (fun j hj => ?_) (RB_C (by rw [eP]; rfl) (by rw [eP]; exact cO_sO_ne C _ hne) (h7 i (by omega)))
      show segW pa s (59 * kn) 59 (59 * i + j) = pa (59 * i + j)
      unfold segW
      rw [if_neg (by omega)]
/-- an act: the past put by, then another now -/
theorem act_Inv {C : CS} {D : MS} {n : Nat} (h : Inv C D n) {pm : Nat → Nat} (hpm : PaE C (D.2 1) D.1.2.1 (D.2 5) n pm) (o' : OV) (s' : Nat → Nat) (A : Nat → Nat) (hQ : RQ (cL C 0) o' (D.2 1) s') (hy : s' 0 ≤ 20 * (n + 1)) : Inv (sO (pushU C D.1.2.1 pm) 0 o') (qS (keepsU D (D.2 4)) (D.2 1) s' A) (n + 1) := by
  obtain ⟨h1, h2, h3, -, h5⟩ := h
  obtain ⟨c1, c2, c3, c4, c5⟩ := push_C (C := C) (c := D.1.2.1) hpm.1.2.2.2 hpm.2.1
  have hp := push_PaE hpm h1
  have hk : (keepsU D (D.2 4)).1.1 = D.1.1 ∧ (keepsU D (D.2 4)).1.2.1 = (if D.1.2.1 = 8 then 8 else D.1.2.1 + 1) ∧ (keepsU D (D.2 4)).1.2.2.1 = D.1.2.2.1 ∧ (keepsU D (D.2 4)).1.2.2.2.1 = D.1.2.2.2.1 ∧ (keepsU D (D.2 4)).2 5 = (if D.1.2.1 = 8 then segW (pastSh (D.2 5) 413) (D.2 4) 413 59 else segW (D.2 5) (D.2 4) (59 * D.1.2.1) 59) ∧ (keepsU D (D.2 4)).2 0 = D.2 0 ∧ (keepsU D (D.2 4)).2 6 = D.2 6 ∧ (keepsU D (D.2 4)).2 7 = D.2 7 := by
    unfold keepsU
    split <;> exact ⟨rfl, rfl, rfl, rfl, rfl, rfl, rfl, rfl⟩
  obtain ⟨e1, e2, e3, e4, e5, e6, e7, e8⟩ := hk
  have eO : ∀ i, 1 ≤ i → cO (sO (pushU C D.1.2.1 pm) 0 o') i = cO (pushU C D.1.2.1 pm) i := fun i hi => cO_sO_ne _ _ (by omega)
  refine ⟨⟨?_, hy⟩, ?_, ?_, ⟨(if D.1.2.1 = 8 then rot8 pm else pm), PaE_up (PaE_C (C := pushU C D.1.2.1 pm) rfl rfl (fun i g1 g2 => eO i (by omega)) ?_)⟩, KeR_up ?_⟩
  · show RQ (cL (pushU C D.1.2.1 pm) 0) (cO (sO (pushU C D.1.2.1 pm) 0 o') 0) (D.2 1) s'
    rw [cO_sO, c3]; exact hQ
  · show RN (sO (pushU C D.1.2.1 pm) 0 o') (qS (keepsU D (D.2 4)) (D.2 1) s' A) (D.2 1)
    have := RN_C (C' := sO (pushU C D.1.2.1 pm) 0 o') (by show (cW (pushU C D.1.2.1 pm)).2 = _; rw [c1]) (fun k _ _ => by show cA (pushU C D.1.2.1 pm) k = _; rw [c2]) h2
    unfold RN at this ⊢
    show _ = nI (keepsU D (D.2 4)).1.2.2.2.1 ∧ (keepsU D (D.2 4)).1.2.2.2.1 ≤ 6 ∧ ∀ i, i < (keepsU D (D.2 4)).1.2.2.2.1 → _ = nI ((keepsU D (D.2 4)).2 7 _) ∧ _ = nI ((keepsU D (D.2 4)).2 7 _) ∧ _ = nI ((keepsU D (D.2 4)).2 7 _) ∧ (keepsU D (D.2 4)).2 7 _ ≤ 20
    rw [e4, e8]
    exact this
  · show TxR _ (keepsU D (D.2 4)).1.1 ((keepsU D (D.2 4)).2 0)
    rw [e1, e6]
    exact TxR_C (by show (cW (pushU C D.1.2.1 pm)).1 = _; rw [c1]) (by show cA (pushU C D.1.2.1 pm) 0 = _; rw [c2]) h3
  · show PaE _ (D.2 1) (keepsU D (D.2 4)).1.2.1 ((keepsU D (D.2 4)).2 5) n _
    rw [e2, e5]
    exact hp
  · show KeR _ (D.2 1) (keepsU D (D.2 4)).1.2.2.1 ((keepsU D (D.2 4)).2 6) n
    rw [e3, e7]
    exact KeR_C (by show cL (pushU C D.1.2.1 pm) 0 = _; rw [c3]) c4 (fun i g1 g2 => (eO i (by omega)).trans (c5 i (Or.inr g1))) h5
theorem now_push {C : CS} {c : Nat} {pm : Nat → Nat} (h4 : ∀ k, k < 8 → 3 ≤ pm k) (h5 : ∀ k, k < 8 → pm k < 11) : cO (pushU C c pm) 0 = cO C 0 := (push_C h4 h5).2.2.2.2 0 (by omega)
theorem Inv_keep {C : CS} {D : MS} {n : Nat} (h : Inv C D n) (A : Nat → Nat) : Inv C (qS D (D.2 1) (D.2 4) A) (n + 1) :=
  Inv_D (D := D) (Inv_same h rfl (fun _ _ => rfl) rfl (fun i _ _ _ => rfl) rfl rfl) rfl rfl rfl rfl (fun k hk => by
    rcases hk with z | z | z | z | z | z <;> subst z <;> rfl)
theorem pass_all {C : CS} {D : MS} {n : Nat} (h : Inv C D n) (hn : n < 64) {pm : Nat → Nat} (hpm : PaE C (D.2 1) D.1.2.1 (D.2 5) n pm) (x : Int32) (A : Nat → Nat) : (passC C D.1.2.1 pm x).1 = (passQ D (D.2 1) (D.2 4) x).1 ∧ Inv (passC C D.1.2.1 pm x).2 (qS (passQ D (D.2 1) (D.2 4) x).2.1 (D.2 1) (passQ D (D.2 1) (D.2 4) x).2.2 A) (n + 1) := by
  obtain ⟨⟨⟨b1, b2, b3, b4, b5, b6, b7⟩, b8⟩, -⟩ := id h
  have hnp := now_push (C := C) (c := D.1.2.1) hpm.1.2.2.2 hpm.2.1
  have hcl := (push_C (C := C) (c := D.1.2.1) hpm.1.2.2.2 hpm.2.1).2.2.1
  unfold passC passQ
  by_cases hw : withinC x 1 20 = false
  · rw [if_pos hw, if_pos hw]
    exact ⟨rfl, Inv_keep h A⟩
  · rw [if_neg hw, if_neg hw]
    have hw' : withinC x 1 20 = true := by cases z : withinC x 1 20; exact absurd z hw; rfl
    obtain ⟨m, -, hm, rfl⟩ := within_nI (a := 1) (b := 20) rfl rfl hw'
    rw [nI_clamp (show m < 2 ^ 31 by omega)]
    obtain ⟨g1, g2, g3, g4⟩ := runs_W b2 m _ _ b1 b3 b4 (by omega)
    have e : passS C D.1.2.1 pm m = sO (pushU C D.1.2.1 pm) 0 (yearsC (cL C 0) m (cO C 0)) := by unfold passS; rw [hcl, hnp]
    refine ⟨?_, ?_⟩
    · show (cO (passS C D.1.2.1 pm m) 0).2.1 = _
      rw [e, cO_sO]; exact g2.2.1
    · show Inv (passS C D.1.2.1 pm m) _ _
      rw [e]
      dsimp only
      refine act_Inv h hpm _ _ A ⟨g1, b2, g2, g3, by omega, b6, fun p hp => ?_⟩ (by omega)
      have c1 := passN_own (hb_of b2) hp m _ b1.1
      have c2 := b7 p hp
      omega
theorem dig_all {C : CS} {D : MS} {n : Nat} (h : Inv C D n) {pm : Nat → Nat} (hpm : PaE C (D.2 1) D.1.2.1 (D.2 5) n pm) (x : Int32) (A : Nat → Nat) : (digW C D.1.2.1 pm x).1 = (digQ D (D.2 1) (D.2 4) x).1 ∧ Inv (digW C D.1.2.1 pm x).2 (qS (digQ D (D.2 1) (D.2 4) x).2.1 (D.2 1) (digQ D (D.2 1) (D.2 4) x).2.2 A) (n + 1) := by
  obtain ⟨⟨⟨b1, b2, b3, b4, b5, b6, b7⟩, b8⟩, -⟩ := id h
  have hnp := now_push (C := C) (c := D.1.2.1) hpm.1.2.2.2 hpm.2.1
  have hcl := (push_C (C := C) (c := D.1.2.1) hpm.1.2.2.2 hpm.2.1).2.2.1
  have o2 := b1.1.2.1
  unfold digW digQ hC
  rw [cell_eq b2 o2]
  by_cases hw : cellQ (D.2 1) x = false
  · rw [if_pos hw, if_pos hw]
    exact ⟨rfl, Inv_keep h A⟩
  · rw [if_neg hw, if_neg hw]
    have hw' : cellQ (D.2 1) x = true := by cases z : cellQ (D.2 1) x; exact absurd z hw; rfl
    obtain ⟨c, hc, rfl⟩ := cellQ_ok b1.1 hw'
    rw [nI_clamp (show c < 2 ^ 31 by omega)]
    have ed : dC0 C (nI c) = mayDigM (D.2 1) (D.2 4) c := dig_eq b1 b2 b3 hc
    rw [ed]
    by_cases hd : mayDigM (D.2 1) (D.2 4) c = false
    · rw [if_pos hd, if_pos hd]
      exact ⟨rfl, Inv_keep h A⟩
    · have hd' : mayDigM (D.2 1) (D.2 4) c = true := by cases z : mayDigM (D.2 1) (D.2 4) c; exact absurd z hd; rfl
      rw [if_neg hd, if_neg hd]
      obtain ⟨d1, d2, d3, d4⟩ := dig_P b1 b2 b3 hc hd'
      have e : digS C D.1.2.1 pm (nI c) = sO (pushU C D.1.2.1 pm) 0 (orDit (cO C 0) (bitC (nI c))) := by
        unfold digS; rw [hcl, hnp, digIn_P b1 b2 b3 hc, if_pos hd']
      refine ⟨?_, ?_⟩
      · show bcC (cO (digS C D.1.2.1 pm (nI c)) 0).2.2.1 = _
        rw [e, cO_sO]
        exact cnt_eq d1 (w := 1) (by decide) (by decide) d2.2.2.1
      · show Inv (digS C D.1.2.1 pm (nI c)) _ _
        rw [e]
        dsimp only
        refine act_Inv h hpm _ _ A ⟨d1, b2, d2, d3 b4, by omega, b6, fun p hp => ?_⟩ (by omega)
        rw [d4, va_up_ne _ _ (by omega)]
        exact b7 p hp
theorem fill_all {C : CS} {D : MS} {n : Nat} (h : Inv C D n) {pm : Nat → Nat} (hpm : PaE C (D.2 1) D.1.2.1 (D.2 5) n pm) (x : Int32) (A : Nat → Nat) : (fillW C D.1.2.1 pm x).1 = (fillQ D (D.2 1) (D.2 4) x).1 ∧ Inv (fillW C D.1.2.1 pm x).2 (qS (fillQ D (D.2 1) (D.2 4) x).2.1 (D.2 1) (fillQ D (D.2 1) (D.2 4) x).2.2 A) (n + 1) := by
  obtain ⟨⟨⟨b1, b2, b3, b4, b5, b6, b7⟩, b8⟩, -⟩ := id h
  have hnp := now_push (C := C) (c := D.1.2.1) hpm.1.2.2.2 hpm.2.1
  have o2 := b1.1.2.1
  unfold fillW fillQ hC
  rw [cell_eq b2 o2]
  by_cases hw : cellQ (D.2 1) x = false
  · rw [if_pos hw, if_pos hw]
    exact ⟨rfl, Inv_keep h A⟩
  · rw [if_neg hw, if_neg hw]
    have hw' : cellQ (D.2 1) x = true := by cases z : cellQ (D.2 1) x; exact absurd z hw; rfl
    obtain ⟨c, hc, rfl⟩ := cellQ_ok b1.1 hw'
    rw [nI_clamp (show c < 2 ^ 31 by omega), ctn_gb _ (by omega)]
    have l1 : nI (D.2 4 (23 + c)) = 1 ↔ D.2 4 (23 + c) = 1 := lie_0 b1 (by omega) 1 (by decide)
    by_cases hd : D.2 4 (23 + c) = 1
    · rw [if_neg (fun z => by rw [(b3.2.2.1 c).mpr ⟨by omega, hd⟩] at z; cases z), if_pos (l1.mpr hd)]
      obtain ⟨d1, d2, d3, d4⟩ := fill_P b1 b3 hc
      rw [if_pos hd] at d1 d2 d3 d4
      have e : fillS C D.1.2.1 pm (nI c) = sO (pushU C D.1.2.1 pm) 0 (fillInC (cO C 0) (nI c)) := by unfold fillS; rw [hnp]
      refine ⟨?_, ?_⟩
      · show bcC (cO (fillS C D.1.2.1 pm (nI c)) 0).2.2.1 = _
        rw [e, cO_sO]
        exact cnt_eq d1 (w := 1) (by decide) (by decide) d2.2.2.1
      · show Inv (fillS C D.1.2.1 pm (nI c)) _ _
        rw [e]
        dsimp only
        refine act_Inv h hpm _ _ A ⟨d1, b2, d2, d3 b4, by omega, b6, fun p hp => ?_⟩ (by omega)
        rw [d4, va_up_ne _ _ (by omega)]
        exact b7 p hp
    · rw [if_pos (gb_nf (fun z => hd ((b3.2.2.1 c).mp z).2)), if_neg (fun z => hd (l1.mp z))]
      exact ⟨rfl, Inv_keep h A⟩
theorem leave_all {C : CS} {D : MS} {n : Nat} (h : Inv C D n) {pm : Nat → Nat} (hpm : PaE C (D.2 1) D.1.2.1 (D.2 5) n pm) (x : Int32) (A : Nat → Nat) : (leaveW C D.1.2.1 pm x).1 = (leaveQ D (D.2 1) (D.2 4) x).1 ∧ Inv (leaveW C D.1.2.1 pm x).2 (qS (leaveQ D (D.2 1) (D.2 4) x).2.1 (D.2 1) (leaveQ D (D.2 1) (D.2 4) x).2.2 A) (n + 1) := by
  obtain ⟨⟨⟨b1, b2, b3, b4, b5, b6, b7⟩, b8⟩, -⟩ := id h
  have hnp := now_push (C := C) (c := D.1.2.1) hpm.1.2.2.2 hpm.2.1
  have o1 := b1.1.1
  unfold leaveW leaveQ rC
  rw [row_eq o1 b3.1]
  by_cases hw : rowQ (D.2 1) x = false
  · rw [if_pos hw, if_pos hw]
    exact ⟨rfl, Inv_keep h A⟩
  · rw [if_neg hw, if_neg hw]
    have hw' : rowQ (D.2 1) x = true := by cases z : rowQ (D.2 1) x; exact absurd z hw; rfl
    obtain ⟨c, hc, rfl⟩ := rowQ_ok b1.1 hw'
    have o5 := b1.1.2.2.2.2.1 c (by omega)
    have o9 := b1.1.2.2.2.2.2.2.2.2.1 c hc
    obtain ⟨r1, r2, r3, r4, r5⟩ := b3.2.2.2.2.2 c hc
    rw [nI_clamp (show c < 2 ^ 31 by omega), hnp, r1]
    have k1 : nI (D.2 4 (8 + c)) = 1 ↔ D.2 4 (8 + c) = 1 := nI_eq (b := 1) (by omega) (by decide)
    have k2 : (2 ≤ nI (D.2 4 (8 + c))) ↔ 2 ≤ D.2 4 (8 + c) := nI_leI (a := 2) (by decide) (by omega)
    by_cases hd : D.2 4 (8 + c) = 1
    · rw [if_neg (fun z => by have := k2.mp z; omega), if_pos (k1.mpr hd)]
      exact ⟨rfl, Inv_keep h A⟩
    · rw [if_pos (k2.mpr (by omega)), if_neg (fun z => hd (k1.mp z))]
      obtain ⟨d1, d2, d3, d4⟩ := leave_P b1 b3 hc (by omega)
      have e : leaveS C D.1.2.1 pm c = sO (pushU C D.1.2.1 pm) 0 (leaveC (cO C 0) c) := by unfold leaveS; rw [hnp]
      refine ⟨?_, ?_⟩
      · show leaveR (nI (D.2 4 (8 + c))) _ = nI (leftC (D.2 4) c)
        unfold leaveR
        rw [if_pos (k2.mpr (by omega)), treeAt_last (by omega) o5 r5]
        rfl
      · show Inv (leaveS C D.1.2.1 pm c) _ _
        rw [e]
        dsimp only
        have el : ∀ p, p < 4 → leavesM (D.2 4) c (1 + p) = D.2 4 (1 + p) := fun p hp => by
          have o6 : leftC (D.2 4) c < 36 := b1.1.2.2.2.2.2.1 c (by omega) (D.2 4 (8 + c) - 1) (by omega)
          rw [(lv_tr o6 (by omega)).1 _ (by omega), if_neg (by omega)]
        refine act_Inv h hpm _ _ A ⟨d1, b2, d2, d3 b4, by omega, b6, fun p hp => ?_⟩ (by omega)
        rw [d4, el p hp]
        exact b7 p hp
