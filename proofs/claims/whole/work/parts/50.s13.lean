/-! BOTH SIDES: undone, kept, letters, notes; what is told of things -/
theorem undo_all {C : CS} {D : MS} {n : Nat} (h : Inv C D n) {pm : Nat → Nat} (hpm : PaE C (D.2 1) D.1.2.1 (D.2 5) n pm) (A : Nat → Nat) : (undoC C D.1.2.1 pm).1 = (undoQ D (D.2 4)).1 ∧ Inv (undoC C D.1.2.1 pm).2 (qS (undoQ D (D.2 4)).2.1 (D.2 1) (undoQ D (D.2 4)).2.2 A) (n + 1) := by
  obtain ⟨h1, h2, h3, -, h5⟩ := id h
  unfold undoQ
  rcases hk : D.1.2.1 with _ | c
  · rw [if_pos rfl]
    exact ⟨rfl, Inv_keep h A⟩
  · rw [if_neg (by omega), Nat.add_sub_cancel]
    rw [hk] at hpm
    obtain ⟨⟨p1, p2, p3, p4⟩, p5, p6, p7⟩ := hpm
    obtain ⟨⟨b1, b2, b3, b4, b5, b6, b7⟩, b8⟩ := p7 c (by omega)
    obtain ⟨k1, k2⟩ := copy_P b1 b3 (cO C 0)
    have a3 := p4 c (by omega)
    refine ⟨rfl, ?_⟩
    show Inv (popP C 0 c pm) (qS (uS D (D.1.1, c, D.1.2.2.1, D.1.2.2.2.1, D.1.2.2.2.2) (D.2 5) (D.2 6) (D.2 7)) (D.2 1) (segR (D.2 4) (D.2 5) (59 * c) 59) A) (n + 1)
    have eO : ∀ i, 1 ≤ i → cO (popP C 0 c pm) i = cO C i := fun i hi => cO_sO_ne _ _ (by omega)
    have e0 : cO (popP C 0 c pm) 0 = copyC (cO C 0) (cO C (pm c)) := cO_sO _ _ _
    have es : ∀ j, j < 59 → segR (D.2 4) (D.2 5) (59 * c) 59 j = D.2 5 (59 * c + j) := fun j hj => by unfold segR; rw [if_pos hj]
    refine ⟨RB_up ?_, RN_C (C := C) rfl (fun _ _ _ => rfl) h2, TxR_C (C := C) rfl rfl h3, ⟨pm, PaE_up ⟨⟨cP_sP C 0 _, by show c ≤ 8; omega, p3, p4⟩, p5, p6, fun i hi => ?_⟩⟩, KeR_up (KeR_C (C := C) rfl (cP_sP_ne _ _ (by decide)) (fun i g1 g2 => eO i (by omega)) h5)⟩
    · refine RB_59 (s := fun j => D.2 5 (59 * c + j)) es ⟨?_, b8⟩
      rw [e0]
      exact ⟨b1, b2, k1, k2 b4, b5, b6, b7⟩
    · have hic : i < c := hi
      have a4 := p4 i (by omega)
      exact RB_C (C := C) rfl (eO _ (by omega)) (p7 i (by omega))
theorem keep_all {C : CS} {D : MS} {n : Nat} (h : Inv C D n) (A : Nat → Nat) : (keepC C D.1.2.2.1 (fun k => 11 + k)).1 = (keepQ D (D.2 4)).1 ∧ Inv (keepC C D.1.2.2.1 (fun k => 11 + k)).2 (qS (keepQ D (D.2 4)).2 (D.2 1) (D.2 4) A) (n + 1) := by
  obtain ⟨h1, h2, h3, ⟨pm, hpm⟩, h5⟩ := id h
  obtain ⟨⟨p1, p2, p3, p4⟩, p7⟩ := h5
  unfold keepQ keepC
  by_cases hk : D.1.2.2.1 = 2
  · rw [if_pos hk, if_neg (by omega)]
    exact ⟨rfl, Inv_keep h A⟩
  · have hlt : D.1.2.2.1 < 2 := by omega
    rw [if_neg hk, if_pos hlt]
    obtain ⟨⟨b1, b2, b3, b4, b5, b6, b7⟩, b8⟩ := id h1
    obtain ⟨k1, k2⟩ := copy_P b1 b3 (cO C (11 + D.1.2.2.1))
    refine ⟨rfl, ?_⟩
    show Inv (pushK C D.1.2.2.1 (fun k => 11 + k)) (qS (uS D (D.1.1, D.1.2.1, D.1.2.2.1 + 1, D.1.2.2.2.1, D.1.2.2.2.2) (D.2 5) (segW (D.2 6) (D.2 4) (59 * D.1.2.2.1) 59) (D.2 7)) (D.2 1) (D.2 4) A) (n + 1)
    have eO : ∀ i, i ≠ 11 + D.1.2.2.1 → cO (pushK C D.1.2.2.1 (fun k => 11 + k)) i = cO C i := fun i hi => cO_sO_ne _ _ hi
    have e0 : cO (pushK C D.1.2.2.1 (fun k => 11 + k)) (11 + D.1.2.2.1) = copyC (cO C (11 + D.1.2.2.1)) (cO C 0) := cO_sO _ _ _
    refine ⟨RB_up (RB_C (C := C) rfl (eO 0 (by omega)) h1), RN_C (C := C) rfl (fun _ _ _ => rfl) h2, TxR_C (C := C) rfl rfl h3, ⟨pm, PaE_up (PaE_C (C := C) rfl (cP_sP_ne _ _ (by decide)) (fun i g1 g2 => eO i (by omega)) hpm)⟩, KeR_up ⟨⟨cP_sP _ _ _, by show D.1.2.2.1 + 1 ≤ 2; omega, p3, p4⟩, fun i hi => ?_⟩⟩
    have hi' : i < D.1.2.2.1 + 1 := hi
    by_cases hik : i = D.1.2.2.1
    · subst hik
      refine RB_59 (s := D.2 4) (fun j hj => ?_) ⟨?_, b8⟩
      · show segW (D.2 6) (D.2 4) (59 * D.1.2.2.1) 59 (59 * D.1.2.2.1 + j) = D.2 4 j
        unfold segW
        rw [if_pos (by omega), Nat.add_sub_cancel_left]
      · rw [e0]
        exact ⟨b1, b2, k1, k2 b4, b5, b6, b7⟩
    · refine RB_59 (s := fun j => D.2 6 (59 * i + j)) (fun j hj => ?_) (RB_C (C := C) rfl (eO _ (by omega)) (p7 i (by omega)))
      show segW (D.2 6) (D.2 4) (59 * D.1.2.2.1) 59 (59 * i + j) = D.2 6 (59 * i + j)
      unfold segW
      rw [if_neg (by omega)]
theorem back_all {C : CS} {D : MS} {n : Nat} (h : Inv C D n) (A : Nat → Nat) : (backC C D.1.2.2.1 (fun k => 11 + k)).1 = (backQ D (D.2 4)).1 ∧ Inv (backC C D.1.2.2.1 (fun k => 11 + k)).2 (qS (backQ D (D.2 4)).2.1 (D.2 1) (backQ D (D.2 4)).2.2 A) (n + 1) := by
  obtain ⟨h1, h2, h3, ⟨pm, hpm⟩, h5⟩ := id h
  unfold backQ
  rcases hk : D.1.2.2.1 with _ | c
  · rw [if_pos rfl]
    exact ⟨rfl, Inv_keep h A⟩
  · rw [if_neg (by omega), Nat.add_sub_cancel]
    rw [hk] at h5
    obtain ⟨⟨p1, p2, p3, p4⟩, p7⟩ := h5
    obtain ⟨⟨b1, b2, b3, b4, b5, b6, b7⟩, b8⟩ := p7 c (by omega)
    obtain ⟨k1, k2⟩ := copy_P b1 b3 (cO C 0)
    obtain ⟨⟨q1, q2, q3, q4⟩, q5, q6, q7⟩ := hpm
    refine ⟨rfl, ?_⟩
    show Inv (backS C c (fun k => 11 + k)) (qS (uS D (D.1.1, 0, c, D.1.2.2.2.1, D.1.2.2.2.2) (D.2 5) (D.2 6) (D.2 7)) (D.2 1) (segR (D.2 4) (D.2 6) (59 * c) 59) A) (n + 1)
    have eO : ∀ i, 1 ≤ i → cO (backS C c (fun k => 11 + k)) i = cO C i := fun i hi => cO_sO_ne (sP C 1 (nI c, fun k => 11 + k)) _ (by omega)
    have e0 : cO (backS C c (fun k => 11 + k)) 0 = copyC (cO C 0) (cO C (11 + c)) := cO_sO (sP C 1 (nI c, fun k => 11 + k)) 0 (copyC (cO C 0) (cO C (11 + c)))
    have es : ∀ j, j < 59 → segR (D.2 4) (D.2 6) (59 * c) 59 j = D.2 6 (59 * c + j) := fun j hj => by unfold segR; rw [if_pos hj]
    have eP0 : cP (backS C c (fun k => 11 + k)) 0 = (nI 0, pm) := by
      unfold backS
      rw [cP_sP, q1]
      rfl
    have eP1 : cP (backS C c (fun k => 11 + k)) 1 = (nI c, fun k => 11 + k) := by
      unfold backS
      rw [cP_sP_ne _ _ (by decide)]
      exact cP_sP C 1 _
    refine ⟨RB_up ?_, RN_C (C := C) rfl (fun _ _ _ => rfl) h2, TxR_C (C := C) rfl rfl h3, ⟨pm, ⟨⟨eP0, Nat.zero_le _, q3, q4⟩, q5, q6, fun i hi => absurd hi (Nat.not_lt_zero _)⟩⟩, KeR_up ⟨⟨eP1, by show c ≤ 2; omega, p3, p4⟩, fun i hi => RB_C (C := C) rfl (eO _ (by omega)) (p7 i (by have : i < c := hi; omega))⟩⟩
    refine RB_59 (s := fun j => D.2 6 (59 * c + j)) es ⟨?_, b8⟩
    rw [e0]
    exact ⟨b1, b2, k1, k2 b4, b5, b6, b7⟩
theorem ch_ok : ∀ c, c < 127 → vp_nar .char ((nI c).toUInt32 % 65536).toInt32 = nI c ∧ narrow .char (.int (nI c)) = .int (nI c) := by
  intro c hc
  have e : ∀ c, c < 127 → ((nI c).toUInt32 % 65536).toInt32 = nI c := by decide +kernel
  have e2 : ∀ c, c < 127 → vp_nar .char (nI c) = nI c := by decide +kernel
  refine ⟨by rw [e c hc]; exact e2 c hc, ?_⟩
  have e3 : narrow .char (.int (nI c)) = .int (vp_nar .char (nI c)) := rfl
  rw [e3, e2 c hc]
theorem write_all {C : CS} {D : MS} {n : Nat} (h : Inv C D n) (x : Int32) : (writeC C x).1 = (writeM D x).1 ∧ Inv (writeC C x).2 (writeM D x).2 (n + 1) := by
  obtain ⟨h1, h2, ⟨t1, t2, t3, t4⟩, ⟨pm, h4⟩, h5⟩ := id h
  have keep : Inv C D (n + 1) := Inv_same h rfl (fun _ _ => rfl) rfl (fun _ _ _ _ => rfl) rfl rfl
  unfold writeC writeM
  rw [t1]
  by_cases hw : withinC x 32 126 = false
  · rw [if_pos hw]
    unfold withinC at hw
    by_cases a1 : x < 32
    · rw [if_pos a1]; exact ⟨rfl, keep⟩
    · rw [if_neg a1] at hw ⊢
      by_cases a2 : (126 : Int32) < x
      · rw [if_neg (fun z => by rw [Int32.le_iff_toInt_le] at z; rw [Int32.lt_iff_toInt_lt] at a2; omega)]
        exact ⟨rfl, keep⟩
      · rw [if_neg a2] at hw; cases hw
  · have hw' : withinC x 32 126 = true := by cases z : withinC x 32 126; exact absurd z hw; rfl
    obtain ⟨c, hc1, hc2, rfl⟩ := within_nI (a := 32) (b := 126) rfl rfl hw'
    rw [if_neg hw, if_neg (show ¬ nI c < (32 : Int32) from nI_nlt (a := c) (b := 32) hc1 (by omega)), if_pos (show nI c ≤ (126 : Int32) from nI_le (b := 126) hc2 (by decide)), if_neg (nI_pos (by omega))]
    by_cases hf : D.1.1 = 200
    · rw [if_pos hf, if_neg (show ¬ nI D.1.1 < (200 : Int32) from nI_nlt (a := D.1.1) (b := 200) (by omega) (by omega))]
      exact ⟨rfl, keep⟩
    · rw [if_neg hf, if_pos (show nI D.1.1 < (200 : Int32) from nI_lt (b := 200) (by omega) (by decide)), nI_clamp (by omega), nI_clamp (by omega), (ch_ok c (by omega)).1]
      refine ⟨nI_1 _, ?_⟩
      show Inv (sW (sA C 0 (upd (cA C 0) D.1.1 (nI c))) (nI D.1.1 + 1, (cW C).2)) ((D.1.1 + 1, D.1.2), va_up D.2 0 (va_up (D.2 0) D.1.1 c)) (n + 1)
      have eA : ∀ k, k ≠ 0 → cA (sW (sA C 0 (upd (cA C 0) D.1.1 (nI c))) (nI D.1.1 + 1, (cW C).2)) k = cA C k := fun k hk => cA_sA_ne C _ hk
      refine ⟨RB_up h1, RN_C (C := C) rfl (fun k g1 _ => eA k (by omega)) h2, ⟨nI_1 _, by show D.1.1 + 1 ≤ 200; omega, fun k hk => ?_, fun q => ?_⟩, ⟨pm, PaE_up (PaE_C (C := C) rfl rfl (fun _ _ _ => rfl) h4)⟩, KeR_up (KeR_C (C := C) rfl rfl (fun _ _ _ => rfl) h5)⟩
      · show cA (sA C 0 _) 0 k = nI (va_up D.2 0 (va_up (D.2 0) D.1.1 c) 0 k) ∧ va_up D.2 0 (va_up (D.2 0) D.1.1 c) 0 k ≤ 126
        rw [cA_sA, va_up_self]
        unfold upd va_up
        by_cases hkt : k = D.1.1
        · rw [if_pos hkt, if_pos hkt]; exact ⟨rfl, hc2⟩
        · rw [if_neg hkt, if_neg hkt]; exact t3 k (by have : k < D.1.1 + 1 := hk; omega)
      · show narrow .char (.int (cA (sA C 0 _) 0 q)) = .int (cA (sA C 0 _) 0 q)
        rw [cA_sA]
        unfold upd
        split
        · exact (ch_ok c (by omega)).2
        · exact t4 q
theorem wipe_all {C : CS} {D : MS} {n : Nat} (h : Inv C D n) : (cW C).1 = (wipeM D).1 ∧ Inv (sW C (0, (cW C).2)) (wipeM D).2 (n + 1) := by
  obtain ⟨h1, h2, ⟨t1, t2, t3, t4⟩, ⟨pm, h4⟩, h5⟩ := id h
  refine ⟨t1, ⟨RB_up h1, RN_C (C := C) rfl (fun _ _ _ => rfl) h2, ⟨rfl, Nat.zero_le _, fun k hk => absurd hk (Nat.not_lt_zero _), t4⟩, ⟨pm, PaE_up (PaE_C (C := C) rfl rfl (fun _ _ _ => rfl) h4)⟩, KeR_up (KeR_C (C := C) rfl rfl (fun _ _ _ => rfl) h5)⟩⟩
theorem forget_all {C : CS} {D : MS} {n : Nat} (h : Inv C D n) (A : Nat → Nat) : (cW C).2 = (forgetQ D).1 ∧ Inv (sW C ((cW C).1, 0)) (qS (forgetQ D).2 (D.2 1) (D.2 4) A) (n + 1) := by
  obtain ⟨h1, h2, h3, ⟨pm, h4⟩, h5⟩ := id h
  exact ⟨h2.1, ⟨RB_up h1, ⟨rfl, Nat.zero_le _, fun i hi => absurd hi (Nat.not_lt_zero _)⟩, TxR_C (C := C) rfl rfl h3, ⟨pm, PaE_up (PaE_C (C := C) rfl rfl (fun _ _ _ => rfl) h4)⟩, KeR_up (KeR_C (C := C) rfl rfl (fun _ _ _ => rfl) h5)⟩⟩
theorem see_all {C : CS} {D : MS} {n : Nat} (h : Inv C D n) (r x y : Int32) (A : Nat → Nat) : (seeC C r x y).1 = (seeQ D (D.2 1) r x y).1 ∧ Inv (seeC C r x y).2 (qS (seeQ D (D.2 1) r x y).2 (D.2 1) (D.2 4) A) (n + 1) := by
  obtain ⟨h1, ⟨n1, n2, n3⟩, h3, ⟨pm, h4⟩, h5⟩ := id h
  obtain ⟨⟨b1, b2, b3, b4, b5, b6, b7⟩, b8⟩ := id h1
  have o1 := b1.1.1
  have o2 := b1.1.2.1
  unfold seeC seeQ rC hC
  rw [row_eq o1 b3.1, cell_eq b2 o2, n1]
  by_cases a1 : rowQ (D.2 1) r = false
  · rw [if_pos a1, if_pos a1]; exact ⟨rfl, Inv_keep h A⟩
  · rw [if_neg a1, if_neg a1]
    by_cases a2 : cellQ (D.2 1) x = false
    · rw [if_pos a2, if_pos a2]; exact ⟨rfl, Inv_keep h A⟩
    · rw [if_neg a2, if_neg a2]
      by_cases a3 : withinC y 0 20 = false
      · rw [if_pos a3, if_pos a3]; exact ⟨rfl, Inv_keep h A⟩
      · rw [if_neg a3, if_neg a3, if_neg (nI_pos (by omega))]
        by_cases hf : D.1.2.2.2.1 = 6
        · rw [if_pos hf, if_neg (show ¬ nI D.1.2.2.2.1 < (6 : Int32) from nI_nlt (a := D.1.2.2.2.1) (b := 6) (by omega) (by omega))]
          exact ⟨rfl, Inv_keep h A⟩
        · rw [if_neg hf, if_pos (show nI D.1.2.2.2.1 < (6 : Int32) from nI_lt (b := 6) (by omega) (by decide)), nI_clamp (by omega)]
          have a1' : rowQ (D.2 1) r = true := by cases z : rowQ (D.2 1) r; exact absurd z a1; rfl
          have a2' : cellQ (D.2 1) x = true := by cases z : cellQ (D.2 1) x; exact absurd z a2; rfl
          have a3' : withinC y 0 20 = true := by cases z : withinC y 0 20; exact absurd z a3; rfl
          obtain ⟨c, hc, rfl⟩ := rowQ_ok b1.1 a1'
          obtain ⟨e, he, rfl⟩ := cellQ_ok b1.1 a2'
          obtain ⟨m, -, hm, rfl⟩ := within_nI (a := 0) (b := 20) rfl rfl a3'
          rw [nI_clamp (show c < 2 ^ 31 by omega), nI_clamp (show e < 2 ^ 31 by omega), nI_clamp (show m < 2 ^ 31 by omega)]
          refine ⟨nI_1 _, ?_⟩
          generalize hN : D.1.2.2.2.1 = N at *
          refine ⟨RB_up h1, ⟨nI_1 _, by show N + 1 ≤ 6; omega, fun i hi => ?_⟩, TxR_C (C := C) rfl rfl h3, ⟨pm, PaE_up (PaE_C (C := C) rfl rfl (fun _ _ _ => rfl) h4)⟩, KeR_up (KeR_C (C := C) rfl rfl (fun _ _ _ => rfl) h5)⟩
          have hi' : i < N + 1 := hi
          show upd (cA C 1) N (nI c) i = nI (va_up (va_up (va_up (D.2 7) (3 * N) c) (3 * N + 1) e) (3 * N + 2) m (3 * i)) ∧ upd (cA C 2) N (nI e) i = nI (va_up (va_up (va_up (D.2 7) (3 * N) c) (3 * N + 1) e) (3 * N + 2) m (3 * i + 1)) ∧ upd (cA C 3) N (nI m) i = nI (va_up (va_up (va_up (D.2 7) (3 * N) c) (3 * N + 1) e) (3 * N + 2) m (3 * i + 2)) ∧ va_up (va_up (va_up (D.2 7) (3 * N) c) (3 * N + 1) e) (3 * N + 2) m (3 * i + 2) ≤ 20
          by_cases hiN : i = N
          · subst hiN
            unfold upd
            rw [if_pos rfl, if_pos rfl, if_pos rfl, va_up_self, va_up_ne _ _ (show 3 * i ≠ 3 * i + 2 by omega), va_up_ne _ _ (show 3 * i ≠ 3 * i + 1 by omega), va_up_self, va_up_ne _ _ (show 3 * i + 1 ≠ 3 * i + 2 by omega), va_up_self]
            exact ⟨rfl, rfl, rfl, hm⟩
          · unfold upd
            rw [if_neg hiN, if_neg hiN, if_neg hiN]
            have z : ∀ d, d < 3 → va_up (va_up (va_up (D.2 7) (3 * N) c) (3 * N + 1) e) (3 * N + 2) m (3 * i + d) = D.2 7 (3 * i + d) := fun d hd => by
              rw [va_up_ne _ _ (by omega), va_up_ne _ _ (by omega), va_up_ne _ _ (by omega)]
            have z0 : va_up (va_up (va_up (D.2 7) (3 * N) c) (3 * N + 1) e) (3 * N + 2) m (3 * i) = D.2 7 (3 * i) := z 0 (by decide)
            rw [z0, z 1 (by decide), z 2 (by decide)]
            exact n3 i (by omega)
/- what is told of things -/
theorem ground_eq {t : Nat → Nat} {L : LV} (hL : RLd L t) {c : Nat} (hc : c < t 0) (h0 : t 0 ≤ 36) : groundC L.1 L.2.1 L.2.2.1 (nI c) = nI (t (3 + c)) := by
  obtain ⟨l1, l2, l3, l4, l5, l6, l7, l8⟩ := hL
  have hs := l7 c hc
  unfold groundC
  rw [ctn_gb _ (by omega), ctn_gb _ (by omega), ctn_gb _ (by omega)]
  by_cases z0 : t (3 + c) = 0
  · rw [if_pos ((l3 c).mpr ⟨hc, z0⟩), z0]; rfl
  · rw [if_neg (fun z => z0 ((l3 c).mp z).2)]
    by_cases z1 : t (3 + c) = 1
    · rw [if_pos ((l4 c).mpr ⟨hc, z1⟩), z1]; rfl
    · rw [if_neg (fun z => z1 ((l4 c).mp z).2)]
      by_cases z2 : t (3 + c) = 2
      · rw [if_pos ((l5 c).mpr ⟨hc, z2⟩), z2]; rfl
      · rw [if_neg (fun z => z2 ((l5 c).mp z).2), show t (3 + c) = 3 by omega]; rfl
theorem stand_eq {t s : Nat → Nat} (h : Sn t s) {o : OV} (hP : RP t s o) {c : Nat} (hc : c < t 0) (h2 : 0 < t 2) : standInC o.1 o.2.2.2.1 o.2.2.2.2.2.2.2 (nI c) = if nI (s (23 + c)) = 2 then 9 else treeM t s c := by
  obtain ⟨o1, o2, o3, o4, o5, o6, -⟩ := id h.1
  obtain ⟨p1, p2, p3, p4, p5, p6⟩ := hP
  have l2 : nI (s (23 + c)) = 2 ↔ s (23 + c) = 2 := lie_0 h (by omega) 2 (by decide)
  have hrow : ∀ r, r < t 2 → (ctn (rowCellsC (o.2.2.2.2.2.2.2 r).1 (o.2.2.2.2.2.2.2 r).2.2.2.2) (nI c) = true ↔ TrIn s r c) := fun r hr => by
    obtain ⟨r1, r2, r3, r4, r5⟩ := p6 r hr
    rw [ctn_gb _ (by omega), r1]
    exact rowCells_iff (o5 r (by omega)) (o6 r (by omega)) r5 c
  unfold standInC
  rw [ctn_gb _ (by omega), p1]
  by_cases hz : s (23 + c) = 2
  · rw [if_pos ((p4 c).mpr ⟨by omega, hz⟩), if_pos (l2.mpr hz)]
  · rw [if_neg (fun z => hz ((p4 c).mp z).2), if_neg (fun z => hz (l2.mp z)), if_neg (nI_nle h2 (by omega))]
    rcases treeM_val h.1 (c := c) (by omega) with ⟨e, hn⟩ | ⟨r, hr, hk, e⟩
    · rw [e]
      have no : ∀ r, r < t 2 → ¬ ctn (rowCellsC (o.2.2.2.2.2.2.2 r).1 (o.2.2.2.2.2.2.2 r).2.2.2.2) (nI c) = true := fun r hr z => hn ⟨r, hr, (hrow r hr).mp z⟩
      rw [if_neg (no 0 h2)]
      by_cases h3 : t 2 ≤ 1
      · rw [if_pos (show nI (t 2) ≤ (1 : Int32) from nI_le (b := 1) h3 (by decide))]
      · rw [if_neg (show ¬ nI (t 2) ≤ (1 : Int32) from nI_ge (a := 1) (by omega) (by omega)), if_neg (no 1 (by omega))]
        by_cases h4 : t 2 ≤ 2
        · rw [if_pos (show nI (t 2) ≤ (2 : Int32) from nI_le (b := 2) h4 (by decide))]
        · rw [if_neg (show ¬ nI (t 2) ≤ (2 : Int32) from nI_ge (a := 2) (by omega) (by omega)), if_neg (no 2 (by omega))]
    · rw [e]
      have no : ∀ q, q < t 2 → q ≠ r → ¬ ctn (rowCellsC (o.2.2.2.2.2.2.2 q).1 (o.2.2.2.2.2.2.2 q).2.2.2.2) (nI c) = true := fun q hq hne z => hne (TrIn_one h hq hr ((hrow q hq).mp z) hk)
      have yes := (hrow r hr).mpr hk
      rcases (show r = 0 ∨ r = 1 ∨ r = 2 by omega) with y | y | y <;> subst y
      · rw [if_pos yes]; rfl
      · rw [if_neg (no 0 h2 (by decide)), if_neg (show ¬ nI (t 2) ≤ (1 : Int32) from nI_ge (a := 1) (by omega) (by omega)), if_pos yes]; rfl
      · rw [if_neg (no 0 h2 (by decide)), if_neg (show ¬ nI (t 2) ≤ (1 : Int32) from nI_ge (a := 1) (by omega) (by omega)), if_neg (no 1 (by omega) (by decide)), if_neg (show ¬ nI (t 2) ≤ (2 : Int32) from nI_ge (a := 2) (by omega) (by omega)), if_pos yes]; rfl
theorem cellR_eq {C : CS} {t s : Nat → Nat} (hI : RQ (cL C 0) (cO C 0) t s) (x w : Int32) : cellR C x w = cellR' t s x w := by
  obtain ⟨h, hL, hP, hw, hy, h2, h3⟩ := hI
  have o2 := h.1.2.1
  unfold cellR cellR' hC
  rw [cell_eq hL o2]
  by_cases a1 : cellQ t x = false
  · rw [if_pos a1, if_pos a1]
  · rw [if_neg a1, if_neg a1]
    have a1' : cellQ t x = true := by cases z : cellQ t x; exact absurd z a1; rfl
    obtain ⟨c, hc, rfl⟩ := cellQ_ok h.1 a1'
    have l1 : nI (s (23 + c)) = 1 ↔ s (23 + c) = 1 := lie_0 h (by omega) 1 (by decide)
    have eo : ownerC (cL C 0).2.2.2.2.2 (nI c) = nI (t (39 + c)) := by
      unfold ownerC
      rw [if_neg (nI_pos (by omega)), if_neg (nI_n36 (by omega)), nI_clamp (by omega)]
      exact hL.2.2.2.2.2.1 c (by omega)
    have ed : (if ctn (cO C 0).2.2.1 (nI c) = true then (1 : Int32) else 0) = if nI (s (23 + c)) = 1 then 1 else 0 := by
      rw [ctn_gb _ (by omega)]
      by_cases z : s (23 + c) = 1
      · rw [if_pos ((hP.2.2.1 c).mpr ⟨by omega, z⟩), if_pos (l1.mpr z)]
      · rw [if_neg (fun y => z ((hP.2.2.1 c).mp y).2), if_neg (fun y => z (l1.mp y))]
    rw [nI_clamp (show c < 2 ^ 31 by omega), ground_eq hL hc o2, eo, ed, stand_eq h hP hc h2]
theorem rowR_eq {C : CS} {t s : Nat → Nat} (hI : RQ (cL C 0) (cO C 0) t s) (r w : Int32) : rowR C r w = rowR' t s r w := by
  obtain ⟨h, hL, hP, hw, hy, h2, h3⟩ := hI
  obtain ⟨o1, o2, o3, o4, o5, o6, o7, o8, o9, o10, o11⟩ := id h.1
  unfold rowR rowR' rC
  rw [row_eq o1 hP.1]
  by_cases a1 : rowQ t r = false
  · rw [if_pos a1, if_pos a1]
  · rw [if_neg a1, if_neg a1]
    have a1' : rowQ t r = true := by cases z : rowQ t r; exact absurd z a1; rfl
    obtain ⟨c, hc, rfl⟩ := rowQ_ok h.1 a1'
    have o9c := o9 c hc
    have hf : s (11 + 4 * c) < t 0 := o10 c hc 0 (by omega)
    obtain ⟨r1, r2, r3, r4, r5⟩ := hP.2.2.2.2.2 c hc
    rw [nI_clamp (show c < 2 ^ 31 by omega)]
    unfold rowX
    rw [r1, r2, r3, r4, r5 0 (by omega), hP.2.1]
    have hwy := way_eq h hL hP hc (by omega)
    rw [Nat.add_zero, hwy]
    have hnx : nextC (cL C 0).2.2.2.1 (cL C 0).2.2.2.2.1 (nI (s (11 + 4 * c))) (headM t s c) = if headM t s c = -4 then -4 else besM t (s (11 + 4 * c)) (headM t s c) := by
      by_cases hn : headM t s c = -4
      · rw [if_pos hn, hn]; exact nx_m4 _ _ _
      · rw [if_neg hn]
        obtain ⟨d0, c0, hd, ed, hc0, ec⟩ := (headM_ok h.1 hc).resolve_left hn
        rw [ed]; exact bes_eq h.1 hL hf hd
    rw [hnx]
    by_cases hw4 : withinC w 0 4 = false
    · rw [if_pos hw4]
      have nw : ∀ v : Nat, v ≤ 4 → ¬ w = nI v := fun v hv z => by
        rw [z] at hw4
        unfold withinC at hw4
        rw [if_neg (nI_pos (by omega)), if_neg (show ¬ (4 : Int32) < nI v from nI_nlt (a := 4) (b := v) hv (by decide))] at hw4
        cases hw4
      rw [if_neg (show ¬ w = 0 from nw 0 (by decide)), if_neg (show ¬ w = 1 from nw 1 (by decide)), if_neg (show ¬ w = 2 from nw 2 (by decide)), if_neg (show ¬ w = 3 from nw 3 (by decide)), if_neg (show ¬ w = 4 from nw 4 (by decide))]
    · rw [if_neg hw4]
      have hw4' : withinC w 0 4 = true := by cases z : withinC w 0 4; exact absurd z hw4; rfl
      obtain ⟨v, -, hv, rfl⟩ := within_nI (a := 0) (b := 4) rfl rfl hw4'
      rcases (show v = 0 ∨ v = 1 ∨ v = 2 ∨ v = 3 ∨ v = 4 by omega) with y | y | y | y | y <;> subst y <;> rfl
theorem treeR_eq {C : CS} {t s : Nat → Nat} (hI : RQ (cL C 0) (cO C 0) t s) (r k : Int32) : treeR C r k = treeR' t s r k := by
  obtain ⟨h, hL, hP, hw, hy, h2, h3⟩ := hI
  obtain ⟨o1, o2, o3, o4, o5, -⟩ := id h.1
  unfold treeR treeR' rC
  rw [row_eq o1 hP.1]
  by_cases a1 : rowQ t r = false
  · rw [if_pos a1, if_pos a1]
  · rw [if_neg a1, if_neg a1]
    have a1' : rowQ t r = true := by cases z : rowQ t r; exact absurd z a1; rfl
    obtain ⟨c, hc, rfl⟩ := rowQ_ok h.1 a1'
    obtain ⟨r1, r2, r3, r4, r5⟩ := hP.2.2.2.2.2 c hc
    have o5c := o5 c (by omega)
    have ew : withinC k 0 3 = isOwnC k := (own_eq k).symm
    rw [nI_clamp (show c < 2 ^ 31 by omega), ew, r1]
    unfold isOwnC
    by_cases b1 : k < 0
    · rw [if_pos b1, if_pos b1, if_pos rfl]
    · rw [if_neg b1, if_neg b1]
      by_cases b2 : (4 : Int32) ≤ k
      · rw [if_pos b2, if_pos b2, if_pos rfl]
      · rw [if_neg b2, if_neg b2, if_neg (by decide)]
        obtain ⟨v, hv, rfl⟩ := nI_of b1
        have hv4 : v < 4 := by
          rcases Nat.lt_or_ge v 4 with z | z
          · exact z
          · exact absurd (nI_le (a := 4) z hv) b2
        unfold treeAtC
        rw [if_neg b1, nI_clamp hv]
        by_cases b3 : s (8 + c) ≤ v
        · rw [if_pos (nI_le b3 (by omega)), if_pos (nI_le b3 (by omega))]
        · rw [if_neg (nI_ge (by omega) (by omega)), if_neg (nI_ge (by omega) (by omega)), if_neg b2]
          exact r5 v (by omega)
theorem hasR_eq {C : CS} {t s : Nat → Nat} (hI : RQ (cL C 0) (cO C 0) t s) (p : Int32) : hasR C p = hasR' s p := by
  obtain ⟨h, hL, hP, hw, hy, h2, h3⟩ := hI
  unfold hasR hasR'
  rw [own_eq]
  by_cases a1 : withinC p 0 3 = false
  · rw [if_pos a1, if_pos a1]
  · rw [if_neg a1, if_neg a1]
    have a1' : withinC p 0 3 = true := by cases z : withinC p 0 3; exact absurd z a1; rfl
    obtain ⟨c, -, hc, rfl⟩ := within_nI (a := 0) (b := 3) rfl rfl a1'
    rw [nI_clamp (show c < 2 ^ 31 by omega)]
    exact hw c (by omega)
theorem countR_eq {C : CS} {D : MS} {n : Nat} (hI : Inv C D n) (w : Int32) : countR C w = countR' D (D.2 1) (D.2 4) w := by
  obtain ⟨⟨⟨h, hL, hP, hw, hy, h2, h3⟩, -⟩, hn, ht, ⟨pm, hp⟩, hk⟩ := hI
  unfold countR countR'
  rw [li_wi hL, hL.2.1, hP.1, hP.2.1, trees_eq h hP, cnt_eq h (w := 2) (by decide) (by decide) hP.2.2.2.1, cnt_eq h (w := 1) (by decide) (by decide) hP.2.2.1, have_eq hw, hn.1, hp.1.1, hk.1.1, ht.1]
  rfl
