/-! THE REFERENCE: years on end; acts (2) -/
theorem mvE_hi {t s : Nat → Nat} (h : OkS t s) {r d c : Nat} (hr : r < 3) (hc : c < 36) : ∀ j, 23 ≤ j → mvE t s r d c j = s j := by
  intro j hj
  have h7 := h.2.2.2.2.2.2.1 c hc
  have h5 := h.2.2.2.2.1 r hr
  unfold mvE
  rw [va_up_ne _ _ (by omega), va_up_ne _ _ (by omega), va_up_ne _ _ (by omega)]
  unfold shP
  rw [if_neg (by omega)]
theorem mvFrom_hi {t : Nat → Nat} {fr : Int32} : ∀ (q r : Nat) (s : Nat → Nat), r + q = t 2 → OkS t s → ∀ j, 23 ≤ j → mvFrom t fr q r s j = s j := by
  intro q
  induction q with
  | zero => intro r s _ _ j _; rfl
  | succ q ih =>
    intro r s hq h j hj
    have h1 := h.1
    have h2 := h.2.1
    rw [mvFrom]
    by_cases hn : dirM t s fr r = -4
    · rw [if_pos hn]; exact ih (r + 1) s (by omega) h j hj
    · rw [if_neg hn, ih (r + 1) _ (by omega) (mvS_ok h (by omega) hn) j hj]
      obtain ⟨d0, c0, hd, ed, hc, ec⟩ := dirM_ok h fr (r := r) (by omega) hn
      unfold mvS
      rw [ec, nI_clamp (n := c0) (by omega)]
      exact mvE_hi h (by omega) (by omega) j hj
theorem brIn_hi {t : Nat → Nat} {r : Nat} (hr : r < 3) : ∀ (q k : Nat) (s : Nat → Nat), k + q ≤ 4 → OkS t s → ∀ j, 23 ≤ j → brIn t r q k s j = s j := by
  intro q
  induction q with
  | zero => intro k s _ _ j _; rfl
  | succ q ih =>
    intro k s hq h j hj
    have h6 := h.2.2.2.2.2.1 r hr k (by omega)
    have h7 := h.2.2.2.2.2.2.1 _ h6
    rw [brIn, ih (k + 1) _ (by omega) (brS_ok h hr (by omega)).1 j hj]
    exact va_up_ne _ _ (by omega)
theorem brOut_hi {t : Nat → Nat} : ∀ (q r : Nat) (s : Nat → Nat), r + q ≤ 3 → OkS t s → ∀ j, 23 ≤ j → brOut t q r s j = s j := by
  intro q
  induction q with
  | zero => intro r s _ _ j _; rfl
  | succ q ih =>
    intro r s hq h j hj
    have h5 := h.2.2.2.2.1 r (by omega)
    rw [brOut, ih (r + 1) _ (by omega) (brIn_ok (by omega) _ _ _ (by omega) h) j hj]
    exact brIn_hi (by omega) _ _ _ (by omega) h j hj
theorem passM_hi {t s : Nat → Nat} (h : OkS t s) (fr : Int32) : ∀ j, 23 ≤ j → passM t s fr j = s j := by
  intro j hj
  have h1 : OkS t (mvFrom t fr (t 2) 0 s) := mvFrom_ok _ _ _ (by omega) h
  unfold passM
  rw [va_up_ne _ _ (by omega), brOut_hi _ _ _ (by have := h.1; omega) h1 j hj]
  exact mvFrom_hi _ _ _ (by omega) h j hj
def passN (t : Nat → Nat) : Nat → (Nat → Nat) → (Nat → Nat)
  | 0, s => s
  | m + 1, s => passN t m (passM t s (-1))
theorem passN_ok {t : Nat → Nat} : ∀ (m : Nat) (s : Nat → Nat), OkS t s → OkS t (passN t m s) := by
  intro m
  induction m with
  | zero => intro s h; exact h
  | succ m ih => intro s h; exact ih _ (passM_ok h (-1))
theorem passN_hi {t : Nat → Nat} : ∀ (m : Nat) (s : Nat → Nat), OkS t s → ∀ j, 23 ≤ j → passN t m s j = s j := by
  intro m
  induction m with
  | zero => intro s _ j _; rfl
  | succ m ih => intro s h j hj; rw [passN, ih _ (passM_ok h (-1)) j hj]; exact passM_hi h (-1) j hj
theorem cpN_back (a s s1 : Nat → Nat) (h : ∀ j, 59 ≤ j → s1 j = s j) : cpN s1 (cpN a s 59) 59 = s := by
  funext j
  unfold cpN
  by_cases h1 : j < 59
  · rw [if_pos h1, if_pos h1]
  · rw [if_neg h1, h j (by omega)]
theorem cpN_same (a s : Nat → Nat) : cpN (cpN a s 59) s 59 = cpN a s 59 := by
  funext j
  unfold cpN
  split <;> rfl
def leftC (s : Nat → Nat) (r : Nat) : Nat := s (11 + 4 * r + (s (8 + r) - 1))
def leavesM (s : Nat → Nat) (r : Nat) : Nat → Nat := va_up (va_up s (8 + r) (s (8 + r) - 1)) (23 + leftC s r) 2
def passQ (D : MS) (t s : Nat → Nat) (x : Int32) : Int32 × MS × (Nat → Nat) := if withinC x 1 20 = false then (-1, D, s) else (nI (passN t x.toNatClampNeg s 0), keepsU D s, passN t x.toNatClampNeg s)
def digQ (D : MS) (t s : Nat → Nat) (x : Int32) : Int32 × MS × (Nat → Nat) := if cellQ t x = false then (-1, D, s) else if mayDigM t s x.toNatClampNeg = false then (-2, D, s) else (countM t (va_up s (23 + x.toNatClampNeg) 1) 1, keepsU D s, va_up s (23 + x.toNatClampNeg) 1)
def fillQ (D : MS) (t s : Nat → Nat) (x : Int32) : Int32 × MS × (Nat → Nat) := if cellQ t x = false then (-1, D, s) else if nI (s (23 + x.toNatClampNeg)) = 1 then (countM t (va_up s (23 + x.toNatClampNeg) 0) 1, keepsU D s, va_up s (23 + x.toNatClampNeg) 0) else (-2, D, s)
def leaveQ (D : MS) (t s : Nat → Nat) (r : Int32) : Int32 × MS × (Nat → Nat) := if rowQ t r = false then (-1, D, s) else if nI (s (8 + r.toNatClampNeg)) = 1 then (-2, D, s) else (nI (leftC s r.toNatClampNeg), keepsU D s, leavesM s r.toNatClampNeg)
section R8
variable {l : Launch} {G : GG} {n : Nat} {R : Nat} {D : MS} {t s a : Nat → Nat} {ρ : Mu}
theorem q_leaves (hs : OkS t s) {r : Nat} (hr : r < 3) (h1 : 1 ≤ s (8 + r)) : Ctr l G 0 0 0 0 mX6_leaves [.ref R, .int (nI r)] n (rem R (qS D t s a) ρ) (some (.int (nI (leftC s r)))) n (rem R (qS D t (leavesM s r) a) ρ) := by
  obtain ⟨o1, o2, o3, o4, o5, o6, o7, o8, o9, o10, o11⟩ := id hs
  refine Ctr.of (by decide +kernel) rfl (fun X g E => ?_)
  have o5r := o5 r hr
  have o6r : leftC s r < 36 := o6 r hr (s (8 + r) - 1) (by omega)
  refine v_sub (ls' := [(0, .ref R), (1, .int (nI r))]) [0, 1] rfl ?_
  refine v_aload_n g dX6_leaves_0 0 rfl ?_
  refine v_get g dX6_leaves_1 fl_RX6_22 (rd_M R _ _) rfl ?_
  refine v_bipush (v := 8) g dX6_leaves_4 (by decide) ?_
  refine v_iload_n g dX6_leaves_6 1 rfl ?_
  refine v_iadd g dX6_leaves_7 (v_eqi (y := nI (8 + r)) (nI_addE rfl rfl) ?_)
  refine v_dup2 g dX6_leaves_8 rfl rfl ?_
  refine v_iald g dX6_leaves_9 (rd_MA4 R _ _) (vp_in_nI (by omega) (by decide)) (v_eqi (y := (nI (s (8 + r)))) (by first | (rw [nI_clamp (by omega)]; done) | (rw [nI_clamp (by omega)]; rfl)) ?_)
  refine v_iconst (v := 1) g dX6_leaves_10 (by decide) ?_
  refine v_isub g dX6_leaves_11 (v_eqi (y := nI ((s (8 + r)) - 1)) (nI_subE rfl rfl (by omega)) ?_)
  refine v_iast g dX6_leaves_12 (rd_MA4 R _ _) (vp_in_nI (by omega) (by decide)) ?_
  rw [nI_clamp (n := (8 + r)) (by omega)]
  refine v_meq (μ' := rem R (qS D t (va_up s (8 + r) ((s (8 + r)) - 1)) a) ρ) (st_GA R (qS D t s a) (qS D t (va_up s (8 + r) ((s (8 + r)) - 1)) a) ρ 4 (by decide) s (8 + r) ((s (8 + r)) - 1) rfl rfl rfl (fun j hj => by simp only [qS, uS, tA, va_up, if_neg hj])) ?_
  refine v_aload_n g dX6_leaves_13 0 rfl ?_
  refine v_get g dX6_leaves_14 fl_RX6_22 (rd_M R _ _) rfl ?_
  refine v_bipush (v := 11) g dX6_leaves_17 (by decide) ?_
  refine v_iconst (v := 4) g dX6_leaves_19 (by decide) ?_
  refine v_iload_n g dX6_leaves_20 1 rfl ?_
  refine v_imul g dX6_leaves_21 (v_eqi (y := nI (4 * r)) (nI_mulE rfl rfl) ?_)
  refine v_iadd g dX6_leaves_22 (v_eqi (y := nI (11 + (4 * r))) (nI_addE rfl rfl) ?_)
  refine v_aload_n g dX6_leaves_23 0 rfl ?_
  refine v_get g dX6_leaves_24 fl_RX6_22 (rd_M R _ _) rfl ?_
  refine v_bipush (v := 8) g dX6_leaves_27 (by decide) ?_
  refine v_iload_n g dX6_leaves_29 1 rfl ?_
  refine v_iadd g dX6_leaves_30 (v_eqi (y := nI (8 + r)) (nI_addE rfl rfl) ?_)
  refine v_iald g dX6_leaves_31 (rd_MA4 R _ _) (vp_in_nI (by omega) (by decide)) (v_eqi (y := (nI ((va_up s (8 + r) ((s (8 + r)) - 1)) (8 + r)))) (by first | (rw [nI_clamp (by omega)]; done) | (rw [nI_clamp (by omega)]; rfl)) ?_)
  refine v_eqi (y := nI (s (8 + r) - 1)) (congrArg nI (va_up_self _ _ _)) ?_
  refine v_iadd g dX6_leaves_32 (v_eqi (y := nI ((11 + (4 * r)) + (s (8 + r) - 1))) (nI_addE rfl rfl) ?_)
  refine v_iald g dX6_leaves_33 (rd_MA4 R _ _) (vp_in_nI (by omega) (by decide)) (v_eqi (y := (nI ((va_up s (8 + r) ((s (8 + r)) - 1)) ((11 + (4 * r)) + (s (8 + r) - 1))))) (by first | (rw [nI_clamp (by omega)]; done) | (rw [nI_clamp (by omega)]; rfl)) ?_)
  refine v_eqi (y := nI (leftC s r)) (congrArg nI (va_up_ne _ _ (by omega))) ?_
  refine v_istore_n (ls' := [(2, .int (nI (leftC s r))), (0, .ref R), (1, .int (nI r))]) g dX6_leaves_34 rfl rfl ?_
  refine v_aload_n g dX6_leaves_35 1 rfl ?_
  refine v_get g dX6_leaves_36 fl_RX6_22 (rd_M R _ _) rfl ?_
  refine v_bipush (v := 23) g dX6_leaves_39 (by decide) ?_
  refine v_iload_n g dX6_leaves_41 0 rfl ?_
  refine v_iadd g dX6_leaves_42 (v_eqi (y := nI (23 + (leftC s r))) (nI_addE rfl rfl) ?_)
  refine v_iconst (v := 2) g dX6_leaves_43 (by decide) ?_
  refine v_iast g dX6_leaves_44 (rd_MA4 R _ _) (vp_in_nI (by omega) (by decide)) ?_
  rw [nI_clamp (n := (23 + (leftC s r))) (by omega)]
  refine v_meq (μ' := rem R (qS D t (va_up (va_up s (8 + r) ((s (8 + r)) - 1)) (23 + (leftC s r)) 2) a) ρ) (st_GA R (qS D t (va_up s (8 + r) ((s (8 + r)) - 1)) a) (qS D t (va_up (va_up s (8 + r) ((s (8 + r)) - 1)) (23 + (leftC s r)) 2) a) ρ 4 (by decide) (va_up s (8 + r) ((s (8 + r)) - 1)) (23 + (leftC s r)) 2 rfl rfl rfl (fun j hj => by simp only [qS, uS, tA, va_up, if_neg hj])) ?_
  refine v_iload_n g dX6_leaves_45 0 rfl ?_
  exact v_iret g E dX6_leaves_46 rfl ⟨by rfl, rfl, rfl⟩
theorem q_pass (hs : OkS t s) (hk : D.1.2.1 ≤ 8) (x : Int32) : Ctr l G 4 99 0 0 mX6_pass [.ref R, .int x] n (rem R (qS D t s a) ρ) (some (.int (passQ D t s x).1)) n (rem R (qS (passQ D t s x).2.1 t (passQ D t s x).2.2 a) ρ) := by
  refine Ctr.of (by decide +kernel) rfl (fun X g E => ?_)
  by_cases hw : withinC x 1 20 = true
  · skip
    obtain ⟨m, hm1, hm2, em⟩ := within_nI (a := 1) (b := 20) rfl rfl hw
    subst em
    have e0 : passQ D t s (nI m) = (nI (passN t m s 0), keepsU D s, passN t m s) := by unfold passQ; rw [if_neg (by rw [hw]; decide), nI_clamp (by omega)]
    have loop : ∀ (q k : Nat) (s1 : Nat → Nat), k + q = m → OkS t s1 → passN t m s = passN t q s1 → V X 0 0 n (rem R (qS (keepsU D s) t s1 a) ρ) 18 [(2, .int (nI k)), (0, .ref R), (1, .int (nI m))] [] := by
      intro q
      induction q with
      | zero =>
        intro k s1 hq hs he
        refine v_iload_n g dX6_pass_18 0 rfl ?_
        refine v_iload_n g dX6_pass_19 2 rfl ?_
        refine v_icmp_ge (tgt := 34) g dX6_pass_20 (by decide) (fun h20 => ?_) (fun h20 => absurd (nI_le (a := m) (b := k) (by omega) (by omega)) h20)
        refine v_aload_n g dX6_pass_34 1 rfl ?_
        refine v_get g dX6_pass_35 fl_RX6_22 (rd_M R _ _) rfl ?_
        refine v_iconst (v := 0) g dX6_pass_38 (by decide) ?_
        refine v_iald g dX6_pass_39 (rd_MA4 R _ _) (by unfold vp_in; decide) (v_eqi (y := (nI (s1 0))) rfl ?_)
        exact v_iret g E dX6_pass_40 rfl ⟨by rw [e0, he]; rfl, rfl, by rw [e0, he]; rfl⟩
      | succ q ih =>
        intro k s1 hq hs he
        refine v_iload_n g dX6_pass_18 0 rfl ?_
        refine v_iload_n g dX6_pass_19 2 rfl ?_
        refine v_icmp_ge (tgt := 34) g dX6_pass_20 (by decide) (fun h20 => absurd h20 (nI_ge (a := k) (b := m) (by omega) (by omega))) (fun h20 => ?_)
        refine v_aload_n g dX6_pass_23 1 rfl ?_
        refine v_iconst (v := (-1)) g dX6_pass_24 (by decide) ?_
        refine v_callV (As := [.int (-1)]) (r := none) g dX6_pass_25 (q_passes (D := (keepsU D s)) (t := t) (s := s1) (a := a) hs (-1)) cl_X6_passes ml_RX6_138 im_X6_passes (rd_M R _ _) rfl rfl ⟨rfl, rfl, rfl⟩ ?_
        refine v_iinc (v := (nI (k + 1))) (ls' := [(2, .int (nI (k + 1))), (0, .ref R), (1, .int (nI m))]) g dX6_pass_28 0 rfl (nI_addE rfl rfl) rfl rfl ?_
        refine v_goto (tgt := 18) g dX6_pass_31 (by decide) ?_
        refine v_sub (ls' := [(2, .int (nI (k + 1))), (0, .ref R), (1, .int (nI m))]) [0, 1, 2] rfl ?_
        exact ih (k + 1) _ (by omega) (passM_ok hs (-1)) (by rw [he, passN])
    refine v_sub (ls' := [(0, .ref R), (1, .int (nI m))]) [0, 1] rfl ?_
    refine v_iload_n g dX6_pass_0 1 rfl ?_
    refine v_iconst (v := 1) g dX6_pass_1 (by decide) ?_
    refine v_bipush (v := 20) g dX6_pass_2 (by decide) ?_
    refine v_callS (As := [.int (nI m), .int 1, .int 20]) (r := some (.int (zB (withinC (nI m) 1 20)))) g dX6_pass_4 (k_X6_in (nI m) 1 20) cl_X6_in ml_RX6_54 sm_X6_in rfl ⟨rfl, rfl, rfl⟩ ?_
    refine v_if_ne (tgt := 12) g dX6_pass_7 (by decide) (fun h7 => ?_) (fun h7 => absurd h7 (by rw [hw]; decide))
    refine v_aload_n g dX6_pass_12 0 rfl ?_
    refine v_callV (As := []) (r := none) g dX6_pass_13 (q_keeps (D := D) (t := t) (s := s) (a := a) hk) cl_X6_keeps ml_RX6_135 im_X6_keeps (rd_M R _ _) rfl rfl ⟨rfl, rfl, rfl⟩ ?_
    refine v_iconst (v := 0) g dX6_pass_16 (by decide) ?_
    refine v_istore_n (ls' := [(2, .int 0), (0, .ref R), (1, .int (nI m))]) g dX6_pass_17 rfl rfl ?_
    refine v_sub (ls' := [(2, .int 0), (0, .ref R), (1, .int (nI m))]) [0, 1, 2] rfl ?_
    exact loop m 0 s (by omega) hs rfl
  · skip
    have hw0 : withinC x 1 20 = false := by cases h : withinC x 1 20; rfl; exact absurd h hw
    refine v_sub (ls' := [(0, .ref R), (1, .int x)]) [0, 1] rfl ?_
    refine v_iload_n g dX6_pass_0 1 rfl ?_
    refine v_iconst (v := 1) g dX6_pass_1 (by decide) ?_
    refine v_bipush (v := 20) g dX6_pass_2 (by decide) ?_
    refine v_callS (As := [.int x, .int 1, .int 20]) (r := some (.int (zB (withinC x 1 20)))) g dX6_pass_4 (k_X6_in x 1 20) cl_X6_in ml_RX6_54 sm_X6_in rfl ⟨rfl, rfl, rfl⟩ ?_
    refine v_if_ne (tgt := 12) g dX6_pass_7 (by decide) (fun h7 => absurd h7 (by rw [hw0]; decide)) (fun h7 => ?_)
    refine v_iconst (v := (-1)) g dX6_pass_10 (by decide) ?_
    exact v_iret g E dX6_pass_11 rfl ⟨by simp [passQ, hw0], rfl, by simp [passQ, hw0]⟩
theorem q_dig (hs : OkS t s) (hk : D.1.2.1 ≤ 8) (x : Int32) : Ctr l G 2 45 0 0 mX6_dig [.ref R, .int x] n (rem R (qS D t s a) ρ) (some (.int (digQ D t s x).1)) n (rem R (qS (digQ D t s x).2.1 t (digQ D t s x).2.2 a) ρ) := by
  refine Ctr.of (by decide +kernel) rfl (fun X g E => ?_)
  have o2 := hs.2.1
  refine v_sub (ls' := [(0, .ref R), (1, .int x)]) [0, 1] rfl ?_
  refine v_aload_n g dX6_dig_0 0 rfl ?_
  refine v_iload_n g dX6_dig_1 1 rfl ?_
  refine v_callV (As := [.int x]) (r := some (.int (zB (cellQ t x)))) g dX6_dig_2 (q_isCell (D := D) (t := t) x) cl_X6_isCell ml_RX6_110 im_X6_isCell (rd_M R _ _) rfl rfl ⟨rfl, rfl, rfl⟩ ?_
  refine v_if_ne (tgt := 10) g dX6_dig_5 (by decide) (fun h5 => ?_) (fun h5 => ?_)
  · skip
    have h5 := zB_t0 h5
    obtain ⟨c, hc, ec⟩ := cellQ_ok hs h5
    subst ec
    refine v_aload_n g dX6_dig_10 0 rfl ?_
    refine v_iload_n g dX6_dig_11 1 rfl ?_
    refine v_callV (As := [.int (nI c)]) (r := some (.int (zB (mayDigM t s c)))) g dX6_dig_12 (k_X6_mayDig (D := (qS D t s a)) hs (c := c) (show c < 36 by omega)) cl_X6_mayDig ml_RX6_141 im_X6_mayDig (rd_M R _ _) rfl rfl ⟨rfl, rfl, rfl⟩ ?_
    refine v_if_ne (tgt := 21) g dX6_dig_15 (by decide) (fun h15 => ?_) (fun h15 => ?_)
    · skip
      have h15 := zB_t0 h15
      refine v_aload_n g dX6_dig_21 0 rfl ?_
      refine v_callV (As := []) (r := none) g dX6_dig_22 (q_keeps (D := D) (t := t) (s := s) (a := a) hk) cl_X6_keeps ml_RX6_135 im_X6_keeps (rd_M R _ _) rfl rfl ⟨rfl, rfl, rfl⟩ ?_
      refine v_aload_n g dX6_dig_25 0 rfl ?_
      refine v_get g dX6_dig_26 fl_RX6_22 (rd_M R _ _) rfl ?_
      refine v_bipush (v := 23) g dX6_dig_29 (by decide) ?_
      refine v_iload_n g dX6_dig_31 1 rfl ?_
      refine v_iadd g dX6_dig_32 (v_eqi (y := nI (23 + c)) (nI_addE rfl rfl) ?_)
      refine v_iconst (v := 1) g dX6_dig_33 (by decide) ?_
      refine v_iast g dX6_dig_34 (rd_MA4 R _ _) (vp_in_nI (by omega) (by decide)) ?_
      rw [nI_clamp (n := (23 + c)) (by omega)]
      refine v_meq (μ' := rem R (qS (keepsU D s) t (va_up s (23 + c) 1) a) ρ) (st_GA R (qS (keepsU D s) t s a) (qS (keepsU D s) t (va_up s (23 + c) 1) a) ρ 4 (by decide) s (23 + c) 1 rfl rfl rfl (fun j hj => by simp only [qS, uS, tA, va_up, if_neg hj])) ?_
      have hs := okS_of hs (s' := va_up s (23 + c) 1) (fun j h1 h2 => va_up_ne _ _ (by omega))
      refine v_aload_n g dX6_dig_35 0 rfl ?_
      refine v_iconst (v := 1) g dX6_dig_36 (by decide) ?_
      refine v_callV (As := [.int 1]) (r := some (.int (countM t (va_up s (23 + c) 1) 1))) g dX6_dig_37 (k_X6_countOf (D := (qS (keepsU D s) t (va_up s (23 + c) 1) a)) hs 1) cl_X6_countOf ml_RX6_144 im_X6_countOf (rd_M R _ _) rfl rfl ⟨rfl, rfl, rfl⟩ ?_
      exact v_iret g E dX6_dig_40 rfl ⟨by first | (simp [digQ, *]; done) | (simp [digQ, *, nI_clamp (show c < 2 ^ 31 by omega)]; done), rfl, by first | (simp [digQ, *]; done) | (simp [digQ, *, nI_clamp (show c < 2 ^ 31 by omega)]; done)⟩
    · skip
      have h15 := zB_f0 h15
      refine v_bipush (v := (-2)) g dX6_dig_18 (by decide) ?_
      exact v_iret g E dX6_dig_20 rfl ⟨by first | (simp [digQ, *]; done) | (simp [digQ, *, nI_clamp (show c < 2 ^ 31 by omega)]; done), rfl, by first | (simp [digQ, *]; done) | (simp [digQ, *, nI_clamp (show c < 2 ^ 31 by omega)]; done)⟩
  · skip
    have h5 := zB_f0 h5
    refine v_iconst (v := (-1)) g dX6_dig_8 (by decide) ?_
    exact v_iret g E dX6_dig_9 rfl ⟨by first | (simp [digQ, *]; done) | (simp [digQ, *, nI_clamp (show c < 2 ^ 31 by omega)]; done), rfl, by first | (simp [digQ, *]; done) | (simp [digQ, *, nI_clamp (show c < 2 ^ 31 by omega)]; done)⟩
theorem q_fill (hs : OkS t s) (hk : D.1.2.1 ≤ 8) (x : Int32) : Ctr l G 2 44 0 0 mX6_fill [.ref R, .int x] n (rem R (qS D t s a) ρ) (some (.int (fillQ D t s x).1)) n (rem R (qS (fillQ D t s x).2.1 t (fillQ D t s x).2.2 a) ρ) := by
  refine Ctr.of (by decide +kernel) rfl (fun X g E => ?_)
  have o2 := hs.2.1
  refine v_sub (ls' := [(0, .ref R), (1, .int x)]) [0, 1] rfl ?_
  refine v_aload_n g dX6_fill_0 0 rfl ?_
  refine v_iload_n g dX6_fill_1 1 rfl ?_
  refine v_callV (As := [.int x]) (r := some (.int (zB (cellQ t x)))) g dX6_fill_2 (q_isCell (D := D) (t := t) x) cl_X6_isCell ml_RX6_110 im_X6_isCell (rd_M R _ _) rfl rfl ⟨rfl, rfl, rfl⟩ ?_
  refine v_if_ne (tgt := 10) g dX6_fill_5 (by decide) (fun h5 => ?_) (fun h5 => ?_)
  · skip
    have h5 := zB_t0 h5
    obtain ⟨c, hc, ec⟩ := cellQ_ok hs h5
    subst ec
    refine v_aload_n g dX6_fill_10 0 rfl ?_
    refine v_iload_n g dX6_fill_11 1 rfl ?_
    refine v_callV (As := [.int (nI c)]) (r := some (.int (nI (s (23 + c))))) g dX6_fill_12 (k_X6_lies (D := (qS D t s a)) (c := c) (show c < 36 by omega)) cl_X6_lies ml_RX6_113 im_X6_lies (rd_M R _ _) rfl rfl ⟨rfl, rfl, rfl⟩ ?_
    refine v_iconst (v := 1) g dX6_fill_15 (by decide) ?_
    refine v_icmp_eq (tgt := 22) g dX6_fill_16 (by decide) (fun h16 => ?_) (fun h16 => ?_)
    · skip
      refine v_aload_n g dX6_fill_22 0 rfl ?_
      refine v_callV (As := []) (r := none) g dX6_fill_23 (q_keeps (D := D) (t := t) (s := s) (a := a) hk) cl_X6_keeps ml_RX6_135 im_X6_keeps (rd_M R _ _) rfl rfl ⟨rfl, rfl, rfl⟩ ?_
      refine v_aload_n g dX6_fill_26 0 rfl ?_
      refine v_get g dX6_fill_27 fl_RX6_22 (rd_M R _ _) rfl ?_
      refine v_bipush (v := 23) g dX6_fill_30 (by decide) ?_
      refine v_iload_n g dX6_fill_32 1 rfl ?_
      refine v_iadd g dX6_fill_33 (v_eqi (y := nI (23 + c)) (nI_addE rfl rfl) ?_)
      refine v_iconst (v := 0) g dX6_fill_34 (by decide) ?_
      refine v_iast g dX6_fill_35 (rd_MA4 R _ _) (vp_in_nI (by omega) (by decide)) ?_
      rw [nI_clamp (n := (23 + c)) (by omega)]
      refine v_meq (μ' := rem R (qS (keepsU D s) t (va_up s (23 + c) 0) a) ρ) (st_GA R (qS (keepsU D s) t s a) (qS (keepsU D s) t (va_up s (23 + c) 0) a) ρ 4 (by decide) s (23 + c) 0 rfl rfl rfl (fun j hj => by simp only [qS, uS, tA, va_up, if_neg hj])) ?_
      have hs := okS_of hs (s' := va_up s (23 + c) 0) (fun j h1 h2 => va_up_ne _ _ (by omega))
      refine v_aload_n g dX6_fill_36 0 rfl ?_
      refine v_iconst (v := 1) g dX6_fill_37 (by decide) ?_
      refine v_callV (As := [.int 1]) (r := some (.int (countM t (va_up s (23 + c) 0) 1))) g dX6_fill_38 (k_X6_countOf (D := (qS (keepsU D s) t (va_up s (23 + c) 0) a)) hs 1) cl_X6_countOf ml_RX6_144 im_X6_countOf (rd_M R _ _) rfl rfl ⟨rfl, rfl, rfl⟩ ?_
      exact v_iret g E dX6_fill_41 rfl ⟨by first | (simp [fillQ, *]; done) | (simp [fillQ, *, nI_clamp (show c < 2 ^ 31 by omega)]; done), rfl, by first | (simp [fillQ, *]; done) | (simp [fillQ, *, nI_clamp (show c < 2 ^ 31 by omega)]; done)⟩
    · skip
      refine v_bipush (v := (-2)) g dX6_fill_19 (by decide) ?_
      exact v_iret g E dX6_fill_21 rfl ⟨by first | (simp [fillQ, *]; done) | (simp [fillQ, *, nI_clamp (show c < 2 ^ 31 by omega)]; done), rfl, by first | (simp [fillQ, *]; done) | (simp [fillQ, *, nI_clamp (show c < 2 ^ 31 by omega)]; done)⟩
  · skip
    have h5 := zB_f0 h5
    refine v_iconst (v := (-1)) g dX6_fill_8 (by decide) ?_
    exact v_iret g E dX6_fill_9 rfl ⟨by first | (simp [fillQ, *]; done) | (simp [fillQ, *, nI_clamp (show c < 2 ^ 31 by omega)]; done), rfl, by first | (simp [fillQ, *]; done) | (simp [fillQ, *, nI_clamp (show c < 2 ^ 31 by omega)]; done)⟩
theorem q_leave (hs : OkS t s) (hk : D.1.2.1 ≤ 8) (x : Int32) : Ctr l G 2 43 0 0 mX6_leave [.ref R, .int x] n (rem R (qS D t s a) ρ) (some (.int (leaveQ D t s x).1)) n (rem R (qS (leaveQ D t s x).2.1 t (leaveQ D t s x).2.2 a) ρ) := by
  obtain ⟨o1, o2, o3, o4, o5, o6, o7, o8, o9, o10, o11⟩ := id hs
  refine Ctr.of (by decide +kernel) rfl (fun X g E => ?_)
  refine v_sub (ls' := [(0, .ref R), (1, .int x)]) [0, 1] rfl ?_
  refine v_aload_n g dX6_leave_0 0 rfl ?_
  refine v_iload_n g dX6_leave_1 1 rfl ?_
  refine v_callV (As := [.int x]) (r := some (.int (zB (rowQ t x)))) g dX6_leave_2 (q_isRow (D := D) (t := t) x) cl_X6_isRow ml_RX6_126 im_X6_isRow (rd_M R _ _) rfl rfl ⟨rfl, rfl, rfl⟩ ?_
  refine v_if_ne (tgt := 10) g dX6_leave_5 (by decide) (fun h5 => ?_) (fun h5 => ?_)
  · skip
    have h5 := zB_t0 h5
    obtain ⟨c, hc, ec⟩ := rowQ_ok hs h5
    subst ec
    have o9c := o9 c hc
    refine v_aload_n g dX6_leave_10 0 rfl ?_
    refine v_get g dX6_leave_11 fl_RX6_22 (rd_M R _ _) rfl ?_
    refine v_bipush (v := 8) g dX6_leave_14 (by decide) ?_
    refine v_iload_n g dX6_leave_16 1 rfl ?_
    refine v_iadd g dX6_leave_17 (v_eqi (y := nI (8 + c)) (nI_addE rfl rfl) ?_)
    refine v_iald g dX6_leave_18 (rd_MA4 R _ _) (vp_in_nI (by omega) (by decide)) (v_eqi (y := (nI (s (8 + c)))) (by first | (rw [nI_clamp (by omega)]; done) | (rw [nI_clamp (by omega)]; rfl)) ?_)
    refine v_iconst (v := 1) g dX6_leave_19 (by decide) ?_
    refine v_icmp_ne (tgt := 26) g dX6_leave_20 (by decide) (fun h20 => ?_) (fun h20 => ?_)
    · skip
      refine v_aload_n g dX6_leave_26 0 rfl ?_
      refine v_callV (As := []) (r := none) g dX6_leave_27 (q_keeps (D := D) (t := t) (s := s) (a := a) hk) cl_X6_keeps ml_RX6_135 im_X6_keeps (rd_M R _ _) rfl rfl ⟨rfl, rfl, rfl⟩ ?_
      refine v_aload_n g dX6_leave_30 0 rfl ?_
      refine v_iload_n g dX6_leave_31 1 rfl ?_
      refine v_callV (As := [.int (nI c)]) (r := some (.int (nI (leftC s c)))) g dX6_leave_32 (q_leaves (D := (keepsU D s)) (t := t) (s := s) (a := a) hs (r := c) (by omega) (by omega)) cl_X6_leaves ml_RX6_147 im_X6_leaves (rd_M R _ _) rfl rfl ⟨rfl, rfl, rfl⟩ ?_
      exact v_iret g E dX6_leave_35 rfl ⟨by first | (simp [leaveQ, *]; done) | (simp [leaveQ, *, nI_clamp (show c < 2 ^ 31 by omega)]; done), rfl, by first | (simp [leaveQ, *]; done) | (simp [leaveQ, *, nI_clamp (show c < 2 ^ 31 by omega)]; done)⟩
    · skip
      refine v_bipush (v := (-2)) g dX6_leave_23 (by decide) ?_
      exact v_iret g E dX6_leave_25 rfl ⟨by first | (simp [leaveQ, *]; done) | (simp [leaveQ, *, nI_clamp (show c < 2 ^ 31 by omega)]; done), rfl, by first | (simp [leaveQ, *]; done) | (simp [leaveQ, *, nI_clamp (show c < 2 ^ 31 by omega)]; done)⟩
  · skip
    have h5 := zB_f0 h5
    refine v_iconst (v := (-1)) g dX6_leave_8 (by decide) ?_
    exact v_iret g E dX6_leave_9 rfl ⟨by first | (simp [leaveQ, *]; done) | (simp [leaveQ, *, nI_clamp (show c < 2 ^ 31 by omega)]; done), rfl, by first | (simp [leaveQ, *]; done) | (simp [leaveQ, *, nI_clamp (show c < 2 ^ 31 by omega)]; done)⟩
end R8
