/-! THE REFERENCE: it reads a text (4): all items; it lays -/
theorem rlM_ok {D : MS} : ∀ (u m p : Nat) (dr : Nat → Nat), m + u = 6 → dr 0 + m ≤ 36 → (rlM D u m p dr).1 = true → ∃ m', m ≤ m' ∧ 1 ≤ m' ∧ m' ≤ 6 ∧ dr 0 + m' ≤ 36 ∧ (rlM D u m p dr).2.2 0 = dr 0 + m' ∧ (rlM D u m p dr).2.2 1 = m' ∧ (rlM D u m p dr).2.2 2 = dr 2 ∧ p + 1 ≤ (rlM D u m p dr).2.1 ∧ (rlM D u m p dr).2.1 ≤ p + u + 1 := by
  have fin : ∀ (u m p : Nat) (dr : Nat → Nat), m ≤ 6 → dr 0 + m ≤ 36 → (rlEndM D m p dr).1 = true → ∃ m', m ≤ m' ∧ 1 ≤ m' ∧ m' ≤ 6 ∧ dr 0 + m' ≤ 36 ∧ (rlEndM D m p dr).2.2 0 = dr 0 + m' ∧ (rlEndM D m p dr).2.2 1 = m' ∧ (rlEndM D m p dr).2.2 2 = dr 2 ∧ p + 1 ≤ (rlEndM D m p dr).2.1 ∧ (rlEndM D m p dr).2.1 ≤ p + u + 1 := by
    intro u m p dr hm h0 h
    unfold rlEndM at h ⊢
    by_cases a1 : letM D p = 59
    · rw [if_pos a1] at h ⊢
      by_cases a2 : m = 0
      · rw [if_pos a2] at h; cases h
      · rw [if_neg a2] at h ⊢
        by_cases a3 : 0 < dr 0 ∧ ¬ m = dr 1
        · rw [if_pos a3] at h; cases h
        · rw [if_neg a3] at h ⊢
          by_cases a4 : 6 * m ≤ dr 0
          · rw [if_pos a4] at h; cases h
          · rw [if_neg a4]
            exact ⟨m, Nat.le_refl _, by omega, hm, h0, by dsimp only; rw [va_up_self], by dsimp only; rw [va_up_ne _ _ (by omega), va_up_self], by dsimp only; rw [va_up_ne _ _ (by omega), va_up_ne _ _ (by omega)], Nat.le_refl _, by dsimp only; omega⟩
    · rw [if_neg a1] at h; cases h
  intro u
  induction u with
  | zero => intro m p dr hm h0 h; exact fin 0 m p dr (by omega) h0 h
  | succ u ih =>
    intro m p dr hm h0 h
    rw [rlM] at h ⊢
    by_cases a1 : withinC (letM D p) 48 51 = true
    · rw [if_pos a1] at h ⊢
      by_cases a2 : 36 ≤ dr 0 + m
      · rw [if_pos a2] at h; cases h
      · rw [if_neg a2] at h ⊢
        have e0 : ∀ j, j < 3 → va_up dr (3 + (dr 0 + m)) ((letM D p).toNatClampNeg - 48) j = dr j := fun j hj => va_up_ne _ _ (by omega)
        obtain ⟨m', b1, b2, b3, b4, b5, b6, b7, b8, b9⟩ := ih (m + 1) (p + 1) _ (by omega) (by rw [e0 0 (by omega)]; omega) h
        rw [e0 0 (by omega)] at b4 b5
        rw [e0 2 (by omega)] at b7
        exact ⟨m', by omega, b2, b3, b4, b5, b6, b7, by omega, by omega⟩
    · rw [if_neg a1] at h ⊢
      exact fin (u + 1) m p dr (by omega) h0 h
theorem tkM_ok {dr be : Nat → Nat} {r c : Nat} (h : tkM dr be r c = true) (h4 : be (8 + r) ≤ 4) : be (8 + r) < 4 := by
  rcases Nat.lt_or_ge (be (8 + r)) 4 with z | z
  · exact z
  · exfalso
    unfold tkM at h
    rw [if_pos (by rw [show be (8 + r) = 4 by omega]; rfl)] at h
    cases h
theorem rrM_ok {D : MS} {dr : Nat → Nat} {r : Nat} (hr : r < 3) (h0 : dr 0 ≤ 36) : ∀ (u p : Nat) (be : Nat → Nat), (∀ q, q < 3 → be (8 + q) ≤ 4) → (∀ j, j < 12 → be (11 + j) < 36) → (rrM D dr r u p be).1 = true → (∀ q, q < 3 → (rrM D dr r u p be).2.2 (8 + q) ≤ 4) ∧ (∀ j, j < 12 → (rrM D dr r u p be).2.2 (11 + j) < 36) ∧ (∀ q, q ≠ r → q < 3 → (rrM D dr r u p be).2.2 (8 + q) = be (8 + q)) ∧ p + 1 ≤ (rrM D dr r u p be).2.1 ∧ (rrM D dr r u p be).2.1 ≤ p + 3 * u := by
  intro u
  induction u with
  | zero => intro p be _ _ h; cases h
  | succ u ih =>
    intro p be v3 v4 h
    have fa := fig_at D 0 (nI (dr 0) - 1) p
    rcases fig_v D 0 (nI (dr 0) - 1) p with e | ⟨c, hc, ec, wc⟩
    · rw [rr_a (by rw [e]; exact m1_lt)] at h; cases h
    · have lc := wi_dr wc hc h0
      by_cases a1 : tkM dr be r c = true
      · have h4 := tkM_ok a1 (v3 r hr)
        have s3 : ∀ q, q < 3 → stM be r c (8 + q) ≤ 4 := fun q hq => by unfold stM va_up; have := v3 q hq; (repeat' split) <;> omega
        have s4 : ∀ j, j < 12 → stM be r c (11 + j) < 36 := fun j hj => by unfold stM va_up; have := v4 j hj; (repeat' split) <;> omega
        have s5 : ∀ q, q ≠ r → q < 3 → stM be r c (8 + q) = be (8 + q) := fun q hq hq3 => by unfold stM; rw [va_up_ne _ _ (by omega), va_up_ne _ _ (by omega)]
        by_cases a2 : letM D (figM D 0 (nI (dr 0) - 1) p).2 = 44
        · rw [rr_c hc ec.symm a1 a2] at h ⊢
          obtain ⟨b1, b2, b3, b4, b5⟩ := ih _ _ s3 s4 h
          exact ⟨b1, b2, fun q hq hq3 => (b3 q hq hq3).trans (s5 q hq hq3), by omega, by omega⟩
        · by_cases a3 : letM D (figM D 0 (nI (dr 0) - 1) p).2 = 59
          · rw [rr_d hc ec.symm a1 a2 a3]
            exact ⟨s3, s4, s5, by (try dsimp only); omega, by (try dsimp only); omega⟩
          · rw [rr_e hc ec.symm a1 a2 a3] at h; cases h
      · rw [rr_b hc ec.symm (by cases z : tkM dr be r c; rfl; exact absurd z a1)] at h; cases h
def riM (D : MS) (p : Nat) (dr be : Nat → Nat) : Bool × Nat × (Nat → Nat) × (Nat → Nat) :=
  if nI (D.2 0 p) = 108 then ((rlM D 6 0 (p + 1) dr).1, (rlM D 6 0 (p + 1) dr).2.1, (rlM D 6 0 (p + 1) dr).2.2, be)
  else if nI (D.2 0 p) = 111 then ((roM D (p + 1) dr).1, (roM D (p + 1) dr).2.1, (roM D (p + 1) dr).2.2, be)
  else if nI (D.2 0 p) = 116 then rwM D (p + 1) dr be
  else (false, p + 1, dr, be)
def raM (D : MS) : Nat → Nat → (Nat → Nat) → (Nat → Nat) → Int32 × Nat × (Nat → Nat) × (Nat → Nat)
  | 0, p, dr, be => (-4, p, dr, be)
  | u + 1, p, dr, be => if D.1.1 ≤ p then (-4, p, dr, be) else if (riM D p dr be).1 = true then raM D u (riM D p dr be).2.1 (riM D p dr be).2.2.1 (riM D p dr be).2.2.2 else (nI p, (riM D p dr be).2)
theorem roM_ok {D : MS} {p : Nat} {dr : Nat → Nat} (h : (roM D p dr).1 = true) : (∀ j, j < 39 → (roM D p dr).2.2 j = dr j) ∧ p + 1 ≤ (roM D p dr).2.1 ∧ (roM D p dr).2.1 ≤ p + 9 := by
  have a1 := num_at D 0 (nI (dr 0) - 1) 44 p
  rcases num_v D 0 (nI (dr 0) - 1) 44 p with e | ⟨x, hx, ex, -⟩
  · rw [roM_0 (by rw [e]; exact m1_lt)] at h; cases h
  · have a2 := num_at D (nI x) (nI (dr 0) - 1) 44 (numM D 0 (nI (dr 0) - 1) 44 p).2
    rcases num_v D (nI x) (nI (dr 0) - 1) 44 (numM D 0 (nI (dr 0) - 1) 44 p).2 with e | ⟨y, hy, ey, -⟩
    · rw [roM_1 hx ex.symm (by rw [e]; exact m1_lt)] at h; cases h
    · have a3 := num_at D 0 3 59 (numM D (nI x) (nI (dr 0) - 1) 44 (numM D 0 (nI (dr 0) - 1) 44 p).2).2
      rcases num_v D 0 3 59 (numM D (nI x) (nI (dr 0) - 1) 44 (numM D 0 (nI (dr 0) - 1) 44 p).2).2 with e | ⟨q, hq, eq, -⟩
      · rw [roM_2 hx ex.symm hy ey.symm (by rw [e]; exact m1_lt)] at h; cases h
      · rw [roM_3 hx ex.symm hy ey.symm hq eq.symm]
        refine ⟨fun j hj => ?_, by (try dsimp only); omega, by (try dsimp only); omega⟩
        show ownsM dr x y q j = dr j
        unfold ownsM
        rw [if_neg (by omega)]
theorem rwM_ok {D : MS} {p : Nat} {dr be : Nat → Nat} (hw : OkW dr be) (h : (rwM D p dr be).1 = true) : OkW (rwM D p dr be).2.2.1 (rwM D p dr be).2.2.2 ∧ p + 1 ≤ (rwM D p dr be).2.1 ∧ (rwM D p dr be).2.1 ≤ p + 24 := by
  obtain ⟨w0, w1, w2, w3, w4, w5, w6⟩ := hw
  have a1 := num_at D 0 3 44 p
  rcases num_v D 0 3 44 p with e | ⟨k, hk, ek, -⟩
  · rw [rw_0 (by rw [e]; exact m1_lt)] at h; cases h
  · have a2 := num_at D 0 3 44 (numM D 0 3 44 p).2
    rcases num_v D 0 3 44 (numM D 0 3 44 p).2 with e | ⟨d, hd, ed, -⟩
    · rw [rw_1 hk ek.symm (by rw [e]; exact m1_lt)] at h; cases h
    · have a3 := num_at D 0 9 44 (numM D 0 3 44 (numM D 0 3 44 p).2).2
      rcases num_v D 0 9 44 (numM D 0 3 44 (numM D 0 3 44 p).2).2 with e | ⟨b, hb, eb, -⟩
      · rw [rw_2 hk ek.symm hd ed.symm (by rw [e]; exact m1_lt)] at h; cases h
      · by_cases a4 : dr 2 = 3
        · rw [rw_3 hk ek.symm hd ed.symm hb eb.symm a4] at h; cases h
        · rw [rw_4 hk ek.symm hd ed.symm hb eb.symm a4] at h ⊢
          have hr : dr 2 < 3 := by omega
          obtain ⟨y0, y1, y2⟩ := rowD_at dr k b hr
          have v3 : ∀ q, q < 3 → rowB dr be d (8 + q) ≤ 4 := fun q hq => by unfold rowB; rw [va_up_ne _ _ (by omega)]; exact w3 q hq
          have v4 : ∀ j, j < 12 → rowB dr be d (11 + j) < 36 := fun j hj => by unfold rowB; rw [va_up_ne _ _ (by omega)]; exact w4 j hj
          dsimp only at h ⊢
          obtain ⟨b1, b2, b3, b4, b5⟩ := rrM_ok (D := D) (dr := rowD dr k b) hr (by rw [y0]; exact w0) 5 _ _ v3 v4 h
          refine ⟨⟨by show rowD dr k b 0 ≤ 36; omega, by show rowD dr k b 1 ≤ 6; omega, by show rowD dr k b 2 ≤ 3; omega, b1, b2, fun hz => ?_, fun q hq hq3 => ?_⟩, by (try dsimp only); omega, by (try dsimp only); omega⟩
          · show 1 ≤ rowD dr k b 1
            have hz' : 0 < rowD dr k b 0 := hz
            rw [y0] at hz'
            rw [y1]; exact w5 hz'
          · have hq' : rowD dr k b 2 ≤ q := hq
            rw [y2] at hq'
            (try dsimp only)
            rw [b3 q (by omega) hq3]
            unfold rowB
            rw [va_up_ne _ _ (by omega)]
            exact w6 q (by omega) hq3
theorem riM_ok {D : MS} {p : Nat} {dr be : Nat → Nat} (hw : OkW dr be) (h : (riM D p dr be).1 = true) : OkW (riM D p dr be).2.2.1 (riM D p dr be).2.2.2 ∧ p + 1 ≤ (riM D p dr be).2.1 ∧ (riM D p dr be).2.1 ≤ p + 30 := by
  obtain ⟨w0, w1, w2, w3, w4, w5, w6⟩ := id hw
  unfold riM at h ⊢
  by_cases a1 : nI (D.2 0 p) = 108
  · rw [if_pos a1] at h ⊢
    obtain ⟨m', b1, b2, b3, b4, b5, b6, b7, b8, b9⟩ := rlM_ok 6 0 (p + 1) dr rfl (by omega) h
    refine ⟨⟨?_, ?_, ?_, w3, w4, fun _ => ?_, fun q hq hq3 => ?_⟩, ?_, ?_⟩ <;> dsimp only at *
    · omega
    · omega
    · omega
    · omega
    · exact w6 q (by omega) hq3
    · omega
    · omega
  · rw [if_neg a1] at h ⊢
    by_cases a2 : nI (D.2 0 p) = 111
    · rw [if_pos a2] at h ⊢
      obtain ⟨b1, b2, b3⟩ := roM_ok h
      refine ⟨⟨?_, ?_, ?_, w3, w4, fun hz => ?_, fun q hq hq3 => ?_⟩, ?_, ?_⟩ <;> dsimp only at *
      · rw [b1 0 (by omega)]; exact w0
      · rw [b1 1 (by omega)]; exact w1
      · rw [b1 2 (by omega)]; exact w2
      · rw [b1 0 (by omega)] at hz; rw [b1 1 (by omega)]; exact w5 hz
      · rw [b1 2 (by omega)] at hq; exact w6 q hq hq3
      · omega
      · omega
    · rw [if_neg a2] at h ⊢
      by_cases a3 : nI (D.2 0 p) = 116
      · rw [if_pos a3] at h ⊢
        obtain ⟨b1, b2, b3⟩ := rwM_ok hw h
        exact ⟨b1, by omega, by omega⟩
      · rw [if_neg a3] at h; cases h
theorem zrW (dr be : Nat → Nat) : OkW (zrM 81 dr) (zrM 59 be) := by
  have e : ∀ j, j < 81 → zrM 81 dr j = 0 := fun j hj => by unfold zrM; rw [if_pos hj]
  have e2 : ∀ j, j < 59 → zrM 59 be j = 0 := fun j hj => by unfold zrM; rw [if_pos hj]
  refine ⟨?_, ?_, ?_, fun r hr => ?_, fun j hj => ?_, fun h => ?_, fun r _ hr => e2 _ (by omega)⟩
  · rw [e 0 (by omega)]; omega
  · rw [e 1 (by omega)]; omega
  · rw [e 2 (by omega)]; omega
  · rw [e2 _ (by omega)]; omega
  · rw [e2 _ (by omega)]; omega
  · rw [e 0 (by omega)] at h; omega
def raR (D : MS) : Int32 × Nat × (Nat → Nat) × (Nat → Nat) := raM D 201 0 (zrM 81 (D.2 2)) (zrM 59 (D.2 3))
def rdU (D : MS) : MS := dS D (raR D).2.1 (raR D).2.2.1 (raR D).2.2.2
def layU (D : MS) : MS := ((D.1.1, 0, 0, 0, D.1.2.2.2.2), va_up (va_up D.2 1 (cpN (D.2 1) (D.2 2) 81)) 4 (cpN (D.2 4) (D.2 3) 59))
def layQ (D : MS) : Int32 × MS := if ¬ (raR D).1 = -4 then (-2, rdU D) else if nI ((raR D).2.2.1 2) = 0 then (-2, rdU D) else (nI ((raR D).2.2.1 2), layU (rdU D))
section R15
variable {l : Launch} {G : GG} {n : Nat} {R : Nat} {D : MS} {p : Nat} {dr be : Nat → Nat} {ρ : Mu}
theorem q_begins  : Ctr l G 0 0 0 0 mX6_begins [.ref R] n (rem R (dS D p dr be) ρ) none n (rem R (dS D p (zrM 81 dr) (zrM 59 be)) ρ) := by
  refine Ctr.of (by decide +kernel) rfl (fun X g E => ?_)
  have two : ∀ (u k : Nat), k + u = 59 → V X 0 0 n (rem R (dS D p (zrM 81 dr) (zrM k be)) ρ) 23 [(1, .int (nI k)), (0, .ref R)] [] := by
    intro u
    induction u with
    | zero =>
      intro k hu
      obtain rfl : k = 59 := by omega
      refine v_iload_n g dX6_begins_23 0 rfl ?_
      refine v_bipush (v := 59) g dX6_begins_24 (by decide) ?_
      refine v_icmp_ge (tgt := 42) g dX6_begins_26 (by decide) (fun h26 => ?_) (fun h26 => absurd (by decide) h26)
      exact v_vret g E dX6_begins_42 rfl ⟨rfl, rfl, rfl⟩
    | succ u ih =>
      intro k hu
      refine v_iload_n g dX6_begins_23 0 rfl ?_
      refine v_bipush (v := 59) g dX6_begins_24 (by decide) ?_
      refine v_icmp_ge (tgt := 42) g dX6_begins_26 (by decide) (fun h26 => absurd h26 (nI_ge (a := k) (b := 59) (by omega) (by decide))) (fun h26 => ?_)
      refine v_aload_n g dX6_begins_29 1 rfl ?_
      refine v_get g dX6_begins_30 fl_RX6_19 (rd_M R _ _) rfl ?_
      refine v_iload_n g dX6_begins_33 0 rfl ?_
      refine v_iconst (v := 0) g dX6_begins_34 (by decide) ?_
      refine v_iast g dX6_begins_35 (rd_MA3 R _ _) (vp_in_nI (by omega) (by decide)) ?_
      rw [nI_clamp (n := k) (by omega)]
      refine v_meq (μ' := rem R (dS D p (zrM 81 dr) (va_up (zrM k be) k 0)) ρ) (st_GA R (dS D p (zrM 81 dr) (zrM k be)) (dS D p (zrM 81 dr) (va_up (zrM k be) k 0)) ρ 3 (by decide) (zrM k be) k 0 rfl rfl rfl (fun j hj => by simp only [dS, va_up, if_neg hj])) ?_
      refine v_iinc (v := (nI (k + 1))) (ls' := [(1, .int (nI (k + 1))), (0, .ref R)]) g dX6_begins_36 0 rfl (nI_addE rfl rfl) rfl rfl ?_
      refine v_goto (tgt := 23) g dX6_begins_39 (by decide) ?_
      refine v_meq (μ' := rem R (dS D p (zrM 81 dr) (zrM (k + 1) be)) ρ) (by rw [zrM_s]) ?_
      refine v_sub (ls' := [(1, .int (nI (k + 1))), (0, .ref R)]) [0, 1] rfl ?_
      exact ih (k + 1) (by omega)
  have one : ∀ (u k : Nat), k + u = 81 → V X 0 0 n (rem R (dS D p (zrM k dr) be) ρ) 2 [(1, .int (nI k)), (0, .ref R)] [] := by
    intro u
    induction u with
    | zero =>
      intro k hu
      obtain rfl : k = 81 := by omega
      refine v_iload_n g dX6_begins_2 0 rfl ?_
      refine v_bipush (v := 81) g dX6_begins_3 (by decide) ?_
      refine v_icmp_ge (tgt := 21) g dX6_begins_5 (by decide) (fun h5 => ?_) (fun h5 => absurd (by decide) h5)
      refine v_iconst (v := 0) g dX6_begins_21 (by decide) ?_
      refine v_istore_n (ls' := [(1, .int 0), (0, .ref R)]) g dX6_begins_22 rfl rfl ?_
      refine v_meq (μ' := rem R (dS D p (zrM 81 dr) (zrM 0 be)) ρ) (by rw [← zrM_0]) ?_
      refine v_sub (ls' := [(1, .int 0), (0, .ref R)]) [0, 1] rfl ?_
      exact two 59 0 rfl
    | succ u ih =>
      intro k hu
      refine v_iload_n g dX6_begins_2 0 rfl ?_
      refine v_bipush (v := 81) g dX6_begins_3 (by decide) ?_
      refine v_icmp_ge (tgt := 21) g dX6_begins_5 (by decide) (fun h5 => absurd h5 (nI_ge (a := k) (b := 81) (by omega) (by decide))) (fun h5 => ?_)
      refine v_aload_n g dX6_begins_8 1 rfl ?_
      refine v_get g dX6_begins_9 fl_RX6_16 (rd_M R _ _) rfl ?_
      refine v_iload_n g dX6_begins_12 0 rfl ?_
      refine v_iconst (v := 0) g dX6_begins_13 (by decide) ?_
      refine v_iast g dX6_begins_14 (rd_MA2 R _ _) (vp_in_nI (by omega) (by decide)) ?_
      rw [nI_clamp (n := k) (by omega)]
      refine v_meq (μ' := rem R (dS D p (va_up (zrM k dr) k 0) be) ρ) (st_GA R (dS D p (zrM k dr) be) (dS D p (va_up (zrM k dr) k 0) be) ρ 2 (by decide) (zrM k dr) k 0 rfl rfl rfl (fun j hj => by simp only [dS, va_up, if_neg hj])) ?_
      refine v_iinc (v := (nI (k + 1))) (ls' := [(1, .int (nI (k + 1))), (0, .ref R)]) g dX6_begins_15 0 rfl (nI_addE rfl rfl) rfl rfl ?_
      refine v_goto (tgt := 2) g dX6_begins_18 (by decide) ?_
      refine v_meq (μ' := rem R (dS D p (zrM (k + 1) dr) be) ρ) (by rw [zrM_s]) ?_
      refine v_sub (ls' := [(1, .int (nI (k + 1))), (0, .ref R)]) [0, 1] rfl ?_
      exact ih (k + 1) (by omega)
  refine v_sub (ls' := [(0, .ref R)]) [0] rfl ?_
  refine v_iconst (v := 0) g dX6_begins_0 (by decide) ?_
  refine v_istore_n (ls' := [(1, .int 0), (0, .ref R)]) g dX6_begins_1 rfl rfl ?_
  refine v_meq (μ' := rem R (dS D p (zrM 0 dr) be) ρ) (by rw [← zrM_0]) ?_
  refine v_sub (ls' := [(1, .int 0), (0, .ref R)]) [0, 1] rfl ?_
  exact one 81 0 rfl
set_option maxHeartbeats 4000000 in
theorem q_readsAll (hk : D.1.1 ≤ 200) : Ctr l G 5 118 0 0 mX6_readsAll [.ref R] n (rem R (dS D p dr be) ρ) (some (.int (raM D 201 0 (zrM 81 dr) (zrM 59 be)).1)) n (rem R (dS D (raM D 201 0 (zrM 81 dr) (zrM 59 be)).2.1 (raM D 201 0 (zrM 81 dr) (zrM 59 be)).2.2.1 (raM D 201 0 (zrM 81 dr) (zrM 59 be)).2.2.2) ρ) := by
  refine Ctr.of (by decide +kernel) rfl (fun X g E => ?_)
  have loop : ∀ (u q : Nat) (dr1 be1 : Nat → Nat), q + u ≥ 201 → q ≤ 300 → OkW dr1 be1 → raM D 201 0 (zrM 81 dr) (zrM 59 be) = raM D u q dr1 be1 → V X 0 0 n (rem R (dS D q dr1 be1) ρ) 9 [(0, .ref R)] [] := by
    intro u
    induction u with
    | zero =>
      intro q dr1 be1 hu hq hw he
      refine v_aload_n g dX6_readsAll_9 0 rfl ?_
      refine v_get g dX6_readsAll_10 fl_RX6_62 (rd_M R _ _) rfl ?_
      refine v_eqi (y := nI q) rfl ?_
      refine v_aload_n g dX6_readsAll_13 0 rfl ?_
      refine v_get g dX6_readsAll_14 fl_RX6_58 (rd_M R _ _) rfl ?_
      refine v_eqi (y := nI D.1.1) rfl ?_
      refine v_icmp_ge (tgt := 96) g dX6_readsAll_17 (by decide) (fun h17 => ?_) (fun h17 => absurd (nI_le (a := D.1.1) (b := q) (by omega) (by omega)) h17)
      refine v_bipush (v := (-4)) g dX6_readsAll_96 (by decide) ?_
      exact v_iret g E dX6_readsAll_98 rfl ⟨by rw [he]; rfl, rfl, by rw [he]; rfl⟩
    | succ u ih =>
      intro q dr1 be1 hu hq hw he
      rcases Nat.lt_or_ge q D.1.1 with hqt | hqt
      · have hok := riM_ok (D := D) (p := q) hw
        refine v_aload_n g dX6_readsAll_9 0 rfl ?_
        refine v_get g dX6_readsAll_10 fl_RX6_62 (rd_M R _ _) rfl ?_
        refine v_eqi (y := nI q) rfl ?_
        refine v_aload_n g dX6_readsAll_13 0 rfl ?_
        refine v_get g dX6_readsAll_14 fl_RX6_58 (rd_M R _ _) rfl ?_
        refine v_eqi (y := nI D.1.1) rfl ?_
        refine v_icmp_ge (tgt := 96) g dX6_readsAll_17 (by decide) (fun h17 => absurd h17 (nI_ge (a := q) (b := D.1.1) hqt (by omega))) (fun h17 => ?_)
        refine v_aload_n g dX6_readsAll_20 0 rfl ?_
        refine v_get g dX6_readsAll_21 fl_RX6_62 (rd_M R _ _) rfl ?_
        refine v_eqi (y := nI q) rfl ?_
        refine v_istore_n (ls' := [(1, .int (nI q)), (0, .ref R)]) g dX6_readsAll_24 rfl rfl ?_
        refine v_aload_n g dX6_readsAll_25 1 rfl ?_
        refine v_get g dX6_readsAll_26 fl_RX6_7 (rd_M R _ _) rfl ?_
        refine v_iload_n g dX6_readsAll_29 0 rfl ?_
        refine v_iald g dX6_readsAll_30 (rd_MA0 R _ _) (vp_in_nI (by omega) (by decide)) (v_eqi (y := (nI ((D.2 0) q))) (by first | (rw [nI_clamp (by omega)]; done) | (rw [nI_clamp (by omega)]; rfl)) ?_)
        refine v_istore_n (ls' := [(2, .int (nI ((D.2 0) q))), (1, .int (nI q)), (0, .ref R)]) g dX6_readsAll_31 rfl rfl ?_
        refine v_aload_n g dX6_readsAll_32 2 rfl ?_
        refine v_dup g dX6_readsAll_33 rfl ?_
        refine v_get g dX6_readsAll_34 fl_RX6_62 (rd_M R _ _) rfl ?_
        refine v_eqi (y := nI q) rfl ?_
        refine v_iconst (v := 1) g dX6_readsAll_37 (by decide) ?_
        refine v_iadd g dX6_readsAll_38 (v_eqi (y := nI (q + 1)) (nI_addE rfl rfl) ?_)
        refine v_put g dX6_readsAll_39 fl_RX6_62 (rd_M R _ _) ⟨rfl, rfl⟩ rfl ?_
        refine v_meq (μ' := rem R (dS D (q + 1) dr1 be1) ρ) (st_GW R (dS D q dr1 be1) (dS D (q + 1) dr1 be1) ρ (D.1.1, D.1.2.1, D.1.2.2.1, D.1.2.2.2.1, (q + 1)) rfl rfl) ?_
        refine v_iload_n g dX6_readsAll_42 0 rfl ?_
        refine v_bipush (v := 108) g dX6_readsAll_43 (by decide) ?_
        refine v_icmp_ne (tgt := 55) g dX6_readsAll_45 (by decide) (fun h45 => ?_) (fun h45 => ?_)
        · skip
          refine v_iload_n g dX6_readsAll_55 0 rfl ?_
          refine v_bipush (v := 111) g dX6_readsAll_56 (by decide) ?_
          refine v_icmp_ne (tgt := 68) g dX6_readsAll_58 (by decide) (fun h58 => ?_) (fun h58 => ?_)
          · skip
            refine v_iload_n g dX6_readsAll_68 0 rfl ?_
            refine v_bipush (v := 116) g dX6_readsAll_69 (by decide) ?_
            refine v_icmp_ne (tgt := 85) g dX6_readsAll_71 (by decide) (fun h71 => ?_) (fun h71 => ?_)
            · skip
              refine v_iconst (v := 0) g dX6_readsAll_85 (by decide) ?_
              refine v_istore_n (ls' := [(3, .int 0), (2, .int (nI ((D.2 0) q))), (1, .int (nI q)), (0, .ref R)]) g dX6_readsAll_86 rfl rfl ?_
              refine v_iload_n g dX6_readsAll_87 0 rfl ?_
              refine v_if_ne (tgt := 93) g dX6_readsAll_88 (by decide) (fun h => absurd (by decide) h) (fun _ => ?_)
              refine v_iload_n g dX6_readsAll_91 2 rfl ?_
              exact v_iret g E dX6_readsAll_92 rfl ⟨by have er := (show riM D q dr1 be1 = (false, q + 1, dr1, be1) from by unfold riM; rw [if_neg h45, if_neg h58, if_neg h71]); have hf : ¬ (riM D q dr1 be1).1 = true := (by rw [er]; (intro zz; cases zz)); rw [he, raM, if_neg (by omega), if_neg hf]; (try rfl), rfl, by have er := (show riM D q dr1 be1 = (false, q + 1, dr1, be1) from by unfold riM; rw [if_neg h45, if_neg h58, if_neg h71]); have hf : ¬ (riM D q dr1 be1).1 = true := (by rw [er]; (intro zz; cases zz)); rw [he, raM, if_neg (by omega), if_neg hf]; rw [er]⟩
            · skip
              refine v_aload_n g dX6_readsAll_74 2 rfl ?_
              refine v_callV (As := []) (r := some (.int (zB (rwM D (q + 1) dr1 be1).1))) g dX6_readsAll_75 (q_readsRow (D := D) (p := (q + 1)) (dr := dr1) (be := be1) hk (by omega) hw) cl_X6_readsRow ml_RX6_94 im_X6_readsRow (rd_M R _ _) rfl rfl ⟨rfl, rfl, rfl⟩ ?_
              refine v_if_eq (tgt := 85) g dX6_readsAll_78 (by decide) (fun h78 => ?_) (fun h78 => ?_)
              · skip
                have h78 := zB_f0 h78
                refine v_iconst (v := 0) g dX6_readsAll_85 (by decide) ?_
                refine v_istore_n (ls' := [(3, .int 0), (2, .int (nI ((D.2 0) q))), (1, .int (nI q)), (0, .ref R)]) g dX6_readsAll_86 rfl rfl ?_
                refine v_iload_n g dX6_readsAll_87 0 rfl ?_
                refine v_if_ne (tgt := 93) g dX6_readsAll_88 (by decide) (fun h => absurd (by decide) h) (fun _ => ?_)
                refine v_iload_n g dX6_readsAll_91 2 rfl ?_
                exact v_iret g E dX6_readsAll_92 rfl ⟨by have er := (show riM D q dr1 be1 = rwM D (q + 1) dr1 be1 from by unfold riM; rw [if_neg h45, if_neg h58, if_pos h71]); have hf : ¬ (riM D q dr1 be1).1 = true := (by rw [er]; (intro zz; exact absurd (zz.symm.trans h78) (by decide))); rw [he, raM, if_neg (by omega), if_neg hf]; (try rfl), rfl, by have er := (show riM D q dr1 be1 = rwM D (q + 1) dr1 be1 from by unfold riM; rw [if_neg h45, if_neg h58, if_pos h71]); have hf : ¬ (riM D q dr1 be1).1 = true := (by rw [er]; (intro zz; exact absurd (zz.symm.trans h78) (by decide))); rw [he, raM, if_neg (by omega), if_neg hf]; rw [er]⟩
              · skip
                have h78 := zB_t0 h78
                refine v_iconst (v := 1) g dX6_readsAll_81 (by decide) ?_
                refine v_goto (tgt := 86) g dX6_readsAll_82 (by decide) ?_
                refine v_istore_n (ls' := [(3, .int 1), (2, .int (nI ((D.2 0) q))), (1, .int (nI q)), (0, .ref R)]) g dX6_readsAll_86 rfl rfl ?_
                refine v_iload_n g dX6_readsAll_87 0 rfl ?_
                refine v_if_ne (tgt := 93) g dX6_readsAll_88 (by decide) (fun _ => ?_) (fun h => absurd h (by decide))
                refine v_goto (tgt := 9) g dX6_readsAll_93 (by decide) ?_
                have er := (show riM D q dr1 be1 = rwM D (q + 1) dr1 be1 from by unfold riM; rw [if_neg h45, if_neg h58, if_pos h71])
                have ht : (riM D q dr1 be1).1 = true := by rw [er]; exact h78
                obtain ⟨c1, c2, c3⟩ := hok ht
                rw [er] at c1 c2 c3
                refine v_sub (ls' := [(0, .ref R)]) [3] rfl ?_
                exact ih _ _ _ (by (try dsimp only at c2); omega) (by (try dsimp only at c3); omega) c1 (by rw [he, raM, if_neg (by omega), if_pos ht, er])
          · skip
            refine v_aload_n g dX6_readsAll_61 2 rfl ?_
            refine v_callV (As := []) (r := some (.int (zB (roM D (q + 1) dr1).1))) g dX6_readsAll_62 (q_readsOwner (D := D) (p := (q + 1)) (dr := dr1) (be := be1) hk (by omega) hw.1) cl_X6_readsOwner ml_RX6_91 im_X6_readsOwner (rd_M R _ _) rfl rfl ⟨rfl, rfl, rfl⟩ ?_
            refine v_goto (tgt := 86) g dX6_readsAll_65 (by decide) ?_
            refine v_istore_n (ls' := [(3, .int (zB (roM D (q + 1) dr1).1)), (2, .int (nI ((D.2 0) q))), (1, .int (nI q)), (0, .ref R)]) g dX6_readsAll_86 rfl rfl ?_
            refine v_iload_n g dX6_readsAll_87 0 rfl ?_
            refine v_if_ne (tgt := 93) g dX6_readsAll_88 (by decide) (fun h88_4 => ?_) (fun h88_4 => ?_)
            · skip
              have h88_4 := zB_t0 h88_4
              refine v_goto (tgt := 9) g dX6_readsAll_93 (by decide) ?_
              have er := (show riM D q dr1 be1 = ((roM D (q + 1) dr1).1, (roM D (q + 1) dr1).2.1, (roM D (q + 1) dr1).2.2, be1) from by unfold riM; rw [if_neg h45, if_pos h58])
              have ht : (riM D q dr1 be1).1 = true := by rw [er]; exact h88_4
              obtain ⟨c1, c2, c3⟩ := hok ht
              rw [er] at c1 c2 c3
              refine v_sub (ls' := [(0, .ref R)]) [3] rfl ?_
              exact ih _ _ _ (by (try dsimp only at c2); omega) (by (try dsimp only at c3); omega) c1 (by rw [he, raM, if_neg (by omega), if_pos ht, er])
            · skip
              have h88_4 := zB_f0 h88_4
              refine v_iload_n g dX6_readsAll_91 2 rfl ?_
              exact v_iret g E dX6_readsAll_92 rfl ⟨by have er := (show riM D q dr1 be1 = ((roM D (q + 1) dr1).1, (roM D (q + 1) dr1).2.1, (roM D (q + 1) dr1).2.2, be1) from by unfold riM; rw [if_neg h45, if_pos h58]); have hf : ¬ (riM D q dr1 be1).1 = true := (by rw [er]; (intro zz; exact absurd (zz.symm.trans h88_4) (by decide))); rw [he, raM, if_neg (by omega), if_neg hf]; (try rfl), rfl, by have er := (show riM D q dr1 be1 = ((roM D (q + 1) dr1).1, (roM D (q + 1) dr1).2.1, (roM D (q + 1) dr1).2.2, be1) from by unfold riM; rw [if_neg h45, if_pos h58]); have hf : ¬ (riM D q dr1 be1).1 = true := (by rw [er]; (intro zz; exact absurd (zz.symm.trans h88_4) (by decide))); rw [he, raM, if_neg (by omega), if_neg hf]; rw [er]⟩
        · skip
          refine v_aload_n g dX6_readsAll_48 2 rfl ?_
          refine v_callV (As := []) (r := some (.int (zB (rlM D 6 0 (q + 1) dr1).1))) g dX6_readsAll_49 (q_readsLine (D := D) (p := (q + 1)) (dr := dr1) (be := be1) hk (by omega) hw.1 hw.2.1) cl_X6_readsLine ml_RX6_87 im_X6_readsLine (rd_M R _ _) rfl rfl ⟨rfl, rfl, rfl⟩ ?_
          refine v_goto (tgt := 86) g dX6_readsAll_52 (by decide) ?_
          refine v_istore_n (ls' := [(3, .int (zB (rlM D 6 0 (q + 1) dr1).1)), (2, .int (nI ((D.2 0) q))), (1, .int (nI q)), (0, .ref R)]) g dX6_readsAll_86 rfl rfl ?_
          refine v_iload_n g dX6_readsAll_87 0 rfl ?_
          refine v_if_ne (tgt := 93) g dX6_readsAll_88 (by decide) (fun h88_5 => ?_) (fun h88_5 => ?_)
          · skip
            have h88_5 := zB_t0 h88_5
            refine v_goto (tgt := 9) g dX6_readsAll_93 (by decide) ?_
            have er := (show riM D q dr1 be1 = ((rlM D 6 0 (q + 1) dr1).1, (rlM D 6 0 (q + 1) dr1).2.1, (rlM D 6 0 (q + 1) dr1).2.2, be1) from by unfold riM; rw [if_pos h45])
            have ht : (riM D q dr1 be1).1 = true := by rw [er]; exact h88_5
            obtain ⟨c1, c2, c3⟩ := hok ht
            rw [er] at c1 c2 c3
            refine v_sub (ls' := [(0, .ref R)]) [3] rfl ?_
            exact ih _ _ _ (by (try dsimp only at c2); omega) (by (try dsimp only at c3); omega) c1 (by rw [he, raM, if_neg (by omega), if_pos ht, er])
          · skip
            have h88_5 := zB_f0 h88_5
            refine v_iload_n g dX6_readsAll_91 2 rfl ?_
            exact v_iret g E dX6_readsAll_92 rfl ⟨by have er := (show riM D q dr1 be1 = ((rlM D 6 0 (q + 1) dr1).1, (rlM D 6 0 (q + 1) dr1).2.1, (rlM D 6 0 (q + 1) dr1).2.2, be1) from by unfold riM; rw [if_pos h45]); have hf : ¬ (riM D q dr1 be1).1 = true := (by rw [er]; (intro zz; exact absurd (zz.symm.trans h88_5) (by decide))); rw [he, raM, if_neg (by omega), if_neg hf]; (try rfl), rfl, by have er := (show riM D q dr1 be1 = ((rlM D 6 0 (q + 1) dr1).1, (rlM D 6 0 (q + 1) dr1).2.1, (rlM D 6 0 (q + 1) dr1).2.2, be1) from by unfold riM; rw [if_pos h45]); have hf : ¬ (riM D q dr1 be1).1 = true := (by rw [er]; (intro zz; exact absurd (zz.symm.trans h88_5) (by decide))); rw [he, raM, if_neg (by omega), if_neg hf]; rw [er]⟩
      · skip
        refine v_aload_n g dX6_readsAll_9 0 rfl ?_
        refine v_get g dX6_readsAll_10 fl_RX6_62 (rd_M R _ _) rfl ?_
        refine v_eqi (y := nI q) rfl ?_
        refine v_aload_n g dX6_readsAll_13 0 rfl ?_
        refine v_get g dX6_readsAll_14 fl_RX6_58 (rd_M R _ _) rfl ?_
        refine v_eqi (y := nI D.1.1) rfl ?_
        refine v_icmp_ge (tgt := 96) g dX6_readsAll_17 (by decide) (fun h17 => ?_) (fun h17 => absurd (nI_le (a := D.1.1) (b := q) hqt (by omega)) h17)
        refine v_bipush (v := (-4)) g dX6_readsAll_96 (by decide) ?_
        exact v_iret g E dX6_readsAll_98 rfl ⟨by rw [he, raM, if_pos hqt], rfl, by rw [he, raM, if_pos hqt]⟩
  refine v_sub (ls' := [(0, .ref R)]) [0] rfl ?_
  refine v_aload_n g dX6_readsAll_0 0 rfl ?_
  refine v_callV (As := []) (r := none) g dX6_readsAll_1 (q_begins (D := D) (p := p) (dr := dr) (be := be)) cl_X6_begins ml_RX6_37 im_X6_begins (rd_M R _ _) rfl rfl ⟨rfl, rfl, rfl⟩ ?_
  refine v_aload_n g dX6_readsAll_4 0 rfl ?_
  refine v_iconst (v := 0) g dX6_readsAll_5 (by decide) ?_
  refine v_put g dX6_readsAll_6 fl_RX6_62 (rd_M R _ _) ⟨rfl, rfl⟩ rfl ?_
  refine v_meq (μ' := rem R (dS D 0 (zrM 81 dr) (zrM 59 be)) ρ) (st_GW R (dS D p (zrM 81 dr) (zrM 59 be)) (dS D 0 (zrM 81 dr) (zrM 59 be)) ρ (D.1.1, D.1.2.1, D.1.2.2.1, D.1.2.2.2.1, 0) rfl rfl) ?_
  refine v_sub (ls' := [(0, .ref R)]) [0] rfl ?_
  exact loop 201 0 _ _ (by omega) (by omega) (zrW dr be) rfl
theorem q_fault (hk : D.1.1 ≤ 200) : Ctr l G 5 118 0 0 mX6_readsAll [.ref R] n (rem R D ρ) (some (.int (raR D).1)) n (rem R (rdU D) ρ) := by
  have h := q_readsAll (l := l) (G := G) (n := n) (R := R) (ρ := ρ) (D := D) (p := D.1.2.2.2.2) (dr := D.2 2) (be := D.2 3) hk
  rw [dS_id] at h
  exact h
theorem k_X6_fault (hk : D.1.1 ≤ 200) : Ctr l G 6 141 0 0 mX6_fault [.ref R] n (rem R D ρ) (some (.int (raR D).1)) n (rem R (rdU D) ρ) := by
  refine Ctr.of (by decide +kernel) rfl (fun X g E => ?_)
  refine v_sub (ls' := [(0, .ref R)]) [0] rfl ?_
  refine v_aload_n g dX6_fault_0 0 rfl ?_
  refine v_callV (As := []) (r := some (.int ((raR D).1))) g dX6_fault_1 (q_fault hk) cl_X6_readsAll ml_RX6_97 im_X6_readsAll (rd_M R _ _) rfl rfl ⟨rfl, rfl, rfl⟩ ?_
  exact v_iret g E dX6_fault_4 rfl ⟨by rfl, rfl, rfl⟩
theorem k_X6_lays : Ctr l G 0 0 0 0 mX6_lays [.ref R] n (rem R D ρ) none n (rem R (layU D) ρ) := by
  refine Ctr.of (by decide +kernel) rfl (fun X g E => ?_)
  have two : ∀ (u k : Nat), k + u = 59 → V X 0 0 n (rem R ((D.1.1, D.1.2.1, D.1.2.2.1, D.1.2.2.2.1, D.1.2.2.2.2), va_up (va_up D.2 1 (cpN (D.2 1) (D.2 2) 81)) 4 (cpN (D.2 4) (D.2 3) k)) ρ) 28 [(1, .int (nI k)), (0, .ref R)] [] := by
    intro u
    induction u with
    | zero =>
      intro k hu
      obtain rfl : k = 59 := by omega
      refine v_iload_n g dX6_lays_28 0 rfl ?_
      refine v_bipush (v := 59) g dX6_lays_29 (by decide) ?_
      refine v_icmp_ge (tgt := 52) g dX6_lays_31 (by decide) (fun h31 => ?_) (fun h31 => absurd (by decide) h31)
      refine v_aload_n g dX6_lays_52 1 rfl ?_
      refine v_iconst (v := 0) g dX6_lays_53 (by decide) ?_
      refine v_put g dX6_lays_54 fl_RX6_101 (rd_M R _ _) ⟨rfl, rfl⟩ rfl ?_
      refine v_meq (μ' := rem R ((D.1.1, 0, D.1.2.2.1, D.1.2.2.2.1, D.1.2.2.2.2), va_up (va_up D.2 1 (cpN (D.2 1) (D.2 2) 81)) 4 (cpN (D.2 4) (D.2 3) 59)) ρ) (st_GW R ((D.1.1, D.1.2.1, D.1.2.2.1, D.1.2.2.2.1, D.1.2.2.2.2), va_up (va_up D.2 1 (cpN (D.2 1) (D.2 2) 81)) 4 (cpN (D.2 4) (D.2 3) 59)) ((D.1.1, 0, D.1.2.2.1, D.1.2.2.2.1, D.1.2.2.2.2), va_up (va_up D.2 1 (cpN (D.2 1) (D.2 2) 81)) 4 (cpN (D.2 4) (D.2 3) 59)) ρ (D.1.1, 0, D.1.2.2.1, D.1.2.2.2.1, D.1.2.2.2.2) rfl rfl) ?_
      refine v_aload_n g dX6_lays_57 1 rfl ?_
      refine v_iconst (v := 0) g dX6_lays_58 (by decide) ?_
      refine v_put g dX6_lays_59 fl_RX6_104 (rd_M R _ _) ⟨rfl, rfl⟩ rfl ?_
      refine v_meq (μ' := rem R ((D.1.1, 0, 0, D.1.2.2.2.1, D.1.2.2.2.2), va_up (va_up D.2 1 (cpN (D.2 1) (D.2 2) 81)) 4 (cpN (D.2 4) (D.2 3) 59)) ρ) (st_GW R ((D.1.1, 0, D.1.2.2.1, D.1.2.2.2.1, D.1.2.2.2.2), va_up (va_up D.2 1 (cpN (D.2 1) (D.2 2) 81)) 4 (cpN (D.2 4) (D.2 3) 59)) ((D.1.1, 0, 0, D.1.2.2.2.1, D.1.2.2.2.2), va_up (va_up D.2 1 (cpN (D.2 1) (D.2 2) 81)) 4 (cpN (D.2 4) (D.2 3) 59)) ρ (D.1.1, 0, 0, D.1.2.2.2.1, D.1.2.2.2.2) rfl rfl) ?_
      refine v_aload_n g dX6_lays_62 1 rfl ?_
      refine v_iconst (v := 0) g dX6_lays_63 (by decide) ?_
      refine v_put g dX6_lays_64 fl_RX6_107 (rd_M R _ _) ⟨rfl, rfl⟩ rfl ?_
      refine v_meq (μ' := rem R ((D.1.1, 0, 0, 0, D.1.2.2.2.2), va_up (va_up D.2 1 (cpN (D.2 1) (D.2 2) 81)) 4 (cpN (D.2 4) (D.2 3) 59)) ρ) (st_GW R ((D.1.1, 0, 0, D.1.2.2.2.1, D.1.2.2.2.2), va_up (va_up D.2 1 (cpN (D.2 1) (D.2 2) 81)) 4 (cpN (D.2 4) (D.2 3) 59)) ((D.1.1, 0, 0, 0, D.1.2.2.2.2), va_up (va_up D.2 1 (cpN (D.2 1) (D.2 2) 81)) 4 (cpN (D.2 4) (D.2 3) 59)) ρ (D.1.1, 0, 0, 0, D.1.2.2.2.2) rfl rfl) ?_
      exact v_vret g E dX6_lays_67 rfl ⟨rfl, rfl, rfl⟩
    | succ u ih =>
      intro k hu
      refine v_iload_n g dX6_lays_28 0 rfl ?_
      refine v_bipush (v := 59) g dX6_lays_29 (by decide) ?_
      refine v_icmp_ge (tgt := 52) g dX6_lays_31 (by decide) (fun h31 => absurd h31 (nI_ge (a := k) (b := 59) (by omega) (by decide))) (fun h31 => ?_)
      refine v_aload_n g dX6_lays_34 1 rfl ?_
      refine v_get g dX6_lays_35 fl_RX6_22 (rd_M R _ _) rfl ?_
      refine v_iload_n g dX6_lays_38 0 rfl ?_
      refine v_aload_n g dX6_lays_39 1 rfl ?_
      refine v_get g dX6_lays_40 fl_RX6_19 (rd_M R _ _) rfl ?_
      refine v_iload_n g dX6_lays_43 0 rfl ?_
      refine v_iald g dX6_lays_44 (rd_MA3 R _ _) (vp_in_nI (by omega) (by decide)) (v_eqi (y := (nI ((D.2 3) k))) (by first | (rw [nI_clamp (by omega)]; done) | (rw [nI_clamp (by omega)]; rfl)) ?_)
      refine v_iast g dX6_lays_45 (rd_MA4 R _ _) (vp_in_nI (by omega) (by decide)) ?_
      rw [nI_clamp (n := k) (by omega)]
      refine v_meq (μ' := rem R ((D.1.1, D.1.2.1, D.1.2.2.1, D.1.2.2.2.1, D.1.2.2.2.2), va_up (va_up D.2 1 (cpN (D.2 1) (D.2 2) 81)) 4 (va_up (cpN (D.2 4) (D.2 3) k) k ((D.2 3) k))) ρ) (st_GA R ((D.1.1, D.1.2.1, D.1.2.2.1, D.1.2.2.2.1, D.1.2.2.2.2), va_up (va_up D.2 1 (cpN (D.2 1) (D.2 2) 81)) 4 (cpN (D.2 4) (D.2 3) k)) ((D.1.1, D.1.2.1, D.1.2.2.1, D.1.2.2.2.1, D.1.2.2.2.2), va_up (va_up D.2 1 (cpN (D.2 1) (D.2 2) 81)) 4 (va_up (cpN (D.2 4) (D.2 3) k) k ((D.2 3) k))) ρ 4 (by decide) (cpN (D.2 4) (D.2 3) k) k ((D.2 3) k) rfl rfl rfl (fun j hj => by simp only [va_up, if_neg hj])) ?_
      refine v_iinc (v := (nI (k + 1))) (ls' := [(1, .int (nI (k + 1))), (0, .ref R)]) g dX6_lays_46 0 rfl (nI_addE rfl rfl) rfl rfl ?_
      refine v_goto (tgt := 28) g dX6_lays_49 (by decide) ?_
      refine v_meq (μ' := rem R ((D.1.1, D.1.2.1, D.1.2.2.1, D.1.2.2.2.1, D.1.2.2.2.2), va_up (va_up D.2 1 (cpN (D.2 1) (D.2 2) 81)) 4 (cpN (D.2 4) (D.2 3) (k + 1))) ρ) (by rw [cpN_s]) ?_
      refine v_sub (ls' := [(1, .int (nI (k + 1))), (0, .ref R)]) [0, 1] rfl ?_
      exact ih (k + 1) (by omega)
  have one : ∀ (u k : Nat), k + u = 81 → V X 0 0 n (rem R ((D.1.1, D.1.2.1, D.1.2.2.1, D.1.2.2.2.1, D.1.2.2.2.2), va_up (va_up D.2 1 (cpN (D.2 1) (D.2 2) k)) 4 (D.2 4)) ρ) 2 [(1, .int (nI k)), (0, .ref R)] [] := by
    intro u
    induction u with
    | zero =>
      intro k hu
      obtain rfl : k = 81 := by omega
      refine v_iload_n g dX6_lays_2 0 rfl ?_
      refine v_bipush (v := 81) g dX6_lays_3 (by decide) ?_
      refine v_icmp_ge (tgt := 26) g dX6_lays_5 (by decide) (fun h5 => ?_) (fun h5 => absurd (by decide) h5)
      refine v_iconst (v := 0) g dX6_lays_26 (by decide) ?_
      refine v_istore_n (ls' := [(1, .int 0), (0, .ref R)]) g dX6_lays_27 rfl rfl ?_
      refine v_meq (μ' := rem R ((D.1.1, D.1.2.1, D.1.2.2.1, D.1.2.2.2.1, D.1.2.2.2.2), va_up (va_up D.2 1 (cpN (D.2 1) (D.2 2) 81)) 4 (cpN (D.2 4) (D.2 3) 0)) ρ) (by rw [← cpN_0]) ?_
      refine v_sub (ls' := [(1, .int 0), (0, .ref R)]) [0, 1] rfl ?_
      exact two 59 0 rfl
    | succ u ih =>
      intro k hu
      refine v_iload_n g dX6_lays_2 0 rfl ?_
      refine v_bipush (v := 81) g dX6_lays_3 (by decide) ?_
      refine v_icmp_ge (tgt := 26) g dX6_lays_5 (by decide) (fun h5 => absurd h5 (nI_ge (a := k) (b := 81) (by omega) (by decide))) (fun h5 => ?_)
      refine v_aload_n g dX6_lays_8 1 rfl ?_
      refine v_get g dX6_lays_9 fl_RX6_13 (rd_M R _ _) rfl ?_
      refine v_iload_n g dX6_lays_12 0 rfl ?_
      refine v_aload_n g dX6_lays_13 1 rfl ?_
      refine v_get g dX6_lays_14 fl_RX6_16 (rd_M R _ _) rfl ?_
      refine v_iload_n g dX6_lays_17 0 rfl ?_
      refine v_iald g dX6_lays_18 (rd_MA2 R _ _) (vp_in_nI (by omega) (by decide)) (v_eqi (y := (nI ((D.2 2) k))) (by first | (rw [nI_clamp (by omega)]; done) | (rw [nI_clamp (by omega)]; rfl)) ?_)
      refine v_iast g dX6_lays_19 (rd_MA1 R _ _) (vp_in_nI (by omega) (by decide)) ?_
      rw [nI_clamp (n := k) (by omega)]
      refine v_meq (μ' := rem R ((D.1.1, D.1.2.1, D.1.2.2.1, D.1.2.2.2.1, D.1.2.2.2.2), va_up (va_up D.2 1 (va_up (cpN (D.2 1) (D.2 2) k) k ((D.2 2) k))) 4 (D.2 4)) ρ) (st_GA R ((D.1.1, D.1.2.1, D.1.2.2.1, D.1.2.2.2.1, D.1.2.2.2.2), va_up (va_up D.2 1 (cpN (D.2 1) (D.2 2) k)) 4 (D.2 4)) ((D.1.1, D.1.2.1, D.1.2.2.1, D.1.2.2.2.1, D.1.2.2.2.2), va_up (va_up D.2 1 (va_up (cpN (D.2 1) (D.2 2) k) k ((D.2 2) k))) 4 (D.2 4)) ρ 1 (by decide) (cpN (D.2 1) (D.2 2) k) k ((D.2 2) k) rfl rfl rfl (fun j hj => by simp only [va_up, if_neg hj])) ?_
      refine v_iinc (v := (nI (k + 1))) (ls' := [(1, .int (nI (k + 1))), (0, .ref R)]) g dX6_lays_20 0 rfl (nI_addE rfl rfl) rfl rfl ?_
      refine v_goto (tgt := 2) g dX6_lays_23 (by decide) ?_
      refine v_meq (μ' := rem R ((D.1.1, D.1.2.1, D.1.2.2.1, D.1.2.2.2.1, D.1.2.2.2.2), va_up (va_up D.2 1 (cpN (D.2 1) (D.2 2) (k + 1))) 4 (D.2 4)) ρ) (by rw [cpN_s]) ?_
      refine v_sub (ls' := [(1, .int (nI (k + 1))), (0, .ref R)]) [0, 1] rfl ?_
      exact ih (k + 1) (by omega)
  refine v_sub (ls' := [(0, .ref R)]) [0] rfl ?_
  refine v_meq (μ' := rem R ((D.1.1, D.1.2.1, D.1.2.2.1, D.1.2.2.2.1, D.1.2.2.2.2), va_up (va_up D.2 1 (D.2 1)) 4 (D.2 4)) ρ) (by rw [va_up_id, va_up_id]) ?_
  refine v_iconst (v := 0) g dX6_lays_0 (by decide) ?_
  refine v_istore_n (ls' := [(1, .int 0), (0, .ref R)]) g dX6_lays_1 rfl rfl ?_
  refine v_meq (μ' := rem R ((D.1.1, D.1.2.1, D.1.2.2.1, D.1.2.2.2.1, D.1.2.2.2.2), va_up (va_up D.2 1 (cpN (D.2 1) (D.2 2) 0)) 4 (D.2 4)) ρ) (by rw [← cpN_0]) ?_
  refine v_sub (ls' := [(1, .int 0), (0, .ref R)]) [0, 1] rfl ?_
  exact one 81 0 rfl
theorem k_X6_lay (hk : D.1.1 ≤ 200) : Ctr l G 6 141 0 0 mX6_lay [.ref R] n (rem R D ρ) (some (.int (layQ D).1)) n (rem R (layQ D).2 ρ) := by
  refine Ctr.of (by decide +kernel) rfl (fun X g E => ?_)
  refine v_sub (ls' := [(0, .ref R)]) [0] rfl ?_
  refine v_aload_n g dX6_lay_0 0 rfl ?_
  refine v_callV (As := []) (r := some (.int ((raR D).1))) g dX6_lay_1 (q_fault hk) cl_X6_readsAll ml_RX6_97 im_X6_readsAll (rd_M R _ _) rfl rfl ⟨rfl, rfl, rfl⟩ ?_
  refine v_bipush (v := (-4)) g dX6_lay_4 (by decide) ?_
  refine v_icmp_ne (tgt := 18) g dX6_lay_6 (by decide) (fun h6 => ?_) (fun h6 => ?_)
  · skip
    refine v_bipush (v := (-2)) g dX6_lay_18 (by decide) ?_
    exact v_iret g E dX6_lay_20 rfl ⟨by first | (simp [layQ, *]; done) | (unfold layQ; rw [if_neg (by rw [h6]; decide), if_neg (show ¬ nI ((raR D).2.2.1 2) = 0 from h15)]; rfl) | (unfold layQ; rw [if_neg (by rw [h6]; decide), if_neg (show ¬ nI ((raR D).2.2.1 2) = 0 from h15)]; done) | (unfold layQ; rw [if_neg (by rw [h6]; decide), if_pos (show nI ((raR D).2.2.1 2) = 0 from h15)]; done) | (unfold layQ; rw [if_neg (by rw [h6]; decide), if_pos (show nI ((raR D).2.2.1 2) = 0 from h15)]; rfl), rfl, by first | (simp [layQ, *]; done) | (unfold layQ; rw [if_neg (by rw [h6]; decide), if_neg (show ¬ nI ((raR D).2.2.1 2) = 0 from h15)]; rfl) | (unfold layQ; rw [if_neg (by rw [h6]; decide), if_neg (show ¬ nI ((raR D).2.2.1 2) = 0 from h15)]; done) | (unfold layQ; rw [if_neg (by rw [h6]; decide), if_pos (show nI ((raR D).2.2.1 2) = 0 from h15)]; done) | (unfold layQ; rw [if_neg (by rw [h6]; decide), if_pos (show nI ((raR D).2.2.1 2) = 0 from h15)]; rfl)⟩
  · skip
    refine v_aload_n g dX6_lay_9 0 rfl ?_
    refine v_get g dX6_lay_10 fl_RX6_16 (rd_M R _ _) rfl ?_
    refine v_iconst (v := 2) g dX6_lay_13 (by decide) ?_
    refine v_iald g dX6_lay_14 (rd_MA2 R _ _) (by unfold vp_in; decide) (v_eqi (y := (nI (((rdU D).2 2) 2))) rfl ?_)
    refine v_if_ne (tgt := 21) g dX6_lay_15 (by decide) (fun h15 => ?_) (fun h15 => ?_)
    · skip
      refine v_aload_n g dX6_lay_21 0 rfl ?_
      refine v_callV (As := []) (r := none) g dX6_lay_22 (k_X6_lays (D := rdU D)) cl_X6_lays ml_RX6_51 im_X6_lays (rd_M R _ _) rfl rfl ⟨rfl, rfl, rfl⟩ ?_
      refine v_aload_n g dX6_lay_25 0 rfl ?_
      refine v_get g dX6_lay_26 fl_RX6_13 (rd_M R _ _) rfl ?_
      refine v_iconst (v := 2) g dX6_lay_29 (by decide) ?_
      refine v_iald g dX6_lay_30 (rd_MA1 R _ _) (by unfold vp_in; decide) (v_eqi (y := (nI (((layU (rdU D)).2 1) 2))) rfl ?_)
      exact v_iret g E dX6_lay_31 rfl ⟨by first | (simp [layQ, *]; done) | (unfold layQ; rw [if_neg (by rw [h6]; decide), if_neg (show ¬ nI ((raR D).2.2.1 2) = 0 from h15)]; rfl) | (unfold layQ; rw [if_neg (by rw [h6]; decide), if_neg (show ¬ nI ((raR D).2.2.1 2) = 0 from h15)]; done) | (unfold layQ; rw [if_neg (by rw [h6]; decide), if_pos (show nI ((raR D).2.2.1 2) = 0 from h15)]; done) | (unfold layQ; rw [if_neg (by rw [h6]; decide), if_pos (show nI ((raR D).2.2.1 2) = 0 from h15)]; rfl), rfl, by first | (simp [layQ, *]; done) | (unfold layQ; rw [if_neg (by rw [h6]; decide), if_neg (show ¬ nI ((raR D).2.2.1 2) = 0 from h15)]; rfl) | (unfold layQ; rw [if_neg (by rw [h6]; decide), if_neg (show ¬ nI ((raR D).2.2.1 2) = 0 from h15)]; done) | (unfold layQ; rw [if_neg (by rw [h6]; decide), if_pos (show nI ((raR D).2.2.1 2) = 0 from h15)]; done) | (unfold layQ; rw [if_neg (by rw [h6]; decide), if_pos (show nI ((raR D).2.2.1 2) = 0 from h15)]; rfl)⟩
    · skip
      refine v_bipush (v := (-2)) g dX6_lay_18 (by decide) ?_
      exact v_iret g E dX6_lay_20 rfl ⟨by first | (simp [layQ, *]; done) | (unfold layQ; rw [if_neg (by rw [h6]; decide), if_neg (show ¬ nI ((raR D).2.2.1 2) = 0 from h15)]; rfl) | (unfold layQ; rw [if_neg (by rw [h6]; decide), if_neg (show ¬ nI ((raR D).2.2.1 2) = 0 from h15)]; done) | (unfold layQ; rw [if_neg (by rw [h6]; decide), if_pos (show nI ((raR D).2.2.1 2) = 0 from h15)]; done) | (unfold layQ; rw [if_neg (by rw [h6]; decide), if_pos (show nI ((raR D).2.2.1 2) = 0 from h15)]; rfl), rfl, by first | (simp [layQ, *]; done) | (unfold layQ; rw [if_neg (by rw [h6]; decide), if_neg (show ¬ nI ((raR D).2.2.1 2) = 0 from h15)]; rfl) | (unfold layQ; rw [if_neg (by rw [h6]; decide), if_neg (show ¬ nI ((raR D).2.2.1 2) = 0 from h15)]; done) | (unfold layQ; rw [if_neg (by rw [h6]; decide), if_pos (show nI ((raR D).2.2.1 2) = 0 from h15)]; done) | (unfold layQ; rw [if_neg (by rw [h6]; decide), if_pos (show nI ((raR D).2.2.1 2) = 0 from h15)]; rfl)⟩
end R15
