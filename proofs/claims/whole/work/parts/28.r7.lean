/-! THE REFERENCE: its memory in full form; acts -/
/-- told t, s, aside over the rest -/
def qS (D : MS) (t s a : Nat → Nat) : MS := tA (tA (tA D 1 t) 4 s) 8 a
/-- scalars, past, images, notes over the rest -/
def uS (D : MS) (w : Nat × Nat × Nat × Nat × Nat) (pa im no : Nat → Nat) : MS := (w, va_up (va_up (va_up D.2 5 pa) 6 im) 7 no)
theorem qS_id (D : MS) : qS D (D.2 1) (D.2 4) (D.2 8) = D := by
  refine Prod.ext rfl (funext fun j => ?_)
  simp only [qS, tA, va_up]
  split
  · next h => rw [h]
  · split
    · next h => rw [h]
    · split
      · next h => rw [h]
      · rfl
theorem uS_id (D : MS) : uS D D.1 (D.2 5) (D.2 6) (D.2 7) = D := by
  refine Prod.ext rfl (funext fun j => ?_)
  simp only [uS, va_up]
  split
  · next h => rw [h]
  · split
    · next h => rw [h]
    · split
      · next h => rw [h]
      · rfl
theorem uS_2 (D : MS) (w : Nat × Nat × Nat × Nat × Nat) : (uS D w (D.2 5) (D.2 6) (D.2 7)).2 = D.2 := by
  have h := congrArg (fun z : MS => z.2) (uS_id D)
  exact h
theorem st_GA (R : Nat) (D1 D2 : MS) (ρ : Mu) (k : Nat) (hk : k < 9) (f : Nat → Nat) (i x : Nat) (h0 : D1.2 k = f) (h1 : D2.1 = D1.1) (h2 : D2.2 k = va_up f i x) (h3 : ∀ j, j ≠ k → D2.2 j = D1.2 j) : mset (rem R D1 ρ) (R + (k + 1)) (.inl (0, mLen k, .inl (upd (nA f) i (nI x)))) = rem R D2 ρ := by
  subst h0
  rw [st_MA R D1 ρ k hk i x]
  have e : tA D1 k (va_up (D1.2 k) i x) = D2 := by
    refine Prod.ext h1.symm (funext fun j => ?_)
    show va_up D1.2 k (va_up (D1.2 k) i x) j = D2.2 j
    by_cases hj : j = k
    · subst hj; rw [va_up_self, h2]
    · rw [va_up_ne _ _ hj, h3 j hj]
  rw [e]
theorem st_GW (R : Nat) (D1 D2 : MS) (ρ : Mu) (w : Nat × Nat × Nat × Nat × Nat) (h1 : D2.1 = w) (h2 : D2.2 = D1.2) : mset (rem R D1 ρ) R (objM R w) = rem R D2 ρ := by
  rw [st_MW R D1 ρ w]
  have e : tW D1 w = D2 := Prod.ext h1.symm h2.symm
  rw [e]
theorem qS_4 (D : MS) (t s a s' : Nat → Nat) : tA (qS D t s a) 4 s' = qS D t s' a := by
  refine Prod.ext rfl (funext fun j => ?_)
  simp only [qS, tA, va_up]
  by_cases h : j = 4
  · subst h; simp
  · simp only [if_neg h]
theorem qS_8 (D : MS) (t s a a' : Nat → Nat) : tA (qS D t s a) 8 a' = qS D t s a' := by
  refine Prod.ext rfl (funext fun j => ?_)
  simp only [qS, tA, va_up]
  split <;> rfl
def cellQ (t : Nat → Nat) (x : Int32) : Bool := withinC x 0 (nI (t 0) - 1)
def rowQ (t : Nat → Nat) (r : Int32) : Bool := withinC r 0 (nI (t 2) - 1)
theorem wQ_ok {N : Nat} (hN : N < 1000) {x : Int32} (h : withinC x 0 (nI N - 1) = true) : ∃ c : Nat, c < N ∧ x = nI c := by
  cases N with
  | zero =>
    exfalso
    have e : nI 0 - 1 = (-1 : Int32) := by decide
    rw [e] at h
    unfold withinC at h
    split at h
    · cases h
    · split at h
      · cases h
      · rename_i h1 h2
        have h1' : ¬ x.toInt < 0 := fun q => h1 (Int32.lt_iff_toInt_lt.mpr q)
        have h2' : ¬ (-1 : Int) < x.toInt := fun q => h2 (Int32.lt_iff_toInt_lt.mpr q)
        omega
  | succ k =>
    rw [nI_pred] at h
    obtain ⟨j, -, hj, e⟩ := within_nI (a := 0) (b := k) rfl (nI_toInt (by omega)) h
    exact ⟨j, by omega, e⟩
theorem cellQ_ok {t s : Nat → Nat} (hs : OkS t s) {x : Int32} (h : cellQ t x = true) : ∃ c : Nat, c < t 0 ∧ x = nI c := wQ_ok (by have := hs.2.1; omega) h
theorem rowQ_ok {t s : Nat → Nat} (hs : OkS t s) {x : Int32} (h : rowQ t x = true) : ∃ c : Nat, c < t 2 ∧ x = nI c := wQ_ok (by have := hs.1; omega) h
/-- p from k on moved down by 59 -/
def pastSh (p : Nat → Nat) (k : Nat) : Nat → Nat := fun j => if j < k then p (j + 59) else p j
theorem pastSh_0 (p : Nat → Nat) : p = pastSh p 0 := by funext j; unfold pastSh; rw [if_neg (by omega)]
theorem pastSh_at (p : Nat → Nat) (k : Nat) : pastSh p k (k + 59) = p (k + 59) := by unfold pastSh; rw [if_neg (by omega)]
theorem pastSh_s (p : Nat → Nat) (k : Nat) : va_up (pastSh p k) k (p (k + 59)) = pastSh p (k + 1) := by
  funext j
  unfold va_up pastSh
  by_cases h : j = k
  · subst h; rw [if_pos rfl, if_pos (by omega)]
  · rw [if_neg h]
    by_cases h2 : j < k
    · rw [if_pos h2, if_pos (by omega)]
    · rw [if_neg h2, if_neg (by omega)]
/-- s's first k written into p at b -/
def segW (p s : Nat → Nat) (b k : Nat) : Nat → Nat := fun j => if b ≤ j ∧ j < b + k then s (j - b) else p j
theorem segW_0 (p s : Nat → Nat) (b : Nat) : p = segW p s b 0 := by funext j; unfold segW; rw [if_neg (by omega)]
theorem segW_s (p s : Nat → Nat) (b k : Nat) : va_up (segW p s b k) (b + k) (s k) = segW p s b (k + 1) := by
  funext j
  unfold va_up segW
  by_cases h : j = b + k
  · subst h; rw [if_pos rfl, if_pos (by omega), Nat.add_sub_cancel_left]
  · rw [if_neg h]
    by_cases h2 : b ≤ j ∧ j < b + k
    · rw [if_pos h2, if_pos (by omega)]
    · rw [if_neg h2, if_neg (by omega)]
/-- p's from b on read into s -/
def segR (s p : Nat → Nat) (b k : Nat) : Nat → Nat := fun j => if j < k then p (b + j) else s j
theorem segR_0 (s p : Nat → Nat) (b : Nat) : s = segR s p b 0 := by funext j; unfold segR; rw [if_neg (by omega)]
theorem segR_s (s p : Nat → Nat) (b k : Nat) : va_up (segR s p b k) k (p (b + k)) = segR s p b (k + 1) := by
  funext j
  unfold va_up segR
  by_cases h : j = k
  · subst h; rw [if_pos rfl, if_pos (by omega)]
  · rw [if_neg h]
    by_cases h2 : j < k
    · rw [if_pos h2, if_pos (by omega)]
    · rw [if_neg h2, if_neg (by omega)]
def keepsU (D : MS) (s : Nat → Nat) : MS := if D.1.2.1 = 8 then uS D (D.1.1, 8, D.1.2.2.1, D.1.2.2.2.1, D.1.2.2.2.2) (segW (pastSh (D.2 5) 413) s 413 59) (D.2 6) (D.2 7) else uS D (D.1.1, D.1.2.1 + 1, D.1.2.2.1, D.1.2.2.2.1, D.1.2.2.2.2) (segW (D.2 5) s (59 * D.1.2.1) 59) (D.2 6) (D.2 7)
section R7
variable {l : Launch} {G : GG} {n : Nat} {R : Nat} {D : MS} {t s a : Nat → Nat} {ρ : Mu}
theorem q_isCell (x : Int32) : Ctr l G 1 22 0 0 mX6_isCell [.ref R, .int x] n (rem R (qS D t s a) ρ) (some (.int (zB (cellQ t x)))) n (rem R (qS D t s a) ρ) := k_X6_isCell (D := qS D t s a) x
theorem q_isRow (x : Int32) : Ctr l G 1 22 0 0 mX6_isRow [.ref R, .int x] n (rem R (qS D t s a) ρ) (some (.int (zB (rowQ t x)))) n (rem R (qS D t s a) ρ) := k_X6_isRow (D := qS D t s a) x
theorem q_passes (hs : OkS t s) (fr : Int32) : Ctr l G 3 74 0 0 mX6_passes [.ref R, .int fr] n (rem R (qS D t s a) ρ) none n (rem R (qS D t (passM t s fr) a) ρ) := by
  have h := k_X6_passes (l := l) (G := G) (n := n) (R := R) (ρ := ρ) (D := qS D t s a) hs fr
  have e : tA (qS D t s a) 4 (passM ((qS D t s a).2 1) ((qS D t s a).2 4) fr) = qS D t (passM t s fr) a := qS_4 D t s a _
  rw [e] at h
  exact h
theorem q_holds : Ctr l G 0 0 0 0 mX6_holds [.ref R] n (rem R (qS D t s a) ρ) none n (rem R (qS D t s (cpN a s 59)) ρ) := by
  have h := k_X6_holds (l := l) (G := G) (n := n) (R := R) (ρ := ρ) (D := qS D t s a)
  have e : tA (qS D t s a) 8 (cpN ((qS D t s a).2 8) ((qS D t s a).2 4) 59) = qS D t s (cpN a s 59) := qS_8 D t s a _
  rw [e] at h
  exact h
theorem q_lets : Ctr l G 0 0 0 0 mX6_lets [.ref R] n (rem R (qS D t s a) ρ) none n (rem R (qS D t (cpN s a 59) a) ρ) := by
  have h := k_X6_lets (l := l) (G := G) (n := n) (R := R) (ρ := ρ) (D := qS D t s a)
  have e : tA (qS D t s a) 4 (cpN ((qS D t s a).2 4) ((qS D t s a).2 8) 59) = qS D t (cpN s a 59) a := qS_4 D t s a _
  rw [e] at h
  exact h
theorem q_keeps (hk : D.1.2.1 ≤ 8) : Ctr l G 0 0 0 0 mX6_keeps [.ref R] n (rem R (qS D t s a) ρ) none n (rem R (qS (keepsU D s) t s a) ρ) := by
  refine Ctr.of (by decide +kernel) rfl (fun X g E => ?_)
  have tail : ∀ (k0 : Nat) (p : Nat → Nat), k0 < 8 → keepsU D s = (uS D (D.1.1, (k0 + 1), D.1.2.2.1, D.1.2.2.2.1, D.1.2.2.2.2) (segW p s (59 * k0) 59) (D.2 6) (D.2 7)) → ∀ (q k : Nat), k + q = 59 → V X 0 0 n (rem R (qS (uS D (D.1.1, k0, D.1.2.2.1, D.1.2.2.2.1, D.1.2.2.2.2) (segW p s (59 * k0) k) (D.2 6) (D.2 7)) t s a) ρ) 51 [(1, .int (nI k)), (0, .ref R)] [] := by
    intro k0 p hk0 he q
    induction q with
    | zero =>
      intro k hq
      refine v_iload_n g dX6_keeps_51 0 rfl ?_
      refine v_bipush (v := 59) g dX6_keeps_52 (by decide) ?_
      refine v_icmp_ge (tgt := 83) g dX6_keeps_54 (by decide) (fun h54 => ?_) (fun h54 => absurd (nI_le (a := 59) (b := k) (by omega) (by omega)) h54)
      refine v_aload_n g dX6_keeps_83 1 rfl ?_
      refine v_dup g dX6_keeps_84 rfl ?_
      refine v_get g dX6_keeps_85 fl_RX6_101 (rd_M R _ _) rfl ?_
      refine v_eqi (y := nI k0) rfl ?_
      refine v_iconst (v := 1) g dX6_keeps_88 (by decide) ?_
      refine v_iadd g dX6_keeps_89 (v_eqi (y := nI (k0 + 1)) (nI_addE rfl rfl) ?_)
      refine v_put g dX6_keeps_90 fl_RX6_101 (rd_M R _ _) ⟨rfl, rfl⟩ rfl ?_
      refine v_meq (μ' := rem R (qS (uS D (D.1.1, (k0 + 1), D.1.2.2.1, D.1.2.2.2.1, D.1.2.2.2.2) (segW p s (59 * k0) k) (D.2 6) (D.2 7)) t s a) ρ) (st_GW R (qS (uS D (D.1.1, k0, D.1.2.2.1, D.1.2.2.2.1, D.1.2.2.2.2) (segW p s (59 * k0) k) (D.2 6) (D.2 7)) t s a) (qS (uS D (D.1.1, (k0 + 1), D.1.2.2.1, D.1.2.2.2.1, D.1.2.2.2.2) (segW p s (59 * k0) k) (D.2 6) (D.2 7)) t s a) ρ (D.1.1, (k0 + 1), D.1.2.2.1, D.1.2.2.2.1, D.1.2.2.2.2) rfl rfl) ?_
      obtain rfl : k = 59 := by omega
      exact v_vret g E dX6_keeps_93 rfl ⟨rfl, rfl, by rw [he]⟩
    | succ q ih =>
      intro k hq
      refine v_iload_n g dX6_keeps_51 0 rfl ?_
      refine v_bipush (v := 59) g dX6_keeps_52 (by decide) ?_
      refine v_icmp_ge (tgt := 83) g dX6_keeps_54 (by decide) (fun h54 => absurd h54 (nI_ge (a := k) (b := 59) (by omega) (by decide))) (fun h54 => ?_)
      refine v_aload_n g dX6_keeps_57 1 rfl ?_
      refine v_get g dX6_keeps_58 fl_RX6_25 (rd_M R _ _) rfl ?_
      refine v_bipush (v := 59) g dX6_keeps_61 (by decide) ?_
      refine v_aload_n g dX6_keeps_63 1 rfl ?_
      refine v_get g dX6_keeps_64 fl_RX6_101 (rd_M R _ _) rfl ?_
      refine v_eqi (y := nI k0) rfl ?_
      refine v_imul g dX6_keeps_67 (v_eqi (y := nI (59 * k0)) (nI_mulE rfl rfl) ?_)
      refine v_iload_n g dX6_keeps_68 0 rfl ?_
      refine v_iadd g dX6_keeps_69 (v_eqi (y := nI ((59 * k0) + k)) (nI_addE rfl rfl) ?_)
      refine v_aload_n g dX6_keeps_70 1 rfl ?_
      refine v_get g dX6_keeps_71 fl_RX6_22 (rd_M R _ _) rfl ?_
      refine v_iload_n g dX6_keeps_74 0 rfl ?_
      refine v_iald g dX6_keeps_75 (rd_MA4 R _ _) (vp_in_nI (by omega) (by decide)) (v_eqi (y := (nI (s k))) (by first | (rw [nI_clamp (by omega)]; done) | (rw [nI_clamp (by omega)]; rfl)) ?_)
      refine v_iast g dX6_keeps_76 (rd_MA5 R _ _) (vp_in_nI (by omega) (by decide)) ?_
      rw [nI_clamp (n := ((59 * k0) + k)) (by omega)]
      refine v_meq (μ' := rem R (qS (uS D (D.1.1, k0, D.1.2.2.1, D.1.2.2.2.1, D.1.2.2.2.2) (va_up (segW p s (59 * k0) k) ((59 * k0) + k) (s k)) (D.2 6) (D.2 7)) t s a) ρ) (st_GA R (qS (uS D (D.1.1, k0, D.1.2.2.1, D.1.2.2.2.1, D.1.2.2.2.2) (segW p s (59 * k0) k) (D.2 6) (D.2 7)) t s a) (qS (uS D (D.1.1, k0, D.1.2.2.1, D.1.2.2.2.1, D.1.2.2.2.2) (va_up (segW p s (59 * k0) k) ((59 * k0) + k) (s k)) (D.2 6) (D.2 7)) t s a) ρ 5 (by decide) (segW p s (59 * k0) k) ((59 * k0) + k) (s k) rfl rfl rfl (fun j hj => by simp only [qS, uS, tA, va_up, if_neg hj])) ?_
      refine v_iinc (v := (nI (k + 1))) (ls' := [(1, .int (nI (k + 1))), (0, .ref R)]) g dX6_keeps_77 0 rfl (nI_addE rfl rfl) rfl rfl ?_
      refine v_goto (tgt := 51) g dX6_keeps_80 (by decide) ?_
      refine v_meq (μ' := rem R (qS (uS D (D.1.1, k0, D.1.2.2.1, D.1.2.2.2.1, D.1.2.2.2.2) (segW p s (59 * k0) (k + 1)) (D.2 6) (D.2 7)) t s a) ρ) (by rw [segW_s]) ?_
      refine v_sub (ls' := [(1, .int (nI (k + 1))), (0, .ref R)]) [0, 1] rfl ?_
      exact ih (k + 1) (by omega)
  have shift : ∀ (he : keepsU D s = (uS D (D.1.1, 8, D.1.2.2.1, D.1.2.2.2.1, D.1.2.2.2.2) (segW (pastSh (D.2 5) 413) s 413 59) (D.2 6) (D.2 7))) (q k : Nat), k + q = 413 → V X 0 0 n (rem R (qS (uS D (D.1.1, 8, D.1.2.2.1, D.1.2.2.2.1, D.1.2.2.2.2) (pastSh (D.2 5) k) (D.2 6) (D.2 7)) t s a) ρ) 11 [(1, .int (nI k)), (0, .ref R)] [] := by
    intro he q
    induction q with
    | zero =>
      intro k hq
      refine v_iload_n g dX6_keeps_11 0 rfl ?_
      refine v_sipush (v := 413) g dX6_keeps_12 (by decide) ?_
      refine v_icmp_ge (tgt := 39) g dX6_keeps_15 (by decide) (fun h15 => ?_) (fun h15 => absurd (nI_le (a := 413) (b := k) (by omega) (by omega)) h15)
      refine v_aload_n g dX6_keeps_39 1 rfl ?_
      refine v_dup g dX6_keeps_40 rfl ?_
      refine v_get g dX6_keeps_41 fl_RX6_101 (rd_M R _ _) rfl ?_
      refine v_eqi (y := nI 8) rfl ?_
      refine v_iconst (v := 1) g dX6_keeps_44 (by decide) ?_
      refine v_isub g dX6_keeps_45 (v_eqi (y := nI (8 - 1)) (nI_subE rfl rfl (by decide)) ?_)
      refine v_put g dX6_keeps_46 fl_RX6_101 (rd_M R _ _) ⟨rfl, rfl⟩ rfl ?_
      refine v_meq (μ' := rem R (qS (uS D (D.1.1, (8 - 1), D.1.2.2.1, D.1.2.2.2.1, D.1.2.2.2.2) (pastSh (D.2 5) k) (D.2 6) (D.2 7)) t s a) ρ) (st_GW R (qS (uS D (D.1.1, 8, D.1.2.2.1, D.1.2.2.2.1, D.1.2.2.2.2) (pastSh (D.2 5) k) (D.2 6) (D.2 7)) t s a) (qS (uS D (D.1.1, (8 - 1), D.1.2.2.1, D.1.2.2.2.1, D.1.2.2.2.2) (pastSh (D.2 5) k) (D.2 6) (D.2 7)) t s a) ρ (D.1.1, (8 - 1), D.1.2.2.1, D.1.2.2.2.1, D.1.2.2.2.2) rfl rfl) ?_
      refine v_iconst (v := 0) g dX6_keeps_49 (by decide) ?_
      refine v_istore_n (ls' := [(1, .int 0), (0, .ref R)]) g dX6_keeps_50 rfl rfl ?_
      obtain rfl : k = 413 := by omega
      refine v_meq (μ' := rem R (qS (uS D (D.1.1, 7, D.1.2.2.1, D.1.2.2.2.1, D.1.2.2.2.2) (segW (pastSh (D.2 5) 413) s (59 * 7) 0) (D.2 6) (D.2 7)) t s a) ρ) (by rw [← segW_0]) ?_
      refine v_sub (ls' := [(1, .int 0), (0, .ref R)]) [0, 1] rfl ?_
      exact tail 7 (pastSh (D.2 5) 413) (by decide) (by rw [he]) 59 0 rfl
    | succ q ih =>
      intro k hq
      refine v_iload_n g dX6_keeps_11 0 rfl ?_
      refine v_sipush (v := 413) g dX6_keeps_12 (by decide) ?_
      refine v_icmp_ge (tgt := 39) g dX6_keeps_15 (by decide) (fun h15 => absurd h15 (nI_ge (a := k) (b := 413) (by omega) (by decide))) (fun h15 => ?_)
      refine v_aload_n g dX6_keeps_18 1 rfl ?_
      refine v_get g dX6_keeps_19 fl_RX6_25 (rd_M R _ _) rfl ?_
      refine v_iload_n g dX6_keeps_22 0 rfl ?_
      refine v_aload_n g dX6_keeps_23 1 rfl ?_
      refine v_get g dX6_keeps_24 fl_RX6_25 (rd_M R _ _) rfl ?_
      refine v_iload_n g dX6_keeps_27 0 rfl ?_
      refine v_bipush (v := 59) g dX6_keeps_28 (by decide) ?_
      refine v_iadd g dX6_keeps_30 (v_eqi (y := nI (k + 59)) (nI_addE rfl rfl) ?_)
      refine v_iald g dX6_keeps_31 (rd_MA5 R _ _) (vp_in_nI (by omega) (by decide)) (v_eqi (y := (nI ((pastSh (D.2 5) k) (k + 59)))) (by first | (rw [nI_clamp (by omega)]; done) | (rw [nI_clamp (by omega)]; rfl)) ?_)
      refine v_eqi (y := nI (D.2 5 (k + 59))) (congrArg nI (pastSh_at (D.2 5) k)) ?_
      refine v_iast g dX6_keeps_32 (rd_MA5 R _ _) (vp_in_nI (by omega) (by decide)) ?_
      rw [nI_clamp (n := k) (by omega)]
      refine v_meq (μ' := rem R (qS (uS D (D.1.1, 8, D.1.2.2.1, D.1.2.2.2.1, D.1.2.2.2.2) (va_up (pastSh (D.2 5) k) k (D.2 5 (k + 59))) (D.2 6) (D.2 7)) t s a) ρ) (st_GA R (qS (uS D (D.1.1, 8, D.1.2.2.1, D.1.2.2.2.1, D.1.2.2.2.2) (pastSh (D.2 5) k) (D.2 6) (D.2 7)) t s a) (qS (uS D (D.1.1, 8, D.1.2.2.1, D.1.2.2.2.1, D.1.2.2.2.2) (va_up (pastSh (D.2 5) k) k (D.2 5 (k + 59))) (D.2 6) (D.2 7)) t s a) ρ 5 (by decide) (pastSh (D.2 5) k) k (D.2 5 (k + 59)) rfl rfl rfl (fun j hj => by simp only [qS, uS, tA, va_up, if_neg hj])) ?_
      refine v_iinc (v := (nI (k + 1))) (ls' := [(1, .int (nI (k + 1))), (0, .ref R)]) g dX6_keeps_33 0 rfl (nI_addE rfl rfl) rfl rfl ?_
      refine v_goto (tgt := 11) g dX6_keeps_36 (by decide) ?_
      refine v_meq (μ' := rem R (qS (uS D (D.1.1, 8, D.1.2.2.1, D.1.2.2.2.1, D.1.2.2.2.2) (pastSh (D.2 5) (k + 1)) (D.2 6) (D.2 7)) t s a) ρ) (by rw [pastSh_s]) ?_
      refine v_sub (ls' := [(1, .int (nI (k + 1))), (0, .ref R)]) [0, 1] rfl ?_
      exact ih (k + 1) (by omega)
  refine v_sub (ls' := [(0, .ref R)]) [0] rfl ?_
  refine v_aload_n g dX6_keeps_0 0 rfl ?_
  refine v_get g dX6_keeps_1 fl_RX6_101 (rd_M R _ _) rfl ?_
  refine v_eqi (y := nI D.1.2.1) rfl ?_
  refine v_bipush (v := 8) g dX6_keeps_4 (by decide) ?_
  refine v_icmp_ne (tgt := 49) g dX6_keeps_6 (by decide) (fun h6 => ?_) (fun h6 => ?_)
  · skip
    have h6n : ¬ D.1.2.1 = 8 := fun q => h6 (by rw [q]; rfl)
    refine v_iconst (v := 0) g dX6_keeps_49 (by decide) ?_
    refine v_istore_n (ls' := [(1, .int 0), (0, .ref R)]) g dX6_keeps_50 rfl rfl ?_
    refine v_meq (μ' := rem R (qS (uS D (D.1.1, D.1.2.1, D.1.2.2.1, D.1.2.2.2.1, D.1.2.2.2.2) (segW (D.2 5) s (59 * D.1.2.1) 0) (D.2 6) (D.2 7)) t s a) ρ) (by rw [← segW_0]; exact congrArg (fun z => rem R (qS z t s a) ρ) (uS_id D).symm) ?_
    refine v_sub (ls' := [(1, .int 0), (0, .ref R)]) [0, 1] rfl ?_
    exact tail D.1.2.1 (D.2 5) (by omega) (by unfold keepsU; rw [if_neg h6n]) 59 0 rfl
  · skip
    have h6n : D.1.2.1 = 8 := (nI_eq (b := 8) (by omega) (by decide)).mp h6
    refine v_iconst (v := 0) g dX6_keeps_9 (by decide) ?_
    refine v_istore_n (ls' := [(1, .int 0), (0, .ref R)]) g dX6_keeps_10 rfl rfl ?_
    refine v_meq (μ' := rem R (qS (uS D (D.1.1, 8, D.1.2.2.1, D.1.2.2.2.1, D.1.2.2.2.2) (pastSh (D.2 5) 0) (D.2 6) (D.2 7)) t s a) ρ) (by rw [← pastSh_0, ← h6n]; exact congrArg (fun z => rem R (qS z t s a) ρ) (uS_id D).symm) ?_
    refine v_sub (ls' := [(1, .int 0), (0, .ref R)]) [0, 1] rfl ?_
    exact shift (by unfold keepsU; rw [if_pos h6n]) 413 0 rfl
def undoQ (D : MS) (s : Nat → Nat) : Int32 × MS × (Nat → Nat) := if D.1.2.1 = 0 then (-2, D, s) else (nI (D.1.2.1 - 1), (uS D (D.1.1, (D.1.2.1 - 1), D.1.2.2.1, D.1.2.2.2.1, D.1.2.2.2.2) (D.2 5) (D.2 6) (D.2 7)), segR s (D.2 5) (59 * (D.1.2.1 - 1)) 59)
theorem q_undo (hk : D.1.2.1 ≤ 8) : Ctr l G 0 0 0 0 mX6_undo [.ref R] n (rem R (qS D t s a) ρ) (some (.int (undoQ D s).1)) n (rem R (qS (undoQ D s).2.1 t (undoQ D s).2.2 a) ρ) := by
  refine Ctr.of (by decide +kernel) rfl (fun X g E => ?_)
  have loop : ∀ (k0 : Nat), k0 < 8 → undoQ D s = (nI k0, (uS D (D.1.1, k0, D.1.2.2.1, D.1.2.2.2.1, D.1.2.2.2.2) (D.2 5) (D.2 6) (D.2 7)), segR s (D.2 5) (59 * k0) 59) → ∀ (q k : Nat), k + q = 59 → V X 0 0 n (rem R (qS (uS D (D.1.1, k0, D.1.2.2.1, D.1.2.2.2.1, D.1.2.2.2.2) (D.2 5) (D.2 6) (D.2 7)) t (segR s (D.2 5) (59 * k0) k) a) ρ) 22 [(1, .int (nI k)), (0, .ref R)] [] := by
    intro k0 hk0 he q
    induction q with
    | zero =>
      intro k hq
      refine v_iload_n g dX6_undo_22 0 rfl ?_
      refine v_bipush (v := 59) g dX6_undo_23 (by decide) ?_
      refine v_icmp_ge (tgt := 54) g dX6_undo_25 (by decide) (fun h25 => ?_) (fun h25 => absurd (nI_le (a := 59) (b := k) (by omega) (by omega)) h25)
      refine v_aload_n g dX6_undo_54 1 rfl ?_
      refine v_get g dX6_undo_55 fl_RX6_101 (rd_M R _ _) rfl ?_
      refine v_eqi (y := nI k0) rfl ?_
      exact v_iret g E dX6_undo_58 rfl ⟨by rw [he], rfl, by (obtain rfl : k = 59 := by omega); rw [he]⟩
    | succ q ih =>
      intro k hq
      refine v_iload_n g dX6_undo_22 0 rfl ?_
      refine v_bipush (v := 59) g dX6_undo_23 (by decide) ?_
      refine v_icmp_ge (tgt := 54) g dX6_undo_25 (by decide) (fun h25 => absurd h25 (nI_ge (a := k) (b := 59) (by omega) (by decide))) (fun h25 => ?_)
      refine v_aload_n g dX6_undo_28 1 rfl ?_
      refine v_get g dX6_undo_29 fl_RX6_22 (rd_M R _ _) rfl ?_
      refine v_iload_n g dX6_undo_32 0 rfl ?_
      refine v_aload_n g dX6_undo_33 1 rfl ?_
      refine v_get g dX6_undo_34 fl_RX6_25 (rd_M R _ _) rfl ?_
      refine v_bipush (v := 59) g dX6_undo_37 (by decide) ?_
      refine v_aload_n g dX6_undo_39 1 rfl ?_
      refine v_get g dX6_undo_40 fl_RX6_101 (rd_M R _ _) rfl ?_
      refine v_eqi (y := nI k0) rfl ?_
      refine v_imul g dX6_undo_43 (v_eqi (y := nI (59 * k0)) (nI_mulE rfl rfl) ?_)
      refine v_iload_n g dX6_undo_44 0 rfl ?_
      refine v_iadd g dX6_undo_45 (v_eqi (y := nI ((59 * k0) + k)) (nI_addE rfl rfl) ?_)
      refine v_iald g dX6_undo_46 (rd_MA5 R _ _) (vp_in_nI (by omega) (by decide)) (v_eqi (y := (nI ((D.2 5) ((59 * k0) + k)))) (by first | (rw [nI_clamp (by omega)]; done) | (rw [nI_clamp (by omega)]; rfl)) ?_)
      refine v_iast g dX6_undo_47 (rd_MA4 R _ _) (vp_in_nI (by omega) (by decide)) ?_
      rw [nI_clamp (n := k) (by omega)]
      refine v_meq (μ' := rem R (qS (uS D (D.1.1, k0, D.1.2.2.1, D.1.2.2.2.1, D.1.2.2.2.2) (D.2 5) (D.2 6) (D.2 7)) t (va_up (segR s (D.2 5) (59 * k0) k) k ((D.2 5) ((59 * k0) + k))) a) ρ) (st_GA R (qS (uS D (D.1.1, k0, D.1.2.2.1, D.1.2.2.2.1, D.1.2.2.2.2) (D.2 5) (D.2 6) (D.2 7)) t (segR s (D.2 5) (59 * k0) k) a) (qS (uS D (D.1.1, k0, D.1.2.2.1, D.1.2.2.2.1, D.1.2.2.2.2) (D.2 5) (D.2 6) (D.2 7)) t (va_up (segR s (D.2 5) (59 * k0) k) k ((D.2 5) ((59 * k0) + k))) a) ρ 4 (by decide) (segR s (D.2 5) (59 * k0) k) k ((D.2 5) ((59 * k0) + k)) rfl rfl rfl (fun j hj => by simp only [qS, uS, tA, va_up, if_neg hj])) ?_
      refine v_iinc (v := (nI (k + 1))) (ls' := [(1, .int (nI (k + 1))), (0, .ref R)]) g dX6_undo_48 0 rfl (nI_addE rfl rfl) rfl rfl ?_
      refine v_goto (tgt := 22) g dX6_undo_51 (by decide) ?_
      refine v_meq (μ' := rem R (qS (uS D (D.1.1, k0, D.1.2.2.1, D.1.2.2.2.1, D.1.2.2.2.2) (D.2 5) (D.2 6) (D.2 7)) t (segR s (D.2 5) (59 * k0) (k + 1)) a) ρ) (by rw [segR_s]) ?_
      refine v_sub (ls' := [(1, .int (nI (k + 1))), (0, .ref R)]) [0, 1] rfl ?_
      exact ih (k + 1) (by omega)
  refine v_sub (ls' := [(0, .ref R)]) [0] rfl ?_
  refine v_aload_n g dX6_undo_0 0 rfl ?_
  refine v_get g dX6_undo_1 fl_RX6_101 (rd_M R _ _) rfl ?_
  refine v_eqi (y := nI D.1.2.1) rfl ?_
  refine v_if_ne (tgt := 10) g dX6_undo_4 (by decide) (fun h4 => ?_) (fun h4 => ?_)
  · skip
    have h4n : ¬ D.1.2.1 = 0 := fun q => h4 (by rw [q]; rfl)
    refine v_aload_n g dX6_undo_10 0 rfl ?_
    refine v_dup g dX6_undo_11 rfl ?_
    refine v_get g dX6_undo_12 fl_RX6_101 (rd_M R _ _) rfl ?_
    refine v_eqi (y := nI D.1.2.1) rfl ?_
    refine v_iconst (v := 1) g dX6_undo_15 (by decide) ?_
    refine v_isub g dX6_undo_16 (v_eqi (y := nI (D.1.2.1 - 1)) (nI_subE rfl rfl (by omega)) ?_)
    refine v_put g dX6_undo_17 fl_RX6_101 (rd_M R _ _) ⟨rfl, rfl⟩ rfl ?_
    refine v_meq (μ' := rem R (qS (uS D (D.1.1, (D.1.2.1 - 1), D.1.2.2.1, D.1.2.2.2.1, D.1.2.2.2.2) (D.2 5) (D.2 6) (D.2 7)) t s a) ρ) (st_GW R (qS D t s a) (qS (uS D (D.1.1, (D.1.2.1 - 1), D.1.2.2.1, D.1.2.2.2.1, D.1.2.2.2.2) (D.2 5) (D.2 6) (D.2 7)) t s a) ρ (D.1.1, (D.1.2.1 - 1), D.1.2.2.1, D.1.2.2.2.1, D.1.2.2.2.2) rfl (congrArg (fun z => va_up (va_up (va_up z 1 t) 4 s) 8 a) (uS_2 D _))) ?_
    refine v_iconst (v := 0) g dX6_undo_20 (by decide) ?_
    refine v_istore_n (ls' := [(1, .int 0), (0, .ref R)]) g dX6_undo_21 rfl rfl ?_
    refine v_meq (μ' := rem R (qS (uS D (D.1.1, (D.1.2.1 - 1), D.1.2.2.1, D.1.2.2.2.1, D.1.2.2.2.2) (D.2 5) (D.2 6) (D.2 7)) t (segR s (D.2 5) (59 * (D.1.2.1 - 1)) 0) a) ρ) (by rw [← segR_0]) ?_
    refine v_sub (ls' := [(1, .int 0), (0, .ref R)]) [0, 1] rfl ?_
    exact loop (D.1.2.1 - 1) (by omega) (by unfold undoQ; rw [if_neg h4n]) 59 0 rfl
  · skip
    have h4n : D.1.2.1 = 0 := (nI_eq (b := 0) (by omega) (by decide)).mp h4
    refine v_bipush (v := (-2)) g dX6_undo_7 (by decide) ?_
    exact v_iret g E dX6_undo_9 rfl ⟨by simp [undoQ, h4n], rfl, by simp [undoQ, h4n]⟩
def backQ (D : MS) (s : Nat → Nat) : Int32 × MS × (Nat → Nat) := if D.1.2.2.1 = 0 then (-2, D, s) else (nI (D.1.2.2.1 - 1), (uS D (D.1.1, 0, (D.1.2.2.1 - 1), D.1.2.2.2.1, D.1.2.2.2.2) (D.2 5) (D.2 6) (D.2 7)), segR s (D.2 6) (59 * (D.1.2.2.1 - 1)) 59)
theorem q_back (hk : D.1.2.2.1 ≤ 2) : Ctr l G 0 0 0 0 mX6_back [.ref R] n (rem R (qS D t s a) ρ) (some (.int (backQ D s).1)) n (rem R (qS (backQ D s).2.1 t (backQ D s).2.2 a) ρ) := by
  refine Ctr.of (by decide +kernel) rfl (fun X g E => ?_)
  have loop : ∀ (k0 : Nat), k0 < 2 → backQ D s = (nI k0, (uS D (D.1.1, 0, k0, D.1.2.2.2.1, D.1.2.2.2.2) (D.2 5) (D.2 6) (D.2 7)), segR s (D.2 6) (59 * k0) 59) → ∀ (q k : Nat), k + q = 59 → V X 0 0 n (rem R (qS (uS D (D.1.1, D.1.2.1, k0, D.1.2.2.2.1, D.1.2.2.2.2) (D.2 5) (D.2 6) (D.2 7)) t (segR s (D.2 6) (59 * k0) k) a) ρ) 22 [(1, .int (nI k)), (0, .ref R)] [] := by
    intro k0 hk0 he q
    induction q with
    | zero =>
      intro k hq
      refine v_iload_n g dX6_back_22 0 rfl ?_
      refine v_bipush (v := 59) g dX6_back_23 (by decide) ?_
      refine v_icmp_ge (tgt := 54) g dX6_back_25 (by decide) (fun h25 => ?_) (fun h25 => absurd (nI_le (a := 59) (b := k) (by omega) (by omega)) h25)
      refine v_aload_n g dX6_back_54 1 rfl ?_
      refine v_iconst (v := 0) g dX6_back_55 (by decide) ?_
      refine v_put g dX6_back_56 fl_RX6_101 (rd_M R _ _) ⟨rfl, rfl⟩ rfl ?_
      refine v_meq (μ' := rem R (qS (uS D (D.1.1, 0, k0, D.1.2.2.2.1, D.1.2.2.2.2) (D.2 5) (D.2 6) (D.2 7)) t (segR s (D.2 6) (59 * k0) k) a) ρ) (st_GW R (qS (uS D (D.1.1, D.1.2.1, k0, D.1.2.2.2.1, D.1.2.2.2.2) (D.2 5) (D.2 6) (D.2 7)) t (segR s (D.2 6) (59 * k0) k) a) (qS (uS D (D.1.1, 0, k0, D.1.2.2.2.1, D.1.2.2.2.2) (D.2 5) (D.2 6) (D.2 7)) t (segR s (D.2 6) (59 * k0) k) a) ρ (D.1.1, 0, k0, D.1.2.2.2.1, D.1.2.2.2.2) rfl rfl) ?_
      refine v_aload_n g dX6_back_59 1 rfl ?_
      refine v_get g dX6_back_60 fl_RX6_104 (rd_M R _ _) rfl ?_
      refine v_eqi (y := nI k0) rfl ?_
      exact v_iret g E dX6_back_63 rfl ⟨by rw [he], rfl, by (obtain rfl : k = 59 := by omega); rw [he]⟩
    | succ q ih =>
      intro k hq
      refine v_iload_n g dX6_back_22 0 rfl ?_
      refine v_bipush (v := 59) g dX6_back_23 (by decide) ?_
      refine v_icmp_ge (tgt := 54) g dX6_back_25 (by decide) (fun h25 => absurd h25 (nI_ge (a := k) (b := 59) (by omega) (by decide))) (fun h25 => ?_)
      refine v_aload_n g dX6_back_28 1 rfl ?_
      refine v_get g dX6_back_29 fl_RX6_22 (rd_M R _ _) rfl ?_
      refine v_iload_n g dX6_back_32 0 rfl ?_
      refine v_aload_n g dX6_back_33 1 rfl ?_
      refine v_get g dX6_back_34 fl_RX6_28 (rd_M R _ _) rfl ?_
      refine v_bipush (v := 59) g dX6_back_37 (by decide) ?_
      refine v_aload_n g dX6_back_39 1 rfl ?_
      refine v_get g dX6_back_40 fl_RX6_104 (rd_M R _ _) rfl ?_
      refine v_eqi (y := nI k0) rfl ?_
      refine v_imul g dX6_back_43 (v_eqi (y := nI (59 * k0)) (nI_mulE rfl rfl) ?_)
      refine v_iload_n g dX6_back_44 0 rfl ?_
      refine v_iadd g dX6_back_45 (v_eqi (y := nI ((59 * k0) + k)) (nI_addE rfl rfl) ?_)
      refine v_iald g dX6_back_46 (rd_MA6 R _ _) (vp_in_nI (by omega) (by decide)) (v_eqi (y := (nI ((D.2 6) ((59 * k0) + k)))) (by first | (rw [nI_clamp (by omega)]; done) | (rw [nI_clamp (by omega)]; rfl)) ?_)
      refine v_iast g dX6_back_47 (rd_MA4 R _ _) (vp_in_nI (by omega) (by decide)) ?_
      rw [nI_clamp (n := k) (by omega)]
      refine v_meq (μ' := rem R (qS (uS D (D.1.1, D.1.2.1, k0, D.1.2.2.2.1, D.1.2.2.2.2) (D.2 5) (D.2 6) (D.2 7)) t (va_up (segR s (D.2 6) (59 * k0) k) k ((D.2 6) ((59 * k0) + k))) a) ρ) (st_GA R (qS (uS D (D.1.1, D.1.2.1, k0, D.1.2.2.2.1, D.1.2.2.2.2) (D.2 5) (D.2 6) (D.2 7)) t (segR s (D.2 6) (59 * k0) k) a) (qS (uS D (D.1.1, D.1.2.1, k0, D.1.2.2.2.1, D.1.2.2.2.2) (D.2 5) (D.2 6) (D.2 7)) t (va_up (segR s (D.2 6) (59 * k0) k) k ((D.2 6) ((59 * k0) + k))) a) ρ 4 (by decide) (segR s (D.2 6) (59 * k0) k) k ((D.2 6) ((59 * k0) + k)) rfl rfl rfl (fun j hj => by simp only [qS, uS, tA, va_up, if_neg hj])) ?_
      refine v_iinc (v := (nI (k + 1))) (ls' := [(1, .int (nI (k + 1))), (0, .ref R)]) g dX6_back_48 0 rfl (nI_addE rfl rfl) rfl rfl ?_
      refine v_goto (tgt := 22) g dX6_back_51 (by decide) ?_
      refine v_meq (μ' := rem R (qS (uS D (D.1.1, D.1.2.1, k0, D.1.2.2.2.1, D.1.2.2.2.2) (D.2 5) (D.2 6) (D.2 7)) t (segR s (D.2 6) (59 * k0) (k + 1)) a) ρ) (by rw [segR_s]) ?_
      refine v_sub (ls' := [(1, .int (nI (k + 1))), (0, .ref R)]) [0, 1] rfl ?_
      exact ih (k + 1) (by omega)
  refine v_sub (ls' := [(0, .ref R)]) [0] rfl ?_
  refine v_aload_n g dX6_back_0 0 rfl ?_
  refine v_get g dX6_back_1 fl_RX6_104 (rd_M R _ _) rfl ?_
  refine v_eqi (y := nI D.1.2.2.1) rfl ?_
  refine v_if_ne (tgt := 10) g dX6_back_4 (by decide) (fun h4 => ?_) (fun h4 => ?_)
  · skip
    have h4n : ¬ D.1.2.2.1 = 0 := fun q => h4 (by rw [q]; rfl)
    refine v_aload_n g dX6_back_10 0 rfl ?_
    refine v_dup g dX6_back_11 rfl ?_
    refine v_get g dX6_back_12 fl_RX6_104 (rd_M R _ _) rfl ?_
    refine v_eqi (y := nI D.1.2.2.1) rfl ?_
    refine v_iconst (v := 1) g dX6_back_15 (by decide) ?_
    refine v_isub g dX6_back_16 (v_eqi (y := nI (D.1.2.2.1 - 1)) (nI_subE rfl rfl (by omega)) ?_)
    refine v_put g dX6_back_17 fl_RX6_104 (rd_M R _ _) ⟨rfl, rfl⟩ rfl ?_
    refine v_meq (μ' := rem R (qS (uS D (D.1.1, D.1.2.1, (D.1.2.2.1 - 1), D.1.2.2.2.1, D.1.2.2.2.2) (D.2 5) (D.2 6) (D.2 7)) t s a) ρ) (st_GW R (qS D t s a) (qS (uS D (D.1.1, D.1.2.1, (D.1.2.2.1 - 1), D.1.2.2.2.1, D.1.2.2.2.2) (D.2 5) (D.2 6) (D.2 7)) t s a) ρ (D.1.1, D.1.2.1, (D.1.2.2.1 - 1), D.1.2.2.2.1, D.1.2.2.2.2) rfl (congrArg (fun z => va_up (va_up (va_up z 1 t) 4 s) 8 a) (uS_2 D _))) ?_
    refine v_iconst (v := 0) g dX6_back_20 (by decide) ?_
    refine v_istore_n (ls' := [(1, .int 0), (0, .ref R)]) g dX6_back_21 rfl rfl ?_
    refine v_meq (μ' := rem R (qS (uS D (D.1.1, D.1.2.1, (D.1.2.2.1 - 1), D.1.2.2.2.1, D.1.2.2.2.2) (D.2 5) (D.2 6) (D.2 7)) t (segR s (D.2 6) (59 * (D.1.2.2.1 - 1)) 0) a) ρ) (by rw [← segR_0]) ?_
    refine v_sub (ls' := [(1, .int 0), (0, .ref R)]) [0, 1] rfl ?_
    exact loop (D.1.2.2.1 - 1) (by omega) (by unfold backQ; rw [if_neg h4n]) 59 0 rfl
  · skip
    have h4n : D.1.2.2.1 = 0 := (nI_eq (b := 0) (by omega) (by decide)).mp h4
    refine v_bipush (v := (-2)) g dX6_back_7 (by decide) ?_
    exact v_iret g E dX6_back_9 rfl ⟨by simp [backQ, h4n], rfl, by simp [backQ, h4n]⟩
def keepQ (D : MS) (s : Nat → Nat) : Int32 × MS := if D.1.2.2.1 = 2 then (-3, D) else (nI (D.1.2.2.1 + 1), (uS D (D.1.1, D.1.2.1, D.1.2.2.1 + 1, D.1.2.2.2.1, D.1.2.2.2.2) (D.2 5) (segW (D.2 6) s (59 * D.1.2.2.1) 59) (D.2 7)))
theorem q_keep (hk : D.1.2.2.1 ≤ 2) : Ctr l G 0 0 0 0 mX6_keep [.ref R] n (rem R (qS D t s a) ρ) (some (.int (keepQ D s).1)) n (rem R (qS (keepQ D s).2 t s a) ρ) := by
  refine Ctr.of (by decide +kernel) rfl (fun X g E => ?_)
  have loop : ∀ (h4n : ¬ D.1.2.2.1 = 2) (q k : Nat), k + q = 59 → V X 0 0 n (rem R (qS (uS D (D.1.1, D.1.2.1, D.1.2.2.1, D.1.2.2.2.1, D.1.2.2.2.2) (D.2 5) (segW (D.2 6) s (59 * D.1.2.2.1) k) (D.2 7)) t s a) ρ) 13 [(1, .int (nI k)), (0, .ref R)] [] := by
    intro h4n q
    induction q with
    | zero =>
      intro k hq
      refine v_iload_n g dX6_keep_13 0 rfl ?_
      refine v_bipush (v := 59) g dX6_keep_14 (by decide) ?_
      refine v_icmp_ge (tgt := 45) g dX6_keep_16 (by decide) (fun h16 => ?_) (fun h16 => absurd (nI_le (a := 59) (b := k) (by omega) (by omega)) h16)
      refine v_aload_n g dX6_keep_45 1 rfl ?_
      refine v_dup g dX6_keep_46 rfl ?_
      refine v_get g dX6_keep_47 fl_RX6_104 (rd_M R _ _) rfl ?_
      refine v_eqi (y := nI D.1.2.2.1) rfl ?_
      refine v_iconst (v := 1) g dX6_keep_50 (by decide) ?_
      refine v_iadd g dX6_keep_51 (v_eqi (y := nI (D.1.2.2.1 + 1)) (nI_addE rfl rfl) ?_)
      refine v_put g dX6_keep_52 fl_RX6_104 (rd_M R _ _) ⟨rfl, rfl⟩ rfl ?_
      refine v_meq (μ' := rem R (qS (uS D (D.1.1, D.1.2.1, (D.1.2.2.1 + 1), D.1.2.2.2.1, D.1.2.2.2.2) (D.2 5) (segW (D.2 6) s (59 * D.1.2.2.1) k) (D.2 7)) t s a) ρ) (st_GW R (qS (uS D (D.1.1, D.1.2.1, D.1.2.2.1, D.1.2.2.2.1, D.1.2.2.2.2) (D.2 5) (segW (D.2 6) s (59 * D.1.2.2.1) k) (D.2 7)) t s a) (qS (uS D (D.1.1, D.1.2.1, (D.1.2.2.1 + 1), D.1.2.2.2.1, D.1.2.2.2.2) (D.2 5) (segW (D.2 6) s (59 * D.1.2.2.1) k) (D.2 7)) t s a) ρ (D.1.1, D.1.2.1, (D.1.2.2.1 + 1), D.1.2.2.2.1, D.1.2.2.2.2) rfl rfl) ?_
      refine v_aload_n g dX6_keep_55 1 rfl ?_
      refine v_get g dX6_keep_56 fl_RX6_104 (rd_M R _ _) rfl ?_
      refine v_eqi (y := nI (D.1.2.2.1 + 1)) rfl ?_
      exact v_iret g E dX6_keep_59 rfl ⟨by unfold keepQ; rw [if_neg h4n], rfl, by (obtain rfl : k = 59 := by omega); unfold keepQ; rw [if_neg h4n]⟩
    | succ q ih =>
      intro k hq
      refine v_iload_n g dX6_keep_13 0 rfl ?_
      refine v_bipush (v := 59) g dX6_keep_14 (by decide) ?_
      refine v_icmp_ge (tgt := 45) g dX6_keep_16 (by decide) (fun h16 => absurd h16 (nI_ge (a := k) (b := 59) (by omega) (by decide))) (fun h16 => ?_)
      refine v_aload_n g dX6_keep_19 1 rfl ?_
      refine v_get g dX6_keep_20 fl_RX6_28 (rd_M R _ _) rfl ?_
      refine v_bipush (v := 59) g dX6_keep_23 (by decide) ?_
      refine v_aload_n g dX6_keep_25 1 rfl ?_
      refine v_get g dX6_keep_26 fl_RX6_104 (rd_M R _ _) rfl ?_
      refine v_eqi (y := nI D.1.2.2.1) rfl ?_
      refine v_imul g dX6_keep_29 (v_eqi (y := nI (59 * D.1.2.2.1)) (nI_mulE rfl rfl) ?_)
      refine v_iload_n g dX6_keep_30 0 rfl ?_
      refine v_iadd g dX6_keep_31 (v_eqi (y := nI ((59 * D.1.2.2.1) + k)) (nI_addE rfl rfl) ?_)
      refine v_aload_n g dX6_keep_32 1 rfl ?_
      refine v_get g dX6_keep_33 fl_RX6_22 (rd_M R _ _) rfl ?_
      refine v_iload_n g dX6_keep_36 0 rfl ?_
      refine v_iald g dX6_keep_37 (rd_MA4 R _ _) (vp_in_nI (by omega) (by decide)) (v_eqi (y := (nI (s k))) (by first | (rw [nI_clamp (by omega)]; done) | (rw [nI_clamp (by omega)]; rfl)) ?_)
      refine v_iast g dX6_keep_38 (rd_MA6 R _ _) (vp_in_nI (by omega) (by decide)) ?_
      rw [nI_clamp (n := ((59 * D.1.2.2.1) + k)) (by omega)]
      refine v_meq (μ' := rem R (qS (uS D (D.1.1, D.1.2.1, D.1.2.2.1, D.1.2.2.2.1, D.1.2.2.2.2) (D.2 5) (va_up (segW (D.2 6) s (59 * D.1.2.2.1) k) ((59 * D.1.2.2.1) + k) (s k)) (D.2 7)) t s a) ρ) (st_GA R (qS (uS D (D.1.1, D.1.2.1, D.1.2.2.1, D.1.2.2.2.1, D.1.2.2.2.2) (D.2 5) (segW (D.2 6) s (59 * D.1.2.2.1) k) (D.2 7)) t s a) (qS (uS D (D.1.1, D.1.2.1, D.1.2.2.1, D.1.2.2.2.1, D.1.2.2.2.2) (D.2 5) (va_up (segW (D.2 6) s (59 * D.1.2.2.1) k) ((59 * D.1.2.2.1) + k) (s k)) (D.2 7)) t s a) ρ 6 (by decide) (segW (D.2 6) s (59 * D.1.2.2.1) k) ((59 * D.1.2.2.1) + k) (s k) rfl rfl rfl (fun j hj => by simp only [qS, uS, tA, va_up, if_neg hj])) ?_
      refine v_iinc (v := (nI (k + 1))) (ls' := [(1, .int (nI (k + 1))), (0, .ref R)]) g dX6_keep_39 0 rfl (nI_addE rfl rfl) rfl rfl ?_
      refine v_goto (tgt := 13) g dX6_keep_42 (by decide) ?_
      refine v_meq (μ' := rem R (qS (uS D (D.1.1, D.1.2.1, D.1.2.2.1, D.1.2.2.2.1, D.1.2.2.2.2) (D.2 5) (segW (D.2 6) s (59 * D.1.2.2.1) (k + 1)) (D.2 7)) t s a) ρ) (by rw [segW_s]) ?_
      refine v_sub (ls' := [(1, .int (nI (k + 1))), (0, .ref R)]) [0, 1] rfl ?_
      exact ih (k + 1) (by omega)
  refine v_sub (ls' := [(0, .ref R)]) [0] rfl ?_
  refine v_aload_n g dX6_keep_0 0 rfl ?_
  refine v_get g dX6_keep_1 fl_RX6_104 (rd_M R _ _) rfl ?_
  refine v_eqi (y := nI D.1.2.2.1) rfl ?_
  refine v_iconst (v := 2) g dX6_keep_4 (by decide) ?_
  refine v_icmp_ne (tgt := 11) g dX6_keep_5 (by decide) (fun h5 => ?_) (fun h5 => ?_)
  · skip
    have h4n : ¬ D.1.2.2.1 = 2 := fun q => h5 (by rw [q]; rfl)
    refine v_iconst (v := 0) g dX6_keep_11 (by decide) ?_
    refine v_istore_n (ls' := [(1, .int 0), (0, .ref R)]) g dX6_keep_12 rfl rfl ?_
    refine v_meq (μ' := rem R (qS (uS D (D.1.1, D.1.2.1, D.1.2.2.1, D.1.2.2.2.1, D.1.2.2.2.2) (D.2 5) (segW (D.2 6) s (59 * D.1.2.2.1) 0) (D.2 7)) t s a) ρ) (by rw [← segW_0]; exact congrArg (fun z => rem R (qS z t s a) ρ) (uS_id D).symm) ?_
    refine v_sub (ls' := [(1, .int 0), (0, .ref R)]) [0, 1] rfl ?_
    exact loop h4n 59 0 rfl
  · skip
    have h4n : D.1.2.2.1 = 2 := (nI_eq (b := 2) (by omega) (by decide)).mp h5
    refine v_bipush (v := (-3)) g dX6_keep_8 (by decide) ?_
    exact v_iret g E dX6_keep_10 rfl ⟨by simp [keepQ, h4n], rfl, by simp [keepQ, h4n]⟩
end R7
