/-! THE REFERENCE: holds, lets -/
def cpN (f g : Nat → Nat) (k : Nat) : Nat → Nat := fun j => if j < k then g j else f j
theorem cpN_0 (f g : Nat → Nat) : f = cpN f g 0 := by funext j; unfold cpN; rw [if_neg (by omega)]
theorem cpN_s (f g : Nat → Nat) (k : Nat) : va_up (cpN f g k) k (g k) = cpN f g (k + 1) := by
  funext j
  unfold va_up cpN
  by_cases h : j = k
  · subst h; rw [if_pos rfl, if_pos (by omega)]
  · rw [if_neg h]
    by_cases h2 : j < k
    · rw [if_pos h2, if_pos (by omega)]
    · rw [if_neg h2, if_neg (by omega)]
theorem st_MAk (R : Nat) (D : MS) (ρ : Mu) (a : Nat) (ha : a < 9) (f : Nat → Nat) (i x : Nat) : mset (rem R (tA D a f) ρ) (R + (a + 1)) (.inl (0, mLen a, .inl (upd (nA f) i (nI x)))) = rem R (tA D a (va_up f i x)) ρ := by
  have h := st_MA R (tA D a f) ρ a ha i x
  have e : (tA D a f).2 a = f := va_up_self D.2 a f
  rw [e, tA_tA] at h
  exact h
section R6
variable {l : Launch} {G : GG} {n : Nat} {R : Nat} {D : MS} {ρ : Mu}
theorem k_X6_holds : Ctr l G 0 0 0 0 mX6_holds [.ref R] n (rem R D ρ) none n (rem R (tA D 8 (cpN (D.2 8) (D.2 4) 59)) ρ) := by
  refine Ctr.of (by decide +kernel) rfl (fun X g E => ?_)
  have loop : ∀ (q k : Nat), k + q = 59 → V X 0 0 n (rem R (tA D 8 (cpN (D.2 8) (D.2 4) k)) ρ) 2 [(1, .int (nI k)), (0, .ref R)] [] := by
    intro q
    induction q with
    | zero =>
      intro k hq
      refine v_iload_n g dX6_holds_2 0 rfl ?_
      refine v_bipush (v := 59) g dX6_holds_3 (by decide) ?_
      refine v_icmp_ge (tgt := 26) g dX6_holds_5 (by decide) (fun h5 => ?_) (fun h5 => absurd (nI_le (a := 59) (b := k) (by omega) (by omega)) h5)
      obtain rfl : k = 59 := by omega
      exact v_vret g E dX6_holds_26 rfl ⟨rfl, rfl, rfl⟩
    | succ q ih =>
      intro k hq
      refine v_iload_n g dX6_holds_2 0 rfl ?_
      refine v_bipush (v := 59) g dX6_holds_3 (by decide) ?_
      refine v_icmp_ge (tgt := 26) g dX6_holds_5 (by decide) (fun h5 => absurd h5 (nI_ge (a := k) (b := 59) (by omega) (by decide))) (fun h5 => ?_)
      refine v_aload_n g dX6_holds_8 1 rfl ?_
      refine v_get g dX6_holds_9 fl_RX6_34 (rd_M R _ _) rfl ?_
      refine v_iload_n g dX6_holds_12 0 rfl ?_
      refine v_aload_n g dX6_holds_13 1 rfl ?_
      refine v_get g dX6_holds_14 fl_RX6_22 (rd_M R _ _) rfl ?_
      refine v_iload_n g dX6_holds_17 0 rfl ?_
      refine v_iald g dX6_holds_18 (rd_MA4 R _ _) (vp_in_nI (by omega) (by decide)) (v_eqi (y := (nI ((D.2 4) k))) (by first | (rw [nI_clamp (by omega)]; done) | (rw [nI_clamp (by omega)]; rfl)) ?_)
      refine v_iast g dX6_holds_19 (rd_MA8 R _ _) (vp_in_nI (by omega) (by decide)) ?_
      rw [nI_clamp (n := k) (by omega)]
      refine v_meq (μ' := rem R (tA D 8 (va_up (cpN (D.2 8) (D.2 4) k) k ((D.2 4) k))) ρ) (st_MAk R D ρ 8 (by decide) (cpN (D.2 8) (D.2 4) k) k ((D.2 4) k)) ?_
      refine v_iinc (v := (nI (k + 1))) (ls' := [(1, .int (nI (k + 1))), (0, .ref R)]) g dX6_holds_20 0 rfl (nI_addE rfl rfl) rfl rfl ?_
      refine v_goto (tgt := 2) g dX6_holds_23 (by decide) ?_
      refine v_meq (μ' := rem R (tA D 8 (cpN (D.2 8) (D.2 4) (k + 1))) ρ) (by rw [cpN_s]) ?_
      refine v_sub (ls' := [(1, .int (nI (k + 1))), (0, .ref R)]) [0, 1] rfl ?_
      exact ih (k + 1) (by omega)
  refine v_sub (ls' := [(0, .ref R)]) [0] rfl ?_
  refine v_meq (μ' := rem R (tA D 8 (cpN (D.2 8) (D.2 4) 0)) ρ) (by rw [← cpN_0, tA_id]) ?_
  refine v_iconst (v := 0) g dX6_holds_0 (by decide) ?_
  refine v_istore_n (ls' := [(1, .int 0), (0, .ref R)]) g dX6_holds_1 rfl rfl ?_
  refine v_sub (ls' := [(1, .int 0), (0, .ref R)]) [0, 1] rfl ?_
  exact loop 59 0 rfl
theorem k_X6_lets : Ctr l G 0 0 0 0 mX6_lets [.ref R] n (rem R D ρ) none n (rem R (tA D 4 (cpN (D.2 4) (D.2 8) 59)) ρ) := by
  refine Ctr.of (by decide +kernel) rfl (fun X g E => ?_)
  have loop : ∀ (q k : Nat), k + q = 59 → V X 0 0 n (rem R (tA D 4 (cpN (D.2 4) (D.2 8) k)) ρ) 2 [(1, .int (nI k)), (0, .ref R)] [] := by
    intro q
    induction q with
    | zero =>
      intro k hq
      refine v_iload_n g dX6_lets_2 0 rfl ?_
      refine v_bipush (v := 59) g dX6_lets_3 (by decide) ?_
      refine v_icmp_ge (tgt := 26) g dX6_lets_5 (by decide) (fun h5 => ?_) (fun h5 => absurd (nI_le (a := 59) (b := k) (by omega) (by omega)) h5)
      obtain rfl : k = 59 := by omega
      exact v_vret g E dX6_lets_26 rfl ⟨rfl, rfl, rfl⟩
    | succ q ih =>
      intro k hq
      refine v_iload_n g dX6_lets_2 0 rfl ?_
      refine v_bipush (v := 59) g dX6_lets_3 (by decide) ?_
      refine v_icmp_ge (tgt := 26) g dX6_lets_5 (by decide) (fun h5 => absurd h5 (nI_ge (a := k) (b := 59) (by omega) (by decide))) (fun h5 => ?_)
      refine v_aload_n g dX6_lets_8 1 rfl ?_
      refine v_get g dX6_lets_9 fl_RX6_22 (rd_M R _ _) rfl ?_
      refine v_iload_n g dX6_lets_12 0 rfl ?_
      refine v_aload_n g dX6_lets_13 1 rfl ?_
      refine v_get g dX6_lets_14 fl_RX6_34 (rd_M R _ _) rfl ?_
      refine v_iload_n g dX6_lets_17 0 rfl ?_
      refine v_iald g dX6_lets_18 (rd_MA8 R _ _) (vp_in_nI (by omega) (by decide)) (v_eqi (y := (nI ((D.2 8) k))) (by first | (rw [nI_clamp (by omega)]; done) | (rw [nI_clamp (by omega)]; rfl)) ?_)
      refine v_iast g dX6_lets_19 (rd_MA4 R _ _) (vp_in_nI (by omega) (by decide)) ?_
      rw [nI_clamp (n := k) (by omega)]
      refine v_meq (μ' := rem R (tA D 4 (va_up (cpN (D.2 4) (D.2 8) k) k ((D.2 8) k))) ρ) (st_MAk R D ρ 4 (by decide) (cpN (D.2 4) (D.2 8) k) k ((D.2 8) k)) ?_
      refine v_iinc (v := (nI (k + 1))) (ls' := [(1, .int (nI (k + 1))), (0, .ref R)]) g dX6_lets_20 0 rfl (nI_addE rfl rfl) rfl rfl ?_
      refine v_goto (tgt := 2) g dX6_lets_23 (by decide) ?_
      refine v_meq (μ' := rem R (tA D 4 (cpN (D.2 4) (D.2 8) (k + 1))) ρ) (by rw [cpN_s]) ?_
      refine v_sub (ls' := [(1, .int (nI (k + 1))), (0, .ref R)]) [0, 1] rfl ?_
      exact ih (k + 1) (by omega)
  refine v_sub (ls' := [(0, .ref R)]) [0] rfl ?_
  refine v_meq (μ' := rem R (tA D 4 (cpN (D.2 4) (D.2 8) 0)) ρ) (by rw [← cpN_0, tA_id]) ?_
  refine v_iconst (v := 0) g dX6_lets_0 (by decide) ?_
  refine v_istore_n (ls' := [(1, .int 0), (0, .ref R)]) g dX6_lets_1 rfl rfl ?_
  refine v_sub (ls' := [(1, .int 0), (0, .ref R)]) [0, 1] rfl ?_
  exact loop 59 0 rfl
end R6
