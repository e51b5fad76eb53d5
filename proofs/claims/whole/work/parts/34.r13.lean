/-! THE REFERENCE: it reads a text (2) -/
theorem num_nn' {D : MS} {lo hi e : Int32} {p : Nat} {v : Int32} (hv : v = (numM D lo hi e p).1) (h : 0 ≤ v) : ∃ c : Nat, c < 100 ∧ v = nI c ∧ withinC (nI c) lo hi = true := by
  subst hv
  refine num_nn (fun q => ?_)
  rw [Int32.lt_iff_toInt_lt] at q
  rw [Int32.le_iff_toInt_le] at h
  omega
theorem num_nn2 {D : MS} {lo hi e : Int32} {p : Nat} {v : Int32} (hv : v = (numM D lo hi e p).1) (h : ¬ v < 0) : ∃ c : Nat, c < 100 ∧ v = nI c ∧ withinC (nI c) lo hi = true := by
  subst hv; exact num_nn h
theorem fig_nn2 {D : MS} {lo hi : Int32} {p : Nat} {v : Int32} (hv : v = (figM D lo hi p).1) (h : ¬ v < 0) : ∃ c : Nat, c < 100 ∧ v = nI c ∧ withinC (nI c) lo hi = true := by
  subst hv; exact fig_nn h
theorem rlEnd_eq (D : MS) {n p : Nat} {dr : Nat → Nat} (hn : n ≤ 6) (h0 : dr 0 ≤ 36) (h1 : dr 1 ≤ 6) : rlEndM D n p dr = if letM D p = 59 then (if nI n = 0 then (false, p, dr) else if nI (dr 0) ≤ 0 then (if nI (dr 0) < nI (6 * n) then (true, p + 1, va_up (va_up dr 1 n) 0 (dr 0 + n)) else (false, p, dr)) else if nI n = nI (dr 1) then (if nI (dr 0) < nI (6 * n) then (true, p + 1, va_up (va_up dr 1 n) 0 (dr 0 + n)) else (false, p, dr)) else (false, p, dr)) else (false, p, dr) := by
  have e1 : (nI n = 0) = (n = 0) := propext (nI_eq (b := 0) (by omega) (by decide))
  have e2 : (nI (dr 0) ≤ 0) = (dr 0 ≤ 0) := propext (nI_leI (b := 0) (by omega) (by decide))
  have e3 : (nI n = nI (dr 1)) = (n = dr 1) := propext (nI_eq (by omega) (by omega))
  have e4 : (nI (dr 0) < nI (6 * n)) = (dr 0 < 6 * n) := propext (nI_ltI (by omega) (by omega))
  unfold rlEndM
  simp only [e1, e2, e3, e4]
  by_cases a1 : letM D p = 59
  · rw [if_pos a1, if_pos a1]
    by_cases a2 : n = 0
    · rw [if_pos a2, if_pos a2]
    · rw [if_neg a2, if_neg a2]
      by_cases a3 : dr 0 ≤ 0
      · rw [if_neg (by omega), if_pos a3]
        by_cases a4 : dr 0 < 6 * n
        · rw [if_neg (by omega), if_pos a4]
        · rw [if_pos (by omega), if_neg a4]
      · rw [if_neg a3]
        by_cases a5 : n = dr 1
        · rw [if_neg (by omega), if_pos a5]
          by_cases a4 : dr 0 < 6 * n
          · rw [if_neg (by omega), if_pos a4]
          · rw [if_pos (by omega), if_neg a4]
        · rw [if_pos ⟨by omega, a5⟩, if_neg a5]
  · rw [if_neg a1, if_neg a1]
theorem roM_0 {D : MS} {p : Nat} {dr : Nat → Nat} (h : (numM D 0 (nI (dr 0) - 1) 44 p).1 < 0) : roM D p dr = (false, (numM D 0 (nI (dr 0) - 1) 44 p).2, dr) := by unfold roM; rw [if_pos h]
theorem roM_1 {D : MS} {p x : Nat} {dr : Nat → Nat} (hx : x < 100) (ex : nI x = (numM D 0 (nI (dr 0) - 1) 44 p).1) (h : (numM D (nI x) (nI (dr 0) - 1) 44 (numM D 0 (nI (dr 0) - 1) 44 p).2).1 < 0) : roM D p dr = (false, (numM D (nI x) (nI (dr 0) - 1) 44 (numM D 0 (nI (dr 0) - 1) 44 p).2).2, dr) := by
  unfold roM
  rw [← ex, if_neg (nI_pos (by omega)), if_pos h]
theorem roM_2 {D : MS} {p x y : Nat} {dr : Nat → Nat} (hx : x < 100) (ex : nI x = (numM D 0 (nI (dr 0) - 1) 44 p).1) (hy : y < 100) (ey : nI y = (numM D (nI x) (nI (dr 0) - 1) 44 (numM D 0 (nI (dr 0) - 1) 44 p).2).1) (h : (numM D 0 3 59 (numM D (nI x) (nI (dr 0) - 1) 44 (numM D 0 (nI (dr 0) - 1) 44 p).2).2).1 < 0) : roM D p dr = (false, (numM D 0 3 59 (numM D (nI x) (nI (dr 0) - 1) 44 (numM D 0 (nI (dr 0) - 1) 44 p).2).2).2, dr) := by
  unfold roM
  rw [← ex, if_neg (nI_pos (by omega)), ← ey, if_neg (nI_pos (by omega)), if_pos h]
theorem roM_3 {D : MS} {p x y q : Nat} {dr : Nat → Nat} (hx : x < 100) (ex : nI x = (numM D 0 (nI (dr 0) - 1) 44 p).1) (hy : y < 100) (ey : nI y = (numM D (nI x) (nI (dr 0) - 1) 44 (numM D 0 (nI (dr 0) - 1) 44 p).2).1) (hq : q < 100) (eq : nI q = (numM D 0 3 59 (numM D (nI x) (nI (dr 0) - 1) 44 (numM D 0 (nI (dr 0) - 1) 44 p).2).2).1) : roM D p dr = (true, (numM D 0 3 59 (numM D (nI x) (nI (dr 0) - 1) 44 (numM D 0 (nI (dr 0) - 1) 44 p).2).2).2, ownsM dr x y q) := by
  unfold roM
  rw [← ex, if_neg (nI_pos (by omega)), ← ey, if_neg (nI_pos (by omega)), ← eq, if_neg (nI_pos (by omega)), nI_clamp (by omega), nI_clamp (by omega), nI_clamp (by omega)]
/-- what the walk needs of draft and begun -/
def OkW (dr be : Nat → Nat) : Prop := dr 0 ≤ 36 ∧ dr 1 ≤ 6 ∧ dr 2 ≤ 3 ∧ (∀ r, r < 3 → be (8 + r) ≤ 4) ∧ (∀ j, j < 12 → be (11 + j) < 36) ∧ (0 < dr 0 → 1 ≤ dr 1) ∧ (∀ r, dr 2 ≤ r → r < 3 → be (8 + r) = 0)
section R13
variable {l : Launch} {G : GG} {n : Nat} {R : Nat} {D : MS} {p : Nat} {dr be : Nat → Nat} {ρ : Mu}
theorem q_readsLine (hk : D.1.1 ≤ 200) (hp : p < 900) (h0 : dr 0 ≤ 36) (h1 : dr 1 ≤ 6) : Ctr l G 1 22 0 0 mX6_readsLine [.ref R] n (rem R (dS D p dr be) ρ) (some (.int (zB (rlM D 6 0 p dr).1))) n (rem R (dS D (rlM D 6 0 p dr).2.1 (rlM D 6 0 p dr).2.2 be) ρ) := by
  refine Ctr.of (by decide +kernel) rfl (fun X g E => ?_)
  have fin : ∀ (m q : Nat) (dr1 : Nat → Nat), m ≤ 6 → dr1 0 ≤ 36 → dr1 1 ≤ 6 → q < 990 → rlM D 6 0 p dr = rlEndM D m q dr1 → V X 0 0 n (rem R (dS D q dr1 be) ρ) 78 [(1, .int (nI m)), (0, .ref R)] [] := by
    intro m q dr1 hm h0 h1 hq he
    rw [rlEnd_eq D hm h0 h1] at he
    refine v_aload_n g dX6_readsLine_78 1 rfl ?_
    refine v_aload_n g dX6_readsLine_79 1 rfl ?_
    refine v_get g dX6_readsLine_80 fl_RX6_62 (rd_M R _ _) rfl ?_
    refine v_eqi (y := nI q) rfl ?_
    refine v_callV (As := [.int (nI q)]) (r := some (.int (letM D q))) g dX6_readsLine_83 (q_letterAt (D := D) (p := q) (dr := dr1) (be := be) (k := q) hk (by omega)) cl_X6_letterAt ml_RX6_65 im_X6_letterAt (rd_M R _ _) rfl rfl ⟨rfl, rfl, rfl⟩ ?_
    refine v_bipush (v := 59) g dX6_readsLine_86 (by decide) ?_
    refine v_icmp_ne (tgt := 127) g dX6_readsLine_88 (by decide) (fun h88 => ?_) (fun h88 => ?_)
    · skip
      refine v_iconst (v := 0) g dX6_readsLine_127 (by decide) ?_
      exact v_zret g E dX6_readsLine_128 rfl rfl ⟨by rw [he]; (repeat' split) <;> first | rfl | contradiction, rfl, by rw [he]; (repeat' split) <;> first | rfl | contradiction⟩
    · skip
      refine v_iload_n g dX6_readsLine_91 0 rfl ?_
      refine v_if_eq (tgt := 127) g dX6_readsLine_92 (by decide) (fun h92 => ?_) (fun h92 => ?_)
      · skip
        refine v_iconst (v := 0) g dX6_readsLine_127 (by decide) ?_
        exact v_zret g E dX6_readsLine_128 rfl rfl ⟨by rw [he]; (repeat' split) <;> first | rfl | contradiction, rfl, by rw [he]; (repeat' split) <;> first | rfl | contradiction⟩
      · skip
        refine v_aload_n g dX6_readsLine_95 1 rfl ?_
        refine v_get g dX6_readsLine_96 fl_RX6_16 (rd_M R _ _) rfl ?_
        refine v_iconst (v := 0) g dX6_readsLine_99 (by decide) ?_
        refine v_iald g dX6_readsLine_100 (rd_MA2 R _ _) (by unfold vp_in; decide) (v_eqi (y := (nI (dr1 0))) rfl ?_)
        refine v_if_le (tgt := 114) g dX6_readsLine_101 (by decide) (fun h101 => ?_) (fun h101 => ?_)
        · skip
          refine v_aload_n g dX6_readsLine_114 1 rfl ?_
          refine v_get g dX6_readsLine_115 fl_RX6_16 (rd_M R _ _) rfl ?_
          refine v_iconst (v := 0) g dX6_readsLine_118 (by decide) ?_
          refine v_iald g dX6_readsLine_119 (rd_MA2 R _ _) (by unfold vp_in; decide) (v_eqi (y := (nI (dr1 0))) rfl ?_)
          refine v_bipush (v := 6) g dX6_readsLine_120 (by decide) ?_
          refine v_iload_n g dX6_readsLine_122 0 rfl ?_
          refine v_imul g dX6_readsLine_123 (v_eqi (y := nI (6 * m)) (nI_mulE rfl rfl) ?_)
          refine v_icmp_lt (tgt := 129) g dX6_readsLine_124 (by decide) (fun h124 => ?_) (fun h124 => ?_)
          · skip
            refine v_aload_n g dX6_readsLine_129 1 rfl ?_
            refine v_dup g dX6_readsLine_130 rfl ?_
            refine v_get g dX6_readsLine_131 fl_RX6_62 (rd_M R _ _) rfl ?_
            refine v_eqi (y := nI q) rfl ?_
            refine v_iconst (v := 1) g dX6_readsLine_134 (by decide) ?_
            refine v_iadd g dX6_readsLine_135 (v_eqi (y := nI (q + 1)) (nI_addE rfl rfl) ?_)
            refine v_put g dX6_readsLine_136 fl_RX6_62 (rd_M R _ _) ⟨rfl, rfl⟩ rfl ?_
            refine v_meq (μ' := rem R (dS D (q + 1) dr1 be) ρ) (st_GW R (dS D q dr1 be) (dS D (q + 1) dr1 be) ρ (D.1.1, D.1.2.1, D.1.2.2.1, D.1.2.2.2.1, (q + 1)) rfl rfl) ?_
            refine v_aload_n g dX6_readsLine_139 1 rfl ?_
            refine v_get g dX6_readsLine_140 fl_RX6_16 (rd_M R _ _) rfl ?_
            refine v_iconst (v := 1) g dX6_readsLine_143 (by decide) ?_
            refine v_iload_n g dX6_readsLine_144 0 rfl ?_
            refine v_iast g dX6_readsLine_145 (rd_MA2 R _ _) (by unfold vp_in; decide) ?_
            refine v_meq (μ' := rem R (dS D (q + 1) (va_up dr1 1 m) be) ρ) (st_GA R (dS D (q + 1) dr1 be) (dS D (q + 1) (va_up dr1 1 m) be) ρ 2 (by decide) dr1 1 m rfl rfl rfl (fun j hj => by simp only [dS, va_up, if_neg hj])) ?_
            refine v_aload_n g dX6_readsLine_146 1 rfl ?_
            refine v_get g dX6_readsLine_147 fl_RX6_16 (rd_M R _ _) rfl ?_
            refine v_iconst (v := 0) g dX6_readsLine_150 (by decide) ?_
            refine v_dup2 g dX6_readsLine_151 rfl rfl ?_
            refine v_iald g dX6_readsLine_152 (rd_MA2 R _ _) (by unfold vp_in; decide) (v_eqi (y := (nI ((va_up dr1 1 m) 0))) rfl ?_)
            refine v_eqi (y := nI (dr1 0)) (congrArg nI (va_up_ne _ _ (by omega))) ?_
            refine v_iload_n g dX6_readsLine_153 0 rfl ?_
            refine v_iadd g dX6_readsLine_154 (v_eqi (y := nI ((dr1 0) + m)) (nI_addE rfl rfl) ?_)
            refine v_iast g dX6_readsLine_155 (rd_MA2 R _ _) (by unfold vp_in; decide) ?_
            refine v_meq (μ' := rem R (dS D (q + 1) (va_up (va_up dr1 1 m) 0 ((dr1 0) + m)) be) ρ) (st_GA R (dS D (q + 1) (va_up dr1 1 m) be) (dS D (q + 1) (va_up (va_up dr1 1 m) 0 ((dr1 0) + m)) be) ρ 2 (by decide) (va_up dr1 1 m) 0 ((dr1 0) + m) rfl rfl rfl (fun j hj => by simp only [dS, va_up, if_neg hj])) ?_
            refine v_iconst (v := 1) g dX6_readsLine_156 (by decide) ?_
            exact v_zret g E dX6_readsLine_157 rfl rfl ⟨by rw [he]; (repeat' split) <;> first | rfl | contradiction, rfl, by rw [he]; (repeat' split) <;> first | rfl | contradiction⟩
          · skip
            refine v_iconst (v := 0) g dX6_readsLine_127 (by decide) ?_
            exact v_zret g E dX6_readsLine_128 rfl rfl ⟨by rw [he]; (repeat' split) <;> first | rfl | contradiction, rfl, by rw [he]; (repeat' split) <;> first | rfl | contradiction⟩
        · skip
          refine v_iload_n g dX6_readsLine_104 0 rfl ?_
          refine v_aload_n g dX6_readsLine_105 1 rfl ?_
          refine v_get g dX6_readsLine_106 fl_RX6_16 (rd_M R _ _) rfl ?_
          refine v_iconst (v := 1) g dX6_readsLine_109 (by decide) ?_
          refine v_iald g dX6_readsLine_110 (rd_MA2 R _ _) (by unfold vp_in; decide) (v_eqi (y := (nI (dr1 1))) rfl ?_)
          refine v_icmp_ne (tgt := 127) g dX6_readsLine_111 (by decide) (fun h111 => ?_) (fun h111 => ?_)
          · skip
            refine v_iconst (v := 0) g dX6_readsLine_127 (by decide) ?_
            exact v_zret g E dX6_readsLine_128 rfl rfl ⟨by rw [he]; (repeat' split) <;> first | rfl | contradiction, rfl, by rw [he]; (repeat' split) <;> first | rfl | contradiction⟩
          · skip
            refine v_aload_n g dX6_readsLine_114 1 rfl ?_
            refine v_get g dX6_readsLine_115 fl_RX6_16 (rd_M R _ _) rfl ?_
            refine v_iconst (v := 0) g dX6_readsLine_118 (by decide) ?_
            refine v_iald g dX6_readsLine_119 (rd_MA2 R _ _) (by unfold vp_in; decide) (v_eqi (y := (nI (dr1 0))) rfl ?_)
            refine v_bipush (v := 6) g dX6_readsLine_120 (by decide) ?_
            refine v_iload_n g dX6_readsLine_122 0 rfl ?_
            refine v_imul g dX6_readsLine_123 (v_eqi (y := nI (6 * m)) (nI_mulE rfl rfl) ?_)
            refine v_icmp_lt (tgt := 129) g dX6_readsLine_124 (by decide) (fun h124_2 => ?_) (fun h124_2 => ?_)
            · skip
              refine v_aload_n g dX6_readsLine_129 1 rfl ?_
              refine v_dup g dX6_readsLine_130 rfl ?_
              refine v_get g dX6_readsLine_131 fl_RX6_62 (rd_M R _ _) rfl ?_
              refine v_eqi (y := nI q) rfl ?_
              refine v_iconst (v := 1) g dX6_readsLine_134 (by decide) ?_
              refine v_iadd g dX6_readsLine_135 (v_eqi (y := nI (q + 1)) (nI_addE rfl rfl) ?_)
              refine v_put g dX6_readsLine_136 fl_RX6_62 (rd_M R _ _) ⟨rfl, rfl⟩ rfl ?_
              refine v_meq (μ' := rem R (dS D (q + 1) dr1 be) ρ) (st_GW R (dS D q dr1 be) (dS D (q + 1) dr1 be) ρ (D.1.1, D.1.2.1, D.1.2.2.1, D.1.2.2.2.1, (q + 1)) rfl rfl) ?_
              refine v_aload_n g dX6_readsLine_139 1 rfl ?_
              refine v_get g dX6_readsLine_140 fl_RX6_16 (rd_M R _ _) rfl ?_
              refine v_iconst (v := 1) g dX6_readsLine_143 (by decide) ?_
              refine v_iload_n g dX6_readsLine_144 0 rfl ?_
              refine v_iast g dX6_readsLine_145 (rd_MA2 R _ _) (by unfold vp_in; decide) ?_
              refine v_meq (μ' := rem R (dS D (q + 1) (va_up dr1 1 m) be) ρ) (st_GA R (dS D (q + 1) dr1 be) (dS D (q + 1) (va_up dr1 1 m) be) ρ 2 (by decide) dr1 1 m rfl rfl rfl (fun j hj => by simp only [dS, va_up, if_neg hj])) ?_
              refine v_aload_n g dX6_readsLine_146 1 rfl ?_
              refine v_get g dX6_readsLine_147 fl_RX6_16 (rd_M R _ _) rfl ?_
              refine v_iconst (v := 0) g dX6_readsLine_150 (by decide) ?_
              refine v_dup2 g dX6_readsLine_151 rfl rfl ?_
              refine v_iald g dX6_readsLine_152 (rd_MA2 R _ _) (by unfold vp_in; decide) (v_eqi (y := (nI ((va_up dr1 1 m) 0))) rfl ?_)
              refine v_eqi (y := nI (dr1 0)) (congrArg nI (va_up_ne _ _ (by omega))) ?_
              refine v_iload_n g dX6_readsLine_153 0 rfl ?_
              refine v_iadd g dX6_readsLine_154 (v_eqi (y := nI ((dr1 0) + m)) (nI_addE rfl rfl) ?_)
              refine v_iast g dX6_readsLine_155 (rd_MA2 R _ _) (by unfold vp_in; decide) ?_
              refine v_meq (μ' := rem R (dS D (q + 1) (va_up (va_up dr1 1 m) 0 ((dr1 0) + m)) be) ρ) (st_GA R (dS D (q + 1) (va_up dr1 1 m) be) (dS D (q + 1) (va_up (va_up dr1 1 m) 0 ((dr1 0) + m)) be) ρ 2 (by decide) (va_up dr1 1 m) 0 ((dr1 0) + m) rfl rfl rfl (fun j hj => by simp only [dS, va_up, if_neg hj])) ?_
              refine v_iconst (v := 1) g dX6_readsLine_156 (by decide) ?_
              exact v_zret g E dX6_readsLine_157 rfl rfl ⟨by rw [he]; (repeat' split) <;> first | rfl | contradiction, rfl, by rw [he]; (repeat' split) <;> first | rfl | contradiction⟩
            · skip
              refine v_iconst (v := 0) g dX6_readsLine_127 (by decide) ?_
              exact v_zret g E dX6_readsLine_128 rfl rfl ⟨by rw [he]; (repeat' split) <;> first | rfl | contradiction, rfl, by rw [he]; (repeat' split) <;> first | rfl | contradiction⟩
  have loop : ∀ (u m q : Nat) (dr1 : Nat → Nat), m + u = 6 → dr1 0 ≤ 36 → dr1 1 ≤ 6 → q + u < 980 → rlM D 6 0 p dr = rlM D u m q dr1 → V X 0 0 n (rem R (dS D q dr1 be) ρ) 2 [(1, .int (nI m)), (0, .ref R)] [] := by
    intro u
    induction u with
    | zero =>
      intro m q dr1 hm h0 h1 hq he
      refine v_aload_n g dX6_readsLine_2 1 rfl ?_
      refine v_aload_n g dX6_readsLine_3 1 rfl ?_
      refine v_get g dX6_readsLine_4 fl_RX6_62 (rd_M R _ _) rfl ?_
      refine v_eqi (y := nI q) rfl ?_
      refine v_callV (As := [.int (nI q)]) (r := some (.int (letM D q))) g dX6_readsLine_7 (q_letterAt (D := D) (p := q) (dr := dr1) (be := be) (k := q) hk (by omega)) cl_X6_letterAt ml_RX6_65 im_X6_letterAt (rd_M R _ _) rfl rfl ⟨rfl, rfl, rfl⟩ ?_
      refine v_bipush (v := 48) g dX6_readsLine_10 (by decide) ?_
      refine v_bipush (v := 51) g dX6_readsLine_12 (by decide) ?_
      refine v_callS (As := [.int (letM D q), .int 48, .int 51]) (r := some (.int (zB (withinC (letM D q) 48 51)))) g dX6_readsLine_14 (k_X6_in (letM D q) 48 51) cl_X6_in ml_RX6_54 sm_X6_in rfl ⟨rfl, rfl, rfl⟩ ?_
      refine v_if_eq (tgt := 78) g dX6_readsLine_17 (by decide) (fun h17 => ?_) (fun h17 => ?_)
      · skip
        have h17 := zB_f0 h17
        refine v_sub (ls' := [(1, .int (nI m)), (0, .ref R)]) [0, 1] rfl ?_
        exact fin m q dr1 (by omega) h0 h1 (by omega) (by rw [he]; rfl)
      · skip
        have h17 := zB_t0 h17
        refine v_iload_n g dX6_readsLine_20 0 rfl ?_
        refine v_bipush (v := 6) g dX6_readsLine_21 (by decide) ?_
        refine v_icmp_ge (tgt := 78) g dX6_readsLine_23 (by decide) (fun h23 => ?_) (fun h23 => absurd (nI_le (a := 6) (b := m) (by omega) (by omega)) h23)
        refine v_sub (ls' := [(1, .int (nI m)), (0, .ref R)]) [0, 1] rfl ?_
        exact fin m q dr1 (by omega) h0 h1 (by omega) (by rw [he]; rfl)
    | succ u ih =>
      intro m q dr1 hm h0 h1 hq he
      refine v_aload_n g dX6_readsLine_2 1 rfl ?_
      refine v_aload_n g dX6_readsLine_3 1 rfl ?_
      refine v_get g dX6_readsLine_4 fl_RX6_62 (rd_M R _ _) rfl ?_
      refine v_eqi (y := nI q) rfl ?_
      refine v_callV (As := [.int (nI q)]) (r := some (.int (letM D q))) g dX6_readsLine_7 (q_letterAt (D := D) (p := q) (dr := dr1) (be := be) (k := q) hk (by omega)) cl_X6_letterAt ml_RX6_65 im_X6_letterAt (rd_M R _ _) rfl rfl ⟨rfl, rfl, rfl⟩ ?_
      refine v_bipush (v := 48) g dX6_readsLine_10 (by decide) ?_
      refine v_bipush (v := 51) g dX6_readsLine_12 (by decide) ?_
      refine v_callS (As := [.int (letM D q), .int 48, .int 51]) (r := some (.int (zB (withinC (letM D q) 48 51)))) g dX6_readsLine_14 (k_X6_in (letM D q) 48 51) cl_X6_in ml_RX6_54 sm_X6_in rfl ⟨rfl, rfl, rfl⟩ ?_
      refine v_if_eq (tgt := 78) g dX6_readsLine_17 (by decide) (fun h17 => ?_) (fun h17 => ?_)
      · skip
        have h17 := zB_f0 h17
        refine v_sub (ls' := [(1, .int (nI m)), (0, .ref R)]) [0, 1] rfl ?_
        exact fin m q dr1 (by omega) h0 h1 (by omega) (by rw [he, rlM, if_neg (by rw [h17]; decide)])
      · skip
        have h17 := zB_t0 h17
        refine v_iload_n g dX6_readsLine_20 0 rfl ?_
        refine v_bipush (v := 6) g dX6_readsLine_21 (by decide) ?_
        refine v_icmp_ge (tgt := 78) g dX6_readsLine_23 (by decide) (fun h23 => absurd h23 (nI_ge (a := m) (b := 6) (by omega) (by decide))) (fun h23 => ?_)
        refine v_aload_n g dX6_readsLine_26 1 rfl ?_
        refine v_get g dX6_readsLine_27 fl_RX6_16 (rd_M R _ _) rfl ?_
        refine v_iconst (v := 0) g dX6_readsLine_30 (by decide) ?_
        refine v_iald g dX6_readsLine_31 (rd_MA2 R _ _) (by unfold vp_in; decide) (v_eqi (y := (nI (dr1 0))) rfl ?_)
        refine v_iload_n g dX6_readsLine_32 0 rfl ?_
        refine v_iadd g dX6_readsLine_33 (v_eqi (y := nI ((dr1 0) + m)) (nI_addE rfl rfl) ?_)
        refine v_istore_n (ls' := [(2, .int (nI ((dr1 0) + m))), (1, .int (nI m)), (0, .ref R)]) g dX6_readsLine_34 rfl rfl ?_
        refine v_iload_n g dX6_readsLine_35 0 rfl ?_
        refine v_bipush (v := 36) g dX6_readsLine_36 (by decide) ?_
        refine v_icmp_lt (tgt := 43) g dX6_readsLine_38 (by decide) (fun h38 => ?_) (fun h38 => ?_)
        · skip
          have h38n := (nI_ltI (a := dr1 0 + m) (b := 36) (by omega) (by decide)).mp h38
          obtain ⟨c, hc1, hc2, ec⟩ := within_nI (a := 48) (b := 51) rfl rfl h17
          refine v_aload_n g dX6_readsLine_43 2 rfl ?_
          refine v_get g dX6_readsLine_44 fl_RX6_16 (rd_M R _ _) rfl ?_
          refine v_iconst (v := 3) g dX6_readsLine_47 (by decide) ?_
          refine v_iload_n g dX6_readsLine_48 0 rfl ?_
          refine v_iadd g dX6_readsLine_49 (v_eqi (y := nI (3 + ((dr1 0) + m))) (nI_addE rfl rfl) ?_)
          refine v_aload_n g dX6_readsLine_50 2 rfl ?_
          refine v_aload_n g dX6_readsLine_51 2 rfl ?_
          refine v_get g dX6_readsLine_52 fl_RX6_62 (rd_M R _ _) rfl ?_
          refine v_eqi (y := nI q) rfl ?_
          refine v_callV (As := [.int (nI q)]) (r := some (.int (letM D q))) g dX6_readsLine_55 (q_letterAt (D := D) (p := q) (dr := dr1) (be := be) (k := q) hk (by omega)) cl_X6_letterAt ml_RX6_65 im_X6_letterAt (rd_M R _ _) rfl rfl ⟨rfl, rfl, rfl⟩ ?_
          refine v_eqi ec ?_
          refine v_bipush (v := 48) g dX6_readsLine_58 (by decide) ?_
          refine v_isub g dX6_readsLine_60 (v_eqi (y := nI (c - 48)) (nI_subE rfl rfl (by omega)) ?_)
          refine v_iast g dX6_readsLine_61 (rd_MA2 R _ _) (vp_in_nI (by omega) (by decide)) ?_
          rw [nI_clamp (n := (3 + ((dr1 0) + m))) (by omega)]
          refine v_meq (μ' := rem R (dS D q (va_up dr1 (3 + ((dr1 0) + m)) (c - 48)) be) ρ) (st_GA R (dS D q dr1 be) (dS D q (va_up dr1 (3 + ((dr1 0) + m)) (c - 48)) be) ρ 2 (by decide) dr1 (3 + ((dr1 0) + m)) (c - 48) rfl rfl rfl (fun j hj => by simp only [dS, va_up, if_neg hj])) ?_
          refine v_iinc (v := (nI (m + 1))) (ls' := [(1, .int (nI (m + 1))), (2, .int (nI ((dr1 0) + m))), (0, .ref R)]) g dX6_readsLine_62 1 rfl (nI_addE rfl rfl) rfl rfl ?_
          refine v_aload_n g dX6_readsLine_65 2 rfl ?_
          refine v_dup g dX6_readsLine_66 rfl ?_
          refine v_get g dX6_readsLine_67 fl_RX6_62 (rd_M R _ _) rfl ?_
          refine v_eqi (y := nI q) rfl ?_
          refine v_iconst (v := 1) g dX6_readsLine_70 (by decide) ?_
          refine v_iadd g dX6_readsLine_71 (v_eqi (y := nI (q + 1)) (nI_addE rfl rfl) ?_)
          refine v_put g dX6_readsLine_72 fl_RX6_62 (rd_M R _ _) ⟨rfl, rfl⟩ rfl ?_
          refine v_meq (μ' := rem R (dS D (q + 1) (va_up dr1 (3 + ((dr1 0) + m)) (c - 48)) be) ρ) (st_GW R (dS D q (va_up dr1 (3 + ((dr1 0) + m)) (c - 48)) be) (dS D (q + 1) (va_up dr1 (3 + ((dr1 0) + m)) (c - 48)) be) ρ (D.1.1, D.1.2.1, D.1.2.2.1, D.1.2.2.2.1, (q + 1)) rfl rfl) ?_
          refine v_goto (tgt := 2) g dX6_readsLine_75 (by decide) ?_
          refine v_sub (ls' := [(1, .int (nI (m + 1))), (0, .ref R)]) [0, 2] rfl ?_
          exact ih (m + 1) (q + 1) _ (by omega) (by rw [va_up_ne _ _ (by omega)]; exact h0) (by rw [va_up_ne _ _ (by omega)]; exact h1) (by omega) (by rw [he, rlM, if_pos h17, if_neg (by omega), ec, nI_clamp (by omega)])
        · skip
          refine v_iconst (v := 0) g dX6_readsLine_41 (by decide) ?_
          exact v_zret g E dX6_readsLine_42 rfl rfl ⟨by rw [he, rlM, if_pos h17, if_pos (by have h2 := nI_geN (b := 36) (by decide) h38; omega)]; rfl, rfl, by rw [he, rlM, if_pos h17, if_pos (by have h2 := nI_geN (b := 36) (by decide) h38; omega)]⟩
  refine v_sub (ls' := [(0, .ref R)]) [0] rfl ?_
  refine v_iconst (v := 0) g dX6_readsLine_0 (by decide) ?_
  refine v_istore_n (ls' := [(1, .int 0), (0, .ref R)]) g dX6_readsLine_1 rfl rfl ?_
  refine v_sub (ls' := [(1, .int 0), (0, .ref R)]) [0, 1] rfl ?_
  exact loop 6 0 p dr rfl h0 h1 (by omega) rfl
theorem q_readsOwner (hk : D.1.1 ≤ 200) (hp : p < 900) (h0 : dr 0 ≤ 36) : Ctr l G 4 90 0 0 mX6_readsOwner [.ref R] n (rem R (dS D p dr be) ρ) (some (.int (zB (roM D p dr).1))) n (rem R (dS D (roM D p dr).2.1 (roM D p dr).2.2 be) ρ) := by
  refine Ctr.of (by decide +kernel) rfl (fun X g E => ?_)
  have a1 := num_at D 0 (nI (dr 0) - 1) 44 p
  refine v_sub (ls' := [(0, .ref R)]) [0] rfl ?_
  refine v_aload_n g dX6_readsOwner_0 0 rfl ?_
  refine v_iconst (v := 0) g dX6_readsOwner_1 (by decide) ?_
  refine v_aload_n g dX6_readsOwner_2 0 rfl ?_
  refine v_get g dX6_readsOwner_3 fl_RX6_16 (rd_M R _ _) rfl ?_
  refine v_iconst (v := 0) g dX6_readsOwner_6 (by decide) ?_
  refine v_iald g dX6_readsOwner_7 (rd_MA2 R _ _) (by unfold vp_in; decide) (v_eqi (y := (nI (dr 0))) rfl ?_)
  refine v_iconst (v := 1) g dX6_readsOwner_8 (by decide) ?_
  refine v_isub g dX6_readsOwner_9 ?_
  refine v_bipush (v := 44) g dX6_readsOwner_10 (by decide) ?_
  refine v_callV (As := [.int 0, .int ((nI (dr 0)) - 1), .int 44]) (r := some (.int ((numM D 0 ((nI (dr 0)) - 1) 44 p).1))) g dX6_readsOwner_12 (q_number (D := D) (p := p) (dr := dr) (be := be) hk (by omega) 0 ((nI (dr 0)) - 1) 44) cl_X6_number ml_RX6_77 im_X6_number (rd_M R _ _) rfl rfl ⟨rfl, rfl, rfl⟩ ?_
  refine v_topi (fun vx e_vx => ?_)
  refine v_istore_n (ls' := [(1, .int vx), (0, .ref R)]) g dX6_readsOwner_15 rfl rfl ?_
  refine v_iload_n g dX6_readsOwner_16 0 rfl ?_
  refine v_if_ge (tgt := 24) g dX6_readsOwner_17 (by decide) (fun h17 => ?_) (fun h17 => ?_)
  · skip
    obtain ⟨x0, hx0, ex0, wx⟩ := num_nn' e_vx h17
    subst ex0
    have lx := wi_dr wx hx0 h0
    have a2 := num_at D (nI x0) (nI (dr 0) - 1) 44 (numM D 0 (nI (dr 0) - 1) 44 p).2
    refine v_aload_n g dX6_readsOwner_24 1 rfl ?_
    refine v_iload_n g dX6_readsOwner_25 0 rfl ?_
    refine v_aload_n g dX6_readsOwner_26 1 rfl ?_
    refine v_get g dX6_readsOwner_27 fl_RX6_16 (rd_M R _ _) rfl ?_
    refine v_iconst (v := 0) g dX6_readsOwner_30 (by decide) ?_
    refine v_iald g dX6_readsOwner_31 (rd_MA2 R _ _) (by unfold vp_in; decide) (v_eqi (y := (nI (dr 0))) rfl ?_)
    refine v_iconst (v := 1) g dX6_readsOwner_32 (by decide) ?_
    refine v_isub g dX6_readsOwner_33 ?_
    refine v_bipush (v := 44) g dX6_readsOwner_34 (by decide) ?_
    refine v_callV (As := [.int (nI x0), .int ((nI (dr 0)) - 1), .int 44]) (r := some (.int ((numM D (nI x0) ((nI (dr 0)) - 1) 44 ((numM D 0 ((nI (dr 0)) - 1) 44 p).2)).1))) g dX6_readsOwner_36 (q_number (D := D) (p := (numM D 0 ((nI (dr 0)) - 1) 44 p).2) (dr := dr) (be := be) hk (by omega) (nI x0) ((nI (dr 0)) - 1) 44) cl_X6_number ml_RX6_77 im_X6_number (rd_M R _ _) rfl rfl ⟨rfl, rfl, rfl⟩ ?_
    refine v_topi (fun vy e_vy => ?_)
    refine v_istore_n (ls' := [(2, .int vy), (1, .int (nI x0)), (0, .ref R)]) g dX6_readsOwner_39 rfl rfl ?_
    refine v_iload_n g dX6_readsOwner_40 0 rfl ?_
    refine v_if_ge (tgt := 48) g dX6_readsOwner_41 (by decide) (fun h41 => ?_) (fun h41 => ?_)
    · skip
      obtain ⟨y0, hy0, ey0, wy⟩ := num_nn' e_vy h41
      subst ey0
      have ly := wi_dr wy hy0 h0
      have a3 := num_at D 0 3 59 (numM D (nI x0) (nI (dr 0) - 1) 44 (numM D 0 (nI (dr 0) - 1) 44 p).2).2
      refine v_aload_n g dX6_readsOwner_48 2 rfl ?_
      refine v_iconst (v := 0) g dX6_readsOwner_49 (by decide) ?_
      refine v_iconst (v := 3) g dX6_readsOwner_50 (by decide) ?_
      refine v_bipush (v := 59) g dX6_readsOwner_51 (by decide) ?_
      refine v_callV (As := [.int 0, .int 3, .int 59]) (r := some (.int ((numM D 0 3 59 ((numM D (nI x0) ((nI (dr 0)) - 1) 44 ((numM D 0 ((nI (dr 0)) - 1) 44 p).2)).2)).1))) g dX6_readsOwner_53 (q_number (D := D) (p := (numM D (nI x0) ((nI (dr 0)) - 1) 44 ((numM D 0 ((nI (dr 0)) - 1) 44 p).2)).2) (dr := dr) (be := be) hk (by omega) 0 3 59) cl_X6_number ml_RX6_77 im_X6_number (rd_M R _ _) rfl rfl ⟨rfl, rfl, rfl⟩ ?_
      refine v_topi (fun vq e_vq => ?_)
      refine v_istore_n (ls' := [(3, .int vq), (2, .int (nI y0)), (1, .int (nI x0)), (0, .ref R)]) g dX6_readsOwner_56 rfl rfl ?_
      refine v_iload_n g dX6_readsOwner_57 0 rfl ?_
      refine v_if_ge (tgt := 63) g dX6_readsOwner_58 (by decide) (fun h58 => ?_) (fun h58 => ?_)
      · skip
        obtain ⟨q0, hq0, eq0, wq⟩ := num_nn' e_vq h58
        subst eq0
        refine v_aload_n g dX6_readsOwner_63 3 rfl ?_
        refine v_iload_n g dX6_readsOwner_64 2 rfl ?_
        refine v_iload_n g dX6_readsOwner_65 1 rfl ?_
        refine v_iload_n g dX6_readsOwner_66 0 rfl ?_
        refine v_callV (As := [.int (nI x0), .int (nI y0), .int (nI q0)]) (r := none) g dX6_readsOwner_67 (q_owns (D := D) (p := (numM D 0 3 59 ((numM D (nI x0) ((nI (dr 0)) - 1) 44 ((numM D 0 ((nI (dr 0)) - 1) 44 p).2)).2)).2) (dr := dr) (be := be) (x := x0) (y := y0) (by omega) (by omega) q0) cl_X6_owns ml_RX6_40 im_X6_owns (rd_M R _ _) rfl rfl ⟨rfl, rfl, rfl⟩ ?_
        refine v_iconst (v := 1) g dX6_readsOwner_70 (by decide) ?_
        exact v_zret g E dX6_readsOwner_71 rfl rfl ⟨by rw [roM_3 hx0 e_vx hy0 e_vy hq0 e_vq]; rfl, rfl, by rw [roM_3 hx0 e_vx hy0 e_vy hq0 e_vq]⟩
      · skip
        refine v_iconst (v := 0) g dX6_readsOwner_61 (by decide) ?_
        exact v_zret g E dX6_readsOwner_62 rfl rfl ⟨by rw [roM_2 hx0 e_vx hy0 e_vy (by rw [← e_vq]; exact Int32.not_le.mp h58)]; rfl, rfl, by rw [roM_2 hx0 e_vx hy0 e_vy (by rw [← e_vq]; exact Int32.not_le.mp h58)]⟩
    · skip
      refine v_iconst (v := (-1)) g dX6_readsOwner_44 (by decide) ?_
      refine v_goto (tgt := 56) g dX6_readsOwner_45 (by decide) ?_
      refine v_istore_n (ls' := [(3, .int (-1)), (2, .int vy), (1, .int (nI x0)), (0, .ref R)]) g dX6_readsOwner_56 rfl rfl ?_
      refine v_iload_n g dX6_readsOwner_57 0 rfl ?_
      refine v_if_ge (tgt := 63) g dX6_readsOwner_58 (by decide) (fun h => absurd h (by decide)) (fun _ => ?_)
      refine v_iconst (v := 0) g dX6_readsOwner_61 (by decide) ?_
      exact v_zret g E dX6_readsOwner_62 rfl rfl ⟨by rw [roM_1 hx0 e_vx (by rw [← e_vy]; exact Int32.not_le.mp h41)]; rfl, rfl, by rw [roM_1 hx0 e_vx (by rw [← e_vy]; exact Int32.not_le.mp h41)]⟩
  · skip
    refine v_iconst (v := (-1)) g dX6_readsOwner_20 (by decide) ?_
    refine v_goto (tgt := 39) g dX6_readsOwner_21 (by decide) ?_
    refine v_istore_n (ls' := [(2, .int (-1)), (1, .int vx), (0, .ref R)]) g dX6_readsOwner_39 rfl rfl ?_
    refine v_iload_n g dX6_readsOwner_40 0 rfl ?_
    refine v_if_ge (tgt := 48) g dX6_readsOwner_41 (by decide) (fun h => absurd h (by decide)) (fun _ => ?_)
    refine v_iconst (v := (-1)) g dX6_readsOwner_44 (by decide) ?_
    refine v_goto (tgt := 56) g dX6_readsOwner_45 (by decide) ?_
    refine v_istore_n (ls' := [(3, .int (-1)), (2, .int (-1)), (1, .int vx), (0, .ref R)]) g dX6_readsOwner_56 rfl rfl ?_
    refine v_iload_n g dX6_readsOwner_57 0 rfl ?_
    refine v_if_ge (tgt := 63) g dX6_readsOwner_58 (by decide) (fun h => absurd h (by decide)) (fun _ => ?_)
    refine v_iconst (v := 0) g dX6_readsOwner_61 (by decide) ?_
    exact v_zret g E dX6_readsOwner_62 rfl rfl ⟨by rw [roM_0 (by rw [← e_vx]; exact Int32.not_le.mp h17)]; rfl, rfl, by rw [roM_0 (by rw [← e_vx]; exact Int32.not_le.mp h17)]⟩
end R13
