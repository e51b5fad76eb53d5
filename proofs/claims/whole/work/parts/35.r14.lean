/-! THE REFERENCE: it reads a text (3): rows of trees, all items -/
theorem rr_a {D : MS} {dr be : Nat → Nat} {r u p : Nat} (h : (figM D 0 (nI (dr 0) - 1) p).1 < 0) : rrM D dr r (u + 1) p be = (false, (figM D 0 (nI (dr 0) - 1) p).2, be) := by rw [rrM, if_pos h]
theorem rr_b {D : MS} {dr be : Nat → Nat} {r u p c : Nat} (hc : c < 100) (ec : nI c = (figM D 0 (nI (dr 0) - 1) p).1) (h : tkM dr be r c = false) : rrM D dr r (u + 1) p be = (false, (figM D 0 (nI (dr 0) - 1) p).2, be) := by
  rw [rrM, ← ec, if_neg (nI_pos (by omega)), nI_clamp (by omega), if_pos h]
theorem rr_c {D : MS} {dr be : Nat → Nat} {r u p c : Nat} (hc : c < 100) (ec : nI c = (figM D 0 (nI (dr 0) - 1) p).1) (h : tkM dr be r c = true) (h2 : letM D (figM D 0 (nI (dr 0) - 1) p).2 = 44) : rrM D dr r (u + 1) p be = rrM D dr r u ((figM D 0 (nI (dr 0) - 1) p).2 + 1) (stM be r c) := by
  rw [rrM, ← ec, if_neg (nI_pos (by omega)), nI_clamp (by omega), if_neg (by rw [h]; decide), if_pos h2]
theorem rr_d {D : MS} {dr be : Nat → Nat} {r u p c : Nat} (hc : c < 100) (ec : nI c = (figM D 0 (nI (dr 0) - 1) p).1) (h : tkM dr be r c = true) (h3 : ¬ letM D (figM D 0 (nI (dr 0) - 1) p).2 = 44) (h2 : letM D (figM D 0 (nI (dr 0) - 1) p).2 = 59) : rrM D dr r (u + 1) p be = (true, (figM D 0 (nI (dr 0) - 1) p).2 + 1, stM be r c) := by
  rw [rrM, ← ec, if_neg (nI_pos (by omega)), nI_clamp (by omega), if_neg (by rw [h]; decide), if_neg h3, if_pos h2]
theorem rr_e {D : MS} {dr be : Nat → Nat} {r u p c : Nat} (hc : c < 100) (ec : nI c = (figM D 0 (nI (dr 0) - 1) p).1) (h : tkM dr be r c = true) (h3 : ¬ letM D (figM D 0 (nI (dr 0) - 1) p).2 = 44) (h2 : ¬ letM D (figM D 0 (nI (dr 0) - 1) p).2 = 59) : rrM D dr r (u + 1) p be = (false, (figM D 0 (nI (dr 0) - 1) p).2 + 1, stM be r c) := by
  rw [rrM, ← ec, if_neg (nI_pos (by omega)), nI_clamp (by omega), if_neg (by rw [h]; decide), if_neg h3, if_neg h2]
theorem rw_0 {D : MS} {p : Nat} {dr be : Nat → Nat} (h : (numM D 0 3 44 p).1 < 0) : rwM D p dr be = (false, (numM D 0 3 44 p).2, dr, be) := by
  unfold rwM; simp only [if_pos h]
theorem rw_1 {D : MS} {p k : Nat} {dr be : Nat → Nat} (hk : k < 100) (ek : nI k = (numM D 0 3 44 p).1) (h : (numM D 0 3 44 (numM D 0 3 44 p).2).1 < 0) : rwM D p dr be = (false, (numM D 0 3 44 (numM D 0 3 44 p).2).2, dr, be) := by
  unfold rwM
  simp only [← ek, if_neg (nI_pos (show k < 2 ^ 31 by omega)), if_pos h]
theorem rw_2 {D : MS} {p k d : Nat} {dr be : Nat → Nat} (hk : k < 100) (ek : nI k = (numM D 0 3 44 p).1) (hd : d < 100) (ed : nI d = (numM D 0 3 44 (numM D 0 3 44 p).2).1) (h : (numM D 0 9 44 (numM D 0 3 44 (numM D 0 3 44 p).2).2).1 < 0) : rwM D p dr be = (false, (numM D 0 9 44 (numM D 0 3 44 (numM D 0 3 44 p).2).2).2, dr, be) := by
  unfold rwM
  simp only [← ek, ← ed, if_neg (nI_pos (show k < 2 ^ 31 by omega)), if_neg (nI_pos (show d < 2 ^ 31 by omega)), if_pos h]
theorem rw_3 {D : MS} {p k d b : Nat} {dr be : Nat → Nat} (hk : k < 100) (ek : nI k = (numM D 0 3 44 p).1) (hd : d < 100) (ed : nI d = (numM D 0 3 44 (numM D 0 3 44 p).2).1) (hb : b < 100) (eb : nI b = (numM D 0 9 44 (numM D 0 3 44 (numM D 0 3 44 p).2).2).1) (h : dr 2 = 3) : rwM D p dr be = (false, (numM D 0 9 44 (numM D 0 3 44 (numM D 0 3 44 p).2).2).2, dr, be) := by
  unfold rwM
  simp only [← ek, ← ed, ← eb, if_neg (nI_pos (show k < 2 ^ 31 by omega)), if_neg (nI_pos (show d < 2 ^ 31 by omega)), if_neg (nI_pos (show b < 2 ^ 31 by omega)), if_pos h]
theorem rw_4 {D : MS} {p k d b : Nat} {dr be : Nat → Nat} (hk : k < 100) (ek : nI k = (numM D 0 3 44 p).1) (hd : d < 100) (ed : nI d = (numM D 0 3 44 (numM D 0 3 44 p).2).1) (hb : b < 100) (eb : nI b = (numM D 0 9 44 (numM D 0 3 44 (numM D 0 3 44 p).2).2).1) (h : ¬ dr 2 = 3) : rwM D p dr be = ((rrM D (rowD dr k b) (dr 2) 5 (numM D 0 9 44 (numM D 0 3 44 (numM D 0 3 44 p).2).2).2 (rowB dr be d)).1, (rrM D (rowD dr k b) (dr 2) 5 (numM D 0 9 44 (numM D 0 3 44 (numM D 0 3 44 p).2).2).2 (rowB dr be d)).2.1, rowD dr k b, (rrM D (rowD dr k b) (dr 2) 5 (numM D 0 9 44 (numM D 0 3 44 (numM D 0 3 44 p).2).2).2 (rowB dr be d)).2.2) := by
  unfold rwM
  simp only [← ek, ← ed, ← eb, if_neg (nI_pos (show k < 2 ^ 31 by omega)), if_neg (nI_pos (show d < 2 ^ 31 by omega)), if_neg (nI_pos (show b < 2 ^ 31 by omega)), if_neg h, nI_clamp (show k < 2 ^ 31 by omega), nI_clamp (show d < 2 ^ 31 by omega), nI_clamp (show b < 2 ^ 31 by omega)]
theorem rowD_at (dr : Nat → Nat) (k b : Nat) (h : dr 2 < 3) : rowD dr k b 0 = dr 0 ∧ rowD dr k b 1 = dr 1 ∧ rowD dr k b 2 = dr 2 + 1 := by
  unfold rowD
  refine ⟨?_, ?_, va_up_self _ _ _⟩
  · rw [va_up_ne _ _ (by omega), va_up_ne _ _ (by omega), va_up_ne _ _ (by omega)]
  · rw [va_up_ne _ _ (by omega), va_up_ne _ _ (by omega), va_up_ne _ _ (by omega)]
def zrM (m : Nat) (f : Nat → Nat) : Nat → Nat := fun j => if j < m then 0 else f j
theorem zrM_0 (f : Nat → Nat) : f = zrM 0 f := by funext j; unfold zrM; rw [if_neg (by omega)]
theorem zrM_s (f : Nat → Nat) (k : Nat) : va_up (zrM k f) k 0 = zrM (k + 1) f := by
  funext j
  unfold va_up zrM
  by_cases h : j = k
  · subst h; rw [if_pos rfl, if_pos (by omega)]
  · rw [if_neg h]
    by_cases h2 : j < k
    · rw [if_pos h2, if_pos (by omega)]
    · rw [if_neg h2, if_neg (by omega)]
section R14
variable {l : Launch} {G : GG} {n : Nat} {R : Nat} {D : MS} {p : Nat} {dr be : Nat → Nat} {ρ : Mu}
theorem q_isTree (h2 : dr 2 ≤ 3) (h5 : ∀ r, r < 3 → be (8 + r) ≤ 4) (c : Nat) : Ctr l G 0 0 0 0 mX6_isTree [.ref R, .int (nI c)] n (rem R (dS D p dr be) ρ) (some (.int (zB (itM dr be c)))) n (rem R (dS D p dr be) ρ) := by
  refine Ctr.of (by decide +kernel) rfl (fun X g E => ?_)
  have loop : ∀ (u r : Nat) (b : Bool), r + u = dr 2 → itM dr be c = itOut be c u r b → V X 0 0 n (rem R (dS D p dr be) ρ) 4 [(3, .int (nI r)), (2, .int (zB b)), (0, .ref R), (1, .int (nI c))] [] := by
    intro u
    induction u with
    | zero =>
      intro r b hu he
      refine v_iload_n g dX6_isTree_4 0 rfl ?_
      refine v_aload_n g dX6_isTree_5 2 rfl ?_
      refine v_get g dX6_isTree_6 fl_RX6_16 (rd_M R _ _) rfl ?_
      refine v_iconst (v := 2) g dX6_isTree_9 (by decide) ?_
      refine v_iald g dX6_isTree_10 (rd_MA2 R _ _) (by unfold vp_in; decide) (v_eqi (y := (nI (dr 2))) rfl ?_)
      refine v_icmp_ge (tgt := 71) g dX6_isTree_11 (by decide) (fun h11 => ?_) (fun h11 => absurd (nI_le (a := dr 2) (b := r) (by omega) (by omega)) h11)
      refine v_iload_n g dX6_isTree_71 1 rfl ?_
      exact v_zret g E dX6_isTree_72 rfl (zB_nar _) ⟨by rw [he]; rfl, rfl, rfl⟩
    | succ u ih =>
      intro r b hu he
      have h5r := h5 r (by omega)
      have inner : ∀ (v k : Nat) (b : Bool), k + v = be (8 + r) → itM dr be c = itOut be c u (r + 1) (itIn be c r v k b) → V X 0 0 n (rem R (dS D p dr be) ρ) 17 [(4, .int (nI k)), (3, .int (nI r)), (2, .int (zB b)), (0, .ref R), (1, .int (nI c))] [] := by
        intro v
        induction v with
        | zero =>
          intro k b hv he
          refine v_iload g dX6_isTree_17 0 rfl ?_
          refine v_aload_n g dX6_isTree_19 3 rfl ?_
          refine v_get g dX6_isTree_20 fl_RX6_19 (rd_M R _ _) rfl ?_
          refine v_bipush (v := 8) g dX6_isTree_23 (by decide) ?_
          refine v_iload_n g dX6_isTree_25 1 rfl ?_
          refine v_iadd g dX6_isTree_26 (v_eqi (y := nI (8 + r)) (nI_addE rfl rfl) ?_)
          refine v_iald g dX6_isTree_27 (rd_MA3 R _ _) (vp_in_nI (by omega) (by decide)) (v_eqi (y := (nI (be (8 + r)))) (by first | (rw [nI_clamp (by omega)]; done) | (rw [nI_clamp (by omega)]; rfl)) ?_)
          refine v_icmp_ge (tgt := 65) g dX6_isTree_28 (by decide) (fun h28 => ?_) (fun h28 => absurd (nI_le (a := be (8 + r)) (b := k) (by omega) (by omega)) h28)
          refine v_iinc (v := (nI (r + 1))) (ls' := [(3, .int (nI (r + 1))), (4, .int (nI k)), (2, .int (zB b)), (0, .ref R), (1, .int (nI c))]) g dX6_isTree_65 1 rfl (nI_addE rfl rfl) rfl rfl ?_
          refine v_goto (tgt := 4) g dX6_isTree_68 (by decide) ?_
          refine v_sub (ls' := [(3, .int (nI (r + 1))), (2, .int (zB b)), (0, .ref R), (1, .int (nI c))]) [0, 2, 3, 4] rfl ?_
          exact ih (r + 1) b (by omega) (by rw [he, itIn])
        | succ v ihv =>
          intro k b hv he
          refine v_iload g dX6_isTree_17 0 rfl ?_
          refine v_aload_n g dX6_isTree_19 3 rfl ?_
          refine v_get g dX6_isTree_20 fl_RX6_19 (rd_M R _ _) rfl ?_
          refine v_bipush (v := 8) g dX6_isTree_23 (by decide) ?_
          refine v_iload_n g dX6_isTree_25 1 rfl ?_
          refine v_iadd g dX6_isTree_26 (v_eqi (y := nI (8 + r)) (nI_addE rfl rfl) ?_)
          refine v_iald g dX6_isTree_27 (rd_MA3 R _ _) (vp_in_nI (by omega) (by decide)) (v_eqi (y := (nI (be (8 + r)))) (by first | (rw [nI_clamp (by omega)]; done) | (rw [nI_clamp (by omega)]; rfl)) ?_)
          refine v_icmp_ge (tgt := 65) g dX6_isTree_28 (by decide) (fun h28 => absurd h28 (nI_ge (a := k) (b := be (8 + r)) (by omega) (by omega))) (fun h28 => ?_)
          refine v_iload_n g dX6_isTree_31 2 rfl ?_
          refine v_if_ne (tgt := 53) g dX6_isTree_32 (by decide) (fun h32 => ?_) (fun h32 => ?_)
          · skip
            have h32 := zB_t0 h32
            refine v_iconst (v := 1) g dX6_isTree_53 (by decide) ?_
            refine v_goto (tgt := 58) g dX6_isTree_54 (by decide) ?_
            refine v_istore_n (ls' := [(2, .int 1), (4, .int (nI k)), (3, .int (nI r)), (0, .ref R), (1, .int (nI c))]) g dX6_isTree_58 rfl rfl ?_
            refine v_iinc (v := (nI (k + 1))) (ls' := [(4, .int (nI (k + 1))), (2, .int 1), (3, .int (nI r)), (0, .ref R), (1, .int (nI c))]) g dX6_isTree_59 1 rfl (nI_addE rfl rfl) rfl rfl ?_
            refine v_goto (tgt := 17) g dX6_isTree_62 (by decide) ?_
            refine v_sub (ls' := [(4, .int (nI (k + 1))), (3, .int (nI r)), (2, .int 1), (0, .ref R), (1, .int (nI c))]) [0, 2, 1, 3, 4] rfl ?_
            exact ihv (k + 1) true (by omega) (by rw [he, itIn]; simp [*])
          · skip
            have h32 := zB_f0 h32
            refine v_aload_n g dX6_isTree_35 3 rfl ?_
            refine v_get g dX6_isTree_36 fl_RX6_19 (rd_M R _ _) rfl ?_
            refine v_bipush (v := 11) g dX6_isTree_39 (by decide) ?_
            refine v_iconst (v := 4) g dX6_isTree_41 (by decide) ?_
            refine v_iload_n g dX6_isTree_42 1 rfl ?_
            refine v_imul g dX6_isTree_43 (v_eqi (y := nI (4 * r)) (nI_mulE rfl rfl) ?_)
            refine v_iadd g dX6_isTree_44 (v_eqi (y := nI (11 + (4 * r))) (nI_addE rfl rfl) ?_)
            refine v_iload g dX6_isTree_45 0 rfl ?_
            refine v_iadd g dX6_isTree_47 (v_eqi (y := nI ((11 + (4 * r)) + k)) (nI_addE rfl rfl) ?_)
            refine v_iald g dX6_isTree_48 (rd_MA3 R _ _) (vp_in_nI (by omega) (by decide)) (v_eqi (y := (nI (be ((11 + (4 * r)) + k)))) (by first | (rw [nI_clamp (by omega)]; done) | (rw [nI_clamp (by omega)]; rfl)) ?_)
            refine v_iload_n g dX6_isTree_49 4 rfl ?_
            refine v_icmp_ne (tgt := 57) g dX6_isTree_50 (by decide) (fun h50 => ?_) (fun h50 => ?_)
            · skip
              refine v_iconst (v := 0) g dX6_isTree_57 (by decide) ?_
              refine v_istore_n (ls' := [(2, .int 0), (4, .int (nI k)), (3, .int (nI r)), (0, .ref R), (1, .int (nI c))]) g dX6_isTree_58 rfl rfl ?_
              refine v_iinc (v := (nI (k + 1))) (ls' := [(4, .int (nI (k + 1))), (2, .int 0), (3, .int (nI r)), (0, .ref R), (1, .int (nI c))]) g dX6_isTree_59 1 rfl (nI_addE rfl rfl) rfl rfl ?_
              refine v_goto (tgt := 17) g dX6_isTree_62 (by decide) ?_
              refine v_sub (ls' := [(4, .int (nI (k + 1))), (3, .int (nI r)), (2, .int 0), (0, .ref R), (1, .int (nI c))]) [0, 2, 1, 3, 4] rfl ?_
              exact ihv (k + 1) false (by omega) (by rw [he, itIn]; simp [*])
            · skip
              refine v_iconst (v := 1) g dX6_isTree_53 (by decide) ?_
              refine v_goto (tgt := 58) g dX6_isTree_54 (by decide) ?_
              refine v_istore_n (ls' := [(2, .int 1), (4, .int (nI k)), (3, .int (nI r)), (0, .ref R), (1, .int (nI c))]) g dX6_isTree_58 rfl rfl ?_
              refine v_iinc (v := (nI (k + 1))) (ls' := [(4, .int (nI (k + 1))), (2, .int 1), (3, .int (nI r)), (0, .ref R), (1, .int (nI c))]) g dX6_isTree_59 1 rfl (nI_addE rfl rfl) rfl rfl ?_
              refine v_goto (tgt := 17) g dX6_isTree_62 (by decide) ?_
              refine v_sub (ls' := [(4, .int (nI (k + 1))), (3, .int (nI r)), (2, .int 1), (0, .ref R), (1, .int (nI c))]) [0, 2, 1, 3, 4] rfl ?_
              exact ihv (k + 1) true (by omega) (by rw [he, itIn]; simp [*])
      refine v_iload_n g dX6_isTree_4 0 rfl ?_
      refine v_aload_n g dX6_isTree_5 2 rfl ?_
      refine v_get g dX6_isTree_6 fl_RX6_16 (rd_M R _ _) rfl ?_
      refine v_iconst (v := 2) g dX6_isTree_9 (by decide) ?_
      refine v_iald g dX6_isTree_10 (rd_MA2 R _ _) (by unfold vp_in; decide) (v_eqi (y := (nI (dr 2))) rfl ?_)
      refine v_icmp_ge (tgt := 71) g dX6_isTree_11 (by decide) (fun h11 => absurd h11 (nI_ge (a := r) (b := dr 2) (by omega) (by omega))) (fun h11 => ?_)
      refine v_iconst (v := 0) g dX6_isTree_14 (by decide) ?_
      refine v_istore (ls' := [(4, .int 0), (3, .int (nI r)), (2, .int (zB b)), (0, .ref R), (1, .int (nI c))]) g dX6_isTree_15 rfl rfl ?_
      refine v_sub (ls' := [(4, .int 0), (3, .int (nI r)), (2, .int (zB b)), (0, .ref R), (1, .int (nI c))]) [0, 1, 2, 3, 4] rfl ?_
      exact inner (be (8 + r)) 0 b (by omega) (by rw [he, itOut])
  refine v_sub (ls' := [(0, .ref R), (1, .int (nI c))]) [0, 1] rfl ?_
  refine v_iconst (v := 0) g dX6_isTree_0 (by decide) ?_
  refine v_istore_n (ls' := [(2, .int 0), (0, .ref R), (1, .int (nI c))]) g dX6_isTree_1 rfl rfl ?_
  refine v_iconst (v := 0) g dX6_isTree_2 (by decide) ?_
  refine v_istore_n (ls' := [(3, .int 0), (2, .int 0), (0, .ref R), (1, .int (nI c))]) g dX6_isTree_3 rfl rfl ?_
  refine v_sub (ls' := [(3, .int 0), (2, .int 0), (0, .ref R), (1, .int (nI c))]) [0, 1, 2, 3] rfl ?_
  exact loop (dr 2) 0 false (by omega) rfl
set_option maxHeartbeats 4000000 in
theorem q_readsRow (hk : D.1.1 ≤ 200) (hp : p < 900) (hw : OkW dr be) : Ctr l G 4 90 0 0 mX6_readsRow [.ref R] n (rem R (dS D p dr be) ρ) (some (.int (zB (rwM D p dr be).1))) n (rem R (dS D (rwM D p dr be).2.1 (rwM D p dr be).2.2.1 (rwM D p dr be).2.2.2) ρ) := by
  refine Ctr.of (by decide +kernel) rfl (fun X g E => ?_)
  obtain ⟨w0, w1, w2, w3, w4, w5, w6⟩ := hw
  have a1 := num_at D 0 3 44 p
  have loop : ∀ (k0 d0 b0 : Nat) (p1 : Nat), dr 2 < 3 → rwM D p dr be = ((rrM D (rowD dr k0 b0) (dr 2) 5 p1 (rowB dr be d0)).1, (rrM D (rowD dr k0 b0) (dr 2) 5 p1 (rowB dr be d0)).2.1, (rowD dr k0 b0), (rrM D (rowD dr k0 b0) (dr 2) 5 p1 (rowB dr be d0)).2.2) → ∀ (u q : Nat) (be1 : Nat → Nat), be1 (8 + dr 2) + u = 5 → q + 3 * u < 960 → (∀ r, r < 3 → be1 (8 + r) ≤ 4) → (∀ j, j < 12 → be1 (11 + j) < 36) → rrM D (rowD dr k0 b0) (dr 2) 5 p1 (rowB dr be d0) = rrM D (rowD dr k0 b0) (dr 2) u q be1 → V X 0 0 n (rem R (dS D q (rowD dr k0 b0) be1) ρ) 80 [(5, .int 1), (4, .int (nI (dr 2))), (3, .int (nI b0)), (2, .int (nI d0)), (1, .int (nI k0)), (0, .ref R)] [] := by
    intro k0 d0 b0 p1 hr e0
    obtain ⟨y0, y1, y2⟩ := rowD_at dr k0 b0 hr
    intro u
    induction u with
    | zero =>
      intro q be1 hu hq v3 v4 he
      have := v3 (dr 2) hr
      omega
    | succ u ih =>
      intro q be1 hu hq v3 v4 he
      have v3r := v3 (dr 2) hr
      have fa := fig_at D 0 (nI (rowD dr k0 b0 0) - 1) q
      refine v_iload g dX6_readsRow_80 0 rfl ?_
      refine v_if_eq (tgt := 242) g dX6_readsRow_82 (by decide) (fun h => absurd h (by decide)) (fun _ => ?_)
      refine v_aload_n g dX6_readsRow_85 5 rfl ?_
      refine v_get g dX6_readsRow_86 fl_RX6_19 (rd_M R _ _) rfl ?_
      refine v_bipush (v := 8) g dX6_readsRow_89 (by decide) ?_
      refine v_iload g dX6_readsRow_91 1 rfl ?_
      refine v_iadd g dX6_readsRow_93 (v_eqi (y := nI (8 + (dr 2))) (nI_addE rfl rfl) ?_)
      refine v_iald g dX6_readsRow_94 (rd_MA3 R _ _) (vp_in_nI (by omega) (by decide)) (v_eqi (y := (nI (be1 (8 + (dr 2))))) (by first | (rw [nI_clamp (by omega)]; done) | (rw [nI_clamp (by omega)]; rfl)) ?_)
      refine v_istore (ls' := [(6, .int (nI (be1 (8 + (dr 2))))), (5, .int 1), (4, .int (nI (dr 2))), (3, .int (nI b0)), (2, .int (nI d0)), (1, .int (nI k0)), (0, .ref R)]) g dX6_readsRow_95 rfl rfl ?_
      refine v_aload_n g dX6_readsRow_97 6 rfl ?_
      refine v_iconst (v := 0) g dX6_readsRow_98 (by decide) ?_
      refine v_aload_n g dX6_readsRow_99 6 rfl ?_
      refine v_get g dX6_readsRow_100 fl_RX6_16 (rd_M R _ _) rfl ?_
      refine v_iconst (v := 0) g dX6_readsRow_103 (by decide) ?_
      refine v_iald g dX6_readsRow_104 (rd_MA2 R _ _) (by unfold vp_in; decide) (v_eqi (y := (nI ((rowD dr k0 b0) 0))) rfl ?_)
      refine v_iconst (v := 1) g dX6_readsRow_105 (by decide) ?_
      refine v_isub g dX6_readsRow_106 ?_
      refine v_callV (As := [.int 0, .int ((nI ((rowD dr k0 b0) 0)) - 1)]) (r := some (.int ((figM D 0 ((nI ((rowD dr k0 b0) 0)) - 1) q).1))) g dX6_readsRow_107 (q_figures (D := D) (p := q) (dr := (rowD dr k0 b0)) (be := be1) hk (by omega) 0 ((nI ((rowD dr k0 b0) 0)) - 1)) cl_X6_figures ml_RX6_73 im_X6_figures (rd_M R _ _) rfl rfl ⟨rfl, rfl, rfl⟩ ?_
      refine v_topi (fun vc e_vc => ?_)
      refine v_istore (ls' := [(7, .int vc), (6, .int (nI (be1 (8 + (dr 2))))), (5, .int 1), (4, .int (nI (dr 2))), (3, .int (nI b0)), (2, .int (nI d0)), (1, .int (nI k0)), (0, .ref R)]) g dX6_readsRow_110 rfl rfl ?_
      refine v_iload g dX6_readsRow_112 0 rfl ?_
      refine v_if_lt (tgt := 181) g dX6_readsRow_114 (by decide) (fun h114 => ?_) (fun h114 => ?_)
      · skip
        refine v_iconst (v := 0) g dX6_readsRow_181 (by decide) ?_
        exact v_zret g E dX6_readsRow_182 rfl rfl ⟨by first | (rw [e0, he, rr_a (by rw [← e_vc]; exact h114)]; rfl), rfl, by first | (rw [e0, he, rr_a (by rw [← e_vc]; exact h114)]; done)⟩
      · skip
        obtain ⟨c0, hc0, ec0, wc⟩ := fig_nn2 e_vc h114
        subst ec0
        have lc : c0 < rowD dr k0 b0 0 := wi_dr wc hc0 (by omega)
        have lc2 := w5 (by omega)
        refine v_iload g dX6_readsRow_117 1 rfl ?_
        refine v_iconst (v := 4) g dX6_readsRow_119 (by decide) ?_
        refine v_icmp_eq (tgt := 181) g dX6_readsRow_120 (by decide) (fun h120 => ?_) (fun h120 => ?_)
        · skip
          refine v_iconst (v := 0) g dX6_readsRow_181 (by decide) ?_
          exact v_zret g E dX6_readsRow_182 rfl rfl ⟨by first | (rw [e0, he, rr_b hc0 e_vc (by unfold tkM; rw [if_pos h120])]; rfl), rfl, by first | (rw [e0, he, rr_b hc0 e_vc (by unfold tkM; rw [if_pos h120])]; done)⟩
        · skip
          have hn4 : be1 (8 + dr 2) < 4 := by rcases Nat.lt_or_ge (be1 (8 + dr 2)) 4 with z | z; exact z; exact absurd (by rw [show be1 (8 + dr 2) = 4 by omega]; rfl) h120
          refine v_aload_n g dX6_readsRow_123 7 rfl ?_
          refine v_get g dX6_readsRow_124 fl_RX6_16 (rd_M R _ _) rfl ?_
          refine v_iconst (v := 3) g dX6_readsRow_127 (by decide) ?_
          refine v_iload g dX6_readsRow_128 0 rfl ?_
          refine v_iadd g dX6_readsRow_130 (v_eqi (y := nI (3 + c0)) (nI_addE rfl rfl) ?_)
          refine v_iald g dX6_readsRow_131 (rd_MA2 R _ _) (vp_in_nI (by omega) (by decide)) (v_eqi (y := (nI ((rowD dr k0 b0) (3 + c0)))) (by first | (rw [nI_clamp (by omega)]; done) | (rw [nI_clamp (by omega)]; rfl)) ?_)
          refine v_iconst (v := 1) g dX6_readsRow_132 (by decide) ?_
          refine v_icmp_gt (tgt := 181) g dX6_readsRow_133 (by decide) (fun h133 => ?_) (fun h133 => ?_)
          · skip
            refine v_iconst (v := 0) g dX6_readsRow_181 (by decide) ?_
            exact v_zret g E dX6_readsRow_182 rfl rfl ⟨by first | (rw [e0, he, rr_b hc0 e_vc (by unfold tkM; rw [if_neg h120, if_pos h133])]; rfl), rfl, by first | (rw [e0, he, rr_b hc0 e_vc (by unfold tkM; rw [if_neg h120, if_pos h133])]; done)⟩
          · skip
            refine v_aload_n g dX6_readsRow_136 7 rfl ?_
            refine v_iload g dX6_readsRow_137 0 rfl ?_
            refine v_callV (As := [.int (nI c0)]) (r := some (.int (zB (itM (rowD dr k0 b0) be1 c0)))) g dX6_readsRow_139 (q_isTree (D := D) (p := (figM D 0 ((nI ((rowD dr k0 b0) 0)) - 1) q).2) (dr := (rowD dr k0 b0)) (be := be1) (by omega) v3 c0) cl_X6_isTree ml_RX6_81 im_X6_isTree (rd_M R _ _) rfl rfl ⟨rfl, rfl, rfl⟩ ?_
            refine v_if_ne (tgt := 181) g dX6_readsRow_142 (by decide) (fun h142 => ?_) (fun h142 => ?_)
            · skip
              have h142 := zB_t0 h142
              refine v_iconst (v := 0) g dX6_readsRow_181 (by decide) ?_
              exact v_zret g E dX6_readsRow_182 rfl rfl ⟨by first | (rw [e0, he, rr_b hc0 e_vc (by unfold tkM; rw [if_neg h120, if_neg h133, if_pos h142])]; rfl), rfl, by first | (rw [e0, he, rr_b hc0 e_vc (by unfold tkM; rw [if_neg h120, if_neg h133, if_pos h142])]; done)⟩
            · skip
              have h142 := zB_f0 h142
              refine v_iload g dX6_readsRow_145 1 rfl ?_
              refine v_if_le (tgt := 183) g dX6_readsRow_147 (by decide) (fun h147 => ?_) (fun h147 => ?_)
              · skip
                refine v_aload_n g dX6_readsRow_183 7 rfl ?_
                refine v_iload g dX6_readsRow_184 0 rfl ?_
                refine v_callV (As := [.int (nI c0)]) (r := none) g dX6_readsRow_186 (q_stands (D := D) (p := (figM D 0 ((nI ((rowD dr k0 b0) 0)) - 1) q).2) (dr := (rowD dr k0 b0)) (be := be1) (r := (dr 2)) y2 hr (by omega) c0) cl_X6_stands ml_RX6_47 im_X6_stands (rd_M R _ _) rfl rfl ⟨rfl, rfl, rfl⟩ ?_
                refine v_aload_n g dX6_readsRow_189 7 rfl ?_
                refine v_aload_n g dX6_readsRow_190 7 rfl ?_
                refine v_get g dX6_readsRow_191 fl_RX6_62 (rd_M R _ _) rfl ?_
                refine v_eqi (y := nI ((figM D 0 ((nI ((rowD dr k0 b0) 0)) - 1) q).2)) rfl ?_
                refine v_callV (As := [.int (nI ((figM D 0 ((nI ((rowD dr k0 b0) 0)) - 1) q).2))]) (r := some (.int (letM D ((figM D 0 ((nI ((rowD dr k0 b0) 0)) - 1) q).2)))) g dX6_readsRow_194 (q_letterAt (D := D) (p := (figM D 0 ((nI ((rowD dr k0 b0) 0)) - 1) q).2) (dr := (rowD dr k0 b0)) (be := (stM be1 (dr 2) c0)) (k := ((figM D 0 ((nI ((rowD dr k0 b0) 0)) - 1) q).2)) hk (by omega)) cl_X6_letterAt ml_RX6_65 im_X6_letterAt (rd_M R _ _) rfl rfl ⟨rfl, rfl, rfl⟩ ?_
                refine v_istore (ls' := [(8, .int (letM D ((figM D 0 ((nI ((rowD dr k0 b0) 0)) - 1) q).2))), (7, .int (nI c0)), (6, .int (nI (be1 (8 + (dr 2))))), (5, .int 1), (4, .int (nI (dr 2))), (3, .int (nI b0)), (2, .int (nI d0)), (1, .int (nI k0)), (0, .ref R)]) g dX6_readsRow_197 rfl rfl ?_
                refine v_aload_n g dX6_readsRow_199 8 rfl ?_
                refine v_dup g dX6_readsRow_200 rfl ?_
                refine v_get g dX6_readsRow_201 fl_RX6_62 (rd_M R _ _) rfl ?_
                refine v_eqi (y := nI ((figM D 0 ((nI ((rowD dr k0 b0) 0)) - 1) q).2)) rfl ?_
                refine v_iconst (v := 1) g dX6_readsRow_204 (by decide) ?_
                refine v_iadd g dX6_readsRow_205 (v_eqi (y := nI (((figM D 0 ((nI ((rowD dr k0 b0) 0)) - 1) q).2) + 1)) (nI_addE rfl rfl) ?_)
                refine v_put g dX6_readsRow_206 fl_RX6_62 (rd_M R _ _) ⟨rfl, rfl⟩ rfl ?_
                refine v_meq (μ' := rem R (dS D (((figM D 0 ((nI ((rowD dr k0 b0) 0)) - 1) q).2) + 1) (rowD dr k0 b0) (stM be1 (dr 2) c0)) ρ) (st_GW R (dS D ((figM D 0 ((nI ((rowD dr k0 b0) 0)) - 1) q).2) (rowD dr k0 b0) (stM be1 (dr 2) c0)) (dS D (((figM D 0 ((nI ((rowD dr k0 b0) 0)) - 1) q).2) + 1) (rowD dr k0 b0) (stM be1 (dr 2) c0)) ρ (D.1.1, D.1.2.1, D.1.2.2.1, D.1.2.2.2.1, (((figM D 0 ((nI ((rowD dr k0 b0) 0)) - 1) q).2) + 1)) rfl rfl) ?_
                refine v_iload g dX6_readsRow_209 0 rfl ?_
                refine v_bipush (v := 44) g dX6_readsRow_211 (by decide) ?_
                refine v_icmp_eq (tgt := 225) g dX6_readsRow_213 (by decide) (fun h213 => ?_) (fun h213 => ?_)
                · skip
                  refine v_iload g dX6_readsRow_225 0 rfl ?_
                  refine v_bipush (v := 44) g dX6_readsRow_227 (by decide) ?_
                  refine v_icmp_ne (tgt := 236) g dX6_readsRow_229 (by decide) (fun h229 => ?_) (fun h229 => ?_)
                  · skip
                    refine v_iconst (v := 0) g dX6_readsRow_236 (by decide) ?_
                    refine v_istore (ls' := [(5, .int 0), (8, .int (letM D ((figM D 0 ((nI ((rowD dr k0 b0) 0)) - 1) q).2))), (7, .int (nI c0)), (6, .int (nI (be1 (8 + (dr 2))))), (4, .int (nI (dr 2))), (3, .int (nI b0)), (2, .int (nI d0)), (1, .int (nI k0)), (0, .ref R)]) g dX6_readsRow_237 rfl rfl ?_
                    refine v_goto (tgt := 80) g dX6_readsRow_239 (by decide) ?_
                    refine v_iload g dX6_readsRow_80 0 rfl ?_
                    refine v_if_eq (tgt := 242) g dX6_readsRow_82 (by decide) (fun _ => ?_) (fun h => absurd (by decide) h)
                    refine v_iconst (v := 1) g dX6_readsRow_242 (by decide) ?_
                    exact v_zret g E dX6_readsRow_243 rfl rfl ⟨by first | (exact absurd h213 h229) | (exact absurd h229 h213) | (rw [e0, he, rr_d hc0 e_vc (by unfold tkM; rw [if_neg h120, if_neg h133, if_neg (by rw [h142]; decide), if_pos h147]) (by assumption) (by assumption)]; rfl), rfl, by first | (exact absurd h213 h229) | (exact absurd h229 h213) | (rw [e0, he, rr_d hc0 e_vc (by unfold tkM; rw [if_neg h120, if_neg h133, if_neg (by rw [h142]; decide), if_pos h147]) (by assumption) (by assumption)]; done)⟩
                  · skip
                    refine v_iconst (v := 1) g dX6_readsRow_232 (by decide) ?_
                    refine v_goto (tgt := 237) g dX6_readsRow_233 (by decide) ?_
                    refine v_istore (ls' := [(5, .int 1), (8, .int (letM D ((figM D 0 ((nI ((rowD dr k0 b0) 0)) - 1) q).2))), (7, .int (nI c0)), (6, .int (nI (be1 (8 + (dr 2))))), (4, .int (nI (dr 2))), (3, .int (nI b0)), (2, .int (nI d0)), (1, .int (nI k0)), (0, .ref R)]) g dX6_readsRow_237 rfl rfl ?_
                    refine v_goto (tgt := 80) g dX6_readsRow_239 (by decide) ?_
                    refine v_sub (ls' := [(5, .int 1), (4, .int (nI (dr 2))), (3, .int (nI b0)), (2, .int (nI d0)), (1, .int (nI k0)), (0, .ref R)]) [0, 4, 5, 6, 7, 8] rfl ?_
                    first | (exact ih _ _ (by unfold stM; rw [va_up_self]; omega) (by omega) (fun r h => by unfold stM va_up; have := v3 r h; (repeat' split) <;> omega) (fun j h => by unfold stM va_up; have := v4 j h; (repeat' split) <;> omega) (by rw [he, rr_c hc0 e_vc (by unfold tkM; rw [if_neg h120, if_neg h133, if_neg (by rw [h142]; decide), if_pos h147]) (by assumption)]))
                · skip
                  refine v_iload g dX6_readsRow_216 0 rfl ?_
                  refine v_bipush (v := 59) g dX6_readsRow_218 (by decide) ?_
                  refine v_icmp_eq (tgt := 225) g dX6_readsRow_220 (by decide) (fun h220 => ?_) (fun h220 => ?_)
                  · skip
                    refine v_iload g dX6_readsRow_225 0 rfl ?_
                    refine v_bipush (v := 44) g dX6_readsRow_227 (by decide) ?_
                    refine v_icmp_ne (tgt := 236) g dX6_readsRow_229 (by decide) (fun h229_2 => ?_) (fun h229_2 => ?_)
                    · skip
                      refine v_iconst (v := 0) g dX6_readsRow_236 (by decide) ?_
                      refine v_istore (ls' := [(5, .int 0), (8, .int (letM D ((figM D 0 ((nI ((rowD dr k0 b0) 0)) - 1) q).2))), (7, .int (nI c0)), (6, .int (nI (be1 (8 + (dr 2))))), (4, .int (nI (dr 2))), (3, .int (nI b0)), (2, .int (nI d0)), (1, .int (nI k0)), (0, .ref R)]) g dX6_readsRow_237 rfl rfl ?_
                      refine v_goto (tgt := 80) g dX6_readsRow_239 (by decide) ?_
                      refine v_iload g dX6_readsRow_80 0 rfl ?_
                      refine v_if_eq (tgt := 242) g dX6_readsRow_82 (by decide) (fun _ => ?_) (fun h => absurd (by decide) h)
                      refine v_iconst (v := 1) g dX6_readsRow_242 (by decide) ?_
                      exact v_zret g E dX6_readsRow_243 rfl rfl ⟨by first | (exact absurd h213 h229_2) | (exact absurd h229_2 h213) | (rw [e0, he, rr_d hc0 e_vc (by unfold tkM; rw [if_neg h120, if_neg h133, if_neg (by rw [h142]; decide), if_pos h147]) (by assumption) (by assumption)]; rfl), rfl, by first | (exact absurd h213 h229_2) | (exact absurd h229_2 h213) | (rw [e0, he, rr_d hc0 e_vc (by unfold tkM; rw [if_neg h120, if_neg h133, if_neg (by rw [h142]; decide), if_pos h147]) (by assumption) (by assumption)]; done)⟩
                    · skip
                      refine v_iconst (v := 1) g dX6_readsRow_232 (by decide) ?_
                      refine v_goto (tgt := 237) g dX6_readsRow_233 (by decide) ?_
                      refine v_istore (ls' := [(5, .int 1), (8, .int (letM D ((figM D 0 ((nI ((rowD dr k0 b0) 0)) - 1) q).2))), (7, .int (nI c0)), (6, .int (nI (be1 (8 + (dr 2))))), (4, .int (nI (dr 2))), (3, .int (nI b0)), (2, .int (nI d0)), (1, .int (nI k0)), (0, .ref R)]) g dX6_readsRow_237 rfl rfl ?_
                      refine v_goto (tgt := 80) g dX6_readsRow_239 (by decide) ?_
                      refine v_sub (ls' := [(5, .int 1), (4, .int (nI (dr 2))), (3, .int (nI b0)), (2, .int (nI d0)), (1, .int (nI k0)), (0, .ref R)]) [0, 4, 5, 6, 7, 8] rfl ?_
                      first | (exact ih _ _ (by unfold stM; rw [va_up_self]; omega) (by omega) (fun r h => by unfold stM va_up; have := v3 r h; (repeat' split) <;> omega) (fun j h => by unfold stM va_up; have := v4 j h; (repeat' split) <;> omega) (by rw [he, rr_c hc0 e_vc (by unfold tkM; rw [if_neg h120, if_neg h133, if_neg (by rw [h142]; decide), if_pos h147]) (by assumption)]))
                  · skip
                    refine v_iconst (v := 0) g dX6_readsRow_223 (by decide) ?_
                    exact v_zret g E dX6_readsRow_224 rfl rfl ⟨by first | (rw [e0, he, rr_e hc0 e_vc (by unfold tkM; rw [if_neg h120, if_neg h133, if_neg (by rw [h142]; decide), if_pos h147]) (by assumption) (by assumption)]; rfl), rfl, by first | (rw [e0, he, rr_e hc0 e_vc (by unfold tkM; rw [if_neg h120, if_neg h133, if_neg (by rw [h142]; decide), if_pos h147]) (by assumption) (by assumption)]; done)⟩
              · skip
                have hn1 : 0 < be1 (8 + dr 2) := by rcases Nat.eq_zero_or_pos (be1 (8 + dr 2)) with z | z; (rw [z] at h147; exact absurd (by decide) h147); exact z
                have v4n : be1 (11 + 4 * dr 2 + be1 (8 + dr 2) - 1) < 36 := by have := v4 (4 * dr 2 + be1 (8 + dr 2) - 1) (by omega); rw [show 11 + (4 * dr 2 + be1 (8 + dr 2) - 1) = 11 + 4 * dr 2 + be1 (8 + dr 2) - 1 by omega] at this; exact this
                refine v_iload g dX6_readsRow_150 0 rfl ?_
                refine v_aload_n g dX6_readsRow_152 7 rfl ?_
                refine v_get g dX6_readsRow_153 fl_RX6_19 (rd_M R _ _) rfl ?_
                refine v_bipush (v := 11) g dX6_readsRow_156 (by decide) ?_
                refine v_iconst (v := 4) g dX6_readsRow_158 (by decide) ?_
                refine v_iload g dX6_readsRow_159 3 rfl ?_
                refine v_imul g dX6_readsRow_161 (v_eqi (y := nI (4 * (dr 2))) (nI_mulE rfl rfl) ?_)
                refine v_iadd g dX6_readsRow_162 (v_eqi (y := nI (11 + (4 * (dr 2)))) (nI_addE rfl rfl) ?_)
                refine v_iload g dX6_readsRow_163 1 rfl ?_
                refine v_iadd g dX6_readsRow_165 (v_eqi (y := nI ((11 + (4 * (dr 2))) + (be1 (8 + (dr 2))))) (nI_addE rfl rfl) ?_)
                refine v_iconst (v := 1) g dX6_readsRow_166 (by decide) ?_
                refine v_isub g dX6_readsRow_167 (v_eqi (y := nI (((11 + (4 * (dr 2))) + (be1 (8 + (dr 2)))) - 1)) (nI_subE rfl rfl (by omega)) ?_)
                refine v_iald g dX6_readsRow_168 (rd_MA3 R _ _) (vp_in_nI (by omega) (by decide)) (v_eqi (y := (nI (be1 (((11 + (4 * (dr 2))) + (be1 (8 + (dr 2)))) - 1)))) (by first | (rw [nI_clamp (by omega)]; done) | (rw [nI_clamp (by omega)]; rfl)) ?_)
                refine v_aload_n g dX6_readsRow_169 7 rfl ?_
                refine v_get g dX6_readsRow_170 fl_RX6_16 (rd_M R _ _) rfl ?_
                refine v_iconst (v := 1) g dX6_readsRow_173 (by decide) ?_
                refine v_iald g dX6_readsRow_174 (rd_MA2 R _ _) (by unfold vp_in; decide) (v_eqi (y := (nI ((rowD dr k0 b0) 1))) rfl ?_)
                refine v_callS (As := [.int (nI c0), .int (nI (be1 (((11 + (4 * (dr 2))) + (be1 (8 + (dr 2)))) - 1))), .int (nI ((rowD dr k0 b0) 1))]) (r := some (.int (zB (nxtM c0 (be1 (((11 + (4 * (dr 2))) + (be1 (8 + (dr 2)))) - 1)) ((rowD dr k0 b0) 1))))) g dX6_readsRow_175 (q_isNext (a := c0) (b := (be1 (((11 + (4 * (dr 2))) + (be1 (8 + (dr 2)))) - 1))) (w := ((rowD dr k0 b0) 1)) (by omega) (by omega) (by omega) (by omega)) cl_X6_isNext ml_RX6_84 sm_X6_isNext rfl ⟨rfl, rfl, rfl⟩ ?_
                refine v_if_ne (tgt := 183) g dX6_readsRow_178 (by decide) (fun h178 => ?_) (fun h178 => ?_)
                · skip
                  have h178 := zB_t0 h178
                  refine v_aload_n g dX6_readsRow_183 7 rfl ?_
                  refine v_iload g dX6_readsRow_184 0 rfl ?_
                  refine v_callV (As := [.int (nI c0)]) (r := none) g dX6_readsRow_186 (q_stands (D := D) (p := (figM D 0 ((nI ((rowD dr k0 b0) 0)) - 1) q).2) (dr := (rowD dr k0 b0)) (be := be1) (r := (dr 2)) y2 hr (by omega) c0) cl_X6_stands ml_RX6_47 im_X6_stands (rd_M R _ _) rfl rfl ⟨rfl, rfl, rfl⟩ ?_
                  refine v_aload_n g dX6_readsRow_189 7 rfl ?_
                  refine v_aload_n g dX6_readsRow_190 7 rfl ?_
                  refine v_get g dX6_readsRow_191 fl_RX6_62 (rd_M R _ _) rfl ?_
                  refine v_eqi (y := nI ((figM D 0 ((nI ((rowD dr k0 b0) 0)) - 1) q).2)) rfl ?_
                  refine v_callV (As := [.int (nI ((figM D 0 ((nI ((rowD dr k0 b0) 0)) - 1) q).2))]) (r := some (.int (letM D ((figM D 0 ((nI ((rowD dr k0 b0) 0)) - 1) q).2)))) g dX6_readsRow_194 (q_letterAt (D := D) (p := (figM D 0 ((nI ((rowD dr k0 b0) 0)) - 1) q).2) (dr := (rowD dr k0 b0)) (be := (stM be1 (dr 2) c0)) (k := ((figM D 0 ((nI ((rowD dr k0 b0) 0)) - 1) q).2)) hk (by omega)) cl_X6_letterAt ml_RX6_65 im_X6_letterAt (rd_M R _ _) rfl rfl ⟨rfl, rfl, rfl⟩ ?_
                  refine v_istore (ls' := [(8, .int (letM D ((figM D 0 ((nI ((rowD dr k0 b0) 0)) - 1) q).2))), (7, .int (nI c0)), (6, .int (nI (be1 (8 + (dr 2))))), (5, .int 1), (4, .int (nI (dr 2))), (3, .int (nI b0)), (2, .int (nI d0)), (1, .int (nI k0)), (0, .ref R)]) g dX6_readsRow_197 rfl rfl ?_
                  refine v_aload_n g dX6_readsRow_199 8 rfl ?_
                  refine v_dup g dX6_readsRow_200 rfl ?_
                  refine v_get g dX6_readsRow_201 fl_RX6_62 (rd_M R _ _) rfl ?_
                  refine v_eqi (y := nI ((figM D 0 ((nI ((rowD dr k0 b0) 0)) - 1) q).2)) rfl ?_
                  refine v_iconst (v := 1) g dX6_readsRow_204 (by decide) ?_
                  refine v_iadd g dX6_readsRow_205 (v_eqi (y := nI (((figM D 0 ((nI ((rowD dr k0 b0) 0)) - 1) q).2) + 1)) (nI_addE rfl rfl) ?_)
                  refine v_put g dX6_readsRow_206 fl_RX6_62 (rd_M R _ _) ⟨rfl, rfl⟩ rfl ?_
                  refine v_meq (μ' := rem R (dS D (((figM D 0 ((nI ((rowD dr k0 b0) 0)) - 1) q).2) + 1) (rowD dr k0 b0) (stM be1 (dr 2) c0)) ρ) (st_GW R (dS D ((figM D 0 ((nI ((rowD dr k0 b0) 0)) - 1) q).2) (rowD dr k0 b0) (stM be1 (dr 2) c0)) (dS D (((figM D 0 ((nI ((rowD dr k0 b0) 0)) - 1) q).2) + 1) (rowD dr k0 b0) (stM be1 (dr 2) c0)) ρ (D.1.1, D.1.2.1, D.1.2.2.1, D.1.2.2.2.1, (((figM D 0 ((nI ((rowD dr k0 b0) 0)) - 1) q).2) + 1)) rfl rfl) ?_
                  refine v_iload g dX6_readsRow_209 0 rfl ?_
                  refine v_bipush (v := 44) g dX6_readsRow_211 (by decide) ?_
                  refine v_icmp_eq (tgt := 225) g dX6_readsRow_213 (by decide) (fun h213_2 => ?_) (fun h213_2 => ?_)
                  · skip
                    refine v_iload g dX6_readsRow_225 0 rfl ?_
                    refine v_bipush (v := 44) g dX6_readsRow_227 (by decide) ?_
                    refine v_icmp_ne (tgt := 236) g dX6_readsRow_229 (by decide) (fun h229_3 => ?_) (fun h229_3 => ?_)
                    · skip
                      refine v_iconst (v := 0) g dX6_readsRow_236 (by decide) ?_
                      refine v_istore (ls' := [(5, .int 0), (8, .int (letM D ((figM D 0 ((nI ((rowD dr k0 b0) 0)) - 1) q).2))), (7, .int (nI c0)), (6, .int (nI (be1 (8 + (dr 2))))), (4, .int (nI (dr 2))), (3, .int (nI b0)), (2, .int (nI d0)), (1, .int (nI k0)), (0, .ref R)]) g dX6_readsRow_237 rfl rfl ?_
                      refine v_goto (tgt := 80) g dX6_readsRow_239 (by decide) ?_
                      refine v_iload g dX6_readsRow_80 0 rfl ?_
                      refine v_if_eq (tgt := 242) g dX6_readsRow_82 (by decide) (fun _ => ?_) (fun h => absurd (by decide) h)
                      refine v_iconst (v := 1) g dX6_readsRow_242 (by decide) ?_
                      exact v_zret g E dX6_readsRow_243 rfl rfl ⟨by first | (exact absurd h213_2 h229_3) | (exact absurd h229_3 h213_2) | (rw [e0, he, rr_d hc0 e_vc (by unfold tkM; rw [if_neg h120, if_neg h133, if_neg (by rw [h142]; decide), if_neg h147, if_pos h178]) (by assumption) (by assumption)]; rfl), rfl, by first | (exact absurd h213_2 h229_3) | (exact absurd h229_3 h213_2) | (rw [e0, he, rr_d hc0 e_vc (by unfold tkM; rw [if_neg h120, if_neg h133, if_neg (by rw [h142]; decide), if_neg h147, if_pos h178]) (by assumption) (by assumption)]; done)⟩
                    · skip
                      refine v_iconst (v := 1) g dX6_readsRow_232 (by decide) ?_
                      refine v_goto (tgt := 237) g dX6_readsRow_233 (by decide) ?_
                      refine v_istore (ls' := [(5, .int 1), (8, .int (letM D ((figM D 0 ((nI ((rowD dr k0 b0) 0)) - 1) q).2))), (7, .int (nI c0)), (6, .int (nI (be1 (8 + (dr 2))))), (4, .int (nI (dr 2))), (3, .int (nI b0)), (2, .int (nI d0)), (1, .int (nI k0)), (0, .ref R)]) g dX6_readsRow_237 rfl rfl ?_
                      refine v_goto (tgt := 80) g dX6_readsRow_239 (by decide) ?_
                      refine v_sub (ls' := [(5, .int 1), (4, .int (nI (dr 2))), (3, .int (nI b0)), (2, .int (nI d0)), (1, .int (nI k0)), (0, .ref R)]) [0, 4, 5, 6, 7, 8] rfl ?_
                      first | (exact ih _ _ (by unfold stM; rw [va_up_self]; omega) (by omega) (fun r h => by unfold stM va_up; have := v3 r h; (repeat' split) <;> omega) (fun j h => by unfold stM va_up; have := v4 j h; (repeat' split) <;> omega) (by rw [he, rr_c hc0 e_vc (by unfold tkM; rw [if_neg h120, if_neg h133, if_neg (by rw [h142]; decide), if_neg h147, if_pos h178]) (by assumption)]))
                  · skip
                    refine v_iload g dX6_readsRow_216 0 rfl ?_
                    refine v_bipush (v := 59) g dX6_readsRow_218 (by decide) ?_
                    refine v_icmp_eq (tgt := 225) g dX6_readsRow_220 (by decide) (fun h220_2 => ?_) (fun h220_2 => ?_)
                    · skip
                      refine v_iload g dX6_readsRow_225 0 rfl ?_
                      refine v_bipush (v := 44) g dX6_readsRow_227 (by decide) ?_
                      refine v_icmp_ne (tgt := 236) g dX6_readsRow_229 (by decide) (fun h229_4 => ?_) (fun h229_4 => ?_)
                      · skip
                        refine v_iconst (v := 0) g dX6_readsRow_236 (by decide) ?_
                        refine v_istore (ls' := [(5, .int 0), (8, .int (letM D ((figM D 0 ((nI ((rowD dr k0 b0) 0)) - 1) q).2))), (7, .int (nI c0)), (6, .int (nI (be1 (8 + (dr 2))))), (4, .int (nI (dr 2))), (3, .int (nI b0)), (2, .int (nI d0)), (1, .int (nI k0)), (0, .ref R)]) g dX6_readsRow_237 rfl rfl ?_
                        refine v_goto (tgt := 80) g dX6_readsRow_239 (by decide) ?_
                        refine v_iload g dX6_readsRow_80 0 rfl ?_
                        refine v_if_eq (tgt := 242) g dX6_readsRow_82 (by decide) (fun _ => ?_) (fun h => absurd (by decide) h)
                        refine v_iconst (v := 1) g dX6_readsRow_242 (by decide) ?_
                        exact v_zret g E dX6_readsRow_243 rfl rfl ⟨by first | (exact absurd h213_2 h229_4) | (exact absurd h229_4 h213_2) | (rw [e0, he, rr_d hc0 e_vc (by unfold tkM; rw [if_neg h120, if_neg h133, if_neg (by rw [h142]; decide), if_neg h147, if_pos h178]) (by assumption) (by assumption)]; rfl), rfl, by first | (exact absurd h213_2 h229_4) | (exact absurd h229_4 h213_2) | (rw [e0, he, rr_d hc0 e_vc (by unfold tkM; rw [if_neg h120, if_neg h133, if_neg (by rw [h142]; decide), if_neg h147, if_pos h178]) (by assumption) (by assumption)]; done)⟩
                      · skip
                        refine v_iconst (v := 1) g dX6_readsRow_232 (by decide) ?_
                        refine v_goto (tgt := 237) g dX6_readsRow_233 (by decide) ?_
                        refine v_istore (ls' := [(5, .int 1), (8, .int (letM D ((figM D 0 ((nI ((rowD dr k0 b0) 0)) - 1) q).2))), (7, .int (nI c0)), (6, .int (nI (be1 (8 + (dr 2))))), (4, .int (nI (dr 2))), (3, .int (nI b0)), (2, .int (nI d0)), (1, .int (nI k0)), (0, .ref R)]) g dX6_readsRow_237 rfl rfl ?_
                        refine v_goto (tgt := 80) g dX6_readsRow_239 (by decide) ?_
                        refine v_sub (ls' := [(5, .int 1), (4, .int (nI (dr 2))), (3, .int (nI b0)), (2, .int (nI d0)), (1, .int (nI k0)), (0, .ref R)]) [0, 4, 5, 6, 7, 8] rfl ?_
                        first | (exact ih _ _ (by unfold stM; rw [va_up_self]; omega) (by omega) (fun r h => by unfold stM va_up; have := v3 r h; (repeat' split) <;> omega) (fun j h => by unfold stM va_up; have := v4 j h; (repeat' split) <;> omega) (by rw [he, rr_c hc0 e_vc (by unfold tkM; rw [if_neg h120, if_neg h133, if_neg (by rw [h142]; decide), if_neg h147, if_pos h178]) (by assumption)]))
                    · skip
                      refine v_iconst (v := 0) g dX6_readsRow_223 (by decide) ?_
                      exact v_zret g E dX6_readsRow_224 rfl rfl ⟨by first | (rw [e0, he, rr_e hc0 e_vc (by unfold tkM; rw [if_neg h120, if_neg h133, if_neg (by rw [h142]; decide), if_neg h147, if_pos h178]) (by assumption) (by assumption)]; rfl), rfl, by first | (rw [e0, he, rr_e hc0 e_vc (by unfold tkM; rw [if_neg h120, if_neg h133, if_neg (by rw [h142]; decide), if_neg h147, if_pos h178]) (by assumption) (by assumption)]; done)⟩
                · skip
                  have h178 := zB_f0 h178
                  refine v_iconst (v := 0) g dX6_readsRow_181 (by decide) ?_
                  exact v_zret g E dX6_readsRow_182 rfl rfl ⟨by first | (rw [e0, he, rr_b hc0 e_vc (by unfold tkM; rw [if_neg h120, if_neg h133, if_neg (by rw [h142]; decide), if_neg h147, if_neg (by rw [h178]; decide)])]; rfl), rfl, by first | (rw [e0, he, rr_b hc0 e_vc (by unfold tkM; rw [if_neg h120, if_neg h133, if_neg (by rw [h142]; decide), if_neg h147, if_neg (by rw [h178]; decide)])]; done)⟩
  refine v_sub (ls' := [(0, .ref R)]) [0] rfl ?_
  refine v_aload_n g dX6_readsRow_0 0 rfl ?_
  refine v_iconst (v := 0) g dX6_readsRow_1 (by decide) ?_
  refine v_iconst (v := 3) g dX6_readsRow_2 (by decide) ?_
  refine v_bipush (v := 44) g dX6_readsRow_3 (by decide) ?_
  refine v_callV (As := [.int 0, .int 3, .int 44]) (r := some (.int ((numM D 0 3 44 p).1))) g dX6_readsRow_5 (q_number (D := D) (p := p) (dr := dr) (be := be) hk (by omega) 0 3 44) cl_X6_number ml_RX6_77 im_X6_number (rd_M R _ _) rfl rfl ⟨rfl, rfl, rfl⟩ ?_
  refine v_topi (fun vk e_vk => ?_)
  refine v_istore_n (ls' := [(1, .int vk), (0, .ref R)]) g dX6_readsRow_8 rfl rfl ?_
  refine v_iload_n g dX6_readsRow_9 0 rfl ?_
  refine v_if_ge (tgt := 17) g dX6_readsRow_10 (by decide) (fun h10 => ?_) (fun h10 => ?_)
  · skip
    obtain ⟨k0, hk0, ek0, wk0⟩ := num_nn' e_vk h10
    subst ek0
    have a2 := num_at D 0 3 44 (numM D 0 3 44 p).2
    refine v_aload_n g dX6_readsRow_17 1 rfl ?_
    refine v_iconst (v := 0) g dX6_readsRow_18 (by decide) ?_
    refine v_iconst (v := 3) g dX6_readsRow_19 (by decide) ?_
    refine v_bipush (v := 44) g dX6_readsRow_20 (by decide) ?_
    refine v_callV (As := [.int 0, .int 3, .int 44]) (r := some (.int ((numM D 0 3 44 ((numM D 0 3 44 p).2)).1))) g dX6_readsRow_22 (q_number (D := D) (p := (numM D 0 3 44 p).2) (dr := dr) (be := be) hk (by omega) 0 3 44) cl_X6_number ml_RX6_77 im_X6_number (rd_M R _ _) rfl rfl ⟨rfl, rfl, rfl⟩ ?_
    refine v_topi (fun vd e_vd => ?_)
    refine v_istore_n (ls' := [(2, .int vd), (1, .int (nI k0)), (0, .ref R)]) g dX6_readsRow_25 rfl rfl ?_
    refine v_iload_n g dX6_readsRow_26 0 rfl ?_
    refine v_if_ge (tgt := 34) g dX6_readsRow_27 (by decide) (fun h27 => ?_) (fun h27 => ?_)
    · skip
      obtain ⟨d0, hd0, ed0, wd0⟩ := num_nn' e_vd h27
      subst ed0
      have a3 := num_at D 0 9 44 (numM D 0 3 44 (numM D 0 3 44 p).2).2
      refine v_aload_n g dX6_readsRow_34 2 rfl ?_
      refine v_iconst (v := 0) g dX6_readsRow_35 (by decide) ?_
      refine v_bipush (v := 9) g dX6_readsRow_36 (by decide) ?_
      refine v_bipush (v := 44) g dX6_readsRow_38 (by decide) ?_
      refine v_callV (As := [.int 0, .int 9, .int 44]) (r := some (.int ((numM D 0 9 44 ((numM D 0 3 44 ((numM D 0 3 44 p).2)).2)).1))) g dX6_readsRow_40 (q_number (D := D) (p := (numM D 0 3 44 ((numM D 0 3 44 p).2)).2) (dr := dr) (be := be) hk (by omega) 0 9 44) cl_X6_number ml_RX6_77 im_X6_number (rd_M R _ _) rfl rfl ⟨rfl, rfl, rfl⟩ ?_
      refine v_topi (fun vb e_vb => ?_)
      refine v_istore_n (ls' := [(3, .int vb), (2, .int (nI d0)), (1, .int (nI k0)), (0, .ref R)]) g dX6_readsRow_43 rfl rfl ?_
      refine v_iload_n g dX6_readsRow_44 0 rfl ?_
      refine v_if_lt (tgt := 58) g dX6_readsRow_45 (by decide) (fun h45 => ?_) (fun h45 => ?_)
      · skip
        refine v_iconst (v := 0) g dX6_readsRow_58 (by decide) ?_
        exact v_zret g E dX6_readsRow_59 rfl rfl ⟨by rw [rw_2 hk0 e_vk hd0 e_vd (by rw [← e_vb]; exact h45)]; rfl, rfl, by rw [rw_2 hk0 e_vk hd0 e_vd (by rw [← e_vb]; exact h45)]⟩
      · skip
        obtain ⟨b0, hb0, eb0, wb0⟩ := num_nn2 e_vb h45
        subst eb0
        refine v_aload_n g dX6_readsRow_48 3 rfl ?_
        refine v_get g dX6_readsRow_49 fl_RX6_16 (rd_M R _ _) rfl ?_
        refine v_iconst (v := 2) g dX6_readsRow_52 (by decide) ?_
        refine v_iald g dX6_readsRow_53 (rd_MA2 R _ _) (by unfold vp_in; decide) (v_eqi (y := (nI (dr 2))) rfl ?_)
        refine v_iconst (v := 3) g dX6_readsRow_54 (by decide) ?_
        refine v_icmp_ne (tgt := 60) g dX6_readsRow_55 (by decide) (fun h55 => ?_) (fun h55 => ?_)
        · skip
          have h55n : ¬ dr 2 = 3 := fun z => h55 (by rw [z]; rfl)
          have hr2 : dr 2 < 3 := by omega
          obtain ⟨y0, y1, y2⟩ := rowD_at dr k0 b0 hr2
          refine v_aload_n g dX6_readsRow_60 3 rfl ?_
          refine v_iload_n g dX6_readsRow_61 2 rfl ?_
          refine v_iload_n g dX6_readsRow_62 1 rfl ?_
          refine v_iload_n g dX6_readsRow_63 0 rfl ?_
          refine v_callV (As := [.int (nI k0), .int (nI d0), .int (nI b0)]) (r := none) g dX6_readsRow_64 (q_rowOf (D := D) (p := (numM D 0 9 44 ((numM D 0 3 44 ((numM D 0 3 44 p).2)).2)).2) (dr := dr) (be := be) hr2 k0 d0 b0) cl_X6_rowOf ml_RX6_44 im_X6_rowOf (rd_M R _ _) rfl rfl ⟨rfl, rfl, rfl⟩ ?_
          refine v_aload_n g dX6_readsRow_67 3 rfl ?_
          refine v_get g dX6_readsRow_68 fl_RX6_16 (rd_M R _ _) rfl ?_
          refine v_iconst (v := 2) g dX6_readsRow_71 (by decide) ?_
          refine v_iald g dX6_readsRow_72 (rd_MA2 R _ _) (by unfold vp_in; decide) (v_eqi (y := (nI ((rowD dr k0 b0) 2))) rfl ?_)
          refine v_iconst (v := 1) g dX6_readsRow_73 (by decide) ?_
          refine v_isub g dX6_readsRow_74 ?_
          refine v_eqi (y := nI (dr 2)) (by rw [y2]; exact nI_pred (dr 2)) ?_
          refine v_istore (ls' := [(4, .int (nI (dr 2))), (3, .int (nI b0)), (2, .int (nI d0)), (1, .int (nI k0)), (0, .ref R)]) g dX6_readsRow_75 rfl rfl ?_
          refine v_iconst (v := 1) g dX6_readsRow_77 (by decide) ?_
          refine v_istore (ls' := [(5, .int 1), (4, .int (nI (dr 2))), (3, .int (nI b0)), (2, .int (nI d0)), (1, .int (nI k0)), (0, .ref R)]) g dX6_readsRow_78 rfl rfl ?_
          refine v_sub (ls' := [(5, .int 1), (4, .int (nI (dr 2))), (3, .int (nI b0)), (2, .int (nI d0)), (1, .int (nI k0)), (0, .ref R)]) [0, 1, 2, 3, 4, 5] rfl ?_
          exact loop k0 d0 b0 _ hr2 (rw_4 hk0 e_vk hd0 e_vd hb0 e_vb h55n) 5 _ _ (by unfold rowB; rw [va_up_ne _ _ (by omega), w6 _ (Nat.le_refl _) hr2]) (by omega) (fun r h => by unfold rowB; rw [va_up_ne _ _ (by omega)]; exact w3 r h) (fun j h => by unfold rowB; rw [va_up_ne _ _ (by omega)]; exact w4 j h) rfl
        · skip
          refine v_iconst (v := 0) g dX6_readsRow_58 (by decide) ?_
          exact v_zret g E dX6_readsRow_59 rfl rfl ⟨by rw [rw_3 hk0 e_vk hd0 e_vd hb0 e_vb ((nI_eq (b := 3) (by omega) (by decide)).mp h55)]; rfl, rfl, by rw [rw_3 hk0 e_vk hd0 e_vd hb0 e_vb ((nI_eq (b := 3) (by omega) (by decide)).mp h55)]⟩
    · skip
      refine v_iconst (v := (-1)) g dX6_readsRow_30 (by decide) ?_
      refine v_goto (tgt := 43) g dX6_readsRow_31 (by decide) ?_
      refine v_istore_n (ls' := [(3, .int (-1)), (2, .int vd), (1, .int (nI k0)), (0, .ref R)]) g dX6_readsRow_43 rfl rfl ?_
      refine v_iload_n g dX6_readsRow_44 0 rfl ?_
      refine v_if_lt (tgt := 58) g dX6_readsRow_45 (by decide) (fun _ => ?_) (fun h => absurd (by decide) h)
      refine v_iconst (v := 0) g dX6_readsRow_58 (by decide) ?_
      exact v_zret g E dX6_readsRow_59 rfl rfl ⟨by rw [rw_1 hk0 e_vk (by rw [← e_vd]; exact Int32.not_le.mp h27)]; rfl, rfl, by rw [rw_1 hk0 e_vk (by rw [← e_vd]; exact Int32.not_le.mp h27)]⟩
  · skip
    refine v_iconst (v := (-1)) g dX6_readsRow_13 (by decide) ?_
    refine v_goto (tgt := 25) g dX6_readsRow_14 (by decide) ?_
    refine v_istore_n (ls' := [(2, .int (-1)), (1, .int vk), (0, .ref R)]) g dX6_readsRow_25 rfl rfl ?_
    refine v_iload_n g dX6_readsRow_26 0 rfl ?_
    refine v_if_ge (tgt := 34) g dX6_readsRow_27 (by decide) (fun h => absurd h (by decide)) (fun _ => ?_)
    refine v_iconst (v := (-1)) g dX6_readsRow_30 (by decide) ?_
    refine v_goto (tgt := 43) g dX6_readsRow_31 (by decide) ?_
    refine v_istore_n (ls' := [(3, .int (-1)), (2, .int (-1)), (1, .int vk), (0, .ref R)]) g dX6_readsRow_43 rfl rfl ?_
    refine v_iload_n g dX6_readsRow_44 0 rfl ?_
    refine v_if_lt (tgt := 58) g dX6_readsRow_45 (by decide) (fun _ => ?_) (fun h => absurd (by decide) h)
    refine v_iconst (v := 0) g dX6_readsRow_58 (by decide) ?_
    exact v_zret g E dX6_readsRow_59 rfl rfl ⟨by rw [rw_0 (by rw [← e_vk]; exact Int32.not_le.mp h10)]; rfl, rfl, by rw [rw_0 (by rw [← e_vk]; exact Int32.not_le.mp h10)]⟩
end R14
