/-! THE REFERENCE: its state is plain naturals; `rem` lays it out as memory, from the address R on -/
theorem nI_addE {x y : Int32} {a b : Nat} (hx : x = nI a) (hy : y = nI b) : x + y = nI (a + b) := by rw [hx, hy, nI_add]
theorem nI_mulE {x y : Int32} {a b : Nat} (hx : x = nI a) (hy : y = nI b) : x * y = nI (a * b) := by rw [hx, hy]; exact (Int32.ofNat_mul a b).symm
theorem nI_subE {x y : Int32} {a b : Nat} (hx : x = nI a) (hy : y = nI b) (h : b ≤ a) : x - y = nI (a - b) := by
  rw [hx, hy]
  have e : nI a = nI (a - b) + nI b := by rw [nI_add, Nat.sub_add_cancel h]
  rw [e, Int32.add_sub_cancel]
/-- scalars: typed, known, kept, noted, at; arrays: 0 text, 1 told, 2 draft, 3 begun, 4 s, 5 past, 6 images, 7 notes, 8 aside -/
abbrev MS : Type := (Nat × Nat × Nat × Nat × Nat) × (Nat → Nat → Nat)
def mLen (k : Nat) : Nat := if k = 0 then 200 else if k = 1 then 81 else if k = 2 then 81 else if k = 3 then 59 else if k = 4 then 59 else if k = 5 then 472 else if k = 6 then 118 else if k = 7 then 18 else 59
def nA (f : Nat → Nat) : Nat → Int32 := fun j => nI (f j)
theorem nA_up (f : Nat → Nat) (i x : Nat) : upd (nA f) i (nI x) = nA (va_up f i x) := by
  funext j
  show (if j = i then nI x else nI (f j)) = nI (if j = i then x else f j)
  split <;> rfl
def objM (R : Nat) (w : Nat × Nat × Nat × Nat × Nat) : Ce := .inr (6, [.ref (R + 1), .int (nI w.1), .ref (R + 2), .ref (R + 3), .ref (R + 4), .ref (R + 5), .ref (R + 6), .int (nI w.2.1), .ref (R + 7), .int (nI w.2.2.1), .ref (R + 8), .int (nI w.2.2.2.1), .int (nI w.2.2.2.2), .ref (R + 9)])
def arrM (D : MS) (k : Nat) : Ce := .inl (0, mLen k, .inl (nA (D.2 k)))
def rem (R : Nat) (D : MS) (ρ : Mu) : Mu := fun a => if a = R then some (objM R D.1) else if R < a ∧ a < R + 10 then some (arrM D (a - R - 1)) else ρ a
def tW (D : MS) (w : Nat × Nat × Nat × Nat × Nat) : MS := (w, D.2)
def tA (D : MS) (k : Nat) (f : Nat → Nat) : MS := (D.1, va_up D.2 k f)
theorem rd_M (R : Nat) (D : MS) (ρ : Mu) : rem R D ρ R = some (objM R D.1) := if_pos rfl
theorem rd_MA (R : Nat) (D : MS) (ρ : Mu) (k : Nat) (hk : k < 9) : rem R D ρ (R + (k + 1)) = some (arrM D k) := by
  unfold rem
  rw [if_neg (by omega), if_pos (by omega), show R + (k + 1) - R - 1 = k by omega]
theorem rd_MA0 (R : Nat) (D : MS) (ρ : Mu) : rem R D ρ (R + 1) = some (.inl (0, 200, .inl (nA (D.2 0)))) := rd_MA R D ρ 0 (by decide)
theorem rd_MA1 (R : Nat) (D : MS) (ρ : Mu) : rem R D ρ (R + 2) = some (.inl (0, 81, .inl (nA (D.2 1)))) := rd_MA R D ρ 1 (by decide)
theorem rd_MA2 (R : Nat) (D : MS) (ρ : Mu) : rem R D ρ (R + 3) = some (.inl (0, 81, .inl (nA (D.2 2)))) := rd_MA R D ρ 2 (by decide)
theorem rd_MA3 (R : Nat) (D : MS) (ρ : Mu) : rem R D ρ (R + 4) = some (.inl (0, 59, .inl (nA (D.2 3)))) := rd_MA R D ρ 3 (by decide)
theorem rd_MA4 (R : Nat) (D : MS) (ρ : Mu) : rem R D ρ (R + 5) = some (.inl (0, 59, .inl (nA (D.2 4)))) := rd_MA R D ρ 4 (by decide)
theorem rd_MA5 (R : Nat) (D : MS) (ρ : Mu) : rem R D ρ (R + 6) = some (.inl (0, 472, .inl (nA (D.2 5)))) := rd_MA R D ρ 5 (by decide)
theorem rd_MA6 (R : Nat) (D : MS) (ρ : Mu) : rem R D ρ (R + 7) = some (.inl (0, 118, .inl (nA (D.2 6)))) := rd_MA R D ρ 6 (by decide)
theorem rd_MA7 (R : Nat) (D : MS) (ρ : Mu) : rem R D ρ (R + 8) = some (.inl (0, 18, .inl (nA (D.2 7)))) := rd_MA R D ρ 7 (by decide)
theorem rd_MA8 (R : Nat) (D : MS) (ρ : Mu) : rem R D ρ (R + 9) = some (.inl (0, 59, .inl (nA (D.2 8)))) := rd_MA R D ρ 8 (by decide)
theorem st_MW (R : Nat) (D : MS) (ρ : Mu) (w : Nat × Nat × Nat × Nat × Nat) : mset (rem R D ρ) R (objM R w) = rem R (tW D w) ρ := by
  funext a
  by_cases h : a = R
  · subst h; rw [mset_self, rd_M]; rfl
  · rw [mset_ne _ _ h]
    unfold rem
    rw [if_neg h, if_neg h]
    rfl
theorem st_MA (R : Nat) (D : MS) (ρ : Mu) (k : Nat) (hk : k < 9) (i x : Nat) : mset (rem R D ρ) (R + (k + 1)) (.inl (0, mLen k, .inl (upd (nA (D.2 k)) i (nI x)))) = rem R (tA D k (va_up (D.2 k) i x)) ρ := by
  funext a
  by_cases h : a = R + (k + 1)
  · subst h
    rw [mset_self, rd_MA R _ ρ k hk, nA_up]
    unfold arrM tA
    show _ = some (Sum.inl (0, mLen k, Sum.inl (nA (va_up D.2 k (va_up (D.2 k) i x) k))))
    rw [va_up_self]
  · rw [mset_ne _ _ h]
    unfold rem
    by_cases h1 : a = R
    · rw [if_pos h1, if_pos h1]; rfl
    · rw [if_neg h1, if_neg h1]
      by_cases h2 : R < a ∧ a < R + 10
      · rw [if_pos h2, if_pos h2]
        unfold arrM tA
        show _ = some (Sum.inl (0, mLen (a - R - 1), Sum.inl (nA (va_up D.2 k (va_up (D.2 k) i x) (a - R - 1)))))
        rw [va_up_ne _ _ (by omega)]
      · rw [if_neg h2, if_neg h2]
section R1
variable {l : Launch} {G : GG} {n : Nat} {R : Nat} {D : MS} {ρ : Mu}
theorem k_X6_in (v lo hi : Int32) : Ctr l G 0 0 0 0 mX6_in [.int v, .int lo, .int hi] n (rem R D ρ) (some (.int (zB (withinC v lo hi)))) n (rem R D ρ) := by
  refine Ctr.of (by decide +kernel) rfl (fun X g E => ?_)
  refine v_sub (ls' := [(0, .int v), (1, .int lo), (2, .int hi)]) [0, 1, 2] rfl ?_
  refine v_iload_n g dX6_in_0 0 rfl ?_
  refine v_iload_n g dX6_in_1 1 rfl ?_
  refine v_icmp_lt (tgt := 14) g dX6_in_2 (by decide) (fun h2 => ?_) (fun h2 => ?_)
  · skip
    refine v_iconst (v := 0) g dX6_in_14 (by decide) ?_
    exact v_zret g E dX6_in_15 rfl rfl ⟨by simp [withinC, zB, *], rfl, rfl⟩
  · skip
    refine v_iload_n g dX6_in_5 0 rfl ?_
    refine v_iload_n g dX6_in_6 2 rfl ?_
    refine v_icmp_gt (tgt := 14) g dX6_in_7 (by decide) (fun h7 => ?_) (fun h7 => ?_)
    · skip
      refine v_iconst (v := 0) g dX6_in_14 (by decide) ?_
      exact v_zret g E dX6_in_15 rfl rfl ⟨by simp [withinC, zB, *], rfl, rfl⟩
    · skip
      refine v_iconst (v := 1) g dX6_in_10 (by decide) ?_
      refine v_goto (tgt := 15) g dX6_in_11 (by decide) ?_
      exact v_zret g E dX6_in_15 rfl rfl ⟨by simp [withinC, zB, *], rfl, rfl⟩
def isCellM (D : MS) (x : Int32) : Bool := withinC x 0 (nI (D.2 1 0) - 1)
def isRowM (D : MS) (r : Int32) : Bool := withinC r 0 (nI (D.2 1 2) - 1)
def isFigM (v : Int32) : Bool := withinC v 48 57
def letM (D : MS) (k : Nat) : Int32 := if nI D.1.1 ≤ nI k then -1 else nI (D.2 0 k)
theorem k_X6_isCell (x : Int32) : Ctr l G 1 22 0 0 mX6_isCell [.ref R, .int x] n (rem R D ρ) (some (.int (zB (isCellM D x)))) n (rem R D ρ) := by
  refine Ctr.of (by decide +kernel) rfl (fun X g E => ?_)
  refine v_sub (ls' := [(0, .ref R), (1, .int x)]) [0, 1] rfl ?_
  refine v_iload_n g dX6_isCell_0 1 rfl ?_
  refine v_iconst (v := 0) g dX6_isCell_1 (by decide) ?_
  refine v_aload_n g dX6_isCell_2 0 rfl ?_
  refine v_get g dX6_isCell_3 fl_RX6_13 (rd_M R _ _) rfl ?_
  refine v_iconst (v := 0) g dX6_isCell_6 (by decide) ?_
  refine v_iald g dX6_isCell_7 (rd_MA1 R _ _) (by unfold vp_in; decide) (v_eqi (y := (nI ((D.2 1) 0))) rfl ?_)
  refine v_iconst (v := 1) g dX6_isCell_8 (by decide) ?_
  refine v_isub g dX6_isCell_9 ?_
  refine v_callS (As := [.int x, .int 0, .int ((nI ((D.2 1) 0)) - 1)]) (r := some (.int (zB (withinC x 0 ((nI ((D.2 1) 0)) - 1))))) g dX6_isCell_10 (k_X6_in x 0 ((nI ((D.2 1) 0)) - 1)) cl_X6_in ml_RX6_54 sm_X6_in rfl ⟨rfl, rfl, rfl⟩ ?_
  exact v_zret g E dX6_isCell_13 rfl (zB_nar _) ⟨by rfl, rfl, rfl⟩
theorem k_X6_isRow (r : Int32) : Ctr l G 1 22 0 0 mX6_isRow [.ref R, .int r] n (rem R D ρ) (some (.int (zB (isRowM D r)))) n (rem R D ρ) := by
  refine Ctr.of (by decide +kernel) rfl (fun X g E => ?_)
  refine v_sub (ls' := [(0, .ref R), (1, .int r)]) [0, 1] rfl ?_
  refine v_iload_n g dX6_isRow_0 1 rfl ?_
  refine v_iconst (v := 0) g dX6_isRow_1 (by decide) ?_
  refine v_aload_n g dX6_isRow_2 0 rfl ?_
  refine v_get g dX6_isRow_3 fl_RX6_13 (rd_M R _ _) rfl ?_
  refine v_iconst (v := 2) g dX6_isRow_6 (by decide) ?_
  refine v_iald g dX6_isRow_7 (rd_MA1 R _ _) (by unfold vp_in; decide) (v_eqi (y := (nI ((D.2 1) 2))) rfl ?_)
  refine v_iconst (v := 1) g dX6_isRow_8 (by decide) ?_
  refine v_isub g dX6_isRow_9 ?_
  refine v_callS (As := [.int r, .int 0, .int ((nI ((D.2 1) 2)) - 1)]) (r := some (.int (zB (withinC r 0 ((nI ((D.2 1) 2)) - 1))))) g dX6_isRow_10 (k_X6_in r 0 ((nI ((D.2 1) 2)) - 1)) cl_X6_in ml_RX6_54 sm_X6_in rfl ⟨rfl, rfl, rfl⟩ ?_
  exact v_zret g E dX6_isRow_13 rfl (zB_nar _) ⟨by rfl, rfl, rfl⟩
theorem k_X6_isFigure (v : Int32) : Ctr l G 1 22 0 0 mX6_isFigure [.int v] n (rem R D ρ) (some (.int (zB (isFigM v)))) n (rem R D ρ) := by
  refine Ctr.of (by decide +kernel) rfl (fun X g E => ?_)
  refine v_sub (ls' := [(0, .int v)]) [0] rfl ?_
  refine v_iload_n g dX6_isFigure_0 0 rfl ?_
  refine v_bipush (v := 48) g dX6_isFigure_1 (by decide) ?_
  refine v_bipush (v := 57) g dX6_isFigure_3 (by decide) ?_
  refine v_callS (As := [.int v, .int 48, .int 57]) (r := some (.int (zB (withinC v 48 57)))) g dX6_isFigure_5 (k_X6_in v 48 57) cl_X6_in ml_RX6_54 sm_X6_in rfl ⟨rfl, rfl, rfl⟩ ?_
  exact v_zret g E dX6_isFigure_8 rfl (zB_nar _) ⟨by rfl, rfl, rfl⟩
theorem k_X6_letterAt {k : Nat} (hk : D.1.1 ≤ 200) (h2 : k < 2 ^ 31) : Ctr l G 0 0 0 0 mX6_letterAt [.ref R, .int (nI k)] n (rem R D ρ) (some (.int (letM D k))) n (rem R D ρ) := by
  refine Ctr.of (by decide +kernel) rfl (fun X g E => ?_)
  refine v_sub (ls' := [(0, .ref R), (1, .int (nI k))]) [0, 1] rfl ?_
  refine v_iload_n g dX6_letterAt_0 1 rfl ?_
  refine v_aload_n g dX6_letterAt_1 0 rfl ?_
  refine v_get g dX6_letterAt_2 fl_RX6_58 (rd_M R _ _) rfl ?_
  refine v_eqi (y := nI D.1.1) rfl ?_
  refine v_icmp_ge (tgt := 17) g dX6_letterAt_5 (by decide) (fun h5 => ?_) (fun h5 => ?_)
  · skip
    refine v_iconst (v := (-1)) g dX6_letterAt_17 (by decide) ?_
    exact v_iret g E dX6_letterAt_18 rfl ⟨by simp [letM, *], rfl, rfl⟩
  · skip
    have h5n : k < D.1.1 := by rcases Nat.lt_or_ge k D.1.1 with q | q; exact q; exact absurd (nI_le q h2) h5
    refine v_aload_n g dX6_letterAt_8 0 rfl ?_
    refine v_get g dX6_letterAt_9 fl_RX6_7 (rd_M R _ _) rfl ?_
    refine v_iload_n g dX6_letterAt_12 1 rfl ?_
    refine v_iald g dX6_letterAt_13 (rd_MA0 R _ _) (vp_in_nI (by omega) (by decide)) (v_eqi (y := (nI ((D.2 0) k))) (by first | (rw [nI_clamp (by omega)]; done) | (rw [nI_clamp (by omega)]; rfl)) ?_)
    refine v_goto (tgt := 18) g dX6_letterAt_14 (by decide) ?_
    exact v_iret g E dX6_letterAt_18 rfl ⟨by simp [letM, *], rfl, rfl⟩
def writeM (D : MS) (x : Int32) : Int32 × MS := if withinC x 32 126 = false then (-1, D) else if D.1.1 = 200 then (-3, D) else (nI (D.1.1 + 1), tW (tA D 0 (va_up (D.2 0) D.1.1 x.toNatClampNeg)) (D.1.1 + 1, D.1.2))
def wipeM (D : MS) : Int32 × MS := (nI D.1.1, tW D (0, D.1.2))
theorem k_X6_write (hk : D.1.1 ≤ 200) (x : Int32) : Ctr l G 1 22 0 0 mX6_write [.ref R, .int x] n (rem R D ρ) (some (.int (writeM D x).1)) n (rem R (writeM D x).2 ρ) := by
  refine Ctr.of (by decide +kernel) rfl (fun X g E => ?_)
  refine v_sub (ls' := [(0, .ref R), (1, .int x)]) [0, 1] rfl ?_
  refine v_iload_n g dX6_write_0 1 rfl ?_
  refine v_bipush (v := 32) g dX6_write_1 (by decide) ?_
  refine v_bipush (v := 126) g dX6_write_3 (by decide) ?_
  refine v_callS (As := [.int x, .int 32, .int 126]) (r := some (.int (zB (withinC x 32 126)))) g dX6_write_5 (k_X6_in x 32 126) cl_X6_in ml_RX6_54 sm_X6_in rfl ⟨rfl, rfl, rfl⟩ ?_
  refine v_if_ne (tgt := 13) g dX6_write_8 (by decide) (fun h8 => ?_) (fun h8 => ?_)
  · skip
    have h8 := zB_t0 h8
    obtain ⟨m, hm1_m, hm2_m, em_m⟩ := within_nI (a := 32) (b := 126) rfl rfl h8
    subst em_m
    refine v_aload_n g dX6_write_13 0 rfl ?_
    refine v_get g dX6_write_14 fl_RX6_58 (rd_M R _ _) rfl ?_
    refine v_eqi (y := nI D.1.1) rfl ?_
    refine v_sipush (v := 200) g dX6_write_17 (by decide) ?_
    refine v_icmp_ne (tgt := 26) g dX6_write_20 (by decide) (fun h20 => ?_) (fun h20 => ?_)
    · skip
      have h20n : ¬ D.1.1 = 200 := fun q => h20 (by rw [q]; rfl)
      refine v_aload_n g dX6_write_26 0 rfl ?_
      refine v_get g dX6_write_27 fl_RX6_7 (rd_M R _ _) rfl ?_
      refine v_aload_n g dX6_write_30 0 rfl ?_
      refine v_get g dX6_write_31 fl_RX6_58 (rd_M R _ _) rfl ?_
      refine v_eqi (y := nI D.1.1) rfl ?_
      refine v_iload_n g dX6_write_34 1 rfl ?_
      refine v_iast g dX6_write_35 (rd_MA0 R _ _) (vp_in_nI (by omega) (by decide)) ?_
      rw [nI_clamp (n := D.1.1) (by omega)]
      refine v_meq (μ' := rem R (tA D 0 (va_up (D.2 0) D.1.1 m)) ρ) (st_MA R _ ρ 0 (by decide) D.1.1 m) ?_
      refine v_aload_n g dX6_write_36 0 rfl ?_
      refine v_dup g dX6_write_37 rfl ?_
      refine v_get g dX6_write_38 fl_RX6_58 (rd_M R _ _) rfl ?_
      refine v_eqi (y := nI D.1.1) rfl ?_
      refine v_iconst (v := 1) g dX6_write_41 (by decide) ?_
      refine v_iadd g dX6_write_42 (v_eqi (y := nI (D.1.1 + 1)) (nI_addE rfl rfl) ?_)
      refine v_put g dX6_write_43 fl_RX6_58 (rd_M R _ _) ⟨rfl, rfl⟩ rfl ?_
      refine v_meq (μ' := rem R (tW (tA D 0 (va_up (D.2 0) D.1.1 m)) ((D.1.1 + 1), D.1.2.1, D.1.2.2.1, D.1.2.2.2.1, D.1.2.2.2.2)) ρ) (st_MW R _ ρ ((D.1.1 + 1), D.1.2.1, D.1.2.2.1, D.1.2.2.2.1, D.1.2.2.2.2)) ?_
      refine v_aload_n g dX6_write_46 0 rfl ?_
      refine v_get g dX6_write_47 fl_RX6_58 (rd_M R _ _) rfl ?_
      refine v_eqi (y := nI (D.1.1 + 1)) rfl ?_
      exact v_iret g E dX6_write_50 rfl ⟨by first | (simp [writeM, *]; done) | (simp [writeM, h8, nI_clamp (show m < 2 ^ 31 by omega), h20n]; done) | (simp [writeM, h8, h20n]; done), rfl, by first | (simp [writeM, *]; done) | (simp [writeM, h8, nI_clamp (show m < 2 ^ 31 by omega), h20n]; done) | (simp [writeM, h8, h20n]; done)⟩
    · skip
      have h20n : D.1.1 = 200 := (nI_eq (b := 200) (by omega) (by decide)).mp h20
      refine v_bipush (v := (-3)) g dX6_write_23 (by decide) ?_
      exact v_iret g E dX6_write_25 rfl ⟨by first | (simp [writeM, *]; done) | (simp [writeM, h8, nI_clamp (show m < 2 ^ 31 by omega), h20n]; done) | (simp [writeM, h8, h20n]; done), rfl, by first | (simp [writeM, *]; done) | (simp [writeM, h8, nI_clamp (show m < 2 ^ 31 by omega), h20n]; done) | (simp [writeM, h8, h20n]; done)⟩
  · skip
    have h8 := zB_f0 h8
    refine v_iconst (v := (-1)) g dX6_write_11 (by decide) ?_
    exact v_iret g E dX6_write_12 rfl ⟨by first | (simp [writeM, *]; done) | (simp [writeM, h8, nI_clamp (show m < 2 ^ 31 by omega), h20n]; done) | (simp [writeM, h8, h20n]; done), rfl, by first | (simp [writeM, *]; done) | (simp [writeM, h8, nI_clamp (show m < 2 ^ 31 by omega), h20n]; done) | (simp [writeM, h8, h20n]; done)⟩
theorem k_X6_wipe  : Ctr l G 0 0 0 0 mX6_wipe [.ref R] n (rem R D ρ) (some (.int (wipeM D).1)) n (rem R (wipeM D).2 ρ) := by
  refine Ctr.of (by decide +kernel) rfl (fun X g E => ?_)
  refine v_sub (ls' := [(0, .ref R)]) [0] rfl ?_
  refine v_aload_n g dX6_wipe_0 0 rfl ?_
  refine v_get g dX6_wipe_1 fl_RX6_58 (rd_M R _ _) rfl ?_
  refine v_eqi (y := nI D.1.1) rfl ?_
  refine v_istore_n (ls' := [(1, .int (nI D.1.1)), (0, .ref R)]) g dX6_wipe_4 rfl rfl ?_
  refine v_aload_n g dX6_wipe_5 1 rfl ?_
  refine v_iconst (v := 0) g dX6_wipe_6 (by decide) ?_
  refine v_put g dX6_wipe_7 fl_RX6_58 (rd_M R _ _) ⟨rfl, rfl⟩ rfl ?_
  refine v_meq (μ' := rem R (tW D (0, D.1.2.1, D.1.2.2.1, D.1.2.2.2.1, D.1.2.2.2.2)) ρ) (st_MW R _ ρ (0, D.1.2.1, D.1.2.2.1, D.1.2.2.2.1, D.1.2.2.2.2)) ?_
  refine v_iload_n g dX6_wipe_10 0 rfl ?_
  exact v_iret g E dX6_wipe_11 rfl ⟨by rfl, rfl, rfl⟩
end R1
