/-! THE REFERENCE: its constructor -/
theorem dfX6 : ∀ j, j < 14 → defaultValue (tyX6 j) = vp_V [.null, .int 0, .null, .null, .null, .null, .null, .int 0, .null, .int 0, .null, .int 0, .int 0, .null] j := fun j h => match j, h with
  | 0, _ => rfl
  | 1, _ => rfl
  | 2, _ => rfl
  | 3, _ => rfl
  | 4, _ => rfl
  | 5, _ => rfl
  | 6, _ => rfl
  | 7, _ => rfl
  | 8, _ => rfl
  | 9, _ => rfl
  | 10, _ => rfl
  | 11, _ => rfl
  | 12, _ => rfl
  | 13, _ => rfl
  | j + 14, h => absurd h (by omega)
theorem v_rem {X : CX} {a b n : Nat} {μ μ0 : Mu} {pc : Nat} {ls : List (Nat × Value)} {st : List Value} {o : Nat} {D : MS} (h0 : μ o = some (objM o D.1)) (h1 : ∀ k, k < 9 → μ (o + (k + 1)) = some (arrM D k)) (h2 : ∀ q, ¬ (o ≤ q ∧ q < o + 10) → μ q = μ0 q) (k : V X a b n (rem o D μ0) pc ls st) : V X a b n μ pc ls st := by
  refine v_mem (fun q e hq => ?_) k
  unfold rem at hq
  by_cases a1 : q = o
  · rw [if_pos a1] at hq
    rw [a1, h0]; exact hq
  · rw [if_neg a1] at hq
    by_cases a2 : o < q ∧ q < o + 10
    · rw [if_pos a2] at hq
      have := h1 (q - o - 1) (by omega)
      rw [show o + (q - o - 1 + 1) = q by omega] at this
      rw [this]; exact hq
    · rw [if_neg a2] at hq
      rw [h2 q (by omega)]; exact hq
def zM : MS := ((0, 0, 0, 0, 0), fun _ _ => 0)
def dI0 : Nat → Nat := ownsM (ownsM (ownsM (va_up (va_up (va_up (va_up (va_up (va_up (va_up (va_up (zrM 81 (zM.2 2)) 0 30) 1 6) 6 1) 12 1) 16 2) 18 1) 19 1) 28 3) 0 2 1) 18 23 2) 24 29 3
def dI1 : Nat → Nat := rowD dI0 0 3
def bI1 : Nat → Nat := stM (stM (rowB dI0 (zrM 59 (zM.2 3)) 1) 0 7) 0 6
def dI2 : Nat → Nat := rowD dI1 1 2
def bI2 : Nat → Nat := stM (stM (stM (rowB dI1 bI1 0) 1 28) 1 27) 1 26
def dI3 : Nat → Nat := rowD dI2 3 5
def bI3 : Nat → Nat := stM (rowB dI2 bI2 2) 2 5
def begM : MS := layU (dS zM 0 dI3 bI3)
section R16
variable {l : Launch} {G : GG} {μ : Mu}
theorem k_X6_init {o : Nat} (hμ : μ o = some (.inr (6, [.null, .int 0, .null, .null, .null, .null, .null, .int 0, .null, .int 0, .null, .int 0, .int 0, .null]))) : Ctr l G 1 24 9 1147 mX6_init [.ref o] (o + 1) μ none (o + 10) (rem o begM μ) := by
  refine Ctr.of (by decide +kernel) rfl (fun X g E => ?_)
  refine v_sub (ls' := [(0, .ref o)]) [0] rfl ?_
  refine v_aload_n g dX6_init_0 0 rfl ?_
  refine v_objInit g dX6_init_1 oi_RX6_1 ⟨rfl, rfl⟩ ?_
  refine v_aload_n g dX6_init_4 0 rfl ?_
  refine v_sipush (v := 200) g dX6_init_5 (by decide) ?_
  refine v_newaI (a := 8) (b := 947) (N := 200) g dX6_init_8 ac_int (by decide) rfl (by decide) ?_
  refine v_neq (n' := o + 2) rfl ?_
  refine v_putF g dX6_init_10 rfl (fun _ _ _ h => (congrArg Prod.fst (Option.some.inj h)).symm) fl_RX6_7 (show _ = some ((Sum.inr (6, [.null, .int 0, .null, .null, .null, .null, .null, .int 0, .null, .int 0, .null, .int 0, .int 0, .null])) : Ce) from by (first | (simp [mset]; done) | (simp [mset, hμ]; done) | (simp only [mset]; repeat (first | rw [if_pos (by omega)] | rw [if_neg (by omega)])); first | rfl | exact hμ)) ⟨rfl, rfl⟩ rfl ?_
  refine v_meq (μ' := mset _ (o) (.inr (6, [.ref (o + 1), .int 0, .null, .null, .null, .null, .null, .int 0, .null, .int 0, .null, .int 0, .int 0, .null]))) rfl ?_
  refine v_aload_n g dX6_init_13 0 rfl ?_
  refine v_bipush (v := 81) g dX6_init_14 (by decide) ?_
  refine v_newaI (a := 7) (b := 866) (N := 81) g dX6_init_16 ac_int (by decide) rfl (by decide) ?_
  refine v_neq (n' := o + 3) rfl ?_
  refine v_putF g dX6_init_18 rfl (fun _ _ _ h => (congrArg Prod.fst (Option.some.inj h)).symm) fl_RX6_13 (show _ = some ((Sum.inr (6, [.ref (o + 1), .int 0, .null, .null, .null, .null, .null, .int 0, .null, .int 0, .null, .int 0, .int 0, .null])) : Ce) from by (first | (simp [mset]; done) | (simp [mset, hμ]; done) | (simp only [mset]; repeat (first | rw [if_pos (by omega)] | rw [if_neg (by omega)])); first | rfl | exact hμ)) ⟨rfl, rfl⟩ rfl ?_
  refine v_meq (μ' := mset _ (o) (.inr (6, [.ref (o + 1), .int 0, .ref (o + 2), .null, .null, .null, .null, .int 0, .null, .int 0, .null, .int 0, .int 0, .null]))) rfl ?_
  refine v_aload_n g dX6_init_21 0 rfl ?_
  refine v_bipush (v := 81) g dX6_init_22 (by decide) ?_
  refine v_newaI (a := 6) (b := 785) (N := 81) g dX6_init_24 ac_int (by decide) rfl (by decide) ?_
  refine v_neq (n' := o + 4) rfl ?_
  refine v_putF g dX6_init_26 rfl (fun _ _ _ h => (congrArg Prod.fst (Option.some.inj h)).symm) fl_RX6_16 (show _ = some ((Sum.inr (6, [.ref (o + 1), .int 0, .ref (o + 2), .null, .null, .null, .null, .int 0, .null, .int 0, .null, .int 0, .int 0, .null])) : Ce) from by (first | (simp [mset]; done) | (simp [mset, hμ]; done) | (simp only [mset]; repeat (first | rw [if_pos (by omega)] | rw [if_neg (by omega)])); first | rfl | exact hμ)) ⟨rfl, rfl⟩ rfl ?_
  refine v_meq (μ' := mset _ (o) (.inr (6, [.ref (o + 1), .int 0, .ref (o + 2), .ref (o + 3), .null, .null, .null, .int 0, .null, .int 0, .null, .int 0, .int 0, .null]))) rfl ?_
  refine v_aload_n g dX6_init_29 0 rfl ?_
  refine v_bipush (v := 59) g dX6_init_30 (by decide) ?_
  refine v_newaI (a := 5) (b := 726) (N := 59) g dX6_init_32 ac_int (by decide) rfl (by decide) ?_
  refine v_neq (n' := o + 5) rfl ?_
  refine v_putF g dX6_init_34 rfl (fun _ _ _ h => (congrArg Prod.fst (Option.some.inj h)).symm) fl_RX6_19 (show _ = some ((Sum.inr (6, [.ref (o + 1), .int 0, .ref (o + 2), .ref (o + 3), .null, .null, .null, .int 0, .null, .int 0, .null, .int 0, .int 0, .null])) : Ce) from by (first | (simp [mset]; done) | (simp [mset, hμ]; done) | (simp only [mset]; repeat (first | rw [if_pos (by omega)] | rw [if_neg (by omega)])); first | rfl | exact hμ)) ⟨rfl, rfl⟩ rfl ?_
  refine v_meq (μ' := mset _ (o) (.inr (6, [.ref (o + 1), .int 0, .ref (o + 2), .ref (o + 3), .ref (o + 4), .null, .null, .int 0, .null, .int 0, .null, .int 0, .int 0, .null]))) rfl ?_
  refine v_aload_n g dX6_init_37 0 rfl ?_
  refine v_bipush (v := 59) g dX6_init_38 (by decide) ?_
  refine v_newaI (a := 4) (b := 667) (N := 59) g dX6_init_40 ac_int (by decide) rfl (by decide) ?_
  refine v_neq (n' := o + 6) rfl ?_
  refine v_putF g dX6_init_42 rfl (fun _ _ _ h => (congrArg Prod.fst (Option.some.inj h)).symm) fl_RX6_22 (show _ = some ((Sum.inr (6, [.ref (o + 1), .int 0, .ref (o + 2), .ref (o + 3), .ref (o + 4), .null, .null, .int 0, .null, .int 0, .null, .int 0, .int 0, .null])) : Ce) from by (first | (simp [mset]; done) | (simp [mset, hμ]; done) | (simp only [mset]; repeat (first | rw [if_pos (by omega)] | rw [if_neg (by omega)])); first | rfl | exact hμ)) ⟨rfl, rfl⟩ rfl ?_
  refine v_meq (μ' := mset _ (o) (.inr (6, [.ref (o + 1), .int 0, .ref (o + 2), .ref (o + 3), .ref (o + 4), .ref (o + 5), .null, .int 0, .null, .int 0, .null, .int 0, .int 0, .null]))) rfl ?_
  refine v_aload_n g dX6_init_45 0 rfl ?_
  refine v_sipush (v := 472) g dX6_init_46 (by decide) ?_
  refine v_newaI (a := 3) (b := 195) (N := 472) g dX6_init_49 ac_int (by decide) rfl (by decide) ?_
  refine v_neq (n' := o + 7) rfl ?_
  refine v_putF g dX6_init_51 rfl (fun _ _ _ h => (congrArg Prod.fst (Option.some.inj h)).symm) fl_RX6_25 (show _ = some ((Sum.inr (6, [.ref (o + 1), .int 0, .ref (o + 2), .ref (o + 3), .ref (o + 4), .ref (o + 5), .null, .int 0, .null, .int 0, .null, .int 0, .int 0, .null])) : Ce) from by (first | (simp [mset]; done) | (simp [mset, hμ]; done) | (simp only [mset]; repeat (first | rw [if_pos (by omega)] | rw [if_neg (by omega)])); first | rfl | exact hμ)) ⟨rfl, rfl⟩ rfl ?_
  refine v_meq (μ' := mset _ (o) (.inr (6, [.ref (o + 1), .int 0, .ref (o + 2), .ref (o + 3), .ref (o + 4), .ref (o + 5), .ref (o + 6), .int 0, .null, .int 0, .null, .int 0, .int 0, .null]))) rfl ?_
  refine v_aload_n g dX6_init_54 0 rfl ?_
  refine v_bipush (v := 118) g dX6_init_55 (by decide) ?_
  refine v_newaI (a := 2) (b := 77) (N := 118) g dX6_init_57 ac_int (by decide) rfl (by decide) ?_
  refine v_neq (n' := o + 8) rfl ?_
  refine v_putF g dX6_init_59 rfl (fun _ _ _ h => (congrArg Prod.fst (Option.some.inj h)).symm) fl_RX6_28 (show _ = some ((Sum.inr (6, [.ref (o + 1), .int 0, .ref (o + 2), .ref (o + 3), .ref (o + 4), .ref (o + 5), .ref (o + 6), .int 0, .null, .int 0, .null, .int 0, .int 0, .null])) : Ce) from by (first | (simp [mset]; done) | (simp [mset, hμ]; done) | (simp only [mset]; repeat (first | rw [if_pos (by omega)] | rw [if_neg (by omega)])); first | rfl | exact hμ)) ⟨rfl, rfl⟩ rfl ?_
  refine v_meq (μ' := mset _ (o) (.inr (6, [.ref (o + 1), .int 0, .ref (o + 2), .ref (o + 3), .ref (o + 4), .ref (o + 5), .ref (o + 6), .int 0, .ref (o + 7), .int 0, .null, .int 0, .int 0, .null]))) rfl ?_
  refine v_aload_n g dX6_init_62 0 rfl ?_
  refine v_bipush (v := 18) g dX6_init_63 (by decide) ?_
  refine v_newaI (a := 1) (b := 59) (N := 18) g dX6_init_65 ac_int (by decide) rfl (by decide) ?_
  refine v_neq (n' := o + 9) rfl ?_
  refine v_putF g dX6_init_67 rfl (fun _ _ _ h => (congrArg Prod.fst (Option.some.inj h)).symm) fl_RX6_31 (show _ = some ((Sum.inr (6, [.ref (o + 1), .int 0, .ref (o + 2), .ref (o + 3), .ref (o + 4), .ref (o + 5), .ref (o + 6), .int 0, .ref (o + 7), .int 0, .null, .int 0, .int 0, .null])) : Ce) from by (first | (simp [mset]; done) | (simp [mset, hμ]; done) | (simp only [mset]; repeat (first | rw [if_pos (by omega)] | rw [if_neg (by omega)])); first | rfl | exact hμ)) ⟨rfl, rfl⟩ rfl ?_
  refine v_meq (μ' := mset _ (o) (.inr (6, [.ref (o + 1), .int 0, .ref (o + 2), .ref (o + 3), .ref (o + 4), .ref (o + 5), .ref (o + 6), .int 0, .ref (o + 7), .int 0, .ref (o + 8), .int 0, .int 0, .null]))) rfl ?_
  refine v_aload_n g dX6_init_70 0 rfl ?_
  refine v_bipush (v := 59) g dX6_init_71 (by decide) ?_
  refine v_newaI (a := 0) (b := 0) (N := 59) g dX6_init_73 ac_int (by decide) rfl (by decide) ?_
  refine v_neq (n' := o + 10) rfl ?_
  refine v_putF g dX6_init_75 rfl (fun _ _ _ h => (congrArg Prod.fst (Option.some.inj h)).symm) fl_RX6_34 (show _ = some ((Sum.inr (6, [.ref (o + 1), .int 0, .ref (o + 2), .ref (o + 3), .ref (o + 4), .ref (o + 5), .ref (o + 6), .int 0, .ref (o + 7), .int 0, .ref (o + 8), .int 0, .int 0, .null])) : Ce) from by (first | (simp [mset]; done) | (simp [mset, hμ]; done) | (simp only [mset]; repeat (first | rw [if_pos (by omega)] | rw [if_neg (by omega)])); first | rfl | exact hμ)) ⟨rfl, rfl⟩ rfl ?_
  refine v_meq (μ' := mset _ (o) (.inr (6, [.ref (o + 1), .int 0, .ref (o + 2), .ref (o + 3), .ref (o + 4), .ref (o + 5), .ref (o + 6), .int 0, .ref (o + 7), .int 0, .ref (o + 8), .int 0, .int 0, .ref (o + 9)]))) rfl ?_
  refine v_rem (μ0 := μ) (D := zM) (show _ = some (objM o zM.1) from by (first | (simp [mset]; done) | (simp [mset, hμ]; done) | (simp only [mset]; repeat (first | rw [if_pos (by omega)] | rw [if_neg (by omega)])); first | rfl | exact hμ)) (fun k hk => match k, hk with | 0, _ => by (first | (simp [mset]; done) | (simp [mset, hμ]; done) | (simp only [mset]; repeat (first | rw [if_pos (by omega)] | rw [if_neg (by omega)])); first | rfl | exact hμ) | 1, _ => by (first | (simp [mset]; done) | (simp [mset, hμ]; done) | (simp only [mset]; repeat (first | rw [if_pos (by omega)] | rw [if_neg (by omega)])); first | rfl | exact hμ) | 2, _ => by (first | (simp [mset]; done) | (simp [mset, hμ]; done) | (simp only [mset]; repeat (first | rw [if_pos (by omega)] | rw [if_neg (by omega)])); first | rfl | exact hμ) | 3, _ => by (first | (simp [mset]; done) | (simp [mset, hμ]; done) | (simp only [mset]; repeat (first | rw [if_pos (by omega)] | rw [if_neg (by omega)])); first | rfl | exact hμ) | 4, _ => by (first | (simp [mset]; done) | (simp [mset, hμ]; done) | (simp only [mset]; repeat (first | rw [if_pos (by omega)] | rw [if_neg (by omega)])); first | rfl | exact hμ) | 5, _ => by (first | (simp [mset]; done) | (simp [mset, hμ]; done) | (simp only [mset]; repeat (first | rw [if_pos (by omega)] | rw [if_neg (by omega)])); first | rfl | exact hμ) | 6, _ => by (first | (simp [mset]; done) | (simp [mset, hμ]; done) | (simp only [mset]; repeat (first | rw [if_pos (by omega)] | rw [if_neg (by omega)])); first | rfl | exact hμ) | 7, _ => by (first | (simp [mset]; done) | (simp [mset, hμ]; done) | (simp only [mset]; repeat (first | rw [if_pos (by omega)] | rw [if_neg (by omega)])); first | rfl | exact hμ) | 8, _ => by (first | (simp [mset]; done) | (simp [mset, hμ]; done) | (simp only [mset]; repeat (first | rw [if_pos (by omega)] | rw [if_neg (by omega)])); first | rfl | exact hμ) | k + 9, h => absurd h (by omega)) (fun q hq => by
      simp only [mset]
      repeat rw [if_neg (by omega)]) ?_
  refine v_meq (μ' := rem o (dS zM 0 (zM.2 2) (zM.2 3)) μ) (congrArg (fun z => rem o z μ) (dS_id zM).symm) ?_
  refine v_aload_n g dX6_init_78 0 rfl ?_
  refine v_callV (As := []) (r := none) g dX6_init_79 (q_begins (D := zM) (p := 0) (dr := (zM.2 2)) (be := (zM.2 3))) cl_X6_begins ml_RX6_37 im_X6_begins (rd_M o _ _) rfl rfl ⟨rfl, rfl, rfl⟩ ?_
  refine v_aload_n g dX6_init_82 0 rfl ?_
  refine v_get g dX6_init_83 fl_RX6_16 (rd_M o _ _) rfl ?_
  refine v_iconst (v := 0) g dX6_init_86 (by decide) ?_
  refine v_bipush (v := 30) g dX6_init_87 (by decide) ?_
  refine v_iast g dX6_init_89 (rd_MA2 o _ _) (by unfold vp_in; decide) ?_
  refine v_meq (μ' := rem o (dS zM 0 (va_up (zrM 81 (zM.2 2)) 0 30) (zrM 59 (zM.2 3))) μ) (st_GA o (dS zM 0 (zrM 81 (zM.2 2)) (zrM 59 (zM.2 3))) (dS zM 0 (va_up (zrM 81 (zM.2 2)) 0 30) (zrM 59 (zM.2 3))) μ 2 (by decide) (zrM 81 (zM.2 2)) 0 30 rfl rfl rfl (fun j hj => by simp only [dS, va_up, if_neg hj])) ?_
  refine v_aload_n g dX6_init_90 0 rfl ?_
  refine v_get g dX6_init_91 fl_RX6_16 (rd_M o _ _) rfl ?_
  refine v_iconst (v := 1) g dX6_init_94 (by decide) ?_
  refine v_bipush (v := 6) g dX6_init_95 (by decide) ?_
  refine v_iast g dX6_init_97 (rd_MA2 o _ _) (by unfold vp_in; decide) ?_
  refine v_meq (μ' := rem o (dS zM 0 (va_up (va_up (zrM 81 (zM.2 2)) 0 30) 1 6) (zrM 59 (zM.2 3))) μ) (st_GA o (dS zM 0 (va_up (zrM 81 (zM.2 2)) 0 30) (zrM 59 (zM.2 3))) (dS zM 0 (va_up (va_up (zrM 81 (zM.2 2)) 0 30) 1 6) (zrM 59 (zM.2 3))) μ 2 (by decide) (va_up (zrM 81 (zM.2 2)) 0 30) 1 6 rfl rfl rfl (fun j hj => by simp only [dS, va_up, if_neg hj])) ?_
  refine v_aload_n g dX6_init_98 0 rfl ?_
  refine v_get g dX6_init_99 fl_RX6_16 (rd_M o _ _) rfl ?_
  refine v_bipush (v := 6) g dX6_init_102 (by decide) ?_
  refine v_iconst (v := 1) g dX6_init_104 (by decide) ?_
  refine v_iast g dX6_init_105 (rd_MA2 o _ _) (by unfold vp_in; decide) ?_
  refine v_meq (μ' := rem o (dS zM 0 (va_up (va_up (va_up (zrM 81 (zM.2 2)) 0 30) 1 6) 6 1) (zrM 59 (zM.2 3))) μ) (st_GA o (dS zM 0 (va_up (va_up (zrM 81 (zM.2 2)) 0 30) 1 6) (zrM 59 (zM.2 3))) (dS zM 0 (va_up (va_up (va_up (zrM 81 (zM.2 2)) 0 30) 1 6) 6 1) (zrM 59 (zM.2 3))) μ 2 (by decide) (va_up (va_up (zrM 81 (zM.2 2)) 0 30) 1 6) 6 1 rfl rfl rfl (fun j hj => by simp only [dS, va_up, if_neg hj])) ?_
  refine v_aload_n g dX6_init_106 0 rfl ?_
  refine v_get g dX6_init_107 fl_RX6_16 (rd_M o _ _) rfl ?_
  refine v_bipush (v := 12) g dX6_init_110 (by decide) ?_
  refine v_iconst (v := 1) g dX6_init_112 (by decide) ?_
  refine v_iast g dX6_init_113 (rd_MA2 o _ _) (by unfold vp_in; decide) ?_
  refine v_meq (μ' := rem o (dS zM 0 (va_up (va_up (va_up (va_up (zrM 81 (zM.2 2)) 0 30) 1 6) 6 1) 12 1) (zrM 59 (zM.2 3))) μ) (st_GA o (dS zM 0 (va_up (va_up (va_up (zrM 81 (zM.2 2)) 0 30) 1 6) 6 1) (zrM 59 (zM.2 3))) (dS zM 0 (va_up (va_up (va_up (va_up (zrM 81 (zM.2 2)) 0 30) 1 6) 6 1) 12 1) (zrM 59 (zM.2 3))) μ 2 (by decide) (va_up (va_up (va_up (zrM 81 (zM.2 2)) 0 30) 1 6) 6 1) 12 1 rfl rfl rfl (fun j hj => by simp only [dS, va_up, if_neg hj])) ?_
  refine v_aload_n g dX6_init_114 0 rfl ?_
  refine v_get g dX6_init_115 fl_RX6_16 (rd_M o _ _) rfl ?_
  refine v_bipush (v := 16) g dX6_init_118 (by decide) ?_
  refine v_iconst (v := 2) g dX6_init_120 (by decide) ?_
  refine v_iast g dX6_init_121 (rd_MA2 o _ _) (by unfold vp_in; decide) ?_
  refine v_meq (μ' := rem o (dS zM 0 (va_up (va_up (va_up (va_up (va_up (zrM 81 (zM.2 2)) 0 30) 1 6) 6 1) 12 1) 16 2) (zrM 59 (zM.2 3))) μ) (st_GA o (dS zM 0 (va_up (va_up (va_up (va_up (zrM 81 (zM.2 2)) 0 30) 1 6) 6 1) 12 1) (zrM 59 (zM.2 3))) (dS zM 0 (va_up (va_up (va_up (va_up (va_up (zrM 81 (zM.2 2)) 0 30) 1 6) 6 1) 12 1) 16 2) (zrM 59 (zM.2 3))) μ 2 (by decide) (va_up (va_up (va_up (va_up (zrM 81 (zM.2 2)) 0 30) 1 6) 6 1) 12 1) 16 2 rfl rfl rfl (fun j hj => by simp only [dS, va_up, if_neg hj])) ?_
  refine v_aload_n g dX6_init_122 0 rfl ?_
  refine v_get g dX6_init_123 fl_RX6_16 (rd_M o _ _) rfl ?_
  refine v_bipush (v := 18) g dX6_init_126 (by decide) ?_
  refine v_iconst (v := 1) g dX6_init_128 (by decide) ?_
  refine v_iast g dX6_init_129 (rd_MA2 o _ _) (by unfold vp_in; decide) ?_
  refine v_meq (μ' := rem o (dS zM 0 (va_up (va_up (va_up (va_up (va_up (va_up (zrM 81 (zM.2 2)) 0 30) 1 6) 6 1) 12 1) 16 2) 18 1) (zrM 59 (zM.2 3))) μ) (st_GA o (dS zM 0 (va_up (va_up (va_up (va_up (va_up (zrM 81 (zM.2 2)) 0 30) 1 6) 6 1) 12 1) 16 2) (zrM 59 (zM.2 3))) (dS zM 0 (va_up (va_up (va_up (va_up (va_up (va_up (zrM 81 (zM.2 2)) 0 30) 1 6) 6 1) 12 1) 16 2) 18 1) (zrM 59 (zM.2 3))) μ 2 (by decide) (va_up (va_up (va_up (va_up (va_up (zrM 81 (zM.2 2)) 0 30) 1 6) 6 1) 12 1) 16 2) 18 1 rfl rfl rfl (fun j hj => by simp only [dS, va_up, if_neg hj])) ?_
  refine v_aload_n g dX6_init_130 0 rfl ?_
  refine v_get g dX6_init_131 fl_RX6_16 (rd_M o _ _) rfl ?_
  refine v_bipush (v := 19) g dX6_init_134 (by decide) ?_
  refine v_iconst (v := 1) g dX6_init_136 (by decide) ?_
  refine v_iast g dX6_init_137 (rd_MA2 o _ _) (by unfold vp_in; decide) ?_
  refine v_meq (μ' := rem o (dS zM 0 (va_up (va_up (va_up (va_up (va_up (va_up (va_up (zrM 81 (zM.2 2)) 0 30) 1 6) 6 1) 12 1) 16 2) 18 1) 19 1) (zrM 59 (zM.2 3))) μ) (st_GA o (dS zM 0 (va_up (va_up (va_up (va_up (va_up (va_up (zrM 81 (zM.2 2)) 0 30) 1 6) 6 1) 12 1) 16 2) 18 1) (zrM 59 (zM.2 3))) (dS zM 0 (va_up (va_up (va_up (va_up (va_up (va_up (va_up (zrM 81 (zM.2 2)) 0 30) 1 6) 6 1) 12 1) 16 2) 18 1) 19 1) (zrM 59 (zM.2 3))) μ 2 (by decide) (va_up (va_up (va_up (va_up (va_up (va_up (zrM 81 (zM.2 2)) 0 30) 1 6) 6 1) 12 1) 16 2) 18 1) 19 1 rfl rfl rfl (fun j hj => by simp only [dS, va_up, if_neg hj])) ?_
  refine v_aload_n g dX6_init_138 0 rfl ?_
  refine v_get g dX6_init_139 fl_RX6_16 (rd_M o _ _) rfl ?_
  refine v_bipush (v := 28) g dX6_init_142 (by decide) ?_
  refine v_iconst (v := 3) g dX6_init_144 (by decide) ?_
  refine v_iast g dX6_init_145 (rd_MA2 o _ _) (by unfold vp_in; decide) ?_
  refine v_meq (μ' := rem o (dS zM 0 (va_up (va_up (va_up (va_up (va_up (va_up (va_up (va_up (zrM 81 (zM.2 2)) 0 30) 1 6) 6 1) 12 1) 16 2) 18 1) 19 1) 28 3) (zrM 59 (zM.2 3))) μ) (st_GA o (dS zM 0 (va_up (va_up (va_up (va_up (va_up (va_up (va_up (zrM 81 (zM.2 2)) 0 30) 1 6) 6 1) 12 1) 16 2) 18 1) 19 1) (zrM 59 (zM.2 3))) (dS zM 0 (va_up (va_up (va_up (va_up (va_up (va_up (va_up (va_up (zrM 81 (zM.2 2)) 0 30) 1 6) 6 1) 12 1) 16 2) 18 1) 19 1) 28 3) (zrM 59 (zM.2 3))) μ 2 (by decide) (va_up (va_up (va_up (va_up (va_up (va_up (va_up (zrM 81 (zM.2 2)) 0 30) 1 6) 6 1) 12 1) 16 2) 18 1) 19 1) 28 3 rfl rfl rfl (fun j hj => by simp only [dS, va_up, if_neg hj])) ?_
  refine v_aload_n g dX6_init_146 0 rfl ?_
  refine v_iconst (v := 0) g dX6_init_147 (by decide) ?_
  refine v_iconst (v := 2) g dX6_init_148 (by decide) ?_
  refine v_iconst (v := 1) g dX6_init_149 (by decide) ?_
  refine v_callV (As := [.int 0, .int 2, .int 1]) (r := none) g dX6_init_150 (q_owns (D := zM) (p := 0) (dr := (va_up (va_up (va_up (va_up (va_up (va_up (va_up (va_up (zrM 81 (zM.2 2)) 0 30) 1 6) 6 1) 12 1) 16 2) 18 1) 19 1) 28 3)) (be := (zrM 59 (zM.2 3))) (x := 0) (y := 2) (by decide) (by decide) 1) cl_X6_owns ml_RX6_40 im_X6_owns (rd_M o _ _) rfl rfl ⟨rfl, rfl, rfl⟩ ?_
  refine v_aload_n g dX6_init_153 0 rfl ?_
  refine v_bipush (v := 18) g dX6_init_154 (by decide) ?_
  refine v_bipush (v := 23) g dX6_init_156 (by decide) ?_
  refine v_iconst (v := 2) g dX6_init_158 (by decide) ?_
  refine v_callV (As := [.int 18, .int 23, .int 2]) (r := none) g dX6_init_159 (q_owns (D := zM) (p := 0) (dr := (ownsM (va_up (va_up (va_up (va_up (va_up (va_up (va_up (va_up (zrM 81 (zM.2 2)) 0 30) 1 6) 6 1) 12 1) 16 2) 18 1) 19 1) 28 3) 0 2 1)) (be := (zrM 59 (zM.2 3))) (x := 18) (y := 23) (by decide) (by decide) 2) cl_X6_owns ml_RX6_40 im_X6_owns (rd_M o _ _) rfl rfl ⟨rfl, rfl, rfl⟩ ?_
  refine v_aload_n g dX6_init_162 0 rfl ?_
  refine v_bipush (v := 24) g dX6_init_163 (by decide) ?_
  refine v_bipush (v := 29) g dX6_init_165 (by decide) ?_
  refine v_iconst (v := 3) g dX6_init_167 (by decide) ?_
  refine v_callV (As := [.int 24, .int 29, .int 3]) (r := none) g dX6_init_168 (q_owns (D := zM) (p := 0) (dr := (ownsM (ownsM (va_up (va_up (va_up (va_up (va_up (va_up (va_up (va_up (zrM 81 (zM.2 2)) 0 30) 1 6) 6 1) 12 1) 16 2) 18 1) 19 1) 28 3) 0 2 1) 18 23 2)) (be := (zrM 59 (zM.2 3))) (x := 24) (y := 29) (by decide) (by decide) 3) cl_X6_owns ml_RX6_40 im_X6_owns (rd_M o _ _) rfl rfl ⟨rfl, rfl, rfl⟩ ?_
  refine v_meq (μ' := rem o (dS zM 0 dI0 (zrM 59 (zM.2 3))) μ) rfl ?_
  refine v_aload_n g dX6_init_171 0 rfl ?_
  refine v_iconst (v := 0) g dX6_init_172 (by decide) ?_
  refine v_iconst (v := 1) g dX6_init_173 (by decide) ?_
  refine v_iconst (v := 3) g dX6_init_174 (by decide) ?_
  refine v_callV (As := [.int 0, .int 1, .int 3]) (r := none) g dX6_init_175 (q_rowOf (D := zM) (p := 0) (dr := dI0) (be := (zrM 59 (zM.2 3))) (by decide) 0 1 3) cl_X6_rowOf ml_RX6_44 im_X6_rowOf (rd_M o _ _) rfl rfl ⟨rfl, rfl, rfl⟩ ?_
  refine v_meq (μ' := rem o (dS zM 0 dI1 (rowB dI0 (zrM 59 (zM.2 3)) 1)) μ) rfl ?_
  refine v_aload_n g dX6_init_178 0 rfl ?_
  refine v_bipush (v := 7) g dX6_init_179 (by decide) ?_
  refine v_callV (As := [.int 7]) (r := none) g dX6_init_181 (q_stands (D := zM) (p := 0) (dr := dI1) (be := (rowB dI0 (zrM 59 (zM.2 3)) 1)) (r := 0) (by decide) (by decide) (by decide) 7) cl_X6_stands ml_RX6_47 im_X6_stands (rd_M o _ _) rfl rfl ⟨rfl, rfl, rfl⟩ ?_
  refine v_aload_n g dX6_init_184 0 rfl ?_
  refine v_bipush (v := 6) g dX6_init_185 (by decide) ?_
  refine v_callV (As := [.int 6]) (r := none) g dX6_init_187 (q_stands (D := zM) (p := 0) (dr := dI1) (be := (stM (rowB dI0 (zrM 59 (zM.2 3)) 1) 0 7)) (r := 0) (by decide) (by decide) (by decide) 6) cl_X6_stands ml_RX6_47 im_X6_stands (rd_M o _ _) rfl rfl ⟨rfl, rfl, rfl⟩ ?_
  refine v_meq (μ' := rem o (dS zM 0 dI1 bI1) μ) rfl ?_
  refine v_aload_n g dX6_init_190 0 rfl ?_
  refine v_iconst (v := 1) g dX6_init_191 (by decide) ?_
  refine v_iconst (v := 0) g dX6_init_192 (by decide) ?_
  refine v_iconst (v := 2) g dX6_init_193 (by decide) ?_
  refine v_callV (As := [.int 1, .int 0, .int 2]) (r := none) g dX6_init_194 (q_rowOf (D := zM) (p := 0) (dr := dI1) (be := bI1) (by decide) 1 0 2) cl_X6_rowOf ml_RX6_44 im_X6_rowOf (rd_M o _ _) rfl rfl ⟨rfl, rfl, rfl⟩ ?_
  refine v_meq (μ' := rem o (dS zM 0 dI2 (rowB dI1 bI1 0)) μ) rfl ?_
  refine v_aload_n g dX6_init_197 0 rfl ?_
  refine v_bipush (v := 28) g dX6_init_198 (by decide) ?_
  refine v_callV (As := [.int 28]) (r := none) g dX6_init_200 (q_stands (D := zM) (p := 0) (dr := dI2) (be := (rowB dI1 bI1 0)) (r := 1) (by decide) (by decide) (by decide) 28) cl_X6_stands ml_RX6_47 im_X6_stands (rd_M o _ _) rfl rfl ⟨rfl, rfl, rfl⟩ ?_
  refine v_aload_n g dX6_init_203 0 rfl ?_
  refine v_bipush (v := 27) g dX6_init_204 (by decide) ?_
  refine v_callV (As := [.int 27]) (r := none) g dX6_init_206 (q_stands (D := zM) (p := 0) (dr := dI2) (be := (stM (rowB dI1 bI1 0) 1 28)) (r := 1) (by decide) (by decide) (by decide) 27) cl_X6_stands ml_RX6_47 im_X6_stands (rd_M o _ _) rfl rfl ⟨rfl, rfl, rfl⟩ ?_
  refine v_aload_n g dX6_init_209 0 rfl ?_
  refine v_bipush (v := 26) g dX6_init_210 (by decide) ?_
  refine v_callV (As := [.int 26]) (r := none) g dX6_init_212 (q_stands (D := zM) (p := 0) (dr := dI2) (be := (stM (stM (rowB dI1 bI1 0) 1 28) 1 27)) (r := 1) (by decide) (by decide) (by decide) 26) cl_X6_stands ml_RX6_47 im_X6_stands (rd_M o _ _) rfl rfl ⟨rfl, rfl, rfl⟩ ?_
  refine v_meq (μ' := rem o (dS zM 0 dI2 bI2) μ) rfl ?_
  refine v_aload_n g dX6_init_215 0 rfl ?_
  refine v_iconst (v := 3) g dX6_init_216 (by decide) ?_
  refine v_iconst (v := 2) g dX6_init_217 (by decide) ?_
  refine v_iconst (v := 5) g dX6_init_218 (by decide) ?_
  refine v_callV (As := [.int 3, .int 2, .int 5]) (r := none) g dX6_init_219 (q_rowOf (D := zM) (p := 0) (dr := dI2) (be := bI2) (by decide) 3 2 5) cl_X6_rowOf ml_RX6_44 im_X6_rowOf (rd_M o _ _) rfl rfl ⟨rfl, rfl, rfl⟩ ?_
  refine v_meq (μ' := rem o (dS zM 0 dI3 (rowB dI2 bI2 2)) μ) rfl ?_
  refine v_aload_n g dX6_init_222 0 rfl ?_
  refine v_iconst (v := 5) g dX6_init_223 (by decide) ?_
  refine v_callV (As := [.int 5]) (r := none) g dX6_init_224 (q_stands (D := zM) (p := 0) (dr := dI3) (be := (rowB dI2 bI2 2)) (r := 2) (by decide) (by decide) (by decide) 5) cl_X6_stands ml_RX6_47 im_X6_stands (rd_M o _ _) rfl rfl ⟨rfl, rfl, rfl⟩ ?_
  refine v_meq (μ' := rem o (dS zM 0 dI3 bI3) μ) rfl ?_
  refine v_aload_n g dX6_init_227 0 rfl ?_
  refine v_callV (As := []) (r := none) g dX6_init_228 (k_X6_lays (D := dS zM 0 dI3 bI3)) cl_X6_lays ml_RX6_51 im_X6_lays (rd_M o _ _) rfl rfl ⟨rfl, rfl, rfl⟩ ?_
  exact v_vret g E dX6_init_231 rfl ⟨rfl, rfl, rfl⟩
end R16
