/-! THE REFERENCE: what stands where -/
def OkS (t s : Nat → Nat) : Prop := t 2 ≤ 3 ∧ t 0 ≤ 36 ∧ 1 ≤ t 1 ∧ t 1 ≤ 6 ∧ (∀ r, r < 3 → s (8 + r) ≤ 4) ∧ (∀ r, r < 3 → ∀ k, k < 4 → s (11 + 4 * r + k) < 36) ∧ (∀ i, i < 36 → t (39 + i) < 4) ∧ (∀ r, r < 3 → s (5 + r) < 4) ∧ (∀ r, r < t 2 → 1 ≤ s (8 + r)) ∧ (∀ r, r < t 2 → ∀ k, k < s (8 + r) → s (11 + 4 * r + k) < t 0) ∧ t 0 % t 1 = 0
def trIn (s : Nat → Nat) (c r : Nat) : Nat → Nat → Int32 → Int32
  | 0, _, f => f
  | q + 1, k, f => trIn s c r q (k + 1) (if nI (s (11 + 4 * r + k)) = nI c then nI r else f)
def trOut (s : Nat → Nat) (c : Nat) : Nat → Nat → Int32 → Int32
  | 0, _, f => f
  | q + 1, r, f => trOut s c q (r + 1) (trIn s c r (s (8 + r)) 0 f)
def treeM (t s : Nat → Nat) (c : Nat) : Int32 := trOut s c (t 2) 0 (-4)
def besM (t : Nat → Nat) (c : Nat) (d : Int32) : Int32 := if d = 0 then (if nI c - nI (t 1) < 0 then -4 else nI c - nI (t 1)) else if d = 1 then (if nI (t 1) - 1 ≤ nI c % nI (t 1) then -4 else nI (c + 1)) else if d = 2 then (if nI (t 0) ≤ nI (c + t 1) then -4 else nI (c + t 1)) else (if nI c % nI (t 1) ≤ 0 then -4 else nI c - 1)
def sortM (t : Nat → Nat) (c : Int32) : Int32 := if c = -4 then 3 else nI (t (3 + c.toNatClampNeg))
def mayM (t : Nat → Nat) (r : Nat) (c : Int32) : Bool := if sortM t c = 0 then true else if sortM t c = 1 then true else if sortM t c = 2 then (if nI (t (75 + r)) = 3 then true else false) else false
def openM (t s : Nat → Nat) (r : Nat) (c : Int32) : Bool := if mayM t r c = true then (if nI (s (23 + c.toNatClampNeg)) = 0 then (if treeM t s c.toNatClampNeg = -4 then true else false) else false) else false
def mayDigM (t s : Nat → Nat) (c : Nat) : Bool := if nI (t (3 + c)) = 0 then (if nI (s (23 + c)) = 0 then (if treeM t s c = -4 then true else false) else false) else false
def coFrom (s : Nat → Nat) (w : Int32) : Nat → Nat → Int32 → Int32
  | 0, _, v => v
  | q + 1, c, v => coFrom s w q (c + 1) (v + (if nI (s (23 + c)) = w then 1 else 0))
def countM (t s : Nat → Nat) (w : Int32) : Int32 := coFrom s w (t 0) 0 0
def turnM (t : Nat → Nat) (r : Nat) : Nat := if nI (t (75 + r)) = 1 then 3 else 1
def headM (t s : Nat → Nat) (r : Nat) : Int32 := if (nI (t (75 + r)) = 2 ∧ nI (s 0) % 2 = 1) then -4 else if openM t s r (besM t (s (11 + 4 * r)) (nI (s (5 + r)))) = true then nI (s (5 + r)) else if openM t s r (besM t (s (11 + 4 * r)) (nI (s (5 + r) + turnM t r) % 4)) = true then nI (s (5 + r) + turnM t r) % 4 else if openM t s r (besM t (s (11 + 4 * r)) (nI (s (5 + r) + 4 - turnM t r) % 4)) = true then nI (s (5 + r) + 4 - turnM t r) % 4 else -4
theorem bes_d0 : ∀ c, c < 36 → ∀ w, w < 7 → 1 ≤ w → c < w → nI c - nI w < 0 := by decide +kernel
theorem bes_d1 : ∀ T, T < 37 → ∀ c, c < T → ∀ w, w < 7 → 1 ≤ w → T % w = 0 → ¬ nI w - 1 ≤ nI c % nI w → c + 1 < T := by decide +kernel
theorem bes_d3 : ∀ c, c < 36 → ∀ w, w < 7 → 1 ≤ w → ¬ nI c % nI w ≤ 0 → 1 ≤ c := by decide +kernel
/-- what lies beside is none, or a cell -/
theorem bes_ok {t s : Nat → Nat} (hO : OkS t s) {c : Nat} (hc : c < t 0) (d : Int32) : besM t c d = -4 ∨ ∃ c0 : Nat, c0 < t 0 ∧ besM t c d = nI c0 := by
  obtain ⟨o1, o2, o3, o4, o5, o6, o7, o8, o9, o10, o11⟩ := hO
  unfold besM
  split
  · split
    · exact Or.inl rfl
    · rename_i h
      rcases Nat.lt_or_ge c (t 1) with q | q
      · exact absurd (bes_d0 c (by omega) (t 1) (by omega) o3 q) h
      · exact Or.inr ⟨c - t 1, by omega, nI_subE rfl rfl q⟩
  · split
    · split
      · exact Or.inl rfl
      · rename_i h
        exact Or.inr ⟨c + 1, bes_d1 (t 0) (by omega) c hc (t 1) (by omega) o3 o11 h, rfl⟩
    · split
      · split
        · exact Or.inl rfl
        · rename_i h
          rcases Nat.lt_or_ge (c + t 1) (t 0) with q | q
          · exact Or.inr ⟨c + t 1, q, rfl⟩
          · exact absurd (nI_le q (by omega)) h
      · split
        · exact Or.inl rfl
        · rename_i h
          have h1 := bes_d3 c (by omega) (t 1) (by omega) o3 h
          exact Or.inr ⟨c - 1, by omega, nI_subE rfl rfl h1⟩
theorem bes_ok36 {t s : Nat → Nat} (hO : OkS t s) {c : Nat} (hc : c < t 0) (d : Int32) : besM t c d = -4 ∨ ∃ c0 : Nat, c0 < 36 ∧ besM t c d = nI c0 := by
  rcases bes_ok hO hc d with h | ⟨c0, h1, h2⟩
  · exact Or.inl h
  · exact Or.inr ⟨c0, by have := hO.2.1; omega, h2⟩
section R2
variable {l : Launch} {G : GG} {n : Nat} {R : Nat} {D : MS} {ρ : Mu}
theorem k_X6_lies {c : Nat} (hc : c < 36) : Ctr l G 0 0 0 0 mX6_lies [.ref R, .int (nI c)] n (rem R D ρ) (some (.int (nI ((D.2 4) (23 + c))))) n (rem R D ρ) := by
  refine Ctr.of (by decide +kernel) rfl (fun X g E => ?_)
  refine v_sub (ls' := [(0, .ref R), (1, .int (nI c))]) [0, 1] rfl ?_
  refine v_aload_n g dX6_lies_0 0 rfl ?_
  refine v_get g dX6_lies_1 fl_RX6_22 (rd_M R _ _) rfl ?_
  refine v_bipush (v := 23) g dX6_lies_4 (by decide) ?_
  refine v_iload_n g dX6_lies_6 1 rfl ?_
  refine v_iadd g dX6_lies_7 (v_eqi (y := nI (23 + c)) (nI_addE rfl rfl) ?_)
  refine v_iald g dX6_lies_8 (rd_MA4 R _ _) (vp_in_nI (by omega) (by decide)) (v_eqi (y := (nI ((D.2 4) (23 + c)))) (by first | (rw [nI_clamp (by omega)]; done) | (rw [nI_clamp (by omega)]; rfl)) ?_)
  exact v_iret g E dX6_lies_9 rfl ⟨by rfl, rfl, rfl⟩
theorem k_X6_treeIn (hO : OkS (D.2 1) (D.2 4)) {c : Nat} : Ctr l G 0 0 0 0 mX6_treeIn [.ref R, .int (nI c)] n (rem R D ρ) (some (.int (treeM (D.2 1) (D.2 4) c))) n (rem R D ρ) := by
  obtain ⟨o1, o2, o3, o4, o5, o6, o7, o8, o9, o10, o11⟩ := id hO
  refine Ctr.of (by decide +kernel) rfl (fun X g E => ?_)
  have loop : ∀ (q r : Nat) (f : Int32), r + q = (D.2 1) 2 → treeM (D.2 1) (D.2 4) c = trOut (D.2 4) c q r f → V X 0 0 n (rem R D ρ) 5 [(2, .int f), (3, .int (nI r)), (0, .ref R), (1, .int (nI c))] [] := by
    intro q
    induction q with
    | zero =>
      intro r f hq he
      refine v_iload_n g dX6_treeIn_5 1 rfl ?_
      refine v_aload_n g dX6_treeIn_6 2 rfl ?_
      refine v_get g dX6_treeIn_7 fl_RX6_13 (rd_M R _ _) rfl ?_
      refine v_iconst (v := 2) g dX6_treeIn_10 (by decide) ?_
      refine v_iald g dX6_treeIn_11 (rd_MA1 R _ _) (by unfold vp_in; decide) (v_eqi (y := (nI ((D.2 1) 2))) rfl ?_)
      refine v_icmp_ge (tgt := 68) g dX6_treeIn_12 (by decide) (fun h12 => ?_) (fun h12 => absurd (nI_le (a := (D.2 1) 2) (b := r) (by omega) (by omega)) h12)
      refine v_iload_n g dX6_treeIn_68 0 rfl ?_
      exact v_iret g E dX6_treeIn_69 rfl ⟨by rw [he]; rfl, rfl, rfl⟩
    | succ q ih =>
      intro r f hq he
      have o5r := o5 r (by omega)
      have inner : ∀ (u k : Nat) (f : Int32), k + u = (D.2 4) (8 + r) → treeM (D.2 1) (D.2 4) c = trOut (D.2 4) c q (r + 1) (trIn (D.2 4) c r u k f) → V X 0 0 n (rem R D ρ) 18 [(2, .int f), (4, .int (nI k)), (3, .int (nI r)), (0, .ref R), (1, .int (nI c))] [] := by
        intro u
        induction u with
        | zero =>
          intro k f hu h2
          refine v_iload g dX6_treeIn_18 1 rfl ?_
          refine v_aload_n g dX6_treeIn_20 3 rfl ?_
          refine v_get g dX6_treeIn_21 fl_RX6_22 (rd_M R _ _) rfl ?_
          refine v_bipush (v := 8) g dX6_treeIn_24 (by decide) ?_
          refine v_iload_n g dX6_treeIn_26 2 rfl ?_
          refine v_iadd g dX6_treeIn_27 (v_eqi (y := nI (8 + r)) (nI_addE rfl rfl) ?_)
          refine v_iald g dX6_treeIn_28 (rd_MA4 R _ _) (vp_in_nI (by omega) (by decide)) (v_eqi (y := (nI ((D.2 4) (8 + r)))) (by first | (rw [nI_clamp (by omega)]; done) | (rw [nI_clamp (by omega)]; rfl)) ?_)
          refine v_icmp_ge (tgt := 62) g dX6_treeIn_29 (by decide) (fun h29 => ?_) (fun h29 => absurd (nI_le (a := (D.2 4) (8 + r)) (b := k) (by omega) (by omega)) h29)
          refine v_iinc (v := (nI (r + 1))) (ls' := [(3, .int (nI (r + 1))), (2, .int f), (4, .int (nI k)), (0, .ref R), (1, .int (nI c))]) g dX6_treeIn_62 2 rfl (nI_addE rfl rfl) rfl rfl ?_
          refine v_goto (tgt := 5) g dX6_treeIn_65 (by decide) ?_
          refine v_sub (ls' := [(2, .int f), (3, .int (nI (r + 1))), (0, .ref R), (1, .int (nI c))]) [1, 0, 3, 4] rfl ?_
          exact ih (r + 1) _ (by omega) (by rw [h2, trIn])
        | succ u ihu =>
          intro k f hu h2
          refine v_iload g dX6_treeIn_18 1 rfl ?_
          refine v_aload_n g dX6_treeIn_20 3 rfl ?_
          refine v_get g dX6_treeIn_21 fl_RX6_22 (rd_M R _ _) rfl ?_
          refine v_bipush (v := 8) g dX6_treeIn_24 (by decide) ?_
          refine v_iload_n g dX6_treeIn_26 2 rfl ?_
          refine v_iadd g dX6_treeIn_27 (v_eqi (y := nI (8 + r)) (nI_addE rfl rfl) ?_)
          refine v_iald g dX6_treeIn_28 (rd_MA4 R _ _) (vp_in_nI (by omega) (by decide)) (v_eqi (y := (nI ((D.2 4) (8 + r)))) (by first | (rw [nI_clamp (by omega)]; done) | (rw [nI_clamp (by omega)]; rfl)) ?_)
          refine v_icmp_ge (tgt := 62) g dX6_treeIn_29 (by decide) (fun h29 => absurd h29 (nI_ge (a := k) (b := (D.2 4) (8 + r)) (by omega) (by omega))) (fun h29 => ?_)
          refine v_aload_n g dX6_treeIn_32 3 rfl ?_
          refine v_get g dX6_treeIn_33 fl_RX6_22 (rd_M R _ _) rfl ?_
          refine v_bipush (v := 11) g dX6_treeIn_36 (by decide) ?_
          refine v_iconst (v := 4) g dX6_treeIn_38 (by decide) ?_
          refine v_iload_n g dX6_treeIn_39 2 rfl ?_
          refine v_imul g dX6_treeIn_40 (v_eqi (y := nI (4 * r)) (nI_mulE rfl rfl) ?_)
          refine v_iadd g dX6_treeIn_41 (v_eqi (y := nI (11 + (4 * r))) (nI_addE rfl rfl) ?_)
          refine v_iload g dX6_treeIn_42 1 rfl ?_
          refine v_iadd g dX6_treeIn_44 (v_eqi (y := nI ((11 + (4 * r)) + k)) (nI_addE rfl rfl) ?_)
          refine v_iald g dX6_treeIn_45 (rd_MA4 R _ _) (vp_in_nI (by omega) (by decide)) (v_eqi (y := (nI ((D.2 4) ((11 + (4 * r)) + k)))) (by first | (rw [nI_clamp (by omega)]; done) | (rw [nI_clamp (by omega)]; rfl)) ?_)
          refine v_iload_n g dX6_treeIn_46 4 rfl ?_
          refine v_icmp_ne_d (tgt := 54) (u := f) (v := nI r) 55 g dX6_treeIn_47 (by decide) (fun h47 K => ?_) (fun h47 K => ?_) ?_
          · skip
            refine v_iload_n g dX6_treeIn_54 0 rfl ?_
            exact K
          · skip
            refine v_iload_n g dX6_treeIn_50 2 rfl ?_
            refine v_goto (tgt := 55) g dX6_treeIn_51 (by decide) ?_
            exact K
          refine v_istore_n (ls' := [(2, .int (if (nI ((D.2 4) ((11 + (4 * r)) + k))) = nI c then nI r else f)), (4, .int (nI k)), (3, .int (nI r)), (0, .ref R), (1, .int (nI c))]) g dX6_treeIn_55 rfl rfl ?_
          refine v_iinc (v := (nI (k + 1))) (ls' := [(4, .int (nI (k + 1))), (2, .int (if (nI ((D.2 4) ((11 + (4 * r)) + k))) = nI c then nI r else f)), (3, .int (nI r)), (0, .ref R), (1, .int (nI c))]) g dX6_treeIn_56 1 rfl (nI_addE rfl rfl) rfl rfl ?_
          refine v_goto (tgt := 18) g dX6_treeIn_59 (by decide) ?_
          refine v_sub (ls' := [(2, .int (if (nI ((D.2 4) ((11 + (4 * r)) + k))) = nI c then nI r else f)), (4, .int (nI (k + 1))), (3, .int (nI r)), (0, .ref R), (1, .int (nI c))]) [1, 0, 2, 3, 4] rfl ?_
          exact ihu (k + 1) _ (by omega) (by rw [h2, trIn])
      refine v_iload_n g dX6_treeIn_5 1 rfl ?_
      refine v_aload_n g dX6_treeIn_6 2 rfl ?_
      refine v_get g dX6_treeIn_7 fl_RX6_13 (rd_M R _ _) rfl ?_
      refine v_iconst (v := 2) g dX6_treeIn_10 (by decide) ?_
      refine v_iald g dX6_treeIn_11 (rd_MA1 R _ _) (by unfold vp_in; decide) (v_eqi (y := (nI ((D.2 1) 2))) rfl ?_)
      refine v_icmp_ge (tgt := 68) g dX6_treeIn_12 (by decide) (fun h12 => absurd h12 (nI_ge (a := r) (b := (D.2 1) 2) (by omega) (by omega))) (fun h12 => ?_)
      refine v_iconst (v := 0) g dX6_treeIn_15 (by decide) ?_
      refine v_istore (ls' := [(4, .int 0), (2, .int f), (3, .int (nI r)), (0, .ref R), (1, .int (nI c))]) g dX6_treeIn_16 rfl rfl ?_
      refine v_sub (ls' := [(2, .int f), (4, .int 0), (3, .int (nI r)), (0, .ref R), (1, .int (nI c))]) [1, 0, 2, 3, 4] rfl ?_
      exact inner ((D.2 4) (8 + r)) 0 f (by omega) (by rw [he, trOut])
  refine v_sub (ls' := [(0, .ref R), (1, .int (nI c))]) [0, 1] rfl ?_
  refine v_bipush (v := (-4)) g dX6_treeIn_0 (by decide) ?_
  refine v_istore_n (ls' := [(2, .int (-4)), (0, .ref R), (1, .int (nI c))]) g dX6_treeIn_2 rfl rfl ?_
  refine v_iconst (v := 0) g dX6_treeIn_3 (by decide) ?_
  refine v_istore_n (ls' := [(3, .int 0), (2, .int (-4)), (0, .ref R), (1, .int (nI c))]) g dX6_treeIn_4 rfl rfl ?_
  refine v_sub (ls' := [(2, .int (-4)), (3, .int 0), (0, .ref R), (1, .int (nI c))]) [1, 0, 2, 3] rfl ?_
  exact loop ((D.2 1) 2) 0 (-4) (by omega) rfl
theorem k_X6_beside (hO : OkS (D.2 1) (D.2 4)) {c : Nat} (hc : c < 36) (d : Int32) : Ctr l G 0 0 0 0 mX6_beside [.ref R, .int (nI c), .int d] n (rem R D ρ) (some (.int (besM (D.2 1) c d))) n (rem R D ρ) := by
  obtain ⟨o1, o2, o3, o4, o5, o6, o7, o8, o9, o10, o11⟩ := id hO
  refine Ctr.of (by decide +kernel) rfl (fun X g E => ?_)
  refine v_sub (ls' := [(0, .ref R), (1, .int (nI c)), (2, .int d)]) [0, 1, 2] rfl ?_
  refine v_aload_n g dX6_beside_0 0 rfl ?_
  refine v_get g dX6_beside_1 fl_RX6_13 (rd_M R _ _) rfl ?_
  refine v_iconst (v := 1) g dX6_beside_4 (by decide) ?_
  refine v_iald g dX6_beside_5 (rd_MA1 R _ _) (by unfold vp_in; decide) (v_eqi (y := (nI ((D.2 1) 1))) rfl ?_)
  refine v_istore_n (ls' := [(3, .int (nI ((D.2 1) 1))), (0, .ref R), (1, .int (nI c)), (2, .int d)]) g dX6_beside_6 rfl rfl ?_
  refine v_iload_n g dX6_beside_7 3 rfl ?_
  by_cases h8_0 : d = 0
  · skip
    refine v_tableIn (tgt := 36) (off := 28) g dX6_beside_8 (by rw [h8_0]; decide) (by rw [h8_0]; rfl) (by decide) ?_
    refine v_iload_n g dX6_beside_36 2 rfl ?_
    refine v_iload_n g dX6_beside_37 0 rfl ?_
    refine v_isub g dX6_beside_38 ?_
    refine v_if_lt (tgt := 48) g dX6_beside_39 (by decide) (fun h39 => ?_) (fun h39 => ?_)
    · skip
      refine v_bipush (v := (-4)) g dX6_beside_48 (by decide) ?_
      exact v_iret g E dX6_beside_50 rfl ⟨by simp [besM, *], rfl, rfl⟩
    · skip
      refine v_iload_n g dX6_beside_42 2 rfl ?_
      refine v_iload_n g dX6_beside_43 0 rfl ?_
      refine v_isub g dX6_beside_44 ?_
      refine v_goto (tgt := 50) g dX6_beside_45 (by decide) ?_
      exact v_iret g E dX6_beside_50 rfl ⟨by simp [besM, *], rfl, rfl⟩
  by_cases h8_1 : d = 1
  · skip
    refine v_tableIn (tgt := 51) (off := 43) g dX6_beside_8 (by rw [h8_1]; decide) (by rw [h8_1]; rfl) (by decide) ?_
    refine v_iload_n g dX6_beside_51 2 rfl ?_
    refine v_iload_n g dX6_beside_52 0 rfl ?_
    refine v_irem g dX6_beside_53 (nI_ne0 (by omega) (by omega)) ?_
    refine v_iload_n g dX6_beside_54 0 rfl ?_
    refine v_iconst (v := 1) g dX6_beside_55 (by decide) ?_
    refine v_isub g dX6_beside_56 ?_
    refine v_icmp_ge (tgt := 66) g dX6_beside_57 (by decide) (fun h57 => ?_) (fun h57 => ?_)
    · skip
      refine v_bipush (v := (-4)) g dX6_beside_66 (by decide) ?_
      exact v_iret g E dX6_beside_68 rfl ⟨by simp [besM, *], rfl, rfl⟩
    · skip
      refine v_iload_n g dX6_beside_60 2 rfl ?_
      refine v_iconst (v := 1) g dX6_beside_61 (by decide) ?_
      refine v_iadd g dX6_beside_62 (v_eqi (y := nI (c + 1)) (nI_addE rfl rfl) ?_)
      refine v_goto (tgt := 68) g dX6_beside_63 (by decide) ?_
      exact v_iret g E dX6_beside_68 rfl ⟨by simp [besM, *], rfl, rfl⟩
  by_cases h8_2 : d = 2
  · skip
    refine v_tableIn (tgt := 69) (off := 61) g dX6_beside_8 (by rw [h8_2]; decide) (by rw [h8_2]; rfl) (by decide) ?_
    refine v_iload_n g dX6_beside_69 2 rfl ?_
    refine v_iload_n g dX6_beside_70 0 rfl ?_
    refine v_iadd g dX6_beside_71 (v_eqi (y := nI (c + ((D.2 1) 1))) (nI_addE rfl rfl) ?_)
    refine v_aload_n g dX6_beside_72 1 rfl ?_
    refine v_get g dX6_beside_73 fl_RX6_13 (rd_M R _ _) rfl ?_
    refine v_iconst (v := 0) g dX6_beside_76 (by decide) ?_
    refine v_iald g dX6_beside_77 (rd_MA1 R _ _) (by unfold vp_in; decide) (v_eqi (y := (nI ((D.2 1) 0))) rfl ?_)
    refine v_icmp_ge (tgt := 87) g dX6_beside_78 (by decide) (fun h78 => ?_) (fun h78 => ?_)
    · skip
      refine v_bipush (v := (-4)) g dX6_beside_87 (by decide) ?_
      exact v_iret g E dX6_beside_89 rfl ⟨by simp [besM, *], rfl, rfl⟩
    · skip
      refine v_iload_n g dX6_beside_81 2 rfl ?_
      refine v_iload_n g dX6_beside_82 0 rfl ?_
      refine v_iadd g dX6_beside_83 (v_eqi (y := nI (c + ((D.2 1) 1))) (nI_addE rfl rfl) ?_)
      refine v_goto (tgt := 89) g dX6_beside_84 (by decide) ?_
      exact v_iret g E dX6_beside_89 rfl ⟨by simp [besM, *], rfl, rfl⟩
  refine v_tableOut (tgt := 90) g dX6_beside_8 (by have q0 := lv_neT (a := 0) h8_0 rfl; have q1 := lv_neT (a := 1) h8_1 rfl; have q2 := lv_neT (a := 2) h8_2 rfl; omega) (by decide) ?_
  refine v_iload_n g dX6_beside_90 2 rfl ?_
  refine v_iload_n g dX6_beside_91 0 rfl ?_
  refine v_irem g dX6_beside_92 (nI_ne0 (by omega) (by omega)) ?_
  refine v_if_le (tgt := 102) g dX6_beside_93 (by decide) (fun h93 => ?_) (fun h93 => ?_)
  · skip
    refine v_bipush (v := (-4)) g dX6_beside_102 (by decide) ?_
    exact v_iret g E dX6_beside_104 rfl ⟨by simp [besM, *], rfl, rfl⟩
  · skip
    refine v_iload_n g dX6_beside_96 2 rfl ?_
    refine v_iconst (v := 1) g dX6_beside_97 (by decide) ?_
    refine v_isub g dX6_beside_98 ?_
    refine v_goto (tgt := 104) g dX6_beside_99 (by decide) ?_
    exact v_iret g E dX6_beside_104 rfl ⟨by simp [besM, *], rfl, rfl⟩
end R2
