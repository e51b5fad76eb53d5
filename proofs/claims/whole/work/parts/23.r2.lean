/-! THE REFERENCE: what stands where -/
def OkS (t s : Nat → Nat) : Prop := t 2 ≤ 3 ∧ t 0 ≤ 36 ∧ 1 ≤ t 1 ∧ t 1 ≤ 6 ∧ (∀ r, r < 3 → s (8 + r) ≤ 4) ∧ (∀ r, r < 3 → ∀ k, k < 4 → s (11 + 4 * r + k) < 36) ∧ (∀ i, i < 36 → t (39 + i) < 4) ∧ (∀ r, r < 3 → s (5 + r) < 4) ∧ (∀ r, r < t 2 → 1 ≤ s (8 + r)) ∧ (∀ r, r < t 2 → ∀ k, k < s (8 + r) → s (11 + 4 * r + k) < t 0) ∧ t 0 % t 1 = 0
def trIn (s : Nat → Nat) (c r : Nat) : Nat → Nat → Int32 → Int32
  | 0, _, f => f
  | q + 1, k, f => trIn s c r q (k + 1) (if nI (s (11 + 4 * r + k)) = nI c then nI r else f)
def trOut (s : Nat → Nat) (c : Nat) : Nat → Nat → Int32 → Int32
  | 0, _, f => f
  | q + 1, r, f => trOut s c q (r + 1) (trIn s c r (s (8 + r)) 0 f)
def treeM (t s : Nat → Nat) (c : Nat) : Int32 := trOut s c (t 2) 0 (-4)
def besM (t : Nat → Nat) (c : Nat) (d : Int32) : Int32 := if d = 0 then (if nI c - nI (t 1) < 0 then -4 else nI c - nI (t 1)) else if d = 1 then (if nI (t 1) - 1 ≤ nI c % nI (t 1) then -4 else nI (c + 1)) else if d = 2 then (if nI (t 0) ≤ nI (c + t 1) then -4 else nI (c + t 1)) else (if nI c % nI (t 1) ≤ 0 then -4 else nI c - 1)
def sortM (t : Nat → Nat) (c : Int32) : Int32 := if c = -4 then 3 else nI (t (3 + c.toNatClampNeg))
def mayM (t : Nat → Nat) (r : Nat) (c : Int32) : Bool := if sortM t c = 0 then true else if sortM t c = 1 then true else if sortM t c = 2 then (if nI (t (75 + r)) = 3 then true else false) else false
def openM (t s : Nat → Nat) (r : Nat) (c : Int32) : Bool := if mayM t r c = true then (if nI (s (23 + c.toNatClampNeg)) = 0 then (if treeM t s c.toNatClampNeg = -4 then true else false) else false) else false
def mayDigM (t s : Nat → Nat) (c : Nat) : Bool := if nI (t (3 + c)) = 0 then (if nI (s (23 + c)) = 0 then (if treeM t s c = -4 then true else false) else false) else false
def coFrom (s : Nat → Nat) (w : Int32) : Nat → Nat → Int32 → Int32
  | 0, _, v => v
  | q + 1, c, v => coFrom s w q (c + 1) (v + (if nI (s (23 + c)) = w then 1 else 0))
def countM (t s : Nat → Nat) (w : Int32) : Int32 := coFrom s w (t 0) 0 0
def turnM (t : Nat → Nat) (r : Nat) : Nat := if nI (t (75 + r)) = 1 then 3 else 1
theorem turnM_le (t : Nat → Nat) (r : Nat) : turnM t r ≤ 3 := by unfold turnM; split <;> decide
def mateQ (t s : Nat → Nat) (c d : Nat) : Int32 := if besM t c (nI d) = -4 then -4 else treeM t s (besM t c (nI d)).toNatClampNeg
def hmFrom (t s : Nat → Nat) (r c : Nat) : Nat → Nat → Bool → Bool
  | 0, _, b => b
  | q + 1, d, b => hmFrom t s r c q (d + 1) (if b = true then true else if mateQ t s c d = -4 then false else if mateQ t s c d = nI r then false else true)
def mateM (t s : Nat → Nat) (r c : Nat) : Bool := hmFrom t s r c 4 0 false
def headM (t s : Nat → Nat) (r : Nat) : Int32 := if (nI (t (75 + r)) = 2 ∧ nI (s 0) % 2 = 1) then -4 else if openM t s r (besM t (s (11 + 4 * r)) (nI (s (5 + r)))) = true then nI (s (5 + r)) else if openM t s r (besM t (s (11 + 4 * r)) (nI (s (5 + r) + turnM t r) % 4)) = true then nI (s (5 + r) + turnM t r) % 4 else if openM t s r (besM t (s (11 + 4 * r)) (nI (s (5 + r) + 4 - turnM t r) % 4)) = true then nI (s (5 + r) + 4 - turnM t r) % 4 else -4
theorem bes_d0 : ∀ c, c < 36 → ∀ w, w < 7 → 1 ≤ w → c < w → nI c - nI w < 0 := by decide +kernel
theorem bes_d1 : ∀ T, T < 37 → ∀ c, c < T → ∀ w, w < 7 → (1 ≤ w ∧ T % w = 0 ∧ ¬ nI w - 1 ≤ nI c % nI w) → c + 1 < T := by decide +kernel
theorem bes_d3 : ∀ c, c < 36 → ∀ w, w < 7 → 1 ≤ w → ¬ nI c % nI w ≤ 0 → 1 ≤ c := by decide +kernel
/-- what lies beside is none, or a cell -/
theorem bes_ok {t s : Nat → Nat} (hO : OkS t s) {c : Nat} (hc : c < t 0) (d : Int32) : besM t c d = -4 ∨ ∃ c0 : Nat, c0 < t 0 ∧ besM t c d = nI c0 := by
  obtain ⟨o1, o2, o3, o4, o5, o6, o7, o8, o9, o10, o11⟩ := hO
  unfold besM
  split
  · split
    · exact Or.inl rfl
    · rename_i h
      rcases Nat.lt_or_ge c (t 1) with q | q
      · exact absurd (bes_d0 c (by omega) (t 1) (by omega) o3 q) h
      · exact Or.inr ⟨c - t 1, by omega, nI_subE rfl rfl q⟩
  · split
    · split
      · exact Or.inl rfl
      · rename_i h
        exact Or.inr ⟨c + 1, bes_d1 (t 0) (by omega) c hc (t 1) (by omega) ⟨o3, o11, h⟩, rfl⟩
    · split
      · split
        · exact Or.inl rfl
        · rename_i h
          rcases Nat.lt_or_ge (c + t 1) (t 0) with q | q
          · exact Or.inr ⟨c + t 1, q, rfl⟩
          · exact absurd (nI_le q (by omega)) h
      · split
        · exact Or.inl rfl
        · rename_i h
          have h1 := bes_d3 c (by omega) (t 1) (by omega) o3 h
          exact Or.inr ⟨c - 1, by omega, nI_subE rfl rfl h1⟩
theorem bes_ok36 {t s : Nat → Nat} (hO : OkS t s) {c : Nat} (hc : c < t 0) (d : Int32) : besM t c d = -4 ∨ ∃ c0 : Nat, c0 < 36 ∧ besM t c d = nI c0 := by
  rcases bes_ok hO hc d with h | ⟨c0, h1, h2⟩
  · exact Or.inl h
  · exact Or.inr ⟨c0, by have := hO.2.1; omega, h2⟩
section R2
variable {l : Launch} {G : GG} {n : Nat} {R : Nat} {D : MS} {ρ : Mu}
theorem k_X6_lies {c : Nat} (hc : c < 36) : Ctr l G 0 0 0 0 mX6_lies [.ref R, .int (nI c)] n (rem R D ρ) (some (.int (nI ((D.2 4) (23 + c))))) n (rem R D ρ) := by
  refine Ctr.of (by decide +kernel) rfl (fun X g E => ?_)
  refine v_sub (ls' := [(0, .ref R), (1, .int (nI c))]) [0, 1] rfl ?_
  refine v_aload_n g dX6_lies_0 0 rfl ?_
  refine v_get g dX6_lies_1 fl_RX6_22 (rd_M R _ _) rfl ?_
  refine v_bipush (v := 23) g dX6_lies_4 (by decide) ?_
  refine v_iload_n g dX6_lies_6 1 rfl ?_
  refine v_iadd g dX6_lies_7 (v_eqi (y := nI (23 + c)) (nI_addE rfl rfl) ?_)
  refine v_iald g dX6_lies_8 (rd_MA4 R _ _) (vp_in_nI (by omega) (by decide)) (v_eqi (y := (nI ((D.2 4) (23 + c)))) (by first | (rw [nI_clamp (by omega)]; done) | (rw [nI_clamp (by omega)]; rfl)) ?_)
  exact v_iret g E dX6_lies_9 rfl ⟨by rfl, rfl, rfl⟩
theorem k_X6_treeIn (hO : OkS (D.2 1) (D.2 4)) {c : Nat} : Ctr l G 0 0 0 0 mX6_treeIn [.ref R, .int (nI c)] n (rem R D ρ) (some (.int (treeM (D.2 1) (D.2 4) c))) n (rem R D ρ) := by
  obtain ⟨o1, o2, o3, o4, o5, o6, o7, o8, o9, o10, o11⟩ := id hO
  refine Ctr.of (by decide +kernel) rfl (fun X g E => ?_)
  have loop : ∀ (q r : Nat) (f : Int32), r + q = (D.2 1) 2 → treeM (D.2 1) (D.2 4) c = trOut (D.2 4) c q r f → V X 0 0 n (rem R D ρ) 5 [(2, .int f), (3, .int (nI r)), (0, .ref R), (1, .int (nI c))] [] := by
    intro q
    induction q with
    | zero =>
      intro r f hq he
      refine v_iload_n g dX6_treeIn_5 1 rfl ?_
      refine v_aload_n g dX6_treeIn_6 2 rfl ?_
      refine v_get g dX6_treeIn_7 fl_RX6_13 (rd_M R _ _) rfl ?_
      refine v_iconst (v := 2) g dX6_treeIn_10 (by decide) ?_
      refine v_iald g dX6_treeIn_11 (rd_MA1 R _ _) (by unfold vp_in; decide) (v_eqi (y := (nI ((D.2 1) 2))) rfl ?_)
      refine v_icmp_ge (tgt := 68) g dX6_treeIn_12 (by decide) (fun h12 => ?_) (fun h12 => absurd (nI_le (a := (D.2 1) 2) (b := r) (by omega) (by omega)) h12)
      refine v_iload_n g dX6_treeIn_68 0 rfl ?_
      exact v_iret g E dX6_treeIn_69 rfl ⟨by rw [he]; rfl, rfl, rfl⟩
    | succ q ih =>
      intro r f hq he
      have o5r := o5 r (by omega)
      have inner : ∀ (u k : Nat) (f : Int32), k + u = (D.2 4) (8 + r) → treeM (D.2 1) (D.2 4) c = trOut (D.2 4) c q (r + 1) (trIn (D.2 4) c r u k f) → V X 0 0 n (rem R D ρ) 18 [(2, .int f), (4, .int (nI k)), (3, .int (nI r)), (0, .ref R), (1, .int (nI c))] [] := by
        intro u
        induction u with
        | zero =>
          intro k f hu h2
          refine v_iload g dX6_treeIn_18 1 rfl ?_
          refine v_aload_n g dX6_treeIn_20 3 rfl ?_
          refine v_get g dX6_treeIn_21 fl_RX6_22 (rd_M R _ _) rfl ?_
          refine v_bipush (v := 8) g dX6_treeIn_24 (by decide) ?_
          refine v_iload_n g dX6_treeIn_26 2 rfl ?_
          refine v_iadd g dX6_treeIn_27 (v_eqi (y := nI (8 + r)) (nI_addE rfl rfl) ?_)
          refine v_iald g dX6_treeIn_28 (rd_MA4 R _ _) (vp_in_nI (by omega) (by decide)) (v_eqi (y := (nI ((D.2 4) (8 + r)))) (by first | (rw [nI_clamp (by omega)]; done) | (rw [nI_clamp (by omega)]; rfl)) ?_)
          refine v_icmp_ge (tgt := 62) g dX6_treeIn_29 (by decide) (fun h29 => ?_) (fun h29 => absurd (nI_le (a := (D.2 4) (8 + r)) (b := k) (by omega) (by omega)) h29)
          refine v_iinc (v := (nI (r + 1))) (ls' := [(3, .int (nI (r + 1))), (2, .int f), (4, .int (nI k)), (0, .ref R), (1, .int (nI c))]) g dX6_treeIn_62 2 rfl (nI_addE rfl rfl) rfl rfl ?_
          refine v_goto (tgt := 5) g dX6_treeIn_65 (by decide) ?_
          refine v_sub (ls' := [(2, .int f), (3, .int (nI (r + 1))), (0, .ref R), (1, .int (nI c))]) [1, 0, 3, 4] rfl ?_
          exact ih (r + 1) _ (by omega) (by rw [h2, trIn])
        | succ u ihu =>
          intro k f hu h2
          refine v_iload g dX6_treeIn_18 1 rfl ?_
          refine v_aload_n g dX6_treeIn_20 3 rfl ?_
          refine v_get g dX6_treeIn_21 fl_RX6_22 (rd_M R _ _) rfl ?_
          refine v_bipush (v := 8) g dX6_treeIn_24 (by decide) ?_
          refine v_iload_n g dX6_treeIn_26 2 rfl ?_
          refine v_iadd g dX6_treeIn_27 (v_eqi (y := nI (8 + r)) (nI_addE rfl rfl) ?_)
          refine v_iald g dX6_treeIn_28 (rd_MA4 R _ _) (vp_in_nI (by omega) (by decide)) (v_eqi (y := (nI ((D.2 4) (8 + r)))) (by first | (rw [nI_clamp (by omega)]; done) | (rw [nI_clamp (by omega)]; rfl)) ?_)
          refine v_icmp_ge (tgt := 62) g dX6_treeIn_29 (by decide) (fun h29 => absurd h29 (nI_ge (a := k) (b := (D.2 4) (8 + r)) (by omega) (by omega))) (fun h29 => ?_)
          refine v_aload_n g dX6_treeIn_32 3 rfl ?_
          refine v_get g dX6_treeIn_33 fl_RX6_22 (rd_M R _ _) rfl ?_
          refine v_bipush (v := 11) g dX6_treeIn_36 (by decide) ?_
          refine v_iconst (v := 4) g dX6_treeIn_38 (by decide) ?_
          refine v_iload_n g dX6_treeIn_39 2 rfl ?_
          refine v_imul g dX6_treeIn_40 (v_eqi (y := nI (4 * r)) (nI_mulE rfl rfl) ?_)
          refine v_iadd g dX6_treeIn_41 (v_eqi (y := nI (11 + (4 * r))) (nI_addE rfl rfl) ?_)
          refine v_iload g dX6_treeIn_42 1 rfl ?_
          refine v_iadd g dX6_treeIn_44 (v_eqi (y := nI ((11 + (4 * r)) + k)) (nI_addE rfl rfl) ?_)
          refine v_iald g dX6_treeIn_45 (rd_MA4 R _ _) (vp_in_nI (by omega) (by decide)) (v_eqi (y := (nI ((D.2 4) ((11 + (4 * r)) + k)))) (by first | (rw [nI_clamp (by omega)]; done) | (rw [nI_clamp (by omega)]; rfl)) ?_)
          refine v_iload_n g dX6_treeIn_46 4 rfl ?_
          refine v_icmp_ne_d (tgt := 54) (u := f) (v := nI r) 55 g dX6_treeIn_47 (by decide) (fun h47 K => ?_) (fun h47 K => ?_) ?_
          · skip
            refine v_iload_n g dX6_treeIn_54 0 rfl ?_
            exact K
          · skip
            refine v_iload_n g dX6_treeIn_50 2 rfl ?_
            refine v_goto (tgt := 55) g dX6_treeIn_51 (by decide) ?_
            exact K
          refine v_istore_n (ls' := [(2, .int (if (nI ((D.2 4) ((11 + (4 * r)) + k))) = nI c then nI r else f)), (4, .int (nI k)), (3, .int (nI r)), (0, .ref R), (1, .int (nI c))]) g dX6_treeIn_55 rfl rfl ?_
          refine v_iinc (v := (nI (k + 1))) (ls' := [(4, .int (nI (k + 1))), (2, .int (if (nI ((D.2 4) ((11 + (4 * r)) + k))) = nI c then nI r else f)), (3, .int (nI r)), (0, .ref R), (1, .int (nI c))]) g dX6_treeIn_56 1 rfl (nI_addE rfl rfl) rfl rfl ?_
          refine v_goto (tgt := 18) g dX6_treeIn_59 (by decide) ?_
          refine v_sub (ls' := [(2, .int (if (nI ((D.2 4) ((11 + (4 * r)) + k))) = nI c then nI r else f)), (4, .int (nI (k + 1))), (3, .int (nI r)), (0, .ref R), (1, .int (nI c))]) [1, 0, 2, 3, 4] rfl ?_
          exact ihu (k + 1) _ (by omega) (by rw [h2, trIn])
      refine v_iload_n g dX6_treeIn_5 1 rfl ?_
      refine v_aload_n g dX6_treeIn_6 2 rfl ?_
      refine v_get g dX6_treeIn_7 fl_RX6_13 (rd_M R _ _) rfl ?_
      refine v_iconst (v := 2) g dX6_treeIn_10 (by decide) ?_
      refine v_iald g dX6_treeIn_11 (rd_MA1 R _ _) (by unfold vp_in; decide) (v_eqi (y := (nI ((D.2 1) 2))) rfl ?_)
      refine v_icmp_ge (tgt := 68) g dX6_treeIn_12 (by decide) (fun h12 => absurd h12 (nI_ge (a := r) (b := (D.2 1) 2) (by omega) (by omega))) (fun h12 => ?_)
      refine v_iconst (v := 0) g dX6_treeIn_15 (by decide) ?_
      refine v_istore (ls' := [(4, .int 0), (2, .int f), (3, .int (nI r)), (0, .ref R), (1, .int (nI c))]) g dX6_treeIn_16 rfl rfl ?_
      refine v_sub (ls' := [(2, .int f), (4, .int 0), (3, .int (nI r)), (0, .ref R), (1, .int (nI c))]) [1, 0, 2, 3, 4] rfl ?_
      exact inner ((D.2 4) (8 + r)) 0 f (by omega) (by rw [he, trOut])
  refine v_sub (ls' := [(0, .ref R), (1, .int (nI c))]) [0, 1] rfl ?_
  refine v_bipush (v := (-4)) g dX6_treeIn_0 (by decide) ?_
  refine v_istore_n (ls' := [(2, .int (-4)), (0, .ref R), (1, .int (nI c))]) g dX6_treeIn_2 rfl rfl ?_
  refine v_iconst (v := 0) g dX6_treeIn_3 (by decide) ?_
  refine v_istore_n (ls' := [(3, .int 0), (2, .int (-4)), (0, .ref R), (1, .int (nI c))]) g dX6_treeIn_4 rfl rfl ?_
  refine v_sub (ls' := [(2, .int (-4)), (3, .int 0), (0, .ref R), (1, .int (nI c))]) [1, 0, 2, 3] rfl ?_
  exact loop ((D.2 1) 2) 0 (-4) (by omega) rfl
theorem k_X6_beside (hO : OkS (D.2 1) (D.2 4)) {c : Nat} (hc : c < 36) (d : Int32) : Ctr l G 0 0 0 0 mX6_beside [.ref R, .int (nI c), .int d] n (rem R D ρ) (some (.int (besM (D.2 1) c d))) n (rem R D ρ) := by
  obtain ⟨o1, o2, o3, o4, o5, o6, o7, o8, o9, o10, o11⟩ := id hO
  refine Ctr.of (by decide +kernel) rfl (fun X g E => ?_)
  refine v_sub (ls' := [(0, .ref R), (1, .int (nI c)), (2, .int d)]) [0, 1, 2] rfl ?_
  refine v_aload_n g dX6_beside_0 0 rfl ?_
  refine v_get g dX6_beside_1 fl_RX6_13 (rd_M R _ _) rfl ?_
  refine v_iconst (v := 1) g dX6_beside_4 (by decide) ?_
  refine v_iald g dX6_beside_5 (rd_MA1 R _ _) (by unfold vp_in; decide) (v_eqi (y := (nI ((D.2 1) 1))) rfl ?_)
  refine v_istore_n (ls' := [(3, .int (nI ((D.2 1) 1))), (0, .ref R), (1, .int (nI c)), (2, .int d)]) g dX6_beside_6 rfl rfl ?_
  refine v_iload_n g dX6_beside_7 3 rfl ?_
  by_cases h8_0 : d = 0
  · skip
    refine v_tableIn (tgt := 36) (off := 28) g dX6_beside_8 (by rw [h8_0]; decide) (by rw [h8_0]; rfl) (by decide) ?_
    refine v_iload_n g dX6_beside_36 2 rfl ?_
    refine v_iload_n g dX6_beside_37 0 rfl ?_
    refine v_isub g dX6_beside_38 ?_
    refine v_if_lt (tgt := 48) g dX6_beside_39 (by decide) (fun h39 => ?_) (fun h39 => ?_)
    · skip
      refine v_bipush (v := (-4)) g dX6_beside_48 (by decide) ?_
      exact v_iret g E dX6_beside_50 rfl ⟨by simp [besM, *], rfl, rfl⟩
    · skip
      refine v_iload_n g dX6_beside_42 2 rfl ?_
      refine v_iload_n g dX6_beside_43 0 rfl ?_
      refine v_isub g dX6_beside_44 ?_
      refine v_goto (tgt := 50) g dX6_beside_45 (by decide) ?_
      exact v_iret g E dX6_beside_50 rfl ⟨by simp [besM, *], rfl, rfl⟩
  by_cases h8_1 : d = 1
  · skip
    refine v_tableIn (tgt := 51) (off := 43) g dX6_beside_8 (by rw [h8_1]; decide) (by rw [h8_1]; rfl) (by decide) ?_
    refine v_iload_n g dX6_beside_51 2 rfl ?_
    refine v_iload_n g dX6_beside_52 0 rfl ?_
    refine v_irem g dX6_beside_53 (nI_ne0 (by omega) (by omega)) ?_
    refine v_iload_n g dX6_beside_54 0 rfl ?_
    refine v_iconst (v := 1) g dX6_beside_55 (by decide) ?_
    refine v_isub g dX6_beside_56 ?_
    refine v_icmp_ge (tgt := 66) g dX6_beside_57 (by decide) (fun h57 => ?_) (fun h57 => ?_)
    · skip
      refine v_bipush (v := (-4)) g dX6_beside_66 (by decide) ?_
      exact v_iret g E dX6_beside_68 rfl ⟨by simp [besM, *], rfl, rfl⟩
    · skip
      refine v_iload_n g dX6_beside_60 2 rfl ?_
      refine v_iconst (v := 1) g dX6_beside_61 (by decide) ?_
      refine v_iadd g dX6_beside_62 (v_eqi (y := nI (c + 1)) (nI_addE rfl rfl) ?_)
      refine v_goto (tgt := 68) g dX6_beside_63 (by decide) ?_
      exact v_iret g E dX6_beside_68 rfl ⟨by simp [besM, *], rfl, rfl⟩
  by_cases h8_2 : d = 2
  · skip
    refine v_tableIn (tgt := 69) (off := 61) g dX6_beside_8 (by rw [h8_2]; decide) (by rw [h8_2]; rfl) (by decide) ?_
    refine v_iload_n g dX6_beside_69 2 rfl ?_
    refine v_iload_n g dX6_beside_70 0 rfl ?_
    refine v_iadd g dX6_beside_71 (v_eqi (y := nI (c + ((D.2 1) 1))) (nI_addE rfl rfl) ?_)
    refine v_aload_n g dX6_beside_72 1 rfl ?_
    refine v_get g dX6_beside_73 fl_RX6_13 (rd_M R _ _) rfl ?_
    refine v_iconst (v := 0) g dX6_beside_76 (by decide) ?_
    refine v_iald g dX6_beside_77 (rd_MA1 R _ _) (by unfold vp_in; decide) (v_eqi (y := (nI ((D.2 1) 0))) rfl ?_)
    refine v_icmp_ge (tgt := 87) g dX6_beside_78 (by decide) (fun h78 => ?_) (fun h78 => ?_)
    · skip
      refine v_bipush (v := (-4)) g dX6_beside_87 (by decide) ?_
      exact v_iret g E dX6_beside_89 rfl ⟨by simp [besM, *], rfl, rfl⟩
    · skip
      refine v_iload_n g dX6_beside_81 2 rfl ?_
      refine v_iload_n g dX6_beside_82 0 rfl ?_
      refine v_iadd g dX6_beside_83 (v_eqi (y := nI (c + ((D.2 1) 1))) (nI_addE rfl rfl) ?_)
      refine v_goto (tgt := 89) g dX6_beside_84 (by decide) ?_
      exact v_iret g E dX6_beside_89 rfl ⟨by simp [besM, *], rfl, rfl⟩
  refine v_tableOut (tgt := 90) g dX6_beside_8 (by have q0 := lv_neT (a := 0) h8_0 rfl; have q1 := lv_neT (a := 1) h8_1 rfl; have q2 := lv_neT (a := 2) h8_2 rfl; omega) (by decide) ?_
  refine v_iload_n g dX6_beside_90 2 rfl ?_
  refine v_iload_n g dX6_beside_91 0 rfl ?_
  refine v_irem g dX6_beside_92 (nI_ne0 (by omega) (by omega)) ?_
  refine v_if_le (tgt := 102) g dX6_beside_93 (by decide) (fun h93 => ?_) (fun h93 => ?_)
  · skip
    refine v_bipush (v := (-4)) g dX6_beside_102 (by decide) ?_
    exact v_iret g E dX6_beside_104 rfl ⟨by simp [besM, *], rfl, rfl⟩
  · skip
    refine v_iload_n g dX6_beside_96 2 rfl ?_
    refine v_iconst (v := 1) g dX6_beside_97 (by decide) ?_
    refine v_isub g dX6_beside_98 ?_
    refine v_goto (tgt := 104) g dX6_beside_99 (by decide) ?_
    exact v_iret g E dX6_beside_104 rfl ⟨by simp [besM, *], rfl, rfl⟩
theorem k_X6_isOpen (hO : OkS (D.2 1) (D.2 4)) {r : Nat} (hr : r < 3) {c : Int32} (hc : c = -4 ∨ ∃ c0 : Nat, c0 < 36 ∧ c = nI c0) : Ctr l G 1 24 0 0 mX6_isOpen [.ref R, .int (nI r), .int c] n (rem R D ρ) (some (.int (zB (openM (D.2 1) (D.2 4) r c)))) n (rem R D ρ) := by
  obtain ⟨o1, o2, o3, o4, o5, o6, o7, o8, o9, o10, o11⟩ := id hO
  refine Ctr.of (by decide +kernel) rfl (fun X g E => ?_)
  refine v_sub (ls' := [(0, .ref R), (1, .int (nI r)), (2, .int c)]) [0, 1, 2] rfl ?_
  refine v_iload_n g dX6_isOpen_0 2 rfl ?_
  refine v_bipush (v := (-4)) g dX6_isOpen_1 (by decide) ?_
  refine v_icmp_ne_d (tgt := 10) (u := nI ((D.2 1) (3 + c.toNatClampNeg))) (v := 3) 18 g dX6_isOpen_3 (by decide) (fun h3 K => ?_) (fun h3 K => ?_) ?_
  · skip
    refine v_aload_n g dX6_isOpen_10 0 rfl ?_
    refine v_get g dX6_isOpen_11 fl_RX6_13 (rd_M R _ _) rfl ?_
    refine v_iconst (v := 3) g dX6_isOpen_14 (by decide) ?_
    refine v_iload_n g dX6_isOpen_15 2 rfl ?_
    obtain ⟨c0, hc0, ec⟩ := hc.resolve_left h3
    refine v_eqi ec ?_
    refine v_iadd g dX6_isOpen_16 (v_eqi (y := nI (3 + c0)) (nI_addE rfl rfl) ?_)
    refine v_iald g dX6_isOpen_17 (rd_MA1 R _ _) (vp_in_nI (by omega) (by decide)) (v_eqi (y := (nI ((D.2 1) (3 + c0)))) (by first | (rw [nI_clamp (by omega)]; done) | (rw [nI_clamp (by omega)]; rfl)) ?_)
    first | exact K | (subst ec; rw [nI_clamp (by omega)] at K; exact K)
  · skip
    refine v_iconst (v := 3) g dX6_isOpen_6 (by decide) ?_
    refine v_goto (tgt := 18) g dX6_isOpen_7 (by decide) ?_
    first | exact K | (subst ec; rw [nI_clamp (by omega)] at K; exact K)
  refine v_eqi (y := sortM (D.2 1) c) rfl ?_
  refine v_istore_n (ls' := [(3, .int (sortM (D.2 1) c)), (0, .ref R), (1, .int (nI r)), (2, .int c)]) g dX6_isOpen_18 rfl rfl ?_
  refine v_iload_n g dX6_isOpen_19 0 rfl ?_
  refine v_if_eq (tgt := 46) g dX6_isOpen_20 (by decide) (fun h20 => ?_) (fun h20 => ?_)
  · skip
    refine v_iconst (v := 1) g dX6_isOpen_46 (by decide) ?_
    refine v_goto (tgt := 51) g dX6_isOpen_47 (by decide) ?_
    refine v_istore (ls' := [(4, .int 1), (3, .int (sortM (D.2 1) c)), (0, .ref R), (1, .int (nI r)), (2, .int c)]) g dX6_isOpen_51 rfl rfl ?_
    refine v_iload g dX6_isOpen_53 0 rfl ?_
    refine v_if_eq (tgt := 80) g dX6_isOpen_55 (by decide) (fun h => absurd h (by decide)) (fun _ => ?_)
    obtain ⟨c0, hc0, ec⟩ := hc.resolve_left (fun e => by first | (rw [sortM, if_pos e] at h20; exact absurd h20 (by decide)) | (rw [sortM, if_pos e] at h25; exact absurd h25 (by decide)) | (rw [sortM, if_pos e] at h30; exact absurd h30 (by decide)))
    subst ec
    refine v_aload_n g dX6_isOpen_58 2 rfl ?_
    refine v_iload_n g dX6_isOpen_59 4 rfl ?_
    refine v_callV (As := [.int (nI c0)]) (r := some (.int (nI ((D.2 4) (23 + c0))))) g dX6_isOpen_60 (k_X6_lies (D := D) (c := c0) (by omega)) cl_X6_lies ml_RX6_113 im_X6_lies (rd_M R _ _) rfl rfl ⟨rfl, rfl, rfl⟩ ?_
    refine v_if_ne (tgt := 80) g dX6_isOpen_63 (by decide) (fun h63 => ?_) (fun h63 => ?_)
    · skip
      refine v_iconst (v := 0) g dX6_isOpen_80 (by decide) ?_
      exact v_zret g E dX6_isOpen_81 rfl rfl ⟨by first | (simp [openM, mayM, zB, *]; done) | (simp [openM, mayM, zB, *, nI_clamp (show c0 < 2 ^ 31 by omega)]; done), rfl, rfl⟩
    · skip
      refine v_aload_n g dX6_isOpen_66 2 rfl ?_
      refine v_iload_n g dX6_isOpen_67 4 rfl ?_
      refine v_callV (As := [.int (nI c0)]) (r := some (.int (treeM (D.2 1) (D.2 4) c0))) g dX6_isOpen_68 (k_X6_treeIn (D := D) hO (c := c0)) cl_X6_treeIn ml_RX6_116 im_X6_treeIn (rd_M R _ _) rfl rfl ⟨rfl, rfl, rfl⟩ ?_
      refine v_bipush (v := (-4)) g dX6_isOpen_71 (by decide) ?_
      refine v_icmp_ne (tgt := 80) g dX6_isOpen_73 (by decide) (fun h73 => ?_) (fun h73 => ?_)
      · skip
        refine v_iconst (v := 0) g dX6_isOpen_80 (by decide) ?_
        exact v_zret g E dX6_isOpen_81 rfl rfl ⟨by first | (simp [openM, mayM, zB, *]; done) | (simp [openM, mayM, zB, *, nI_clamp (show c0 < 2 ^ 31 by omega)]; done), rfl, rfl⟩
      · skip
        refine v_iconst (v := 1) g dX6_isOpen_76 (by decide) ?_
        refine v_goto (tgt := 81) g dX6_isOpen_77 (by decide) ?_
        exact v_zret g E dX6_isOpen_81 rfl rfl ⟨by first | (simp [openM, mayM, zB, *]; done) | (simp [openM, mayM, zB, *, nI_clamp (show c0 < 2 ^ 31 by omega)]; done), rfl, rfl⟩
  · skip
    refine v_iload_n g dX6_isOpen_23 0 rfl ?_
    refine v_iconst (v := 1) g dX6_isOpen_24 (by decide) ?_
    refine v_icmp_eq (tgt := 46) g dX6_isOpen_25 (by decide) (fun h25 => ?_) (fun h25 => ?_)
    · skip
      refine v_iconst (v := 1) g dX6_isOpen_46 (by decide) ?_
      refine v_goto (tgt := 51) g dX6_isOpen_47 (by decide) ?_
      refine v_istore (ls' := [(4, .int 1), (3, .int (sortM (D.2 1) c)), (0, .ref R), (1, .int (nI r)), (2, .int c)]) g dX6_isOpen_51 rfl rfl ?_
      refine v_iload g dX6_isOpen_53 0 rfl ?_
      refine v_if_eq (tgt := 80) g dX6_isOpen_55 (by decide) (fun h => absurd h (by decide)) (fun _ => ?_)
      obtain ⟨c0, hc0, ec⟩ := hc.resolve_left (fun e => by first | (rw [sortM, if_pos e] at h20; exact absurd h20 (by decide)) | (rw [sortM, if_pos e] at h25; exact absurd h25 (by decide)) | (rw [sortM, if_pos e] at h30; exact absurd h30 (by decide)))
      subst ec
      refine v_aload_n g dX6_isOpen_58 2 rfl ?_
      refine v_iload_n g dX6_isOpen_59 4 rfl ?_
      refine v_callV (As := [.int (nI c0)]) (r := some (.int (nI ((D.2 4) (23 + c0))))) g dX6_isOpen_60 (k_X6_lies (D := D) (c := c0) (by omega)) cl_X6_lies ml_RX6_113 im_X6_lies (rd_M R _ _) rfl rfl ⟨rfl, rfl, rfl⟩ ?_
      refine v_if_ne (tgt := 80) g dX6_isOpen_63 (by decide) (fun h63_2 => ?_) (fun h63_2 => ?_)
      · skip
        refine v_iconst (v := 0) g dX6_isOpen_80 (by decide) ?_
        exact v_zret g E dX6_isOpen_81 rfl rfl ⟨by first | (simp [openM, mayM, zB, *]; done) | (simp [openM, mayM, zB, *, nI_clamp (show c0 < 2 ^ 31 by omega)]; done), rfl, rfl⟩
      · skip
        refine v_aload_n g dX6_isOpen_66 2 rfl ?_
        refine v_iload_n g dX6_isOpen_67 4 rfl ?_
        refine v_callV (As := [.int (nI c0)]) (r := some (.int (treeM (D.2 1) (D.2 4) c0))) g dX6_isOpen_68 (k_X6_treeIn (D := D) hO (c := c0)) cl_X6_treeIn ml_RX6_116 im_X6_treeIn (rd_M R _ _) rfl rfl ⟨rfl, rfl, rfl⟩ ?_
        refine v_bipush (v := (-4)) g dX6_isOpen_71 (by decide) ?_
        refine v_icmp_ne (tgt := 80) g dX6_isOpen_73 (by decide) (fun h73_2 => ?_) (fun h73_2 => ?_)
        · skip
          refine v_iconst (v := 0) g dX6_isOpen_80 (by decide) ?_
          exact v_zret g E dX6_isOpen_81 rfl rfl ⟨by first | (simp [openM, mayM, zB, *]; done) | (simp [openM, mayM, zB, *, nI_clamp (show c0 < 2 ^ 31 by omega)]; done), rfl, rfl⟩
        · skip
          refine v_iconst (v := 1) g dX6_isOpen_76 (by decide) ?_
          refine v_goto (tgt := 81) g dX6_isOpen_77 (by decide) ?_
          exact v_zret g E dX6_isOpen_81 rfl rfl ⟨by first | (simp [openM, mayM, zB, *]; done) | (simp [openM, mayM, zB, *, nI_clamp (show c0 < 2 ^ 31 by omega)]; done), rfl, rfl⟩
    · skip
      refine v_iload_n g dX6_isOpen_28 0 rfl ?_
      refine v_iconst (v := 2) g dX6_isOpen_29 (by decide) ?_
      refine v_icmp_ne (tgt := 50) g dX6_isOpen_30 (by decide) (fun h30 => ?_) (fun h30 => ?_)
      · skip
        refine v_iconst (v := 0) g dX6_isOpen_50 (by decide) ?_
        refine v_istore (ls' := [(4, .int 0), (3, .int (sortM (D.2 1) c)), (0, .ref R), (1, .int (nI r)), (2, .int c)]) g dX6_isOpen_51 rfl rfl ?_
        refine v_iload g dX6_isOpen_53 0 rfl ?_
        refine v_if_eq (tgt := 80) g dX6_isOpen_55 (by decide) (fun _ => ?_) (fun h => absurd (by decide) h)
        refine v_iconst (v := 0) g dX6_isOpen_80 (by decide) ?_
        exact v_zret g E dX6_isOpen_81 rfl rfl ⟨by first | (simp [openM, mayM, zB, *]; done) | (simp [openM, mayM, zB, *, nI_clamp (show c0 < 2 ^ 31 by omega)]; done), rfl, rfl⟩
      · skip
        refine v_aload_n g dX6_isOpen_33 1 rfl ?_
        refine v_get g dX6_isOpen_34 fl_RX6_13 (rd_M R _ _) rfl ?_
        refine v_bipush (v := 75) g dX6_isOpen_37 (by decide) ?_
        refine v_iload_n g dX6_isOpen_39 2 rfl ?_
        refine v_iadd g dX6_isOpen_40 (v_eqi (y := nI (75 + r)) (nI_addE rfl rfl) ?_)
        refine v_iald g dX6_isOpen_41 (rd_MA1 R _ _) (vp_in_nI (by omega) (by decide)) (v_eqi (y := (nI ((D.2 1) (75 + r)))) (by first | (rw [nI_clamp (by omega)]; done) | (rw [nI_clamp (by omega)]; rfl)) ?_)
        refine v_iconst (v := 3) g dX6_isOpen_42 (by decide) ?_
        refine v_icmp_ne (tgt := 50) g dX6_isOpen_43 (by decide) (fun h43 => ?_) (fun h43 => ?_)
        · skip
          refine v_iconst (v := 0) g dX6_isOpen_50 (by decide) ?_
          refine v_istore (ls' := [(4, .int 0), (3, .int (sortM (D.2 1) c)), (0, .ref R), (1, .int (nI r)), (2, .int c)]) g dX6_isOpen_51 rfl rfl ?_
          refine v_iload g dX6_isOpen_53 0 rfl ?_
          refine v_if_eq (tgt := 80) g dX6_isOpen_55 (by decide) (fun _ => ?_) (fun h => absurd (by decide) h)
          refine v_iconst (v := 0) g dX6_isOpen_80 (by decide) ?_
          exact v_zret g E dX6_isOpen_81 rfl rfl ⟨by first | (simp [openM, mayM, zB, *]; done) | (simp [openM, mayM, zB, *, nI_clamp (show c0 < 2 ^ 31 by omega)]; done), rfl, rfl⟩
        · skip
          refine v_iconst (v := 1) g dX6_isOpen_46 (by decide) ?_
          refine v_goto (tgt := 51) g dX6_isOpen_47 (by decide) ?_
          refine v_istore (ls' := [(4, .int 1), (3, .int (sortM (D.2 1) c)), (0, .ref R), (1, .int (nI r)), (2, .int c)]) g dX6_isOpen_51 rfl rfl ?_
          refine v_iload g dX6_isOpen_53 0 rfl ?_
          refine v_if_eq (tgt := 80) g dX6_isOpen_55 (by decide) (fun h => absurd h (by decide)) (fun _ => ?_)
          obtain ⟨c0, hc0, ec⟩ := hc.resolve_left (fun e => by first | (rw [sortM, if_pos e] at h20; exact absurd h20 (by decide)) | (rw [sortM, if_pos e] at h25; exact absurd h25 (by decide)) | (rw [sortM, if_pos e] at h30; exact absurd h30 (by decide)))
          subst ec
          refine v_aload_n g dX6_isOpen_58 2 rfl ?_
          refine v_iload_n g dX6_isOpen_59 4 rfl ?_
          refine v_callV (As := [.int (nI c0)]) (r := some (.int (nI ((D.2 4) (23 + c0))))) g dX6_isOpen_60 (k_X6_lies (D := D) (c := c0) (by omega)) cl_X6_lies ml_RX6_113 im_X6_lies (rd_M R _ _) rfl rfl ⟨rfl, rfl, rfl⟩ ?_
          refine v_if_ne (tgt := 80) g dX6_isOpen_63 (by decide) (fun h63_3 => ?_) (fun h63_3 => ?_)
          · skip
            refine v_iconst (v := 0) g dX6_isOpen_80 (by decide) ?_
            exact v_zret g E dX6_isOpen_81 rfl rfl ⟨by first | (simp [openM, mayM, zB, *]; done) | (simp [openM, mayM, zB, *, nI_clamp (show c0 < 2 ^ 31 by omega)]; done), rfl, rfl⟩
          · skip
            refine v_aload_n g dX6_isOpen_66 2 rfl ?_
            refine v_iload_n g dX6_isOpen_67 4 rfl ?_
            refine v_callV (As := [.int (nI c0)]) (r := some (.int (treeM (D.2 1) (D.2 4) c0))) g dX6_isOpen_68 (k_X6_treeIn (D := D) hO (c := c0)) cl_X6_treeIn ml_RX6_116 im_X6_treeIn (rd_M R _ _) rfl rfl ⟨rfl, rfl, rfl⟩ ?_
            refine v_bipush (v := (-4)) g dX6_isOpen_71 (by decide) ?_
            refine v_icmp_ne (tgt := 80) g dX6_isOpen_73 (by decide) (fun h73_3 => ?_) (fun h73_3 => ?_)
            · skip
              refine v_iconst (v := 0) g dX6_isOpen_80 (by decide) ?_
              exact v_zret g E dX6_isOpen_81 rfl rfl ⟨by first | (simp [openM, mayM, zB, *]; done) | (simp [openM, mayM, zB, *, nI_clamp (show c0 < 2 ^ 31 by omega)]; done), rfl, rfl⟩
            · skip
              refine v_iconst (v := 1) g dX6_isOpen_76 (by decide) ?_
              refine v_goto (tgt := 81) g dX6_isOpen_77 (by decide) ?_
              exact v_zret g E dX6_isOpen_81 rfl rfl ⟨by first | (simp [openM, mayM, zB, *]; done) | (simp [openM, mayM, zB, *, nI_clamp (show c0 < 2 ^ 31 by omega)]; done), rfl, rfl⟩
theorem k_X6_mayDig (hO : OkS (D.2 1) (D.2 4)) {c : Nat} (hc : c < 36) : Ctr l G 1 24 0 0 mX6_mayDig [.ref R, .int (nI c)] n (rem R D ρ) (some (.int (zB (mayDigM (D.2 1) (D.2 4) c)))) n (rem R D ρ) := by
  obtain ⟨o1, o2, o3, o4, o5, o6, o7, o8, o9, o10, o11⟩ := id hO
  refine Ctr.of (by decide +kernel) rfl (fun X g E => ?_)
  refine v_sub (ls' := [(0, .ref R), (1, .int (nI c))]) [0, 1] rfl ?_
  refine v_aload_n g dX6_mayDig_0 0 rfl ?_
  refine v_get g dX6_mayDig_1 fl_RX6_13 (rd_M R _ _) rfl ?_
  refine v_iconst (v := 3) g dX6_mayDig_4 (by decide) ?_
  refine v_iload_n g dX6_mayDig_5 1 rfl ?_
  refine v_iadd g dX6_mayDig_6 (v_eqi (y := nI (3 + c)) (nI_addE rfl rfl) ?_)
  refine v_iald g dX6_mayDig_7 (rd_MA1 R _ _) (vp_in_nI (by omega) (by decide)) (v_eqi (y := (nI ((D.2 1) (3 + c)))) (by first | (rw [nI_clamp (by omega)]; done) | (rw [nI_clamp (by omega)]; rfl)) ?_)
  refine v_if_ne (tgt := 33) g dX6_mayDig_8 (by decide) (fun h8 => ?_) (fun h8 => ?_)
  · skip
    refine v_iconst (v := 0) g dX6_mayDig_33 (by decide) ?_
    exact v_zret g E dX6_mayDig_34 rfl rfl ⟨by simp [mayDigM, zB, *], rfl, rfl⟩
  · skip
    refine v_aload_n g dX6_mayDig_11 0 rfl ?_
    refine v_iload_n g dX6_mayDig_12 1 rfl ?_
    refine v_callV (As := [.int (nI c)]) (r := some (.int (nI ((D.2 4) (23 + c))))) g dX6_mayDig_13 (k_X6_lies (D := D) (c := c) (by omega)) cl_X6_lies ml_RX6_113 im_X6_lies (rd_M R _ _) rfl rfl ⟨rfl, rfl, rfl⟩ ?_
    refine v_if_ne (tgt := 33) g dX6_mayDig_16 (by decide) (fun h16 => ?_) (fun h16 => ?_)
    · skip
      refine v_iconst (v := 0) g dX6_mayDig_33 (by decide) ?_
      exact v_zret g E dX6_mayDig_34 rfl rfl ⟨by simp [mayDigM, zB, *], rfl, rfl⟩
    · skip
      refine v_aload_n g dX6_mayDig_19 0 rfl ?_
      refine v_iload_n g dX6_mayDig_20 1 rfl ?_
      refine v_callV (As := [.int (nI c)]) (r := some (.int (treeM (D.2 1) (D.2 4) c))) g dX6_mayDig_21 (k_X6_treeIn (D := D) hO (c := c)) cl_X6_treeIn ml_RX6_116 im_X6_treeIn (rd_M R _ _) rfl rfl ⟨rfl, rfl, rfl⟩ ?_
      refine v_bipush (v := (-4)) g dX6_mayDig_24 (by decide) ?_
      refine v_icmp_ne (tgt := 33) g dX6_mayDig_26 (by decide) (fun h26 => ?_) (fun h26 => ?_)
      · skip
        refine v_iconst (v := 0) g dX6_mayDig_33 (by decide) ?_
        exact v_zret g E dX6_mayDig_34 rfl rfl ⟨by simp [mayDigM, zB, *], rfl, rfl⟩
      · skip
        refine v_iconst (v := 1) g dX6_mayDig_29 (by decide) ?_
        refine v_goto (tgt := 34) g dX6_mayDig_30 (by decide) ?_
        exact v_zret g E dX6_mayDig_34 rfl rfl ⟨by simp [mayDigM, zB, *], rfl, rfl⟩
theorem k_X6_countOf (hO : OkS (D.2 1) (D.2 4)) (w : Int32) : Ctr l G 1 21 0 0 mX6_countOf [.ref R, .int w] n (rem R D ρ) (some (.int (countM (D.2 1) (D.2 4) w))) n (rem R D ρ) := by
  obtain ⟨o1, o2, o3, o4, o5, o6, o7, o8, o9, o10, o11⟩ := id hO
  refine Ctr.of (by decide +kernel) rfl (fun X g E => ?_)
  have loop : ∀ (q c : Nat) (v : Int32), c + q = (D.2 1) 0 → countM (D.2 1) (D.2 4) w = coFrom (D.2 4) w q c v → V X 0 0 n (rem R D ρ) 4 [(2, .int v), (3, .int (nI c)), (0, .ref R), (1, .int w)] [] := by
    intro q
    induction q with
    | zero =>
      intro c v hq he
      refine v_iload_n g dX6_countOf_4 1 rfl ?_
      refine v_aload_n g dX6_countOf_5 2 rfl ?_
      refine v_get g dX6_countOf_6 fl_RX6_13 (rd_M R _ _) rfl ?_
      refine v_iconst (v := 0) g dX6_countOf_9 (by decide) ?_
      refine v_iald g dX6_countOf_10 (rd_MA1 R _ _) (by unfold vp_in; decide) (v_eqi (y := (nI ((D.2 1) 0))) rfl ?_)
      refine v_icmp_ge (tgt := 37) g dX6_countOf_11 (by decide) (fun h11 => ?_) (fun h11 => absurd (nI_le (a := (D.2 1) 0) (b := c) (by omega) (by omega)) h11)
      refine v_iload_n g dX6_countOf_37 0 rfl ?_
      exact v_iret g E dX6_countOf_38 rfl ⟨by rw [he]; rfl, rfl, rfl⟩
    | succ q ih =>
      intro c v hq he
      refine v_iload_n g dX6_countOf_4 1 rfl ?_
      refine v_aload_n g dX6_countOf_5 2 rfl ?_
      refine v_get g dX6_countOf_6 fl_RX6_13 (rd_M R _ _) rfl ?_
      refine v_iconst (v := 0) g dX6_countOf_9 (by decide) ?_
      refine v_iald g dX6_countOf_10 (rd_MA1 R _ _) (by unfold vp_in; decide) (v_eqi (y := (nI ((D.2 1) 0))) rfl ?_)
      refine v_icmp_ge (tgt := 37) g dX6_countOf_11 (by decide) (fun h11 => absurd h11 (nI_ge (a := c) (b := (D.2 1) 0) (by omega) (by omega))) (fun h11 => ?_)
      refine v_iload_n g dX6_countOf_14 0 rfl ?_
      refine v_aload_n g dX6_countOf_15 2 rfl ?_
      refine v_iload_n g dX6_countOf_16 1 rfl ?_
      refine v_callV (As := [.int (nI c)]) (r := some (.int (nI ((D.2 4) (23 + c))))) g dX6_countOf_17 (k_X6_lies (D := D) (c := c) (by omega)) cl_X6_lies ml_RX6_113 im_X6_lies (rd_M R _ _) rfl rfl ⟨rfl, rfl, rfl⟩ ?_
      refine v_iload_n g dX6_countOf_20 3 rfl ?_
      refine v_icmp_ne_d (tgt := 28) (u := 0) (v := 1) 29 g dX6_countOf_21 (by decide) (fun h21 K => ?_) (fun h21 K => ?_) ?_
      · skip
        refine v_iconst (v := 0) g dX6_countOf_28 (by decide) ?_
        exact K
      · skip
        refine v_iconst (v := 1) g dX6_countOf_24 (by decide) ?_
        refine v_goto (tgt := 29) g dX6_countOf_25 (by decide) ?_
        exact K
      refine v_iadd g dX6_countOf_29 ?_
      refine v_istore_n (ls' := [(2, .int (v + (if (nI ((D.2 4) (23 + c))) = w then 1 else 0))), (3, .int (nI c)), (0, .ref R), (1, .int w)]) g dX6_countOf_30 rfl rfl ?_
      refine v_iinc (v := (nI (c + 1))) (ls' := [(3, .int (nI (c + 1))), (2, .int (v + (if (nI ((D.2 4) (23 + c))) = w then 1 else 0))), (0, .ref R), (1, .int w)]) g dX6_countOf_31 1 rfl (nI_addE rfl rfl) rfl rfl ?_
      refine v_goto (tgt := 4) g dX6_countOf_34 (by decide) ?_
      refine v_sub (ls' := [(2, .int (v + (if (nI ((D.2 4) (23 + c))) = w then 1 else 0))), (3, .int (nI (c + 1))), (0, .ref R), (1, .int w)]) [1, 0, 2, 3] rfl ?_
      exact ih (c + 1) _ (by omega) (by rw [he, coFrom])
  refine v_sub (ls' := [(0, .ref R), (1, .int w)]) [0, 1] rfl ?_
  refine v_iconst (v := 0) g dX6_countOf_0 (by decide) ?_
  refine v_istore_n (ls' := [(2, .int 0), (0, .ref R), (1, .int w)]) g dX6_countOf_1 rfl rfl ?_
  refine v_iconst (v := 0) g dX6_countOf_2 (by decide) ?_
  refine v_istore_n (ls' := [(3, .int 0), (2, .int 0), (0, .ref R), (1, .int w)]) g dX6_countOf_3 rfl rfl ?_
  refine v_sub (ls' := [(2, .int 0), (3, .int 0), (0, .ref R), (1, .int w)]) [1, 0, 2, 3] rfl ?_
  exact loop ((D.2 1) 0) 0 0 (by omega) rfl
theorem k_X6_headsFor (hO : OkS (D.2 1) (D.2 4)) {r : Nat} (hr : r < (D.2 1) 2) : Ctr l G 2 48 0 0 mX6_headsFor [.ref R, .int (nI r)] n (rem R D ρ) (some (.int (headM (D.2 1) (D.2 4) r))) n (rem R D ρ) := by
  obtain ⟨o1, o2, o3, o4, o5, o6, o7, o8, o9, o10, o11⟩ := id hO
  refine Ctr.of (by decide +kernel) rfl (fun X g E => ?_)
  have o9r := o9 r hr
  have o8r := o8 r (by omega)
  have o10r : (D.2 4) (11 + 4 * r) < (D.2 1) 0 := o10 r hr 0 (by omega)
  have otr := turnM_le (D.2 1) r
  refine v_sub (ls' := [(0, .ref R), (1, .int (nI r))]) [0, 1] rfl ?_
  refine v_aload_n g dX6_headsFor_0 0 rfl ?_
  refine v_get g dX6_headsFor_1 fl_RX6_22 (rd_M R _ _) rfl ?_
  refine v_iconst (v := 5) g dX6_headsFor_4 (by decide) ?_
  refine v_iload_n g dX6_headsFor_5 1 rfl ?_
  refine v_iadd g dX6_headsFor_6 (v_eqi (y := nI (5 + r)) (nI_addE rfl rfl) ?_)
  refine v_iald g dX6_headsFor_7 (rd_MA4 R _ _) (vp_in_nI (by omega) (by decide)) (v_eqi (y := (nI ((D.2 4) (5 + r)))) (by first | (rw [nI_clamp (by omega)]; done) | (rw [nI_clamp (by omega)]; rfl)) ?_)
  refine v_istore_n (ls' := [(2, .int (nI ((D.2 4) (5 + r)))), (0, .ref R), (1, .int (nI r))]) g dX6_headsFor_8 rfl rfl ?_
  refine v_aload_n g dX6_headsFor_9 1 rfl ?_
  refine v_get g dX6_headsFor_10 fl_RX6_13 (rd_M R _ _) rfl ?_
  refine v_bipush (v := 75) g dX6_headsFor_13 (by decide) ?_
  refine v_iload_n g dX6_headsFor_15 2 rfl ?_
  refine v_iadd g dX6_headsFor_16 (v_eqi (y := nI (75 + r)) (nI_addE rfl rfl) ?_)
  refine v_iald g dX6_headsFor_17 (rd_MA1 R _ _) (vp_in_nI (by omega) (by decide)) (v_eqi (y := (nI ((D.2 1) (75 + r)))) (by first | (rw [nI_clamp (by omega)]; done) | (rw [nI_clamp (by omega)]; rfl)) ?_)
  refine v_iconst (v := 1) g dX6_headsFor_18 (by decide) ?_
  refine v_icmp_ne_d (tgt := 26) (u := 1) (v := 3) 27 g dX6_headsFor_19 (by decide) (fun h19 K => ?_) (fun h19 K => ?_) ?_
  · skip
    refine v_iconst (v := 1) g dX6_headsFor_26 (by decide) ?_
    exact K
  · skip
    refine v_iconst (v := 3) g dX6_headsFor_22 (by decide) ?_
    refine v_goto (tgt := 27) g dX6_headsFor_23 (by decide) ?_
    exact K
  refine v_eqi (y := nI (turnM (D.2 1) r)) (by unfold turnM; split <;> rfl) ?_
  refine v_istore_n (ls' := [(3, .int (nI (turnM (D.2 1) r))), (2, .int (nI ((D.2 4) (5 + r)))), (0, .ref R), (1, .int (nI r))]) g dX6_headsFor_27 rfl rfl ?_
  refine v_aload_n g dX6_headsFor_28 2 rfl ?_
  refine v_get g dX6_headsFor_29 fl_RX6_22 (rd_M R _ _) rfl ?_
  refine v_bipush (v := 11) g dX6_headsFor_32 (by decide) ?_
  refine v_iconst (v := 4) g dX6_headsFor_34 (by decide) ?_
  refine v_iload_n g dX6_headsFor_35 3 rfl ?_
  refine v_imul g dX6_headsFor_36 (v_eqi (y := nI (4 * r)) (nI_mulE rfl rfl) ?_)
  refine v_iadd g dX6_headsFor_37 (v_eqi (y := nI (11 + (4 * r))) (nI_addE rfl rfl) ?_)
  refine v_iald g dX6_headsFor_38 (rd_MA4 R _ _) (vp_in_nI (by omega) (by decide)) (v_eqi (y := (nI ((D.2 4) (11 + (4 * r))))) (by first | (rw [nI_clamp (by omega)]; done) | (rw [nI_clamp (by omega)]; rfl)) ?_)
  refine v_istore (ls' := [(4, .int (nI ((D.2 4) (11 + (4 * r))))), (3, .int (nI (turnM (D.2 1) r))), (2, .int (nI ((D.2 4) (5 + r)))), (0, .ref R), (1, .int (nI r))]) g dX6_headsFor_39 rfl rfl ?_
  refine v_iload_n g dX6_headsFor_41 2 rfl ?_
  refine v_iload_n g dX6_headsFor_42 1 rfl ?_
  refine v_iadd g dX6_headsFor_43 (v_eqi (y := nI (((D.2 4) (5 + r)) + (turnM (D.2 1) r))) (nI_addE rfl rfl) ?_)
  refine v_iconst (v := 4) g dX6_headsFor_44 (by decide) ?_
  refine v_irem g dX6_headsFor_45 (by decide) ?_
  refine v_istore (ls' := [(5, .int ((nI (((D.2 4) (5 + r)) + (turnM (D.2 1) r))) % 4)), (4, .int (nI ((D.2 4) (11 + (4 * r))))), (3, .int (nI (turnM (D.2 1) r))), (2, .int (nI ((D.2 4) (5 + r)))), (0, .ref R), (1, .int (nI r))]) g dX6_headsFor_46 rfl rfl ?_
  refine v_iload_n g dX6_headsFor_48 3 rfl ?_
  refine v_iconst (v := 4) g dX6_headsFor_49 (by decide) ?_
  refine v_iadd g dX6_headsFor_50 (v_eqi (y := nI (((D.2 4) (5 + r)) + 4)) (nI_addE rfl rfl) ?_)
  refine v_iload_n g dX6_headsFor_51 2 rfl ?_
  refine v_isub g dX6_headsFor_52 (v_eqi (y := nI ((((D.2 4) (5 + r)) + 4) - (turnM (D.2 1) r))) (nI_subE rfl rfl (by omega)) ?_)
  refine v_iconst (v := 4) g dX6_headsFor_53 (by decide) ?_
  refine v_irem g dX6_headsFor_54 (by decide) ?_
  refine v_istore (ls' := [(6, .int ((nI ((((D.2 4) (5 + r)) + 4) - (turnM (D.2 1) r))) % 4)), (5, .int ((nI (((D.2 4) (5 + r)) + (turnM (D.2 1) r))) % 4)), (4, .int (nI ((D.2 4) (11 + (4 * r))))), (3, .int (nI (turnM (D.2 1) r))), (2, .int (nI ((D.2 4) (5 + r)))), (0, .ref R), (1, .int (nI r))]) g dX6_headsFor_55 rfl rfl ?_
  refine v_aload_n g dX6_headsFor_57 5 rfl ?_
  refine v_get g dX6_headsFor_58 fl_RX6_13 (rd_M R _ _) rfl ?_
  refine v_bipush (v := 75) g dX6_headsFor_61 (by decide) ?_
  refine v_iload_n g dX6_headsFor_63 6 rfl ?_
  refine v_iadd g dX6_headsFor_64 (v_eqi (y := nI (75 + r)) (nI_addE rfl rfl) ?_)
  refine v_iald g dX6_headsFor_65 (rd_MA1 R _ _) (vp_in_nI (by omega) (by decide)) (v_eqi (y := (nI ((D.2 1) (75 + r)))) (by first | (rw [nI_clamp (by omega)]; done) | (rw [nI_clamp (by omega)]; rfl)) ?_)
  refine v_iconst (v := 2) g dX6_headsFor_66 (by decide) ?_
  refine v_icmp_ne (tgt := 85) g dX6_headsFor_67 (by decide) (fun h67 => ?_) (fun h67 => ?_)
  · skip
    refine v_aload_n g dX6_headsFor_85 5 rfl ?_
    refine v_iload_n g dX6_headsFor_86 6 rfl ?_
    refine v_aload_n g dX6_headsFor_87 5 rfl ?_
    refine v_iload g dX6_headsFor_88 2 rfl ?_
    refine v_iload_n g dX6_headsFor_90 4 rfl ?_
    refine v_callV (As := [.int (nI ((D.2 4) (11 + (4 * r)))), .int (nI ((D.2 4) (5 + r)))]) (r := some (.int (besM (D.2 1) ((D.2 4) (11 + (4 * r))) (nI ((D.2 4) (5 + r)))))) g dX6_headsFor_91 (k_X6_beside (D := D) hO (c := ((D.2 4) (11 + (4 * r)))) (by omega) (nI ((D.2 4) (5 + r)))) cl_X6_beside ml_RX6_119 im_X6_beside (rd_M R _ _) rfl rfl ⟨rfl, rfl, rfl⟩ ?_
    refine v_callV (As := [.int (nI r), .int (besM (D.2 1) ((D.2 4) (11 + (4 * r))) (nI ((D.2 4) (5 + r))))]) (r := some (.int (zB (openM (D.2 1) (D.2 4) r (besM (D.2 1) ((D.2 4) (11 + (4 * r))) (nI ((D.2 4) (5 + r)))))))) g dX6_headsFor_94 (k_X6_isOpen (D := D) hO (r := r) (by omega) (c := (besM (D.2 1) ((D.2 4) (11 + (4 * r))) (nI ((D.2 4) (5 + r))))) (bes_ok36 hO (by omega) _)) cl_X6_isOpen ml_RX6_122 im_X6_isOpen (rd_M R _ _) rfl rfl ⟨rfl, rfl, rfl⟩ ?_
    refine v_if_eq (tgt := 104) g dX6_headsFor_97 (by decide) (fun h97 => ?_) (fun h97 => ?_)
    · skip
      have h97 := zB_f0 h97
      refine v_aload_n g dX6_headsFor_104 5 rfl ?_
      refine v_iload_n g dX6_headsFor_105 6 rfl ?_
      refine v_aload_n g dX6_headsFor_106 5 rfl ?_
      refine v_iload g dX6_headsFor_107 2 rfl ?_
      refine v_iload g dX6_headsFor_109 1 rfl ?_
      refine v_callV (As := [.int (nI ((D.2 4) (11 + (4 * r)))), .int ((nI (((D.2 4) (5 + r)) + (turnM (D.2 1) r))) % 4)]) (r := some (.int (besM (D.2 1) ((D.2 4) (11 + (4 * r))) ((nI (((D.2 4) (5 + r)) + (turnM (D.2 1) r))) % 4)))) g dX6_headsFor_111 (k_X6_beside (D := D) hO (c := ((D.2 4) (11 + (4 * r)))) (by omega) ((nI (((D.2 4) (5 + r)) + (turnM (D.2 1) r))) % 4)) cl_X6_beside ml_RX6_119 im_X6_beside (rd_M R _ _) rfl rfl ⟨rfl, rfl, rfl⟩ ?_
      refine v_callV (As := [.int (nI r), .int (besM (D.2 1) ((D.2 4) (11 + (4 * r))) ((nI (((D.2 4) (5 + r)) + (turnM (D.2 1) r))) % 4))]) (r := some (.int (zB (openM (D.2 1) (D.2 4) r (besM (D.2 1) ((D.2 4) (11 + (4 * r))) ((nI (((D.2 4) (5 + r)) + (turnM (D.2 1) r))) % 4)))))) g dX6_headsFor_114 (k_X6_isOpen (D := D) hO (r := r) (by omega) (c := (besM (D.2 1) ((D.2 4) (11 + (4 * r))) ((nI (((D.2 4) (5 + r)) + (turnM (D.2 1) r))) % 4))) (bes_ok36 hO (by omega) _)) cl_X6_isOpen ml_RX6_122 im_X6_isOpen (rd_M R _ _) rfl rfl ⟨rfl, rfl, rfl⟩ ?_
      refine v_if_eq (tgt := 125) g dX6_headsFor_117 (by decide) (fun h117 => ?_) (fun h117 => ?_)
      · skip
        have h117 := zB_f0 h117
        refine v_aload_n g dX6_headsFor_125 5 rfl ?_
        refine v_iload_n g dX6_headsFor_126 6 rfl ?_
        refine v_aload_n g dX6_headsFor_127 5 rfl ?_
        refine v_iload g dX6_headsFor_128 2 rfl ?_
        refine v_iload g dX6_headsFor_130 0 rfl ?_
        refine v_callV (As := [.int (nI ((D.2 4) (11 + (4 * r)))), .int ((nI ((((D.2 4) (5 + r)) + 4) - (turnM (D.2 1) r))) % 4)]) (r := some (.int (besM (D.2 1) ((D.2 4) (11 + (4 * r))) ((nI ((((D.2 4) (5 + r)) + 4) - (turnM (D.2 1) r))) % 4)))) g dX6_headsFor_132 (k_X6_beside (D := D) hO (c := ((D.2 4) (11 + (4 * r)))) (by omega) ((nI ((((D.2 4) (5 + r)) + 4) - (turnM (D.2 1) r))) % 4)) cl_X6_beside ml_RX6_119 im_X6_beside (rd_M R _ _) rfl rfl ⟨rfl, rfl, rfl⟩ ?_
        refine v_callV (As := [.int (nI r), .int (besM (D.2 1) ((D.2 4) (11 + (4 * r))) ((nI ((((D.2 4) (5 + r)) + 4) - (turnM (D.2 1) r))) % 4))]) (r := some (.int (zB (openM (D.2 1) (D.2 4) r (besM (D.2 1) ((D.2 4) (11 + (4 * r))) ((nI ((((D.2 4) (5 + r)) + 4) - (turnM (D.2 1) r))) % 4)))))) g dX6_headsFor_135 (k_X6_isOpen (D := D) hO (r := r) (by omega) (c := (besM (D.2 1) ((D.2 4) (11 + (4 * r))) ((nI ((((D.2 4) (5 + r)) + 4) - (turnM (D.2 1) r))) % 4))) (bes_ok36 hO (by omega) _)) cl_X6_isOpen ml_RX6_122 im_X6_isOpen (rd_M R _ _) rfl rfl ⟨rfl, rfl, rfl⟩ ?_
        refine v_if_eq (tgt := 146) g dX6_headsFor_138 (by decide) (fun h138 => ?_) (fun h138 => ?_)
        · skip
          have h138 := zB_f0 h138
          refine v_bipush (v := (-4)) g dX6_headsFor_146 (by decide) ?_
          exact v_iret g E dX6_headsFor_148 rfl ⟨by first | (simp [headM, zB, *]; done) | (unfold headM; simp [*]; done), rfl, rfl⟩
        · skip
          have h138 := zB_t0 h138
          refine v_iload g dX6_headsFor_141 0 rfl ?_
          refine v_goto (tgt := 148) g dX6_headsFor_143 (by decide) ?_
          exact v_iret g E dX6_headsFor_148 rfl ⟨by first | (simp [headM, zB, *]; done) | (unfold headM; simp [*]; done), rfl, rfl⟩
      · skip
        have h117 := zB_t0 h117
        refine v_iload g dX6_headsFor_120 1 rfl ?_
        refine v_goto (tgt := 148) g dX6_headsFor_122 (by decide) ?_
        exact v_iret g E dX6_headsFor_148 rfl ⟨by first | (simp [headM, zB, *]; done) | (unfold headM; simp [*]; done), rfl, rfl⟩
    · skip
      have h97 := zB_t0 h97
      refine v_iload_n g dX6_headsFor_100 4 rfl ?_
      refine v_goto (tgt := 148) g dX6_headsFor_101 (by decide) ?_
      exact v_iret g E dX6_headsFor_148 rfl ⟨by first | (simp [headM, zB, *]; done) | (unfold headM; simp [*]; done), rfl, rfl⟩
  · skip
    refine v_aload_n g dX6_headsFor_70 5 rfl ?_
    refine v_get g dX6_headsFor_71 fl_RX6_22 (rd_M R _ _) rfl ?_
    refine v_iconst (v := 0) g dX6_headsFor_74 (by decide) ?_
    refine v_iald g dX6_headsFor_75 (rd_MA4 R _ _) (by unfold vp_in; decide) (v_eqi (y := (nI ((D.2 4) 0))) rfl ?_)
    refine v_iconst (v := 2) g dX6_headsFor_76 (by decide) ?_
    refine v_irem g dX6_headsFor_77 (by decide) ?_
    refine v_iconst (v := 1) g dX6_headsFor_78 (by decide) ?_
    refine v_icmp_ne (tgt := 85) g dX6_headsFor_79 (by decide) (fun h79 => ?_) (fun h79 => ?_)
    · skip
      refine v_aload_n g dX6_headsFor_85 5 rfl ?_
      refine v_iload_n g dX6_headsFor_86 6 rfl ?_
      refine v_aload_n g dX6_headsFor_87 5 rfl ?_
      refine v_iload g dX6_headsFor_88 2 rfl ?_
      refine v_iload_n g dX6_headsFor_90 4 rfl ?_
      refine v_callV (As := [.int (nI ((D.2 4) (11 + (4 * r)))), .int (nI ((D.2 4) (5 + r)))]) (r := some (.int (besM (D.2 1) ((D.2 4) (11 + (4 * r))) (nI ((D.2 4) (5 + r)))))) g dX6_headsFor_91 (k_X6_beside (D := D) hO (c := ((D.2 4) (11 + (4 * r)))) (by omega) (nI ((D.2 4) (5 + r)))) cl_X6_beside ml_RX6_119 im_X6_beside (rd_M R _ _) rfl rfl ⟨rfl, rfl, rfl⟩ ?_
      refine v_callV (As := [.int (nI r), .int (besM (D.2 1) ((D.2 4) (11 + (4 * r))) (nI ((D.2 4) (5 + r))))]) (r := some (.int (zB (openM (D.2 1) (D.2 4) r (besM (D.2 1) ((D.2 4) (11 + (4 * r))) (nI ((D.2 4) (5 + r)))))))) g dX6_headsFor_94 (k_X6_isOpen (D := D) hO (r := r) (by omega) (c := (besM (D.2 1) ((D.2 4) (11 + (4 * r))) (nI ((D.2 4) (5 + r))))) (bes_ok36 hO (by omega) _)) cl_X6_isOpen ml_RX6_122 im_X6_isOpen (rd_M R _ _) rfl rfl ⟨rfl, rfl, rfl⟩ ?_
      refine v_if_eq (tgt := 104) g dX6_headsFor_97 (by decide) (fun h97_2 => ?_) (fun h97_2 => ?_)
      · skip
        have h97_2 := zB_f0 h97_2
        refine v_aload_n g dX6_headsFor_104 5 rfl ?_
        refine v_iload_n g dX6_headsFor_105 6 rfl ?_
        refine v_aload_n g dX6_headsFor_106 5 rfl ?_
        refine v_iload g dX6_headsFor_107 2 rfl ?_
        refine v_iload g dX6_headsFor_109 1 rfl ?_
        refine v_callV (As := [.int (nI ((D.2 4) (11 + (4 * r)))), .int ((nI (((D.2 4) (5 + r)) + (turnM (D.2 1) r))) % 4)]) (r := some (.int (besM (D.2 1) ((D.2 4) (11 + (4 * r))) ((nI (((D.2 4) (5 + r)) + (turnM (D.2 1) r))) % 4)))) g dX6_headsFor_111 (k_X6_beside (D := D) hO (c := ((D.2 4) (11 + (4 * r)))) (by omega) ((nI (((D.2 4) (5 + r)) + (turnM (D.2 1) r))) % 4)) cl_X6_beside ml_RX6_119 im_X6_beside (rd_M R _ _) rfl rfl ⟨rfl, rfl, rfl⟩ ?_
        refine v_callV (As := [.int (nI r), .int (besM (D.2 1) ((D.2 4) (11 + (4 * r))) ((nI (((D.2 4) (5 + r)) + (turnM (D.2 1) r))) % 4))]) (r := some (.int (zB (openM (D.2 1) (D.2 4) r (besM (D.2 1) ((D.2 4) (11 + (4 * r))) ((nI (((D.2 4) (5 + r)) + (turnM (D.2 1) r))) % 4)))))) g dX6_headsFor_114 (k_X6_isOpen (D := D) hO (r := r) (by omega) (c := (besM (D.2 1) ((D.2 4) (11 + (4 * r))) ((nI (((D.2 4) (5 + r)) + (turnM (D.2 1) r))) % 4))) (bes_ok36 hO (by omega) _)) cl_X6_isOpen ml_RX6_122 im_X6_isOpen (rd_M R _ _) rfl rfl ⟨rfl, rfl, rfl⟩ ?_
        refine v_if_eq (tgt := 125) g dX6_headsFor_117 (by decide) (fun h117_2 => ?_) (fun h117_2 => ?_)
        · skip
          have h117_2 := zB_f0 h117_2
          refine v_aload_n g dX6_headsFor_125 5 rfl ?_
          refine v_iload_n g dX6_headsFor_126 6 rfl ?_
          refine v_aload_n g dX6_headsFor_127 5 rfl ?_
          refine v_iload g dX6_headsFor_128 2 rfl ?_
          refine v_iload g dX6_headsFor_130 0 rfl ?_
          refine v_callV (As := [.int (nI ((D.2 4) (11 + (4 * r)))), .int ((nI ((((D.2 4) (5 + r)) + 4) - (turnM (D.2 1) r))) % 4)]) (r := some (.int (besM (D.2 1) ((D.2 4) (11 + (4 * r))) ((nI ((((D.2 4) (5 + r)) + 4) - (turnM (D.2 1) r))) % 4)))) g dX6_headsFor_132 (k_X6_beside (D := D) hO (c := ((D.2 4) (11 + (4 * r)))) (by omega) ((nI ((((D.2 4) (5 + r)) + 4) - (turnM (D.2 1) r))) % 4)) cl_X6_beside ml_RX6_119 im_X6_beside (rd_M R _ _) rfl rfl ⟨rfl, rfl, rfl⟩ ?_
          refine v_callV (As := [.int (nI r), .int (besM (D.2 1) ((D.2 4) (11 + (4 * r))) ((nI ((((D.2 4) (5 + r)) + 4) - (turnM (D.2 1) r))) % 4))]) (r := some (.int (zB (openM (D.2 1) (D.2 4) r (besM (D.2 1) ((D.2 4) (11 + (4 * r))) ((nI ((((D.2 4) (5 + r)) + 4) - (turnM (D.2 1) r))) % 4)))))) g dX6_headsFor_135 (k_X6_isOpen (D := D) hO (r := r) (by omega) (c := (besM (D.2 1) ((D.2 4) (11 + (4 * r))) ((nI ((((D.2 4) (5 + r)) + 4) - (turnM (D.2 1) r))) % 4))) (bes_ok36 hO (by omega) _)) cl_X6_isOpen ml_RX6_122 im_X6_isOpen (rd_M R _ _) rfl rfl ⟨rfl, rfl, rfl⟩ ?_
          refine v_if_eq (tgt := 146) g dX6_headsFor_138 (by decide) (fun h138_2 => ?_) (fun h138_2 => ?_)
          · skip
            have h138_2 := zB_f0 h138_2
            refine v_bipush (v := (-4)) g dX6_headsFor_146 (by decide) ?_
            exact v_iret g E dX6_headsFor_148 rfl ⟨by first | (simp [headM, zB, *]; done) | (unfold headM; simp [*]; done), rfl, rfl⟩
          · skip
            have h138_2 := zB_t0 h138_2
            refine v_iload g dX6_headsFor_141 0 rfl ?_
            refine v_goto (tgt := 148) g dX6_headsFor_143 (by decide) ?_
            exact v_iret g E dX6_headsFor_148 rfl ⟨by first | (simp [headM, zB, *]; done) | (unfold headM; simp [*]; done), rfl, rfl⟩
        · skip
          have h117_2 := zB_t0 h117_2
          refine v_iload g dX6_headsFor_120 1 rfl ?_
          refine v_goto (tgt := 148) g dX6_headsFor_122 (by decide) ?_
          exact v_iret g E dX6_headsFor_148 rfl ⟨by first | (simp [headM, zB, *]; done) | (unfold headM; simp [*]; done), rfl, rfl⟩
      · skip
        have h97_2 := zB_t0 h97_2
        refine v_iload_n g dX6_headsFor_100 4 rfl ?_
        refine v_goto (tgt := 148) g dX6_headsFor_101 (by decide) ?_
        exact v_iret g E dX6_headsFor_148 rfl ⟨by first | (simp [headM, zB, *]; done) | (unfold headM; simp [*]; done), rfl, rfl⟩
    · skip
      refine v_bipush (v := (-4)) g dX6_headsFor_82 (by decide) ?_
      exact v_iret g E dX6_headsFor_84 rfl ⟨by first | (simp [headM, zB, *]; done) | (unfold headM; simp [*]; done), rfl, rfl⟩
theorem k_X6_hasMate (hO : OkS (D.2 1) (D.2 4)) {r c : Nat} (hc : c < (D.2 1) 0) : Ctr l G 1 24 0 0 mX6_hasMate [.ref R, .int (nI r), .int (nI c)] n (rem R D ρ) (some (.int (zB (mateM (D.2 1) (D.2 4) r c)))) n (rem R D ρ) := by
  obtain ⟨o1, o2, o3, o4, o5, o6, o7, o8, o9, o10, o11⟩ := id hO
  refine Ctr.of (by decide +kernel) rfl (fun X g E => ?_)
  have loop : ∀ (q d : Nat) (b : Bool), d + q = 4 → mateM (D.2 1) (D.2 4) r c = hmFrom (D.2 1) (D.2 4) r c q d b → V X 0 0 n (rem R D ρ) 5 [(4, .int (nI d)), (3, .int (zB b)), (0, .ref R), (1, .int (nI r)), (2, .int (nI c))] [] := by
    intro q
    induction q with
    | zero =>
      intro d b hq he
      refine v_iload g dX6_hasMate_5 0 rfl ?_
      refine v_iconst (v := 4) g dX6_hasMate_7 (by decide) ?_
      refine v_icmp_ge (tgt := 70) g dX6_hasMate_8 (by decide) (fun h8 => ?_) (fun h8 => absurd (nI_le (a := 4) (b := d) (by omega) (by omega)) h8)
      refine v_iload_n g dX6_hasMate_70 1 rfl ?_
      exact v_zret g E dX6_hasMate_71 rfl (zB_nar _) ⟨by rw [he]; rfl, rfl, rfl⟩
    | succ q ih =>
      intro d b hq he
      refine v_iload g dX6_hasMate_5 0 rfl ?_
      refine v_iconst (v := 4) g dX6_hasMate_7 (by decide) ?_
      refine v_icmp_ge (tgt := 70) g dX6_hasMate_8 (by decide) (fun h8 => absurd h8 (nI_ge (a := d) (b := 4) (by omega) (by decide))) (fun h8 => ?_)
      refine v_aload_n g dX6_hasMate_11 2 rfl ?_
      refine v_iload_n g dX6_hasMate_12 4 rfl ?_
      refine v_iload g dX6_hasMate_13 0 rfl ?_
      refine v_callV (As := [.int (nI c), .int (nI d)]) (r := some (.int (besM (D.2 1) c (nI d)))) g dX6_hasMate_15 (k_X6_beside (D := D) hO (c := c) (by omega) (nI d)) cl_X6_beside ml_RX6_119 im_X6_beside (rd_M R _ _) rfl rfl ⟨rfl, rfl, rfl⟩ ?_
      refine v_bipush (v := (-4)) g dX6_hasMate_18 (by decide) ?_
      refine v_icmp_ne_d (tgt := 28) (u := (treeM (D.2 1) (D.2 4) (besM (D.2 1) c (nI d)).toNatClampNeg)) (v := (-4)) 39 g dX6_hasMate_20 (by decide) (fun h20 K => ?_) (fun h20 K => ?_) ?_
      · skip
        refine v_aload_n g dX6_hasMate_28 2 rfl ?_
        refine v_aload_n g dX6_hasMate_29 2 rfl ?_
        refine v_iload_n g dX6_hasMate_30 4 rfl ?_
        refine v_iload g dX6_hasMate_31 0 rfl ?_
        refine v_callV (As := [.int (nI c), .int (nI d)]) (r := some (.int (besM (D.2 1) c (nI d)))) g dX6_hasMate_33 (k_X6_beside (D := D) hO (c := c) (by omega) (nI d)) cl_X6_beside ml_RX6_119 im_X6_beside (rd_M R _ _) rfl rfl ⟨rfl, rfl, rfl⟩ ?_
        obtain ⟨c0, hc0, ec⟩ := (bes_ok36 hO hc (nI d)).resolve_left h20
        refine v_eqi ec ?_
        refine v_callV (As := [.int (nI c0)]) (r := some (.int (treeM (D.2 1) (D.2 4) c0))) g dX6_hasMate_36 (k_X6_treeIn (D := D) hO (c := c0)) cl_X6_treeIn ml_RX6_116 im_X6_treeIn (rd_M R _ _) rfl rfl ⟨rfl, rfl, rfl⟩ ?_
        first | exact K | (rw [ec, nI_clamp (by omega)] at K; exact K)
      · skip
        refine v_bipush (v := (-4)) g dX6_hasMate_23 (by decide) ?_
        refine v_goto (tgt := 39) g dX6_hasMate_25 (by decide) ?_
        first | exact K | (rw [ec, nI_clamp (by omega)] at K; exact K)
      refine v_eqi (y := mateQ (D.2 1) (D.2 4) c d) rfl ?_
      refine v_istore (ls' := [(5, .int (mateQ (D.2 1) (D.2 4) c d)), (4, .int (nI d)), (3, .int (zB b)), (0, .ref R), (1, .int (nI r)), (2, .int (nI c))]) g dX6_hasMate_39 rfl rfl ?_
      refine v_iload_n g dX6_hasMate_41 2 rfl ?_
      refine v_if_ne (tgt := 58) g dX6_hasMate_42 (by decide) (fun h42 => ?_) (fun h42 => ?_)
      · skip
        have h42 := zB_t0 h42
        refine v_iconst (v := 1) g dX6_hasMate_58 (by decide) ?_
        refine v_goto (tgt := 63) g dX6_hasMate_59 (by decide) ?_
        refine v_istore_n (ls' := [(3, .int 1), (5, .int (mateQ (D.2 1) (D.2 4) c d)), (4, .int (nI d)), (0, .ref R), (1, .int (nI r)), (2, .int (nI c))]) g dX6_hasMate_63 rfl rfl ?_
        refine v_iinc (v := (nI (d + 1))) (ls' := [(4, .int (nI (d + 1))), (3, .int 1), (5, .int (mateQ (D.2 1) (D.2 4) c d)), (0, .ref R), (1, .int (nI r)), (2, .int (nI c))]) g dX6_hasMate_64 2 rfl (nI_addE rfl rfl) rfl rfl ?_
        refine v_goto (tgt := 5) g dX6_hasMate_67 (by decide) ?_
        refine v_sub (ls' := [(4, .int (nI (d + 1))), (3, .int 1), (0, .ref R), (1, .int (nI r)), (2, .int (nI c))]) [0, 1, 3, 4, 5] rfl ?_
        exact ih (d + 1) true (by omega) (by rw [he, hmFrom]; simp [*])
      · skip
        have h42 := zB_f0 h42
        refine v_iload g dX6_hasMate_45 0 rfl ?_
        refine v_bipush (v := (-4)) g dX6_hasMate_47 (by decide) ?_
        refine v_icmp_eq (tgt := 62) g dX6_hasMate_49 (by decide) (fun h49 => ?_) (fun h49 => ?_)
        · skip
          refine v_iconst (v := 0) g dX6_hasMate_62 (by decide) ?_
          refine v_istore_n (ls' := [(3, .int 0), (5, .int (mateQ (D.2 1) (D.2 4) c d)), (4, .int (nI d)), (0, .ref R), (1, .int (nI r)), (2, .int (nI c))]) g dX6_hasMate_63 rfl rfl ?_
          refine v_iinc (v := (nI (d + 1))) (ls' := [(4, .int (nI (d + 1))), (3, .int 0), (5, .int (mateQ (D.2 1) (D.2 4) c d)), (0, .ref R), (1, .int (nI r)), (2, .int (nI c))]) g dX6_hasMate_64 2 rfl (nI_addE rfl rfl) rfl rfl ?_
          refine v_goto (tgt := 5) g dX6_hasMate_67 (by decide) ?_
          refine v_sub (ls' := [(4, .int (nI (d + 1))), (3, .int 0), (0, .ref R), (1, .int (nI r)), (2, .int (nI c))]) [0, 1, 3, 4, 5] rfl ?_
          exact ih (d + 1) false (by omega) (by rw [he, hmFrom]; simp [*])
        · skip
          refine v_iload g dX6_hasMate_52 0 rfl ?_
          refine v_iload_n g dX6_hasMate_54 4 rfl ?_
          refine v_icmp_eq (tgt := 62) g dX6_hasMate_55 (by decide) (fun h55 => ?_) (fun h55 => ?_)
          · skip
            refine v_iconst (v := 0) g dX6_hasMate_62 (by decide) ?_
            refine v_istore_n (ls' := [(3, .int 0), (5, .int (mateQ (D.2 1) (D.2 4) c d)), (4, .int (nI d)), (0, .ref R), (1, .int (nI r)), (2, .int (nI c))]) g dX6_hasMate_63 rfl rfl ?_
            refine v_iinc (v := (nI (d + 1))) (ls' := [(4, .int (nI (d + 1))), (3, .int 0), (5, .int (mateQ (D.2 1) (D.2 4) c d)), (0, .ref R), (1, .int (nI r)), (2, .int (nI c))]) g dX6_hasMate_64 2 rfl (nI_addE rfl rfl) rfl rfl ?_
            refine v_goto (tgt := 5) g dX6_hasMate_67 (by decide) ?_
            refine v_sub (ls' := [(4, .int (nI (d + 1))), (3, .int 0), (0, .ref R), (1, .int (nI r)), (2, .int (nI c))]) [0, 1, 3, 4, 5] rfl ?_
            exact ih (d + 1) false (by omega) (by rw [he, hmFrom]; simp [*])
          · skip
            refine v_iconst (v := 1) g dX6_hasMate_58 (by decide) ?_
            refine v_goto (tgt := 63) g dX6_hasMate_59 (by decide) ?_
            refine v_istore_n (ls' := [(3, .int 1), (5, .int (mateQ (D.2 1) (D.2 4) c d)), (4, .int (nI d)), (0, .ref R), (1, .int (nI r)), (2, .int (nI c))]) g dX6_hasMate_63 rfl rfl ?_
            refine v_iinc (v := (nI (d + 1))) (ls' := [(4, .int (nI (d + 1))), (3, .int 1), (5, .int (mateQ (D.2 1) (D.2 4) c d)), (0, .ref R), (1, .int (nI r)), (2, .int (nI c))]) g dX6_hasMate_64 2 rfl (nI_addE rfl rfl) rfl rfl ?_
            refine v_goto (tgt := 5) g dX6_hasMate_67 (by decide) ?_
            refine v_sub (ls' := [(4, .int (nI (d + 1))), (3, .int 1), (0, .ref R), (1, .int (nI r)), (2, .int (nI c))]) [0, 1, 3, 4, 5] rfl ?_
            exact ih (d + 1) true (by omega) (by rw [he, hmFrom]; simp [*])
  refine v_sub (ls' := [(0, .ref R), (1, .int (nI r)), (2, .int (nI c))]) [0, 1, 2] rfl ?_
  refine v_iconst (v := 0) g dX6_hasMate_0 (by decide) ?_
  refine v_istore_n (ls' := [(3, .int 0), (0, .ref R), (1, .int (nI r)), (2, .int (nI c))]) g dX6_hasMate_1 rfl rfl ?_
  refine v_iconst (v := 0) g dX6_hasMate_2 (by decide) ?_
  refine v_istore (ls' := [(4, .int 0), (3, .int 0), (0, .ref R), (1, .int (nI r)), (2, .int (nI c))]) g dX6_hasMate_3 rfl rfl ?_
  refine v_sub (ls' := [(4, .int 0), (3, .int 0), (0, .ref R), (1, .int (nI r)), (2, .int (nI c))]) [0, 1, 2, 3, 4] rfl ?_
  exact loop 4 0 false rfl rfl
end R2
