/-! THE REFERENCE: what fits, frost, centuries -/
theorem nI_div {a b : Nat} (ha : a < 2 ^ 31) (hb : b < 2 ^ 31) : nI a / nI b = nI (a / b) := (Int32.ofNat_div ha hb).symm
theorem nI_mod {a b : Nat} (ha : a < 2 ^ 31) (hb : b < 2 ^ 31) : nI a % nI b = nI (a % b) := (Int32.ofNat_mod ha hb).symm
def soN (t s no : Nat → Nat) (r : Nat) : Nat → Nat → Bool → (Nat → Nat) → Bool × (Nat → Nat)
  | 0, _, b, a => (b, a)
  | u + 1, k, b, a => soN t s no r u (k + 1) (if b = true then (if nI (no (3 * k)) = nI r then (if nI (passN t (no (3 * k + 2)) s (11 + 4 * r)) = nI (no (3 * k + 1)) then true else false) else true) else false) (if b = true then (if nI (no (3 * k)) = nI r then cpN a s 59 else a) else a)
def ftN (t s no : Nat → Nat) (N c : Nat) (w : Int32) : Nat → Nat → Int32 → (Nat → Nat) → Int32 × (Nat → Nat)
  | 0, _, st, a => (st, a)
  | u + 1, v, st, a => ftN t s no N c w u (v + 1) (st ||| (if (soN (va_up t (75 + c) (if w = 0 then t (75 + c) else v)) (va_up s (5 + c) (if w = 0 then v else s (5 + c))) no c N 0 true a).1 = true then (1 : Int32) <<< (nI v &&& 31) else 0)) (soN (va_up t (75 + c) (if w = 0 then t (75 + c) else v)) (va_up s (5 + c) (if w = 0 then v else s (5 + c))) no c N 0 true a).2
def fitQ (D : MS) (t s a : Nat → Nat) (r w : Int32) : Int32 × (Nat → Nat) := if rowQ t r = false then (-1, a) else if withinC w 0 1 = false then (-1, a) else ftN t s (D.2 7) D.1.2.2.2.1 r.toNatClampNeg w 4 0 0 a
theorem okS_ft {t s : Nat → Nat} (h : OkS t s) (c d k : Nat) (hc : c < 3) (hd : d < 4) : OkS (va_up t (75 + c) k) (va_up s (5 + c) d) := by
  obtain ⟨o1, o2, o3, o4, o5, o6, o7, o8, o9, o10, o11⟩ := h
  have e : ∀ j, j < 75 → va_up t (75 + c) k j = t j := fun j hj => va_up_ne _ _ (by omega)
  have e2 : ∀ j, 8 ≤ j → va_up s (5 + c) d j = s j := fun j hj => va_up_ne _ _ (by omega)
  refine ⟨?_, ?_, ?_, ?_, fun r hr => ?_, fun r hr k hk => ?_, fun i hi => ?_, fun r hr => ?_, fun r hr => ?_, fun r hr k hk => ?_, ?_⟩
  · rw [e 2 (by omega)]; exact o1
  · rw [e 0 (by omega)]; exact o2
  · rw [e 1 (by omega)]; exact o3
  · rw [e 1 (by omega)]; exact o4
  · rw [e2 _ (by omega)]; exact o5 r hr
  · rw [e2 _ (by omega)]; exact o6 r hr k hk
  · rw [e _ (by omega)]; exact o7 i hi
  · unfold va_up
    split
    · exact hd
    · exact o8 r hr
  · rw [e 2 (by omega)] at hr; rw [e2 _ (by omega)]; exact o9 r hr
  · rw [e 2 (by omega)] at hr; rw [e2 _ (by omega)] at hk; rw [e2 _ (by omega), e 0 (by omega)]; exact o10 r hr k hk
  · rw [e 0 (by omega), e 1 (by omega)]; exact o11
def turnS (t s : Nat → Nat) (d : Nat) : Nat → Nat := if ¬ 2 ≤ nI (d % 8) ∧ mayDigM t s (d / 8 % t 0) = true then va_up s (23 + d / 8 % t 0) 1 else if nI (d % 8) = 2 ∧ nI (s (23 + d / 8 % t 0)) = 1 then va_up s (23 + d / 8 % t 0) 0 else if nI (d % 8) = 3 ∧ ¬ nI (s (8 + d / 8 % t 2)) ≤ 1 then leavesM s (d / 8 % t 2) else s
theorem leavesM_ok {t s : Nat → Nat} (h : OkS t s) {r : Nat} (hr : r < 3) (h1 : 2 ≤ s (8 + r)) : OkS t (leavesM s r) := by
  obtain ⟨o1, o2, o3, o4, o5, o6, o7, o8, o9, o10, o11⟩ := id h
  have o5r := o5 r hr
  have e : ∀ j, j < 23 → leavesM s r j = if j = 8 + r then s (8 + r) - 1 else s j := by
    intro j hj
    unfold leavesM
    rw [va_up_ne _ _ (by omega)]
    rfl
  have e8 : ∀ q, q < 3 → leavesM s r (8 + q) ≤ s (8 + q) := fun q hq => by
    rw [e _ (by omega)]
    split
    · rename_i hz
      obtain rfl : q = r := by omega
      omega
    · exact Nat.le_refl _
  refine ⟨o1, o2, o3, o4, fun q hq => Nat.le_trans (e8 q hq) (o5 q hq), fun q hq k hk => ?_, o7, fun q hq => ?_, fun q hq => ?_, fun q hq k hk => ?_, o11⟩
  · rw [e _ (by omega), if_neg (by omega)]; exact o6 q hq k hk
  · rw [e _ (by omega), if_neg (by omega)]; exact o8 q hq
  · rw [e _ (by omega)]
    split
    · omega
    · exact o9 q hq
  · have h8 := e8 q (by omega)
    have h5 := o5 q (by omega)
    rw [e _ (by omega), if_neg (by omega)]
    exact o10 q hq k (by omega)
theorem turnS_ok {t s : Nat → Nat} (h : OkS t s) (ht2 : 0 < t 2) (d : Nat) : OkS t (turnS t s d) := by
  unfold turnS
  split
  · exact okS_of h (fun j h1 h2 => va_up_ne _ _ (by omega))
  · split
    · exact okS_of h (fun j h1 h2 => va_up_ne _ _ (by omega))
    · split
      · rename_i hz
        have hr : d / 8 % t 2 < t 2 := Nat.mod_lt _ ht2
        have h1 := h.1
        have h5 := h.2.2.2.2.1 (d / 8 % t 2) (by omega)
        refine leavesM_ok h (by omega) ?_
        rcases Nat.lt_or_ge (s (8 + d / 8 % t 2)) 2 with q | q
        · exact absurd (nI_le (b := 1) (by omega) (by decide)) hz.2
        · exact q
      · exact h
theorem turnS_hi {t s : Nat → Nat} (h : OkS t s) (ht0 : 0 < t 0) (ht2 : 0 < t 2) (d : Nat) : ∀ j, 59 ≤ j → turnS t s d j = s j := by
  intro j hj
  have hr : d / 8 % t 2 < t 2 := Nat.mod_lt _ ht2
  have hc : d / 8 % t 0 < t 0 := Nat.mod_lt _ ht0
  have h1 := h.1
  have h2 := h.2.1
  have h5 := h.2.2.2.2.1 (d / 8 % t 2) (by omega)
  unfold turnS
  split
  · exact va_up_ne _ _ (by omega)
  · split
    · exact va_up_ne _ _ (by omega)
    · split
      · rename_i hz
        have h6 : leftC s (d / 8 % t 2) < 36 := h.2.2.2.2.2.1 (d / 8 % t 2) (by omega) (s (8 + d / 8 % t 2) - 1) (by omega)
        unfold leavesM
        rw [va_up_ne _ _ (by omega), va_up_ne _ _ (by omega)]
      · rfl
def dr (z k : Nat) : Nat := (7919 * z + 6151 * k + 1) * (7919 * z + 6151 * k + 1) % 65521
theorem lN_muL (a b : Nat) : lN a * lN b = lN (a * b) := (Int64.ofNat_mul a b).symm
theorem lN_adL (a b : Nat) : lN a + lN b = lN (a + b) := (Int64.ofNat_add a b).symm
theorem dr_ok {z k : Nat} (hz : z < 10000) (hk : k < 60) : ((((7919 * (nI z).toInt64) + (6151 * (nI k).toInt64)) + 1) * (((7919 * (nI z).toInt64) + (6151 * (nI k).toInt64)) + 1) % 65521).toInt32 = nI (dr z k) := by
  rw [nI_l (by omega), nI_l (by omega)]
  have e1 : (7919 : Int64) * lN z = lN (7919 * z) := lN_muL 7919 z
  have e2 : (6151 : Int64) * lN k = lN (6151 * k) := lN_muL 6151 k
  have e3 : lN (7919 * z + 6151 * k) + 1 = lN (7919 * z + 6151 * k + 1) := lN_adL _ 1
  rw [e1, e2, lN_adL, e3, lN_muL]
  have hq : (7919 * z + 6151 * k + 1) * (7919 * z + 6151 * k + 1) < 2 ^ 63 := by
    have h1 : 7919 * z + 6151 * k + 1 ≤ 80000000 := by omega
    exact Nat.lt_of_le_of_lt (Nat.mul_le_mul h1 h1) (by decide)
  have e4 : lN ((7919 * z + 6151 * k + 1) * (7919 * z + 6151 * k + 1)) % 65521 = lN ((7919 * z + 6151 * k + 1) * (7919 * z + 6151 * k + 1) % 65521) := (Int64.ofNat_mod hq (by decide)).symm
  rw [e4, lN_i]
  rfl
def cenN (t : Nat → Nat) (z : Nat) : Nat → Nat → (Nat → Nat) → (Nat → Nat)
  | 0, _, s => s
  | u + 1, k, s => cenN t z u (k + 1) (passM t (turnS t s (dr z k)) (-1))
def cenQ (t s a : Nat → Nat) (z y w : Int32) : Int32 × (Nat → Nat) := if withinC z 0 9999 = false then (-1, a) else if withinC y 1 60 = false then (-1, a) else if withinC w 0 1 = false then (-1, a) else ((if w = 0 then haveM (cenN t z.toNatClampNeg y.toNatClampNeg 0 s) else countM t (cenN t z.toNatClampNeg y.toNatClampNeg 0 s) 1), cpN a s 59)
def styM (z k : Nat) : Bool := if (nI z >>> (nI k &&& 31)) &&& 1 = 1 then true else false
def fzM (b : Bool) (r : Nat) : Int32 := if b = true then nI r else -1
def frW (x z : Nat) : Nat → Nat → Nat → Nat
  | 0, _, w => w
  | q + 1, k, w => frW x z q (k + 1) (w * (if styM z k = true then x else 10 - x))
def frP (t : Nat → Nat) (r z : Nat) : Nat → Nat → (Nat → Nat) → (Nat → Nat)
  | 0, _, s => s
  | q + 1, k, s => frP t r z q (k + 1) (passM t s (fzM (styM z k) r))
def frS (t s : Nat → Nat) (r : Nat) (cell : Int32) (x m : Nat) : Nat → Nat → Nat → Nat
  | 0, _, ab => ab
  | q + 1, z, ab => frS t s r cell x m q (z + 1) (ab + (if nI (frP t r z m 0 s (11 + 4 * r)) = cell then frW x z m 0 1 else 0))
def frAB (t s : Nat → Nat) (r : Nat) (cell : Int32) (x m : Nat) : Nat := frS t s r cell x m (2 ^ m) 0 0
def frR (t s : Nat → Nat) (r : Nat) (cell : Int32) (x m : Nat) (w : Int32) : Int32 := if w = 0 then nI (frAB t s r cell x m / Nat.gcd (frAB t s r cell x m) (10 ^ m)) else nI (10 ^ m / Nat.gcd (frAB t s r cell x m) (10 ^ m))
def froQ (t s a : Nat → Nat) (r cell y x w : Int32) : Int32 × (Nat → Nat) := if rowQ t r = false then (-1, a) else if cellQ t cell = false then (-1, a) else if withinC y 0 8 = false then (-1, a) else if withinC x 0 10 = false then (-1, a) else if withinC w 0 1 = false then (-1, a) else (frR t s r.toNatClampNeg cell x.toNatClampNeg y.toNatClampNeg w, cpN a s 59)
section R11
variable {l : Launch} {G : GG} {n : Nat} {R : Nat} {D : MS} {t s a : Nat → Nat} {ρ : Mu}
theorem q_isSo (hs : OkS t s) (hno : D.1.2.2.2.1 ≤ 6) (hnt : ∀ k, k < D.1.2.2.2.1 → D.2 7 (3 * k + 2) ≤ 20) {r : Nat} (hr : r < 3) : Ctr l G 5 122 0 0 mX6_isSo [.ref R, .int (nI r)] n (rem R (qS D t s a) ρ) (some (.int (zB (soN t s (D.2 7) r D.1.2.2.2.1 0 true a).1))) n (rem R (qS D t s (soN t s (D.2 7) r D.1.2.2.2.1 0 true a).2) ρ) := by
  refine Ctr.of (by decide +kernel) rfl (fun X g E => ?_)
  have loop : ∀ (u k : Nat) (b : Bool) (a1 : Nat → Nat), k + u = D.1.2.2.2.1 → soN t s (D.2 7) r D.1.2.2.2.1 0 true a = soN t s (D.2 7) r u k b a1 → V X 0 0 n (rem R (qS D t s a1) ρ) 4 [(3, .int (nI k)), (2, .int (zB b)), (0, .ref R), (1, .int (nI r))] [] := by
    intro u
    induction u with
    | zero =>
      intro k b a1 hu he
      refine v_iload_n g dX6_isSo_4 0 rfl ?_
      refine v_aload_n g dX6_isSo_5 2 rfl ?_
      refine v_get g dX6_isSo_6 fl_RX6_107 (rd_M R _ _) rfl ?_
      refine v_eqi (y := nI D.1.2.2.2.1) rfl ?_
      refine v_icmp_ge (tgt := 73) g dX6_isSo_9 (by decide) (fun h9 => ?_) (fun h9 => absurd (nI_le (a := D.1.2.2.2.1) (b := k) (by omega) (by omega)) h9)
      refine v_iload_n g dX6_isSo_73 1 rfl ?_
      exact v_zret g E dX6_isSo_74 rfl (zB_nar _) ⟨by rw [he]; rfl, rfl, by rw [he]; rfl⟩
    | succ u ih =>
      intro k b a1 hu he
      have hk20 := hnt k (by omega)
      refine v_iload_n g dX6_isSo_4 0 rfl ?_
      refine v_aload_n g dX6_isSo_5 2 rfl ?_
      refine v_get g dX6_isSo_6 fl_RX6_107 (rd_M R _ _) rfl ?_
      refine v_eqi (y := nI D.1.2.2.2.1) rfl ?_
      refine v_icmp_ge (tgt := 73) g dX6_isSo_9 (by decide) (fun h9 => absurd h9 (nI_ge (a := k) (b := D.1.2.2.2.1) (by omega) (by omega))) (fun h9 => ?_)
      refine v_iload_n g dX6_isSo_12 1 rfl ?_
      refine v_if_eq (tgt := 65) g dX6_isSo_13 (by decide) (fun h13 => ?_) (fun h13 => ?_)
      · skip
        have h13 := zB_f0 h13
        refine v_iconst (v := 0) g dX6_isSo_65 (by decide) ?_
        refine v_istore_n (ls' := [(2, .int 0), (3, .int (nI k)), (0, .ref R), (1, .int (nI r))]) g dX6_isSo_66 rfl rfl ?_
        refine v_iinc (v := (nI (k + 1))) (ls' := [(3, .int (nI (k + 1))), (2, .int 0), (0, .ref R), (1, .int (nI r))]) g dX6_isSo_67 1 rfl (nI_addE rfl rfl) rfl rfl ?_
        refine v_goto (tgt := 4) g dX6_isSo_70 (by decide) ?_
        refine v_sub (ls' := [(3, .int (nI (k + 1))), (2, .int 0), (0, .ref R), (1, .int (nI r))]) [0, 1, 2, 3] rfl ?_
        exact ih (k + 1) false _ (by omega) (by rw [he, soN]; simp only [*, if_true, if_false, Bool.false_eq_true, ↓reduceIte])
      · skip
        have h13 := zB_t0 h13
        refine v_aload_n g dX6_isSo_16 2 rfl ?_
        refine v_get g dX6_isSo_17 fl_RX6_31 (rd_M R _ _) rfl ?_
        refine v_iconst (v := 3) g dX6_isSo_20 (by decide) ?_
        refine v_iload_n g dX6_isSo_21 0 rfl ?_
        refine v_imul g dX6_isSo_22 (v_eqi (y := nI (3 * k)) (nI_mulE rfl rfl) ?_)
        refine v_iald g dX6_isSo_23 (rd_MA7 R _ _) (vp_in_nI (by omega) (by decide)) (v_eqi (y := (nI ((D.2 7) (3 * k)))) (by first | (rw [nI_clamp (by omega)]; done) | (rw [nI_clamp (by omega)]; rfl)) ?_)
        refine v_iload_n g dX6_isSo_24 3 rfl ?_
        refine v_icmp_ne (tgt := 61) g dX6_isSo_25 (by decide) (fun h25 => ?_) (fun h25 => ?_)
        · skip
          refine v_iconst (v := 1) g dX6_isSo_61 (by decide) ?_
          refine v_goto (tgt := 66) g dX6_isSo_62 (by decide) ?_
          refine v_istore_n (ls' := [(2, .int 1), (3, .int (nI k)), (0, .ref R), (1, .int (nI r))]) g dX6_isSo_66 rfl rfl ?_
          refine v_iinc (v := (nI (k + 1))) (ls' := [(3, .int (nI (k + 1))), (2, .int 1), (0, .ref R), (1, .int (nI r))]) g dX6_isSo_67 1 rfl (nI_addE rfl rfl) rfl rfl ?_
          refine v_goto (tgt := 4) g dX6_isSo_70 (by decide) ?_
          refine v_sub (ls' := [(3, .int (nI (k + 1))), (2, .int 1), (0, .ref R), (1, .int (nI r))]) [0, 1, 2, 3] rfl ?_
          exact ih (k + 1) true _ (by omega) (by rw [he, soN]; simp only [*, if_true, if_false, Bool.false_eq_true, ↓reduceIte])
        · skip
          refine v_aload_n g dX6_isSo_28 2 rfl ?_
          refine v_aload_n g dX6_isSo_29 2 rfl ?_
          refine v_get g dX6_isSo_30 fl_RX6_31 (rd_M R _ _) rfl ?_
          refine v_iconst (v := 3) g dX6_isSo_33 (by decide) ?_
          refine v_iload_n g dX6_isSo_34 0 rfl ?_
          refine v_imul g dX6_isSo_35 (v_eqi (y := nI (3 * k)) (nI_mulE rfl rfl) ?_)
          refine v_iconst (v := 2) g dX6_isSo_36 (by decide) ?_
          refine v_iadd g dX6_isSo_37 (v_eqi (y := nI ((3 * k) + 2)) (nI_addE rfl rfl) ?_)
          refine v_iald g dX6_isSo_38 (rd_MA7 R _ _) (vp_in_nI (by omega) (by decide)) (v_eqi (y := (nI ((D.2 7) ((3 * k) + 2)))) (by first | (rw [nI_clamp (by omega)]; done) | (rw [nI_clamp (by omega)]; rfl)) ?_)
          refine v_bipush (v := 11) g dX6_isSo_39 (by decide) ?_
          refine v_iconst (v := 4) g dX6_isSo_41 (by decide) ?_
          refine v_iload_n g dX6_isSo_42 3 rfl ?_
          refine v_imul g dX6_isSo_43 (v_eqi (y := nI (4 * r)) (nI_mulE rfl rfl) ?_)
          refine v_iadd g dX6_isSo_44 (v_eqi (y := nI (11 + (4 * r))) (nI_addE rfl rfl) ?_)
          refine v_callV (As := [.int (nI ((D.2 7) ((3 * k) + 2))), .int (nI (11 + (4 * r)))]) (r := some (.int (nI (passN t ((D.2 7) ((3 * k) + 2)) s (11 + (4 * r)))))) g dX6_isSo_45 (q_behindOf (D := D) (t := t) (s := s) (a := a1) hs (m := ((D.2 7) ((3 * k) + 2))) (by omega) (pl := (11 + (4 * r))) (by omega)) cl_X6_behindOf ml_RX6_156 im_X6_behindOf (rd_M R _ _) rfl rfl ⟨rfl, rfl, rfl⟩ ?_
          refine v_aload_n g dX6_isSo_48 2 rfl ?_
          refine v_get g dX6_isSo_49 fl_RX6_31 (rd_M R _ _) rfl ?_
          refine v_iconst (v := 3) g dX6_isSo_52 (by decide) ?_
          refine v_iload_n g dX6_isSo_53 0 rfl ?_
          refine v_imul g dX6_isSo_54 (v_eqi (y := nI (3 * k)) (nI_mulE rfl rfl) ?_)
          refine v_iconst (v := 1) g dX6_isSo_55 (by decide) ?_
          refine v_iadd g dX6_isSo_56 (v_eqi (y := nI ((3 * k) + 1)) (nI_addE rfl rfl) ?_)
          refine v_iald g dX6_isSo_57 (rd_MA7 R _ _) (vp_in_nI (by omega) (by decide)) (v_eqi (y := (nI ((D.2 7) ((3 * k) + 1)))) (by first | (rw [nI_clamp (by omega)]; done) | (rw [nI_clamp (by omega)]; rfl)) ?_)
          refine v_icmp_ne (tgt := 65) g dX6_isSo_58 (by decide) (fun h58 => ?_) (fun h58 => ?_)
          · skip
            refine v_iconst (v := 0) g dX6_isSo_65 (by decide) ?_
            refine v_istore_n (ls' := [(2, .int 0), (3, .int (nI k)), (0, .ref R), (1, .int (nI r))]) g dX6_isSo_66 rfl rfl ?_
            refine v_iinc (v := (nI (k + 1))) (ls' := [(3, .int (nI (k + 1))), (2, .int 0), (0, .ref R), (1, .int (nI r))]) g dX6_isSo_67 1 rfl (nI_addE rfl rfl) rfl rfl ?_
            refine v_goto (tgt := 4) g dX6_isSo_70 (by decide) ?_
            refine v_sub (ls' := [(3, .int (nI (k + 1))), (2, .int 0), (0, .ref R), (1, .int (nI r))]) [0, 1, 2, 3] rfl ?_
            exact ih (k + 1) false _ (by omega) (by rw [he, soN]; simp only [*, if_true, if_false, Bool.false_eq_true, ↓reduceIte])
          · skip
            refine v_iconst (v := 1) g dX6_isSo_61 (by decide) ?_
            refine v_goto (tgt := 66) g dX6_isSo_62 (by decide) ?_
            refine v_istore_n (ls' := [(2, .int 1), (3, .int (nI k)), (0, .ref R), (1, .int (nI r))]) g dX6_isSo_66 rfl rfl ?_
            refine v_iinc (v := (nI (k + 1))) (ls' := [(3, .int (nI (k + 1))), (2, .int 1), (0, .ref R), (1, .int (nI r))]) g dX6_isSo_67 1 rfl (nI_addE rfl rfl) rfl rfl ?_
            refine v_goto (tgt := 4) g dX6_isSo_70 (by decide) ?_
            refine v_sub (ls' := [(3, .int (nI (k + 1))), (2, .int 1), (0, .ref R), (1, .int (nI r))]) [0, 1, 2, 3] rfl ?_
            exact ih (k + 1) true _ (by omega) (by rw [he, soN]; simp only [*, if_true, if_false, Bool.false_eq_true, ↓reduceIte])
  refine v_sub (ls' := [(0, .ref R), (1, .int (nI r))]) [0, 1] rfl ?_
  refine v_iconst (v := 1) g dX6_isSo_0 (by decide) ?_
  refine v_istore_n (ls' := [(2, .int 1), (0, .ref R), (1, .int (nI r))]) g dX6_isSo_1 rfl rfl ?_
  refine v_iconst (v := 0) g dX6_isSo_2 (by decide) ?_
  refine v_istore_n (ls' := [(3, .int 0), (2, .int 1), (0, .ref R), (1, .int (nI r))]) g dX6_isSo_3 rfl rfl ?_
  refine v_sub (ls' := [(3, .int 0), (2, .int 1), (0, .ref R), (1, .int (nI r))]) [0, 1, 2, 3] rfl ?_
  exact loop D.1.2.2.2.1 0 true a (by omega) rfl
theorem q_fits (hs : OkS t s) (hno : D.1.2.2.2.1 ≤ 6) (hnt : ∀ k, k < D.1.2.2.2.1 → D.2 7 (3 * k + 2) ≤ 20) (r w : Int32) : Ctr l G 6 145 0 0 mX6_fits [.ref R, .int r, .int w] n (rem R (qS D t s a) ρ) (some (.int (fitQ D t s a r w).1)) n (rem R (qS D t s (fitQ D t s a r w).2) ρ) := by
  obtain ⟨o1, o2, o3, o4, o5, o6, o7, o8, o9, o10, o11⟩ := id hs
  refine Ctr.of (by decide +kernel) rfl (fun X g E => ?_)
  have loop : ∀ (c : Nat), c < 3 → fitQ D t s a r w = ftN t s (D.2 7) D.1.2.2.2.1 c w 4 0 0 a → ∀ (u v hh kk : Nat) (set : Int32) (a1 : Nat → Nat), v + u = 4 → ftN t s (D.2 7) D.1.2.2.2.1 c w 4 0 0 a = ftN t s (D.2 7) D.1.2.2.2.1 c w u v set a1 → V X 0 0 n (rem R (qS D (va_up t (75 + c) kk) (va_up s (5 + c) hh) a1) ρ) 45 [(6, .int (nI v)), (5, .int set), (4, .int (nI (t (75 + c)))), (3, .int (nI (s (5 + c)))), (0, .ref R), (1, .int (nI c)), (2, .int w)] [] := by
    intro c hc e0 u
    have o8c := o8 c hc
    induction u with
    | zero =>
      intro v hh kk set a1 hu he
      refine v_iload g dX6_fits_45 0 rfl ?_
      refine v_iconst (v := 4) g dX6_fits_47 (by decide) ?_
      refine v_icmp_ge (tgt := 116) g dX6_fits_48 (by decide) (fun h48 => ?_) (fun h48 => absurd (nI_le (a := 4) (b := v) (by omega) (by omega)) h48)
      refine v_aload_n g dX6_fits_116 4 rfl ?_
      refine v_get g dX6_fits_117 fl_RX6_22 (rd_M R _ _) rfl ?_
      refine v_iconst (v := 5) g dX6_fits_120 (by decide) ?_
      refine v_iload_n g dX6_fits_121 5 rfl ?_
      refine v_iadd g dX6_fits_122 (v_eqi (y := nI (5 + c)) (nI_addE rfl rfl) ?_)
      refine v_iload_n g dX6_fits_123 3 rfl ?_
      refine v_iast g dX6_fits_124 (rd_MA4 R _ _) (vp_in_nI (by omega) (by decide)) ?_
      rw [nI_clamp (n := (5 + c)) (by omega)]
      refine v_meq (μ' := rem R (qS D (va_up t (75 + c) kk) (va_up (va_up s (5 + c) hh) (5 + c) (s (5 + c))) a1) ρ) (st_GA R (qS D (va_up t (75 + c) kk) (va_up s (5 + c) hh) a1) (qS D (va_up t (75 + c) kk) (va_up (va_up s (5 + c) hh) (5 + c) (s (5 + c))) a1) ρ 4 (by decide) (va_up s (5 + c) hh) (5 + c) (s (5 + c)) rfl rfl rfl (fun j hj => by simp only [qS, uS, tA, va_up, if_neg hj])) ?_
      refine v_meq (μ' := rem R (qS D (va_up t (75 + c) kk) s a1) ρ) (by rw [va_up_up, va_up_id]) ?_
      refine v_aload_n g dX6_fits_125 4 rfl ?_
      refine v_get g dX6_fits_126 fl_RX6_13 (rd_M R _ _) rfl ?_
      refine v_bipush (v := 75) g dX6_fits_129 (by decide) ?_
      refine v_iload_n g dX6_fits_131 5 rfl ?_
      refine v_iadd g dX6_fits_132 (v_eqi (y := nI (75 + c)) (nI_addE rfl rfl) ?_)
      refine v_iload g dX6_fits_133 2 rfl ?_
      refine v_iast g dX6_fits_135 (rd_MA1 R _ _) (vp_in_nI (by omega) (by decide)) ?_
      rw [nI_clamp (n := (75 + c)) (by omega)]
      refine v_meq (μ' := rem R (qS D (va_up (va_up t (75 + c) kk) (75 + c) (t (75 + c))) s a1) ρ) (st_GA R (qS D (va_up t (75 + c) kk) s a1) (qS D (va_up (va_up t (75 + c) kk) (75 + c) (t (75 + c))) s a1) ρ 1 (by decide) (va_up t (75 + c) kk) (75 + c) (t (75 + c)) rfl rfl rfl (fun j hj => by simp only [qS, uS, tA, va_up, if_neg hj])) ?_
      refine v_meq (μ' := rem R (qS D t s a1) ρ) (by rw [va_up_up, va_up_id]) ?_
      refine v_iload g dX6_fits_136 1 rfl ?_
      exact v_iret g E dX6_fits_138 rfl ⟨by rw [e0, he]; rfl, rfl, by rw [e0, he]; rfl⟩
    | succ u ih =>
      intro v hh kk set a1 hu he
      refine v_iload g dX6_fits_45 0 rfl ?_
      refine v_iconst (v := 4) g dX6_fits_47 (by decide) ?_
      refine v_icmp_ge (tgt := 116) g dX6_fits_48 (by decide) (fun h48 => absurd h48 (nI_ge (a := v) (b := 4) (by omega) (by decide))) (fun h48 => ?_)
      refine v_aload_n g dX6_fits_51 4 rfl ?_
      refine v_get g dX6_fits_52 fl_RX6_22 (rd_M R _ _) rfl ?_
      refine v_iconst (v := 5) g dX6_fits_55 (by decide) ?_
      refine v_iload_n g dX6_fits_56 5 rfl ?_
      refine v_iadd g dX6_fits_57 (v_eqi (y := nI (5 + c)) (nI_addE rfl rfl) ?_)
      refine v_iload_n g dX6_fits_58 6 rfl ?_
      refine v_if_ne_d (tgt := 67) (u := nI (s (5 + c))) (v := nI v) 68 g dX6_fits_59 (by decide) (fun h59 K => ?_) (fun h59 K => ?_) ?_
      · skip
        refine v_iload_n g dX6_fits_67 3 rfl ?_
        exact K
      · skip
        refine v_iload g dX6_fits_62 0 rfl ?_
        refine v_goto (tgt := 68) g dX6_fits_64 (by decide) ?_
        exact K
      refine v_eqi (y := nI (if w = 0 then v else s (5 + c))) (by split <;> rfl) ?_
      refine v_iast g dX6_fits_68 (rd_MA4 R _ _) (vp_in_nI (by omega) (by decide)) ?_
      rw [nI_clamp (n := (5 + c)) (by omega)]
      refine v_meq (μ' := rem R (qS D (va_up t (75 + c) kk) (va_up (va_up s (5 + c) hh) (5 + c) (if w = 0 then v else s (5 + c))) a1) ρ) (st_GA R (qS D (va_up t (75 + c) kk) (va_up s (5 + c) hh) a1) (qS D (va_up t (75 + c) kk) (va_up (va_up s (5 + c) hh) (5 + c) (if w = 0 then v else s (5 + c))) a1) ρ 4 (by decide) (va_up s (5 + c) hh) (5 + c) (if w = 0 then v else s (5 + c)) rfl rfl rfl (fun j hj => by simp only [qS, uS, tA, va_up, if_neg hj])) ?_
      refine v_meq (μ' := rem R (qS D (va_up t (75 + c) kk) (va_up s (5 + c) (if w = 0 then v else s (5 + c))) a1) ρ) (by rw [va_up_up]) ?_
      refine v_aload_n g dX6_fits_69 4 rfl ?_
      refine v_get g dX6_fits_70 fl_RX6_13 (rd_M R _ _) rfl ?_
      refine v_bipush (v := 75) g dX6_fits_73 (by decide) ?_
      refine v_iload_n g dX6_fits_75 5 rfl ?_
      refine v_iadd g dX6_fits_76 (v_eqi (y := nI (75 + c)) (nI_addE rfl rfl) ?_)
      refine v_iload_n g dX6_fits_77 6 rfl ?_
      refine v_if_ne_d (tgt := 86) (u := nI v) (v := nI (t (75 + c))) 88 g dX6_fits_78 (by decide) (fun h78 K => ?_) (fun h78 K => ?_) ?_
      · skip
        refine v_iload g dX6_fits_86 0 rfl ?_
        exact K
      · skip
        refine v_iload g dX6_fits_81 2 rfl ?_
        refine v_goto (tgt := 88) g dX6_fits_83 (by decide) ?_
        exact K
      refine v_eqi (y := nI (if w = 0 then t (75 + c) else v)) (by split <;> rfl) ?_
      refine v_iast g dX6_fits_88 (rd_MA1 R _ _) (vp_in_nI (by omega) (by decide)) ?_
      rw [nI_clamp (n := (75 + c)) (by omega)]
      refine v_meq (μ' := rem R (qS D (va_up (va_up t (75 + c) kk) (75 + c) (if w = 0 then t (75 + c) else v)) (va_up s (5 + c) (if w = 0 then v else s (5 + c))) a1) ρ) (st_GA R (qS D (va_up t (75 + c) kk) (va_up s (5 + c) (if w = 0 then v else s (5 + c))) a1) (qS D (va_up (va_up t (75 + c) kk) (75 + c) (if w = 0 then t (75 + c) else v)) (va_up s (5 + c) (if w = 0 then v else s (5 + c))) a1) ρ 1 (by decide) (va_up t (75 + c) kk) (75 + c) (if w = 0 then t (75 + c) else v) rfl rfl rfl (fun j hj => by simp only [qS, uS, tA, va_up, if_neg hj])) ?_
      refine v_meq (μ' := rem R (qS D (va_up t (75 + c) (if w = 0 then t (75 + c) else v)) (va_up s (5 + c) (if w = 0 then v else s (5 + c))) a1) ρ) (by rw [va_up_up]) ?_
      have hs1 := okS_ft hs c (if w = 0 then v else s (5 + c)) (if w = 0 then t (75 + c) else v) hc (by split <;> omega)
      refine v_iload g dX6_fits_89 1 rfl ?_
      refine v_aload_n g dX6_fits_91 4 rfl ?_
      refine v_iload_n g dX6_fits_92 5 rfl ?_
      refine v_callV (As := [.int (nI c)]) (r := some (.int (zB (soN (va_up t (75 + c) (if w = 0 then t (75 + c) else v)) (va_up s (5 + c) (if w = 0 then v else s (5 + c))) (D.2 7) c D.1.2.2.2.1 0 true a1).1))) g dX6_fits_93 (q_isSo (D := D) (t := (va_up t (75 + c) (if w = 0 then t (75 + c) else v))) (s := (va_up s (5 + c) (if w = 0 then v else s (5 + c)))) (a := a1) hs1 hno hnt (r := c) (by omega)) cl_X6_isSo ml_RX6_169 im_X6_isSo (rd_M R _ _) rfl rfl ⟨rfl, rfl, rfl⟩ ?_
      refine v_if_eq_d (tgt := 106) (u := 0) (v := ((1 : Int32) <<< (nI v &&& 31))) 107 g dX6_fits_96 (by decide) (fun h96 K => ?_) (fun h96 K => ?_) ?_
      · skip
        have h96 := zB_f0 h96
        refine v_iconst (v := 0) g dX6_fits_106 (by decide) ?_
        exact K
      · skip
        have h96 := zB_t0 h96
        refine v_iconst (v := 1) g dX6_fits_99 (by decide) ?_
        refine v_iload g dX6_fits_100 0 rfl ?_
        refine v_ishl g dX6_fits_102 ?_
        refine v_goto (tgt := 107) g dX6_fits_103 (by decide) ?_
        exact K
      refine v_eqi (y := if (soN (va_up t (75 + c) (if w = 0 then t (75 + c) else v)) (va_up s (5 + c) (if w = 0 then v else s (5 + c))) (D.2 7) c D.1.2.2.2.1 0 true a1).1 = true then (1 : Int32) <<< (nI v &&& 31) else 0) (by cases (soN (va_up t (75 + c) (if w = 0 then t (75 + c) else v)) (va_up s (5 + c) (if w = 0 then v else s (5 + c))) (D.2 7) c D.1.2.2.2.1 0 true a1).1 <;> rfl) ?_
      refine v_ior g dX6_fits_107 ?_
      refine v_istore (ls' := [(5, .int (set ||| (if (soN (va_up t (75 + c) (if w = 0 then t (75 + c) else v)) (va_up s (5 + c) (if w = 0 then v else s (5 + c))) (D.2 7) c D.1.2.2.2.1 0 true a1).1 = true then (1 : Int32) <<< (nI v &&& 31) else 0))), (6, .int (nI v)), (4, .int (nI (t (75 + c)))), (3, .int (nI (s (5 + c)))), (0, .ref R), (1, .int (nI c)), (2, .int w)]) g dX6_fits_108 rfl rfl ?_
      refine v_iinc (v := (nI (v + 1))) (ls' := [(6, .int (nI (v + 1))), (5, .int (set ||| (if (soN (va_up t (75 + c) (if w = 0 then t (75 + c) else v)) (va_up s (5 + c) (if w = 0 then v else s (5 + c))) (D.2 7) c D.1.2.2.2.1 0 true a1).1 = true then (1 : Int32) <<< (nI v &&& 31) else 0))), (4, .int (nI (t (75 + c)))), (3, .int (nI (s (5 + c)))), (0, .ref R), (1, .int (nI c)), (2, .int w)]) g dX6_fits_110 1 rfl (nI_addE rfl rfl) rfl rfl ?_
      refine v_goto (tgt := 45) g dX6_fits_113 (by decide) ?_
      refine v_sub (ls' := [(6, .int (nI (v + 1))), (5, .int (set ||| (if (soN (va_up t (75 + c) (if w = 0 then t (75 + c) else v)) (va_up s (5 + c) (if w = 0 then v else s (5 + c))) (D.2 7) c D.1.2.2.2.1 0 true a1).1 = true then (1 : Int32) <<< (nI v &&& 31) else 0))), (4, .int (nI (t (75 + c)))), (3, .int (nI (s (5 + c)))), (0, .ref R), (1, .int (nI c)), (2, .int w)]) [0, 1, 2, 3, 4, 5, 6] rfl ?_
      exact ih (v + 1) _ _ _ _ (by omega) (by rw [he, ftN])
  refine v_sub (ls' := [(0, .ref R), (1, .int r), (2, .int w)]) [0, 1, 2] rfl ?_
  refine v_aload_n g dX6_fits_0 0 rfl ?_
  refine v_iload_n g dX6_fits_1 1 rfl ?_
  refine v_callV (As := [.int r]) (r := some (.int (zB (rowQ t r)))) g dX6_fits_2 (q_isRow (D := D) (t := t) r) cl_X6_isRow ml_RX6_126 im_X6_isRow (rd_M R _ _) rfl rfl ⟨rfl, rfl, rfl⟩ ?_
  refine v_if_eq (tgt := 17) g dX6_fits_5 (by decide) (fun h5 => ?_) (fun h5 => ?_)
  · skip
    have h5 := zB_f0 h5
    refine v_iconst (v := (-1)) g dX6_fits_17 (by decide) ?_
    exact v_iret g E dX6_fits_18 rfl ⟨by simp [fitQ, *], rfl, by simp [fitQ, *]⟩
  · skip
    have h5 := zB_t0 h5
    refine v_iload_n g dX6_fits_8 2 rfl ?_
    refine v_iconst (v := 0) g dX6_fits_9 (by decide) ?_
    refine v_iconst (v := 1) g dX6_fits_10 (by decide) ?_
    refine v_callS (As := [.int w, .int 0, .int 1]) (r := some (.int (zB (withinC w 0 1)))) g dX6_fits_11 (k_X6_in w 0 1) cl_X6_in ml_RX6_54 sm_X6_in rfl ⟨rfl, rfl, rfl⟩ ?_
    refine v_if_ne (tgt := 19) g dX6_fits_14 (by decide) (fun h14 => ?_) (fun h14 => ?_)
    · skip
      have h14 := zB_t0 h14
      obtain ⟨c, hc, ec⟩ := rowQ_ok hs h5
      subst ec
      refine v_aload_n g dX6_fits_19 0 rfl ?_
      refine v_get g dX6_fits_20 fl_RX6_22 (rd_M R _ _) rfl ?_
      refine v_iconst (v := 5) g dX6_fits_23 (by decide) ?_
      refine v_iload_n g dX6_fits_24 1 rfl ?_
      refine v_iadd g dX6_fits_25 (v_eqi (y := nI (5 + c)) (nI_addE rfl rfl) ?_)
      refine v_iald g dX6_fits_26 (rd_MA4 R _ _) (vp_in_nI (by omega) (by decide)) (v_eqi (y := (nI (s (5 + c)))) (by first | (rw [nI_clamp (by omega)]; done) | (rw [nI_clamp (by omega)]; rfl)) ?_)
      refine v_istore_n (ls' := [(3, .int (nI (s (5 + c)))), (0, .ref R), (1, .int (nI c)), (2, .int w)]) g dX6_fits_27 rfl rfl ?_
      refine v_aload_n g dX6_fits_28 1 rfl ?_
      refine v_get g dX6_fits_29 fl_RX6_13 (rd_M R _ _) rfl ?_
      refine v_bipush (v := 75) g dX6_fits_32 (by decide) ?_
      refine v_iload_n g dX6_fits_34 2 rfl ?_
      refine v_iadd g dX6_fits_35 (v_eqi (y := nI (75 + c)) (nI_addE rfl rfl) ?_)
      refine v_iald g dX6_fits_36 (rd_MA1 R _ _) (vp_in_nI (by omega) (by decide)) (v_eqi (y := (nI (t (75 + c)))) (by first | (rw [nI_clamp (by omega)]; done) | (rw [nI_clamp (by omega)]; rfl)) ?_)
      refine v_istore (ls' := [(4, .int (nI (t (75 + c)))), (3, .int (nI (s (5 + c)))), (0, .ref R), (1, .int (nI c)), (2, .int w)]) g dX6_fits_37 rfl rfl ?_
      refine v_iconst (v := 0) g dX6_fits_39 (by decide) ?_
      refine v_istore (ls' := [(5, .int 0), (4, .int (nI (t (75 + c)))), (3, .int (nI (s (5 + c)))), (0, .ref R), (1, .int (nI c)), (2, .int w)]) g dX6_fits_40 rfl rfl ?_
      refine v_iconst (v := 0) g dX6_fits_42 (by decide) ?_
      refine v_istore (ls' := [(6, .int 0), (5, .int 0), (4, .int (nI (t (75 + c)))), (3, .int (nI (s (5 + c)))), (0, .ref R), (1, .int (nI c)), (2, .int w)]) g dX6_fits_43 rfl rfl ?_
      refine v_meq (μ' := rem R (qS D (va_up t (75 + c) (t (75 + c))) (va_up s (5 + c) (s (5 + c))) a) ρ) (by rw [va_up_id, va_up_id]) ?_
      refine v_sub (ls' := [(6, .int 0), (5, .int 0), (4, .int (nI (t (75 + c)))), (3, .int (nI (s (5 + c)))), (0, .ref R), (1, .int (nI c)), (2, .int w)]) [0, 1, 2, 3, 4, 5, 6] rfl ?_
      exact loop c (by omega) (by unfold fitQ; rw [if_neg (by rw [h5]; decide), if_neg (by rw [h14]; decide), nI_clamp (by omega)]) 4 0 _ _ _ _ rfl rfl
    · skip
      have h14 := zB_f0 h14
      refine v_iconst (v := (-1)) g dX6_fits_17 (by decide) ?_
      exact v_iret g E dX6_fits_18 rfl ⟨by simp [fitQ, *], rfl, by simp [fitQ, *]⟩
theorem q_turn (hs : OkS t s) (ht0 : 0 < t 0) (ht2 : 0 < t 2) {d : Nat} (hd : d < 65521) : Ctr l G 2 45 0 0 mX6_turn [.ref R, .int (nI d)] n (rem R (qS D t s a) ρ) none n (rem R (qS D t (turnS t s d) a) ρ) := by
  obtain ⟨o1, o2, o3, o4, o5, o6, o7, o8, o9, o10, o11⟩ := id hs
  refine Ctr.of (by decide +kernel) rfl (fun X g E => ?_)
  have hc : d / 8 % t 0 < t 0 := Nat.mod_lt _ ht0
  have hr : d / 8 % t 2 < t 2 := Nat.mod_lt _ ht2
  have o5r := o5 (d / 8 % t 2) (by omega)
  have o9r := o9 (d / 8 % t 2) hr
  refine v_sub (ls' := [(0, .ref R), (1, .int (nI d))]) [0, 1] rfl ?_
  refine v_iload_n g dX6_turn_0 1 rfl ?_
  refine v_bipush (v := 8) g dX6_turn_1 (by decide) ?_
  refine v_idiv g dX6_turn_3 (by decide) ?_
  refine v_eqi (y := nI (d / 8)) (nI_div (b := 8) (by omega) (by decide)) ?_
  refine v_aload_n g dX6_turn_4 0 rfl ?_
  refine v_get g dX6_turn_5 fl_RX6_13 (rd_M R _ _) rfl ?_
  refine v_iconst (v := 0) g dX6_turn_8 (by decide) ?_
  refine v_iald g dX6_turn_9 (rd_MA1 R _ _) (by unfold vp_in; decide) (v_eqi (y := (nI (t 0))) rfl ?_)
  refine v_irem g dX6_turn_10 (nI_ne0 ht0 (by omega)) ?_
  refine v_eqi (y := nI (d / 8 % t 0)) (nI_mod (by omega) (by omega)) ?_
  refine v_istore_n (ls' := [(2, .int (nI (d / 8 % t 0))), (0, .ref R), (1, .int (nI d))]) g dX6_turn_11 rfl rfl ?_
  refine v_iload_n g dX6_turn_12 2 rfl ?_
  refine v_bipush (v := 8) g dX6_turn_13 (by decide) ?_
  refine v_idiv g dX6_turn_15 (by decide) ?_
  refine v_eqi (y := nI (d / 8)) (nI_div (b := 8) (by omega) (by decide)) ?_
  refine v_aload_n g dX6_turn_16 1 rfl ?_
  refine v_get g dX6_turn_17 fl_RX6_13 (rd_M R _ _) rfl ?_
  refine v_iconst (v := 2) g dX6_turn_20 (by decide) ?_
  refine v_iald g dX6_turn_21 (rd_MA1 R _ _) (by unfold vp_in; decide) (v_eqi (y := (nI (t 2))) rfl ?_)
  refine v_irem g dX6_turn_22 (nI_ne0 ht2 (by omega)) ?_
  refine v_eqi (y := nI (d / 8 % t 2)) (nI_mod (by omega) (by omega)) ?_
  refine v_istore_n (ls' := [(3, .int (nI (d / 8 % t 2))), (2, .int (nI (d / 8 % t 0))), (0, .ref R), (1, .int (nI d))]) g dX6_turn_23 rfl rfl ?_
  refine v_iload_n g dX6_turn_24 3 rfl ?_
  refine v_bipush (v := 8) g dX6_turn_25 (by decide) ?_
  refine v_irem g dX6_turn_27 (by decide) ?_
  refine v_eqi (y := nI (d % 8)) (nI_mod (b := 8) (by omega) (by decide)) ?_
  refine v_istore (ls' := [(4, .int (nI (d % 8))), (3, .int (nI (d / 8 % t 2))), (2, .int (nI (d / 8 % t 0))), (0, .ref R), (1, .int (nI d))]) g dX6_turn_28 rfl rfl ?_
  refine v_iload g dX6_turn_30 0 rfl ?_
  refine v_iconst (v := 2) g dX6_turn_32 (by decide) ?_
  refine v_icmp_ge (tgt := 57) g dX6_turn_33 (by decide) (fun h33 => ?_) (fun h33 => ?_)
  · skip
    refine v_iload g dX6_turn_57 0 rfl ?_
    refine v_iconst (v := 2) g dX6_turn_59 (by decide) ?_
    refine v_icmp_ne (tgt := 85) g dX6_turn_60 (by decide) (fun h60 => ?_) (fun h60 => ?_)
    · skip
      refine v_iload g dX6_turn_85 0 rfl ?_
      refine v_iconst (v := 3) g dX6_turn_87 (by decide) ?_
      refine v_icmp_ne (tgt := 110) g dX6_turn_88 (by decide) (fun h88 => ?_) (fun h88 => ?_)
      · skip
        exact v_vret g E dX6_turn_110 rfl ⟨rfl, rfl, by first | (simp [turnS, *]; done) | (exact absurd (h60.symm.trans h88) (by decide)) | (exact absurd (h60.symm.trans h88_2) (by decide)) | (exact absurd (h60.symm.trans h88_3) (by decide)) | (exact absurd (h60.symm.trans h88_4) (by decide)) | (exact absurd (h60_2.symm.trans h88) (by decide)) | (exact absurd (h60_2.symm.trans h88_2) (by decide)) | (exact absurd (h60_2.symm.trans h88_3) (by decide)) | (exact absurd (h60_2.symm.trans h88_4) (by decide)) ⟩
      · skip
        refine v_aload_n g dX6_turn_91 3 rfl ?_
        refine v_get g dX6_turn_92 fl_RX6_22 (rd_M R _ _) rfl ?_
        refine v_bipush (v := 8) g dX6_turn_95 (by decide) ?_
        refine v_iload_n g dX6_turn_97 1 rfl ?_
        refine v_iadd g dX6_turn_98 (v_eqi (y := nI (8 + (d / 8 % t 2))) (nI_addE rfl rfl) ?_)
        refine v_iald g dX6_turn_99 (rd_MA4 R _ _) (vp_in_nI (by omega) (by decide)) (v_eqi (y := (nI (s (8 + (d / 8 % t 2))))) (by first | (rw [nI_clamp (by omega)]; done) | (rw [nI_clamp (by omega)]; rfl)) ?_)
        refine v_iconst (v := 1) g dX6_turn_100 (by decide) ?_
        refine v_icmp_le (tgt := 110) g dX6_turn_101 (by decide) (fun h101 => ?_) (fun h101 => ?_)
        · skip
          exact v_vret g E dX6_turn_110 rfl ⟨rfl, rfl, by first | (simp [turnS, *]; done) | (exact absurd (h60.symm.trans h88) (by decide)) | (exact absurd (h60.symm.trans h88_2) (by decide)) | (exact absurd (h60.symm.trans h88_3) (by decide)) | (exact absurd (h60.symm.trans h88_4) (by decide)) | (exact absurd (h60_2.symm.trans h88) (by decide)) | (exact absurd (h60_2.symm.trans h88_2) (by decide)) | (exact absurd (h60_2.symm.trans h88_3) (by decide)) | (exact absurd (h60_2.symm.trans h88_4) (by decide)) ⟩
        · skip
          refine v_aload_n g dX6_turn_104 3 rfl ?_
          refine v_iload_n g dX6_turn_105 1 rfl ?_
          refine v_callV (As := [.int (nI (d / 8 % t 2))]) (r := some (.int (nI (leftC s (d / 8 % t 2))))) g dX6_turn_106 (q_leaves (D := D) (t := t) (s := s) (a := a) hs (r := (d / 8 % t 2)) (by omega) (by omega)) cl_X6_leaves ml_RX6_147 im_X6_leaves (rd_M R _ _) rfl rfl ⟨rfl, rfl, rfl⟩ ?_
          refine v_pop g dX6_turn_109 rfl ?_
          exact v_vret g E dX6_turn_110 rfl ⟨rfl, rfl, by first | (simp [turnS, *]; done) | (exact absurd (h60.symm.trans h88) (by decide)) | (exact absurd (h60.symm.trans h88_2) (by decide)) | (exact absurd (h60.symm.trans h88_3) (by decide)) | (exact absurd (h60.symm.trans h88_4) (by decide)) | (exact absurd (h60_2.symm.trans h88) (by decide)) | (exact absurd (h60_2.symm.trans h88_2) (by decide)) | (exact absurd (h60_2.symm.trans h88_3) (by decide)) | (exact absurd (h60_2.symm.trans h88_4) (by decide)) ⟩
    · skip
      refine v_aload_n g dX6_turn_63 3 rfl ?_
      refine v_iload_n g dX6_turn_64 2 rfl ?_
      refine v_callV (As := [.int (nI (d / 8 % t 0))]) (r := some (.int (nI (s (23 + (d / 8 % t 0)))))) g dX6_turn_65 (k_X6_lies (D := (qS D t s a)) (c := (d / 8 % t 0)) (show (d / 8 % t 0) < 36 by omega)) cl_X6_lies ml_RX6_113 im_X6_lies (rd_M R _ _) rfl rfl ⟨rfl, rfl, rfl⟩ ?_
      refine v_iconst (v := 1) g dX6_turn_68 (by decide) ?_
      refine v_icmp_ne (tgt := 85) g dX6_turn_69 (by decide) (fun h69 => ?_) (fun h69 => ?_)
      · skip
        refine v_iload g dX6_turn_85 0 rfl ?_
        refine v_iconst (v := 3) g dX6_turn_87 (by decide) ?_
        refine v_icmp_ne (tgt := 110) g dX6_turn_88 (by decide) (fun h88_2 => ?_) (fun h88_2 => ?_)
        · skip
          exact v_vret g E dX6_turn_110 rfl ⟨rfl, rfl, by first | (simp [turnS, *]; done) | (exact absurd (h60.symm.trans h88) (by decide)) | (exact absurd (h60.symm.trans h88_2) (by decide)) | (exact absurd (h60.symm.trans h88_3) (by decide)) | (exact absurd (h60.symm.trans h88_4) (by decide)) | (exact absurd (h60_2.symm.trans h88) (by decide)) | (exact absurd (h60_2.symm.trans h88_2) (by decide)) | (exact absurd (h60_2.symm.trans h88_3) (by decide)) | (exact absurd (h60_2.symm.trans h88_4) (by decide)) ⟩
        · skip
          refine v_aload_n g dX6_turn_91 3 rfl ?_
          refine v_get g dX6_turn_92 fl_RX6_22 (rd_M R _ _) rfl ?_
          refine v_bipush (v := 8) g dX6_turn_95 (by decide) ?_
          refine v_iload_n g dX6_turn_97 1 rfl ?_
          refine v_iadd g dX6_turn_98 (v_eqi (y := nI (8 + (d / 8 % t 2))) (nI_addE rfl rfl) ?_)
          refine v_iald g dX6_turn_99 (rd_MA4 R _ _) (vp_in_nI (by omega) (by decide)) (v_eqi (y := (nI (s (8 + (d / 8 % t 2))))) (by first | (rw [nI_clamp (by omega)]; done) | (rw [nI_clamp (by omega)]; rfl)) ?_)
          refine v_iconst (v := 1) g dX6_turn_100 (by decide) ?_
          refine v_icmp_le (tgt := 110) g dX6_turn_101 (by decide) (fun h101_2 => ?_) (fun h101_2 => ?_)
          · skip
            exact v_vret g E dX6_turn_110 rfl ⟨rfl, rfl, by first | (simp [turnS, *]; done) | (exact absurd (h60.symm.trans h88) (by decide)) | (exact absurd (h60.symm.trans h88_2) (by decide)) | (exact absurd (h60.symm.trans h88_3) (by decide)) | (exact absurd (h60.symm.trans h88_4) (by decide)) | (exact absurd (h60_2.symm.trans h88) (by decide)) | (exact absurd (h60_2.symm.trans h88_2) (by decide)) | (exact absurd (h60_2.symm.trans h88_3) (by decide)) | (exact absurd (h60_2.symm.trans h88_4) (by decide)) ⟩
          · skip
            refine v_aload_n g dX6_turn_104 3 rfl ?_
            refine v_iload_n g dX6_turn_105 1 rfl ?_
            refine v_callV (As := [.int (nI (d / 8 % t 2))]) (r := some (.int (nI (leftC s (d / 8 % t 2))))) g dX6_turn_106 (q_leaves (D := D) (t := t) (s := s) (a := a) hs (r := (d / 8 % t 2)) (by omega) (by omega)) cl_X6_leaves ml_RX6_147 im_X6_leaves (rd_M R _ _) rfl rfl ⟨rfl, rfl, rfl⟩ ?_
            refine v_pop g dX6_turn_109 rfl ?_
            exact v_vret g E dX6_turn_110 rfl ⟨rfl, rfl, by first | (simp [turnS, *]; done) | (exact absurd (h60.symm.trans h88) (by decide)) | (exact absurd (h60.symm.trans h88_2) (by decide)) | (exact absurd (h60.symm.trans h88_3) (by decide)) | (exact absurd (h60.symm.trans h88_4) (by decide)) | (exact absurd (h60_2.symm.trans h88) (by decide)) | (exact absurd (h60_2.symm.trans h88_2) (by decide)) | (exact absurd (h60_2.symm.trans h88_3) (by decide)) | (exact absurd (h60_2.symm.trans h88_4) (by decide)) ⟩
      · skip
        refine v_aload_n g dX6_turn_72 3 rfl ?_
        refine v_get g dX6_turn_73 fl_RX6_22 (rd_M R _ _) rfl ?_
        refine v_bipush (v := 23) g dX6_turn_76 (by decide) ?_
        refine v_iload_n g dX6_turn_78 2 rfl ?_
        refine v_iadd g dX6_turn_79 (v_eqi (y := nI (23 + (d / 8 % t 0))) (nI_addE rfl rfl) ?_)
        refine v_iconst (v := 0) g dX6_turn_80 (by decide) ?_
        refine v_iast g dX6_turn_81 (rd_MA4 R _ _) (vp_in_nI (by omega) (by decide)) ?_
        rw [nI_clamp (n := (23 + (d / 8 % t 0))) (by omega)]
        refine v_meq (μ' := rem R (qS D t (va_up s (23 + (d / 8 % t 0)) 0) a) ρ) (st_GA R (qS D t s a) (qS D t (va_up s (23 + (d / 8 % t 0)) 0) a) ρ 4 (by decide) s (23 + (d / 8 % t 0)) 0 rfl rfl rfl (fun j hj => by simp only [qS, uS, tA, va_up, if_neg hj])) ?_
        refine v_goto (tgt := 110) g dX6_turn_82 (by decide) ?_
        exact v_vret g E dX6_turn_110 rfl ⟨rfl, rfl, by first | (simp [turnS, *]; done) | (exact absurd (h60.symm.trans h88) (by decide)) | (exact absurd (h60.symm.trans h88_2) (by decide)) | (exact absurd (h60.symm.trans h88_3) (by decide)) | (exact absurd (h60.symm.trans h88_4) (by decide)) | (exact absurd (h60_2.symm.trans h88) (by decide)) | (exact absurd (h60_2.symm.trans h88_2) (by decide)) | (exact absurd (h60_2.symm.trans h88_3) (by decide)) | (exact absurd (h60_2.symm.trans h88_4) (by decide)) ⟩
  · skip
    refine v_aload_n g dX6_turn_36 3 rfl ?_
    refine v_iload_n g dX6_turn_37 2 rfl ?_
    refine v_callV (As := [.int (nI (d / 8 % t 0))]) (r := some (.int (zB (mayDigM t s (d / 8 % t 0))))) g dX6_turn_38 (k_X6_mayDig (D := (qS D t s a)) hs (c := (d / 8 % t 0)) (show (d / 8 % t 0) < 36 by omega)) cl_X6_mayDig ml_RX6_141 im_X6_mayDig (rd_M R _ _) rfl rfl ⟨rfl, rfl, rfl⟩ ?_
    refine v_if_eq (tgt := 57) g dX6_turn_41 (by decide) (fun h41 => ?_) (fun h41 => ?_)
    · skip
      have h41 := zB_f0 h41
      refine v_iload g dX6_turn_57 0 rfl ?_
      refine v_iconst (v := 2) g dX6_turn_59 (by decide) ?_
      refine v_icmp_ne (tgt := 85) g dX6_turn_60 (by decide) (fun h60_2 => ?_) (fun h60_2 => ?_)
      · skip
        refine v_iload g dX6_turn_85 0 rfl ?_
        refine v_iconst (v := 3) g dX6_turn_87 (by decide) ?_
        refine v_icmp_ne (tgt := 110) g dX6_turn_88 (by decide) (fun h88_3 => ?_) (fun h88_3 => ?_)
        · skip
          exact v_vret g E dX6_turn_110 rfl ⟨rfl, rfl, by first | (simp [turnS, *]; done) | (exact absurd (h60.symm.trans h88) (by decide)) | (exact absurd (h60.symm.trans h88_2) (by decide)) | (exact absurd (h60.symm.trans h88_3) (by decide)) | (exact absurd (h60.symm.trans h88_4) (by decide)) | (exact absurd (h60_2.symm.trans h88) (by decide)) | (exact absurd (h60_2.symm.trans h88_2) (by decide)) | (exact absurd (h60_2.symm.trans h88_3) (by decide)) | (exact absurd (h60_2.symm.trans h88_4) (by decide)) ⟩
        · skip
          refine v_aload_n g dX6_turn_91 3 rfl ?_
          refine v_get g dX6_turn_92 fl_RX6_22 (rd_M R _ _) rfl ?_
          refine v_bipush (v := 8) g dX6_turn_95 (by decide) ?_
          refine v_iload_n g dX6_turn_97 1 rfl ?_
          refine v_iadd g dX6_turn_98 (v_eqi (y := nI (8 + (d / 8 % t 2))) (nI_addE rfl rfl) ?_)
          refine v_iald g dX6_turn_99 (rd_MA4 R _ _) (vp_in_nI (by omega) (by decide)) (v_eqi (y := (nI (s (8 + (d / 8 % t 2))))) (by first | (rw [nI_clamp (by omega)]; done) | (rw [nI_clamp (by omega)]; rfl)) ?_)
          refine v_iconst (v := 1) g dX6_turn_100 (by decide) ?_
          refine v_icmp_le (tgt := 110) g dX6_turn_101 (by decide) (fun h101_3 => ?_) (fun h101_3 => ?_)
          · skip
            exact v_vret g E dX6_turn_110 rfl ⟨rfl, rfl, by first | (simp [turnS, *]; done) | (exact absurd (h60.symm.trans h88) (by decide)) | (exact absurd (h60.symm.trans h88_2) (by decide)) | (exact absurd (h60.symm.trans h88_3) (by decide)) | (exact absurd (h60.symm.trans h88_4) (by decide)) | (exact absurd (h60_2.symm.trans h88) (by decide)) | (exact absurd (h60_2.symm.trans h88_2) (by decide)) | (exact absurd (h60_2.symm.trans h88_3) (by decide)) | (exact absurd (h60_2.symm.trans h88_4) (by decide)) ⟩
          · skip
            refine v_aload_n g dX6_turn_104 3 rfl ?_
            refine v_iload_n g dX6_turn_105 1 rfl ?_
            refine v_callV (As := [.int (nI (d / 8 % t 2))]) (r := some (.int (nI (leftC s (d / 8 % t 2))))) g dX6_turn_106 (q_leaves (D := D) (t := t) (s := s) (a := a) hs (r := (d / 8 % t 2)) (by omega) (by omega)) cl_X6_leaves ml_RX6_147 im_X6_leaves (rd_M R _ _) rfl rfl ⟨rfl, rfl, rfl⟩ ?_
            refine v_pop g dX6_turn_109 rfl ?_
            exact v_vret g E dX6_turn_110 rfl ⟨rfl, rfl, by first | (simp [turnS, *]; done) | (exact absurd (h60.symm.trans h88) (by decide)) | (exact absurd (h60.symm.trans h88_2) (by decide)) | (exact absurd (h60.symm.trans h88_3) (by decide)) | (exact absurd (h60.symm.trans h88_4) (by decide)) | (exact absurd (h60_2.symm.trans h88) (by decide)) | (exact absurd (h60_2.symm.trans h88_2) (by decide)) | (exact absurd (h60_2.symm.trans h88_3) (by decide)) | (exact absurd (h60_2.symm.trans h88_4) (by decide)) ⟩
      · skip
        refine v_aload_n g dX6_turn_63 3 rfl ?_
        refine v_iload_n g dX6_turn_64 2 rfl ?_
        refine v_callV (As := [.int (nI (d / 8 % t 0))]) (r := some (.int (nI (s (23 + (d / 8 % t 0)))))) g dX6_turn_65 (k_X6_lies (D := (qS D t s a)) (c := (d / 8 % t 0)) (show (d / 8 % t 0) < 36 by omega)) cl_X6_lies ml_RX6_113 im_X6_lies (rd_M R _ _) rfl rfl ⟨rfl, rfl, rfl⟩ ?_
        refine v_iconst (v := 1) g dX6_turn_68 (by decide) ?_
        refine v_icmp_ne (tgt := 85) g dX6_turn_69 (by decide) (fun h69_2 => ?_) (fun h69_2 => ?_)
        · skip
          refine v_iload g dX6_turn_85 0 rfl ?_
          refine v_iconst (v := 3) g dX6_turn_87 (by decide) ?_
          refine v_icmp_ne (tgt := 110) g dX6_turn_88 (by decide) (fun h88_4 => ?_) (fun h88_4 => ?_)
          · skip
            exact v_vret g E dX6_turn_110 rfl ⟨rfl, rfl, by first | (simp [turnS, *]; done) | (exact absurd (h60.symm.trans h88) (by decide)) | (exact absurd (h60.symm.trans h88_2) (by decide)) | (exact absurd (h60.symm.trans h88_3) (by decide)) | (exact absurd (h60.symm.trans h88_4) (by decide)) | (exact absurd (h60_2.symm.trans h88) (by decide)) | (exact absurd (h60_2.symm.trans h88_2) (by decide)) | (exact absurd (h60_2.symm.trans h88_3) (by decide)) | (exact absurd (h60_2.symm.trans h88_4) (by decide)) ⟩
          · skip
            refine v_aload_n g dX6_turn_91 3 rfl ?_
            refine v_get g dX6_turn_92 fl_RX6_22 (rd_M R _ _) rfl ?_
            refine v_bipush (v := 8) g dX6_turn_95 (by decide) ?_
            refine v_iload_n g dX6_turn_97 1 rfl ?_
            refine v_iadd g dX6_turn_98 (v_eqi (y := nI (8 + (d / 8 % t 2))) (nI_addE rfl rfl) ?_)
            refine v_iald g dX6_turn_99 (rd_MA4 R _ _) (vp_in_nI (by omega) (by decide)) (v_eqi (y := (nI (s (8 + (d / 8 % t 2))))) (by first | (rw [nI_clamp (by omega)]; done) | (rw [nI_clamp (by omega)]; rfl)) ?_)
            refine v_iconst (v := 1) g dX6_turn_100 (by decide) ?_
            refine v_icmp_le (tgt := 110) g dX6_turn_101 (by decide) (fun h101_4 => ?_) (fun h101_4 => ?_)
            · skip
              exact v_vret g E dX6_turn_110 rfl ⟨rfl, rfl, by first | (simp [turnS, *]; done) | (exact absurd (h60.symm.trans h88) (by decide)) | (exact absurd (h60.symm.trans h88_2) (by decide)) | (exact absurd (h60.symm.trans h88_3) (by decide)) | (exact absurd (h60.symm.trans h88_4) (by decide)) | (exact absurd (h60_2.symm.trans h88) (by decide)) | (exact absurd (h60_2.symm.trans h88_2) (by decide)) | (exact absurd (h60_2.symm.trans h88_3) (by decide)) | (exact absurd (h60_2.symm.trans h88_4) (by decide)) ⟩
            · skip
              refine v_aload_n g dX6_turn_104 3 rfl ?_
              refine v_iload_n g dX6_turn_105 1 rfl ?_
              refine v_callV (As := [.int (nI (d / 8 % t 2))]) (r := some (.int (nI (leftC s (d / 8 % t 2))))) g dX6_turn_106 (q_leaves (D := D) (t := t) (s := s) (a := a) hs (r := (d / 8 % t 2)) (by omega) (by omega)) cl_X6_leaves ml_RX6_147 im_X6_leaves (rd_M R _ _) rfl rfl ⟨rfl, rfl, rfl⟩ ?_
              refine v_pop g dX6_turn_109 rfl ?_
              exact v_vret g E dX6_turn_110 rfl ⟨rfl, rfl, by first | (simp [turnS, *]; done) | (exact absurd (h60.symm.trans h88) (by decide)) | (exact absurd (h60.symm.trans h88_2) (by decide)) | (exact absurd (h60.symm.trans h88_3) (by decide)) | (exact absurd (h60.symm.trans h88_4) (by decide)) | (exact absurd (h60_2.symm.trans h88) (by decide)) | (exact absurd (h60_2.symm.trans h88_2) (by decide)) | (exact absurd (h60_2.symm.trans h88_3) (by decide)) | (exact absurd (h60_2.symm.trans h88_4) (by decide)) ⟩
        · skip
          refine v_aload_n g dX6_turn_72 3 rfl ?_
          refine v_get g dX6_turn_73 fl_RX6_22 (rd_M R _ _) rfl ?_
          refine v_bipush (v := 23) g dX6_turn_76 (by decide) ?_
          refine v_iload_n g dX6_turn_78 2 rfl ?_
          refine v_iadd g dX6_turn_79 (v_eqi (y := nI (23 + (d / 8 % t 0))) (nI_addE rfl rfl) ?_)
          refine v_iconst (v := 0) g dX6_turn_80 (by decide) ?_
          refine v_iast g dX6_turn_81 (rd_MA4 R _ _) (vp_in_nI (by omega) (by decide)) ?_
          rw [nI_clamp (n := (23 + (d / 8 % t 0))) (by omega)]
          refine v_meq (μ' := rem R (qS D t (va_up s (23 + (d / 8 % t 0)) 0) a) ρ) (st_GA R (qS D t s a) (qS D t (va_up s (23 + (d / 8 % t 0)) 0) a) ρ 4 (by decide) s (23 + (d / 8 % t 0)) 0 rfl rfl rfl (fun j hj => by simp only [qS, uS, tA, va_up, if_neg hj])) ?_
          refine v_goto (tgt := 110) g dX6_turn_82 (by decide) ?_
          exact v_vret g E dX6_turn_110 rfl ⟨rfl, rfl, by first | (simp [turnS, *]; done) | (exact absurd (h60.symm.trans h88) (by decide)) | (exact absurd (h60.symm.trans h88_2) (by decide)) | (exact absurd (h60.symm.trans h88_3) (by decide)) | (exact absurd (h60.symm.trans h88_4) (by decide)) | (exact absurd (h60_2.symm.trans h88) (by decide)) | (exact absurd (h60_2.symm.trans h88_2) (by decide)) | (exact absurd (h60_2.symm.trans h88_3) (by decide)) | (exact absurd (h60_2.symm.trans h88_4) (by decide)) ⟩
    · skip
      have h41 := zB_t0 h41
      refine v_aload_n g dX6_turn_44 3 rfl ?_
      refine v_get g dX6_turn_45 fl_RX6_22 (rd_M R _ _) rfl ?_
      refine v_bipush (v := 23) g dX6_turn_48 (by decide) ?_
      refine v_iload_n g dX6_turn_50 2 rfl ?_
      refine v_iadd g dX6_turn_51 (v_eqi (y := nI (23 + (d / 8 % t 0))) (nI_addE rfl rfl) ?_)
      refine v_iconst (v := 1) g dX6_turn_52 (by decide) ?_
      refine v_iast g dX6_turn_53 (rd_MA4 R _ _) (vp_in_nI (by omega) (by decide)) ?_
      rw [nI_clamp (n := (23 + (d / 8 % t 0))) (by omega)]
      refine v_meq (μ' := rem R (qS D t (va_up s (23 + (d / 8 % t 0)) 1) a) ρ) (st_GA R (qS D t s a) (qS D t (va_up s (23 + (d / 8 % t 0)) 1) a) ρ 4 (by decide) s (23 + (d / 8 % t 0)) 1 rfl rfl rfl (fun j hj => by simp only [qS, uS, tA, va_up, if_neg hj])) ?_
      refine v_goto (tgt := 110) g dX6_turn_54 (by decide) ?_
      exact v_vret g E dX6_turn_110 rfl ⟨rfl, rfl, by first | (simp [turnS, *]; done) | (exact absurd (h60.symm.trans h88) (by decide)) | (exact absurd (h60.symm.trans h88_2) (by decide)) | (exact absurd (h60.symm.trans h88_3) (by decide)) | (exact absurd (h60.symm.trans h88_4) (by decide)) | (exact absurd (h60_2.symm.trans h88) (by decide)) | (exact absurd (h60_2.symm.trans h88_2) (by decide)) | (exact absurd (h60_2.symm.trans h88_3) (by decide)) | (exact absurd (h60_2.symm.trans h88_4) (by decide)) ⟩
theorem q_century (hs : OkS t s) (ht0 : 0 < t 0) (ht2 : 0 < t 2) (z y w : Int32) : Ctr l G 4 99 0 0 mX6_century [.ref R, .int z, .int y, .int w] n (rem R (qS D t s a) ρ) (some (.int (cenQ t s a z y w).1)) n (rem R (qS D t s (cenQ t s a z y w).2) ρ) := by
  refine Ctr.of (by decide +kernel) rfl (fun X g E => ?_)
  have o1 := hs.1
  have o2 := hs.2.1
  have loop : ∀ (c m : Nat), c < 10000 → m < 61 → cenQ t s a z y w = ((if w = 0 then haveM (cenN t c m 0 s) else countM t (cenN t c m 0 s) 1), (cpN a s 59)) → ∀ (u k : Nat) (s1 : Nat → Nat), k + u = m → OkS t s1 → (∀ j, 59 ≤ j → s1 j = s j) → cenN t c m 0 s = cenN t c u k s1 → V X 0 0 n (rem R (qS D t s1 (cpN a s 59)) ρ) 39 [(4, .int (nI k)), (0, .ref R), (1, .int (nI c)), (2, .int (nI m)), (3, .int w)] [] := by
    intro c m hc hm e0 u
    induction u with
    | zero =>
      intro k s1 hu hs hi he
      refine v_iload g dX6_century_39 0 rfl ?_
      refine v_iload_n g dX6_century_41 3 rfl ?_
      refine v_icmp_ge (tgt := 88) g dX6_century_42 (by decide) (fun h42 => ?_) (fun h42 => absurd (nI_le (a := m) (b := k) (by omega) (by omega)) h42)
      refine v_iload_n g dX6_century_88 4 rfl ?_
      refine v_if_ne (tgt := 99) g dX6_century_89 (by decide) (fun h89 => ?_) (fun h89 => ?_)
      · skip
        refine v_aload_n g dX6_century_99 1 rfl ?_
        refine v_iconst (v := 1) g dX6_century_100 (by decide) ?_
        refine v_callV (As := [.int 1]) (r := some (.int (countM t s1 1))) g dX6_century_101 (k_X6_countOf (D := (qS D t s1 (cpN a s 59))) hs 1) cl_X6_countOf ml_RX6_144 im_X6_countOf (rd_M R _ _) rfl rfl ⟨rfl, rfl, rfl⟩ ?_
        refine v_istore (ls' := [(4, .int (countM t s1 1)), (0, .ref R), (1, .int (nI c)), (2, .int (nI m)), (3, .int w)]) g dX6_century_104 rfl rfl ?_
        refine v_aload_n g dX6_century_106 1 rfl ?_
        refine v_callV (As := []) (r := none) g dX6_century_107 (q_lets (D := D) (t := t) (s := s1) (a := (cpN a s 59))) cl_X6_lets ml_RX6_153 im_X6_lets (rd_M R _ _) rfl rfl ⟨rfl, rfl, rfl⟩ ?_
        refine v_meq (μ' := rem R (qS D t s (cpN a s 59)) ρ) (by rw [cpN_bk2 (cpN_at a s) hi]) ?_
        refine v_iload g dX6_century_110 0 rfl ?_
        exact v_iret g E dX6_century_112 rfl ⟨by rw [e0, he]; simp [cenN, *], rfl, by rw [e0]⟩
      · skip
        refine v_aload_n g dX6_century_92 1 rfl ?_
        refine v_callV (As := []) (r := some (.int (haveM s1))) g dX6_century_93 (q_allHave (D := D) (t := t) (s := s1) (a := (cpN a s 59))) cl_X6_allHave ml_RX6_181 im_X6_allHave (rd_M R _ _) rfl rfl ⟨rfl, rfl, rfl⟩ ?_
        refine v_goto (tgt := 104) g dX6_century_96 (by decide) ?_
        refine v_istore (ls' := [(4, .int (haveM s1)), (0, .ref R), (1, .int (nI c)), (2, .int (nI m)), (3, .int w)]) g dX6_century_104 rfl rfl ?_
        refine v_aload_n g dX6_century_106 1 rfl ?_
        refine v_callV (As := []) (r := none) g dX6_century_107 (q_lets (D := D) (t := t) (s := s1) (a := (cpN a s 59))) cl_X6_lets ml_RX6_153 im_X6_lets (rd_M R _ _) rfl rfl ⟨rfl, rfl, rfl⟩ ?_
        refine v_meq (μ' := rem R (qS D t s (cpN a s 59)) ρ) (by rw [cpN_bk2 (cpN_at a s) hi]) ?_
        refine v_iload g dX6_century_110 0 rfl ?_
        exact v_iret g E dX6_century_112 rfl ⟨by rw [e0, he]; simp [cenN, *], rfl, by rw [e0]⟩
    | succ u ih =>
      intro k s1 hu hs hi he
      have hdr : dr c k < 65521 := Nat.mod_lt _ (by decide)
      refine v_iload g dX6_century_39 0 rfl ?_
      refine v_iload_n g dX6_century_41 3 rfl ?_
      refine v_icmp_ge (tgt := 88) g dX6_century_42 (by decide) (fun h42 => absurd h42 (nI_ge (a := k) (b := m) (by omega) (by omega))) (fun h42 => ?_)
      refine v_ldc2 (v := 7919) g dX6_century_45 kl_RX6_172 ?_
      refine v_iload_n g dX6_century_48 2 rfl ?_
      refine v_i2l g dX6_century_49 ?_
      refine v_lmul g dX6_century_50 ?_
      refine v_ldc2 (v := 6151) g dX6_century_51 kl_RX6_174 ?_
      refine v_iload g dX6_century_54 0 rfl ?_
      refine v_i2l g dX6_century_56 ?_
      refine v_lmul g dX6_century_57 ?_
      refine v_ladd g dX6_century_58 ?_
      refine v_lconst (v := 1) g dX6_century_59 (by decide) ?_
      refine v_ladd g dX6_century_60 ?_
      refine v_lstore (ls' := [(5, .long (((7919 * (nI c).toInt64) + (6151 * (nI k).toInt64)) + 1)), (4, .int (nI k)), (0, .ref R), (1, .int (nI c)), (2, .int (nI m)), (3, .int w)]) g dX6_century_61 rfl rfl ?_
      refine v_aload_n g dX6_century_63 2 rfl ?_
      refine v_lload g dX6_century_64 0 rfl ?_
      refine v_lload g dX6_century_66 0 rfl ?_
      refine v_lmul g dX6_century_68 ?_
      refine v_ldc2 (v := 65521) g dX6_century_69 kl_RX6_176 ?_
      refine v_lrem g dX6_century_72 (by decide) ?_
      refine v_l2i g dX6_century_73 ?_
      refine v_eqi (y := nI (dr c k)) (dr_ok (by omega) (by omega)) ?_
      refine v_callV (As := [.int (nI (dr c k))]) (r := none) g dX6_century_74 (q_turn (D := D) (t := t) (s := s1) (a := (cpN a s 59)) hs ht0 ht2 (d := (dr c k)) (by omega)) cl_X6_turn ml_RX6_178 im_X6_turn (rd_M R _ _) rfl rfl ⟨rfl, rfl, rfl⟩ ?_
      have hs1 := turnS_ok hs ht2 (dr c k)
      refine v_aload_n g dX6_century_77 2 rfl ?_
      refine v_iconst (v := (-1)) g dX6_century_78 (by decide) ?_
      refine v_callV (As := [.int (-1)]) (r := none) g dX6_century_79 (q_passes (D := D) (t := t) (s := (turnS t s1 (dr c k))) (a := (cpN a s 59)) hs1 (-1)) cl_X6_passes ml_RX6_138 im_X6_passes (rd_M R _ _) rfl rfl ⟨rfl, rfl, rfl⟩ ?_
      refine v_iinc (v := (nI (k + 1))) (ls' := [(4, .int (nI (k + 1))), (5, .long (((7919 * (nI c).toInt64) + (6151 * (nI k).toInt64)) + 1)), (0, .ref R), (1, .int (nI c)), (2, .int (nI m)), (3, .int w)]) g dX6_century_82 1 rfl (nI_addE rfl rfl) rfl rfl ?_
      refine v_goto (tgt := 39) g dX6_century_85 (by decide) ?_
      refine v_sub (ls' := [(4, .int (nI (k + 1))), (0, .ref R), (1, .int (nI c)), (2, .int (nI m)), (3, .int w)]) [0, 2, 3, 4, 5] rfl ?_
      exact ih (k + 1) _ (by omega) (passM_ok hs1 (-1)) (fun j hj => (passM_hi hs1 (-1) j (by omega)).trans ((turnS_hi hs ht0 ht2 _ j hj).trans (hi j hj))) (by rw [he, cenN])
  refine v_sub (ls' := [(0, .ref R), (1, .int z), (2, .int y), (3, .int w)]) [0, 1, 2, 3] rfl ?_
  refine v_iload_n g dX6_century_0 1 rfl ?_
  refine v_iconst (v := 0) g dX6_century_1 (by decide) ?_
  refine v_sipush (v := 9999) g dX6_century_2 (by decide) ?_
  refine v_callS (As := [.int z, .int 0, .int 9999]) (r := some (.int (zB (withinC z 0 9999)))) g dX6_century_5 (k_X6_in z 0 9999) cl_X6_in ml_RX6_54 sm_X6_in rfl ⟨rfl, rfl, rfl⟩ ?_
  refine v_if_eq (tgt := 30) g dX6_century_8 (by decide) (fun h8 => ?_) (fun h8 => ?_)
  · skip
    have h8 := zB_f0 h8
    refine v_iconst (v := (-1)) g dX6_century_30 (by decide) ?_
    exact v_iret g E dX6_century_31 rfl ⟨by simp [cenQ, *], rfl, by simp [cenQ, *]⟩
  · skip
    have h8 := zB_t0 h8
    refine v_iload_n g dX6_century_11 2 rfl ?_
    refine v_iconst (v := 1) g dX6_century_12 (by decide) ?_
    refine v_bipush (v := 60) g dX6_century_13 (by decide) ?_
    refine v_callS (As := [.int y, .int 1, .int 60]) (r := some (.int (zB (withinC y 1 60)))) g dX6_century_15 (k_X6_in y 1 60) cl_X6_in ml_RX6_54 sm_X6_in rfl ⟨rfl, rfl, rfl⟩ ?_
    refine v_if_eq (tgt := 30) g dX6_century_18 (by decide) (fun h18 => ?_) (fun h18 => ?_)
    · skip
      have h18 := zB_f0 h18
      refine v_iconst (v := (-1)) g dX6_century_30 (by decide) ?_
      exact v_iret g E dX6_century_31 rfl ⟨by simp [cenQ, *], rfl, by simp [cenQ, *]⟩
    · skip
      have h18 := zB_t0 h18
      refine v_iload_n g dX6_century_21 3 rfl ?_
      refine v_iconst (v := 0) g dX6_century_22 (by decide) ?_
      refine v_iconst (v := 1) g dX6_century_23 (by decide) ?_
      refine v_callS (As := [.int w, .int 0, .int 1]) (r := some (.int (zB (withinC w 0 1)))) g dX6_century_24 (k_X6_in w 0 1) cl_X6_in ml_RX6_54 sm_X6_in rfl ⟨rfl, rfl, rfl⟩ ?_
      refine v_if_ne (tgt := 32) g dX6_century_27 (by decide) (fun h27 => ?_) (fun h27 => ?_)
      · skip
        have h27 := zB_t0 h27
        obtain ⟨c, -, hc, ec⟩ := within_nI (a := 0) (b := 9999) rfl rfl h8
        obtain ⟨m, -, hm, em⟩ := within_nI (a := 1) (b := 60) rfl rfl h18
        subst ec
        subst em
        refine v_aload_n g dX6_century_32 0 rfl ?_
        refine v_callV (As := []) (r := none) g dX6_century_33 (q_holds (D := D) (t := t) (s := s) (a := a)) cl_X6_holds ml_RX6_150 im_X6_holds (rd_M R _ _) rfl rfl ⟨rfl, rfl, rfl⟩ ?_
        refine v_iconst (v := 0) g dX6_century_36 (by decide) ?_
        refine v_istore (ls' := [(4, .int 0), (0, .ref R), (1, .int (nI c)), (2, .int (nI m)), (3, .int w)]) g dX6_century_37 rfl rfl ?_
        refine v_sub (ls' := [(4, .int 0), (0, .ref R), (1, .int (nI c)), (2, .int (nI m)), (3, .int w)]) [0, 1, 2, 3, 4] rfl ?_
        exact loop c m (by omega) (by omega) (by unfold cenQ; rw [if_neg (by rw [h8]; decide), if_neg (by rw [h18]; decide), if_neg (by rw [h27]; decide), nI_clamp (by omega), nI_clamp (by omega)]) m 0 s (by omega) hs (fun j hj => rfl) rfl
      · skip
        have h27 := zB_f0 h27
        refine v_iconst (v := (-1)) g dX6_century_30 (by decide) ?_
        exact v_iret g E dX6_century_31 rfl ⟨by simp [cenQ, *], rfl, by simp [cenQ, *]⟩
theorem q_frost (hs : OkS t s) (hB : ∀ (c m e : Nat) (cell : Int32), c < t 2 → m ≤ 8 → e ≤ 10 → frAB t s c cell e m < 2 ^ 31) (r cell y x w : Int32) : Ctr l G 4 99 0 0 mX6_frost [.ref R, .int r, .int cell, .int y, .int x, .int w] n (rem R (qS D t s a) ρ) (some (.int (froQ t s a r cell y x w).1)) n (rem R (qS D t s (froQ t s a r cell y x w).2) ρ) := by
  refine Ctr.of (by decide +kernel) rfl (fun X g E => ?_)
  have o1 := hs.1
  have o2 := hs.2.1
  have gcd : ∀ (c m e : Nat), c < t 2 → m ≤ 8 → e ≤ 10 → froQ t s a r cell y x w = (frR t s c cell e m w, (cpN a s 59)) → ∀ (b q : Nat), b < 2 ^ 31 → q < 2 ^ 31 → Nat.gcd q b = Nat.gcd (frAB t s c cell e m) (10 ^ m) → V X 0 0 n (rem R (qS D t s (cpN a s 59)) ρ) 206 [(9, .int (nI b)), (8, .int (nI q)), (7, .int (nI (10 ^ m))), (6, .int (nI (frAB t s c cell e m))), (0, .ref R), (1, .int (nI c)), (2, .int cell), (3, .int (nI m)), (4, .int (nI e)), (5, .int w)] [] := by
    intro c m e hc hm he0 e0 b
    have hAB := hB c m e cell hc hm he0
    have h10 : 10 ^ m < 2 ^ 31 := Nat.lt_of_le_of_lt (Nat.pow_le_pow_right (by decide) hm) (by decide)
    have h10p : 0 < 10 ^ m := Nat.pow_pos (by decide)
    induction b using Nat.strongRecOn with
    | _ b ihb =>
      intro q hb hq hg
      rcases Nat.eq_zero_or_pos b with hb0 | hb0
      · subst hb0
        rw [Nat.gcd_zero_right] at hg
        have hq0 : 0 < q := by rw [hg]; exact Nat.gcd_pos_of_pos_right _ h10p
        refine v_iload g dX6_frost_206 0 rfl ?_
        refine v_if_le (tgt := 229) g dX6_frost_208 (by decide) (fun h208 => ?_) (fun h208 => absurd (by decide) h208)
        refine v_iload g dX6_frost_229 9 rfl ?_
        refine v_if_ne (tgt := 242) g dX6_frost_231 (by decide) (fun h231 => ?_) (fun h231 => ?_)
        · skip
          refine v_iload g dX6_frost_242 2 rfl ?_
          refine v_iload g dX6_frost_244 1 rfl ?_
          refine v_idiv g dX6_frost_246 (nI_ne0 hq0 hq) ?_
          refine v_eqi (y := nI (10 ^ m / q)) (nI_div h10 hq) ?_
          exact v_iret g E dX6_frost_247 rfl ⟨by rw [e0, frR, ← hg]; simp [*], rfl, by rw [e0]⟩
        · skip
          refine v_iload g dX6_frost_234 3 rfl ?_
          refine v_iload g dX6_frost_236 1 rfl ?_
          refine v_idiv g dX6_frost_238 (nI_ne0 hq0 hq) ?_
          refine v_eqi (y := nI (frAB t s c cell e m / q)) (nI_div hAB hq) ?_
          refine v_goto (tgt := 247) g dX6_frost_239 (by decide) ?_
          exact v_iret g E dX6_frost_247 rfl ⟨by rw [e0, frR, ← hg]; simp [*], rfl, by rw [e0]⟩
      · skip
        refine v_iload g dX6_frost_206 0 rfl ?_
        refine v_if_le (tgt := 229) g dX6_frost_208 (by decide) (fun h208 => absurd h208 (nI_nle hb0 hb)) (fun h208 => ?_)
        refine v_iload g dX6_frost_211 1 rfl ?_
        refine v_iload g dX6_frost_213 0 rfl ?_
        refine v_irem g dX6_frost_215 (nI_ne0 hb0 hb) ?_
        refine v_eqi (y := nI (q % b)) (nI_mod hq hb) ?_
        refine v_istore (ls' := [(10, .int (nI (q % b))), (9, .int (nI b)), (8, .int (nI q)), (7, .int (nI (10 ^ m))), (6, .int (nI (frAB t s c cell e m))), (0, .ref R), (1, .int (nI c)), (2, .int cell), (3, .int (nI m)), (4, .int (nI e)), (5, .int w)]) g dX6_frost_216 rfl rfl ?_
        refine v_iload g dX6_frost_218 1 rfl ?_
        refine v_istore (ls' := [(8, .int (nI b)), (10, .int (nI (q % b))), (9, .int (nI b)), (7, .int (nI (10 ^ m))), (6, .int (nI (frAB t s c cell e m))), (0, .ref R), (1, .int (nI c)), (2, .int cell), (3, .int (nI m)), (4, .int (nI e)), (5, .int w)]) g dX6_frost_220 rfl rfl ?_
        refine v_iload g dX6_frost_222 1 rfl ?_
        refine v_istore (ls' := [(9, .int (nI (q % b))), (8, .int (nI b)), (10, .int (nI (q % b))), (7, .int (nI (10 ^ m))), (6, .int (nI (frAB t s c cell e m))), (0, .ref R), (1, .int (nI c)), (2, .int cell), (3, .int (nI m)), (4, .int (nI e)), (5, .int w)]) g dX6_frost_224 rfl rfl ?_
        refine v_goto (tgt := 206) g dX6_frost_226 (by decide) ?_
        refine v_sub (ls' := [(9, .int (nI (q % b))), (8, .int (nI b)), (7, .int (nI (10 ^ m))), (6, .int (nI (frAB t s c cell e m))), (0, .ref R), (1, .int (nI c)), (2, .int cell), (3, .int (nI m)), (4, .int (nI e)), (5, .int w)]) [0, 1, 3, 4, 5, 6, 7, 8, 9, 10] rfl ?_
        exact ihb (q % b) (Nat.mod_lt _ hb0) b (Nat.lt_trans (Nat.mod_lt _ hb0) hb) hb (by rw [← hg, Nat.gcd_comm b (q % b), ← Nat.gcd_rec b q, Nat.gcd_comm])
  have sets : ∀ (c m e : Nat), c < t 2 → m ≤ 8 → e ≤ 10 → froQ t s a r cell y x w = (frR t s c cell e m w, (cpN a s 59)) → ∀ (u z ab : Nat), z + u = 2 ^ m → frAB t s c cell e m = frS t s c cell e m u z ab → V X 0 0 n (rem R (qS D t s (cpN a s 59)) ρ) 84 [(8, .int (nI z)), (7, .int (nI (10 ^ m))), (6, .int (nI ab)), (0, .ref R), (1, .int (nI c)), (2, .int cell), (3, .int (nI m)), (4, .int (nI e)), (5, .int w)] [] := by
    intro c m e hc hm he0 e0 u
    have h10 : 10 ^ m < 2 ^ 31 := Nat.lt_of_le_of_lt (Nat.pow_le_pow_right (by decide) hm) (by decide)
    have h2m : 2 ^ m < 2 ^ 31 := Nat.lt_of_le_of_lt (Nat.pow_le_pow_right (by decide) hm) (by decide)
    induction u with
    | zero =>
      intro z ab hu he
      refine v_iload g dX6_frost_84 0 rfl ?_
      refine v_iconst (v := 1) g dX6_frost_86 (by decide) ?_
      refine v_iload_n g dX6_frost_87 6 rfl ?_
      refine v_ishl g dX6_frost_88 ?_
      refine v_eqi (y := nI (2 ^ m)) (shl_nI hm) ?_
      refine v_icmp_ge (tgt := 198) g dX6_frost_89 (by decide) (fun h89 => ?_) (fun h89 => absurd (nI_le (a := 2 ^ m) (b := z) (by omega) (by omega)) h89)
      refine v_iload g dX6_frost_198 2 rfl ?_
      refine v_istore (ls' := [(8, .int (nI ab)), (7, .int (nI (10 ^ m))), (6, .int (nI ab)), (0, .ref R), (1, .int (nI c)), (2, .int cell), (3, .int (nI m)), (4, .int (nI e)), (5, .int w)]) g dX6_frost_200 rfl rfl ?_
      refine v_iload g dX6_frost_202 1 rfl ?_
      refine v_istore (ls' := [(9, .int (nI (10 ^ m))), (8, .int (nI ab)), (7, .int (nI (10 ^ m))), (6, .int (nI ab)), (0, .ref R), (1, .int (nI c)), (2, .int cell), (3, .int (nI m)), (4, .int (nI e)), (5, .int w)]) g dX6_frost_204 rfl rfl ?_
      rw [show ab = frAB t s c cell e m from by rw [he]; rfl]
      refine v_sub (ls' := [(9, .int (nI (10 ^ m))), (8, .int (nI (frAB t s c cell e m))), (7, .int (nI (10 ^ m))), (6, .int (nI (frAB t s c cell e m))), (0, .ref R), (1, .int (nI c)), (2, .int cell), (3, .int (nI m)), (4, .int (nI e)), (5, .int w)]) [0, 1, 2, 3, 4, 5, 6, 7, 8, 9] rfl ?_
      exact gcd c m e hc hm he0 e0 (10 ^ m) (frAB t s c cell e m) h10 (hB c m e cell hc hm he0) rfl
    | succ u ih =>
      intro z ab hu he
      have inner : ∀ (v k its : Nat) (s1 : Nat → Nat), k + v = m → OkS t s1 → (∀ j, 23 ≤ j → s1 j = s j) → frP t c z m 0 s = frP t c z v k s1 → frW e z m 0 1 = frW e z v k its → V X 0 0 n (rem R (qS D t s1 (cpN a s 59)) ρ) 98 [(10, .int (nI k)), (9, .int (nI its)), (8, .int (nI z)), (7, .int (nI (10 ^ m))), (6, .int (nI ab)), (0, .ref R), (1, .int (nI c)), (2, .int cell), (3, .int (nI m)), (4, .int (nI e)), (5, .int w)] [] := by
        intro v
        induction v with
        | zero =>
          intro k its s1 hv hs hi hp hw
          refine v_iload g dX6_frost_98 0 rfl ?_
          refine v_iload_n g dX6_frost_100 8 rfl ?_
          refine v_icmp_ge (tgt := 162) g dX6_frost_101 (by decide) (fun h101 => ?_) (fun h101 => absurd (nI_le (a := m) (b := k) (by omega) (by omega)) h101)
          refine v_iload g dX6_frost_162 4 rfl ?_
          refine v_aload_n g dX6_frost_164 5 rfl ?_
          refine v_get g dX6_frost_165 fl_RX6_22 (rd_M R _ _) rfl ?_
          refine v_bipush (v := 11) g dX6_frost_168 (by decide) ?_
          refine v_iconst (v := 4) g dX6_frost_170 (by decide) ?_
          refine v_iload_n g dX6_frost_171 6 rfl ?_
          refine v_imul g dX6_frost_172 (v_eqi (y := nI (4 * c)) (nI_mulE rfl rfl) ?_)
          refine v_iadd g dX6_frost_173 (v_eqi (y := nI (11 + (4 * c))) (nI_addE rfl rfl) ?_)
          refine v_iald g dX6_frost_174 (rd_MA4 R _ _) (vp_in_nI (by omega) (by decide)) (v_eqi (y := (nI (s1 (11 + (4 * c))))) (by first | (rw [nI_clamp (by omega)]; done) | (rw [nI_clamp (by omega)]; rfl)) ?_)
          refine v_iload_n g dX6_frost_175 7 rfl ?_
          refine v_icmp_ne_d (tgt := 184) (u := 0) (v := (nI its)) 185 g dX6_frost_176 (by decide) (fun h176 K => ?_) (fun h176 K => ?_) ?_
          · skip
            refine v_iconst (v := 0) g dX6_frost_184 (by decide) ?_
            exact K
          · skip
            refine v_iload g dX6_frost_179 1 rfl ?_
            refine v_goto (tgt := 185) g dX6_frost_181 (by decide) ?_
            exact K
          refine v_eqi (y := nI (if nI (s1 (11 + 4 * c)) = cell then its else 0)) (by split <;> rfl) ?_
          refine v_iadd g dX6_frost_185 (v_eqi (y := nI (ab + (if nI (s1 (11 + 4 * c)) = cell then its else 0))) (nI_addE rfl rfl) ?_)
          refine v_istore (ls' := [(6, .int (nI (ab + (if nI (s1 (11 + 4 * c)) = cell then its else 0)))), (10, .int (nI k)), (9, .int (nI its)), (8, .int (nI z)), (7, .int (nI (10 ^ m))), (0, .ref R), (1, .int (nI c)), (2, .int cell), (3, .int (nI m)), (4, .int (nI e)), (5, .int w)]) g dX6_frost_186 rfl rfl ?_
          refine v_aload_n g dX6_frost_188 5 rfl ?_
          refine v_callV (As := []) (r := none) g dX6_frost_189 (q_lets (D := D) (t := t) (s := s1) (a := (cpN a s 59))) cl_X6_lets ml_RX6_153 im_X6_lets (rd_M R _ _) rfl rfl ⟨rfl, rfl, rfl⟩ ?_
          refine v_meq (μ' := rem R (qS D t s (cpN a s 59)) ρ) (by rw [cpN_back a s s1 (fun j hj => hi j (by omega))]) ?_
          refine v_iinc (v := (nI (z + 1))) (ls' := [(8, .int (nI (z + 1))), (6, .int (nI (ab + (if nI (s1 (11 + 4 * c)) = cell then its else 0)))), (10, .int (nI k)), (9, .int (nI its)), (7, .int (nI (10 ^ m))), (0, .ref R), (1, .int (nI c)), (2, .int cell), (3, .int (nI m)), (4, .int (nI e)), (5, .int w)]) g dX6_frost_192 3 rfl (nI_addE rfl rfl) rfl rfl ?_
          refine v_goto (tgt := 84) g dX6_frost_195 (by decide) ?_
          refine v_sub (ls' := [(8, .int (nI (z + 1))), (7, .int (nI (10 ^ m))), (6, .int (nI (ab + (if nI (s1 (11 + 4 * c)) = cell then its else 0)))), (0, .ref R), (1, .int (nI c)), (2, .int cell), (3, .int (nI m)), (4, .int (nI e)), (5, .int w)]) [0, 4, 1, 5, 6, 7, 8, 9, 10] rfl ?_
          exact ih (z + 1) _ (by omega) (by rw [he, frS, hp, hw]; rfl)
        | succ v ihv =>
          intro k its s1 hv hs hi hp hw
          refine v_iload g dX6_frost_98 0 rfl ?_
          refine v_iload_n g dX6_frost_100 8 rfl ?_
          refine v_icmp_ge (tgt := 162) g dX6_frost_101 (by decide) (fun h101 => absurd h101 (nI_ge (a := k) (b := m) (by omega) (by omega))) (fun h101 => ?_)
          refine v_iload g dX6_frost_104 2 rfl ?_
          refine v_iload g dX6_frost_106 0 rfl ?_
          refine v_ishr g dX6_frost_108 ?_
          refine v_iconst (v := 1) g dX6_frost_109 (by decide) ?_
          refine v_iand g dX6_frost_110 ?_
          refine v_iconst (v := 1) g dX6_frost_111 (by decide) ?_
          refine v_icmp_ne_d (tgt := 119) (u := 0) (v := 1) 120 g dX6_frost_112 (by decide) (fun h112 K => ?_) (fun h112 K => ?_) ?_
          · skip
            refine v_iconst (v := 0) g dX6_frost_119 (by decide) ?_
            exact K
          · skip
            refine v_iconst (v := 1) g dX6_frost_115 (by decide) ?_
            refine v_goto (tgt := 120) g dX6_frost_116 (by decide) ?_
            exact K
          refine v_eqi (y := zB (styM z k)) (by unfold styM; split <;> rfl) ?_
          refine v_istore (ls' := [(11, .int (zB (styM z k))), (10, .int (nI k)), (9, .int (nI its)), (8, .int (nI z)), (7, .int (nI (10 ^ m))), (6, .int (nI ab)), (0, .ref R), (1, .int (nI c)), (2, .int cell), (3, .int (nI m)), (4, .int (nI e)), (5, .int w)]) g dX6_frost_120 rfl rfl ?_
          refine v_iload g dX6_frost_122 2 rfl ?_
          refine v_iload g dX6_frost_124 0 rfl ?_
          refine v_if_eq_d (tgt := 134) (u := (nI (10 - e))) (v := (nI e)) 139 g dX6_frost_126 (by decide) (fun h126 K => ?_) (fun h126 K => ?_) ?_
          · skip
            have h126 := zB_f0 h126
            refine v_bipush (v := 10) g dX6_frost_134 (by decide) ?_
            refine v_iload g dX6_frost_136 10 rfl ?_
            refine v_isub g dX6_frost_138 (v_eqi (y := nI (10 - e)) (nI_subE rfl rfl (by omega)) ?_)
            exact K
          · skip
            have h126 := zB_t0 h126
            refine v_iload g dX6_frost_129 10 rfl ?_
            refine v_goto (tgt := 139) g dX6_frost_131 (by decide) ?_
            exact K
          refine v_eqi (y := nI (if styM z k = true then e else 10 - e)) (by cases styM z k <;> rfl) ?_
          refine v_imul g dX6_frost_139 (v_eqi (y := nI (its * (if styM z k = true then e else 10 - e))) (nI_mulE rfl rfl) ?_)
          refine v_istore (ls' := [(9, .int (nI (its * (if styM z k = true then e else 10 - e)))), (11, .int (zB (styM z k))), (10, .int (nI k)), (8, .int (nI z)), (7, .int (nI (10 ^ m))), (6, .int (nI ab)), (0, .ref R), (1, .int (nI c)), (2, .int cell), (3, .int (nI m)), (4, .int (nI e)), (5, .int w)]) g dX6_frost_140 rfl rfl ?_
          refine v_aload_n g dX6_frost_142 6 rfl ?_
          refine v_iload g dX6_frost_143 1 rfl ?_
          refine v_if_eq_d (tgt := 152) (u := (-1)) (v := (nI c)) 153 g dX6_frost_145 (by decide) (fun h145 K => ?_) (fun h145 K => ?_) ?_
          · skip
            have h145 := zB_f0 h145
            refine v_iconst (v := (-1)) g dX6_frost_152 (by decide) ?_
            exact K
          · skip
            have h145 := zB_t0 h145
            refine v_iload_n g dX6_frost_148 7 rfl ?_
            refine v_goto (tgt := 153) g dX6_frost_149 (by decide) ?_
            exact K
          refine v_eqi (y := fzM (styM z k) c) (by cases styM z k <;> rfl) ?_
          refine v_callV (As := [.int (fzM (styM z k) c)]) (r := none) g dX6_frost_153 (q_passes (D := D) (t := t) (s := s1) (a := (cpN a s 59)) hs (fzM (styM z k) c)) cl_X6_passes ml_RX6_138 im_X6_passes (rd_M R _ _) rfl rfl ⟨rfl, rfl, rfl⟩ ?_
          refine v_iinc (v := (nI (k + 1))) (ls' := [(10, .int (nI (k + 1))), (9, .int (nI (its * (if styM z k = true then e else 10 - e)))), (11, .int (zB (styM z k))), (8, .int (nI z)), (7, .int (nI (10 ^ m))), (6, .int (nI ab)), (0, .ref R), (1, .int (nI c)), (2, .int cell), (3, .int (nI m)), (4, .int (nI e)), (5, .int w)]) g dX6_frost_156 2 rfl (nI_addE rfl rfl) rfl rfl ?_
          refine v_goto (tgt := 98) g dX6_frost_159 (by decide) ?_
          refine v_sub (ls' := [(10, .int (nI (k + 1))), (9, .int (nI (its * (if styM z k = true then e else 10 - e)))), (8, .int (nI z)), (7, .int (nI (10 ^ m))), (6, .int (nI ab)), (0, .ref R), (1, .int (nI c)), (2, .int cell), (3, .int (nI m)), (4, .int (nI e)), (5, .int w)]) [0, 1, 3, 4, 5, 6, 7, 8, 9, 10, 11] rfl ?_
          exact ihv (k + 1) _ _ (by omega) (passM_ok hs _) (fun j hj => (passM_hi hs _ j hj).trans (hi j hj)) (by rw [hp, frP]) (by rw [hw, frW])
      refine v_iload g dX6_frost_84 0 rfl ?_
      refine v_iconst (v := 1) g dX6_frost_86 (by decide) ?_
      refine v_iload_n g dX6_frost_87 6 rfl ?_
      refine v_ishl g dX6_frost_88 ?_
      refine v_eqi (y := nI (2 ^ m)) (shl_nI hm) ?_
      refine v_icmp_ge (tgt := 198) g dX6_frost_89 (by decide) (fun h89 => absurd h89 (nI_ge (a := z) (b := 2 ^ m) (by omega) (by omega))) (fun h89 => ?_)
      refine v_iconst (v := 1) g dX6_frost_92 (by decide) ?_
      refine v_istore (ls' := [(9, .int 1), (8, .int (nI z)), (7, .int (nI (10 ^ m))), (6, .int (nI ab)), (0, .ref R), (1, .int (nI c)), (2, .int cell), (3, .int (nI m)), (4, .int (nI e)), (5, .int w)]) g dX6_frost_93 rfl rfl ?_
      refine v_iconst (v := 0) g dX6_frost_95 (by decide) ?_
      refine v_istore (ls' := [(10, .int 0), (9, .int 1), (8, .int (nI z)), (7, .int (nI (10 ^ m))), (6, .int (nI ab)), (0, .ref R), (1, .int (nI c)), (2, .int cell), (3, .int (nI m)), (4, .int (nI e)), (5, .int w)]) g dX6_frost_96 rfl rfl ?_
      refine v_sub (ls' := [(10, .int 0), (9, .int 1), (8, .int (nI z)), (7, .int (nI (10 ^ m))), (6, .int (nI ab)), (0, .ref R), (1, .int (nI c)), (2, .int cell), (3, .int (nI m)), (4, .int (nI e)), (5, .int w)]) [0, 1, 2, 3, 4, 5, 6, 7, 8, 9, 10] rfl ?_
      exact inner m 0 1 s (by omega) hs (fun j hj => rfl) rfl rfl
  have below : ∀ (c m e : Nat), c < t 2 → m ≤ 8 → e ≤ 10 → froQ t s a r cell y x w = (frR t s c cell e m w, (cpN a s 59)) → ∀ (u k : Nat), k + u = m → V X 0 0 n (rem R (qS D t s (cpN a s 59)) ρ) 62 [(8, .int (nI k)), (7, .int (nI (10 ^ k))), (6, .int 0), (0, .ref R), (1, .int (nI c)), (2, .int cell), (3, .int (nI m)), (4, .int (nI e)), (5, .int w)] [] := by
    intro c m e hc hm he0 e0 u
    induction u with
    | zero =>
      intro k hu
      obtain rfl : k = m := by omega
      refine v_iload g dX6_frost_62 0 rfl ?_
      refine v_iload_n g dX6_frost_64 6 rfl ?_
      refine v_icmp_ge (tgt := 81) g dX6_frost_65 (by decide) (fun h65 => ?_) (fun h65 => absurd (nI_le (a := k) (b := k) (by omega) (by omega)) h65)
      refine v_iconst (v := 0) g dX6_frost_81 (by decide) ?_
      refine v_istore (ls' := [(8, .int 0), (7, .int (nI (10 ^ k))), (6, .int 0), (0, .ref R), (1, .int (nI c)), (2, .int cell), (3, .int (nI k)), (4, .int (nI e)), (5, .int w)]) g dX6_frost_82 rfl rfl ?_
      refine v_sub (ls' := [(8, .int 0), (7, .int (nI (10 ^ k))), (6, .int 0), (0, .ref R), (1, .int (nI c)), (2, .int cell), (3, .int (nI k)), (4, .int (nI e)), (5, .int w)]) [0, 1, 2, 3, 4, 5, 6, 7, 8] rfl ?_
      exact sets c k e hc hm he0 e0 (2 ^ k) 0 0 (by omega) rfl
    | succ u ih =>
      intro k hu
      refine v_iload g dX6_frost_62 0 rfl ?_
      refine v_iload_n g dX6_frost_64 6 rfl ?_
      refine v_icmp_ge (tgt := 81) g dX6_frost_65 (by decide) (fun h65 => absurd h65 (nI_ge (a := k) (b := m) (by omega) (by omega))) (fun h65 => ?_)
      refine v_iload g dX6_frost_68 1 rfl ?_
      refine v_bipush (v := 10) g dX6_frost_70 (by decide) ?_
      refine v_imul g dX6_frost_72 (v_eqi (y := nI ((10 ^ k) * 10)) (nI_mulE rfl rfl) ?_)
      refine v_eqi (y := nI (10 ^ (k + 1))) (congrArg nI (by rw [Nat.pow_succ])) ?_
      refine v_istore (ls' := [(7, .int (nI (10 ^ (k + 1)))), (8, .int (nI k)), (6, .int 0), (0, .ref R), (1, .int (nI c)), (2, .int cell), (3, .int (nI m)), (4, .int (nI e)), (5, .int w)]) g dX6_frost_73 rfl rfl ?_
      refine v_iinc (v := (nI (k + 1))) (ls' := [(8, .int (nI (k + 1))), (7, .int (nI (10 ^ (k + 1)))), (6, .int 0), (0, .ref R), (1, .int (nI c)), (2, .int cell), (3, .int (nI m)), (4, .int (nI e)), (5, .int w)]) g dX6_frost_75 1 rfl (nI_addE rfl rfl) rfl rfl ?_
      refine v_goto (tgt := 62) g dX6_frost_78 (by decide) ?_
      refine v_sub (ls' := [(8, .int (nI (k + 1))), (7, .int (nI (10 ^ (k + 1)))), (6, .int 0), (0, .ref R), (1, .int (nI c)), (2, .int cell), (3, .int (nI m)), (4, .int (nI e)), (5, .int w)]) [0, 1, 2, 3, 4, 5, 6, 7, 8] rfl ?_
      exact ih (k + 1) (by omega)
  refine v_sub (ls' := [(0, .ref R), (1, .int r), (2, .int cell), (3, .int y), (4, .int x), (5, .int w)]) [0, 1, 2, 3, 4, 5] rfl ?_
  refine v_aload_n g dX6_frost_0 0 rfl ?_
  refine v_iload_n g dX6_frost_1 1 rfl ?_
  refine v_callV (As := [.int r]) (r := some (.int (zB (rowQ t r)))) g dX6_frost_2 (q_isRow (D := D) (t := t) r) cl_X6_isRow ml_RX6_126 im_X6_isRow (rd_M R _ _) rfl rfl ⟨rfl, rfl, rfl⟩ ?_
  refine v_if_eq (tgt := 47) g dX6_frost_5 (by decide) (fun h5 => ?_) (fun h5 => ?_)
  · skip
    have h5 := zB_f0 h5
    refine v_iconst (v := (-1)) g dX6_frost_47 (by decide) ?_
    exact v_iret g E dX6_frost_48 rfl ⟨by simp [froQ, *], rfl, by simp [froQ, *]⟩
  · skip
    have h5 := zB_t0 h5
    refine v_aload_n g dX6_frost_8 0 rfl ?_
    refine v_iload_n g dX6_frost_9 2 rfl ?_
    refine v_callV (As := [.int cell]) (r := some (.int (zB (cellQ t cell)))) g dX6_frost_10 (q_isCell (D := D) (t := t) cell) cl_X6_isCell ml_RX6_110 im_X6_isCell (rd_M R _ _) rfl rfl ⟨rfl, rfl, rfl⟩ ?_
    refine v_if_eq (tgt := 47) g dX6_frost_13 (by decide) (fun h13 => ?_) (fun h13 => ?_)
    · skip
      have h13 := zB_f0 h13
      refine v_iconst (v := (-1)) g dX6_frost_47 (by decide) ?_
      exact v_iret g E dX6_frost_48 rfl ⟨by simp [froQ, *], rfl, by simp [froQ, *]⟩
    · skip
      have h13 := zB_t0 h13
      refine v_iload_n g dX6_frost_16 3 rfl ?_
      refine v_iconst (v := 0) g dX6_frost_17 (by decide) ?_
      refine v_bipush (v := 8) g dX6_frost_18 (by decide) ?_
      refine v_callS (As := [.int y, .int 0, .int 8]) (r := some (.int (zB (withinC y 0 8)))) g dX6_frost_20 (k_X6_in y 0 8) cl_X6_in ml_RX6_54 sm_X6_in rfl ⟨rfl, rfl, rfl⟩ ?_
      refine v_if_eq (tgt := 47) g dX6_frost_23 (by decide) (fun h23 => ?_) (fun h23 => ?_)
      · skip
        have h23 := zB_f0 h23
        refine v_iconst (v := (-1)) g dX6_frost_47 (by decide) ?_
        exact v_iret g E dX6_frost_48 rfl ⟨by simp [froQ, *], rfl, by simp [froQ, *]⟩
      · skip
        have h23 := zB_t0 h23
        refine v_iload g dX6_frost_26 4 rfl ?_
        refine v_iconst (v := 0) g dX6_frost_28 (by decide) ?_
        refine v_bipush (v := 10) g dX6_frost_29 (by decide) ?_
        refine v_callS (As := [.int x, .int 0, .int 10]) (r := some (.int (zB (withinC x 0 10)))) g dX6_frost_31 (k_X6_in x 0 10) cl_X6_in ml_RX6_54 sm_X6_in rfl ⟨rfl, rfl, rfl⟩ ?_
        refine v_if_eq (tgt := 47) g dX6_frost_34 (by decide) (fun h34 => ?_) (fun h34 => ?_)
        · skip
          have h34 := zB_f0 h34
          refine v_iconst (v := (-1)) g dX6_frost_47 (by decide) ?_
          exact v_iret g E dX6_frost_48 rfl ⟨by simp [froQ, *], rfl, by simp [froQ, *]⟩
        · skip
          have h34 := zB_t0 h34
          refine v_iload g dX6_frost_37 5 rfl ?_
          refine v_iconst (v := 0) g dX6_frost_39 (by decide) ?_
          refine v_iconst (v := 1) g dX6_frost_40 (by decide) ?_
          refine v_callS (As := [.int w, .int 0, .int 1]) (r := some (.int (zB (withinC w 0 1)))) g dX6_frost_41 (k_X6_in w 0 1) cl_X6_in ml_RX6_54 sm_X6_in rfl ⟨rfl, rfl, rfl⟩ ?_
          refine v_if_ne (tgt := 49) g dX6_frost_44 (by decide) (fun h44 => ?_) (fun h44 => ?_)
          · skip
            have h44 := zB_t0 h44
            obtain ⟨c, hc, ec⟩ := rowQ_ok hs h5
            obtain ⟨m, -, hm, em⟩ := within_nI (a := 0) (b := 8) rfl rfl h23
            obtain ⟨e, -, he, ee⟩ := within_nI (a := 0) (b := 10) rfl rfl h34
            subst ec
            subst em
            subst ee
            have e0 : froQ t s a (nI c) cell (nI m) (nI e) w = (frR t s c cell e m w, (cpN a s 59)) := by unfold froQ; rw [if_neg (by rw [h5]; decide), if_neg (by rw [h13]; decide), if_neg (by rw [h23]; decide), if_neg (by rw [h34]; decide), if_neg (by rw [h44]; decide), nI_clamp (by omega), nI_clamp (by omega), nI_clamp (by omega)]
            refine v_aload_n g dX6_frost_49 0 rfl ?_
            refine v_callV (As := []) (r := none) g dX6_frost_50 (q_holds (D := D) (t := t) (s := s) (a := a)) cl_X6_holds ml_RX6_150 im_X6_holds (rd_M R _ _) rfl rfl ⟨rfl, rfl, rfl⟩ ?_
            refine v_iconst (v := 0) g dX6_frost_53 (by decide) ?_
            refine v_istore (ls' := [(6, .int 0), (0, .ref R), (1, .int (nI c)), (2, .int cell), (3, .int (nI m)), (4, .int (nI e)), (5, .int w)]) g dX6_frost_54 rfl rfl ?_
            refine v_iconst (v := 1) g dX6_frost_56 (by decide) ?_
            refine v_istore (ls' := [(7, .int 1), (6, .int 0), (0, .ref R), (1, .int (nI c)), (2, .int cell), (3, .int (nI m)), (4, .int (nI e)), (5, .int w)]) g dX6_frost_57 rfl rfl ?_
            refine v_iconst (v := 0) g dX6_frost_59 (by decide) ?_
            refine v_istore (ls' := [(8, .int 0), (7, .int 1), (6, .int 0), (0, .ref R), (1, .int (nI c)), (2, .int cell), (3, .int (nI m)), (4, .int (nI e)), (5, .int w)]) g dX6_frost_60 rfl rfl ?_
            refine v_sub (ls' := [(8, .int 0), (7, .int 1), (6, .int 0), (0, .ref R), (1, .int (nI c)), (2, .int cell), (3, .int (nI m)), (4, .int (nI e)), (5, .int w)]) [0, 1, 2, 3, 4, 5, 6, 7, 8] rfl ?_
            exact below c m e hc hm he e0 m 0 (by omega)
          · skip
            have h44 := zB_f0 h44
            refine v_iconst (v := (-1)) g dX6_frost_47 (by decide) ?_
            exact v_iret g E dX6_frost_48 rfl ⟨by simp [froQ, *], rfl, by simp [froQ, *]⟩
end R11
