/-! THE REFERENCE: it reads a text -/
/-- at, draft, begun over the rest -/
def dS (D : MS) (at_ : Nat) (dr be : Nat → Nat) : MS := ((D.1.1, D.1.2.1, D.1.2.2.1, D.1.2.2.2.1, at_), va_up (va_up D.2 2 dr) 3 be)
theorem dS_id (D : MS) : dS D D.1.2.2.2.2 (D.2 2) (D.2 3) = D := by
  refine Prod.ext rfl (funext fun j => ?_)
  simp only [dS, va_up]
  split
  · next h => rw [h]
  · split
    · next h => rw [h]
    · rfl
def figM (D : MS) (lo hi : Int32) (p : Nat) : Int32 × Nat := if isFigM (letM D p) = false then (-1, p) else if isFigM (letM D (p + 1)) = false then ((if withinC (nI ((letM D p).toNatClampNeg - 48)) lo hi = true then nI ((letM D p).toNatClampNeg - 48) else -1), p + 1) else ((if withinC (nI (10 * ((letM D p).toNatClampNeg - 48) + (letM D (p + 1)).toNatClampNeg - 48)) lo hi = true then nI (10 * ((letM D p).toNatClampNeg - 48) + (letM D (p + 1)).toNatClampNeg - 48) else -1), p + 2)
def numM (D : MS) (lo hi e : Int32) (p : Nat) : Int32 × Nat := ((if (figM D lo hi p).1 < 0 then -1 else if letM D (figM D lo hi p).2 = e then (figM D lo hi p).1 else -1), (figM D lo hi p).2 + 1)
def ownsM (dr : Nat → Nat) (x y p : Nat) : Nat → Nat := fun j => if 39 + x ≤ j ∧ j ≤ 39 + y then p else dr j
def ownF (dr : Nat → Nat) (x q k : Nat) : Nat → Nat := fun j => if 39 + x ≤ j ∧ j < 39 + k then q else dr j
theorem nI_gtN {a b : Nat} (ha : b < 2 ^ 31) (h : ¬ nI a ≤ nI b) : b < a := by
  rcases Nat.lt_or_ge b a with z | z
  · exact z
  · exact absurd (nI_le z ha) h
theorem nI_geN {a b : Nat} (hb : b < 2 ^ 31) (h : ¬ nI a < nI b) : b ≤ a := by
  rcases Nat.lt_or_ge a b with z | z
  · exact absurd (nI_lt z hb) h
  · exact z
def byN (a b : Nat) : Nat := if a ≤ b then b - a else a - b
def nxtX (a b w : Nat) : Bool := if nI (byN a b) = 1 then (if nI w = 1 then true else if nI (a / w) = nI (b / w) then true else false) else false
def nxtM (a b w : Nat) : Bool := if nI (byN a b) = nI w then (if 1 < nI w then true else nxtX a b w) else nxtX a b w
def itIn (be : Nat → Nat) (c r : Nat) : Nat → Nat → Bool → Bool
  | 0, _, b => b
  | u + 1, k, b => itIn be c r u (k + 1) (if b = true then true else if nI (be (11 + 4 * r + k)) = nI c then true else false)
def itOut (be : Nat → Nat) (c : Nat) : Nat → Nat → Bool → Bool
  | 0, _, b => b
  | u + 1, r, b => itOut be c u (r + 1) (itIn be c r (be (8 + r)) 0 b)
def itM (dr be : Nat → Nat) (c : Nat) : Bool := itOut be c (dr 2) 0 false
def rowD (dr : Nat → Nat) (k b : Nat) : Nat → Nat := va_up (va_up (va_up dr (75 + dr 2) k) (78 + dr 2) b) 2 (dr 2 + 1)
def rowB (dr be : Nat → Nat) (h : Nat) : Nat → Nat := va_up be (5 + dr 2) h
def stM (be : Nat → Nat) (r c : Nat) : Nat → Nat := va_up (va_up be (11 + 4 * r + be (8 + r)) c) (8 + r) (be (8 + r) + 1)
def OkD (dr be : Nat → Nat) : Prop := dr 0 ≤ 36 ∧ dr 2 ≤ 3 ∧ (∀ r, r < 3 → be (8 + r) ≤ 4) ∧ (∀ j, j < 12 → be (11 + j) < 36) ∧ (0 < dr 0 → 1 ≤ dr 1) ∧ (∀ r, dr 2 ≤ r → r < 3 → be (8 + r) = 0) ∧ dr 1 ≤ 6
theorem fig_at (D : MS) (lo hi : Int32) (p : Nat) : p ≤ (figM D lo hi p).2 ∧ (figM D lo hi p).2 ≤ p + 2 := by
  unfold figM
  split
  · exact ⟨Nat.le_refl _, by omega⟩
  · split
    · exact ⟨Nat.le_succ _, by show p + 1 ≤ p + 2; omega⟩
    · exact ⟨by show p ≤ p + 2; omega, Nat.le_refl _⟩
theorem num_at (D : MS) (lo hi e : Int32) (p : Nat) : p + 1 ≤ (numM D lo hi e p).2 ∧ (numM D lo hi e p).2 ≤ p + 3 := by
  have h := fig_at D lo hi p
  unfold numM
  exact ⟨by show p + 1 ≤ _ + 1; omega, by show _ + 1 ≤ p + 3; omega⟩
theorem figM_0 {D : MS} {lo hi : Int32} {p : Nat} (h : isFigM (letM D p) = false) : figM D lo hi p = (-1, p) := by unfold figM; rw [if_pos h]
theorem figM_1 {D : MS} {lo hi : Int32} {p c : Nat} (e : letM D p = nI c) (hc : c < 100) (h : isFigM (letM D p) = true) (h2 : isFigM (letM D (p + 1)) = false) : figM D lo hi p = ((if withinC (nI (c - 48)) lo hi = true then nI (c - 48) else -1), p + 1) := by
  unfold figM
  rw [if_neg (by rw [h]; decide), if_pos h2, e, nI_clamp (by omega)]
theorem figM_2 {D : MS} {lo hi : Int32} {p c d : Nat} (e : letM D p = nI c) (hc : c < 100) (h : isFigM (letM D p) = true) (e2 : letM D (p + 1) = nI d) (hd : d < 100) (h2 : isFigM (letM D (p + 1)) = true) : figM D lo hi p = ((if withinC (nI (10 * (c - 48) + d - 48)) lo hi = true then nI (10 * (c - 48) + d - 48) else -1), p + 2) := by
  unfold figM
  rw [if_neg (by rw [h]; decide), if_neg (by rw [h2]; decide), e, e2, nI_clamp (by omega), nI_clamp (by omega)]
theorem isFig_nI {v : Int32} (h : isFigM v = true) : ∃ c : Nat, 48 ≤ c ∧ c ≤ 57 ∧ v = nI c := within_nI (a := 48) (b := 57) rfl rfl h
theorem fig_v (D : MS) (lo hi : Int32) (p : Nat) : (figM D lo hi p).1 = -1 ∨ ∃ c : Nat, c < 100 ∧ (figM D lo hi p).1 = nI c ∧ withinC (nI c) lo hi = true := by
  unfold figM
  split
  · exact Or.inl rfl
  · rename_i h1
    have h1 : isFigM (letM D p) = true := by cases h : isFigM (letM D p); exact absurd h h1; rfl
    obtain ⟨c, hc1, hc2, ec⟩ := isFig_nI h1
    rw [ec, nI_clamp (n := c) (by omega)]
    split
    · dsimp only
      split
      · rename_i h2; exact Or.inr ⟨c - 48, by omega, rfl, h2⟩
      · exact Or.inl rfl
    · rename_i h3
      have h3 : isFigM (letM D (p + 1)) = true := by cases h : isFigM (letM D (p + 1)); exact absurd h h3; rfl
      obtain ⟨d, hd1, hd2, ed⟩ := isFig_nI h3
      rw [ed, nI_clamp (n := d) (by omega)]
      dsimp only
      split
      · rename_i h2; exact Or.inr ⟨10 * (c - 48) + d - 48, by omega, rfl, h2⟩
      · exact Or.inl rfl
theorem num_v (D : MS) (lo hi e : Int32) (p : Nat) : (numM D lo hi e p).1 = -1 ∨ ∃ c : Nat, c < 100 ∧ (numM D lo hi e p).1 = nI c ∧ withinC (nI c) lo hi = true := by
  unfold numM
  dsimp only
  split
  · exact Or.inl rfl
  · split
    · exact fig_v D lo hi p
    · exact Or.inl rfl
theorem m1_lt : ((-1 : Int32) < 0) := by decide
theorem num_nn {D : MS} {lo hi e : Int32} {p : Nat} (h : ¬ (numM D lo hi e p).1 < 0) : ∃ c : Nat, c < 100 ∧ (numM D lo hi e p).1 = nI c ∧ withinC (nI c) lo hi = true := (num_v D lo hi e p).resolve_left (fun q => h (by rw [q]; exact m1_lt))
theorem fig_nn {D : MS} {lo hi : Int32} {p : Nat} (h : ¬ (figM D lo hi p).1 < 0) : ∃ c : Nat, c < 100 ∧ (figM D lo hi p).1 = nI c ∧ withinC (nI c) lo hi = true := (fig_v D lo hi p).resolve_left (fun q => h (by rw [q]; exact m1_lt))
theorem wi_nI {c : Nat} {lo hi : Int32} {b : Nat} (h : withinC (nI c) lo hi = true) (hc : c < 100) (hhi : hi.toInt ≤ b) : c ≤ b := by
  unfold withinC at h
  split at h
  · cases h
  · split at h
    · cases h
    · rename_i h1 h2
      have h2' : ¬ hi.toInt < (nI c).toInt := fun q => h2 (Int32.lt_iff_toInt_lt.mpr q)
      rw [nI_toInt (by omega)] at h2'
      omega
theorem hi_dr {d : Nat} (h : d ≤ 36) : (nI d - 1).toInt ≤ ((d - 1 : Nat) : Int) := by
  cases d with
  | zero => decide
  | succ k => rw [nI_pred, nI_toInt (by omega)]; omega
theorem wi_dr {c d : Nat} {lo : Int32} (h : withinC (nI c) lo (nI d - 1) = true) (hc : c < 100) (hd : d ≤ 36) : c < d := by
  cases d with
  | zero =>
    exfalso
    unfold withinC at h
    split at h
    · cases h
    · split at h
      · cases h
      · rename_i h1 h2
        have h2' : ¬ (nI 0 - 1).toInt < (nI c).toInt := fun q => h2 (Int32.lt_iff_toInt_lt.mpr q)
        rw [nI_toInt (by omega)] at h2'
        have e : (nI 0 - 1).toInt = -1 := by decide
        omega
  | succ k =>
    have := wi_nI (b := k) h hc (by rw [nI_pred, nI_toInt (by omega)]; omega)
    omega
def rlEndM (D : MS) (n p : Nat) (dr : Nat → Nat) : Bool × Nat × (Nat → Nat) := if letM D p = 59 then (if n = 0 then (false, p, dr) else if 0 < dr 0 ∧ ¬ n = dr 1 then (false, p, dr) else if 6 * n ≤ dr 0 then (false, p, dr) else (true, p + 1, va_up (va_up dr 1 n) 0 (dr 0 + n))) else (false, p, dr)
def rlM (D : MS) : Nat → Nat → Nat → (Nat → Nat) → Bool × Nat × (Nat → Nat)
  | 0, n, p, dr => rlEndM D n p dr
  | u + 1, n, p, dr => if withinC (letM D p) 48 51 = true then (if 36 ≤ dr 0 + n then (false, p, dr) else rlM D u (n + 1) (p + 1) (va_up dr (3 + (dr 0 + n)) ((letM D p).toNatClampNeg - 48))) else rlEndM D n p dr
def roM (D : MS) (p : Nat) (dr : Nat → Nat) : Bool × Nat × (Nat → Nat) :=
  if (numM D 0 (nI (dr 0) - 1) 44 p).1 < 0 then (false, (numM D 0 (nI (dr 0) - 1) 44 p).2, dr)
  else if (numM D (numM D 0 (nI (dr 0) - 1) 44 p).1 (nI (dr 0) - 1) 44 (numM D 0 (nI (dr 0) - 1) 44 p).2).1 < 0 then (false, (numM D (numM D 0 (nI (dr 0) - 1) 44 p).1 (nI (dr 0) - 1) 44 (numM D 0 (nI (dr 0) - 1) 44 p).2).2, dr)
  else if (numM D 0 3 59 (numM D (numM D 0 (nI (dr 0) - 1) 44 p).1 (nI (dr 0) - 1) 44 (numM D 0 (nI (dr 0) - 1) 44 p).2).2).1 < 0 then (false, (numM D 0 3 59 (numM D (numM D 0 (nI (dr 0) - 1) 44 p).1 (nI (dr 0) - 1) 44 (numM D 0 (nI (dr 0) - 1) 44 p).2).2).2, dr)
  else (true, (numM D 0 3 59 (numM D (numM D 0 (nI (dr 0) - 1) 44 p).1 (nI (dr 0) - 1) 44 (numM D 0 (nI (dr 0) - 1) 44 p).2).2).2, ownsM dr (numM D 0 (nI (dr 0) - 1) 44 p).1.toNatClampNeg (numM D (numM D 0 (nI (dr 0) - 1) 44 p).1 (nI (dr 0) - 1) 44 (numM D 0 (nI (dr 0) - 1) 44 p).2).1.toNatClampNeg (numM D 0 3 59 (numM D (numM D 0 (nI (dr 0) - 1) 44 p).1 (nI (dr 0) - 1) 44 (numM D 0 (nI (dr 0) - 1) 44 p).2).2).1.toNatClampNeg)
def tkM (dr be : Nat → Nat) (r c : Nat) : Bool := if nI (be (8 + r)) = 4 then false else if 1 < nI (dr (3 + c)) then false else if itM dr be c = true then false else if nI (be (8 + r)) ≤ 0 then true else if nxtM c (be (11 + 4 * r + be (8 + r) - 1)) (dr 1) = true then true else false
def rrM (D : MS) (dr : Nat → Nat) (r : Nat) : Nat → Nat → (Nat → Nat) → Bool × Nat × (Nat → Nat)
  | 0, p, be => (false, p, be)
  | u + 1, p, be =>
    if (figM D 0 (nI (dr 0) - 1) p).1 < 0 then (false, (figM D 0 (nI (dr 0) - 1) p).2, be)
    else if tkM dr be r (figM D 0 (nI (dr 0) - 1) p).1.toNatClampNeg = false then (false, (figM D 0 (nI (dr 0) - 1) p).2, be)
    else if letM D (figM D 0 (nI (dr 0) - 1) p).2 = 44 then rrM D dr r u ((figM D 0 (nI (dr 0) - 1) p).2 + 1) (stM be r (figM D 0 (nI (dr 0) - 1) p).1.toNatClampNeg)
    else if letM D (figM D 0 (nI (dr 0) - 1) p).2 = 59 then (true, (figM D 0 (nI (dr 0) - 1) p).2 + 1, stM be r (figM D 0 (nI (dr 0) - 1) p).1.toNatClampNeg)
    else (false, (figM D 0 (nI (dr 0) - 1) p).2 + 1, stM be r (figM D 0 (nI (dr 0) - 1) p).1.toNatClampNeg)
/-- draft, begun, behind a row's item: read, at, draft, begun -/
def rwM (D : MS) (p : Nat) (dr be : Nat → Nat) : Bool × Nat × (Nat → Nat) × (Nat → Nat) :=
  let k := numM D 0 3 44 p
  if k.1 < 0 then (false, k.2, dr, be) else
  let h := numM D 0 3 44 k.2
  if h.1 < 0 then (false, h.2, dr, be) else
  let b := numM D 0 9 44 h.2
  if b.1 < 0 then (false, b.2, dr, be) else if dr 2 = 3 then (false, b.2, dr, be) else
  let z := rrM D (rowD dr k.1.toNatClampNeg b.1.toNatClampNeg) (dr 2) 5 b.2 (rowB dr be h.1.toNatClampNeg)
  (z.1, z.2.1, rowD dr k.1.toNatClampNeg b.1.toNatClampNeg, z.2.2)
section R12
variable {l : Launch} {G : GG} {n : Nat} {R : Nat} {D : MS} {p : Nat} {dr be : Nat → Nat} {ρ : Mu}
theorem q_letterAt {k : Nat} (hk : D.1.1 ≤ 200) (h2 : k < 2 ^ 31) : Ctr l G 0 0 0 0 mX6_letterAt [.ref R, .int (nI k)] n (rem R (dS D p dr be) ρ) (some (.int (letM D k))) n (rem R (dS D p dr be) ρ) := k_X6_letterAt (D := dS D p dr be) hk h2
theorem q_figures (hk : D.1.1 ≤ 200) (hp : p < 1000) (lo hi : Int32) : Ctr l G 2 42 0 0 mX6_figures [.ref R, .int lo, .int hi] n (rem R (dS D p dr be) ρ) (some (.int (figM D lo hi p).1)) n (rem R (dS D (figM D lo hi p).2 dr be) ρ) := by
  refine Ctr.of (by decide +kernel) rfl (fun X g E => ?_)
  refine v_sub (ls' := [(0, .ref R), (1, .int lo), (2, .int hi)]) [0, 1, 2] rfl ?_
  refine v_aload_n g dX6_figures_0 0 rfl ?_
  refine v_aload_n g dX6_figures_1 0 rfl ?_
  refine v_get g dX6_figures_2 fl_RX6_62 (rd_M R _ _) rfl ?_
  refine v_eqi (y := nI p) rfl ?_
  refine v_callV (As := [.int (nI p)]) (r := some (.int (letM D p))) g dX6_figures_5 (q_letterAt (D := D) (p := p) (dr := dr) (be := be) (k := p) hk (by omega)) cl_X6_letterAt ml_RX6_65 im_X6_letterAt (rd_M R _ _) rfl rfl ⟨rfl, rfl, rfl⟩ ?_
  refine v_callS (As := [.int (letM D p)]) (r := some (.int (zB (isFigM (letM D p))))) g dX6_figures_8 (k_X6_isFigure (letM D p)) cl_X6_isFigure ml_RX6_69 sm_X6_isFigure rfl ⟨rfl, rfl, rfl⟩ ?_
  refine v_if_ne (tgt := 16) g dX6_figures_11 (by decide) (fun h11 => ?_) (fun h11 => ?_)
  · skip
    have h11 := zB_t0 h11
    obtain ⟨c, hc1, hc2, ec⟩ := isFig_nI h11
    refine v_aload_n g dX6_figures_16 0 rfl ?_
    refine v_aload_n g dX6_figures_17 0 rfl ?_
    refine v_get g dX6_figures_18 fl_RX6_62 (rd_M R _ _) rfl ?_
    refine v_eqi (y := nI p) rfl ?_
    refine v_callV (As := [.int (nI p)]) (r := some (.int (letM D p))) g dX6_figures_21 (q_letterAt (D := D) (p := p) (dr := dr) (be := be) (k := p) hk (by omega)) cl_X6_letterAt ml_RX6_65 im_X6_letterAt (rd_M R _ _) rfl rfl ⟨rfl, rfl, rfl⟩ ?_
    refine v_eqi ec ?_
    refine v_bipush (v := 48) g dX6_figures_24 (by decide) ?_
    refine v_isub g dX6_figures_26 (v_eqi (y := nI (c - 48)) (nI_subE rfl rfl (by omega)) ?_)
    refine v_istore_n (ls' := [(3, .int (nI (c - 48))), (0, .ref R), (1, .int lo), (2, .int hi)]) g dX6_figures_27 rfl rfl ?_
    refine v_aload_n g dX6_figures_28 1 rfl ?_
    refine v_dup g dX6_figures_29 rfl ?_
    refine v_get g dX6_figures_30 fl_RX6_62 (rd_M R _ _) rfl ?_
    refine v_eqi (y := nI p) rfl ?_
    refine v_iconst (v := 1) g dX6_figures_33 (by decide) ?_
    refine v_iadd g dX6_figures_34 (v_eqi (y := nI (p + 1)) (nI_addE rfl rfl) ?_)
    refine v_put g dX6_figures_35 fl_RX6_62 (rd_M R _ _) ⟨rfl, rfl⟩ rfl ?_
    refine v_meq (μ' := rem R (dS D (p + 1) dr be) ρ) (st_GW R (dS D p dr be) (dS D (p + 1) dr be) ρ (D.1.1, D.1.2.1, D.1.2.2.1, D.1.2.2.2.1, (p + 1)) rfl rfl) ?_
    refine v_aload_n g dX6_figures_38 1 rfl ?_
    refine v_aload_n g dX6_figures_39 1 rfl ?_
    refine v_get g dX6_figures_40 fl_RX6_62 (rd_M R _ _) rfl ?_
    refine v_eqi (y := nI (p + 1)) rfl ?_
    refine v_callV (As := [.int (nI (p + 1))]) (r := some (.int (letM D (p + 1)))) g dX6_figures_43 (q_letterAt (D := D) (p := (p + 1)) (dr := dr) (be := be) (k := (p + 1)) hk (by omega)) cl_X6_letterAt ml_RX6_65 im_X6_letterAt (rd_M R _ _) rfl rfl ⟨rfl, rfl, rfl⟩ ?_
    refine v_callS (As := [.int (letM D (p + 1))]) (r := some (.int (zB (isFigM (letM D (p + 1)))))) g dX6_figures_46 (k_X6_isFigure (letM D (p + 1))) cl_X6_isFigure ml_RX6_69 sm_X6_isFigure rfl ⟨rfl, rfl, rfl⟩ ?_
    refine v_if_eq (tgt := 79) g dX6_figures_49 (by decide) (fun h49 => ?_) (fun h49 => ?_)
    · skip
      have h49 := zB_f0 h49
      refine v_iload_n g dX6_figures_79 0 rfl ?_
      refine v_iload_n g dX6_figures_80 2 rfl ?_
      refine v_iload_n g dX6_figures_81 3 rfl ?_
      refine v_callS (As := [.int (nI (c - 48)), .int lo, .int hi]) (r := some (.int (zB (withinC (nI (c - 48)) lo hi)))) g dX6_figures_82 (k_X6_in (nI (c - 48)) lo hi) cl_X6_in ml_RX6_54 sm_X6_in rfl ⟨rfl, rfl, rfl⟩ ?_
      refine v_if_eq (tgt := 92) g dX6_figures_85 (by decide) (fun h85 => ?_) (fun h85 => ?_)
      · skip
        have h85 := zB_f0 h85
        refine v_iconst (v := (-1)) g dX6_figures_92 (by decide) ?_
        exact v_iret g E dX6_figures_93 rfl ⟨by rw [figM_1 ec (by omega) h11 h49]; first | (rw [if_pos h85]; done) | (rw [if_neg (by rw [h85]; decide)]; done) | (rw [if_pos h85_2]; done) | (rw [if_neg (by rw [h85_2]; decide)]; done), rfl, by first | (rw [figM_1 ec (by omega) h11 h49]; done) | (rw [figM_1 ec (by omega) h11 h49]; rfl)⟩
      · skip
        have h85 := zB_t0 h85
        refine v_iload_n g dX6_figures_88 0 rfl ?_
        refine v_goto (tgt := 93) g dX6_figures_89 (by decide) ?_
        exact v_iret g E dX6_figures_93 rfl ⟨by rw [figM_1 ec (by omega) h11 h49]; first | (rw [if_pos h85]; done) | (rw [if_neg (by rw [h85]; decide)]; done) | (rw [if_pos h85_2]; done) | (rw [if_neg (by rw [h85_2]; decide)]; done), rfl, by first | (rw [figM_1 ec (by omega) h11 h49]; done) | (rw [figM_1 ec (by omega) h11 h49]; rfl)⟩
    · skip
      have h49 := zB_t0 h49
      obtain ⟨d, hd1, hd2, ed⟩ := isFig_nI h49
      refine v_bipush (v := 10) g dX6_figures_52 (by decide) ?_
      refine v_iload_n g dX6_figures_54 0 rfl ?_
      refine v_imul g dX6_figures_55 (v_eqi (y := nI (10 * (c - 48))) (nI_mulE rfl rfl) ?_)
      refine v_aload_n g dX6_figures_56 1 rfl ?_
      refine v_aload_n g dX6_figures_57 1 rfl ?_
      refine v_get g dX6_figures_58 fl_RX6_62 (rd_M R _ _) rfl ?_
      refine v_eqi (y := nI (p + 1)) rfl ?_
      refine v_callV (As := [.int (nI (p + 1))]) (r := some (.int (letM D (p + 1)))) g dX6_figures_61 (q_letterAt (D := D) (p := (p + 1)) (dr := dr) (be := be) (k := (p + 1)) hk (by omega)) cl_X6_letterAt ml_RX6_65 im_X6_letterAt (rd_M R _ _) rfl rfl ⟨rfl, rfl, rfl⟩ ?_
      refine v_eqi ed ?_
      refine v_iadd g dX6_figures_64 (v_eqi (y := nI ((10 * (c - 48)) + d)) (nI_addE rfl rfl) ?_)
      refine v_bipush (v := 48) g dX6_figures_65 (by decide) ?_
      refine v_isub g dX6_figures_67 (v_eqi (y := nI (((10 * (c - 48)) + d) - 48)) (nI_subE rfl rfl (by omega)) ?_)
      refine v_istore_n (ls' := [(3, .int (nI (((10 * (c - 48)) + d) - 48))), (0, .ref R), (1, .int lo), (2, .int hi)]) g dX6_figures_68 rfl rfl ?_
      refine v_aload_n g dX6_figures_69 1 rfl ?_
      refine v_dup g dX6_figures_70 rfl ?_
      refine v_get g dX6_figures_71 fl_RX6_62 (rd_M R _ _) rfl ?_
      refine v_eqi (y := nI (p + 1)) rfl ?_
      refine v_iconst (v := 1) g dX6_figures_74 (by decide) ?_
      refine v_iadd g dX6_figures_75 (v_eqi (y := nI ((p + 1) + 1)) (nI_addE rfl rfl) ?_)
      refine v_put g dX6_figures_76 fl_RX6_62 (rd_M R _ _) ⟨rfl, rfl⟩ rfl ?_
      refine v_meq (μ' := rem R (dS D ((p + 1) + 1) dr be) ρ) (st_GW R (dS D (p + 1) dr be) (dS D ((p + 1) + 1) dr be) ρ (D.1.1, D.1.2.1, D.1.2.2.1, D.1.2.2.2.1, ((p + 1) + 1)) rfl rfl) ?_
      refine v_iload_n g dX6_figures_79 0 rfl ?_
      refine v_iload_n g dX6_figures_80 2 rfl ?_
      refine v_iload_n g dX6_figures_81 3 rfl ?_
      refine v_callS (As := [.int (nI (((10 * (c - 48)) + d) - 48)), .int lo, .int hi]) (r := some (.int (zB (withinC (nI (((10 * (c - 48)) + d) - 48)) lo hi)))) g dX6_figures_82 (k_X6_in (nI (((10 * (c - 48)) + d) - 48)) lo hi) cl_X6_in ml_RX6_54 sm_X6_in rfl ⟨rfl, rfl, rfl⟩ ?_
      refine v_if_eq (tgt := 92) g dX6_figures_85 (by decide) (fun h85_2 => ?_) (fun h85_2 => ?_)
      · skip
        have h85_2 := zB_f0 h85_2
        refine v_iconst (v := (-1)) g dX6_figures_92 (by decide) ?_
        exact v_iret g E dX6_figures_93 rfl ⟨by rw [figM_2 ec (by omega) h11 ed (by omega) h49]; first | (rw [if_pos h85]; done) | (rw [if_neg (by rw [h85]; decide)]; done) | (rw [if_pos h85_2]; done) | (rw [if_neg (by rw [h85_2]; decide)]; done), rfl, by first | (rw [figM_2 ec (by omega) h11 ed (by omega) h49]; done) | (rw [figM_2 ec (by omega) h11 ed (by omega) h49]; rfl)⟩
      · skip
        have h85_2 := zB_t0 h85_2
        refine v_iload_n g dX6_figures_88 0 rfl ?_
        refine v_goto (tgt := 93) g dX6_figures_89 (by decide) ?_
        exact v_iret g E dX6_figures_93 rfl ⟨by rw [figM_2 ec (by omega) h11 ed (by omega) h49]; first | (rw [if_pos h85]; done) | (rw [if_neg (by rw [h85]; decide)]; done) | (rw [if_pos h85_2]; done) | (rw [if_neg (by rw [h85_2]; decide)]; done), rfl, by first | (rw [figM_2 ec (by omega) h11 ed (by omega) h49]; done) | (rw [figM_2 ec (by omega) h11 ed (by omega) h49]; rfl)⟩
  · skip
    have h11 := zB_f0 h11
    refine v_iconst (v := (-1)) g dX6_figures_14 (by decide) ?_
    exact v_iret g E dX6_figures_15 rfl ⟨by rw [figM_0 h11], rfl, by first | (rw [figM_0 h11]; done) | (rw [figM_0 h11]; rfl)⟩
theorem q_number (hk : D.1.1 ≤ 200) (hp : p < 990) (lo hi e : Int32) : Ctr l G 3 65 0 0 mX6_number [.ref R, .int lo, .int hi, .int e] n (rem R (dS D p dr be) ρ) (some (.int (numM D lo hi e p).1)) n (rem R (dS D (numM D lo hi e p).2 dr be) ρ) := by
  refine Ctr.of (by decide +kernel) rfl (fun X g E => ?_)
  have hfa := fig_at D lo hi p
  refine v_sub (ls' := [(0, .ref R), (1, .int lo), (2, .int hi), (3, .int e)]) [0, 1, 2, 3] rfl ?_
  refine v_aload_n g dX6_number_0 0 rfl ?_
  refine v_iload_n g dX6_number_1 1 rfl ?_
  refine v_iload_n g dX6_number_2 2 rfl ?_
  refine v_callV (As := [.int lo, .int hi]) (r := some (.int ((figM D lo hi p).1))) g dX6_number_3 (q_figures (D := D) (p := p) (dr := dr) (be := be) hk (by omega) lo hi) cl_X6_figures ml_RX6_73 im_X6_figures (rd_M R _ _) rfl rfl ⟨rfl, rfl, rfl⟩ ?_
  refine v_istore (ls' := [(4, .int ((figM D lo hi p).1)), (0, .ref R), (1, .int lo), (2, .int hi), (3, .int e)]) g dX6_number_6 rfl rfl ?_
  refine v_iload g dX6_number_8 0 rfl ?_
  refine v_if_lt (tgt := 29) g dX6_number_10 (by decide) (fun h10 => ?_) (fun h10 => ?_)
  · skip
    refine v_iconst (v := 0) g dX6_number_29 (by decide) ?_
    refine v_istore (ls' := [(5, .int 0), (4, .int ((figM D lo hi p).1)), (0, .ref R), (1, .int lo), (2, .int hi), (3, .int e)]) g dX6_number_30 rfl rfl ?_
    refine v_aload_n g dX6_number_32 2 rfl ?_
    refine v_dup g dX6_number_33 rfl ?_
    refine v_get g dX6_number_34 fl_RX6_62 (rd_M R _ _) rfl ?_
    refine v_eqi (y := nI ((figM D lo hi p).2)) rfl ?_
    refine v_iconst (v := 1) g dX6_number_37 (by decide) ?_
    refine v_iadd g dX6_number_38 (v_eqi (y := nI (((figM D lo hi p).2) + 1)) (nI_addE rfl rfl) ?_)
    refine v_put g dX6_number_39 fl_RX6_62 (rd_M R _ _) ⟨rfl, rfl⟩ rfl ?_
    refine v_meq (μ' := rem R (dS D (((figM D lo hi p).2) + 1) dr be) ρ) (st_GW R (dS D ((figM D lo hi p).2) dr be) (dS D (((figM D lo hi p).2) + 1) dr be) ρ (D.1.1, D.1.2.1, D.1.2.2.1, D.1.2.2.2.1, (((figM D lo hi p).2) + 1)) rfl rfl) ?_
    refine v_iload g dX6_number_42 0 rfl ?_
    refine v_if_eq (tgt := 52) g dX6_number_44 (by decide) (fun _ => ?_) (fun h => absurd (by decide) h)
    refine v_iconst (v := (-1)) g dX6_number_52 (by decide) ?_
    exact v_iret g E dX6_number_53 rfl ⟨by simp [numM, *], rfl, rfl⟩
  · skip
    refine v_aload_n g dX6_number_13 1 rfl ?_
    refine v_aload_n g dX6_number_14 1 rfl ?_
    refine v_get g dX6_number_15 fl_RX6_62 (rd_M R _ _) rfl ?_
    refine v_eqi (y := nI ((figM D lo hi p).2)) rfl ?_
    refine v_callV (As := [.int (nI ((figM D lo hi p).2))]) (r := some (.int (letM D ((figM D lo hi p).2)))) g dX6_number_18 (q_letterAt (D := D) (p := (figM D lo hi p).2) (dr := dr) (be := be) (k := ((figM D lo hi p).2)) hk (by omega)) cl_X6_letterAt ml_RX6_65 im_X6_letterAt (rd_M R _ _) rfl rfl ⟨rfl, rfl, rfl⟩ ?_
    refine v_iload_n g dX6_number_21 4 rfl ?_
    refine v_icmp_ne (tgt := 29) g dX6_number_22 (by decide) (fun h22 => ?_) (fun h22 => ?_)
    · skip
      refine v_iconst (v := 0) g dX6_number_29 (by decide) ?_
      refine v_istore (ls' := [(5, .int 0), (4, .int ((figM D lo hi p).1)), (0, .ref R), (1, .int lo), (2, .int hi), (3, .int e)]) g dX6_number_30 rfl rfl ?_
      refine v_aload_n g dX6_number_32 2 rfl ?_
      refine v_dup g dX6_number_33 rfl ?_
      refine v_get g dX6_number_34 fl_RX6_62 (rd_M R _ _) rfl ?_
      refine v_eqi (y := nI ((figM D lo hi p).2)) rfl ?_
      refine v_iconst (v := 1) g dX6_number_37 (by decide) ?_
      refine v_iadd g dX6_number_38 (v_eqi (y := nI (((figM D lo hi p).2) + 1)) (nI_addE rfl rfl) ?_)
      refine v_put g dX6_number_39 fl_RX6_62 (rd_M R _ _) ⟨rfl, rfl⟩ rfl ?_
      refine v_meq (μ' := rem R (dS D (((figM D lo hi p).2) + 1) dr be) ρ) (st_GW R (dS D ((figM D lo hi p).2) dr be) (dS D (((figM D lo hi p).2) + 1) dr be) ρ (D.1.1, D.1.2.1, D.1.2.2.1, D.1.2.2.2.1, (((figM D lo hi p).2) + 1)) rfl rfl) ?_
      refine v_iload g dX6_number_42 0 rfl ?_
      refine v_if_eq (tgt := 52) g dX6_number_44 (by decide) (fun _ => ?_) (fun h => absurd (by decide) h)
      refine v_iconst (v := (-1)) g dX6_number_52 (by decide) ?_
      exact v_iret g E dX6_number_53 rfl ⟨by simp [numM, *], rfl, rfl⟩
    · skip
      refine v_iconst (v := 1) g dX6_number_25 (by decide) ?_
      refine v_goto (tgt := 30) g dX6_number_26 (by decide) ?_
      refine v_istore (ls' := [(5, .int 1), (4, .int ((figM D lo hi p).1)), (0, .ref R), (1, .int lo), (2, .int hi), (3, .int e)]) g dX6_number_30 rfl rfl ?_
      refine v_aload_n g dX6_number_32 2 rfl ?_
      refine v_dup g dX6_number_33 rfl ?_
      refine v_get g dX6_number_34 fl_RX6_62 (rd_M R _ _) rfl ?_
      refine v_eqi (y := nI ((figM D lo hi p).2)) rfl ?_
      refine v_iconst (v := 1) g dX6_number_37 (by decide) ?_
      refine v_iadd g dX6_number_38 (v_eqi (y := nI (((figM D lo hi p).2) + 1)) (nI_addE rfl rfl) ?_)
      refine v_put g dX6_number_39 fl_RX6_62 (rd_M R _ _) ⟨rfl, rfl⟩ rfl ?_
      refine v_meq (μ' := rem R (dS D (((figM D lo hi p).2) + 1) dr be) ρ) (st_GW R (dS D ((figM D lo hi p).2) dr be) (dS D (((figM D lo hi p).2) + 1) dr be) ρ (D.1.1, D.1.2.1, D.1.2.2.1, D.1.2.2.2.1, (((figM D lo hi p).2) + 1)) rfl rfl) ?_
      refine v_iload g dX6_number_42 0 rfl ?_
      refine v_if_eq (tgt := 52) g dX6_number_44 (by decide) (fun h => absurd h (by decide)) (fun _ => ?_)
      refine v_iload g dX6_number_47 1 rfl ?_
      refine v_goto (tgt := 53) g dX6_number_49 (by decide) ?_
      exact v_iret g E dX6_number_53 rfl ⟨by simp [numM, *], rfl, rfl⟩
theorem q_owns {x y : Nat} (hx : x < 36) (hy : y < 36) (q : Nat) : Ctr l G 0 0 0 0 mX6_owns [.ref R, .int (nI x), .int (nI y), .int (nI q)] n (rem R (dS D p dr be) ρ) none n (rem R (dS D p (ownsM dr x y q) be) ρ) := by
  refine Ctr.of (by decide +kernel) rfl (fun X g E => ?_)
  have e0 : ∀ k, k ≤ x → dr = ownF dr x q k := fun k hk => by
    funext j; unfold ownF; rw [if_neg (by omega)]
  have es : ∀ k, x ≤ k → va_up (ownF dr x q k) (39 + k) q = ownF dr x q (k + 1) := fun k hk => by
    funext j
    unfold va_up ownF
    by_cases h : j = 39 + k
    · subst h; rw [if_pos rfl, if_pos (by omega)]
    · rw [if_neg h]
      by_cases h2 : 39 + x ≤ j ∧ j < 39 + k
      · rw [if_pos h2, if_pos (by omega)]
      · rw [if_neg h2, if_neg (by omega)]
  have ee : ∀ k, y < k → (x ≤ y → k ≤ y + 1) → (y < x → k = x) → ownF dr x q k = ownsM dr x y q := fun k h1 h2 h3 => by
    funext j
    unfold ownsM ownF
    by_cases h : 39 + x ≤ j ∧ j < 39 + k
    · rw [if_pos h, if_pos (by omega)]
    · rw [if_neg h, if_neg (by omega)]
  have loop : ∀ (u k : Nat), k + u = 40 → x ≤ k → (x ≤ y → k ≤ y + 1) → (y < x → k = x) → V X 0 0 n (rem R (dS D p (ownF dr x q k) be) ρ) 3 [(4, .int (nI k)), (0, .ref R), (1, .int (nI x)), (2, .int (nI y)), (3, .int (nI q))] [] := by
    intro u
    induction u with
    | zero =>
      intro k hu hxk h1 h2
      exfalso; rcases Nat.lt_or_ge y x with q1 | q1
      · have := h2 q1; omega
      · have := h1 q1; omega
    | succ u ih =>
      intro k hu hxk h1 h2
      rcases Nat.lt_or_ge y k with hyk | hyk
      · skip
        refine v_iload g dX6_owns_3 0 rfl ?_
        refine v_iload_n g dX6_owns_5 3 rfl ?_
        refine v_icmp_gt (tgt := 26) g dX6_owns_6 (by decide) (fun h6 => ?_) (fun h6 => absurd (nI_lt (a := y) (b := k) hyk (by omega)) h6)
        exact v_vret g E dX6_owns_26 rfl ⟨rfl, rfl, by rw [ee k hyk h1 h2]⟩
      · skip
        refine v_iload g dX6_owns_3 0 rfl ?_
        refine v_iload_n g dX6_owns_5 3 rfl ?_
        refine v_icmp_gt (tgt := 26) g dX6_owns_6 (by decide) (fun h6 => absurd h6 (nI_nlt (a := y) (b := k) hyk (by omega))) (fun h6 => ?_)
        refine v_aload_n g dX6_owns_9 1 rfl ?_
        refine v_get g dX6_owns_10 fl_RX6_16 (rd_M R _ _) rfl ?_
        refine v_bipush (v := 39) g dX6_owns_13 (by decide) ?_
        refine v_iload g dX6_owns_15 0 rfl ?_
        refine v_iadd g dX6_owns_17 (v_eqi (y := nI (39 + k)) (nI_addE rfl rfl) ?_)
        refine v_iload_n g dX6_owns_18 4 rfl ?_
        refine v_iast g dX6_owns_19 (rd_MA2 R _ _) (vp_in_nI (by omega) (by decide)) ?_
        rw [nI_clamp (n := (39 + k)) (by omega)]
        refine v_meq (μ' := rem R (dS D p (va_up (ownF dr x q k) (39 + k) q) be) ρ) (st_GA R (dS D p (ownF dr x q k) be) (dS D p (va_up (ownF dr x q k) (39 + k) q) be) ρ 2 (by decide) (ownF dr x q k) (39 + k) q rfl rfl rfl (fun j hj => by simp only [dS, va_up, if_neg hj])) ?_
        refine v_iinc (v := (nI (k + 1))) (ls' := [(4, .int (nI (k + 1))), (0, .ref R), (1, .int (nI x)), (2, .int (nI y)), (3, .int (nI q))]) g dX6_owns_20 0 rfl (nI_addE rfl rfl) rfl rfl ?_
        refine v_goto (tgt := 3) g dX6_owns_23 (by decide) ?_
        refine v_meq (μ' := rem R (dS D p (ownF dr x q (k + 1)) be) ρ) (by rw [es k hxk]) ?_
        refine v_sub (ls' := [(4, .int (nI (k + 1))), (0, .ref R), (1, .int (nI x)), (2, .int (nI y)), (3, .int (nI q))]) [0, 1, 2, 3, 4] rfl ?_
        exact ih (k + 1) (by omega) (by omega) (by omega) (by omega)
  refine v_sub (ls' := [(0, .ref R), (1, .int (nI x)), (2, .int (nI y)), (3, .int (nI q))]) [0, 1, 2, 3] rfl ?_
  refine v_iload_n g dX6_owns_0 1 rfl ?_
  refine v_istore (ls' := [(4, .int (nI x)), (0, .ref R), (1, .int (nI x)), (2, .int (nI y)), (3, .int (nI q))]) g dX6_owns_1 rfl rfl ?_
  refine v_meq (μ' := rem R (dS D p (ownF dr x q x) be) ρ) (by rw [← e0 x (Nat.le_refl _)]) ?_
  refine v_sub (ls' := [(4, .int (nI x)), (0, .ref R), (1, .int (nI x)), (2, .int (nI y)), (3, .int (nI q))]) [0, 1, 2, 3, 4] rfl ?_
  exact loop (40 - x) x (by omega) (Nat.le_refl _) (by omega) (fun _ => rfl)
theorem q_rowOf (hr : dr 2 < 3) (k h b : Nat) : Ctr l G 0 0 0 0 mX6_rowOf [.ref R, .int (nI k), .int (nI h), .int (nI b)] n (rem R (dS D p dr be) ρ) none n (rem R (dS D p (rowD dr k b) (rowB dr be h)) ρ) := by
  refine Ctr.of (by decide +kernel) rfl (fun X g E => ?_)
  refine v_sub (ls' := [(0, .ref R), (1, .int (nI k)), (2, .int (nI h)), (3, .int (nI b))]) [0, 1, 2, 3] rfl ?_
  refine v_aload_n g dX6_rowOf_0 0 rfl ?_
  refine v_get g dX6_rowOf_1 fl_RX6_16 (rd_M R _ _) rfl ?_
  refine v_iconst (v := 2) g dX6_rowOf_4 (by decide) ?_
  refine v_iald g dX6_rowOf_5 (rd_MA2 R _ _) (by unfold vp_in; decide) (v_eqi (y := (nI (dr 2))) rfl ?_)
  refine v_istore (ls' := [(4, .int (nI (dr 2))), (0, .ref R), (1, .int (nI k)), (2, .int (nI h)), (3, .int (nI b))]) g dX6_rowOf_6 rfl rfl ?_
  refine v_aload_n g dX6_rowOf_8 1 rfl ?_
  refine v_get g dX6_rowOf_9 fl_RX6_16 (rd_M R _ _) rfl ?_
  refine v_bipush (v := 75) g dX6_rowOf_12 (by decide) ?_
  refine v_iload g dX6_rowOf_14 0 rfl ?_
  refine v_iadd g dX6_rowOf_16 (v_eqi (y := nI (75 + (dr 2))) (nI_addE rfl rfl) ?_)
  refine v_iload_n g dX6_rowOf_17 2 rfl ?_
  refine v_iast g dX6_rowOf_18 (rd_MA2 R _ _) (vp_in_nI (by omega) (by decide)) ?_
  rw [nI_clamp (n := (75 + (dr 2))) (by omega)]
  refine v_meq (μ' := rem R (dS D p (va_up dr (75 + (dr 2)) k) be) ρ) (st_GA R (dS D p dr be) (dS D p (va_up dr (75 + (dr 2)) k) be) ρ 2 (by decide) dr (75 + (dr 2)) k rfl rfl rfl (fun j hj => by simp only [dS, va_up, if_neg hj])) ?_
  refine v_aload_n g dX6_rowOf_19 1 rfl ?_
  refine v_get g dX6_rowOf_20 fl_RX6_16 (rd_M R _ _) rfl ?_
  refine v_bipush (v := 78) g dX6_rowOf_23 (by decide) ?_
  refine v_iload g dX6_rowOf_25 0 rfl ?_
  refine v_iadd g dX6_rowOf_27 (v_eqi (y := nI (78 + (dr 2))) (nI_addE rfl rfl) ?_)
  refine v_iload_n g dX6_rowOf_28 4 rfl ?_
  refine v_iast g dX6_rowOf_29 (rd_MA2 R _ _) (vp_in_nI (by omega) (by decide)) ?_
  rw [nI_clamp (n := (78 + (dr 2))) (by omega)]
  refine v_meq (μ' := rem R (dS D p (va_up (va_up dr (75 + (dr 2)) k) (78 + (dr 2)) b) be) ρ) (st_GA R (dS D p (va_up dr (75 + (dr 2)) k) be) (dS D p (va_up (va_up dr (75 + (dr 2)) k) (78 + (dr 2)) b) be) ρ 2 (by decide) (va_up dr (75 + (dr 2)) k) (78 + (dr 2)) b rfl rfl rfl (fun j hj => by simp only [dS, va_up, if_neg hj])) ?_
  refine v_aload_n g dX6_rowOf_30 1 rfl ?_
  refine v_get g dX6_rowOf_31 fl_RX6_19 (rd_M R _ _) rfl ?_
  refine v_iconst (v := 5) g dX6_rowOf_34 (by decide) ?_
  refine v_iload g dX6_rowOf_35 0 rfl ?_
  refine v_iadd g dX6_rowOf_37 (v_eqi (y := nI (5 + (dr 2))) (nI_addE rfl rfl) ?_)
  refine v_iload_n g dX6_rowOf_38 3 rfl ?_
  refine v_iast g dX6_rowOf_39 (rd_MA3 R _ _) (vp_in_nI (by omega) (by decide)) ?_
  rw [nI_clamp (n := (5 + (dr 2))) (by omega)]
  refine v_meq (μ' := rem R (dS D p (va_up (va_up dr (75 + (dr 2)) k) (78 + (dr 2)) b) (va_up be (5 + (dr 2)) h)) ρ) (st_GA R (dS D p (va_up (va_up dr (75 + (dr 2)) k) (78 + (dr 2)) b) be) (dS D p (va_up (va_up dr (75 + (dr 2)) k) (78 + (dr 2)) b) (va_up be (5 + (dr 2)) h)) ρ 3 (by decide) be (5 + (dr 2)) h rfl rfl rfl (fun j hj => by simp only [dS, va_up, if_neg hj])) ?_
  refine v_aload_n g dX6_rowOf_40 1 rfl ?_
  refine v_get g dX6_rowOf_41 fl_RX6_16 (rd_M R _ _) rfl ?_
  refine v_iconst (v := 2) g dX6_rowOf_44 (by decide) ?_
  refine v_dup2 g dX6_rowOf_45 rfl rfl ?_
  refine v_iald g dX6_rowOf_46 (rd_MA2 R _ _) (by unfold vp_in; decide) (v_eqi (y := (nI ((va_up (va_up dr (75 + (dr 2)) k) (78 + (dr 2)) b) 2))) rfl ?_)
  refine v_eqi (y := nI (dr 2)) (congrArg nI ((va_up_ne _ _ (by omega)).trans (va_up_ne _ _ (by omega)))) ?_
  refine v_iconst (v := 1) g dX6_rowOf_47 (by decide) ?_
  refine v_iadd g dX6_rowOf_48 (v_eqi (y := nI ((dr 2) + 1)) (nI_addE rfl rfl) ?_)
  refine v_iast g dX6_rowOf_49 (rd_MA2 R _ _) (by unfold vp_in; decide) ?_
  refine v_meq (μ' := rem R (dS D p (va_up (va_up (va_up dr (75 + (dr 2)) k) (78 + (dr 2)) b) 2 ((dr 2) + 1)) (va_up be (5 + (dr 2)) h)) ρ) (st_GA R (dS D p (va_up (va_up dr (75 + (dr 2)) k) (78 + (dr 2)) b) (va_up be (5 + (dr 2)) h)) (dS D p (va_up (va_up (va_up dr (75 + (dr 2)) k) (78 + (dr 2)) b) 2 ((dr 2) + 1)) (va_up be (5 + (dr 2)) h)) ρ 2 (by decide) (va_up (va_up dr (75 + (dr 2)) k) (78 + (dr 2)) b) 2 ((dr 2) + 1) rfl rfl rfl (fun j hj => by simp only [dS, va_up, if_neg hj])) ?_
  exact v_vret g E dX6_rowOf_50 rfl ⟨rfl, rfl, rfl⟩
theorem q_stands {r : Nat} (hr : dr 2 = r + 1) (h3 : r < 3) (h4 : be (8 + r) < 4) (c : Nat) : Ctr l G 0 0 0 0 mX6_stands [.ref R, .int (nI c)] n (rem R (dS D p dr be) ρ) none n (rem R (dS D p dr (stM be r c)) ρ) := by
  refine Ctr.of (by decide +kernel) rfl (fun X g E => ?_)
  refine v_sub (ls' := [(0, .ref R), (1, .int (nI c))]) [0, 1] rfl ?_
  refine v_aload_n g dX6_stands_0 0 rfl ?_
  refine v_get g dX6_stands_1 fl_RX6_16 (rd_M R _ _) rfl ?_
  refine v_iconst (v := 2) g dX6_stands_4 (by decide) ?_
  refine v_iald g dX6_stands_5 (rd_MA2 R _ _) (by unfold vp_in; decide) (v_eqi (y := (nI (dr 2))) rfl ?_)
  refine v_iconst (v := 1) g dX6_stands_6 (by decide) ?_
  refine v_isub g dX6_stands_7 ?_
  refine v_eqi (y := nI r) (by rw [hr]; exact nI_pred r) ?_
  refine v_istore_n (ls' := [(2, .int (nI r)), (0, .ref R), (1, .int (nI c))]) g dX6_stands_8 rfl rfl ?_
  refine v_aload_n g dX6_stands_9 1 rfl ?_
  refine v_get g dX6_stands_10 fl_RX6_19 (rd_M R _ _) rfl ?_
  refine v_bipush (v := 11) g dX6_stands_13 (by decide) ?_
  refine v_iconst (v := 4) g dX6_stands_15 (by decide) ?_
  refine v_iload_n g dX6_stands_16 0 rfl ?_
  refine v_imul g dX6_stands_17 (v_eqi (y := nI (4 * r)) (nI_mulE rfl rfl) ?_)
  refine v_iadd g dX6_stands_18 (v_eqi (y := nI (11 + (4 * r))) (nI_addE rfl rfl) ?_)
  refine v_aload_n g dX6_stands_19 1 rfl ?_
  refine v_get g dX6_stands_20 fl_RX6_19 (rd_M R _ _) rfl ?_
  refine v_bipush (v := 8) g dX6_stands_23 (by decide) ?_
  refine v_iload_n g dX6_stands_25 0 rfl ?_
  refine v_iadd g dX6_stands_26 (v_eqi (y := nI (8 + r)) (nI_addE rfl rfl) ?_)
  refine v_iald g dX6_stands_27 (rd_MA3 R _ _) (vp_in_nI (by omega) (by decide)) (v_eqi (y := (nI (be (8 + r)))) (by first | (rw [nI_clamp (by omega)]; done) | (rw [nI_clamp (by omega)]; rfl)) ?_)
  refine v_iadd g dX6_stands_28 (v_eqi (y := nI ((11 + (4 * r)) + (be (8 + r)))) (nI_addE rfl rfl) ?_)
  refine v_iload_n g dX6_stands_29 2 rfl ?_
  refine v_iast g dX6_stands_30 (rd_MA3 R _ _) (vp_in_nI (by omega) (by decide)) ?_
  rw [nI_clamp (n := ((11 + (4 * r)) + (be (8 + r)))) (by omega)]
  refine v_meq (μ' := rem R (dS D p dr (va_up be ((11 + (4 * r)) + (be (8 + r))) c)) ρ) (st_GA R (dS D p dr be) (dS D p dr (va_up be ((11 + (4 * r)) + (be (8 + r))) c)) ρ 3 (by decide) be ((11 + (4 * r)) + (be (8 + r))) c rfl rfl rfl (fun j hj => by simp only [dS, va_up, if_neg hj])) ?_
  refine v_aload_n g dX6_stands_31 1 rfl ?_
  refine v_get g dX6_stands_32 fl_RX6_19 (rd_M R _ _) rfl ?_
  refine v_bipush (v := 8) g dX6_stands_35 (by decide) ?_
  refine v_iload_n g dX6_stands_37 0 rfl ?_
  refine v_iadd g dX6_stands_38 (v_eqi (y := nI (8 + r)) (nI_addE rfl rfl) ?_)
  refine v_dup2 g dX6_stands_39 rfl rfl ?_
  refine v_iald g dX6_stands_40 (rd_MA3 R _ _) (vp_in_nI (by omega) (by decide)) (v_eqi (y := (nI ((va_up be ((11 + (4 * r)) + (be (8 + r))) c) (8 + r)))) (by first | (rw [nI_clamp (by omega)]; done) | (rw [nI_clamp (by omega)]; rfl)) ?_)
  refine v_eqi (y := nI (be (8 + r))) (congrArg nI (va_up_ne _ _ (by omega))) ?_
  refine v_iconst (v := 1) g dX6_stands_41 (by decide) ?_
  refine v_iadd g dX6_stands_42 (v_eqi (y := nI ((be (8 + r)) + 1)) (nI_addE rfl rfl) ?_)
  refine v_iast g dX6_stands_43 (rd_MA3 R _ _) (vp_in_nI (by omega) (by decide)) ?_
  rw [nI_clamp (n := (8 + r)) (by omega)]
  refine v_meq (μ' := rem R (dS D p dr (va_up (va_up be ((11 + (4 * r)) + (be (8 + r))) c) (8 + r) ((be (8 + r)) + 1))) ρ) (st_GA R (dS D p dr (va_up be ((11 + (4 * r)) + (be (8 + r))) c)) (dS D p dr (va_up (va_up be ((11 + (4 * r)) + (be (8 + r))) c) (8 + r) ((be (8 + r)) + 1))) ρ 3 (by decide) (va_up be ((11 + (4 * r)) + (be (8 + r))) c) (8 + r) ((be (8 + r)) + 1) rfl rfl rfl (fun j hj => by simp only [dS, va_up, if_neg hj])) ?_
  exact v_vret g E dX6_stands_44 rfl ⟨rfl, rfl, rfl⟩
theorem q_isNext {a b w : Nat} {μ : Mu} (ha : a < 1000) (hb : b < 1000) (hw : w < 1000) (hw0 : 0 < w) : Ctr l G 0 0 0 0 mX6_isNext [.int (nI a), .int (nI b), .int (nI w)] n μ (some (.int (zB (nxtM a b w)))) n μ := by
  refine Ctr.of (by decide +kernel) rfl (fun X g E => ?_)
  have hby : byN a b < 1000 := by unfold byN; split <;> omega
  refine v_sub (ls' := [(0, .int (nI a)), (1, .int (nI b)), (2, .int (nI w))]) [0, 1, 2] rfl ?_
  refine v_iload_n g dX6_isNext_0 0 rfl ?_
  refine v_iload_n g dX6_isNext_1 1 rfl ?_
  refine v_icmp_le_d (tgt := 11) (u := (nI (b - a))) (v := (nI (a - b))) 14 g dX6_isNext_2 (by decide) (fun h2 K => ?_) (fun h2 K => ?_) ?_
  · skip
    refine v_iload_n g dX6_isNext_11 1 rfl ?_
    refine v_iload_n g dX6_isNext_12 0 rfl ?_
    refine v_isub g dX6_isNext_13 (v_eqi (y := nI (b - a)) (nI_subE rfl rfl (by have h2 := (nI_leI (a := a) (b := b) (by omega) (by omega)).mp h2; omega)) ?_)
    exact K
  · skip
    refine v_iload_n g dX6_isNext_5 0 rfl ?_
    refine v_iload_n g dX6_isNext_6 1 rfl ?_
    refine v_isub g dX6_isNext_7 (v_eqi (y := nI (a - b)) (nI_subE rfl rfl (by have h3 := nI_gtN (by omega) h2; omega)) ?_)
    refine v_goto (tgt := 14) g dX6_isNext_8 (by decide) ?_
    exact K
  refine v_eqi (y := nI (byN a b)) (by unfold byN; by_cases q : a ≤ b; (rw [if_pos (nI_le q (by omega)), if_pos q]); (rw [if_neg (nI_ge (by omega) (by omega)), if_neg q])) ?_
  refine v_istore_n (ls' := [(3, .int (nI (byN a b))), (0, .int (nI a)), (1, .int (nI b)), (2, .int (nI w))]) g dX6_isNext_14 rfl rfl ?_
  refine v_iload_n g dX6_isNext_15 0 rfl ?_
  refine v_iload_n g dX6_isNext_16 3 rfl ?_
  refine v_icmp_ne (tgt := 25) g dX6_isNext_17 (by decide) (fun h17 => ?_) (fun h17 => ?_)
  · skip
    refine v_iload_n g dX6_isNext_25 0 rfl ?_
    refine v_iconst (v := 1) g dX6_isNext_26 (by decide) ?_
    refine v_icmp_ne (tgt := 48) g dX6_isNext_27 (by decide) (fun h27 => ?_) (fun h27 => ?_)
    · skip
      refine v_iconst (v := 0) g dX6_isNext_48 (by decide) ?_
      exact v_zret g E dX6_isNext_49 rfl rfl ⟨by unfold nxtM nxtX; (repeat' split) <;> first | rfl | contradiction, rfl, rfl⟩
    · skip
      refine v_iload_n g dX6_isNext_30 3 rfl ?_
      refine v_iconst (v := 1) g dX6_isNext_31 (by decide) ?_
      refine v_icmp_eq (tgt := 44) g dX6_isNext_32 (by decide) (fun h32 => ?_) (fun h32 => ?_)
      · skip
        refine v_iconst (v := 1) g dX6_isNext_44 (by decide) ?_
        refine v_goto (tgt := 49) g dX6_isNext_45 (by decide) ?_
        exact v_zret g E dX6_isNext_49 rfl rfl ⟨by unfold nxtM nxtX; (repeat' split) <;> first | rfl | contradiction, rfl, rfl⟩
      · skip
        refine v_iload_n g dX6_isNext_35 1 rfl ?_
        refine v_iload_n g dX6_isNext_36 3 rfl ?_
        refine v_idiv g dX6_isNext_37 (nI_ne0 hw0 (by omega)) ?_
        refine v_eqi (y := nI (a / w)) (nI_div (by omega) (by omega)) ?_
        refine v_iload_n g dX6_isNext_38 2 rfl ?_
        refine v_iload_n g dX6_isNext_39 3 rfl ?_
        refine v_idiv g dX6_isNext_40 (nI_ne0 hw0 (by omega)) ?_
        refine v_eqi (y := nI (b / w)) (nI_div (by omega) (by omega)) ?_
        refine v_icmp_ne (tgt := 48) g dX6_isNext_41 (by decide) (fun h41 => ?_) (fun h41 => ?_)
        · skip
          refine v_iconst (v := 0) g dX6_isNext_48 (by decide) ?_
          exact v_zret g E dX6_isNext_49 rfl rfl ⟨by unfold nxtM nxtX; (repeat' split) <;> first | rfl | contradiction, rfl, rfl⟩
        · skip
          refine v_iconst (v := 1) g dX6_isNext_44 (by decide) ?_
          refine v_goto (tgt := 49) g dX6_isNext_45 (by decide) ?_
          exact v_zret g E dX6_isNext_49 rfl rfl ⟨by unfold nxtM nxtX; (repeat' split) <;> first | rfl | contradiction, rfl, rfl⟩
  · skip
    refine v_iload_n g dX6_isNext_20 3 rfl ?_
    refine v_iconst (v := 1) g dX6_isNext_21 (by decide) ?_
    refine v_icmp_gt (tgt := 44) g dX6_isNext_22 (by decide) (fun h22 => ?_) (fun h22 => ?_)
    · skip
      refine v_iconst (v := 1) g dX6_isNext_44 (by decide) ?_
      refine v_goto (tgt := 49) g dX6_isNext_45 (by decide) ?_
      exact v_zret g E dX6_isNext_49 rfl rfl ⟨by unfold nxtM nxtX; (repeat' split) <;> first | rfl | contradiction, rfl, rfl⟩
    · skip
      refine v_iload_n g dX6_isNext_25 0 rfl ?_
      refine v_iconst (v := 1) g dX6_isNext_26 (by decide) ?_
      refine v_icmp_ne (tgt := 48) g dX6_isNext_27 (by decide) (fun h27_2 => ?_) (fun h27_2 => ?_)
      · skip
        refine v_iconst (v := 0) g dX6_isNext_48 (by decide) ?_
        exact v_zret g E dX6_isNext_49 rfl rfl ⟨by unfold nxtM nxtX; (repeat' split) <;> first | rfl | contradiction, rfl, rfl⟩
      · skip
        refine v_iload_n g dX6_isNext_30 3 rfl ?_
        refine v_iconst (v := 1) g dX6_isNext_31 (by decide) ?_
        refine v_icmp_eq (tgt := 44) g dX6_isNext_32 (by decide) (fun h32_2 => ?_) (fun h32_2 => ?_)
        · skip
          refine v_iconst (v := 1) g dX6_isNext_44 (by decide) ?_
          refine v_goto (tgt := 49) g dX6_isNext_45 (by decide) ?_
          exact v_zret g E dX6_isNext_49 rfl rfl ⟨by unfold nxtM nxtX; (repeat' split) <;> first | rfl | contradiction, rfl, rfl⟩
        · skip
          refine v_iload_n g dX6_isNext_35 1 rfl ?_
          refine v_iload_n g dX6_isNext_36 3 rfl ?_
          refine v_idiv g dX6_isNext_37 (nI_ne0 hw0 (by omega)) ?_
          refine v_eqi (y := nI (a / w)) (nI_div (by omega) (by omega)) ?_
          refine v_iload_n g dX6_isNext_38 2 rfl ?_
          refine v_iload_n g dX6_isNext_39 3 rfl ?_
          refine v_idiv g dX6_isNext_40 (nI_ne0 hw0 (by omega)) ?_
          refine v_eqi (y := nI (b / w)) (nI_div (by omega) (by omega)) ?_
          refine v_icmp_ne (tgt := 48) g dX6_isNext_41 (by decide) (fun h41_2 => ?_) (fun h41_2 => ?_)
          · skip
            refine v_iconst (v := 0) g dX6_isNext_48 (by decide) ?_
            exact v_zret g E dX6_isNext_49 rfl rfl ⟨by unfold nxtM nxtX; (repeat' split) <;> first | rfl | contradiction, rfl, rfl⟩
          · skip
            refine v_iconst (v := 1) g dX6_isNext_44 (by decide) ?_
            refine v_goto (tgt := 49) g dX6_isNext_45 (by decide) ?_
            exact v_zret g E dX6_isNext_49 rfl rfl ⟨by unfold nxtM nxtX; (repeat' split) <;> first | rfl | contradiction, rfl, rfl⟩
end R12
