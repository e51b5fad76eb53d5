/-! THE REFERENCE: what comes -/
theorem cpN_bk2 {a s s1 : Nat → Nat} (ha : ∀ j, j < 59 → a j = s j) (hi : ∀ j, 59 ≤ j → s1 j = s j) : cpN s1 a 59 = s := by
  funext j
  unfold cpN
  by_cases h1 : j < 59
  · rw [if_pos h1, ha j h1]
  · rw [if_neg h1, hi j (by omega)]
theorem cpN_at (a s : Nat → Nat) : ∀ j, j < 59 → cpN a s 59 j = s j := fun j hj => by unfold cpN; rw [if_pos hj]
def behQ (t s a : Nat → Nat) (x r : Int32) : Int32 × (Nat → Nat) := if withinC x 0 60 = false then (-1, a) else if rowQ t r = false then (-1, a) else (nI (passN t x.toNatClampNeg s (11 + 4 * r.toNatClampNeg)), cpN a s 59)
def weaQ (t s a : Nat → Nat) (x p : Int32) : Int32 × (Nat → Nat) := if withinC x 0 60 = false then (-1, a) else if withinC p 0 3 = false then (-1, a) else (nI (passN t x.toNatClampNeg s (1 + p.toNatClampNeg)), cpN a s 59)
def comN (t : Nat → Nat) (x : Int32) (r : Nat) : Nat → Nat → (Nat → Nat) → Int32
  | 0, _, _ => -4
  | q + 1, k, s => if nI (s (11 + 4 * r)) = x then nI k else comN t x r q (k + 1) (passM t s (-1))
def comQ (t s a : Nat → Nat) (r x : Int32) : Int32 × (Nat → Nat) := if rowQ t r = false then (-1, a) else if cellQ t x = false then (-1, a) else (comN t x r.toNatClampNeg 61 0 s, cpN a s 59)
def sdIn (t s : Nat → Nat) (r q k : Nat) : Nat → Nat → Bool → Bool
  | 0, _, b => b
  | u + 1, d, b => sdIn t s r q k u (d + 1) (if b = true then true else if besM t (s (11 + 4 * r + k)) (nI d) = -4 then false else if treeM t s (besM t (s (11 + 4 * r + k)) (nI d)).toNatClampNeg = nI q then true else false)
def sdOut (t s : Nat → Nat) (r q : Nat) : Nat → Nat → Bool → Bool
  | 0, _, b => b
  | u + 1, k, b => sdOut t s r q u (k + 1) (sdIn t s r q k 4 0 b)
def sideM (t s : Nat → Nat) (r q : Nat) : Bool := sdOut t s r q (s (8 + r)) 0 false
def metN (t : Nat → Nat) (r q : Nat) : Nat → Nat → (Nat → Nat) → Int32
  | 0, _, _ => -4
  | u + 1, k, s => if sideM t s r q = true then nI k else metN t r q u (k + 1) (passM t s (-1))
def metQ (t s a : Nat → Nat) (r q : Int32) : Int32 × (Nat → Nat) := if rowQ t r = false then (-1, a) else if rowQ t q = false then (-1, a) else if r = q then (-1, a) else (metN t r.toNatClampNeg q.toNatClampNeg 61 0 s, cpN a s 59)
def agIn (s a : Nat → Nat) (r : Nat) : Nat → Nat → Bool → Bool
  | 0, _, b => b
  | u + 1, k, b => agIn s a r u (k + 1) (if b = true then (if nI (s (11 + 4 * r + k)) = nI (a (11 + 4 * r + k)) then true else false) else false)
def agEnd (s a : Nat → Nat) (b sl : Bool) : Bool := if b = true then (if sl = true then (if (nI (s 0) - nI (a 0)) % 2 = 0 then true else false) else true) else false
def agOut (t s a : Nat → Nat) : Nat → Nat → Bool → Bool → Bool
  | 0, _, b, sl => agEnd s a b sl
  | u + 1, r, b, sl => agOut t s a u (r + 1) (agIn s a r (s (8 + r)) 0 (if b = true then (if nI (s (5 + r)) = nI (a (5 + r)) then true else false) else false)) (if sl = true then true else if nI (t (75 + r)) = 2 then true else false)
def agaM (t s a : Nat → Nat) : Bool := agOut t s a (t 2) 0 true false
def agN (t a : Nat → Nat) : Nat → Nat → (Nat → Nat) → Int32
  | 0, _, _ => -4
  | u + 1, k, s => if agaM t s a = true then nI k else agN t a u (k + 1) (passM t s (-1))
section R9
variable {l : Launch} {G : GG} {n : Nat} {R : Nat} {D : MS} {t s a : Nat → Nat} {ρ : Mu}
theorem q_behindOf (hs : OkS t s) {m : Nat} (hm : m < 2 ^ 31) {pl : Nat} (hp : pl < 59) : Ctr l G 4 99 0 0 mX6_behindOf [.ref R, .int (nI m), .int (nI pl)] n (rem R (qS D t s a) ρ) (some (.int (nI (passN t m s pl)))) n (rem R (qS D t s (cpN a s 59)) ρ) := by
  refine Ctr.of (by decide +kernel) rfl (fun X g E => ?_)
  have loop : ∀ (q k : Nat) (s1 : Nat → Nat), k + q = m → OkS t s1 → (∀ j, 23 ≤ j → s1 j = s j) → passN t m s = passN t q s1 → V X 0 0 n (rem R (qS D t s1 (cpN a s 59)) ρ) 6 [(3, .int (nI k)), (0, .ref R), (1, .int (nI m)), (2, .int (nI pl))] [] := by
    intro q
    induction q with
    | zero =>
      intro k s1 hq hs hi he
      refine v_iload_n g dX6_behindOf_6 0 rfl ?_
      refine v_iload_n g dX6_behindOf_7 2 rfl ?_
      refine v_icmp_ge (tgt := 22) g dX6_behindOf_8 (by decide) (fun h8 => ?_) (fun h8 => absurd (nI_le (a := m) (b := k) (by omega) (by omega)) h8)
      refine v_aload_n g dX6_behindOf_22 1 rfl ?_
      refine v_get g dX6_behindOf_23 fl_RX6_22 (rd_M R _ _) rfl ?_
      refine v_iload_n g dX6_behindOf_26 3 rfl ?_
      refine v_iald g dX6_behindOf_27 (rd_MA4 R _ _) (vp_in_nI (by omega) (by decide)) (v_eqi (y := (nI (s1 pl))) (by first | (rw [nI_clamp (by omega)]; done) | (rw [nI_clamp (by omega)]; rfl)) ?_)
      refine v_istore_n (ls' := [(3, .int (nI (s1 pl))), (0, .ref R), (1, .int (nI m)), (2, .int (nI pl))]) g dX6_behindOf_28 rfl rfl ?_
      refine v_aload_n g dX6_behindOf_29 1 rfl ?_
      refine v_callV (As := []) (r := none) g dX6_behindOf_30 (q_lets (D := D) (t := t) (s := s1) (a := (cpN a s 59))) cl_X6_lets ml_RX6_153 im_X6_lets (rd_M R _ _) rfl rfl ⟨rfl, rfl, rfl⟩ ?_
      refine v_meq (μ' := rem R (qS D t s (cpN a s 59)) ρ) (by rw [cpN_back a s s1 (fun j hj => hi j (by omega))]) ?_
      refine v_iload_n g dX6_behindOf_33 0 rfl ?_
      exact v_iret g E dX6_behindOf_34 rfl ⟨by rw [he]; rfl, rfl, rfl⟩
    | succ q ih =>
      intro k s1 hq hs hi he
      refine v_iload_n g dX6_behindOf_6 0 rfl ?_
      refine v_iload_n g dX6_behindOf_7 2 rfl ?_
      refine v_icmp_ge (tgt := 22) g dX6_behindOf_8 (by decide) (fun h8 => absurd h8 (nI_ge (a := k) (b := m) (by omega) (by omega))) (fun h8 => ?_)
      refine v_aload_n g dX6_behindOf_11 1 rfl ?_
      refine v_iconst (v := (-1)) g dX6_behindOf_12 (by decide) ?_
      refine v_callV (As := [.int (-1)]) (r := none) g dX6_behindOf_13 (q_passes (D := D) (t := t) (s := s1) (a := (cpN a s 59)) hs (-1)) cl_X6_passes ml_RX6_138 im_X6_passes (rd_M R _ _) rfl rfl ⟨rfl, rfl, rfl⟩ ?_
      refine v_iinc (v := (nI (k + 1))) (ls' := [(3, .int (nI (k + 1))), (0, .ref R), (1, .int (nI m)), (2, .int (nI pl))]) g dX6_behindOf_16 0 rfl (nI_addE rfl rfl) rfl rfl ?_
      refine v_goto (tgt := 6) g dX6_behindOf_19 (by decide) ?_
      refine v_sub (ls' := [(3, .int (nI (k + 1))), (0, .ref R), (1, .int (nI m)), (2, .int (nI pl))]) [0, 1, 2, 3] rfl ?_
      exact ih (k + 1) _ (by omega) (passM_ok hs (-1)) (fun j hj => (passM_hi hs (-1) j hj).trans (hi j hj)) (by rw [he, passN])
  refine v_sub (ls' := [(0, .ref R), (1, .int (nI m)), (2, .int (nI pl))]) [0, 1, 2] rfl ?_
  refine v_aload_n g dX6_behindOf_0 0 rfl ?_
  refine v_callV (As := []) (r := none) g dX6_behindOf_1 (q_holds (D := D) (t := t) (s := s) (a := a)) cl_X6_holds ml_RX6_150 im_X6_holds (rd_M R _ _) rfl rfl ⟨rfl, rfl, rfl⟩ ?_
  refine v_iconst (v := 0) g dX6_behindOf_4 (by decide) ?_
  refine v_istore_n (ls' := [(3, .int 0), (0, .ref R), (1, .int (nI m)), (2, .int (nI pl))]) g dX6_behindOf_5 rfl rfl ?_
  refine v_sub (ls' := [(3, .int 0), (0, .ref R), (1, .int (nI m)), (2, .int (nI pl))]) [0, 1, 2, 3] rfl ?_
  exact loop m 0 s (by omega) hs (fun j hj => rfl) rfl
theorem q_behind (hs : OkS t s) (x r : Int32) : Ctr l G 5 122 0 0 mX6_behind [.ref R, .int x, .int r] n (rem R (qS D t s a) ρ) (some (.int (behQ t s a x r).1)) n (rem R (qS D t s (behQ t s a x r).2) ρ) := by
  refine Ctr.of (by decide +kernel) rfl (fun X g E => ?_)
  have o1 := hs.1
  refine v_sub (ls' := [(0, .ref R), (1, .int x), (2, .int r)]) [0, 1, 2] rfl ?_
  refine v_iload_n g dX6_behind_0 1 rfl ?_
  refine v_iconst (v := 0) g dX6_behind_1 (by decide) ?_
  refine v_bipush (v := 60) g dX6_behind_2 (by decide) ?_
  refine v_callS (As := [.int x, .int 0, .int 60]) (r := some (.int (zB (withinC x 0 60)))) g dX6_behind_4 (k_X6_in x 0 60) cl_X6_in ml_RX6_54 sm_X6_in rfl ⟨rfl, rfl, rfl⟩ ?_
  refine v_if_eq (tgt := 32) g dX6_behind_7 (by decide) (fun h7 => ?_) (fun h7 => ?_)
  · skip
    have h7 := zB_f0 h7
    refine v_iconst (v := (-1)) g dX6_behind_32 (by decide) ?_
    exact v_iret g E dX6_behind_33 rfl ⟨by first | (simp [behQ, *]; done) | (simp [behQ, *, nI_clamp (show m < 2 ^ 31 by omega), nI_clamp (show c < 2 ^ 31 by omega)]; done), rfl, by first | (simp [behQ, *]; done) | (simp [behQ, *, nI_clamp (show m < 2 ^ 31 by omega), nI_clamp (show c < 2 ^ 31 by omega)]; done)⟩
  · skip
    have h7 := zB_t0 h7
    refine v_aload_n g dX6_behind_10 0 rfl ?_
    refine v_iload_n g dX6_behind_11 2 rfl ?_
    refine v_callV (As := [.int r]) (r := some (.int (zB (rowQ t r)))) g dX6_behind_12 (q_isRow (D := D) (t := t) r) cl_X6_isRow ml_RX6_126 im_X6_isRow (rd_M R _ _) rfl rfl ⟨rfl, rfl, rfl⟩ ?_
    refine v_if_eq (tgt := 32) g dX6_behind_15 (by decide) (fun h15 => ?_) (fun h15 => ?_)
    · skip
      have h15 := zB_f0 h15
      refine v_iconst (v := (-1)) g dX6_behind_32 (by decide) ?_
      exact v_iret g E dX6_behind_33 rfl ⟨by first | (simp [behQ, *]; done) | (simp [behQ, *, nI_clamp (show m < 2 ^ 31 by omega), nI_clamp (show c < 2 ^ 31 by omega)]; done), rfl, by first | (simp [behQ, *]; done) | (simp [behQ, *, nI_clamp (show m < 2 ^ 31 by omega), nI_clamp (show c < 2 ^ 31 by omega)]; done)⟩
    · skip
      have h15 := zB_t0 h15
      obtain ⟨m, -, hm, em⟩ := within_nI (a := 0) (b := 60) rfl rfl h7
      subst em
      obtain ⟨c, hc, ec⟩ := rowQ_ok hs h15
      subst ec
      refine v_aload_n g dX6_behind_18 0 rfl ?_
      refine v_iload_n g dX6_behind_19 1 rfl ?_
      refine v_bipush (v := 11) g dX6_behind_20 (by decide) ?_
      refine v_iconst (v := 4) g dX6_behind_22 (by decide) ?_
      refine v_iload_n g dX6_behind_23 2 rfl ?_
      refine v_imul g dX6_behind_24 (v_eqi (y := nI (4 * c)) (nI_mulE rfl rfl) ?_)
      refine v_iadd g dX6_behind_25 (v_eqi (y := nI (11 + (4 * c))) (nI_addE rfl rfl) ?_)
      refine v_callV (As := [.int (nI m), .int (nI (11 + (4 * c)))]) (r := some (.int (nI (passN t m s (11 + (4 * c)))))) g dX6_behind_26 (q_behindOf (D := D) (t := t) (s := s) (a := a) hs (m := m) (by omega) (pl := (11 + (4 * c))) (by omega)) cl_X6_behindOf ml_RX6_156 im_X6_behindOf (rd_M R _ _) rfl rfl ⟨rfl, rfl, rfl⟩ ?_
      refine v_goto (tgt := 33) g dX6_behind_29 (by decide) ?_
      exact v_iret g E dX6_behind_33 rfl ⟨by first | (simp [behQ, *]; done) | (simp [behQ, *, nI_clamp (show m < 2 ^ 31 by omega), nI_clamp (show c < 2 ^ 31 by omega)]; done), rfl, by first | (simp [behQ, *]; done) | (simp [behQ, *, nI_clamp (show m < 2 ^ 31 by omega), nI_clamp (show c < 2 ^ 31 by omega)]; done)⟩
theorem q_wealth (hs : OkS t s) (x p : Int32) : Ctr l G 5 122 0 0 mX6_wealth [.ref R, .int x, .int p] n (rem R (qS D t s a) ρ) (some (.int (weaQ t s a x p).1)) n (rem R (qS D t s (weaQ t s a x p).2) ρ) := by
  refine Ctr.of (by decide +kernel) rfl (fun X g E => ?_)
  have o1 := hs.1
  refine v_sub (ls' := [(0, .ref R), (1, .int x), (2, .int p)]) [0, 1, 2] rfl ?_
  refine v_iload_n g dX6_wealth_0 1 rfl ?_
  refine v_iconst (v := 0) g dX6_wealth_1 (by decide) ?_
  refine v_bipush (v := 60) g dX6_wealth_2 (by decide) ?_
  refine v_callS (As := [.int x, .int 0, .int 60]) (r := some (.int (zB (withinC x 0 60)))) g dX6_wealth_4 (k_X6_in x 0 60) cl_X6_in ml_RX6_54 sm_X6_in rfl ⟨rfl, rfl, rfl⟩ ?_
  refine v_if_eq (tgt := 30) g dX6_wealth_7 (by decide) (fun h7 => ?_) (fun h7 => ?_)
  · skip
    have h7 := zB_f0 h7
    refine v_iconst (v := (-1)) g dX6_wealth_30 (by decide) ?_
    exact v_iret g E dX6_wealth_31 rfl ⟨by first | (simp [weaQ, *]; done) | (simp [weaQ, *, nI_clamp (show m < 2 ^ 31 by omega), nI_clamp (show c < 2 ^ 31 by omega)]; done), rfl, by first | (simp [weaQ, *]; done) | (simp [weaQ, *, nI_clamp (show m < 2 ^ 31 by omega), nI_clamp (show c < 2 ^ 31 by omega)]; done)⟩
  · skip
    have h7 := zB_t0 h7
    refine v_iload_n g dX6_wealth_10 2 rfl ?_
    refine v_iconst (v := 0) g dX6_wealth_11 (by decide) ?_
    refine v_iconst (v := 3) g dX6_wealth_12 (by decide) ?_
    refine v_callS (As := [.int p, .int 0, .int 3]) (r := some (.int (zB (withinC p 0 3)))) g dX6_wealth_13 (k_X6_in p 0 3) cl_X6_in ml_RX6_54 sm_X6_in rfl ⟨rfl, rfl, rfl⟩ ?_
    refine v_if_eq (tgt := 30) g dX6_wealth_16 (by decide) (fun h16 => ?_) (fun h16 => ?_)
    · skip
      have h16 := zB_f0 h16
      refine v_iconst (v := (-1)) g dX6_wealth_30 (by decide) ?_
      exact v_iret g E dX6_wealth_31 rfl ⟨by first | (simp [weaQ, *]; done) | (simp [weaQ, *, nI_clamp (show m < 2 ^ 31 by omega), nI_clamp (show c < 2 ^ 31 by omega)]; done), rfl, by first | (simp [weaQ, *]; done) | (simp [weaQ, *, nI_clamp (show m < 2 ^ 31 by omega), nI_clamp (show c < 2 ^ 31 by omega)]; done)⟩
    · skip
      have h16 := zB_t0 h16
      obtain ⟨m, -, hm, em⟩ := within_nI (a := 0) (b := 60) rfl rfl h7
      subst em
      obtain ⟨c, -, hc, ec⟩ := within_nI (a := 0) (b := 3) rfl rfl h16
      subst ec
      refine v_aload_n g dX6_wealth_19 0 rfl ?_
      refine v_iload_n g dX6_wealth_20 1 rfl ?_
      refine v_iconst (v := 1) g dX6_wealth_21 (by decide) ?_
      refine v_iload_n g dX6_wealth_22 2 rfl ?_
      refine v_iadd g dX6_wealth_23 (v_eqi (y := nI (1 + c)) (nI_addE rfl rfl) ?_)
      refine v_callV (As := [.int (nI m), .int (nI (1 + c))]) (r := some (.int (nI (passN t m s (1 + c))))) g dX6_wealth_24 (q_behindOf (D := D) (t := t) (s := s) (a := a) hs (m := m) (by omega) (pl := (1 + c)) (by omega)) cl_X6_behindOf ml_RX6_156 im_X6_behindOf (rd_M R _ _) rfl rfl ⟨rfl, rfl, rfl⟩ ?_
      refine v_goto (tgt := 31) g dX6_wealth_27 (by decide) ?_
      exact v_iret g E dX6_wealth_31 rfl ⟨by first | (simp [weaQ, *]; done) | (simp [weaQ, *, nI_clamp (show m < 2 ^ 31 by omega), nI_clamp (show c < 2 ^ 31 by omega)]; done), rfl, by first | (simp [weaQ, *]; done) | (simp [weaQ, *, nI_clamp (show m < 2 ^ 31 by omega), nI_clamp (show c < 2 ^ 31 by omega)]; done)⟩
theorem q_comes (hs : OkS t s) (r x : Int32) : Ctr l G 4 99 0 0 mX6_comes [.ref R, .int r, .int x] n (rem R (qS D t s a) ρ) (some (.int (comQ t s a r x).1)) n (rem R (qS D t s (comQ t s a r x).2) ρ) := by
  refine Ctr.of (by decide +kernel) rfl (fun X g E => ?_)
  have o1 := hs.1
  have loop : ∀ (c : Nat), c < 3 → comQ t s a r x = (comN t x c 61 0 s, (cpN a s 59)) → ∀ (q k : Nat) (s1 : Nat → Nat), k + q = 61 → OkS t s1 → (∀ j, 23 ≤ j → s1 j = s j) → comN t x c 61 0 s = comN t x c q k s1 → V X 0 0 n (rem R (qS D t s1 (cpN a s 59)) ρ) 24 [(3, .int (nI k)), (0, .ref R), (1, .int (nI c)), (2, .int x)] [] := by
    intro c hc e0 q
    induction q with
    | zero =>
      intro k s1 hq hs hi he
      refine v_iload_n g dX6_comes_24 0 rfl ?_
      refine v_bipush (v := 60) g dX6_comes_25 (by decide) ?_
      refine v_icmp_gt (tgt := 56) g dX6_comes_27 (by decide) (fun h27 => ?_) (fun h27 => absurd (nI_lt (a := 60) (b := k) (by omega) (by omega)) h27)
      refine v_aload_n g dX6_comes_56 1 rfl ?_
      refine v_callV (As := []) (r := none) g dX6_comes_57 (q_lets (D := D) (t := t) (s := s1) (a := (cpN a s 59))) cl_X6_lets ml_RX6_153 im_X6_lets (rd_M R _ _) rfl rfl ⟨rfl, rfl, rfl⟩ ?_
      refine v_meq (μ' := rem R (qS D t s (cpN a s 59)) ρ) (by rw [cpN_back a s s1 (fun j hj => hi j (by omega))]) ?_
      refine v_iload_n g dX6_comes_60 0 rfl ?_
      refine v_bipush (v := 60) g dX6_comes_61 (by decide) ?_
      refine v_icmp_le (tgt := 71) g dX6_comes_63 (by decide) (fun h63 => absurd h63 (nI_ge (a := 60) (b := k) (by omega) (by omega))) (fun h63 => ?_)
      refine v_bipush (v := (-4)) g dX6_comes_66 (by decide) ?_
      refine v_goto (tgt := 72) g dX6_comes_68 (by decide) ?_
      exact v_iret g E dX6_comes_72 rfl ⟨by rw [e0, he]; rfl, rfl, by rw [e0]⟩
    | succ q ih =>
      intro k s1 hq hs hi he
      refine v_iload_n g dX6_comes_24 0 rfl ?_
      refine v_bipush (v := 60) g dX6_comes_25 (by decide) ?_
      refine v_icmp_gt (tgt := 56) g dX6_comes_27 (by decide) (fun h27 => absurd h27 (nI_nlt (a := 60) (b := k) (by omega) (by omega))) (fun h27 => ?_)
      refine v_aload_n g dX6_comes_30 1 rfl ?_
      refine v_get g dX6_comes_31 fl_RX6_22 (rd_M R _ _) rfl ?_
      refine v_bipush (v := 11) g dX6_comes_34 (by decide) ?_
      refine v_iconst (v := 4) g dX6_comes_36 (by decide) ?_
      refine v_iload_n g dX6_comes_37 2 rfl ?_
      refine v_imul g dX6_comes_38 (v_eqi (y := nI (4 * c)) (nI_mulE rfl rfl) ?_)
      refine v_iadd g dX6_comes_39 (v_eqi (y := nI (11 + (4 * c))) (nI_addE rfl rfl) ?_)
      refine v_iald g dX6_comes_40 (rd_MA4 R _ _) (vp_in_nI (by omega) (by decide)) (v_eqi (y := (nI (s1 (11 + (4 * c))))) (by first | (rw [nI_clamp (by omega)]; done) | (rw [nI_clamp (by omega)]; rfl)) ?_)
      refine v_iload_n g dX6_comes_41 3 rfl ?_
      refine v_icmp_eq (tgt := 56) g dX6_comes_42 (by decide) (fun h42 => ?_) (fun h42 => ?_)
      · skip
        refine v_aload_n g dX6_comes_56 1 rfl ?_
        refine v_callV (As := []) (r := none) g dX6_comes_57 (q_lets (D := D) (t := t) (s := s1) (a := (cpN a s 59))) cl_X6_lets ml_RX6_153 im_X6_lets (rd_M R _ _) rfl rfl ⟨rfl, rfl, rfl⟩ ?_
        refine v_meq (μ' := rem R (qS D t s (cpN a s 59)) ρ) (by rw [cpN_back a s s1 (fun j hj => hi j (by omega))]) ?_
        refine v_iload_n g dX6_comes_60 0 rfl ?_
        refine v_bipush (v := 60) g dX6_comes_61 (by decide) ?_
        refine v_icmp_le (tgt := 71) g dX6_comes_63 (by decide) (fun h63 => ?_) (fun h63 => absurd (nI_le (a := k) (b := 60) (by omega) (by decide)) h63)
        refine v_iload_n g dX6_comes_71 0 rfl ?_
        exact v_iret g E dX6_comes_72 rfl ⟨by rw [e0, he, comN, if_pos h42], rfl, by rw [e0]⟩
      · skip
        refine v_aload_n g dX6_comes_45 1 rfl ?_
        refine v_iconst (v := (-1)) g dX6_comes_46 (by decide) ?_
        refine v_callV (As := [.int (-1)]) (r := none) g dX6_comes_47 (q_passes (D := D) (t := t) (s := s1) (a := (cpN a s 59)) hs (-1)) cl_X6_passes ml_RX6_138 im_X6_passes (rd_M R _ _) rfl rfl ⟨rfl, rfl, rfl⟩ ?_
        refine v_iinc (v := (nI (k + 1))) (ls' := [(3, .int (nI (k + 1))), (0, .ref R), (1, .int (nI c)), (2, .int x)]) g dX6_comes_50 0 rfl (nI_addE rfl rfl) rfl rfl ?_
        refine v_goto (tgt := 24) g dX6_comes_53 (by decide) ?_
        refine v_sub (ls' := [(3, .int (nI (k + 1))), (0, .ref R), (1, .int (nI c)), (2, .int x)]) [0, 1, 2, 3] rfl ?_
        exact ih (k + 1) _ (by omega) (passM_ok hs (-1)) (fun j hj => (passM_hi hs (-1) j hj).trans (hi j hj)) (by rw [he, comN, if_neg h42])
  refine v_sub (ls' := [(0, .ref R), (1, .int r), (2, .int x)]) [0, 1, 2] rfl ?_
  refine v_aload_n g dX6_comes_0 0 rfl ?_
  refine v_iload_n g dX6_comes_1 1 rfl ?_
  refine v_callV (As := [.int r]) (r := some (.int (zB (rowQ t r)))) g dX6_comes_2 (q_isRow (D := D) (t := t) r) cl_X6_isRow ml_RX6_126 im_X6_isRow (rd_M R _ _) rfl rfl ⟨rfl, rfl, rfl⟩ ?_
  refine v_if_eq (tgt := 16) g dX6_comes_5 (by decide) (fun h5 => ?_) (fun h5 => ?_)
  · skip
    have h5 := zB_f0 h5
    refine v_iconst (v := (-1)) g dX6_comes_16 (by decide) ?_
    exact v_iret g E dX6_comes_17 rfl ⟨by simp [comQ, *], rfl, by simp [comQ, *]⟩
  · skip
    have h5 := zB_t0 h5
    refine v_aload_n g dX6_comes_8 0 rfl ?_
    refine v_iload_n g dX6_comes_9 2 rfl ?_
    refine v_callV (As := [.int x]) (r := some (.int (zB (cellQ t x)))) g dX6_comes_10 (q_isCell (D := D) (t := t) x) cl_X6_isCell ml_RX6_110 im_X6_isCell (rd_M R _ _) rfl rfl ⟨rfl, rfl, rfl⟩ ?_
    refine v_if_ne (tgt := 18) g dX6_comes_13 (by decide) (fun h13 => ?_) (fun h13 => ?_)
    · skip
      have h13 := zB_t0 h13
      obtain ⟨c, hc, ec⟩ := rowQ_ok hs h5
      subst ec
      refine v_aload_n g dX6_comes_18 0 rfl ?_
      refine v_callV (As := []) (r := none) g dX6_comes_19 (q_holds (D := D) (t := t) (s := s) (a := a)) cl_X6_holds ml_RX6_150 im_X6_holds (rd_M R _ _) rfl rfl ⟨rfl, rfl, rfl⟩ ?_
      refine v_iconst (v := 0) g dX6_comes_22 (by decide) ?_
      refine v_istore_n (ls' := [(3, .int 0), (0, .ref R), (1, .int (nI c)), (2, .int x)]) g dX6_comes_23 rfl rfl ?_
      refine v_sub (ls' := [(3, .int 0), (0, .ref R), (1, .int (nI c)), (2, .int x)]) [0, 1, 2, 3] rfl ?_
      exact loop c (by omega) (by unfold comQ; rw [if_neg (by rw [h5]; decide), if_neg (by rw [h13]; decide), nI_clamp (by omega)]) 61 0 s rfl hs (fun j hj => rfl) rfl
    · skip
      have h13 := zB_f0 h13
      refine v_iconst (v := (-1)) g dX6_comes_16 (by decide) ?_
      exact v_iret g E dX6_comes_17 rfl ⟨by simp [comQ, *], rfl, by simp [comQ, *]⟩
theorem q_areBeside (hs : OkS t s) {r : Nat} (hr : r < t 2) {q : Nat} : Ctr l G 1 24 0 0 mX6_areBeside [.ref R, .int (nI r), .int (nI q)] n (rem R (qS D t s a) ρ) (some (.int (zB (sideM t s r q)))) n (rem R (qS D t s a) ρ) := by
  obtain ⟨o1, o2, o3, o4, o5, o6, o7, o8, o9, o10, o11⟩ := id hs
  refine Ctr.of (by decide +kernel) rfl (fun X g E => ?_)
  have o5r := o5 r (by omega)
  have loop : ∀ (u k : Nat) (b : Bool), k + u = s (8 + r) → sideM t s r q = sdOut t s r q u k b → V X 0 0 n (rem R (qS D t s a) ρ) 5 [(4, .int (nI k)), (3, .int (zB b)), (0, .ref R), (1, .int (nI r)), (2, .int (nI q))] [] := by
    intro u
    induction u with
    | zero =>
      intro k b hu he
      refine v_iload g dX6_areBeside_5 0 rfl ?_
      refine v_aload_n g dX6_areBeside_7 2 rfl ?_
      refine v_get g dX6_areBeside_8 fl_RX6_22 (rd_M R _ _) rfl ?_
      refine v_bipush (v := 8) g dX6_areBeside_11 (by decide) ?_
      refine v_iload_n g dX6_areBeside_13 3 rfl ?_
      refine v_iadd g dX6_areBeside_14 (v_eqi (y := nI (8 + r)) (nI_addE rfl rfl) ?_)
      refine v_iald g dX6_areBeside_15 (rd_MA4 R _ _) (vp_in_nI (by omega) (by decide)) (v_eqi (y := (nI (s (8 + r)))) (by first | (rw [nI_clamp (by omega)]; done) | (rw [nI_clamp (by omega)]; rfl)) ?_)
      refine v_icmp_ge (tgt := 89) g dX6_areBeside_16 (by decide) (fun h16 => ?_) (fun h16 => absurd (nI_le (a := s (8 + r)) (b := k) (by omega) (by omega)) h16)
      refine v_iload_n g dX6_areBeside_89 1 rfl ?_
      exact v_zret g E dX6_areBeside_90 rfl (zB_nar _) ⟨by rw [he]; rfl, rfl, rfl⟩
    | succ u ih =>
      intro k b hu he
      have b10 : s (11 + 4 * r + k) < t 0 := o10 r hr k (by omega)
      have inner : ∀ (v d : Nat) (b : Bool), d + v = 4 → sideM t s r q = sdOut t s r q u (k + 1) (sdIn t s r q k v d b) → V X 0 0 n (rem R (qS D t s a) ρ) 22 [(5, .int (nI d)), (4, .int (nI k)), (3, .int (zB b)), (0, .ref R), (1, .int (nI r)), (2, .int (nI q))] [] := by
        intro v
        induction v with
        | zero =>
          intro d b hv he
          refine v_iload g dX6_areBeside_22 0 rfl ?_
          refine v_iconst (v := 4) g dX6_areBeside_24 (by decide) ?_
          refine v_icmp_ge (tgt := 83) g dX6_areBeside_25 (by decide) (fun h25 => ?_) (fun h25 => absurd (nI_le (a := 4) (b := d) (by omega) (by omega)) h25)
          refine v_iinc (v := (nI (k + 1))) (ls' := [(4, .int (nI (k + 1))), (5, .int (nI d)), (3, .int (zB b)), (0, .ref R), (1, .int (nI r)), (2, .int (nI q))]) g dX6_areBeside_83 1 rfl (nI_addE rfl rfl) rfl rfl ?_
          refine v_goto (tgt := 5) g dX6_areBeside_86 (by decide) ?_
          refine v_sub (ls' := [(4, .int (nI (k + 1))), (3, .int (zB b)), (0, .ref R), (1, .int (nI r)), (2, .int (nI q))]) [0, 2, 3, 4, 5] rfl ?_
          exact ih (k + 1) b (by omega) (by rw [he, sdIn])
        | succ v ihv =>
          intro d b hv he
          refine v_iload g dX6_areBeside_22 0 rfl ?_
          refine v_iconst (v := 4) g dX6_areBeside_24 (by decide) ?_
          refine v_icmp_ge (tgt := 83) g dX6_areBeside_25 (by decide) (fun h25 => absurd h25 (nI_ge (a := d) (b := 4) (by omega) (by decide))) (fun h25 => ?_)
          refine v_aload_n g dX6_areBeside_28 3 rfl ?_
          refine v_aload_n g dX6_areBeside_29 3 rfl ?_
          refine v_get g dX6_areBeside_30 fl_RX6_22 (rd_M R _ _) rfl ?_
          refine v_bipush (v := 11) g dX6_areBeside_33 (by decide) ?_
          refine v_iconst (v := 4) g dX6_areBeside_35 (by decide) ?_
          refine v_iload_n g dX6_areBeside_36 4 rfl ?_
          refine v_imul g dX6_areBeside_37 (v_eqi (y := nI (4 * r)) (nI_mulE rfl rfl) ?_)
          refine v_iadd g dX6_areBeside_38 (v_eqi (y := nI (11 + (4 * r))) (nI_addE rfl rfl) ?_)
          refine v_iload g dX6_areBeside_39 1 rfl ?_
          refine v_iadd g dX6_areBeside_41 (v_eqi (y := nI ((11 + (4 * r)) + k)) (nI_addE rfl rfl) ?_)
          refine v_iald g dX6_areBeside_42 (rd_MA4 R _ _) (vp_in_nI (by omega) (by decide)) (v_eqi (y := (nI (s ((11 + (4 * r)) + k)))) (by first | (rw [nI_clamp (by omega)]; done) | (rw [nI_clamp (by omega)]; rfl)) ?_)
          refine v_iload g dX6_areBeside_43 0 rfl ?_
          refine v_callV (As := [.int (nI (s ((11 + (4 * r)) + k))), .int (nI d)]) (r := some (.int (besM t (s ((11 + (4 * r)) + k)) (nI d)))) g dX6_areBeside_45 (k_X6_beside (D := (qS D t s a)) hs (c := (s ((11 + (4 * r)) + k))) (show (s ((11 + (4 * r)) + k)) < 36 by omega) (nI d)) cl_X6_beside ml_RX6_119 im_X6_beside (rd_M R _ _) rfl rfl ⟨rfl, rfl, rfl⟩ ?_
          refine v_istore (ls' := [(6, .int (besM t (s ((11 + (4 * r)) + k)) (nI d))), (5, .int (nI d)), (4, .int (nI k)), (3, .int (zB b)), (0, .ref R), (1, .int (nI r)), (2, .int (nI q))]) g dX6_areBeside_48 rfl rfl ?_
          refine v_iload_n g dX6_areBeside_50 3 rfl ?_
          refine v_if_ne (tgt := 71) g dX6_areBeside_51 (by decide) (fun h51 => ?_) (fun h51 => ?_)
          · skip
            have h51 := zB_t0 h51
            refine v_iconst (v := 1) g dX6_areBeside_71 (by decide) ?_
            refine v_goto (tgt := 76) g dX6_areBeside_72 (by decide) ?_
            refine v_istore_n (ls' := [(3, .int 1), (6, .int (besM t (s ((11 + (4 * r)) + k)) (nI d))), (5, .int (nI d)), (4, .int (nI k)), (0, .ref R), (1, .int (nI r)), (2, .int (nI q))]) g dX6_areBeside_76 rfl rfl ?_
            refine v_iinc (v := (nI (d + 1))) (ls' := [(5, .int (nI (d + 1))), (3, .int 1), (6, .int (besM t (s ((11 + (4 * r)) + k)) (nI d))), (4, .int (nI k)), (0, .ref R), (1, .int (nI r)), (2, .int (nI q))]) g dX6_areBeside_77 2 rfl (nI_addE rfl rfl) rfl rfl ?_
            refine v_goto (tgt := 22) g dX6_areBeside_80 (by decide) ?_
            refine v_sub (ls' := [(5, .int (nI (d + 1))), (4, .int (nI k)), (3, .int 1), (0, .ref R), (1, .int (nI r)), (2, .int (nI q))]) [0, 3, 1, 4, 5, 6] rfl ?_
            exact ihv (d + 1) true (by omega) (by rw [he, sdIn]; (try clear ec); simp [*])
          · skip
            have h51 := zB_f0 h51
            refine v_iload g dX6_areBeside_54 0 rfl ?_
            refine v_bipush (v := (-4)) g dX6_areBeside_56 (by decide) ?_
            refine v_icmp_eq (tgt := 75) g dX6_areBeside_58 (by decide) (fun h58 => ?_) (fun h58 => ?_)
            · skip
              refine v_iconst (v := 0) g dX6_areBeside_75 (by decide) ?_
              refine v_istore_n (ls' := [(3, .int 0), (6, .int (besM t (s ((11 + (4 * r)) + k)) (nI d))), (5, .int (nI d)), (4, .int (nI k)), (0, .ref R), (1, .int (nI r)), (2, .int (nI q))]) g dX6_areBeside_76 rfl rfl ?_
              refine v_iinc (v := (nI (d + 1))) (ls' := [(5, .int (nI (d + 1))), (3, .int 0), (6, .int (besM t (s ((11 + (4 * r)) + k)) (nI d))), (4, .int (nI k)), (0, .ref R), (1, .int (nI r)), (2, .int (nI q))]) g dX6_areBeside_77 2 rfl (nI_addE rfl rfl) rfl rfl ?_
              refine v_goto (tgt := 22) g dX6_areBeside_80 (by decide) ?_
              refine v_sub (ls' := [(5, .int (nI (d + 1))), (4, .int (nI k)), (3, .int 0), (0, .ref R), (1, .int (nI r)), (2, .int (nI q))]) [0, 3, 1, 4, 5, 6] rfl ?_
              exact ihv (d + 1) false (by omega) (by rw [he, sdIn]; (try clear ec); simp [*])
            · skip
              refine v_aload_n g dX6_areBeside_61 4 rfl ?_
              refine v_iload g dX6_areBeside_62 0 rfl ?_
              obtain ⟨c0, hc0, ec⟩ := (bes_ok36 hs b10 (nI d)).resolve_left h58
              refine v_eqi ec ?_
              refine v_callV (As := [.int (nI c0)]) (r := some (.int (treeM t s c0))) g dX6_areBeside_64 (k_X6_treeIn (D := (qS D t s a)) hs (c := c0)) cl_X6_treeIn ml_RX6_116 im_X6_treeIn (rd_M R _ _) rfl rfl ⟨rfl, rfl, rfl⟩ ?_
              refine v_eqi (y := treeM t s (besM t (s (11 + 4 * r + k)) (nI d)).toNatClampNeg) (by rw [ec, nI_clamp (by omega)]) ?_
              refine v_iload_n g dX6_areBeside_67 6 rfl ?_
              refine v_icmp_ne (tgt := 75) g dX6_areBeside_68 (by decide) (fun h68 => ?_) (fun h68 => ?_)
              · skip
                refine v_iconst (v := 0) g dX6_areBeside_75 (by decide) ?_
                refine v_istore_n (ls' := [(3, .int 0), (6, .int (besM t (s ((11 + (4 * r)) + k)) (nI d))), (5, .int (nI d)), (4, .int (nI k)), (0, .ref R), (1, .int (nI r)), (2, .int (nI q))]) g dX6_areBeside_76 rfl rfl ?_
                refine v_iinc (v := (nI (d + 1))) (ls' := [(5, .int (nI (d + 1))), (3, .int 0), (6, .int (besM t (s ((11 + (4 * r)) + k)) (nI d))), (4, .int (nI k)), (0, .ref R), (1, .int (nI r)), (2, .int (nI q))]) g dX6_areBeside_77 2 rfl (nI_addE rfl rfl) rfl rfl ?_
                refine v_goto (tgt := 22) g dX6_areBeside_80 (by decide) ?_
                refine v_sub (ls' := [(5, .int (nI (d + 1))), (4, .int (nI k)), (3, .int 0), (0, .ref R), (1, .int (nI r)), (2, .int (nI q))]) [0, 3, 1, 4, 5, 6] rfl ?_
                exact ihv (d + 1) false (by omega) (by rw [he, sdIn]; (try clear ec); simp [*])
              · skip
                refine v_iconst (v := 1) g dX6_areBeside_71 (by decide) ?_
                refine v_goto (tgt := 76) g dX6_areBeside_72 (by decide) ?_
                refine v_istore_n (ls' := [(3, .int 1), (6, .int (besM t (s ((11 + (4 * r)) + k)) (nI d))), (5, .int (nI d)), (4, .int (nI k)), (0, .ref R), (1, .int (nI r)), (2, .int (nI q))]) g dX6_areBeside_76 rfl rfl ?_
                refine v_iinc (v := (nI (d + 1))) (ls' := [(5, .int (nI (d + 1))), (3, .int 1), (6, .int (besM t (s ((11 + (4 * r)) + k)) (nI d))), (4, .int (nI k)), (0, .ref R), (1, .int (nI r)), (2, .int (nI q))]) g dX6_areBeside_77 2 rfl (nI_addE rfl rfl) rfl rfl ?_
                refine v_goto (tgt := 22) g dX6_areBeside_80 (by decide) ?_
                refine v_sub (ls' := [(5, .int (nI (d + 1))), (4, .int (nI k)), (3, .int 1), (0, .ref R), (1, .int (nI r)), (2, .int (nI q))]) [0, 3, 1, 4, 5, 6] rfl ?_
                exact ihv (d + 1) true (by omega) (by rw [he, sdIn]; (try clear ec); simp [*])
      refine v_iload g dX6_areBeside_5 0 rfl ?_
      refine v_aload_n g dX6_areBeside_7 2 rfl ?_
      refine v_get g dX6_areBeside_8 fl_RX6_22 (rd_M R _ _) rfl ?_
      refine v_bipush (v := 8) g dX6_areBeside_11 (by decide) ?_
      refine v_iload_n g dX6_areBeside_13 3 rfl ?_
      refine v_iadd g dX6_areBeside_14 (v_eqi (y := nI (8 + r)) (nI_addE rfl rfl) ?_)
      refine v_iald g dX6_areBeside_15 (rd_MA4 R _ _) (vp_in_nI (by omega) (by decide)) (v_eqi (y := (nI (s (8 + r)))) (by first | (rw [nI_clamp (by omega)]; done) | (rw [nI_clamp (by omega)]; rfl)) ?_)
      refine v_icmp_ge (tgt := 89) g dX6_areBeside_16 (by decide) (fun h16 => absurd h16 (nI_ge (a := k) (b := s (8 + r)) (by omega) (by omega))) (fun h16 => ?_)
      refine v_iconst (v := 0) g dX6_areBeside_19 (by decide) ?_
      refine v_istore (ls' := [(5, .int 0), (4, .int (nI k)), (3, .int (zB b)), (0, .ref R), (1, .int (nI r)), (2, .int (nI q))]) g dX6_areBeside_20 rfl rfl ?_
      refine v_sub (ls' := [(5, .int 0), (4, .int (nI k)), (3, .int (zB b)), (0, .ref R), (1, .int (nI r)), (2, .int (nI q))]) [0, 1, 2, 3, 4, 5] rfl ?_
      exact inner 4 0 b rfl (by rw [he, sdOut])
  refine v_sub (ls' := [(0, .ref R), (1, .int (nI r)), (2, .int (nI q))]) [0, 1, 2] rfl ?_
  refine v_iconst (v := 0) g dX6_areBeside_0 (by decide) ?_
  refine v_istore_n (ls' := [(3, .int 0), (0, .ref R), (1, .int (nI r)), (2, .int (nI q))]) g dX6_areBeside_1 rfl rfl ?_
  refine v_iconst (v := 0) g dX6_areBeside_2 (by decide) ?_
  refine v_istore (ls' := [(4, .int 0), (3, .int 0), (0, .ref R), (1, .int (nI r)), (2, .int (nI q))]) g dX6_areBeside_3 rfl rfl ?_
  refine v_sub (ls' := [(4, .int 0), (3, .int 0), (0, .ref R), (1, .int (nI r)), (2, .int (nI q))]) [0, 1, 2, 3, 4] rfl ?_
  exact loop (s (8 + r)) 0 false (by omega) rfl
theorem q_meet (hs : OkS t s) (r q : Int32) : Ctr l G 4 99 0 0 mX6_meet [.ref R, .int r, .int q] n (rem R (qS D t s a) ρ) (some (.int (metQ t s a r q).1)) n (rem R (qS D t s (metQ t s a r q).2) ρ) := by
  refine Ctr.of (by decide +kernel) rfl (fun X g E => ?_)
  have o1 := hs.1
  have loop : ∀ (c e : Nat), c < t 2 → metQ t s a r q = (metN t c e 61 0 s, (cpN a s 59)) → ∀ (u k : Nat) (s1 : Nat → Nat), k + u = 61 → OkS t s1 → (∀ j, 23 ≤ j → s1 j = s j) → metN t c e 61 0 s = metN t c e u k s1 → V X 0 0 n (rem R (qS D t s1 (cpN a s 59)) ρ) 29 [(3, .int (nI k)), (0, .ref R), (1, .int (nI c)), (2, .int (nI e))] [] := by
    intro c e hc e0 u
    induction u with
    | zero =>
      intro k s1 hq hs hi he
      refine v_iload_n g dX6_meet_29 0 rfl ?_
      refine v_bipush (v := 60) g dX6_meet_30 (by decide) ?_
      refine v_icmp_gt (tgt := 55) g dX6_meet_32 (by decide) (fun h32 => ?_) (fun h32 => absurd (nI_lt (a := 60) (b := k) (by omega) (by omega)) h32)
      refine v_aload_n g dX6_meet_55 1 rfl ?_
      refine v_callV (As := []) (r := none) g dX6_meet_56 (q_lets (D := D) (t := t) (s := s1) (a := (cpN a s 59))) cl_X6_lets ml_RX6_153 im_X6_lets (rd_M R _ _) rfl rfl ⟨rfl, rfl, rfl⟩ ?_
      refine v_meq (μ' := rem R (qS D t s (cpN a s 59)) ρ) (by rw [cpN_back a s s1 (fun j hj => hi j (by omega))]) ?_
      refine v_iload_n g dX6_meet_59 0 rfl ?_
      refine v_bipush (v := 60) g dX6_meet_60 (by decide) ?_
      refine v_icmp_le (tgt := 70) g dX6_meet_62 (by decide) (fun h62 => absurd h62 (nI_ge (a := 60) (b := k) (by omega) (by omega))) (fun h62 => ?_)
      refine v_bipush (v := (-4)) g dX6_meet_65 (by decide) ?_
      refine v_goto (tgt := 71) g dX6_meet_67 (by decide) ?_
      exact v_iret g E dX6_meet_71 rfl ⟨by rw [e0, he]; rfl, rfl, by rw [e0]⟩
    | succ u ih =>
      intro k s1 hq hs hi he
      refine v_iload_n g dX6_meet_29 0 rfl ?_
      refine v_bipush (v := 60) g dX6_meet_30 (by decide) ?_
      refine v_icmp_gt (tgt := 55) g dX6_meet_32 (by decide) (fun h32 => absurd h32 (nI_nlt (a := 60) (b := k) (by omega) (by omega))) (fun h32 => ?_)
      refine v_aload_n g dX6_meet_35 1 rfl ?_
      refine v_iload_n g dX6_meet_36 2 rfl ?_
      refine v_iload_n g dX6_meet_37 3 rfl ?_
      refine v_callV (As := [.int (nI c), .int (nI e)]) (r := some (.int (zB (sideM t s1 c e)))) g dX6_meet_38 (q_areBeside (D := D) (t := t) (s := s1) (a := (cpN a s 59)) hs (r := c) (by omega) (q := e)) cl_X6_areBeside ml_RX6_159 im_X6_areBeside (rd_M R _ _) rfl rfl ⟨rfl, rfl, rfl⟩ ?_
      refine v_if_ne (tgt := 55) g dX6_meet_41 (by decide) (fun h41 => ?_) (fun h41 => ?_)
      · skip
        have h41 := zB_t0 h41
        refine v_aload_n g dX6_meet_55 1 rfl ?_
        refine v_callV (As := []) (r := none) g dX6_meet_56 (q_lets (D := D) (t := t) (s := s1) (a := (cpN a s 59))) cl_X6_lets ml_RX6_153 im_X6_lets (rd_M R _ _) rfl rfl ⟨rfl, rfl, rfl⟩ ?_
        refine v_meq (μ' := rem R (qS D t s (cpN a s 59)) ρ) (by rw [cpN_back a s s1 (fun j hj => hi j (by omega))]) ?_
        refine v_iload_n g dX6_meet_59 0 rfl ?_
        refine v_bipush (v := 60) g dX6_meet_60 (by decide) ?_
        refine v_icmp_le (tgt := 70) g dX6_meet_62 (by decide) (fun h62 => ?_) (fun h62 => absurd (nI_le (a := k) (b := 60) (by omega) (by decide)) h62)
        refine v_iload_n g dX6_meet_70 0 rfl ?_
        exact v_iret g E dX6_meet_71 rfl ⟨by rw [e0, he, metN, if_pos h41], rfl, by rw [e0]⟩
      · skip
        have h41 := zB_f0 h41
        refine v_aload_n g dX6_meet_44 1 rfl ?_
        refine v_iconst (v := (-1)) g dX6_meet_45 (by decide) ?_
        refine v_callV (As := [.int (-1)]) (r := none) g dX6_meet_46 (q_passes (D := D) (t := t) (s := s1) (a := (cpN a s 59)) hs (-1)) cl_X6_passes ml_RX6_138 im_X6_passes (rd_M R _ _) rfl rfl ⟨rfl, rfl, rfl⟩ ?_
        refine v_iinc (v := (nI (k + 1))) (ls' := [(3, .int (nI (k + 1))), (0, .ref R), (1, .int (nI c)), (2, .int (nI e))]) g dX6_meet_49 0 rfl (nI_addE rfl rfl) rfl rfl ?_
        refine v_goto (tgt := 29) g dX6_meet_52 (by decide) ?_
        refine v_sub (ls' := [(3, .int (nI (k + 1))), (0, .ref R), (1, .int (nI c)), (2, .int (nI e))]) [0, 1, 2, 3] rfl ?_
        exact ih (k + 1) _ (by omega) (passM_ok hs (-1)) (fun j hj => (passM_hi hs (-1) j hj).trans (hi j hj)) (by rw [he, metN, if_neg (by rw [h41]; decide)])
  refine v_sub (ls' := [(0, .ref R), (1, .int r), (2, .int q)]) [0, 1, 2] rfl ?_
  refine v_aload_n g dX6_meet_0 0 rfl ?_
  refine v_iload_n g dX6_meet_1 1 rfl ?_
  refine v_callV (As := [.int r]) (r := some (.int (zB (rowQ t r)))) g dX6_meet_2 (q_isRow (D := D) (t := t) r) cl_X6_isRow ml_RX6_126 im_X6_isRow (rd_M R _ _) rfl rfl ⟨rfl, rfl, rfl⟩ ?_
  refine v_if_eq (tgt := 21) g dX6_meet_5 (by decide) (fun h5 => ?_) (fun h5 => ?_)
  · skip
    have h5 := zB_f0 h5
    refine v_iconst (v := (-1)) g dX6_meet_21 (by decide) ?_
    exact v_iret g E dX6_meet_22 rfl ⟨by simp [metQ, *], rfl, by simp [metQ, *]⟩
  · skip
    have h5 := zB_t0 h5
    refine v_aload_n g dX6_meet_8 0 rfl ?_
    refine v_iload_n g dX6_meet_9 2 rfl ?_
    refine v_callV (As := [.int q]) (r := some (.int (zB (rowQ t q)))) g dX6_meet_10 (q_isRow (D := D) (t := t) q) cl_X6_isRow ml_RX6_126 im_X6_isRow (rd_M R _ _) rfl rfl ⟨rfl, rfl, rfl⟩ ?_
    refine v_if_eq (tgt := 21) g dX6_meet_13 (by decide) (fun h13 => ?_) (fun h13 => ?_)
    · skip
      have h13 := zB_f0 h13
      refine v_iconst (v := (-1)) g dX6_meet_21 (by decide) ?_
      exact v_iret g E dX6_meet_22 rfl ⟨by simp [metQ, *], rfl, by simp [metQ, *]⟩
    · skip
      have h13 := zB_t0 h13
      refine v_iload_n g dX6_meet_16 1 rfl ?_
      refine v_iload_n g dX6_meet_17 2 rfl ?_
      refine v_icmp_ne (tgt := 23) g dX6_meet_18 (by decide) (fun h18 => ?_) (fun h18 => ?_)
      · skip
        have h18i := h18
        obtain ⟨c, hc, ec⟩ := rowQ_ok hs h5
        obtain ⟨e, he, ee⟩ := rowQ_ok hs h13
        subst ec
        subst ee
        refine v_aload_n g dX6_meet_23 0 rfl ?_
        refine v_callV (As := []) (r := none) g dX6_meet_24 (q_holds (D := D) (t := t) (s := s) (a := a)) cl_X6_holds ml_RX6_150 im_X6_holds (rd_M R _ _) rfl rfl ⟨rfl, rfl, rfl⟩ ?_
        refine v_iconst (v := 0) g dX6_meet_27 (by decide) ?_
        refine v_istore_n (ls' := [(3, .int 0), (0, .ref R), (1, .int (nI c)), (2, .int (nI e))]) g dX6_meet_28 rfl rfl ?_
        refine v_sub (ls' := [(3, .int 0), (0, .ref R), (1, .int (nI c)), (2, .int (nI e))]) [0, 1, 2, 3] rfl ?_
        exact loop c e hc (by unfold metQ; rw [if_neg (by rw [h5]; decide), if_neg (by rw [h13]; decide), if_neg h18, nI_clamp (by omega), nI_clamp (by omega)]) 61 0 s rfl hs (fun j hj => rfl) rfl
      · skip
        refine v_iconst (v := (-1)) g dX6_meet_21 (by decide) ?_
        exact v_iret g E dX6_meet_22 rfl ⟨by simp [metQ, *], rfl, by simp [metQ, *]⟩
theorem q_isAgain (hs : OkS t s) : Ctr l G 0 0 0 0 mX6_isAgain [.ref R] n (rem R (qS D t s a) ρ) (some (.int (zB (agaM t s a)))) n (rem R (qS D t s a) ρ) := by
  obtain ⟨o1, o2, o3, o4, o5, o6, o7, o8, o9, o10, o11⟩ := id hs
  refine Ctr.of (by decide +kernel) rfl (fun X g E => ?_)
  have loop : ∀ (u r : Nat) (b sl : Bool), r + u = t 2 → agaM t s a = agOut t s a u r b sl → V X 0 0 n (rem R (qS D t s a) ρ) 6 [(3, .int (nI r)), (2, .int (zB sl)), (1, .int (zB b)), (0, .ref R)] [] := by
    intro u
    induction u with
    | zero =>
      intro r b sl hu he
      refine v_iload_n g dX6_isAgain_6 0 rfl ?_
      refine v_aload_n g dX6_isAgain_7 3 rfl ?_
      refine v_get g dX6_isAgain_8 fl_RX6_13 (rd_M R _ _) rfl ?_
      refine v_iconst (v := 2) g dX6_isAgain_11 (by decide) ?_
      refine v_iald g dX6_isAgain_12 (rd_MA1 R _ _) (by unfold vp_in; decide) (v_eqi (y := (nI (t 2))) rfl ?_)
      refine v_icmp_ge (tgt := 138) g dX6_isAgain_13 (by decide) (fun h13 => ?_) (fun h13 => absurd (nI_le (a := t 2) (b := r) (by omega) (by omega)) h13)
      refine v_iload_n g dX6_isAgain_138 2 rfl ?_
      refine v_if_eq (tgt := 168) g dX6_isAgain_139 (by decide) (fun h139 => ?_) (fun h139 => ?_)
      · skip
        have h139 := zB_f0 h139
        refine v_iconst (v := 0) g dX6_isAgain_168 (by decide) ?_
        exact v_zret g E dX6_isAgain_169 rfl rfl ⟨by rw [he, agOut]; simp [agEnd, zB, *], rfl, rfl⟩
      · skip
        have h139 := zB_t0 h139
        refine v_iload_n g dX6_isAgain_142 1 rfl ?_
        refine v_if_eq (tgt := 164) g dX6_isAgain_143 (by decide) (fun h143 => ?_) (fun h143 => ?_)
        · skip
          have h143 := zB_f0 h143
          refine v_iconst (v := 1) g dX6_isAgain_164 (by decide) ?_
          refine v_goto (tgt := 169) g dX6_isAgain_165 (by decide) ?_
          exact v_zret g E dX6_isAgain_169 rfl rfl ⟨by rw [he, agOut]; simp [agEnd, zB, *], rfl, rfl⟩
        · skip
          have h143 := zB_t0 h143
          refine v_aload_n g dX6_isAgain_146 3 rfl ?_
          refine v_get g dX6_isAgain_147 fl_RX6_22 (rd_M R _ _) rfl ?_
          refine v_iconst (v := 0) g dX6_isAgain_150 (by decide) ?_
          refine v_iald g dX6_isAgain_151 (rd_MA4 R _ _) (by unfold vp_in; decide) (v_eqi (y := (nI (s 0))) rfl ?_)
          refine v_aload_n g dX6_isAgain_152 3 rfl ?_
          refine v_get g dX6_isAgain_153 fl_RX6_34 (rd_M R _ _) rfl ?_
          refine v_iconst (v := 0) g dX6_isAgain_156 (by decide) ?_
          refine v_iald g dX6_isAgain_157 (rd_MA8 R _ _) (by unfold vp_in; decide) (v_eqi (y := (nI (a 0))) rfl ?_)
          refine v_isub g dX6_isAgain_158 ?_
          refine v_iconst (v := 2) g dX6_isAgain_159 (by decide) ?_
          refine v_irem g dX6_isAgain_160 (by decide) ?_
          refine v_if_ne (tgt := 168) g dX6_isAgain_161 (by decide) (fun h161 => ?_) (fun h161 => ?_)
          · skip
            refine v_iconst (v := 0) g dX6_isAgain_168 (by decide) ?_
            exact v_zret g E dX6_isAgain_169 rfl rfl ⟨by rw [he, agOut]; simp [agEnd, zB, *], rfl, rfl⟩
          · skip
            refine v_iconst (v := 1) g dX6_isAgain_164 (by decide) ?_
            refine v_goto (tgt := 169) g dX6_isAgain_165 (by decide) ?_
            exact v_zret g E dX6_isAgain_169 rfl rfl ⟨by rw [he, agOut]; simp [agEnd, zB, *], rfl, rfl⟩
    | succ u ih =>
      intro r b sl hu he
      have o5r := o5 r (by omega)
      have inner : ∀ (v k : Nat) (b sl : Bool), k + v = s (8 + r) → agaM t s a = agOut t s a u (r + 1) (agIn s a r v k b) sl → V X 0 0 n (rem R (qS D t s a) ρ) 71 [(4, .int (nI k)), (3, .int (nI r)), (2, .int (zB sl)), (1, .int (zB b)), (0, .ref R)] [] := by
        intro v
        induction v with
        | zero =>
          intro k b sl hv he
          refine v_iload g dX6_isAgain_71 0 rfl ?_
          refine v_aload_n g dX6_isAgain_73 4 rfl ?_
          refine v_get g dX6_isAgain_74 fl_RX6_22 (rd_M R _ _) rfl ?_
          refine v_bipush (v := 8) g dX6_isAgain_77 (by decide) ?_
          refine v_iload_n g dX6_isAgain_79 1 rfl ?_
          refine v_iadd g dX6_isAgain_80 (v_eqi (y := nI (8 + r)) (nI_addE rfl rfl) ?_)
          refine v_iald g dX6_isAgain_81 (rd_MA4 R _ _) (vp_in_nI (by omega) (by decide)) (v_eqi (y := (nI (s (8 + r)))) (by first | (rw [nI_clamp (by omega)]; done) | (rw [nI_clamp (by omega)]; rfl)) ?_)
          refine v_icmp_ge (tgt := 132) g dX6_isAgain_82 (by decide) (fun h82 => ?_) (fun h82 => absurd (nI_le (a := s (8 + r)) (b := k) (by omega) (by omega)) h82)
          refine v_iinc (v := (nI (r + 1))) (ls' := [(3, .int (nI (r + 1))), (4, .int (nI k)), (2, .int (zB sl)), (1, .int (zB b)), (0, .ref R)]) g dX6_isAgain_132 1 rfl (nI_addE rfl rfl) rfl rfl ?_
          refine v_goto (tgt := 6) g dX6_isAgain_135 (by decide) ?_
          refine v_sub (ls' := [(3, .int (nI (r + 1))), (2, .int (zB sl)), (1, .int (zB b)), (0, .ref R)]) [0, 2, 3, 4] rfl ?_
          exact ih (r + 1) b sl (by omega) (by rw [he, agIn])
        | succ v ihv =>
          intro k b sl hv he
          refine v_iload g dX6_isAgain_71 0 rfl ?_
          refine v_aload_n g dX6_isAgain_73 4 rfl ?_
          refine v_get g dX6_isAgain_74 fl_RX6_22 (rd_M R _ _) rfl ?_
          refine v_bipush (v := 8) g dX6_isAgain_77 (by decide) ?_
          refine v_iload_n g dX6_isAgain_79 1 rfl ?_
          refine v_iadd g dX6_isAgain_80 (v_eqi (y := nI (8 + r)) (nI_addE rfl rfl) ?_)
          refine v_iald g dX6_isAgain_81 (rd_MA4 R _ _) (vp_in_nI (by omega) (by decide)) (v_eqi (y := (nI (s (8 + r)))) (by first | (rw [nI_clamp (by omega)]; done) | (rw [nI_clamp (by omega)]; rfl)) ?_)
          refine v_icmp_ge (tgt := 132) g dX6_isAgain_82 (by decide) (fun h82 => absurd h82 (nI_ge (a := k) (b := s (8 + r)) (by omega) (by omega))) (fun h82 => ?_)
          refine v_iload_n g dX6_isAgain_85 3 rfl ?_
          refine v_if_eq (tgt := 124) g dX6_isAgain_86 (by decide) (fun h86 => ?_) (fun h86 => ?_)
          · skip
            have h86 := zB_f0 h86
            refine v_iconst (v := 0) g dX6_isAgain_124 (by decide) ?_
            refine v_istore_n (ls' := [(1, .int 0), (4, .int (nI k)), (3, .int (nI r)), (2, .int (zB sl)), (0, .ref R)]) g dX6_isAgain_125 rfl rfl ?_
            refine v_iinc (v := (nI (k + 1))) (ls' := [(4, .int (nI (k + 1))), (1, .int 0), (3, .int (nI r)), (2, .int (zB sl)), (0, .ref R)]) g dX6_isAgain_126 1 rfl (nI_addE rfl rfl) rfl rfl ?_
            refine v_goto (tgt := 71) g dX6_isAgain_129 (by decide) ?_
            refine v_sub (ls' := [(4, .int (nI (k + 1))), (3, .int (nI r)), (2, .int (zB sl)), (1, .int 0), (0, .ref R)]) [0, 2, 3, 1, 4] rfl ?_
            exact ihv (k + 1) false sl (by omega) (by rw [he, agIn]; simp [*])
          · skip
            have h86 := zB_t0 h86
            refine v_aload_n g dX6_isAgain_89 4 rfl ?_
            refine v_get g dX6_isAgain_90 fl_RX6_22 (rd_M R _ _) rfl ?_
            refine v_bipush (v := 11) g dX6_isAgain_93 (by decide) ?_
            refine v_iconst (v := 4) g dX6_isAgain_95 (by decide) ?_
            refine v_iload_n g dX6_isAgain_96 1 rfl ?_
            refine v_imul g dX6_isAgain_97 (v_eqi (y := nI (4 * r)) (nI_mulE rfl rfl) ?_)
            refine v_iadd g dX6_isAgain_98 (v_eqi (y := nI (11 + (4 * r))) (nI_addE rfl rfl) ?_)
            refine v_iload g dX6_isAgain_99 0 rfl ?_
            refine v_iadd g dX6_isAgain_101 (v_eqi (y := nI ((11 + (4 * r)) + k)) (nI_addE rfl rfl) ?_)
            refine v_iald g dX6_isAgain_102 (rd_MA4 R _ _) (vp_in_nI (by omega) (by decide)) (v_eqi (y := (nI (s ((11 + (4 * r)) + k)))) (by first | (rw [nI_clamp (by omega)]; done) | (rw [nI_clamp (by omega)]; rfl)) ?_)
            refine v_aload_n g dX6_isAgain_103 4 rfl ?_
            refine v_get g dX6_isAgain_104 fl_RX6_34 (rd_M R _ _) rfl ?_
            refine v_bipush (v := 11) g dX6_isAgain_107 (by decide) ?_
            refine v_iconst (v := 4) g dX6_isAgain_109 (by decide) ?_
            refine v_iload_n g dX6_isAgain_110 1 rfl ?_
            refine v_imul g dX6_isAgain_111 (v_eqi (y := nI (4 * r)) (nI_mulE rfl rfl) ?_)
            refine v_iadd g dX6_isAgain_112 (v_eqi (y := nI (11 + (4 * r))) (nI_addE rfl rfl) ?_)
            refine v_iload g dX6_isAgain_113 0 rfl ?_
            refine v_iadd g dX6_isAgain_115 (v_eqi (y := nI ((11 + (4 * r)) + k)) (nI_addE rfl rfl) ?_)
            refine v_iald g dX6_isAgain_116 (rd_MA8 R _ _) (vp_in_nI (by omega) (by decide)) (v_eqi (y := (nI (a ((11 + (4 * r)) + k)))) (by first | (rw [nI_clamp (by omega)]; done) | (rw [nI_clamp (by omega)]; rfl)) ?_)
            refine v_icmp_ne (tgt := 124) g dX6_isAgain_117 (by decide) (fun h117 => ?_) (fun h117 => ?_)
            · skip
              refine v_iconst (v := 0) g dX6_isAgain_124 (by decide) ?_
              refine v_istore_n (ls' := [(1, .int 0), (4, .int (nI k)), (3, .int (nI r)), (2, .int (zB sl)), (0, .ref R)]) g dX6_isAgain_125 rfl rfl ?_
              refine v_iinc (v := (nI (k + 1))) (ls' := [(4, .int (nI (k + 1))), (1, .int 0), (3, .int (nI r)), (2, .int (zB sl)), (0, .ref R)]) g dX6_isAgain_126 1 rfl (nI_addE rfl rfl) rfl rfl ?_
              refine v_goto (tgt := 71) g dX6_isAgain_129 (by decide) ?_
              refine v_sub (ls' := [(4, .int (nI (k + 1))), (3, .int (nI r)), (2, .int (zB sl)), (1, .int 0), (0, .ref R)]) [0, 2, 3, 1, 4] rfl ?_
              exact ihv (k + 1) false sl (by omega) (by rw [he, agIn]; simp [*])
            · skip
              refine v_iconst (v := 1) g dX6_isAgain_120 (by decide) ?_
              refine v_goto (tgt := 125) g dX6_isAgain_121 (by decide) ?_
              refine v_istore_n (ls' := [(1, .int 1), (4, .int (nI k)), (3, .int (nI r)), (2, .int (zB sl)), (0, .ref R)]) g dX6_isAgain_125 rfl rfl ?_
              refine v_iinc (v := (nI (k + 1))) (ls' := [(4, .int (nI (k + 1))), (1, .int 1), (3, .int (nI r)), (2, .int (zB sl)), (0, .ref R)]) g dX6_isAgain_126 1 rfl (nI_addE rfl rfl) rfl rfl ?_
              refine v_goto (tgt := 71) g dX6_isAgain_129 (by decide) ?_
              refine v_sub (ls' := [(4, .int (nI (k + 1))), (3, .int (nI r)), (2, .int (zB sl)), (1, .int 1), (0, .ref R)]) [0, 2, 3, 1, 4] rfl ?_
              exact ihv (k + 1) true sl (by omega) (by rw [he, agIn]; simp [*])
      refine v_iload_n g dX6_isAgain_6 0 rfl ?_
      refine v_aload_n g dX6_isAgain_7 3 rfl ?_
      refine v_get g dX6_isAgain_8 fl_RX6_13 (rd_M R _ _) rfl ?_
      refine v_iconst (v := 2) g dX6_isAgain_11 (by decide) ?_
      refine v_iald g dX6_isAgain_12 (rd_MA1 R _ _) (by unfold vp_in; decide) (v_eqi (y := (nI (t 2))) rfl ?_)
      refine v_icmp_ge (tgt := 138) g dX6_isAgain_13 (by decide) (fun h13 => absurd h13 (nI_ge (a := r) (b := t 2) (by omega) (by omega))) (fun h13 => ?_)
      refine v_iload_n g dX6_isAgain_16 2 rfl ?_
      refine v_if_eq (tgt := 43) g dX6_isAgain_17 (by decide) (fun h17 => ?_) (fun h17 => ?_)
      · skip
        have h17 := zB_f0 h17
        refine v_iconst (v := 0) g dX6_isAgain_43 (by decide) ?_
        refine v_istore_n (ls' := [(1, .int 0), (3, .int (nI r)), (2, .int (zB sl)), (0, .ref R)]) g dX6_isAgain_44 rfl rfl ?_
        refine v_iload_n g dX6_isAgain_45 2 rfl ?_
        refine v_if_ne (tgt := 62) g dX6_isAgain_46 (by decide) (fun h46 => ?_) (fun h46 => ?_)
        · skip
          have h46 := zB_t0 h46
          refine v_iconst (v := 1) g dX6_isAgain_62 (by decide) ?_
          refine v_goto (tgt := 67) g dX6_isAgain_63 (by decide) ?_
          refine v_istore_n (ls' := [(2, .int 1), (1, .int 0), (3, .int (nI r)), (0, .ref R)]) g dX6_isAgain_67 rfl rfl ?_
          refine v_iconst (v := 0) g dX6_isAgain_68 (by decide) ?_
          refine v_istore (ls' := [(4, .int 0), (2, .int 1), (1, .int 0), (3, .int (nI r)), (0, .ref R)]) g dX6_isAgain_69 rfl rfl ?_
          refine v_sub (ls' := [(4, .int 0), (3, .int (nI r)), (2, .int 1), (1, .int 0), (0, .ref R)]) [0, 3, 1, 2, 4] rfl ?_
          exact inner (s (8 + r)) 0 false true (by omega) (by rw [he, agOut]; simp [*])
        · skip
          have h46 := zB_f0 h46
          refine v_aload_n g dX6_isAgain_49 3 rfl ?_
          refine v_get g dX6_isAgain_50 fl_RX6_13 (rd_M R _ _) rfl ?_
          refine v_bipush (v := 75) g dX6_isAgain_53 (by decide) ?_
          refine v_iload_n g dX6_isAgain_55 1 rfl ?_
          refine v_iadd g dX6_isAgain_56 (v_eqi (y := nI (75 + r)) (nI_addE rfl rfl) ?_)
          refine v_iald g dX6_isAgain_57 (rd_MA1 R _ _) (vp_in_nI (by omega) (by decide)) (v_eqi (y := (nI (t (75 + r)))) (by first | (rw [nI_clamp (by omega)]; done) | (rw [nI_clamp (by omega)]; rfl)) ?_)
          refine v_iconst (v := 2) g dX6_isAgain_58 (by decide) ?_
          refine v_icmp_ne (tgt := 66) g dX6_isAgain_59 (by decide) (fun h59 => ?_) (fun h59 => ?_)
          · skip
            refine v_iconst (v := 0) g dX6_isAgain_66 (by decide) ?_
            refine v_istore_n (ls' := [(2, .int 0), (1, .int 0), (3, .int (nI r)), (0, .ref R)]) g dX6_isAgain_67 rfl rfl ?_
            refine v_iconst (v := 0) g dX6_isAgain_68 (by decide) ?_
            refine v_istore (ls' := [(4, .int 0), (2, .int 0), (1, .int 0), (3, .int (nI r)), (0, .ref R)]) g dX6_isAgain_69 rfl rfl ?_
            refine v_sub (ls' := [(4, .int 0), (3, .int (nI r)), (2, .int 0), (1, .int 0), (0, .ref R)]) [0, 3, 1, 2, 4] rfl ?_
            exact inner (s (8 + r)) 0 false false (by omega) (by rw [he, agOut]; simp [*])
          · skip
            refine v_iconst (v := 1) g dX6_isAgain_62 (by decide) ?_
            refine v_goto (tgt := 67) g dX6_isAgain_63 (by decide) ?_
            refine v_istore_n (ls' := [(2, .int 1), (1, .int 0), (3, .int (nI r)), (0, .ref R)]) g dX6_isAgain_67 rfl rfl ?_
            refine v_iconst (v := 0) g dX6_isAgain_68 (by decide) ?_
            refine v_istore (ls' := [(4, .int 0), (2, .int 1), (1, .int 0), (3, .int (nI r)), (0, .ref R)]) g dX6_isAgain_69 rfl rfl ?_
            refine v_sub (ls' := [(4, .int 0), (3, .int (nI r)), (2, .int 1), (1, .int 0), (0, .ref R)]) [0, 3, 1, 2, 4] rfl ?_
            exact inner (s (8 + r)) 0 false true (by omega) (by rw [he, agOut]; simp [*])
      · skip
        have h17 := zB_t0 h17
        refine v_aload_n g dX6_isAgain_20 3 rfl ?_
        refine v_get g dX6_isAgain_21 fl_RX6_22 (rd_M R _ _) rfl ?_
        refine v_iconst (v := 5) g dX6_isAgain_24 (by decide) ?_
        refine v_iload_n g dX6_isAgain_25 0 rfl ?_
        refine v_iadd g dX6_isAgain_26 (v_eqi (y := nI (5 + r)) (nI_addE rfl rfl) ?_)
        refine v_iald g dX6_isAgain_27 (rd_MA4 R _ _) (vp_in_nI (by omega) (by decide)) (v_eqi (y := (nI (s (5 + r)))) (by first | (rw [nI_clamp (by omega)]; done) | (rw [nI_clamp (by omega)]; rfl)) ?_)
        refine v_aload_n g dX6_isAgain_28 3 rfl ?_
        refine v_get g dX6_isAgain_29 fl_RX6_34 (rd_M R _ _) rfl ?_
        refine v_iconst (v := 5) g dX6_isAgain_32 (by decide) ?_
        refine v_iload_n g dX6_isAgain_33 0 rfl ?_
        refine v_iadd g dX6_isAgain_34 (v_eqi (y := nI (5 + r)) (nI_addE rfl rfl) ?_)
        refine v_iald g dX6_isAgain_35 (rd_MA8 R _ _) (vp_in_nI (by omega) (by decide)) (v_eqi (y := (nI (a (5 + r)))) (by first | (rw [nI_clamp (by omega)]; done) | (rw [nI_clamp (by omega)]; rfl)) ?_)
        refine v_icmp_ne (tgt := 43) g dX6_isAgain_36 (by decide) (fun h36 => ?_) (fun h36 => ?_)
        · skip
          refine v_iconst (v := 0) g dX6_isAgain_43 (by decide) ?_
          refine v_istore_n (ls' := [(1, .int 0), (3, .int (nI r)), (2, .int (zB sl)), (0, .ref R)]) g dX6_isAgain_44 rfl rfl ?_
          refine v_iload_n g dX6_isAgain_45 2 rfl ?_
          refine v_if_ne (tgt := 62) g dX6_isAgain_46 (by decide) (fun h46_2 => ?_) (fun h46_2 => ?_)
          · skip
            have h46_2 := zB_t0 h46_2
            refine v_iconst (v := 1) g dX6_isAgain_62 (by decide) ?_
            refine v_goto (tgt := 67) g dX6_isAgain_63 (by decide) ?_
            refine v_istore_n (ls' := [(2, .int 1), (1, .int 0), (3, .int (nI r)), (0, .ref R)]) g dX6_isAgain_67 rfl rfl ?_
            refine v_iconst (v := 0) g dX6_isAgain_68 (by decide) ?_
            refine v_istore (ls' := [(4, .int 0), (2, .int 1), (1, .int 0), (3, .int (nI r)), (0, .ref R)]) g dX6_isAgain_69 rfl rfl ?_
            refine v_sub (ls' := [(4, .int 0), (3, .int (nI r)), (2, .int 1), (1, .int 0), (0, .ref R)]) [0, 3, 1, 2, 4] rfl ?_
            exact inner (s (8 + r)) 0 false true (by omega) (by rw [he, agOut]; simp [*])
          · skip
            have h46_2 := zB_f0 h46_2
            refine v_aload_n g dX6_isAgain_49 3 rfl ?_
            refine v_get g dX6_isAgain_50 fl_RX6_13 (rd_M R _ _) rfl ?_
            refine v_bipush (v := 75) g dX6_isAgain_53 (by decide) ?_
            refine v_iload_n g dX6_isAgain_55 1 rfl ?_
            refine v_iadd g dX6_isAgain_56 (v_eqi (y := nI (75 + r)) (nI_addE rfl rfl) ?_)
            refine v_iald g dX6_isAgain_57 (rd_MA1 R _ _) (vp_in_nI (by omega) (by decide)) (v_eqi (y := (nI (t (75 + r)))) (by first | (rw [nI_clamp (by omega)]; done) | (rw [nI_clamp (by omega)]; rfl)) ?_)
            refine v_iconst (v := 2) g dX6_isAgain_58 (by decide) ?_
            refine v_icmp_ne (tgt := 66) g dX6_isAgain_59 (by decide) (fun h59_2 => ?_) (fun h59_2 => ?_)
            · skip
              refine v_iconst (v := 0) g dX6_isAgain_66 (by decide) ?_
              refine v_istore_n (ls' := [(2, .int 0), (1, .int 0), (3, .int (nI r)), (0, .ref R)]) g dX6_isAgain_67 rfl rfl ?_
              refine v_iconst (v := 0) g dX6_isAgain_68 (by decide) ?_
              refine v_istore (ls' := [(4, .int 0), (2, .int 0), (1, .int 0), (3, .int (nI r)), (0, .ref R)]) g dX6_isAgain_69 rfl rfl ?_
              refine v_sub (ls' := [(4, .int 0), (3, .int (nI r)), (2, .int 0), (1, .int 0), (0, .ref R)]) [0, 3, 1, 2, 4] rfl ?_
              exact inner (s (8 + r)) 0 false false (by omega) (by rw [he, agOut]; simp [*])
            · skip
              refine v_iconst (v := 1) g dX6_isAgain_62 (by decide) ?_
              refine v_goto (tgt := 67) g dX6_isAgain_63 (by decide) ?_
              refine v_istore_n (ls' := [(2, .int 1), (1, .int 0), (3, .int (nI r)), (0, .ref R)]) g dX6_isAgain_67 rfl rfl ?_
              refine v_iconst (v := 0) g dX6_isAgain_68 (by decide) ?_
              refine v_istore (ls' := [(4, .int 0), (2, .int 1), (1, .int 0), (3, .int (nI r)), (0, .ref R)]) g dX6_isAgain_69 rfl rfl ?_
              refine v_sub (ls' := [(4, .int 0), (3, .int (nI r)), (2, .int 1), (1, .int 0), (0, .ref R)]) [0, 3, 1, 2, 4] rfl ?_
              exact inner (s (8 + r)) 0 false true (by omega) (by rw [he, agOut]; simp [*])
        · skip
          refine v_iconst (v := 1) g dX6_isAgain_39 (by decide) ?_
          refine v_goto (tgt := 44) g dX6_isAgain_40 (by decide) ?_
          refine v_istore_n (ls' := [(1, .int 1), (3, .int (nI r)), (2, .int (zB sl)), (0, .ref R)]) g dX6_isAgain_44 rfl rfl ?_
          refine v_iload_n g dX6_isAgain_45 2 rfl ?_
          refine v_if_ne (tgt := 62) g dX6_isAgain_46 (by decide) (fun h46_3 => ?_) (fun h46_3 => ?_)
          · skip
            have h46_3 := zB_t0 h46_3
            refine v_iconst (v := 1) g dX6_isAgain_62 (by decide) ?_
            refine v_goto (tgt := 67) g dX6_isAgain_63 (by decide) ?_
            refine v_istore_n (ls' := [(2, .int 1), (1, .int 1), (3, .int (nI r)), (0, .ref R)]) g dX6_isAgain_67 rfl rfl ?_
            refine v_iconst (v := 0) g dX6_isAgain_68 (by decide) ?_
            refine v_istore (ls' := [(4, .int 0), (2, .int 1), (1, .int 1), (3, .int (nI r)), (0, .ref R)]) g dX6_isAgain_69 rfl rfl ?_
            refine v_sub (ls' := [(4, .int 0), (3, .int (nI r)), (2, .int 1), (1, .int 1), (0, .ref R)]) [0, 3, 1, 2, 4] rfl ?_
            exact inner (s (8 + r)) 0 true true (by omega) (by rw [he, agOut]; simp [*])
          · skip
            have h46_3 := zB_f0 h46_3
            refine v_aload_n g dX6_isAgain_49 3 rfl ?_
            refine v_get g dX6_isAgain_50 fl_RX6_13 (rd_M R _ _) rfl ?_
            refine v_bipush (v := 75) g dX6_isAgain_53 (by decide) ?_
            refine v_iload_n g dX6_isAgain_55 1 rfl ?_
            refine v_iadd g dX6_isAgain_56 (v_eqi (y := nI (75 + r)) (nI_addE rfl rfl) ?_)
            refine v_iald g dX6_isAgain_57 (rd_MA1 R _ _) (vp_in_nI (by omega) (by decide)) (v_eqi (y := (nI (t (75 + r)))) (by first | (rw [nI_clamp (by omega)]; done) | (rw [nI_clamp (by omega)]; rfl)) ?_)
            refine v_iconst (v := 2) g dX6_isAgain_58 (by decide) ?_
            refine v_icmp_ne (tgt := 66) g dX6_isAgain_59 (by decide) (fun h59_3 => ?_) (fun h59_3 => ?_)
            · skip
              refine v_iconst (v := 0) g dX6_isAgain_66 (by decide) ?_
              refine v_istore_n (ls' := [(2, .int 0), (1, .int 1), (3, .int (nI r)), (0, .ref R)]) g dX6_isAgain_67 rfl rfl ?_
              refine v_iconst (v := 0) g dX6_isAgain_68 (by decide) ?_
              refine v_istore (ls' := [(4, .int 0), (2, .int 0), (1, .int 1), (3, .int (nI r)), (0, .ref R)]) g dX6_isAgain_69 rfl rfl ?_
              refine v_sub (ls' := [(4, .int 0), (3, .int (nI r)), (2, .int 0), (1, .int 1), (0, .ref R)]) [0, 3, 1, 2, 4] rfl ?_
              exact inner (s (8 + r)) 0 true false (by omega) (by rw [he, agOut]; simp [*])
            · skip
              refine v_iconst (v := 1) g dX6_isAgain_62 (by decide) ?_
              refine v_goto (tgt := 67) g dX6_isAgain_63 (by decide) ?_
              refine v_istore_n (ls' := [(2, .int 1), (1, .int 1), (3, .int (nI r)), (0, .ref R)]) g dX6_isAgain_67 rfl rfl ?_
              refine v_iconst (v := 0) g dX6_isAgain_68 (by decide) ?_
              refine v_istore (ls' := [(4, .int 0), (2, .int 1), (1, .int 1), (3, .int (nI r)), (0, .ref R)]) g dX6_isAgain_69 rfl rfl ?_
              refine v_sub (ls' := [(4, .int 0), (3, .int (nI r)), (2, .int 1), (1, .int 1), (0, .ref R)]) [0, 3, 1, 2, 4] rfl ?_
              exact inner (s (8 + r)) 0 true true (by omega) (by rw [he, agOut]; simp [*])
  refine v_sub (ls' := [(0, .ref R)]) [0] rfl ?_
  refine v_iconst (v := 1) g dX6_isAgain_0 (by decide) ?_
  refine v_istore_n (ls' := [(1, .int 1), (0, .ref R)]) g dX6_isAgain_1 rfl rfl ?_
  refine v_iconst (v := 0) g dX6_isAgain_2 (by decide) ?_
  refine v_istore_n (ls' := [(2, .int 0), (1, .int 1), (0, .ref R)]) g dX6_isAgain_3 rfl rfl ?_
  refine v_iconst (v := 0) g dX6_isAgain_4 (by decide) ?_
  refine v_istore_n (ls' := [(3, .int 0), (2, .int 0), (1, .int 1), (0, .ref R)]) g dX6_isAgain_5 rfl rfl ?_
  refine v_sub (ls' := [(3, .int 0), (2, .int 0), (1, .int 1), (0, .ref R)]) [0, 1, 2, 3] rfl ?_
  exact loop (t 2) 0 true false (by omega) rfl
theorem q_again (hs : OkS t s) : Ctr l G 4 99 0 0 mX6_again [.ref R] n (rem R (qS D t s a) ρ) (some (.int (agN t (cpN a s 59) 200 1 (passM t s (-1))))) n (rem R (qS D t s (cpN a s 59)) ρ) := by
  refine Ctr.of (by decide +kernel) rfl (fun X g E => ?_)
  have loop : ∀ (u k : Nat) (s1 : Nat → Nat), k + u = 201 → OkS t s1 → (∀ j, 23 ≤ j → s1 j = s j) → agN t (cpN a s 59) 200 1 (passM t s (-1)) = agN t (cpN a s 59) u k s1 → V X 0 0 n (rem R (qS D t s1 (cpN a s 59)) ρ) 11 [(1, .int (nI k)), (0, .ref R)] [] := by
    intro u
    induction u with
    | zero =>
      intro k s1 hq hs hi he
      refine v_iload_n g dX6_again_11 0 rfl ?_
      refine v_sipush (v := 200) g dX6_again_12 (by decide) ?_
      refine v_icmp_gt (tgt := 36) g dX6_again_15 (by decide) (fun h15 => ?_) (fun h15 => absurd (nI_lt (a := 200) (b := k) (by omega) (by omega)) h15)
      refine v_aload_n g dX6_again_36 1 rfl ?_
      refine v_callV (As := []) (r := none) g dX6_again_37 (q_lets (D := D) (t := t) (s := s1) (a := (cpN a s 59))) cl_X6_lets ml_RX6_153 im_X6_lets (rd_M R _ _) rfl rfl ⟨rfl, rfl, rfl⟩ ?_
      refine v_meq (μ' := rem R (qS D t s (cpN a s 59)) ρ) (by rw [cpN_back a s s1 (fun j hj => hi j (by omega))]) ?_
      refine v_iload_n g dX6_again_40 0 rfl ?_
      refine v_sipush (v := 200) g dX6_again_41 (by decide) ?_
      refine v_icmp_le (tgt := 52) g dX6_again_44 (by decide) (fun h44 => absurd h44 (nI_ge (a := 200) (b := k) (by omega) (by omega))) (fun h44 => ?_)
      refine v_bipush (v := (-4)) g dX6_again_47 (by decide) ?_
      refine v_goto (tgt := 53) g dX6_again_49 (by decide) ?_
      exact v_iret g E dX6_again_53 rfl ⟨by rw [he]; rfl, rfl, rfl⟩
    | succ u ih =>
      intro k s1 hq hs hi he
      refine v_iload_n g dX6_again_11 0 rfl ?_
      refine v_sipush (v := 200) g dX6_again_12 (by decide) ?_
      refine v_icmp_gt (tgt := 36) g dX6_again_15 (by decide) (fun h15 => absurd h15 (nI_nlt (a := 200) (b := k) (by omega) (by omega))) (fun h15 => ?_)
      refine v_aload_n g dX6_again_18 1 rfl ?_
      refine v_callV (As := []) (r := some (.int (zB (agaM t s1 (cpN a s 59))))) g dX6_again_19 (q_isAgain (D := D) (t := t) (s := s1) (a := (cpN a s 59)) hs) cl_X6_isAgain ml_RX6_162 im_X6_isAgain (rd_M R _ _) rfl rfl ⟨rfl, rfl, rfl⟩ ?_
      refine v_if_ne (tgt := 36) g dX6_again_22 (by decide) (fun h22 => ?_) (fun h22 => ?_)
      · skip
        have h22 := zB_t0 h22
        refine v_aload_n g dX6_again_36 1 rfl ?_
        refine v_callV (As := []) (r := none) g dX6_again_37 (q_lets (D := D) (t := t) (s := s1) (a := (cpN a s 59))) cl_X6_lets ml_RX6_153 im_X6_lets (rd_M R _ _) rfl rfl ⟨rfl, rfl, rfl⟩ ?_
        refine v_meq (μ' := rem R (qS D t s (cpN a s 59)) ρ) (by rw [cpN_back a s s1 (fun j hj => hi j (by omega))]) ?_
        refine v_iload_n g dX6_again_40 0 rfl ?_
        refine v_sipush (v := 200) g dX6_again_41 (by decide) ?_
        refine v_icmp_le (tgt := 52) g dX6_again_44 (by decide) (fun h44 => ?_) (fun h44 => absurd (nI_le (a := k) (b := 200) (by omega) (by decide)) h44)
        refine v_iload_n g dX6_again_52 0 rfl ?_
        exact v_iret g E dX6_again_53 rfl ⟨by rw [he, agN, if_pos h22], rfl, rfl⟩
      · skip
        have h22 := zB_f0 h22
        refine v_aload_n g dX6_again_25 1 rfl ?_
        refine v_iconst (v := (-1)) g dX6_again_26 (by decide) ?_
        refine v_callV (As := [.int (-1)]) (r := none) g dX6_again_27 (q_passes (D := D) (t := t) (s := s1) (a := (cpN a s 59)) hs (-1)) cl_X6_passes ml_RX6_138 im_X6_passes (rd_M R _ _) rfl rfl ⟨rfl, rfl, rfl⟩ ?_
        refine v_iinc (v := (nI (k + 1))) (ls' := [(1, .int (nI (k + 1))), (0, .ref R)]) g dX6_again_30 0 rfl (nI_addE rfl rfl) rfl rfl ?_
        refine v_goto (tgt := 11) g dX6_again_33 (by decide) ?_
        refine v_sub (ls' := [(1, .int (nI (k + 1))), (0, .ref R)]) [0, 1] rfl ?_
        exact ih (k + 1) _ (by omega) (passM_ok hs (-1)) (fun j hj => (passM_hi hs (-1) j hj).trans (hi j hj)) (by rw [he, agN, if_neg (by rw [h22]; decide)])
  refine v_sub (ls' := [(0, .ref R)]) [0] rfl ?_
  refine v_aload_n g dX6_again_0 0 rfl ?_
  refine v_callV (As := []) (r := none) g dX6_again_1 (q_holds (D := D) (t := t) (s := s) (a := a)) cl_X6_holds ml_RX6_150 im_X6_holds (rd_M R _ _) rfl rfl ⟨rfl, rfl, rfl⟩ ?_
  refine v_iconst (v := 1) g dX6_again_4 (by decide) ?_
  refine v_istore_n (ls' := [(1, .int 1), (0, .ref R)]) g dX6_again_5 rfl rfl ?_
  refine v_aload_n g dX6_again_6 1 rfl ?_
  refine v_iconst (v := (-1)) g dX6_again_7 (by decide) ?_
  refine v_callV (As := [.int (-1)]) (r := none) g dX6_again_8 (q_passes (D := D) (t := t) (s := s) (a := (cpN a s 59)) hs (-1)) cl_X6_passes ml_RX6_138 im_X6_passes (rd_M R _ _) rfl rfl ⟨rfl, rfl, rfl⟩ ?_
  refine v_sub (ls' := [(1, .int 1), (0, .ref R)]) [0, 1] rfl ?_
  exact loop 200 1 _ rfl (passM_ok hs (-1)) (passM_hi hs (-1)) rfl
end R9
