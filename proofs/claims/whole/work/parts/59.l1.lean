/-! THE LAW: each of its calls, both sides -/
def OP (l : Launch) (G : GG) (fc wc fm wm : Nat) (MC MR : MD) (As : List Value) (n B : Nat) (C : CS) (D : MS) (j : Nat) : Prop := ∃ (v : Int32) (C' : CS) (D' : MS), (∀ ρ : Mu, Ctr l G fc wc 0 0 MC (.ref B :: As) n (ren B C ρ) (some (.int v)) n (ren B C' ρ)) ∧ (∀ ρ : Mu, Ctr l G fm wm 0 0 MR (.ref (B + 136) :: As) n (rem (B + 136) D ρ) (some (.int v)) n (rem (B + 136) D' ρ)) ∧ Inv C' D' (j + 1)
theorem Inv_up {C : CS} {D : MS} {j : Nat} (h : Inv C D j) : Inv C D (j + 1) := Inv_same h rfl (fun _ _ => rfl) rfl (fun _ _ _ _ => rfl) rfl rfl
theorem sE_id (C : CS) : sE C (cE C) = C := rfl
section L1
variable {l : Launch} {G : GG} {n B : Nat} {C : CS} {D : MS} {j : Nat}
theorem op_behind (h : Inv C D j) (x r : Int32) : OP l G 5 123 5 122 mX5_behind mX6_behind [.int x, .int r] n B C D j := by
  have hQ := h.1.1
  have hs := hQ.1.1
  refine ⟨(behindC C (cO C 1) x r).1, sO C 1 (behindC C (cO C 1) x r).2, qS D (D.2 1) (D.2 4) (behQ (D.2 1) (D.2 4) (D.2 8) x r).2, fun ρ => ?_, fun ρ => ?_, Inv_S h _ _⟩
  · have q := k_X5_behind (l := l) (G := G) (n := n) (B := B) (ρ := ρ) (C := C) (cO C 1) x r
    rw [sO_id] at q
    exact q
  · have q := q_behind (l := l) (G := G) (n := n) (R := B + 136) (ρ := ρ) (D := D) (a := D.2 8) hs x r
    rw [qS_id, ← behind_eq hQ (cO C 1) (D.2 8) x r] at q
    exact q
theorem op_wealth (h : Inv C D j) (x p : Int32) : OP l G 6 145 5 122 mX5_wealth mX6_wealth [.int x, .int p] n B C D j := by
  have hQ := h.1.1
  have hs := hQ.1.1
  refine ⟨(wealthC C (cO C 1) x p).1, sO C 1 (wealthC C (cO C 1) x p).2, qS D (D.2 1) (D.2 4) (weaQ (D.2 1) (D.2 4) (D.2 8) x p).2, fun ρ => ?_, fun ρ => ?_, Inv_S h _ _⟩
  · have q := k_X5_wealth (l := l) (G := G) (n := n) (B := B) (ρ := ρ) (C := C) (cO C 1) x p
    rw [sO_id] at q
    exact q
  · have q := q_wealth (l := l) (G := G) (n := n) (R := B + 136) (ρ := ρ) (D := D) (a := D.2 8) hs x p
    rw [qS_id, ← wealth_eq hQ (cO C 1) (D.2 8) x p] at q
    exact q
theorem op_comes (h : Inv C D j) (r x : Int32) : OP l G 4 98 4 99 mX5_comes mX6_comes [.int r, .int x] n B C D j := by
  have hQ := h.1.1
  have hs := hQ.1.1
  refine ⟨(comesC C (cO C 1) r x).1, sO C 1 (comesC C (cO C 1) r x).2, qS D (D.2 1) (D.2 4) (comQ (D.2 1) (D.2 4) (D.2 8) r x).2, fun ρ => ?_, fun ρ => ?_, Inv_S h _ _⟩
  · have q := k_X5_comes (l := l) (G := G) (n := n) (B := B) (ρ := ρ) (C := C) (cO C 1) r x
    rw [sO_id] at q
    exact q
  · have q := q_comes (l := l) (G := G) (n := n) (R := B + 136) (ρ := ρ) (D := D) (a := D.2 8) hs r x
    rw [qS_id, ← comes_eq hQ (cO C 1) (D.2 8) r x] at q
    exact q
theorem op_meet (h : Inv C D j) (r z : Int32) : OP l G 4 98 4 99 mX5_meet mX6_meet [.int r, .int z] n B C D j := by
  have hQ := h.1.1
  have hs := hQ.1.1
  refine ⟨(meetC C (cO C 1) r z).1, sO C 1 (meetC C (cO C 1) r z).2, qS D (D.2 1) (D.2 4) (metQ (D.2 1) (D.2 4) (D.2 8) r z).2, fun ρ => ?_, fun ρ => ?_, Inv_S h _ _⟩
  · have q := k_X5_meet (l := l) (G := G) (n := n) (B := B) (ρ := ρ) (C := C) (cO C 1) r z
    rw [sO_id] at q
    exact q
  · have q := q_meet (l := l) (G := G) (n := n) (R := B + 136) (ρ := ρ) (D := D) (a := D.2 8) hs r z
    rw [qS_id, ← meet_eq hQ (cO C 1) (D.2 8) r z] at q
    exact q
theorem op_best (h : Inv C D j) (p y w : Int32) : OP l G 6 145 5 122 mX5_best mX6_best [.int p, .int y, .int w] n B C D j := by
  have hQ := h.1.1
  have hs := hQ.1.1
  refine ⟨(bestC C (D.2 1 0) p y w (cO C 1)).1, sO C 1 (bestC C (D.2 1 0) p y w (cO C 1)).2, qS D (D.2 1) (D.2 4) (besQ (D.2 1) (D.2 4) (D.2 8) p y w).2, fun ρ => ?_, fun ρ => ?_, Inv_S h _ _⟩
  · have q := k_X5_best (l := l) (G := G) (n := n) (B := B) (ρ := ρ) (C := C) (cO C 1) (cc := D.2 1 0) (li_wi hQ.2.1) (by have := hs.2.1; omega) p y w
    rw [sO_id] at q
    exact q
  · have q := q_best (l := l) (G := G) (n := n) (R := B + 136) (ρ := ρ) (D := D) (a := D.2 8) hs hQ.1.2.1 p y w
    rw [qS_id, ← best_eq hQ (cO C 1) (D.2 8) p y w] at q
    exact q
theorem op_fits (h : Inv C D j) (r w : Int32) : OP l G 5 122 6 145 mX5_fits mX6_fits [.int r, .int w] n B C D j := by
  have hQ := h.1.1
  have hs := hQ.1.1
  refine ⟨(fitsC C (cO C 1) r w).1, sO C 1 (fitsC C (cO C 1) r w).2, qS D (D.2 1) (D.2 4) (fitQ D (D.2 1) (D.2 4) (D.2 8) r w).2, fun ρ => ?_, fun ρ => ?_, Inv_S h _ _⟩
  · have q := k_X5_fits (l := l) (G := G) (n := n) (B := B) (ρ := ρ) (C := C) (cO C 1) r w
    rw [sO_id] at q
    exact q
  · have q := q_fits (l := l) (G := G) (n := n) (R := B + 136) (ρ := ρ) (D := D) (a := D.2 8) hs h.2.1.2.1 (fun k hk => (h.2.1.2.2 k hk).2.2.2) r w
    rw [qS_id, ← fits_eq hQ h.2.1 (cO C 1) (D.2 8) r w] at q
    exact q
theorem op_frost (h : Inv C D j) (r cell y x w : Int32) : OP l G 6 152 4 99 mX5_frost mX6_frost [.int r, .int cell, .int y, .int x, .int w] n B C D j := by
  have hQ := h.1.1
  have hs := hQ.1.1
  refine ⟨(frostC C (cO C 1) r cell y x w).1, sO C 1 (frostC C (cO C 1) r cell y x w).2, qS D (D.2 1) (D.2 4) (froQ (D.2 1) (D.2 4) (D.2 8) r cell y x w).2, fun ρ => ?_, fun ρ => ?_, Inv_S h _ _⟩
  · have q := k_X5_frost (l := l) (G := G) (n := n) (B := B) (ρ := ρ) (C := C) (cO C 1) r cell y x w
    rw [sO_id] at q
    exact q
  · have q := q_frost (l := l) (G := G) (n := n) (R := B + 136) (ρ := ρ) (D := D) (a := D.2 8) hs (fun c m e cell _ hm he => frAB_lt hm he) r cell y x w
    rw [qS_id, ← frost_eq hQ (cO C 1) (D.2 8) r cell y x w] at q
    exact q
theorem op_century (h : Inv C D j) (z y w : Int32) : OP l G 5 121 4 99 mX5_century mX6_century [.int z, .int y, .int w] n B C D j := by
  have hQ := h.1.1
  have hs := hQ.1.1
  have ht : 0 < D.2 1 0 := by
    have a1 := hs.2.2.2.2.2.2.2.2.1 0 hQ.2.2.2.2.2.1
    have a2 := hs.2.2.2.2.2.2.2.2.2.1 0 hQ.2.2.2.2.2.1 0 (by omega)
    omega
  refine ⟨(cenC C (cO C 1) z y w).1, sO C 1 (cenC C (cO C 1) z y w).2, qS D (D.2 1) (D.2 4) (cenQ (D.2 1) (D.2 4) (D.2 8) z y w).2, fun ρ => ?_, fun ρ => ?_, Inv_S h _ _⟩
  · have q := k_X5_century (l := l) (G := G) (n := n) (B := B) (ρ := ρ) (C := C) (cO C 1) z y w
    rw [sO_id] at q
    exact q
  · have q := q_century (l := l) (G := G) (n := n) (R := B + 136) (ρ := ρ) (D := D) (a := D.2 8) hs ht hQ.2.2.2.2.2.1 z y w
    rw [qS_id, ← century_eq hQ ht (cO C 1) (D.2 8) z y w] at q
    exact q
theorem op_again (h : Inv C D j) : OP l G 4 98 4 99 mX5_again mX6_again [] n B C D j := by
  have hQ := h.1.1
  have hs := hQ.1.1
  refine ⟨(againC C (cO C 1)).1, sO C 1 (againC C (cO C 1)).2, qS D (D.2 1) (D.2 4) (cpN (D.2 8) (D.2 4) 59), fun ρ => ?_, fun ρ => ?_, Inv_S h _ _⟩
  · have q := k_X5_again (l := l) (G := G) (n := n) (B := B) (ρ := ρ) (C := C) (cO C 1)
    rw [sO_id] at q
    exact q
  · have q := q_again (l := l) (G := G) (n := n) (R := B + 136) (ρ := ρ) (D := D) (a := D.2 8) hs
    rw [qS_id, ← again_eq hQ (cO C 1) (D.2 8)] at q
    exact q
theorem op_ditches (h : Inv C D j) (r x y k : Int32) : OP l G 6 149 5 125 mX5_ditches mX6_ditches [.int r, .int x, .int y, .int k] n B C D j := by
  have hQ := h.1.1
  have hs := hQ.1.1
  refine ⟨(ditchesC C r x y k (cA C 4) (cE C) (cO C 1)).1, sO (sE (sA C 4 (ditchesC C r x y k (cA C 4) (cE C) (cO C 1)).2.1) (ditchesC C r x y k (cA C 4) (cE C) (cO C 1)).2.2.1) 1 (ditchesC C r x y k (cA C 4) (cE C) (cO C 1)).2.2.2, qS D (D.2 1) (D.2 4) (ditQ (D.2 1) (D.2 4) (D.2 8) r x y k).2, fun ρ => ?_, fun ρ => ?_, ?_⟩
  · have q := k_X5_ditches (l := l) (G := G) (n := n) (B := B) (ρ := ρ) (C := C) (cA C 4) (cE C) (cO C 1) r x y k
    have e : sO (sE (sA C 4 (cA C 4)) (cE C)) 1 (cO C 1) = C := by
      rw [sA_id, sE_id, sO_id]
    rw [e] at q
    exact q
  · have q := q_ditches (l := l) (G := G) (n := n) (R := B + 136) (ρ := ρ) (D := D) (a := D.2 8) hs r x y k
    rw [qS_id, ← ditches_eq hQ (D.2 8) r x y k (cA C 4) (cE C) (cO C 1)] at q
    exact q
  · refine Inv_D (D := D) (Inv_same h rfl (fun k hk => cA_sA_ne C _ (by omega)) rfl (fun i _ h1 _ => cO_sO_ne (sE (sA C 4 (ditchesC C r x y k (cA C 4) (cE C) (cO C 1)).2.1) (ditchesC C r x y k (cA C 4) (cE C) (cO C 1)).2.2.1) _ h1) rfl rfl) rfl rfl rfl rfl (fun k hk => ?_)
    rcases hk with z | z | z | z | z | z <;> subst z <;> rfl
theorem op_cell (h : Inv C D j) (x w : Int32) : OP l G 3 65 2 43 mX5_cell mX6_cell [.int x, .int w] n B C D j := by
  have hQ := h.1.1
  have hs := hQ.1.1
  refine ⟨cellR C x w, C, D, fun ρ => ?_, fun ρ => ?_, Inv_up h⟩
  · exact k_X5_cell x w
  · have q := q_cell (l := l) (G := G) (n := n) (R := B + 136) (ρ := ρ) (D := D) (t := D.2 1) (s := D.2 4) (a := D.2 8) hs x w
    rw [qS_id, ← cellR_eq hQ x w] at q
    exact q
theorem op_row (h : Inv C D j) (r w : Int32) : OP l G 2 52 3 74 mX5_row mX6_row [.int r, .int w] n B C D j := by
  have hQ := h.1.1
  have hs := hQ.1.1
  refine ⟨rowR C r w, C, D, fun ρ => ?_, fun ρ => ?_, Inv_up h⟩
  · exact k_X5_row r w
  · have q := q_row (l := l) (G := G) (n := n) (R := B + 136) (ρ := ρ) (D := D) (t := D.2 1) (s := D.2 4) (a := D.2 8) hs r w
    rw [qS_id, ← rowR_eq hQ r w] at q
    exact q
theorem op_tree (h : Inv C D j) (r k : Int32) : OP l G 1 21 2 43 mX5_tree mX6_tree [.int r, .int k] n B C D j := by
  have hQ := h.1.1
  have hs := hQ.1.1
  refine ⟨treeR C r k, C, D, fun ρ => ?_, fun ρ => ?_, Inv_up h⟩
  · exact k_X5_tree r k
  · have q := q_tree (l := l) (G := G) (n := n) (R := B + 136) (ρ := ρ) (D := D) (t := D.2 1) (s := D.2 4) (a := D.2 8) hs r k
    rw [qS_id, ← treeR_eq hQ r k] at q
    exact q
theorem op_has (h : Inv C D j) (p : Int32) : OP l G 1 20 1 22 mX5_has mX6_has [.int p] n B C D j := by
  have hQ := h.1.1
  have hs := hQ.1.1
  refine ⟨hasR C p, C, D, fun ρ => ?_, fun ρ => ?_, Inv_up h⟩
  · exact k_X5_has p
  · have q := q_has (l := l) (G := G) (n := n) (R := B + 136) (ρ := ρ) (D := D) (t := D.2 1) (s := D.2 4) (a := D.2 8) p
    rw [qS_id, ← hasR_eq hQ p] at q
    exact q
theorem op_count (h : Inv C D j) (w : Int32) : OP l G 1 22 2 44 mX5_count mX6_count [.int w] n B C D j := by
  have hQ := h.1.1
  have hs := hQ.1.1
  refine ⟨countR C w, C, D, fun ρ => ?_, fun ρ => ?_, Inv_up h⟩
  · exact k_X5_count w
  · have q := q_count (l := l) (G := G) (n := n) (R := B + 136) (ρ := ρ) (D := D) (t := D.2 1) (s := D.2 4) (a := D.2 8) hs w
    rw [qS_id, ← countR_eq h w] at q
    exact q
theorem op_pass (h : Inv C D j) (hj : j < 64) (x : Int32) : OP l G 5 121 4 99 mX5_pass mX6_pass [.int x] n B C D j := by
  have hQ := h.1.1
  have hs := hQ.1.1
  obtain ⟨pm, hpm⟩ := h.2.2.2.1
  obtain ⟨e, hI⟩ := pass_all h hj hpm x (D.2 8)
  refine ⟨(passC C D.1.2.1 pm x).1, (passC C D.1.2.1 pm x).2, _, fun ρ => k_X5_pass hpm.1 x, fun ρ => ?_, hI⟩
  have q := q_pass (l := l) (G := G) (n := n) (R := B + 136) (ρ := ρ) (D := D) (a := D.2 8) hs hpm.1.2.1 x
  rw [qS_id, ← e] at q
  exact q
theorem op_dig (h : Inv C D j) (x : Int32) : OP l G 3 65 2 45 mX5_dig mX6_dig [.int x] n B C D j := by
  have hQ := h.1.1
  have hs := hQ.1.1
  obtain ⟨pm, hpm⟩ := h.2.2.2.1
  obtain ⟨e, hI⟩ := dig_all h hpm x (D.2 8)
  refine ⟨(digW C D.1.2.1 pm x).1, (digW C D.1.2.1 pm x).2, _, fun ρ => k_X5_dig hpm.1 x, fun ρ => ?_, hI⟩
  have q := q_dig (l := l) (G := G) (n := n) (R := B + 136) (ρ := ρ) (D := D) (a := D.2 8) hs hpm.1.2.1 x
  rw [qS_id, ← e] at q
  exact q
theorem op_fill (h : Inv C D j) (x : Int32) : OP l G 3 65 2 44 mX5_fill mX6_fill [.int x] n B C D j := by
  have hQ := h.1.1
  have hs := hQ.1.1
  obtain ⟨pm, hpm⟩ := h.2.2.2.1
  obtain ⟨e, hI⟩ := fill_all h hpm x (D.2 8)
  refine ⟨(fillW C D.1.2.1 pm x).1, (fillW C D.1.2.1 pm x).2, _, fun ρ => k_X5_fill hpm.1 x, fun ρ => ?_, hI⟩
  have q := q_fill (l := l) (G := G) (n := n) (R := B + 136) (ρ := ρ) (D := D) (a := D.2 8) hs hpm.1.2.1 x
  rw [qS_id, ← e] at q
  exact q
theorem op_leave (h : Inv C D j) (x : Int32) : OP l G 3 65 2 43 mX5_leave mX6_leave [.int x] n B C D j := by
  have hQ := h.1.1
  have hs := hQ.1.1
  obtain ⟨pm, hpm⟩ := h.2.2.2.1
  obtain ⟨e, hI⟩ := leave_all h hpm x (D.2 8)
  refine ⟨(leaveW C D.1.2.1 pm x).1, (leaveW C D.1.2.1 pm x).2, _, fun ρ => k_X5_leave hpm.1 x, fun ρ => ?_, hI⟩
  have q := q_leave (l := l) (G := G) (n := n) (R := B + 136) (ρ := ρ) (D := D) (a := D.2 8) hs hpm.1.2.1 x
  rw [qS_id, ← e] at q
  exact q
theorem op_undo (h : Inv C D j) : OP l G 3 65 0 0 mX5_undo mX6_undo [] n B C D j := by
  have hQ := h.1.1
  have hs := hQ.1.1
  obtain ⟨pm, hpm⟩ := h.2.2.2.1
  obtain ⟨e, hI⟩ := undo_all h hpm (D.2 8)
  refine ⟨(undoC C D.1.2.1 pm).1, (undoC C D.1.2.1 pm).2, _, fun ρ => k_X5_undo hpm.1, fun ρ => ?_, hI⟩
  have q := q_undo (l := l) (G := G) (n := n) (R := B + 136) (ρ := ρ) (D := D) (t := D.2 1) (s := D.2 4) (a := D.2 8) hpm.1.2.1
  rw [qS_id, ← e] at q
  exact q
theorem op_keep (h : Inv C D j) : OP l G 3 65 0 0 mX5_keep mX6_keep [] n B C D j := by
  have hQ := h.1.1
  have hs := hQ.1.1
  obtain ⟨e, hI⟩ := keep_all h (D.2 8)
  refine ⟨(keepC C D.1.2.2.1 (fun k => 11 + k)).1, (keepC C D.1.2.2.1 (fun k => 11 + k)).2, _, fun ρ => k_X5_keep h.2.2.2.2.1, fun ρ => ?_, hI⟩
  have q := q_keep (l := l) (G := G) (n := n) (R := B + 136) (ρ := ρ) (D := D) (t := D.2 1) (s := D.2 4) (a := D.2 8) h.2.2.2.2.1.2.1
  rw [qS_id, ← e] at q
  exact q
theorem op_back (h : Inv C D j) : OP l G 3 65 0 0 mX5_back mX6_back [] n B C D j := by
  have hQ := h.1.1
  have hs := hQ.1.1
  obtain ⟨e, hI⟩ := back_all h (D.2 8)
  refine ⟨(backC C D.1.2.2.1 (fun k => 11 + k)).1, (backC C D.1.2.2.1 (fun k => 11 + k)).2, _, fun ρ => k_X5_back h.2.2.2.2.1, fun ρ => ?_, hI⟩
  have q := q_back (l := l) (G := G) (n := n) (R := B + 136) (ρ := ρ) (D := D) (t := D.2 1) (s := D.2 4) (a := D.2 8) h.2.2.2.2.1.2.1
  rw [qS_id, ← e] at q
  exact q
theorem op_see (h : Inv C D j) (r x y : Int32) : OP l G 1 22 2 43 mX5_see mX6_see [.int r, .int x, .int y] n B C D j := by
  have hQ := h.1.1
  have hs := hQ.1.1
  obtain ⟨e, hI⟩ := see_all h r x y (D.2 8)
  refine ⟨(seeC C r x y).1, (seeC C r x y).2, _, fun ρ => k_X5_see r x y, fun ρ => ?_, hI⟩
  have q := q_see (l := l) (G := G) (n := n) (R := B + 136) (ρ := ρ) (D := D) (a := D.2 8) hs h.2.1.2.1 r x y
  rw [qS_id, ← e] at q
  exact q
theorem op_forget (h : Inv C D j) : OP l G 0 0 0 0 mX5_forget mX6_forget [] n B C D j := by
  have hQ := h.1.1
  have hs := hQ.1.1
  obtain ⟨e, hI⟩ := forget_all h (D.2 8)
  refine ⟨(cW C).2, sW C ((cW C).1, 0), _, fun ρ => k_X5_forget, fun ρ => ?_, hI⟩
  have q := q_forget (l := l) (G := G) (n := n) (R := B + 136) (ρ := ρ) (D := D) (t := D.2 1) (s := D.2 4) (a := D.2 8)
  rw [qS_id, ← e] at q
  exact q
theorem op_write (h : Inv C D j) (x : Int32) : OP l G 0 0 1 22 mX5_write mX6_write [.int x] n B C D j := by
  have hQ := h.1.1
  have hs := hQ.1.1
  obtain ⟨e, hI⟩ := write_all h x
  refine ⟨(writeC C x).1, (writeC C x).2, _, fun ρ => k_X5_write x, fun ρ => ?_, hI⟩
  rw [e]
  exact k_X6_write h.2.2.1.2.1 x
theorem op_wipe (h : Inv C D j) : OP l G 0 0 0 0 mX5_wipe mX6_wipe [] n B C D j := by
  have hQ := h.1.1
  have hs := hQ.1.1
  obtain ⟨e, hI⟩ := wipe_all h
  refine ⟨(cW C).1, sW C (0, (cW C).2), _, fun ρ => k_X5_wipe, fun ρ => ?_, hI⟩
  rw [e]
  exact k_X6_wipe
theorem op_fault (h : Inv C D j) : OP l G 6 135 6 141 mX5_fault mX6_fault [] n B C D j := by
  have hQ := h.1.1
  have hs := hQ.1.1
  obtain ⟨e, hI⟩ := fault_all h
  refine ⟨(rtRun 200 (cA C 0) (cW C).1 C).1, faultS C, _, fun ρ => k_X5_fault h.2.2.1.2.2.2, fun ρ => ?_, hI⟩
  rw [e]
  exact k_X6_fault h.2.2.1.2.1
theorem op_lay (h : Inv C D j) : OP l G 6 135 6 141 mX5_lay mX6_lay [] n B C D j := by
  have hQ := h.1.1
  have hs := hQ.1.1
  obtain ⟨e, hI⟩ := lay_all h
  refine ⟨(layC C).1, (layC C).2, _, fun ρ => k_X5_lay h.2.2.1.2.2.2, fun ρ => ?_, hI⟩
  rw [e]
  exact k_X6_lay h.2.2.1.2.1
end L1
