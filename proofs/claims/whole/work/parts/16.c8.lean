/-! CLASS: its own methods (2): what comes -/
def orDit (o : OV) (d : Int64) : OV := (o.1, o.2.1, (o.2.2.1 ||| d), o.2.2.2)
def putRow (o : OV) (r : Nat) (v : RV) : OV := (o.1, o.2.1, o.2.2.1, o.2.2.2.1, o.2.2.2.2.1, o.2.2.2.2.2.1, o.2.2.2.2.2.2.1, va_up o.2.2.2.2.2.2.2 r v)
theorem st_O1 (B : Nat) (C : CS) (ρ : Mu) (a : OV) (rc' yr' : Int32) (di' le' ta' en' : Int64) : mset (ren B (sO C 1 a) ρ) (adO B 1) (orCe (adL B 0) (adRs B 1) (adOw B 1) rc' yr' di' le' ta' en') = ren B (sO C 1 (rc', yr', di', le', ta', en', a.2.2.2.2.2.2)) ρ := st_O B C ρ (i := 1) a.1 a.2.1 a.2.2.1 a.2.2.2.1 a.2.2.2.2.1 a.2.2.2.2.2.1 a.2.2.2.2.2.2.1 a.2.2.2.2.2.2.2 (by decide) rc' yr' di' le' ta' en'
theorem st_R1 (B : Nat) (C : CS) (ρ : Mu) (a : OV) {r : Nat} (hr : r < 3) (sz' kd' hd' be' : Int32) : mset (ren B (sO C 1 a) ρ) (adR B 1 r) (rowCe (adT B 1 r) sz' kd' hd' be') = ren B (sO C 1 (putRow a r (sz', kd', hd', be', (a.2.2.2.2.2.2.2 r).2.2.2.2))) ρ := by
  have h := st_Rf B C ρ (i := 1) a.1 a.2.1 a.2.2.1 a.2.2.2.1 a.2.2.2.2.1 a.2.2.2.2.2.1 a.2.2.2.2.2.2.1 a.2.2.2.2.2.2.2 (by decide) hr (a.2.2.2.2.2.2.2 r).1 (a.2.2.2.2.2.2.2 r).2.1 (a.2.2.2.2.2.2.2 r).2.2.1 (a.2.2.2.2.2.2.2 r).2.2.2.1 sz' kd' hd' be' (a.2.2.2.2.2.2.2 r).2.2.2.2
  have e0 : va_up a.2.2.2.2.2.2.2 r ((a.2.2.2.2.2.2.2 r).1, (a.2.2.2.2.2.2.2 r).2.1, (a.2.2.2.2.2.2.2 r).2.2.1, (a.2.2.2.2.2.2.2 r).2.2.2.1, (a.2.2.2.2.2.2.2 r).2.2.2.2) = a.2.2.2.2.2.2.2 := va_up_id _ _
  rw [e0] at h
  exact h
theorem st_A4 (B : Nat) (C : CS) (ρ : Mu) (fd : Nat → Int32) (en : Nat → Int64) (a : OV) (fd' : Nat → Int32) : mset (ren B (sO (sE (sA C 4 fd) en) 1 a) ρ) (adA B 4) (iA 2 fd') = ren B (sO (sE (sA C 4 fd') en) 1 a) ρ := by
  refine (st_A B (sO (sE (sA C 4 fd) en) 1 a) ρ (k := 4) (by decide) fd').trans (congrArg (fun Z => ren B Z ρ) ?_)
  exact congrArg (fun Z => sO (sE Z en) 1 a) (sA_sA C 4 fd fd')
theorem st_E4 (B : Nat) (C : CS) (ρ : Mu) (fd : Nat → Int32) (en : Nat → Int64) (a : OV) (en' : Nat → Int64) : mset (ren B (sO (sE (sA C 4 fd) en) 1 a) ρ) (B + 134) (.inl (1, 36, .inr (.inl en'))) = ren B (sO (sE (sA C 4 fd) en') 1 a) ρ := st_E B (sO (sE (sA C 4 fd) en) 1 a) ρ en'
def goYs (L : LV) (s : Int32) : Nat → OV → OV
  | 0, o => o
  | m + 1, o => goYs L s m (goYearC L s o)
def firstR (o : OV) (r : Int32) : Int32 := if orHoldsC o.1 r = true then (o.2.2.2.2.2.2.2 r.toNatClampNeg).2.2.2.2 0 else -4
def ownR (o : OV) (p : Int32) : Int32 := if isOwnC p = true then o.2.2.2.2.2.2.1 p.toNatClampNeg else 0
def ftbA (C : CS) (a : OV) (m : Nat) (d : Int64) : OV := goYs (cL C 0) (-4) m (orDit (copyC a (cO C 0)) d)
def obA (C : CS) (a : OV) (m : Nat) (d : Int64) : OV := yearsC (cL C 0) m (orDit (copyC a (cO C 0)) d)
def behindC (C : CS) (a : OV) (x r : Int32) : Int32 × OV := if withinC x 0 60 = false then (-1, a) else if rC C r = false then (-1, a) else (firstR (ftbA C a x.toNatClampNeg 0) r, ftbA C a x.toNatClampNeg 0)
def wealthC (C : CS) (a : OV) (x p : Int32) : Int32 × OV := if withinC x 0 60 = false then (-1, a) else if isOwnC p = false then (-1, a) else (ownR (obA C a x.toNatClampNeg 0) p, obA C a x.toNatClampNeg 0)
def comFrom (L : LV) (r : Nat) (x : Int32) : Nat → Nat → OV → Int32 × OV
  | 0, _, a => (-4, a)
  | q + 1, j, a => if (a.2.2.2.2.2.2.2 r).2.2.2.2 0 = x then (nI j, a) else comFrom L r x q (j + 1) (goYearC L (-4) a)
def comesC (C : CS) (a : OV) (r x : Int32) : Int32 × OV := if rC C r = false then (-1, a) else if hC C x = false then (-1, a) else comFrom (cL C 0) r.toNatClampNeg x 61 0 (copyC a (cO C 0))
def sideO (L : LV) (o : OV) (r q : Nat) : Bool := sideC L.2.2.2.1 L.2.2.2.2.1 (o.2.2.2.2.2.2.2 r).1 (o.2.2.2.2.2.2.2 r).2.2.2.2 (rowCellsC (o.2.2.2.2.2.2.2 q).1 (o.2.2.2.2.2.2.2 q).2.2.2.2)
def metFrom (L : LV) (r s : Nat) : Nat → Nat → OV → Int32 × OV
  | 0, _, a => (-4, a)
  | q + 1, j, a => if sideO L a r s = true then (nI j, a) else metFrom L r s q (j + 1) (goYearC L (-4) a)
def meetC (C : CS) (a : OV) (r q : Int32) : Int32 × OV := if rC C r = false then (-1, a) else if rC C q = false then (-1, a) else if r = q then (-1, a) else metFrom (cL C 0) r.toNatClampNeg q.toNatClampNeg 61 0 (copyC a (cO C 0))
def agaFrom (L : LV) (o : OV) : Nat → Nat → OV → Int32 × OV
  | 0, _, a => (-4, a)
  | q + 1, j, a => if standsAsC (goYearC L (-4) a) o = true then (nI j, goYearC L (-4) a) else agaFrom L o q (j + 1) (goYearC L (-4) a)
def againC (C : CS) (a : OV) : Int32 × OV := agaFrom (cL C 0) (cO C 0) 200 1 (copyC a (cO C 0))
abbrev DS : Type := Int32 × (Nat → Int32) × (Nat → Int64) × OV
def cellsC (C : CS) : Int32 := (cL C 0).2.2.2.1 * (cL C 0).2.2.2.2.1
def n1From (C : CS) (m : Nat) (r x : Int32) (ent : Int64) : Nat → Nat → (Nat → Int32) → (Nat → Int64) → OV → DS
  | 0, _, fd, en, a => (-4, fd, en, a)
  | q + 1, k, fd, en, a => if cellsC C ≤ nI k then (-4, fd, en, a)
    else if dC0 C (nI k) = false then n1From C m r x ent q (k + 1) fd (vp_updL en k ent) a
    else if ctn ent (nI k) = false then n1From C m r x ent q (k + 1) fd (vp_updL en k ent) a
    else if firstR (ftbA C a m (bitC (nI k))) r = x then (1, upd fd 0 (nI k), vp_updL en k ent, ftbA C a m (bitC (nI k)))
    else n1From C m r x ent q (k + 1) fd (vp_updL (vp_updL en k ent) k (ftbA C a m (bitC (nI k))).2.2.2.2.2.1) (ftbA C a m (bitC (nI k)))
def noneOne (C : CS) (m : Nat) (r x : Int32) (fd : Nat → Int32) (en : Nat → Int64) (a : OV) : DS := if firstR (ftbA C a m 0) r = x then (0, fd, en, ftbA C a m 0) else n1From C m r x (ftbA C a m 0).2.2.2.2.2.1 36 0 fd en (ftbA C a m 0)
def t2In (C : CS) (m : Nat) (r x : Int32) (en : Nat → Int64) (k : Nat) : Nat → Nat → (Nat → Int32) → OV → Bool × (Nat → Int32) × OV
  | 0, _, fd, a => (false, fd, a)
  | q + 1, b, fd, a => if cellsC C ≤ nI b then (false, fd, a)
    else if ctn (en k) (nI b) = false then t2In C m r x en k q (b + 1) fd a
    else if ctn (en b) (nI k) = false then t2In C m r x en k q (b + 1) fd a
    else if dC0 C (nI b) = false then t2In C m r x en k q (b + 1) fd a
    else if firstR (ftbA C a m (bitC (nI k) ||| bitC (nI b))) r = x then (true, upd (upd fd 0 (nI k)) 1 (nI b), ftbA C a m (bitC (nI k) ||| bitC (nI b)))
    else t2In C m r x en k q (b + 1) fd (ftbA C a m (bitC (nI k) ||| bitC (nI b)))
def t2Out (C : CS) (m : Nat) (r x : Int32) (en : Nat → Int64) : Nat → Nat → (Nat → Int32) → OV → Int32 × (Nat → Int32) × OV
  | 0, _, fd, a => (-4, fd, a)
  | q + 1, k, fd, a => if cellsC C ≤ nI k then (-4, fd, a)
    else if dC0 C (nI k) = false then t2Out C m r x en q (k + 1) fd a
    else if (t2In C m r x en k q (k + 1) fd a).1 = true then (2, (t2In C m r x en k q (k + 1) fd a).2)
    else t2Out C m r x en q (k + 1) (t2In C m r x en k q (k + 1) fd a).2.1 (t2In C m r x en k q (k + 1) fd a).2.2
section C8
variable {l : Launch} {G : GG} {n : Nat} {B : Nat} {C : CS} {ρ : Mu}
theorem k_holdsOC {i : Nat} (hi : i < 13) (r : Int32) : Ctr l G 0 0 0 0 mX1_holds [.ref (adO B i), .int r] n (ren B C ρ) (some (.int (zB (orHoldsC (cO C i).1 r)))) n (ren B C ρ) := k_X1_holds (μ := ren B C ρ) (oo := adO B i) (la := adL B (landOf i)) (rs := adRs B i) (oow := adOw B i) (rc := (cO C i).1) (yr := (cO C i).2.1) (di := (cO C i).2.2.1) (le := (cO C i).2.2.2.1) (ta := (cO C i).2.2.2.2.1) (en := (cO C i).2.2.2.2.2.1) (rd_O B C ρ hi) r
theorem k_holdsLC {i : Nat} (hi : i < 2) (x : Int32) : Ctr l G 0 0 0 0 mX0_holds [.ref (adL B i), .int x] n (ren B C ρ) (some (.int (zB (holdsC (cL C i).2.2.2.1 (cL C i).2.2.2.2.1 x)))) n (ren B C ρ) := k_X0_holds (μ := ren B C ρ) (lo := adL B i) (ow := adLo B i) (F := (cL C i).1) (Hd := (cL C i).2.1) (Br := (cL C i).2.2.1) (li := (cL C i).2.2.2.1) (wi := (cL C i).2.2.2.2.1) (rd_L B C ρ hi) x
theorem k_cellsLC {i : Nat} (hi : i < 2) : Ctr l G 0 0 0 0 mX0_cells [.ref (adL B i)] n (ren B C ρ) (some (.int ((cL C i).2.2.2.1 * (cL C i).2.2.2.2.1))) n (ren B C ρ) := k_X0_cells (μ := ren B C ρ) (lo := adL B i) (ow := adLo B i) (F := (cL C i).1) (Hd := (cL C i).2.1) (Br := (cL C i).2.2.1) (li := (cL C i).2.2.2.1) (wi := (cL C i).2.2.2.2.1) (rd_L B C ρ hi)
theorem k_cellsN {cc : Nat} (h : cellsC C = nI cc) : Ctr l G 0 0 0 0 mX0_cells [.ref (adL B 0)] n (ren B C ρ) (some (.int (nI cc))) n (ren B C ρ) := h ▸ k_cellsLC (i := 0) (by decide)
theorem k_sideO {i : Nat} (hi : i < 13) {r q : Nat} (hr : r < 3) (hq : q < 3) : Ctr l G 2 47 0 0 mX1_areSideBySide [.ref (adO B i), .ref (adR B i r), .ref (adR B i q)] n (ren B C ρ) (some (.int (zB (sideO (cL C (landOf i)) (cO C i) r q)))) n (ren B C ρ) := k_X1_areSideBySide (μ := ren B C ρ) (oo := adO B i) (la := adL B (landOf i)) (rsa := adRs B i) (oow := adOw B i) (rc := (cO C i).1) (yr := (cO C i).2.1) (di := (cO C i).2.2.1) (le := (cO C i).2.2.2.1) (ta := (cO C i).2.2.2.2.1) (en := (cO C i).2.2.2.2.2.1) (rd_O B C ρ hi) (low := adLo B (landOf i)) (F := (cL C (landOf i)).1) (Hd := (cL C (landOf i)).2.1) (Br := (cL C (landOf i)).2.2.1) (li := (cL C (landOf i)).2.2.2.1) (wi := (cL C (landOf i)).2.2.2.2.1) (rd_L B C ρ (landOf_lt i)) (ro := adR B i r) (tr := adT B i r) (sz := ((cO C i).2.2.2.2.2.2.2 r).1) (kd := ((cO C i).2.2.2.2.2.2.2 r).2.1) (hd := ((cO C i).2.2.2.2.2.2.2 r).2.2.1) (be := ((cO C i).2.2.2.2.2.2.2 r).2.2.2.1) (rd_R B C ρ hi hr) (t := ((cO C i).2.2.2.2.2.2.2 r).2.2.2.2) (rd_T B C ρ hi hr) (ro' := adR B i q) (tr' := adT B i q) (sz' := ((cO C i).2.2.2.2.2.2.2 q).1) (kd' := ((cO C i).2.2.2.2.2.2.2 q).2.1) (hd' := ((cO C i).2.2.2.2.2.2.2 q).2.2.1) (be' := ((cO C i).2.2.2.2.2.2.2 q).2.2.2.1) (rd_R B C ρ hi hq) (t' := ((cO C i).2.2.2.2.2.2.2 q).2.2.2.2) (rd_T B C ρ hi hq)
theorem k_standsAsC (a : OV) : Ctr l G 1 22 0 0 mX1_standsAs [.ref (adO B 1), .ref (adO B 0)] n (ren B (sO C 1 a) ρ) (some (.int (zB (standsAsC a (cO C 0))))) n (ren B (sO C 1 a) ρ) := k_X1_standsAs (C := C) (i := 1) (by decide) a.1 a.2.1 a.2.2.1 a.2.2.2.1 a.2.2.2.2.1 a.2.2.2.2.2.1 a.2.2.2.2.2.2.1 a.2.2.2.2.2.2.2 (j := 0) (by decide) (by decide) (rc2 := (cO C 0).1) (yr2 := (cO C 0).2.1) (di2 := (cO C 0).2.2.1) (le2 := (cO C 0).2.2.2.1) (ta2 := (cO C 0).2.2.2.2.1) (en2 := (cO C 0).2.2.2.2.2.1) (ow2 := (cO C 0).2.2.2.2.2.2.1) (rs2 := (cO C 0).2.2.2.2.2.2.2) rfl
theorem k_X5_firstTreeBehind (a : OV) {m : Nat} (hm : m < 2 ^ 31) (r : Int32) (d : Int64) : Ctr l G 4 98 0 0 mX5_firstTreeBehind [.ref B, .int (nI m), .int r, .long d] n (ren B (sO C 1 a) ρ) (some (.int (firstR (ftbA C a m d) r))) n (ren B (sO C 1 (ftbA C a m d)) ρ) := by
  refine Ctr.of (by decide +kernel) rfl (fun X g E => ?_)
  have loop : ∀ (q j : Nat) (b : OV), j + q = m → ftbA C a m d = goYs (cL C 0) (-4) q b → V X 0 0 n (ren B (sO C 1 b) ρ) 27 [(5, .int (nI j)), (0, .ref B), (1, .int (nI m)), (2, .int r), (3, .long d)] [] := by
    intro q
    induction q with
    | zero =>
      intro j b hq he
      refine v_iload g dX5_firstTreeBehind_27 0 rfl ?_
      refine v_iload_n g dX5_firstTreeBehind_29 2 rfl ?_
      refine v_icmp_ge (tgt := 48) g dX5_firstTreeBehind_30 (by decide) (fun h30 => ?_) (fun h30 => absurd (nI_le (a := m) (b := j) (by omega) (by omega)) h30)
      refine v_aload_n g dX5_firstTreeBehind_48 1 rfl ?_
      refine v_get g dX5_firstTreeBehind_49 fl_RX5_29 (rd_W B _ _) rfl ?_
      refine v_iload_n g dX5_firstTreeBehind_52 3 rfl ?_
      refine v_callV (As := [.int r]) (r := some (.int (zB (orHoldsC b.1 r)))) g dX5_firstTreeBehind_53 (k_holdsOC (C := sO C 1 b) (i := 1) (by decide) r) cl_X1_holds ml_RX5_125 im_X1_holds (rd_O B _ _ (by decide)) rfl rfl ⟨rfl, rfl, rfl⟩ ?_
      refine v_if_eq (tgt := 74) g dX5_firstTreeBehind_56 (by decide) (fun h56 => ?_) (fun h56 => ?_)
      · skip
        have h56 := zB_f0 h56
        refine v_bipush (v := (-4)) g dX5_firstTreeBehind_74 (by decide) ?_
        exact v_iret g E dX5_firstTreeBehind_76 rfl ⟨by first | (rw [he]; simp only [goYs, firstR, *, ↓reduceIte, nI_clamp (show r0 < 2 ^ 31 by omega), Bool.false_eq_true]; done) | (rw [he]; simp only [goYs, firstR, h56, ↓reduceIte, Bool.false_eq_true]; done) | (rw [he]; simp [goYs, firstR, *]), rfl, by rw [he]; rfl⟩
      · skip
        have h56 := zB_t0 h56
        obtain ⟨r0, hr0, er0⟩ := orHolds_nI h56
        subst er0
        refine v_aload_n g dX5_firstTreeBehind_59 1 rfl ?_
        refine v_get g dX5_firstTreeBehind_60 fl_RX5_29 (rd_W B _ _) rfl ?_
        refine v_get g dX5_firstTreeBehind_63 fl_RX5_126 (rd_O B _ _ (by decide)) rfl ?_
        refine v_iload_n g dX5_firstTreeBehind_66 3 rfl ?_
        refine v_aaldR (v := .ref (adR B 1 r0)) g dX5_firstTreeBehind_67 (rd_Rs B _ _ (by decide)) (vp_in_nI (by omega) (by decide)) (by rw [nI_clamp (by omega)]; rfl) ?_
        refine v_callV (As := []) (r := some (.int ((b.2.2.2.2.2.2.2 r0).2.2.2.2 0))) g dX5_firstTreeBehind_68 (k_X4_first (rd_R B _ _ (by decide) hr0) (rd_T B _ _ (by decide) hr0)) cl_X4_first ml_RX5_144 im_X4_first (rd_R B _ _ (by decide) hr0) rfl rfl ⟨rfl, rfl, rfl⟩ ?_
        refine v_goto (tgt := 76) g dX5_firstTreeBehind_71 (by decide) ?_
        exact v_iret g E dX5_firstTreeBehind_76 rfl ⟨by first | (rw [he]; simp only [goYs, firstR, *, ↓reduceIte, nI_clamp (show r0 < 2 ^ 31 by omega), Bool.false_eq_true]; done) | (rw [he]; simp only [goYs, firstR, h56, ↓reduceIte, Bool.false_eq_true]; done) | (rw [he]; simp [goYs, firstR, *]), rfl, by rw [he]; rfl⟩
    | succ q ih =>
      intro j b hq he
      refine v_iload g dX5_firstTreeBehind_27 0 rfl ?_
      refine v_iload_n g dX5_firstTreeBehind_29 2 rfl ?_
      refine v_icmp_ge (tgt := 48) g dX5_firstTreeBehind_30 (by decide) (fun h30 => absurd h30 (nI_ge (a := j) (b := m) (by omega) hm)) (fun h30 => ?_)
      refine v_aload_n g dX5_firstTreeBehind_33 1 rfl ?_
      refine v_get g dX5_firstTreeBehind_34 fl_RX5_29 (rd_W B _ _) rfl ?_
      refine v_bipush (v := (-4)) g dX5_firstTreeBehind_37 (by decide) ?_
      refine v_callV (As := [.int (-4)]) (r := none) g dX5_firstTreeBehind_39 (k_X1_goYear (C := C) (i := 1) (by decide) (L := cL C 0) rfl b (-4)) cl_X1_goYear ml_RX5_210 im_X1_goYear (rd_O B _ _ (by decide)) rfl rfl ⟨rfl, rfl, rfl⟩ ?_
      refine v_iinc (v := nI (j + 1)) (ls' := [(5, .int (nI (j + 1))), (0, .ref B), (1, .int (nI m)), (2, .int r), (3, .long d)]) g dX5_firstTreeBehind_42 0 rfl (nI_1 j) rfl rfl ?_
      refine v_goto (tgt := 27) g dX5_firstTreeBehind_45 (by decide) ?_
      refine v_sub (ls' := [(5, .int (nI (j + 1))), (0, .ref B), (1, .int (nI m)), (2, .int r), (3, .long d)]) [0, 1, 2, 3, 4] rfl ?_
      exact ih (j + 1) _ (by omega) (by rw [he, goYs])
  refine v_sub (ls' := [(0, .ref B), (1, .int (nI m)), (2, .int r), (3, .long d)]) [0, 1, 2, 3] rfl ?_
  refine v_aload_n g dX5_firstTreeBehind_0 0 rfl ?_
  refine v_get g dX5_firstTreeBehind_1 fl_RX5_29 (rd_W B _ _) rfl ?_
  refine v_aload_n g dX5_firstTreeBehind_4 0 rfl ?_
  refine v_get g dX5_firstTreeBehind_5 fl_RX5_25 (rd_W B _ _) rfl ?_
  refine v_callV (As := [.ref (adO B 0)]) (r := none) g dX5_firstTreeBehind_8 (k_orCopy (C := C) (i := 1) (j := 0) (by decide) (by decide) (by decide) a) cl_X1_copyFrom ml_RX5_87 im_X1_copyFrom (rd_O B _ _ (by decide)) rfl rfl ⟨rfl, rfl, rfl⟩ ?_
  refine v_aload_n g dX5_firstTreeBehind_11 0 rfl ?_
  refine v_get g dX5_firstTreeBehind_12 fl_RX5_29 (rd_W B _ _) rfl ?_
  refine v_dup g dX5_firstTreeBehind_15 rfl ?_
  refine v_get g dX5_firstTreeBehind_16 fl_RX5_114 (rd_O B _ _ (by decide)) rfl ?_
  refine v_lload_n g dX5_firstTreeBehind_19 3 rfl ?_
  refine v_lor g dX5_firstTreeBehind_20 ?_
  refine v_put g dX5_firstTreeBehind_21 fl_RX5_114 (rd_O B _ _ (by decide)) ⟨rfl, rfl⟩ rfl ?_
  refine v_meq (st_O1 B _ _ _ ((copyC a (cO C 0)).1) ((copyC a (cO C 0)).2.1) ((copyC a (cO C 0)).2.2.1 ||| d) ((copyC a (cO C 0)).2.2.2.1) ((copyC a (cO C 0)).2.2.2.2.1) ((copyC a (cO C 0)).2.2.2.2.2.1)) ?_
  refine v_iconst (v := 0) g dX5_firstTreeBehind_24 (by decide) ?_
  refine v_istore (ls' := [(5, .int 0), (0, .ref B), (1, .int (nI m)), (2, .int r), (3, .long d)]) g dX5_firstTreeBehind_25 rfl rfl ?_
  refine v_sub (ls' := [(5, .int 0), (0, .ref B), (1, .int (nI m)), (2, .int r), (3, .long d)]) [0, 1, 2, 3, 4] rfl ?_
  exact loop m 0 _ (by omega) rfl
theorem k_X5_ownedBehind (a : OV) {m : Nat} (hm : m < 2 ^ 31) (p : Int32) (d : Int64) : Ctr l G 5 121 0 0 mX5_ownedBehind [.ref B, .int (nI m), .int p, .long d] n (ren B (sO C 1 a) ρ) (some (.int (ownR (obA C a m d) p))) n (ren B (sO C 1 (obA C a m d)) ρ) := by
  refine Ctr.of (by decide +kernel) rfl (fun X g E => ?_)
  refine v_sub (ls' := [(0, .ref B), (1, .int (nI m)), (2, .int p), (3, .long d)]) [0, 1, 2, 3] rfl ?_
  refine v_aload_n g dX5_ownedBehind_0 0 rfl ?_
  refine v_get g dX5_ownedBehind_1 fl_RX5_29 (rd_W B _ _) rfl ?_
  refine v_aload_n g dX5_ownedBehind_4 0 rfl ?_
  refine v_get g dX5_ownedBehind_5 fl_RX5_25 (rd_W B _ _) rfl ?_
  refine v_callV (As := [.ref (adO B 0)]) (r := none) g dX5_ownedBehind_8 (k_orCopy (C := C) (i := 1) (j := 0) (by decide) (by decide) (by decide) a) cl_X1_copyFrom ml_RX5_87 im_X1_copyFrom (rd_O B _ _ (by decide)) rfl rfl ⟨rfl, rfl, rfl⟩ ?_
  refine v_aload_n g dX5_ownedBehind_11 0 rfl ?_
  refine v_get g dX5_ownedBehind_12 fl_RX5_29 (rd_W B _ _) rfl ?_
  refine v_dup g dX5_ownedBehind_15 rfl ?_
  refine v_get g dX5_ownedBehind_16 fl_RX5_114 (rd_O B _ _ (by decide)) rfl ?_
  refine v_lload_n g dX5_ownedBehind_19 3 rfl ?_
  refine v_lor g dX5_ownedBehind_20 ?_
  refine v_put g dX5_ownedBehind_21 fl_RX5_114 (rd_O B _ _ (by decide)) ⟨rfl, rfl⟩ rfl ?_
  refine v_meq (st_O1 B _ _ _ ((copyC a (cO C 0)).1) ((copyC a (cO C 0)).2.1) ((copyC a (cO C 0)).2.2.1 ||| d) ((copyC a (cO C 0)).2.2.2.1) ((copyC a (cO C 0)).2.2.2.2.1) ((copyC a (cO C 0)).2.2.2.2.2.1)) ?_
  refine v_aload_n g dX5_ownedBehind_24 0 rfl ?_
  refine v_get g dX5_ownedBehind_25 fl_RX5_29 (rd_W B _ _) rfl ?_
  refine v_iload_n g dX5_ownedBehind_28 1 rfl ?_
  refine v_callV (As := [.int (nI m)]) (r := none) g dX5_ownedBehind_29 (k_X1_passYears (C := C) (i := 1) (by decide) (L := cL C 0) rfl ((copyC a (cO C 0)).1, (copyC a (cO C 0)).2.1, ((copyC a (cO C 0)).2.2.1 ||| d), (copyC a (cO C 0)).2.2.2.1, (copyC a (cO C 0)).2.2.2.2.1, (copyC a (cO C 0)).2.2.2.2.2.1, (copyC a (cO C 0)).2.2.2.2.2.2) (m := m) (by omega)) cl_X1_passYears ml_RX5_172 im_X1_passYears (rd_O B _ _ (by decide)) rfl rfl ⟨rfl, rfl, rfl⟩ ?_
  refine v_iload_n g dX5_ownedBehind_32 2 rfl ?_
  refine v_callS (As := [.int p]) (r := some (.int (zB (isOwnC p)))) g dX5_ownedBehind_33 (k_X5_isOwner p) cl_X5_isOwner ml_RX5_159 sm_X5_isOwner rfl ⟨rfl, rfl, rfl⟩ ?_
  refine v_if_eq (tgt := 51) g dX5_ownedBehind_36 (by decide) (fun h36 => ?_) (fun h36 => ?_)
  · skip
    have h36 := zB_f0 h36
    refine v_iconst (v := 0) g dX5_ownedBehind_51 (by decide) ?_
    exact v_iret g E dX5_ownedBehind_52 rfl ⟨by first | (simp only [ownR, h36, ↓reduceIte]; rfl) | (simp only [ownR, h36, ↓reduceIte, Bool.false_eq_true]; done), rfl, rfl⟩
  · skip
    have h36 := zB_t0 h36
    refine v_aload_n g dX5_ownedBehind_39 0 rfl ?_
    refine v_get g dX5_ownedBehind_40 fl_RX5_29 (rd_W B _ _) rfl ?_
    refine v_get g dX5_ownedBehind_43 fl_RX5_162 (rd_O B _ _ (by decide)) rfl ?_
    refine v_iload_n g dX5_ownedBehind_46 2 rfl ?_
    refine v_iald g dX5_ownedBehind_47 (rd_Ow B _ _ (by decide)) (own_in h36) ?_
    refine v_goto (tgt := 52) g dX5_ownedBehind_48 (by decide) ?_
    exact v_iret g E dX5_ownedBehind_52 rfl ⟨by first | (simp only [ownR, h36, ↓reduceIte]; rfl) | (simp only [ownR, h36, ↓reduceIte, Bool.false_eq_true]; done), rfl, rfl⟩
theorem k_X5_behind (a : OV) (x r : Int32) : Ctr l G 5 123 0 0 mX5_behind [.ref B, .int x, .int r] n (ren B (sO C 1 a) ρ) (some (.int ((behindC C a x r).1))) n (ren B (sO C 1 (behindC C a x r).2) ρ) := by
  refine Ctr.of (by decide +kernel) rfl (fun X g E => ?_)
  refine v_sub (ls' := [(0, .ref B), (1, .int x), (2, .int r)]) [0, 1, 2] rfl ?_
  refine v_iload_n g dX5_behind_0 1 rfl ?_
  refine v_iconst (v := 0) g dX5_behind_1 (by decide) ?_
  refine v_bipush (v := 60) g dX5_behind_2 (by decide) ?_
  refine v_callS (As := [.int x, .int 0, .int 60]) (r := some (.int (zB (withinC x 0 60)))) g dX5_behind_4 (k_X5_isWithin x 0 60) cl_X5_isWithin ml_RX5_165 sm_X5_isWithin rfl ⟨rfl, rfl, rfl⟩ ?_
  refine v_if_eq (tgt := 21) g dX5_behind_7 (by decide) (fun h7 => ?_) (fun h7 => ?_)
  · skip
    have h7 := zB_f0 h7
    refine v_iconst (v := (-1)) g dX5_behind_21 (by decide) ?_
    exact v_iret g E dX5_behind_22 rfl ⟨by first | (simp only [behindC, rC, *, nI_clamp (show m < 2 ^ 31 by omega), ↓reduceIte, Bool.true_eq_false, Bool.false_eq_true]; done) | (simp only [behindC, rC, *, ↓reduceIte, Bool.true_eq_false, Bool.false_eq_true]; done) | (simp [behindC, rC, *]; done), rfl, by first | (simp only [behindC, rC, *, nI_clamp (show m < 2 ^ 31 by omega), ↓reduceIte, Bool.true_eq_false, Bool.false_eq_true]; done) | (simp only [behindC, rC, *, ↓reduceIte, Bool.true_eq_false, Bool.false_eq_true]; done) | (simp [behindC, rC, *]; done)⟩
  · skip
    have h7 := zB_t0 h7
    refine v_aload_n g dX5_behind_10 0 rfl ?_
    refine v_get g dX5_behind_11 fl_RX5_25 (rd_W B _ _) rfl ?_
    refine v_iload_n g dX5_behind_14 2 rfl ?_
    refine v_callV (As := [.int r]) (r := some (.int (zB (orHoldsC (cO C 0).1 r)))) g dX5_behind_15 (k_holdsOC (C := sO C 1 a) (i := 0) (by decide) r) cl_X1_holds ml_RX5_125 im_X1_holds (rd_O B _ _ (by decide)) rfl rfl ⟨rfl, rfl, rfl⟩ ?_
    refine v_if_ne (tgt := 23) g dX5_behind_18 (by decide) (fun h18 => ?_) (fun h18 => ?_)
    · skip
      have h18 := zB_t0 h18
      obtain ⟨m, hm1_m, hm2_m, em_m⟩ := within_nI (a := 0) (b := 60) rfl rfl h7
      subst em_m
      refine v_aload_n g dX5_behind_23 0 rfl ?_
      refine v_iload_n g dX5_behind_24 1 rfl ?_
      refine v_iload_n g dX5_behind_25 2 rfl ?_
      refine v_lconst (v := 0) g dX5_behind_26 (by decide) ?_
      refine v_callV (As := [.int (nI m), .int r, .long 0]) (r := some (.int (firstR (ftbA C a m 0) r))) g dX5_behind_27 (k_X5_firstTreeBehind (C := C) a (m := m) (by omega) r 0) cl_X5_firstTreeBehind ml_RX5_203 im_X5_firstTreeBehind (rd_W B _ _) rfl rfl ⟨rfl, rfl, rfl⟩ ?_
      refine v_meq (μ' := ren B (sO C 1 (ftbA C a m 0)) ρ) rfl ?_
      exact v_iret g E dX5_behind_30 rfl ⟨by first | (simp only [behindC, rC, *, nI_clamp (show m < 2 ^ 31 by omega), ↓reduceIte, Bool.true_eq_false, Bool.false_eq_true]; done) | (simp only [behindC, rC, *, ↓reduceIte, Bool.true_eq_false, Bool.false_eq_true]; done) | (simp [behindC, rC, *]; done), rfl, by first | (simp only [behindC, rC, *, nI_clamp (show m < 2 ^ 31 by omega), ↓reduceIte, Bool.true_eq_false, Bool.false_eq_true]; done) | (simp only [behindC, rC, *, ↓reduceIte, Bool.true_eq_false, Bool.false_eq_true]; done) | (simp [behindC, rC, *]; done)⟩
    · skip
      have h18 := zB_f0 h18
      refine v_iconst (v := (-1)) g dX5_behind_21 (by decide) ?_
      exact v_iret g E dX5_behind_22 rfl ⟨by first | (simp only [behindC, rC, *, nI_clamp (show m < 2 ^ 31 by omega), ↓reduceIte, Bool.true_eq_false, Bool.false_eq_true]; done) | (simp only [behindC, rC, *, ↓reduceIte, Bool.true_eq_false, Bool.false_eq_true]; done) | (simp [behindC, rC, *]; done), rfl, by first | (simp only [behindC, rC, *, nI_clamp (show m < 2 ^ 31 by omega), ↓reduceIte, Bool.true_eq_false, Bool.false_eq_true]; done) | (simp only [behindC, rC, *, ↓reduceIte, Bool.true_eq_false, Bool.false_eq_true]; done) | (simp [behindC, rC, *]; done)⟩
theorem k_X5_wealth (a : OV) (x p : Int32) : Ctr l G 6 145 0 0 mX5_wealth [.ref B, .int x, .int p] n (ren B (sO C 1 a) ρ) (some (.int ((wealthC C a x p).1))) n (ren B (sO C 1 (wealthC C a x p).2) ρ) := by
  refine Ctr.of (by decide +kernel) rfl (fun X g E => ?_)
  refine v_sub (ls' := [(0, .ref B), (1, .int x), (2, .int p)]) [0, 1, 2] rfl ?_
  refine v_iload_n g dX5_wealth_0 1 rfl ?_
  refine v_iconst (v := 0) g dX5_wealth_1 (by decide) ?_
  refine v_bipush (v := 60) g dX5_wealth_2 (by decide) ?_
  refine v_callS (As := [.int x, .int 0, .int 60]) (r := some (.int (zB (withinC x 0 60)))) g dX5_wealth_4 (k_X5_isWithin x 0 60) cl_X5_isWithin ml_RX5_165 sm_X5_isWithin rfl ⟨rfl, rfl, rfl⟩ ?_
  refine v_if_eq (tgt := 17) g dX5_wealth_7 (by decide) (fun h7 => ?_) (fun h7 => ?_)
  · skip
    have h7 := zB_f0 h7
    refine v_iconst (v := (-1)) g dX5_wealth_17 (by decide) ?_
    exact v_iret g E dX5_wealth_18 rfl ⟨by first | (simp only [wealthC, *, nI_clamp (show m < 2 ^ 31 by omega), ↓reduceIte, Bool.true_eq_false, Bool.false_eq_true]; done) | (simp only [wealthC, *, ↓reduceIte, Bool.true_eq_false, Bool.false_eq_true]; done) | (simp [wealthC, *]; done), rfl, by first | (simp only [wealthC, *, nI_clamp (show m < 2 ^ 31 by omega), ↓reduceIte, Bool.true_eq_false, Bool.false_eq_true]; done) | (simp only [wealthC, *, ↓reduceIte, Bool.true_eq_false, Bool.false_eq_true]; done) | (simp [wealthC, *]; done)⟩
  · skip
    have h7 := zB_t0 h7
    refine v_iload_n g dX5_wealth_10 2 rfl ?_
    refine v_callS (As := [.int p]) (r := some (.int (zB (isOwnC p)))) g dX5_wealth_11 (k_X5_isOwner p) cl_X5_isOwner ml_RX5_159 sm_X5_isOwner rfl ⟨rfl, rfl, rfl⟩ ?_
    refine v_if_ne (tgt := 19) g dX5_wealth_14 (by decide) (fun h14 => ?_) (fun h14 => ?_)
    · skip
      have h14 := zB_t0 h14
      obtain ⟨m, hm1_m, hm2_m, em_m⟩ := within_nI (a := 0) (b := 60) rfl rfl h7
      subst em_m
      refine v_aload_n g dX5_wealth_19 0 rfl ?_
      refine v_iload_n g dX5_wealth_20 1 rfl ?_
      refine v_iload_n g dX5_wealth_21 2 rfl ?_
      refine v_lconst (v := 0) g dX5_wealth_22 (by decide) ?_
      refine v_callV (As := [.int (nI m), .int p, .long 0]) (r := some (.int (ownR (obA C a m 0) p))) g dX5_wealth_23 (k_X5_ownedBehind (C := C) a (m := m) (by omega) p 0) cl_X5_ownedBehind ml_RX5_207 im_X5_ownedBehind (rd_W B _ _) rfl rfl ⟨rfl, rfl, rfl⟩ ?_
      exact v_iret g E dX5_wealth_26 rfl ⟨by first | (simp only [wealthC, *, nI_clamp (show m < 2 ^ 31 by omega), ↓reduceIte, Bool.true_eq_false, Bool.false_eq_true]; done) | (simp only [wealthC, *, ↓reduceIte, Bool.true_eq_false, Bool.false_eq_true]; done) | (simp [wealthC, *]; done), rfl, by first | (simp only [wealthC, *, nI_clamp (show m < 2 ^ 31 by omega), ↓reduceIte, Bool.true_eq_false, Bool.false_eq_true]; done) | (simp only [wealthC, *, ↓reduceIte, Bool.true_eq_false, Bool.false_eq_true]; done) | (simp [wealthC, *]; done)⟩
    · skip
      have h14 := zB_f0 h14
      refine v_iconst (v := (-1)) g dX5_wealth_17 (by decide) ?_
      exact v_iret g E dX5_wealth_18 rfl ⟨by first | (simp only [wealthC, *, nI_clamp (show m < 2 ^ 31 by omega), ↓reduceIte, Bool.true_eq_false, Bool.false_eq_true]; done) | (simp only [wealthC, *, ↓reduceIte, Bool.true_eq_false, Bool.false_eq_true]; done) | (simp [wealthC, *]; done), rfl, by first | (simp only [wealthC, *, nI_clamp (show m < 2 ^ 31 by omega), ↓reduceIte, Bool.true_eq_false, Bool.false_eq_true]; done) | (simp only [wealthC, *, ↓reduceIte, Bool.true_eq_false, Bool.false_eq_true]; done) | (simp [wealthC, *]; done)⟩
theorem k_X5_comes (a : OV) (r x : Int32) : Ctr l G 4 98 0 0 mX5_comes [.ref B, .int r, .int x] n (ren B (sO C 1 a) ρ) (some (.int ((comesC C a r x).1))) n (ren B (sO C 1 (comesC C a r x).2) ρ) := by
  refine Ctr.of (by decide +kernel) rfl (fun X g E => ?_)
  have loop : ∀ (r0 : Nat) (hr0 : r0 < 3), r = nI r0 → ∀ (q j : Nat) (b : OV), j + q = 61 → comesC C a r x = comFrom (cL C 0) r0 x q j b → V X 0 0 n (ren B (sO C 1 b) ρ) 37 [(3, .int (nI j)), (0, .ref B), (1, .int (nI r0)), (2, .int x)] [] := by
    intro r0 hr0 er q
    induction q with
    | zero =>
      intro j b hq he
      refine v_iload_n g dX5_comes_37 0 rfl ?_
      refine v_bipush (v := 60) g dX5_comes_38 (by decide) ?_
      refine v_icmp_gt (tgt := 76) g dX5_comes_40 (by decide) (fun h40 => ?_) (fun h40 => absurd (nI_lt (a := 60) (b := j) (by omega) (by omega)) h40)
      refine v_bipush (v := (-4)) g dX5_comes_76 (by decide) ?_
      exact v_iret g E dX5_comes_78 rfl ⟨by rw [he]; simp [comFrom, *], rfl, by rw [he]; simp [comFrom, *]⟩
    | succ q ih =>
      intro j b hq he
      refine v_iload_n g dX5_comes_37 0 rfl ?_
      refine v_bipush (v := 60) g dX5_comes_38 (by decide) ?_
      refine v_icmp_gt (tgt := 76) g dX5_comes_40 (by decide) (fun h40 => absurd h40 (nI_nlt (a := 60) (b := j) (by omega) (by decide))) (fun h40 => ?_)
      refine v_aload_n g dX5_comes_43 1 rfl ?_
      refine v_get g dX5_comes_44 fl_RX5_29 (rd_W B _ _) rfl ?_
      refine v_get g dX5_comes_47 fl_RX5_126 (rd_O B _ _ (by decide)) rfl ?_
      refine v_iload_n g dX5_comes_50 2 rfl ?_
      refine v_aaldR (v := .ref (adR B 1 r0)) g dX5_comes_51 (rd_Rs B _ _ (by decide)) (vp_in_nI (by omega) (by decide)) (by rw [nI_clamp (by omega)]; rfl) ?_
      refine v_callV (As := []) (r := some (.int ((b.2.2.2.2.2.2.2 r0).2.2.2.2 0))) g dX5_comes_52 (k_X4_first (rd_R B _ _ (by decide) hr0) (rd_T B _ _ (by decide) hr0)) cl_X4_first ml_RX5_144 im_X4_first (rd_R B _ _ (by decide) hr0) rfl rfl ⟨rfl, rfl, rfl⟩ ?_
      refine v_iload_n g dX5_comes_55 3 rfl ?_
      refine v_icmp_ne (tgt := 61) g dX5_comes_56 (by decide) (fun h56 => ?_) (fun h56 => ?_)
      · skip
        refine v_aload_n g dX5_comes_61 1 rfl ?_
        refine v_get g dX5_comes_62 fl_RX5_29 (rd_W B _ _) rfl ?_
        refine v_bipush (v := (-4)) g dX5_comes_65 (by decide) ?_
        refine v_callV (As := [.int (-4)]) (r := none) g dX5_comes_67 (k_X1_goYear (C := C) (i := 1) (by decide) (L := cL C 0) rfl b (-4)) cl_X1_goYear ml_RX5_210 im_X1_goYear (rd_O B _ _ (by decide)) rfl rfl ⟨rfl, rfl, rfl⟩ ?_
        refine v_iinc (v := nI (j + 1)) (ls' := [(3, .int (nI (j + 1))), (0, .ref B), (1, .int (nI r0)), (2, .int x)]) g dX5_comes_70 0 rfl (nI_1 j) rfl rfl ?_
        refine v_goto (tgt := 37) g dX5_comes_73 (by decide) ?_
        refine v_sub (ls' := [(3, .int (nI (j + 1))), (0, .ref B), (1, .int (nI r0)), (2, .int x)]) [0, 1, 2, 3] rfl ?_
        exact ih (j + 1) _ (by omega) (by rw [he, comFrom, if_neg h56])
      · skip
        refine v_iload_n g dX5_comes_59 0 rfl ?_
        exact v_iret g E dX5_comes_60 rfl ⟨by rw [he]; simp [comFrom, *], rfl, by rw [he]; simp [comFrom, *]⟩
  refine v_sub (ls' := [(0, .ref B), (1, .int r), (2, .int x)]) [0, 1, 2] rfl ?_
  refine v_aload_n g dX5_comes_0 0 rfl ?_
  refine v_get g dX5_comes_1 fl_RX5_25 (rd_W B _ _) rfl ?_
  refine v_iload_n g dX5_comes_4 1 rfl ?_
  refine v_callV (As := [.int r]) (r := some (.int (zB (orHoldsC (cO C 0).1 r)))) g dX5_comes_5 (k_holdsOC (C := sO C 1 a) (i := 0) (by decide) r) cl_X1_holds ml_RX5_125 im_X1_holds (rd_O B _ _ (by decide)) rfl rfl ⟨rfl, rfl, rfl⟩ ?_
  refine v_if_eq (tgt := 22) g dX5_comes_8 (by decide) (fun h8 => ?_) (fun h8 => ?_)
  · skip
    have h8 := zB_f0 h8
    refine v_iconst (v := (-1)) g dX5_comes_22 (by decide) ?_
    exact v_iret g E dX5_comes_23 rfl ⟨by first | (simp only [comesC, rC, *, ↓reduceIte, Bool.true_eq_false, Bool.false_eq_true, if_true, if_false]; done) | (simp [comesC, rC, *]; done) | (simp only [comesC, rC, *, ↓reduceIte, Bool.true_eq_false, Bool.false_eq_true, if_true, if_false]; rfl), rfl, by first | (simp only [comesC, rC, *, ↓reduceIte, Bool.true_eq_false, Bool.false_eq_true, if_true, if_false]; done) | (simp [comesC, rC, *]; done) | (simp only [comesC, rC, *, ↓reduceIte, Bool.true_eq_false, Bool.false_eq_true, if_true, if_false]; rfl)⟩
  · skip
    have h8 := zB_t0 h8
    refine v_aload_n g dX5_comes_11 0 rfl ?_
    refine v_get g dX5_comes_12 fl_RX5_16 (rd_W B _ _) rfl ?_
    refine v_iload_n g dX5_comes_15 2 rfl ?_
    refine v_callV (As := [.int x]) (r := some (.int (zB (hC C x)))) g dX5_comes_16 (k_holdsLC (C := sO C 1 a) (i := 0) (by decide) x) cl_X0_holds ml_RX5_103 im_X0_holds (rd_L B _ _ (by decide)) rfl rfl ⟨rfl, rfl, rfl⟩ ?_
    refine v_if_ne (tgt := 24) g dX5_comes_19 (by decide) (fun h19 => ?_) (fun h19 => ?_)
    · skip
      have h19 := zB_t0 h19
      refine v_aload_n g dX5_comes_24 0 rfl ?_
      refine v_get g dX5_comes_25 fl_RX5_29 (rd_W B _ _) rfl ?_
      refine v_aload_n g dX5_comes_28 0 rfl ?_
      refine v_get g dX5_comes_29 fl_RX5_25 (rd_W B _ _) rfl ?_
      refine v_callV (As := [.ref (adO B 0)]) (r := none) g dX5_comes_32 (k_orCopy (C := C) (i := 1) (j := 0) (by decide) (by decide) (by decide) a) cl_X1_copyFrom ml_RX5_87 im_X1_copyFrom (rd_O B _ _ (by decide)) rfl rfl ⟨rfl, rfl, rfl⟩ ?_
      obtain ⟨r0, hr0, er⟩ := orHolds_nI h8
      refine v_iconst (v := 0) g dX5_comes_35 (by decide) ?_
      refine v_istore_n (ls' := [(3, .int 0), (0, .ref B), (1, .int r), (2, .int x)]) g dX5_comes_36 rfl rfl ?_
      rw [er]
      refine v_sub (ls' := [(3, .int 0), (0, .ref B), (1, .int (nI r0)), (2, .int x)]) [0, 1, 2, 3] rfl ?_
      exact loop r0 hr0 er 61 0 _ rfl (by rw [comesC, if_neg (by rw [rC, h8]; decide), if_neg (by rw [h19]; decide), er, nI_clamp (by omega)])
    · skip
      have h19 := zB_f0 h19
      refine v_iconst (v := (-1)) g dX5_comes_22 (by decide) ?_
      exact v_iret g E dX5_comes_23 rfl ⟨by first | (simp only [comesC, rC, *, ↓reduceIte, Bool.true_eq_false, Bool.false_eq_true, if_true, if_false]; done) | (simp [comesC, rC, *]; done) | (simp only [comesC, rC, *, ↓reduceIte, Bool.true_eq_false, Bool.false_eq_true, if_true, if_false]; rfl), rfl, by first | (simp only [comesC, rC, *, ↓reduceIte, Bool.true_eq_false, Bool.false_eq_true, if_true, if_false]; done) | (simp [comesC, rC, *]; done) | (simp only [comesC, rC, *, ↓reduceIte, Bool.true_eq_false, Bool.false_eq_true, if_true, if_false]; rfl)⟩
theorem k_X5_meet (a : OV) (r q : Int32) : Ctr l G 4 98 0 0 mX5_meet [.ref B, .int r, .int q] n (ren B (sO C 1 a) ρ) (some (.int ((meetC C a r q).1))) n (ren B (sO C 1 (meetC C a r q).2) ρ) := by
  refine Ctr.of (by decide +kernel) rfl (fun X g E => ?_)
  have loop : ∀ (r0 q0 : Nat) (hr0 : r0 < 3) (hq0 : q0 < 3), ∀ (k j : Nat) (b : OV), j + k = 61 → meetC C a r q = metFrom (cL C 0) r0 q0 k j b → V X 0 0 n (ren B (sO C 1 b) ρ) 42 [(3, .int (nI j)), (0, .ref B), (1, .int (nI r0)), (2, .int (nI q0))] [] := by
    intro r0 q0 hr0 hq0 k
    induction k with
    | zero =>
      intro j b hq he
      refine v_iload_n g dX5_meet_42 0 rfl ?_
      refine v_bipush (v := 60) g dX5_meet_43 (by decide) ?_
      refine v_icmp_gt (tgt := 93) g dX5_meet_45 (by decide) (fun h45 => ?_) (fun h45 => absurd (nI_lt (a := 60) (b := j) (by omega) (by omega)) h45)
      refine v_bipush (v := (-4)) g dX5_meet_93 (by decide) ?_
      exact v_iret g E dX5_meet_95 rfl ⟨by rw [he]; simp [metFrom, *], rfl, by rw [he]; simp [metFrom, *]⟩
    | succ k ih =>
      intro j b hq he
      refine v_iload_n g dX5_meet_42 0 rfl ?_
      refine v_bipush (v := 60) g dX5_meet_43 (by decide) ?_
      refine v_icmp_gt (tgt := 93) g dX5_meet_45 (by decide) (fun h45 => absurd h45 (nI_nlt (a := 60) (b := j) (by omega) (by decide))) (fun h45 => ?_)
      refine v_aload_n g dX5_meet_48 1 rfl ?_
      refine v_get g dX5_meet_49 fl_RX5_29 (rd_W B _ _) rfl ?_
      refine v_aload_n g dX5_meet_52 1 rfl ?_
      refine v_get g dX5_meet_53 fl_RX5_29 (rd_W B _ _) rfl ?_
      refine v_get g dX5_meet_56 fl_RX5_126 (rd_O B _ _ (by decide)) rfl ?_
      refine v_iload_n g dX5_meet_59 2 rfl ?_
      refine v_aaldR (v := .ref (adR B 1 r0)) g dX5_meet_60 (rd_Rs B _ _ (by decide)) (vp_in_nI (by omega) (by decide)) (by rw [nI_clamp (by omega)]; rfl) ?_
      refine v_aload_n g dX5_meet_61 1 rfl ?_
      refine v_get g dX5_meet_62 fl_RX5_29 (rd_W B _ _) rfl ?_
      refine v_get g dX5_meet_65 fl_RX5_126 (rd_O B _ _ (by decide)) rfl ?_
      refine v_iload_n g dX5_meet_68 3 rfl ?_
      refine v_aaldR (v := .ref (adR B 1 q0)) g dX5_meet_69 (rd_Rs B _ _ (by decide)) (vp_in_nI (by omega) (by decide)) (by rw [nI_clamp (by omega)]; rfl) ?_
      refine v_callV (As := [.ref (adR B 1 r0), .ref (adR B 1 q0)]) (r := some (.int (zB (sideO (cL C 0) b r0 q0)))) g dX5_meet_70 (k_sideO (C := sO C 1 b) (i := 1) (by decide) hr0 hq0) cl_X1_areSideBySide ml_RX5_213 im_X1_areSideBySide (rd_O B _ _ (by decide)) rfl rfl ⟨rfl, rfl, rfl⟩ ?_
      refine v_if_eq (tgt := 78) g dX5_meet_73 (by decide) (fun h73 => ?_) (fun h73 => ?_)
      · skip
        have h73 := zB_f0 h73
        refine v_aload_n g dX5_meet_78 1 rfl ?_
        refine v_get g dX5_meet_79 fl_RX5_29 (rd_W B _ _) rfl ?_
        refine v_bipush (v := (-4)) g dX5_meet_82 (by decide) ?_
        refine v_callV (As := [.int (-4)]) (r := none) g dX5_meet_84 (k_X1_goYear (C := C) (i := 1) (by decide) (L := cL C 0) rfl b (-4)) cl_X1_goYear ml_RX5_210 im_X1_goYear (rd_O B _ _ (by decide)) rfl rfl ⟨rfl, rfl, rfl⟩ ?_
        refine v_iinc (v := nI (j + 1)) (ls' := [(3, .int (nI (j + 1))), (0, .ref B), (1, .int (nI r0)), (2, .int (nI q0))]) g dX5_meet_87 0 rfl (nI_1 j) rfl rfl ?_
        refine v_goto (tgt := 42) g dX5_meet_90 (by decide) ?_
        refine v_sub (ls' := [(3, .int (nI (j + 1))), (0, .ref B), (1, .int (nI r0)), (2, .int (nI q0))]) [0, 1, 2, 3] rfl ?_
        exact ih (j + 1) _ (by omega) (by rw [he, metFrom, if_neg (by rw [h73]; decide)])
      · skip
        have h73 := zB_t0 h73
        refine v_iload_n g dX5_meet_76 0 rfl ?_
        exact v_iret g E dX5_meet_77 rfl ⟨by rw [he]; simp [metFrom, *], rfl, by rw [he]; simp [metFrom, *]⟩
  refine v_sub (ls' := [(0, .ref B), (1, .int r), (2, .int q)]) [0, 1, 2] rfl ?_
  refine v_aload_n g dX5_meet_0 0 rfl ?_
  refine v_get g dX5_meet_1 fl_RX5_25 (rd_W B _ _) rfl ?_
  refine v_iload_n g dX5_meet_4 1 rfl ?_
  refine v_callV (As := [.int r]) (r := some (.int (zB (orHoldsC (cO C 0).1 r)))) g dX5_meet_5 (k_holdsOC (C := sO C 1 a) (i := 0) (by decide) r) cl_X1_holds ml_RX5_125 im_X1_holds (rd_O B _ _ (by decide)) rfl rfl ⟨rfl, rfl, rfl⟩ ?_
  refine v_if_eq (tgt := 27) g dX5_meet_8 (by decide) (fun h8 => ?_) (fun h8 => ?_)
  · skip
    have h8 := zB_f0 h8
    refine v_iconst (v := (-1)) g dX5_meet_27 (by decide) ?_
    exact v_iret g E dX5_meet_28 rfl ⟨by first | (simp only [meetC, rC, *, ↓reduceIte, Bool.true_eq_false, Bool.false_eq_true, if_true, if_false]; done) | (simp [meetC, rC, *]; done) | (simp only [meetC, rC, *, ↓reduceIte, Bool.true_eq_false, Bool.false_eq_true, if_true, if_false]; rfl), rfl, by first | (simp only [meetC, rC, *, ↓reduceIte, Bool.true_eq_false, Bool.false_eq_true, if_true, if_false]; done) | (simp [meetC, rC, *]; done) | (simp only [meetC, rC, *, ↓reduceIte, Bool.true_eq_false, Bool.false_eq_true, if_true, if_false]; rfl)⟩
  · skip
    have h8 := zB_t0 h8
    refine v_aload_n g dX5_meet_11 0 rfl ?_
    refine v_get g dX5_meet_12 fl_RX5_25 (rd_W B _ _) rfl ?_
    refine v_iload_n g dX5_meet_15 2 rfl ?_
    refine v_callV (As := [.int q]) (r := some (.int (zB (orHoldsC (cO C 0).1 q)))) g dX5_meet_16 (k_holdsOC (C := sO C 1 a) (i := 0) (by decide) q) cl_X1_holds ml_RX5_125 im_X1_holds (rd_O B _ _ (by decide)) rfl rfl ⟨rfl, rfl, rfl⟩ ?_
    refine v_if_eq (tgt := 27) g dX5_meet_19 (by decide) (fun h19 => ?_) (fun h19 => ?_)
    · skip
      have h19 := zB_f0 h19
      refine v_iconst (v := (-1)) g dX5_meet_27 (by decide) ?_
      exact v_iret g E dX5_meet_28 rfl ⟨by first | (simp only [meetC, rC, *, ↓reduceIte, Bool.true_eq_false, Bool.false_eq_true, if_true, if_false]; done) | (simp [meetC, rC, *]; done) | (simp only [meetC, rC, *, ↓reduceIte, Bool.true_eq_false, Bool.false_eq_true, if_true, if_false]; rfl), rfl, by first | (simp only [meetC, rC, *, ↓reduceIte, Bool.true_eq_false, Bool.false_eq_true, if_true, if_false]; done) | (simp [meetC, rC, *]; done) | (simp only [meetC, rC, *, ↓reduceIte, Bool.true_eq_false, Bool.false_eq_true, if_true, if_false]; rfl)⟩
    · skip
      have h19 := zB_t0 h19
      refine v_iload_n g dX5_meet_22 1 rfl ?_
      refine v_iload_n g dX5_meet_23 2 rfl ?_
      refine v_icmp_ne (tgt := 29) g dX5_meet_24 (by decide) (fun h24 => ?_) (fun h24 => ?_)
      · skip
        refine v_aload_n g dX5_meet_29 0 rfl ?_
        refine v_get g dX5_meet_30 fl_RX5_29 (rd_W B _ _) rfl ?_
        refine v_aload_n g dX5_meet_33 0 rfl ?_
        refine v_get g dX5_meet_34 fl_RX5_25 (rd_W B _ _) rfl ?_
        refine v_callV (As := [.ref (adO B 0)]) (r := none) g dX5_meet_37 (k_orCopy (C := C) (i := 1) (j := 0) (by decide) (by decide) (by decide) a) cl_X1_copyFrom ml_RX5_87 im_X1_copyFrom (rd_O B _ _ (by decide)) rfl rfl ⟨rfl, rfl, rfl⟩ ?_
        obtain ⟨r0, hr0, er⟩ := orHolds_nI h8
        obtain ⟨q0, hq0, eq⟩ := orHolds_nI h19
        refine v_iconst (v := 0) g dX5_meet_40 (by decide) ?_
        refine v_istore_n (ls' := [(3, .int 0), (0, .ref B), (1, .int r), (2, .int q)]) g dX5_meet_41 rfl rfl ?_
        rw [er, eq]
        refine v_sub (ls' := [(3, .int 0), (0, .ref B), (1, .int (nI r0)), (2, .int (nI q0))]) [0, 1, 2, 3] rfl ?_
        exact loop r0 q0 hr0 hq0 61 0 _ rfl (by rw [meetC, if_neg (by rw [rC, h8]; decide), if_neg (by rw [rC, h19]; decide), if_neg h24, er, eq, nI_clamp (by omega), nI_clamp (by omega)])
      · skip
        refine v_iconst (v := (-1)) g dX5_meet_27 (by decide) ?_
        exact v_iret g E dX5_meet_28 rfl ⟨by first | (simp only [meetC, rC, *, ↓reduceIte, Bool.true_eq_false, Bool.false_eq_true, if_true, if_false]; done) | (simp [meetC, rC, *]; done) | (simp only [meetC, rC, *, ↓reduceIte, Bool.true_eq_false, Bool.false_eq_true, if_true, if_false]; rfl), rfl, by first | (simp only [meetC, rC, *, ↓reduceIte, Bool.true_eq_false, Bool.false_eq_true, if_true, if_false]; done) | (simp [meetC, rC, *]; done) | (simp only [meetC, rC, *, ↓reduceIte, Bool.true_eq_false, Bool.false_eq_true, if_true, if_false]; rfl)⟩
theorem k_X5_again (a : OV) : Ctr l G 4 98 0 0 mX5_again [.ref B] n (ren B (sO C 1 a) ρ) (some (.int ((againC C a).1))) n (ren B (sO C 1 (againC C a).2) ρ) := by
  refine Ctr.of (by decide +kernel) rfl (fun X g E => ?_)
  have loop : ∀ (k j : Nat) (b : OV), j + k = 201 → againC C a = agaFrom (cL C 0) (cO C 0) k j b → V X 0 0 n (ren B (sO C 1 b) ρ) 13 [(1, .int (nI j)), (0, .ref B)] [] := by
    intro k
    induction k with
    | zero =>
      intro j b hq he
      refine v_iload_n g dX5_again_13 0 rfl ?_
      refine v_sipush (v := 200) g dX5_again_14 (by decide) ?_
      refine v_icmp_gt (tgt := 51) g dX5_again_17 (by decide) (fun h17 => ?_) (fun h17 => absurd (nI_lt (a := 200) (b := j) (by omega) (by omega)) h17)
      refine v_bipush (v := (-4)) g dX5_again_51 (by decide) ?_
      exact v_iret g E dX5_again_53 rfl ⟨by rw [he]; simp [agaFrom, *], rfl, by rw [he]; simp [agaFrom, *]⟩
    | succ k ih =>
      intro j b hq he
      refine v_iload_n g dX5_again_13 0 rfl ?_
      refine v_sipush (v := 200) g dX5_again_14 (by decide) ?_
      refine v_icmp_gt (tgt := 51) g dX5_again_17 (by decide) (fun h17 => absurd h17 (nI_nlt (a := 200) (b := j) (by omega) (by decide))) (fun h17 => ?_)
      refine v_aload_n g dX5_again_20 1 rfl ?_
      refine v_get g dX5_again_21 fl_RX5_29 (rd_W B _ _) rfl ?_
      refine v_bipush (v := (-4)) g dX5_again_24 (by decide) ?_
      refine v_callV (As := [.int (-4)]) (r := none) g dX5_again_26 (k_X1_goYear (C := C) (i := 1) (by decide) (L := cL C 0) rfl b (-4)) cl_X1_goYear ml_RX5_210 im_X1_goYear (rd_O B _ _ (by decide)) rfl rfl ⟨rfl, rfl, rfl⟩ ?_
      refine v_aload_n g dX5_again_29 1 rfl ?_
      refine v_get g dX5_again_30 fl_RX5_29 (rd_W B _ _) rfl ?_
      refine v_aload_n g dX5_again_33 1 rfl ?_
      refine v_get g dX5_again_34 fl_RX5_25 (rd_W B _ _) rfl ?_
      refine v_callV (As := [.ref (adO B 0)]) (r := some (.int (zB (standsAsC (goYearC (cL C 0) (-4) b) (cO C 0))))) g dX5_again_37 (k_standsAsC (goYearC (cL C 0) (-4) b)) cl_X1_standsAs ml_RX5_217 im_X1_standsAs (rd_O B _ _ (by decide)) rfl rfl ⟨rfl, rfl, rfl⟩ ?_
      refine v_if_eq (tgt := 45) g dX5_again_40 (by decide) (fun h40 => ?_) (fun h40 => ?_)
      · skip
        have h40 := zB_f0 h40
        refine v_iinc (v := nI (j + 1)) (ls' := [(1, .int (nI (j + 1))), (0, .ref B)]) g dX5_again_45 0 rfl (nI_1 j) rfl rfl ?_
        refine v_goto (tgt := 13) g dX5_again_48 (by decide) ?_
        refine v_sub (ls' := [(1, .int (nI (j + 1))), (0, .ref B)]) [0, 1] rfl ?_
        exact ih (j + 1) _ (by omega) (by rw [he, agaFrom, if_neg (by rw [h40]; decide)])
      · skip
        have h40 := zB_t0 h40
        refine v_iload_n g dX5_again_43 0 rfl ?_
        exact v_iret g E dX5_again_44 rfl ⟨by rw [he]; simp [agaFrom, *], rfl, by rw [he]; simp [agaFrom, *]⟩
  refine v_sub (ls' := [(0, .ref B)]) [0] rfl ?_
  refine v_aload_n g dX5_again_0 0 rfl ?_
  refine v_get g dX5_again_1 fl_RX5_29 (rd_W B _ _) rfl ?_
  refine v_aload_n g dX5_again_4 0 rfl ?_
  refine v_get g dX5_again_5 fl_RX5_25 (rd_W B _ _) rfl ?_
  refine v_callV (As := [.ref (adO B 0)]) (r := none) g dX5_again_8 (k_orCopy (C := C) (i := 1) (j := 0) (by decide) (by decide) (by decide) a) cl_X1_copyFrom ml_RX5_87 im_X1_copyFrom (rd_O B _ _ (by decide)) rfl rfl ⟨rfl, rfl, rfl⟩ ?_
  refine v_iconst (v := 1) g dX5_again_11 (by decide) ?_
  refine v_istore_n (ls' := [(1, .int 1), (0, .ref B)]) g dX5_again_12 rfl rfl ?_
  refine v_sub (ls' := [(1, .int 1), (0, .ref B)]) [0, 1] rfl ?_
  exact loop 200 1 _ rfl rfl
theorem k_X5_noneOrOneDitch (fd : Nat → Int32) (en : Nat → Int64) (a : OV) {m : Nat} (hm : m < 2 ^ 31) (r x : Int32) : Ctr l G 5 123 0 0 mX5_noneOrOneDitch [.ref B, .int r, .int x, .int (nI m)] n (ren B (sO (sE (sA C 4 fd) en) 1 a) ρ) (some (.int ((noneOne C m r x fd en a).1))) n (ren B (sO (sE (sA C 4 (noneOne C m r x fd en a).2.1) (noneOne C m r x fd en a).2.2.1) 1 (noneOne C m r x fd en a).2.2.2) ρ) := by
  refine Ctr.of (by decide +kernel) rfl (fun X g E => ?_)
  have loop : ∀ (ent : Int64) (q k : Nat) (fd1 : Nat → Int32) (en1 : Nat → Int64) (b : OV), k + q = 36 → noneOne C m r x fd en a = n1From C m r x ent q k fd1 en1 b → V X 0 0 n (ren B (sO (sE (sA C 4 fd1) en1) 1 b) ρ) 25 [(6, .int (nI k)), (4, .long ent), (0, .ref B), (1, .int r), (2, .int x), (3, .int (nI m))] [] := by
    intro ent q
    induction q with
    | zero =>
      intro k fd1 en1 b hq he
      refine v_iload g dX5_noneOrOneDitch_25 0 rfl ?_
      refine v_aload_n g dX5_noneOrOneDitch_27 2 rfl ?_
      refine v_get g dX5_noneOrOneDitch_28 fl_RX5_16 (rd_W B _ _) rfl ?_
      refine v_callV (As := []) (r := some (.int (cellsC C))) g dX5_noneOrOneDitch_31 (k_cellsLC (C := sO (sE (sA C 4 fd1) en1) 1 b) (i := 0) (by decide)) cl_X0_cells ml_RX5_228 im_X0_cells (rd_L B _ _ (by decide)) rfl rfl ⟨rfl, rfl, rfl⟩ ?_
      refine v_icmp_ge (tgt := 120) g dX5_noneOrOneDitch_34 (by decide) (fun h34 => ?_) (fun h34 => ?_)
      · skip
        refine v_bipush (v := (-4)) g dX5_noneOrOneDitch_120 (by decide) ?_
        exact v_iret g E dX5_noneOrOneDitch_122 rfl ⟨by rw [he]; simp [n1From, *], rfl, by rw [he]; simp [n1From, *]⟩
      · skip
        refine v_iload g dX5_noneOrOneDitch_37 0 rfl ?_
        refine v_bipush (v := 36) g dX5_noneOrOneDitch_39 (by decide) ?_
        refine v_icmp_ge (tgt := 120) g dX5_noneOrOneDitch_41 (by decide) (fun h41 => ?_) (fun h41 => absurd (nI_le (a := 36) (b := k) (by omega) (by omega)) h41)
        refine v_bipush (v := (-4)) g dX5_noneOrOneDitch_120 (by decide) ?_
        exact v_iret g E dX5_noneOrOneDitch_122 rfl ⟨by rw [he]; simp [n1From, *], rfl, by rw [he]; simp [n1From, *]⟩
    | succ q ih =>
      intro k fd1 en1 b hq he
      refine v_iload g dX5_noneOrOneDitch_25 0 rfl ?_
      refine v_aload_n g dX5_noneOrOneDitch_27 2 rfl ?_
      refine v_get g dX5_noneOrOneDitch_28 fl_RX5_16 (rd_W B _ _) rfl ?_
      refine v_callV (As := []) (r := some (.int (cellsC C))) g dX5_noneOrOneDitch_31 (k_cellsLC (C := sO (sE (sA C 4 fd1) en1) 1 b) (i := 0) (by decide)) cl_X0_cells ml_RX5_228 im_X0_cells (rd_L B _ _ (by decide)) rfl rfl ⟨rfl, rfl, rfl⟩ ?_
      refine v_icmp_ge (tgt := 120) g dX5_noneOrOneDitch_34 (by decide) (fun h34 => ?_) (fun h34 => ?_)
      · skip
        refine v_bipush (v := (-4)) g dX5_noneOrOneDitch_120 (by decide) ?_
        exact v_iret g E dX5_noneOrOneDitch_122 rfl ⟨by rw [he]; simp [n1From, *], rfl, by rw [he]; simp [n1From, *]⟩
      · skip
        refine v_iload g dX5_noneOrOneDitch_37 0 rfl ?_
        refine v_bipush (v := 36) g dX5_noneOrOneDitch_39 (by decide) ?_
        refine v_icmp_ge (tgt := 120) g dX5_noneOrOneDitch_41 (by decide) (fun h41 => absurd h41 (nI_ge (a := k) (b := 36) (by omega) (by decide))) (fun h41 => ?_)
        refine v_aload_n g dX5_noneOrOneDitch_44 2 rfl ?_
        refine v_get g dX5_noneOrOneDitch_45 fl_RX5_64 (rd_W B _ _) rfl ?_
        refine v_iload g dX5_noneOrOneDitch_48 0 rfl ?_
        refine v_lload g dX5_noneOrOneDitch_50 1 rfl ?_
        refine v_last g dX5_noneOrOneDitch_52 (rd_E B _ _) (vp_in_nI (by omega) (by decide)) ?_
        rw [nI_clamp (n := k) (by omega)]
        refine v_meq (st_E4 B C ρ _ _ _ (vp_updL en1 k ent)) ?_
        refine v_aload_n g dX5_noneOrOneDitch_53 2 rfl ?_
        refine v_get g dX5_noneOrOneDitch_54 fl_RX5_25 (rd_W B _ _) rfl ?_
        refine v_iload g dX5_noneOrOneDitch_57 0 rfl ?_
        refine v_callV (As := [.int (nI k)]) (r := some (.int (zB (dC0 C (nI k))))) g dX5_noneOrOneDitch_59 (k_canDigC (C := sO (sE (sA C 4 fd1) (vp_updL en1 k ent)) 1 b) (i := 0) (by decide) (nI k)) cl_X1_canDig ml_RX5_179 im_X1_canDig (rd_O B _ _ (by decide)) rfl rfl ⟨rfl, rfl, rfl⟩ ?_
        refine v_if_eq (tgt := 114) g dX5_noneOrOneDitch_62 (by decide) (fun h62 => ?_) (fun h62 => ?_)
        · skip
          have h62 := zB_f0 h62
          refine v_iinc (v := nI (k + 1)) (ls' := [(6, .int (nI (k + 1))), (4, .long ent), (0, .ref B), (1, .int r), (2, .int x), (3, .int (nI m))]) g dX5_noneOrOneDitch_114 0 rfl (nI_1 k) rfl rfl ?_
          refine v_goto (tgt := 25) g dX5_noneOrOneDitch_117 (by decide) ?_
          refine v_sub (ls' := [(6, .int (nI (k + 1))), (4, .long ent), (0, .ref B), (1, .int r), (2, .int x), (3, .int (nI m))]) [0, 1, 2, 3, 4, 5] rfl ?_
          exact ih (k + 1) _ _ _ (by omega) (by first | rw [he, n1From, if_neg h34, if_pos h62] | rw [he, n1From, if_neg h34, if_neg (by rw [h62]; decide), if_pos h72])
        · skip
          have h62 := zB_t0 h62
          refine v_lload g dX5_noneOrOneDitch_65 1 rfl ?_
          refine v_iload g dX5_noneOrOneDitch_67 0 rfl ?_
          refine v_callS (As := [.long ent, .int (nI k)]) (r := some (.int (zB (ctn ent (nI k))))) g dX5_noneOrOneDitch_69 (k_X5_contains ent (nI k)) cl_X5_contains ml_RX5_118 sm_X5_contains rfl ⟨rfl, rfl, rfl⟩ ?_
          refine v_if_eq (tgt := 114) g dX5_noneOrOneDitch_72 (by decide) (fun h72 => ?_) (fun h72 => ?_)
          · skip
            have h72 := zB_f0 h72
            refine v_iinc (v := nI (k + 1)) (ls' := [(6, .int (nI (k + 1))), (4, .long ent), (0, .ref B), (1, .int r), (2, .int x), (3, .int (nI m))]) g dX5_noneOrOneDitch_114 0 rfl (nI_1 k) rfl rfl ?_
            refine v_goto (tgt := 25) g dX5_noneOrOneDitch_117 (by decide) ?_
            refine v_sub (ls' := [(6, .int (nI (k + 1))), (4, .long ent), (0, .ref B), (1, .int r), (2, .int x), (3, .int (nI m))]) [0, 1, 2, 3, 4, 5] rfl ?_
            exact ih (k + 1) _ _ _ (by omega) (by first | rw [he, n1From, if_neg h34, if_pos h62] | rw [he, n1From, if_neg h34, if_neg (by rw [h62]; decide), if_pos h72])
          · skip
            have h72 := zB_t0 h72
            refine v_aload_n g dX5_noneOrOneDitch_75 2 rfl ?_
            refine v_iload_n g dX5_noneOrOneDitch_76 5 rfl ?_
            refine v_iload_n g dX5_noneOrOneDitch_77 3 rfl ?_
            refine v_iload g dX5_noneOrOneDitch_78 0 rfl ?_
            refine v_callS (As := [.int (nI k)]) (r := some (.long (bitC (nI k)))) g dX5_noneOrOneDitch_80 (k_X5_bit (nI k)) cl_X5_bit ml_RX5_231 sm_X5_bit rfl ⟨rfl, rfl, rfl⟩ ?_
            refine v_callV (As := [.int (nI m), .int r, .long (bitC (nI k))]) (r := some (.int (firstR (ftbA C b m (bitC (nI k))) r))) g dX5_noneOrOneDitch_83 (k_X5_firstTreeBehind (C := (sE (sA C 4 fd1) (vp_updL en1 k ent))) b (m := m) (by omega) r (bitC (nI k))) cl_X5_firstTreeBehind ml_RX5_203 im_X5_firstTreeBehind (rd_W B _ _) rfl rfl ⟨rfl, rfl, rfl⟩ ?_
            refine v_meq (μ' := ren B (sO (sE (sA C 4 fd1) (vp_updL en1 k ent)) 1 (ftbA C b m (bitC (nI k)))) ρ) rfl ?_
            refine v_iload_n g dX5_noneOrOneDitch_86 4 rfl ?_
            refine v_icmp_ne (tgt := 100) g dX5_noneOrOneDitch_87 (by decide) (fun h87 => ?_) (fun h87 => ?_)
            · skip
              refine v_aload_n g dX5_noneOrOneDitch_100 2 rfl ?_
              refine v_get g dX5_noneOrOneDitch_101 fl_RX5_64 (rd_W B _ _) rfl ?_
              refine v_iload g dX5_noneOrOneDitch_104 0 rfl ?_
              refine v_aload_n g dX5_noneOrOneDitch_106 2 rfl ?_
              refine v_get g dX5_noneOrOneDitch_107 fl_RX5_29 (rd_W B _ _) rfl ?_
              refine v_get g dX5_noneOrOneDitch_110 fl_RX5_268 (rd_O B _ _ (by decide)) rfl ?_
              refine v_last g dX5_noneOrOneDitch_113 (rd_E B _ _) (vp_in_nI (by omega) (by decide)) ?_
              rw [nI_clamp (n := k) (by omega)]
              refine v_meq (st_E4 B C ρ _ _ _ (vp_updL (vp_updL en1 k ent) k ((ftbA C b m (bitC (nI k))).2.2.2.2.2.1))) ?_
              refine v_iinc (v := nI (k + 1)) (ls' := [(6, .int (nI (k + 1))), (4, .long ent), (0, .ref B), (1, .int r), (2, .int x), (3, .int (nI m))]) g dX5_noneOrOneDitch_114 0 rfl (nI_1 k) rfl rfl ?_
              refine v_goto (tgt := 25) g dX5_noneOrOneDitch_117 (by decide) ?_
              refine v_sub (ls' := [(6, .int (nI (k + 1))), (4, .long ent), (0, .ref B), (1, .int r), (2, .int x), (3, .int (nI m))]) [0, 1, 2, 3, 4, 5] rfl ?_
              exact ih (k + 1) _ _ _ (by omega) (by rw [he, n1From, if_neg h34, if_neg (by rw [h62]; decide), if_neg (by rw [h72]; decide), if_neg h87])
            · skip
              refine v_aload_n g dX5_noneOrOneDitch_90 2 rfl ?_
              refine v_get g dX5_noneOrOneDitch_91 fl_RX5_61 (rd_W B _ _) rfl ?_
              refine v_iconst (v := 0) g dX5_noneOrOneDitch_94 (by decide) ?_
              refine v_iload g dX5_noneOrOneDitch_95 0 rfl ?_
              refine v_iast g dX5_noneOrOneDitch_97 (rd_A B _ _ (by decide)) (by unfold vp_in; decide) ?_
              refine v_meq (st_A4 B C ρ _ _ _ (upd fd1 0 (nI k))) ?_
              refine v_iconst (v := 1) g dX5_noneOrOneDitch_98 (by decide) ?_
              exact v_iret g E dX5_noneOrOneDitch_99 rfl ⟨by rw [he]; simp [n1From, *], rfl, by rw [he]; simp [n1From, *]⟩
  refine v_sub (ls' := [(0, .ref B), (1, .int r), (2, .int x), (3, .int (nI m))]) [0, 1, 2, 3] rfl ?_
  refine v_aload_n g dX5_noneOrOneDitch_0 0 rfl ?_
  refine v_iload_n g dX5_noneOrOneDitch_1 3 rfl ?_
  refine v_iload_n g dX5_noneOrOneDitch_2 1 rfl ?_
  refine v_lconst (v := 0) g dX5_noneOrOneDitch_3 (by decide) ?_
  refine v_callV (As := [.int (nI m), .int r, .long 0]) (r := some (.int (firstR (ftbA C a m 0) r))) g dX5_noneOrOneDitch_4 (k_X5_firstTreeBehind (C := (sE (sA C 4 fd) en)) a (m := m) (by omega) r 0) cl_X5_firstTreeBehind ml_RX5_203 im_X5_firstTreeBehind (rd_W B _ _) rfl rfl ⟨rfl, rfl, rfl⟩ ?_
  refine v_meq (μ' := ren B (sO (sE (sA C 4 fd) en) 1 (ftbA C a m 0)) ρ) rfl ?_
  refine v_iload_n g dX5_noneOrOneDitch_7 2 rfl ?_
  refine v_icmp_ne (tgt := 13) g dX5_noneOrOneDitch_8 (by decide) (fun h8 => ?_) (fun h8 => ?_)
  · skip
    refine v_aload_n g dX5_noneOrOneDitch_13 0 rfl ?_
    refine v_get g dX5_noneOrOneDitch_14 fl_RX5_29 (rd_W B _ _) rfl ?_
    refine v_get g dX5_noneOrOneDitch_17 fl_RX5_268 (rd_O B _ _ (by decide)) rfl ?_
    refine v_lstore (ls' := [(4, .long ((ftbA C a m 0).2.2.2.2.2.1)), (0, .ref B), (1, .int r), (2, .int x), (3, .int (nI m))]) g dX5_noneOrOneDitch_20 rfl rfl ?_
    refine v_iconst (v := 0) g dX5_noneOrOneDitch_22 (by decide) ?_
    refine v_istore (ls' := [(6, .int 0), (4, .long ((ftbA C a m 0).2.2.2.2.2.1)), (0, .ref B), (1, .int r), (2, .int x), (3, .int (nI m))]) g dX5_noneOrOneDitch_23 rfl rfl ?_
    refine v_sub (ls' := [(6, .int 0), (4, .long ((ftbA C a m 0).2.2.2.2.2.1)), (0, .ref B), (1, .int r), (2, .int x), (3, .int (nI m))]) [0, 1, 2, 3, 4, 5] rfl ?_
    exact loop _ 36 0 _ _ _ rfl (by rw [noneOne, if_neg h8])
  · skip
    refine v_iconst (v := 0) g dX5_noneOrOneDitch_11 (by decide) ?_
    exact v_iret g E dX5_noneOrOneDitch_12 rfl ⟨by simp [noneOne, *], rfl, by simp [noneOne, *]⟩
theorem k_X5_twoDitches (fd : Nat → Int32) (en : Nat → Int64) (a : OV) {m : Nat} (hm : m < 2 ^ 31) (r x : Int32) : Ctr l G 5 123 0 0 mX5_twoDitches [.ref B, .int r, .int x, .int (nI m)] n (ren B (sO (sE (sA C 4 fd) en) 1 a) ρ) (some (.int ((t2Out C m r x en 36 0 fd a).1))) n (ren B (sO (sE (sA C 4 (t2Out C m r x en 36 0 fd a).2.1) en) 1 (t2Out C m r x en 36 0 fd a).2.2) ρ) := by
  refine Ctr.of (by decide +kernel) rfl (fun X g E => ?_)
  have loop : ∀ (q k : Nat) (fd1 : Nat → Int32) (a1 : OV), k + q = 36 → t2Out C m r x en 36 0 fd a = t2Out C m r x en q k fd1 a1 → V X 0 0 n (ren B (sO (sE (sA C 4 fd1) en) 1 a1) ρ) 3 [(4, .int (nI k)), (0, .ref B), (1, .int r), (2, .int x), (3, .int (nI m))] [] := by
    intro q
    induction q with
    | zero =>
      intro k fd1 a1 hq he
      refine v_iload g dX5_twoDitches_3 0 rfl ?_
      refine v_aload_n g dX5_twoDitches_5 1 rfl ?_
      refine v_get g dX5_twoDitches_6 fl_RX5_16 (rd_W B _ _) rfl ?_
      refine v_callV (As := []) (r := some (.int (cellsC C))) g dX5_twoDitches_9 (k_cellsLC (C := sO (sE (sA C 4 fd1) en) 1 a1) (i := 0) (by decide)) cl_X0_cells ml_RX5_228 im_X0_cells (rd_L B _ _ (by decide)) rfl rfl ⟨rfl, rfl, rfl⟩ ?_
      refine v_icmp_ge (tgt := 155) g dX5_twoDitches_12 (by decide) (fun h12 => ?_) (fun h12 => ?_)
      · skip
        refine v_bipush (v := (-4)) g dX5_twoDitches_155 (by decide) ?_
        exact v_iret g E dX5_twoDitches_157 rfl ⟨by rw [he]; simp [t2Out, *], rfl, by rw [he]; simp [t2Out, *]⟩
      · skip
        refine v_iload g dX5_twoDitches_15 0 rfl ?_
        refine v_bipush (v := 36) g dX5_twoDitches_17 (by decide) ?_
        refine v_icmp_ge (tgt := 155) g dX5_twoDitches_19 (by decide) (fun h19 => ?_) (fun h19 => absurd (nI_le (a := 36) (b := k) (by omega) (by omega)) h19)
        refine v_bipush (v := (-4)) g dX5_twoDitches_155 (by decide) ?_
        exact v_iret g E dX5_twoDitches_157 rfl ⟨by rw [he]; simp [t2Out, *], rfl, by rw [he]; simp [t2Out, *]⟩
    | succ q ih =>
      intro k fd1 a1 hq he
      have inner : ∀ (hcc : ¬ cellsC C ≤ nI k) (hdd : dC0 C (nI k) = true) (u b : Nat) (fd2 : Nat → Int32) (a2 : OV), b + u = k + 1 + q → t2In C m r x en k q (k + 1) fd1 a1 = t2In C m r x en k u b fd2 a2 → V X 0 0 n (ren B (sO (sE (sA C 4 fd2) en) 1 a2) ρ) 43 [(5, .int (nI b)), (4, .int (nI k)), (0, .ref B), (1, .int r), (2, .int x), (3, .int (nI m))] [] := by
        intro hcc hdd u
        induction u with
        | zero =>
          intro b fd2 a2 hu h2
          refine v_iload g dX5_twoDitches_43 0 rfl ?_
          refine v_aload_n g dX5_twoDitches_45 2 rfl ?_
          refine v_get g dX5_twoDitches_46 fl_RX5_16 (rd_W B _ _) rfl ?_
          refine v_callV (As := []) (r := some (.int (cellsC C))) g dX5_twoDitches_49 (k_cellsLC (C := sO (sE (sA C 4 fd2) en) 1 a2) (i := 0) (by decide)) cl_X0_cells ml_RX5_228 im_X0_cells (rd_L B _ _ (by decide)) rfl rfl ⟨rfl, rfl, rfl⟩ ?_
          refine v_icmp_ge (tgt := 149) g dX5_twoDitches_52 (by decide) (fun h52 => ?_) (fun h52 => ?_)
          · skip
            refine v_iinc (v := nI (k + 1)) (ls' := [(4, .int (nI (k + 1))), (5, .int (nI b)), (0, .ref B), (1, .int r), (2, .int x), (3, .int (nI m))]) g dX5_twoDitches_149 1 rfl (nI_1 k) rfl rfl ?_
            refine v_goto (tgt := 3) g dX5_twoDitches_152 (by decide) ?_
            refine v_sub (ls' := [(4, .int (nI (k + 1))), (0, .ref B), (1, .int r), (2, .int x), (3, .int (nI m))]) [0, 2, 3, 4, 5] rfl ?_
            exact ih (k + 1) _ _ (by omega) (by rw [he, t2Out, if_neg hcc, if_neg (by rw [hdd]; decide), h2, t2In]; rfl)
          · skip
            refine v_iload g dX5_twoDitches_55 0 rfl ?_
            refine v_bipush (v := 36) g dX5_twoDitches_57 (by decide) ?_
            refine v_icmp_ge (tgt := 149) g dX5_twoDitches_59 (by decide) (fun h59 => ?_) (fun h59 => absurd (nI_le (a := 36) (b := b) (by omega) (by omega)) h59)
            refine v_iinc (v := nI (k + 1)) (ls' := [(4, .int (nI (k + 1))), (5, .int (nI b)), (0, .ref B), (1, .int r), (2, .int x), (3, .int (nI m))]) g dX5_twoDitches_149 1 rfl (nI_1 k) rfl rfl ?_
            refine v_goto (tgt := 3) g dX5_twoDitches_152 (by decide) ?_
            refine v_sub (ls' := [(4, .int (nI (k + 1))), (0, .ref B), (1, .int r), (2, .int x), (3, .int (nI m))]) [0, 2, 3, 4, 5] rfl ?_
            exact ih (k + 1) _ _ (by omega) (by rw [he, t2Out, if_neg hcc, if_neg (by rw [hdd]; decide), h2, t2In]; rfl)
        | succ u ihu =>
          intro b fd2 a2 hu h2
          refine v_iload g dX5_twoDitches_43 0 rfl ?_
          refine v_aload_n g dX5_twoDitches_45 2 rfl ?_
          refine v_get g dX5_twoDitches_46 fl_RX5_16 (rd_W B _ _) rfl ?_
          refine v_callV (As := []) (r := some (.int (cellsC C))) g dX5_twoDitches_49 (k_cellsLC (C := sO (sE (sA C 4 fd2) en) 1 a2) (i := 0) (by decide)) cl_X0_cells ml_RX5_228 im_X0_cells (rd_L B _ _ (by decide)) rfl rfl ⟨rfl, rfl, rfl⟩ ?_
          refine v_icmp_ge (tgt := 149) g dX5_twoDitches_52 (by decide) (fun h52 => ?_) (fun h52 => ?_)
          · skip
            refine v_iinc (v := nI (k + 1)) (ls' := [(4, .int (nI (k + 1))), (5, .int (nI b)), (0, .ref B), (1, .int r), (2, .int x), (3, .int (nI m))]) g dX5_twoDitches_149 1 rfl (nI_1 k) rfl rfl ?_
            refine v_goto (tgt := 3) g dX5_twoDitches_152 (by decide) ?_
            refine v_sub (ls' := [(4, .int (nI (k + 1))), (0, .ref B), (1, .int r), (2, .int x), (3, .int (nI m))]) [0, 2, 3, 4, 5] rfl ?_
            exact ih (k + 1) _ _ (by omega) (by rw [he, t2Out, if_neg hcc, if_neg (by rw [hdd]; decide), h2, t2In, if_pos h52]; rfl)
          · skip
            refine v_iload g dX5_twoDitches_55 0 rfl ?_
            refine v_bipush (v := 36) g dX5_twoDitches_57 (by decide) ?_
            refine v_icmp_ge (tgt := 149) g dX5_twoDitches_59 (by decide) (fun h59 => absurd h59 (nI_ge (a := b) (b := 36) (by omega) (by decide))) (fun h59 => ?_)
            refine v_aload_n g dX5_twoDitches_62 2 rfl ?_
            refine v_get g dX5_twoDitches_63 fl_RX5_64 (rd_W B _ _) rfl ?_
            refine v_iload g dX5_twoDitches_66 1 rfl ?_
            refine v_lald g dX5_twoDitches_68 (rd_E B _ _) (vp_in_nI (by omega) (by decide)) (v_eql (y := (en k)) (by first | (rw [nI_clamp (by omega)]; done) | (rw [nI_clamp (by omega)]; rfl)) ?_)
            refine v_iload g dX5_twoDitches_69 0 rfl ?_
            refine v_callS (As := [.long (en k), .int (nI b)]) (r := some (.int (zB (ctn (en k) (nI b))))) g dX5_twoDitches_71 (k_X5_contains (en k) (nI b)) cl_X5_contains ml_RX5_118 sm_X5_contains rfl ⟨rfl, rfl, rfl⟩ ?_
            refine v_if_eq (tgt := 143) g dX5_twoDitches_74 (by decide) (fun h74 => ?_) (fun h74 => ?_)
            · skip
              have h74 := zB_f0 h74
              refine v_iinc (v := nI (b + 1)) (ls' := [(5, .int (nI (b + 1))), (4, .int (nI k)), (0, .ref B), (1, .int r), (2, .int x), (3, .int (nI m))]) g dX5_twoDitches_143 0 rfl (nI_1 b) rfl rfl ?_
              refine v_goto (tgt := 43) g dX5_twoDitches_146 (by decide) ?_
              refine v_sub (ls' := [(5, .int (nI (b + 1))), (4, .int (nI k)), (0, .ref B), (1, .int r), (2, .int x), (3, .int (nI m))]) [0, 1, 2, 3, 4, 5] rfl ?_
              exact ihu (b + 1) _ _ (by omega) (by first | rw [h2, t2In, if_neg h52, if_pos h74] | rw [h2, t2In, if_neg h52, if_neg (by rw [h74]; decide), if_pos h89] | rw [h2, t2In, if_neg h52, if_neg (by rw [h74]; decide), if_neg (by rw [h89]; decide), if_pos h101])
            · skip
              have h74 := zB_t0 h74
              refine v_aload_n g dX5_twoDitches_77 2 rfl ?_
              refine v_get g dX5_twoDitches_78 fl_RX5_64 (rd_W B _ _) rfl ?_
              refine v_iload g dX5_twoDitches_81 0 rfl ?_
              refine v_lald g dX5_twoDitches_83 (rd_E B _ _) (vp_in_nI (by omega) (by decide)) (v_eql (y := (en b)) (by first | (rw [nI_clamp (by omega)]; done) | (rw [nI_clamp (by omega)]; rfl)) ?_)
              refine v_iload g dX5_twoDitches_84 1 rfl ?_
              refine v_callS (As := [.long (en b), .int (nI k)]) (r := some (.int (zB (ctn (en b) (nI k))))) g dX5_twoDitches_86 (k_X5_contains (en b) (nI k)) cl_X5_contains ml_RX5_118 sm_X5_contains rfl ⟨rfl, rfl, rfl⟩ ?_
              refine v_if_eq (tgt := 143) g dX5_twoDitches_89 (by decide) (fun h89 => ?_) (fun h89 => ?_)
              · skip
                have h89 := zB_f0 h89
                refine v_iinc (v := nI (b + 1)) (ls' := [(5, .int (nI (b + 1))), (4, .int (nI k)), (0, .ref B), (1, .int r), (2, .int x), (3, .int (nI m))]) g dX5_twoDitches_143 0 rfl (nI_1 b) rfl rfl ?_
                refine v_goto (tgt := 43) g dX5_twoDitches_146 (by decide) ?_
                refine v_sub (ls' := [(5, .int (nI (b + 1))), (4, .int (nI k)), (0, .ref B), (1, .int r), (2, .int x), (3, .int (nI m))]) [0, 1, 2, 3, 4, 5] rfl ?_
                exact ihu (b + 1) _ _ (by omega) (by first | rw [h2, t2In, if_neg h52, if_pos h74] | rw [h2, t2In, if_neg h52, if_neg (by rw [h74]; decide), if_pos h89] | rw [h2, t2In, if_neg h52, if_neg (by rw [h74]; decide), if_neg (by rw [h89]; decide), if_pos h101])
              · skip
                have h89 := zB_t0 h89
                refine v_aload_n g dX5_twoDitches_92 2 rfl ?_
                refine v_get g dX5_twoDitches_93 fl_RX5_25 (rd_W B _ _) rfl ?_
                refine v_iload g dX5_twoDitches_96 0 rfl ?_
                refine v_callV (As := [.int (nI b)]) (r := some (.int (zB (dC0 C (nI b))))) g dX5_twoDitches_98 (k_canDigC (C := sO (sE (sA C 4 fd2) en) 1 a2) (i := 0) (by decide) (nI b)) cl_X1_canDig ml_RX5_179 im_X1_canDig (rd_O B _ _ (by decide)) rfl rfl ⟨rfl, rfl, rfl⟩ ?_
                refine v_if_eq (tgt := 143) g dX5_twoDitches_101 (by decide) (fun h101 => ?_) (fun h101 => ?_)
                · skip
                  have h101 := zB_f0 h101
                  refine v_iinc (v := nI (b + 1)) (ls' := [(5, .int (nI (b + 1))), (4, .int (nI k)), (0, .ref B), (1, .int r), (2, .int x), (3, .int (nI m))]) g dX5_twoDitches_143 0 rfl (nI_1 b) rfl rfl ?_
                  refine v_goto (tgt := 43) g dX5_twoDitches_146 (by decide) ?_
                  refine v_sub (ls' := [(5, .int (nI (b + 1))), (4, .int (nI k)), (0, .ref B), (1, .int r), (2, .int x), (3, .int (nI m))]) [0, 1, 2, 3, 4, 5] rfl ?_
                  exact ihu (b + 1) _ _ (by omega) (by first | rw [h2, t2In, if_neg h52, if_pos h74] | rw [h2, t2In, if_neg h52, if_neg (by rw [h74]; decide), if_pos h89] | rw [h2, t2In, if_neg h52, if_neg (by rw [h74]; decide), if_neg (by rw [h89]; decide), if_pos h101])
                · skip
                  have h101 := zB_t0 h101
                  refine v_aload_n g dX5_twoDitches_104 2 rfl ?_
                  refine v_iload_n g dX5_twoDitches_105 5 rfl ?_
                  refine v_iload_n g dX5_twoDitches_106 3 rfl ?_
                  refine v_iload g dX5_twoDitches_107 1 rfl ?_
                  refine v_callS (As := [.int (nI k)]) (r := some (.long (bitC (nI k)))) g dX5_twoDitches_109 (k_X5_bit (nI k)) cl_X5_bit ml_RX5_231 sm_X5_bit rfl ⟨rfl, rfl, rfl⟩ ?_
                  refine v_iload g dX5_twoDitches_112 0 rfl ?_
                  refine v_callS (As := [.int (nI b)]) (r := some (.long (bitC (nI b)))) g dX5_twoDitches_114 (k_X5_bit (nI b)) cl_X5_bit ml_RX5_231 sm_X5_bit rfl ⟨rfl, rfl, rfl⟩ ?_
                  refine v_lor g dX5_twoDitches_117 ?_
                  refine v_callV (As := [.int (nI m), .int r, .long (bitC (nI k) ||| bitC (nI b))]) (r := some (.int (firstR (ftbA C a2 m (bitC (nI k) ||| bitC (nI b))) r))) g dX5_twoDitches_118 (k_X5_firstTreeBehind (C := (sE (sA C 4 fd2) en)) a2 (m := m) (by omega) r (bitC (nI k) ||| bitC (nI b))) cl_X5_firstTreeBehind ml_RX5_203 im_X5_firstTreeBehind (rd_W B _ _) rfl rfl ⟨rfl, rfl, rfl⟩ ?_
                  refine v_meq (μ' := ren B (sO (sE (sA C 4 fd2) en) 1 (ftbA C a2 m (bitC (nI k) ||| bitC (nI b)))) ρ) rfl ?_
                  refine v_iload_n g dX5_twoDitches_121 4 rfl ?_
                  refine v_icmp_ne (tgt := 143) g dX5_twoDitches_122 (by decide) (fun h122 => ?_) (fun h122 => ?_)
                  · skip
                    refine v_iinc (v := nI (b + 1)) (ls' := [(5, .int (nI (b + 1))), (4, .int (nI k)), (0, .ref B), (1, .int r), (2, .int x), (3, .int (nI m))]) g dX5_twoDitches_143 0 rfl (nI_1 b) rfl rfl ?_
                    refine v_goto (tgt := 43) g dX5_twoDitches_146 (by decide) ?_
                    refine v_sub (ls' := [(5, .int (nI (b + 1))), (4, .int (nI k)), (0, .ref B), (1, .int r), (2, .int x), (3, .int (nI m))]) [0, 1, 2, 3, 4, 5] rfl ?_
                    exact ihu (b + 1) _ _ (by omega) (by rw [h2, t2In, if_neg h52, if_neg (by rw [h74]; decide), if_neg (by rw [h89]; decide), if_neg (by rw [h101]; decide), if_neg h122])
                  · skip
                    refine v_aload_n g dX5_twoDitches_125 2 rfl ?_
                    refine v_get g dX5_twoDitches_126 fl_RX5_61 (rd_W B _ _) rfl ?_
                    refine v_iconst (v := 0) g dX5_twoDitches_129 (by decide) ?_
                    refine v_iload g dX5_twoDitches_130 1 rfl ?_
                    refine v_iast g dX5_twoDitches_132 (rd_A B _ _ (by decide)) (by unfold vp_in; decide) ?_
                    refine v_meq (st_A4 B C ρ _ _ _ (upd fd2 0 (nI k))) ?_
                    refine v_aload_n g dX5_twoDitches_133 2 rfl ?_
                    refine v_get g dX5_twoDitches_134 fl_RX5_61 (rd_W B _ _) rfl ?_
                    refine v_iconst (v := 1) g dX5_twoDitches_137 (by decide) ?_
                    refine v_iload g dX5_twoDitches_138 0 rfl ?_
                    refine v_iast g dX5_twoDitches_140 (rd_A B _ _ (by decide)) (by unfold vp_in; decide) ?_
                    refine v_meq (st_A4 B C ρ _ _ _ (upd (upd fd2 0 (nI k)) 1 (nI b))) ?_
                    refine v_iconst (v := 2) g dX5_twoDitches_141 (by decide) ?_
                    exact v_iret g E dX5_twoDitches_142 rfl ⟨by rw [he, t2Out, if_neg hcc, if_neg (by rw [hdd]; decide), h2]; simp [t2In, *], rfl, by rw [he, t2Out, if_neg hcc, if_neg (by rw [hdd]; decide), h2]; simp [t2In, *]⟩
      refine v_iload g dX5_twoDitches_3 0 rfl ?_
      refine v_aload_n g dX5_twoDitches_5 1 rfl ?_
      refine v_get g dX5_twoDitches_6 fl_RX5_16 (rd_W B _ _) rfl ?_
      refine v_callV (As := []) (r := some (.int (cellsC C))) g dX5_twoDitches_9 (k_cellsLC (C := sO (sE (sA C 4 fd1) en) 1 a1) (i := 0) (by decide)) cl_X0_cells ml_RX5_228 im_X0_cells (rd_L B _ _ (by decide)) rfl rfl ⟨rfl, rfl, rfl⟩ ?_
      refine v_icmp_ge (tgt := 155) g dX5_twoDitches_12 (by decide) (fun h12 => ?_) (fun h12 => ?_)
      · skip
        refine v_bipush (v := (-4)) g dX5_twoDitches_155 (by decide) ?_
        exact v_iret g E dX5_twoDitches_157 rfl ⟨by rw [he]; simp [t2Out, *], rfl, by rw [he]; simp [t2Out, *]⟩
      · skip
        refine v_iload g dX5_twoDitches_15 0 rfl ?_
        refine v_bipush (v := 36) g dX5_twoDitches_17 (by decide) ?_
        refine v_icmp_ge (tgt := 155) g dX5_twoDitches_19 (by decide) (fun h19 => absurd h19 (nI_ge (a := k) (b := 36) (by omega) (by decide))) (fun h19 => ?_)
        refine v_aload_n g dX5_twoDitches_22 1 rfl ?_
        refine v_get g dX5_twoDitches_23 fl_RX5_25 (rd_W B _ _) rfl ?_
        refine v_iload g dX5_twoDitches_26 0 rfl ?_
        refine v_callV (As := [.int (nI k)]) (r := some (.int (zB (dC0 C (nI k))))) g dX5_twoDitches_28 (k_canDigC (C := sO (sE (sA C 4 fd1) en) 1 a1) (i := 0) (by decide) (nI k)) cl_X1_canDig ml_RX5_179 im_X1_canDig (rd_O B _ _ (by decide)) rfl rfl ⟨rfl, rfl, rfl⟩ ?_
        refine v_if_ne (tgt := 37) g dX5_twoDitches_31 (by decide) (fun h31 => ?_) (fun h31 => ?_)
        · skip
          have h31 := zB_t0 h31
          refine v_iload g dX5_twoDitches_37 0 rfl ?_
          refine v_iconst (v := 1) g dX5_twoDitches_39 (by decide) ?_
          refine v_iadd g dX5_twoDitches_40 ?_
          refine v_eqi (nI_1 k) ?_
          refine v_istore (ls' := [(5, .int (nI (k + 1))), (4, .int (nI k)), (0, .ref B), (1, .int r), (2, .int x), (3, .int (nI m))]) g dX5_twoDitches_41 rfl rfl ?_
          refine v_sub (ls' := [(5, .int (nI (k + 1))), (4, .int (nI k)), (0, .ref B), (1, .int r), (2, .int x), (3, .int (nI m))]) [0, 1, 2, 3, 4, 5] rfl ?_
          exact inner h12 h31 q (k + 1) fd1 a1 rfl rfl
        · skip
          have h31 := zB_f0 h31
          refine v_goto (tgt := 149) g dX5_twoDitches_34 (by decide) ?_
          refine v_iinc (v := nI (k + 1)) (ls' := [(4, .int (nI (k + 1))), (0, .ref B), (1, .int r), (2, .int x), (3, .int (nI m))]) g dX5_twoDitches_149 0 rfl (nI_1 k) rfl rfl ?_
          refine v_goto (tgt := 3) g dX5_twoDitches_152 (by decide) ?_
          refine v_sub (ls' := [(4, .int (nI (k + 1))), (0, .ref B), (1, .int r), (2, .int x), (3, .int (nI m))]) [0, 1, 2, 3, 4] rfl ?_
          exact ih (k + 1) _ _ (by omega) (by rw [he, t2Out, if_neg h12, if_pos h31])
  refine v_sub (ls' := [(0, .ref B), (1, .int r), (2, .int x), (3, .int (nI m))]) [0, 1, 2, 3] rfl ?_
  refine v_iconst (v := 0) g dX5_twoDitches_0 (by decide) ?_
  refine v_istore (ls' := [(4, .int 0), (0, .ref B), (1, .int r), (2, .int x), (3, .int (nI m))]) g dX5_twoDitches_1 rfl rfl ?_
  refine v_sub (ls' := [(4, .int 0), (0, .ref B), (1, .int r), (2, .int x), (3, .int (nI m))]) [0, 1, 2, 3, 4] rfl ?_
  exact loop 36 0 fd a rfl rfl
def ditZ (C : CS) (m : Nat) (r x : Int32) (fd : Nat → Int32) (en : Nat → Int64) (a : OV) : DS := if (noneOne C m r x fd en a).1 = -4 then ((t2Out C m r x (noneOne C m r x fd en a).2.2.1 36 0 (noneOne C m r x fd en a).2.1 (noneOne C m r x fd en a).2.2.2).1, (t2Out C m r x (noneOne C m r x fd en a).2.2.1 36 0 (noneOne C m r x fd en a).2.1 (noneOne C m r x fd en a).2.2.2).2.1, (noneOne C m r x fd en a).2.2.1, (t2Out C m r x (noneOne C m r x fd en a).2.2.1 36 0 (noneOne C m r x fd en a).2.1 (noneOne C m r x fd en a).2.2.2).2.2) else noneOne C m r x fd en a
def ditEnd (k : Int32) (z : DS) : Int32 := if k = -1 then z.1 else if z.1 = -4 then z.1 else if k < 0 then -4 else if z.1 ≤ k then -4 else if 2 ≤ k then -4 else z.2.1 k.toNatClampNeg
def ditchesC (C : CS) (r x y k : Int32) (fd : Nat → Int32) (en : Nat → Int64) (a : OV) : DS := if rC C r = false then (-1, fd, en, a) else if hC C x = false then (-1, fd, en, a) else if withinC y 1 20 = false then (-1, fd, en, a) else if withinC k (-1) 1 = false then (-1, fd, en, a) else (ditEnd k (ditZ C y.toNatClampNeg r x fd en a), (ditZ C y.toNatClampNeg r x fd en a).2)
theorem k_X5_ditches (fd : Nat → Int32) (en : Nat → Int64) (a : OV) (r x y k : Int32) : Ctr l G 6 149 0 0 mX5_ditches [.ref B, .int r, .int x, .int y, .int k] n (ren B (sO (sE (sA C 4 fd) en) 1 a) ρ) (some (.int ((ditchesC C r x y k fd en a).1))) n (ren B (sO (sE (sA C 4 (ditchesC C r x y k fd en a).2.1) (ditchesC C r x y k fd en a).2.2.1) 1 (ditchesC C r x y k fd en a).2.2.2) ρ) := by
  refine Ctr.of (by decide +kernel) rfl (fun X g E => ?_)
  have tail : ∀ (m : Nat) (z : DS), (ditchesC C r x y k fd en a) = (ditEnd k z, z.2) → V X 0 0 n (ren B (sO (sE (sA C 4 z.2.1) z.2.2.1) 1 z.2.2.2) ρ) 69 [(5, .int z.1), (0, .ref B), (1, .int r), (2, .int x), (3, .int (nI m)), (4, .int k)] [] := by
    intro m z he
    refine v_iload g dX5_ditches_69 5 rfl ?_
    refine v_iconst (v := (-1)) g dX5_ditches_71 (by decide) ?_
    refine v_icmp_eq (tgt := 82) g dX5_ditches_72 (by decide) (fun h72 => ?_) (fun h72 => ?_)
    · skip
      refine v_iload g dX5_ditches_82 0 rfl ?_
      exact v_iret g E dX5_ditches_84 rfl ⟨by rw [he]; simp [ditEnd, *] <;> rfl, rfl, by rw [he]⟩
    · skip
      refine v_iload g dX5_ditches_75 0 rfl ?_
      refine v_bipush (v := (-4)) g dX5_ditches_77 (by decide) ?_
      refine v_icmp_ne (tgt := 85) g dX5_ditches_79 (by decide) (fun h79 => ?_) (fun h79 => ?_)
      · skip
        refine v_iload g dX5_ditches_85 5 rfl ?_
        refine v_if_lt (tgt := 117) g dX5_ditches_87 (by decide) (fun h87 => ?_) (fun h87 => ?_)
        · skip
          refine v_bipush (v := (-4)) g dX5_ditches_117 (by decide) ?_
          exact v_iret g E dX5_ditches_119 rfl ⟨by rw [he]; simp [ditEnd, *] <;> rfl, rfl, by rw [he]⟩
        · skip
          refine v_iload g dX5_ditches_90 5 rfl ?_
          refine v_iload g dX5_ditches_92 0 rfl ?_
          refine v_icmp_ge (tgt := 117) g dX5_ditches_94 (by decide) (fun h94 => ?_) (fun h94 => ?_)
          · skip
            refine v_bipush (v := (-4)) g dX5_ditches_117 (by decide) ?_
            exact v_iret g E dX5_ditches_119 rfl ⟨by rw [he]; simp [ditEnd, *] <;> rfl, rfl, by rw [he]⟩
          · skip
            refine v_iload g dX5_ditches_97 5 rfl ?_
            refine v_aload_n g dX5_ditches_99 1 rfl ?_
            refine v_get g dX5_ditches_100 fl_RX5_61 (rd_W B _ _) rfl ?_
            refine v_alen (v := 2) g dX5_ditches_103 (rd_A B _ _ (by decide)) rfl rfl ?_
            refine v_icmp_ge (tgt := 117) g dX5_ditches_104 (by decide) (fun h104 => ?_) (fun h104 => ?_)
            · skip
              refine v_bipush (v := (-4)) g dX5_ditches_117 (by decide) ?_
              exact v_iret g E dX5_ditches_119 rfl ⟨by rw [he]; simp [ditEnd, *] <;> rfl, rfl, by rw [he]⟩
            · skip
              refine v_aload_n g dX5_ditches_107 1 rfl ?_
              refine v_get g dX5_ditches_108 fl_RX5_61 (rd_W B _ _) rfl ?_
              refine v_iload g dX5_ditches_111 5 rfl ?_
              refine v_iald g dX5_ditches_113 (rd_A B _ _ (by decide)) (vin_c (N := 2) (m := 2) rfl h87 h104) ?_
              refine v_goto (tgt := 119) g dX5_ditches_114 (by decide) ?_
              exact v_iret g E dX5_ditches_119 rfl ⟨by rw [he]; simp [ditEnd, *] <;> rfl, rfl, by rw [he]⟩
      · skip
        refine v_iload g dX5_ditches_82 0 rfl ?_
        exact v_iret g E dX5_ditches_84 rfl ⟨by rw [he]; simp [ditEnd, *] <;> rfl, rfl, by rw [he]⟩
  refine v_sub (ls' := [(0, .ref B), (1, .int r), (2, .int x), (3, .int y), (4, .int k)]) [0, 1, 2, 3, 4] rfl ?_
  refine v_aload_n g dX5_ditches_0 0 rfl ?_
  refine v_get g dX5_ditches_1 fl_RX5_25 (rd_W B _ _) rfl ?_
  refine v_iload_n g dX5_ditches_4 1 rfl ?_
  refine v_callV (As := [.int r]) (r := some (.int (zB (orHoldsC (cO C 0).1 r)))) g dX5_ditches_5 (k_holdsOC (C := sO (sE (sA C 4 fd) en) 1 a) (i := 0) (by decide) r) cl_X1_holds ml_RX5_125 im_X1_holds (rd_O B _ _ (by decide)) rfl rfl ⟨rfl, rfl, rfl⟩ ?_
  refine v_if_eq (tgt := 42) g dX5_ditches_8 (by decide) (fun h8 => ?_) (fun h8 => ?_)
  · skip
    have h8 := zB_f0 h8
    refine v_iconst (v := (-1)) g dX5_ditches_42 (by decide) ?_
    exact v_iret g E dX5_ditches_43 rfl ⟨by first | (simp only [ditchesC, rC, *, ↓reduceIte, Bool.true_eq_false, Bool.false_eq_true, if_true, if_false]; done) | (simp [ditchesC, rC, *]; done) | (simp only [ditchesC, rC, *, ↓reduceIte, Bool.true_eq_false, Bool.false_eq_true, if_true, if_false]; rfl), rfl, by first | (simp only [ditchesC, rC, *, ↓reduceIte, Bool.true_eq_false, Bool.false_eq_true, if_true, if_false]; done) | (simp [ditchesC, rC, *]; done) | (simp only [ditchesC, rC, *, ↓reduceIte, Bool.true_eq_false, Bool.false_eq_true, if_true, if_false]; rfl)⟩
  · skip
    have h8 := zB_t0 h8
    refine v_aload_n g dX5_ditches_11 0 rfl ?_
    refine v_get g dX5_ditches_12 fl_RX5_16 (rd_W B _ _) rfl ?_
    refine v_iload_n g dX5_ditches_15 2 rfl ?_
    refine v_callV (As := [.int x]) (r := some (.int (zB (hC C x)))) g dX5_ditches_16 (k_holdsLC (C := sO (sE (sA C 4 fd) en) 1 a) (i := 0) (by decide) x) cl_X0_holds ml_RX5_103 im_X0_holds (rd_L B _ _ (by decide)) rfl rfl ⟨rfl, rfl, rfl⟩ ?_
    refine v_if_eq (tgt := 42) g dX5_ditches_19 (by decide) (fun h19 => ?_) (fun h19 => ?_)
    · skip
      have h19 := zB_f0 h19
      refine v_iconst (v := (-1)) g dX5_ditches_42 (by decide) ?_
      exact v_iret g E dX5_ditches_43 rfl ⟨by first | (simp only [ditchesC, rC, *, ↓reduceIte, Bool.true_eq_false, Bool.false_eq_true, if_true, if_false]; done) | (simp [ditchesC, rC, *]; done) | (simp only [ditchesC, rC, *, ↓reduceIte, Bool.true_eq_false, Bool.false_eq_true, if_true, if_false]; rfl), rfl, by first | (simp only [ditchesC, rC, *, ↓reduceIte, Bool.true_eq_false, Bool.false_eq_true, if_true, if_false]; done) | (simp [ditchesC, rC, *]; done) | (simp only [ditchesC, rC, *, ↓reduceIte, Bool.true_eq_false, Bool.false_eq_true, if_true, if_false]; rfl)⟩
    · skip
      have h19 := zB_t0 h19
      refine v_iload_n g dX5_ditches_22 3 rfl ?_
      refine v_iconst (v := 1) g dX5_ditches_23 (by decide) ?_
      refine v_bipush (v := 20) g dX5_ditches_24 (by decide) ?_
      refine v_callS (As := [.int y, .int 1, .int 20]) (r := some (.int (zB (withinC y 1 20)))) g dX5_ditches_26 (k_X5_isWithin y 1 20) cl_X5_isWithin ml_RX5_165 sm_X5_isWithin rfl ⟨rfl, rfl, rfl⟩ ?_
      refine v_if_eq (tgt := 42) g dX5_ditches_29 (by decide) (fun h29 => ?_) (fun h29 => ?_)
      · skip
        have h29 := zB_f0 h29
        refine v_iconst (v := (-1)) g dX5_ditches_42 (by decide) ?_
        exact v_iret g E dX5_ditches_43 rfl ⟨by first | (simp only [ditchesC, rC, *, ↓reduceIte, Bool.true_eq_false, Bool.false_eq_true, if_true, if_false]; done) | (simp [ditchesC, rC, *]; done) | (simp only [ditchesC, rC, *, ↓reduceIte, Bool.true_eq_false, Bool.false_eq_true, if_true, if_false]; rfl), rfl, by first | (simp only [ditchesC, rC, *, ↓reduceIte, Bool.true_eq_false, Bool.false_eq_true, if_true, if_false]; done) | (simp [ditchesC, rC, *]; done) | (simp only [ditchesC, rC, *, ↓reduceIte, Bool.true_eq_false, Bool.false_eq_true, if_true, if_false]; rfl)⟩
      · skip
        have h29 := zB_t0 h29
        refine v_iload g dX5_ditches_32 4 rfl ?_
        refine v_iconst (v := (-1)) g dX5_ditches_34 (by decide) ?_
        refine v_iconst (v := 1) g dX5_ditches_35 (by decide) ?_
        refine v_callS (As := [.int k, .int (-1), .int 1]) (r := some (.int (zB (withinC k (-1) 1)))) g dX5_ditches_36 (k_X5_isWithin k (-1) 1) cl_X5_isWithin ml_RX5_165 sm_X5_isWithin rfl ⟨rfl, rfl, rfl⟩ ?_
        refine v_if_ne (tgt := 44) g dX5_ditches_39 (by decide) (fun h39 => ?_) (fun h39 => ?_)
        · skip
          have h39 := zB_t0 h39
          obtain ⟨m, hm1_m, hm2_m, em_m⟩ := within_nI (a := 1) (b := 20) rfl rfl h29
          subst em_m
          refine v_aload_n g dX5_ditches_44 0 rfl ?_
          refine v_iload_n g dX5_ditches_45 1 rfl ?_
          refine v_iload_n g dX5_ditches_46 2 rfl ?_
          refine v_iload_n g dX5_ditches_47 3 rfl ?_
          refine v_callV (As := [.int r, .int x, .int (nI m)]) (r := some (.int ((noneOne C m r x fd en a).1))) g dX5_ditches_48 (k_X5_noneOrOneDitch (C := C) fd en a (m := m) (by omega) r x) cl_X5_noneOrOneDitch ml_RX5_221 im_X5_noneOrOneDitch (rd_W B _ _) rfl rfl ⟨rfl, rfl, rfl⟩ ?_
          refine v_istore (ls' := [(5, .int ((noneOne C m r x fd en a).1)), (0, .ref B), (1, .int r), (2, .int x), (3, .int (nI m)), (4, .int k)]) g dX5_ditches_51 rfl rfl ?_
          refine v_iload g dX5_ditches_53 0 rfl ?_
          refine v_bipush (v := (-4)) g dX5_ditches_55 (by decide) ?_
          refine v_icmp_ne (tgt := 69) g dX5_ditches_57 (by decide) (fun h57 => ?_) (fun h57 => ?_)
          · skip
            refine v_sub (ls' := [(5, .int ((noneOne C m r x fd en a).1)), (0, .ref B), (1, .int r), (2, .int x), (3, .int (nI m)), (4, .int k)]) [0, 1, 2, 3, 4, 5] rfl ?_
            exact tail m ((noneOne C m r x fd en a).1, (noneOne C m r x fd en a).2.1, (noneOne C m r x fd en a).2.2.1, (noneOne C m r x fd en a).2.2.2) (by rw [ditchesC, if_neg (by rw [rC, h8]; decide), if_neg (by rw [h19]; decide), if_neg (by rw [h29]; decide), if_neg (by rw [h39]; decide), nI_clamp (by omega), ditZ, if_neg h57])
          · skip
            refine v_aload_n g dX5_ditches_60 1 rfl ?_
            refine v_iload_n g dX5_ditches_61 2 rfl ?_
            refine v_iload_n g dX5_ditches_62 3 rfl ?_
            refine v_iload_n g dX5_ditches_63 4 rfl ?_
            refine v_callV (As := [.int r, .int x, .int (nI m)]) (r := some (.int ((t2Out C m r x ((noneOne C m r x fd en a).2.2.1) 36 0 ((noneOne C m r x fd en a).2.1) ((noneOne C m r x fd en a).2.2.2)).1))) g dX5_ditches_64 (k_X5_twoDitches (C := C) ((noneOne C m r x fd en a).2.1) ((noneOne C m r x fd en a).2.2.1) ((noneOne C m r x fd en a).2.2.2) (m := m) (by omega) r x) cl_X5_twoDitches ml_RX5_225 im_X5_twoDitches (rd_W B _ _) rfl rfl ⟨rfl, rfl, rfl⟩ ?_
            refine v_istore (ls' := [(5, .int ((t2Out C m r x ((noneOne C m r x fd en a).2.2.1) 36 0 ((noneOne C m r x fd en a).2.1) ((noneOne C m r x fd en a).2.2.2)).1)), (0, .ref B), (1, .int r), (2, .int x), (3, .int (nI m)), (4, .int k)]) g dX5_ditches_67 rfl rfl ?_
            refine v_sub (ls' := [(5, .int ((t2Out C m r x ((noneOne C m r x fd en a).2.2.1) 36 0 ((noneOne C m r x fd en a).2.1) ((noneOne C m r x fd en a).2.2.2)).1)), (0, .ref B), (1, .int r), (2, .int x), (3, .int (nI m)), (4, .int k)]) [0, 1, 2, 3, 4, 5] rfl ?_
            exact tail m ((t2Out C m r x ((noneOne C m r x fd en a).2.2.1) 36 0 ((noneOne C m r x fd en a).2.1) ((noneOne C m r x fd en a).2.2.2)).1, (t2Out C m r x ((noneOne C m r x fd en a).2.2.1) 36 0 ((noneOne C m r x fd en a).2.1) ((noneOne C m r x fd en a).2.2.2)).2.1, (noneOne C m r x fd en a).2.2.1, (t2Out C m r x ((noneOne C m r x fd en a).2.2.1) 36 0 ((noneOne C m r x fd en a).2.1) ((noneOne C m r x fd en a).2.2.2)).2.2) (by rw [ditchesC, if_neg (by rw [rC, h8]; decide), if_neg (by rw [h19]; decide), if_neg (by rw [h29]; decide), if_neg (by rw [h39]; decide), nI_clamp (by omega), ditZ, if_pos h57])
        · skip
          have h39 := zB_f0 h39
          refine v_iconst (v := (-1)) g dX5_ditches_42 (by decide) ?_
          exact v_iret g E dX5_ditches_43 rfl ⟨by first | (simp only [ditchesC, rC, *, ↓reduceIte, Bool.true_eq_false, Bool.false_eq_true, if_true, if_false]; done) | (simp [ditchesC, rC, *]; done) | (simp only [ditchesC, rC, *, ↓reduceIte, Bool.true_eq_false, Bool.false_eq_true, if_true, if_false]; rfl), rfl, by first | (simp only [ditchesC, rC, *, ↓reduceIte, Bool.true_eq_false, Bool.false_eq_true, if_true, if_false]; done) | (simp [ditchesC, rC, *]; done) | (simp only [ditchesC, rC, *, ↓reduceIte, Bool.true_eq_false, Bool.false_eq_true, if_true, if_false]; rfl)⟩
def bstFrom (C : CS) (m : Nat) (p : Int32) : Nat → Nat → Int32 → Int32 → OV → Int32 × Int32 × OV
  | 0, _, wh, mo, a => (wh, mo, a)
  | q + 1, k, wh, mo, a => if dC0 C (nI k) = false then bstFrom C m p q (k + 1) wh mo a
    else if wh = -4 then bstFrom C m p q (k + 1) (nI k) (ownR (obA C a m (bitC (nI k))) p) (obA C a m (bitC (nI k)))
    else if ownR (obA C a m (bitC (nI k))) p ≤ mo then bstFrom C m p q (k + 1) wh mo (obA C a m (bitC (nI k)))
    else bstFrom C m p q (k + 1) (nI k) (ownR (obA C a m (bitC (nI k))) p) (obA C a m (bitC (nI k)))
def bestC (C : CS) (cc : Nat) (p y w : Int32) (a : OV) : Int32 × OV := if isOwnC p = false then (-1, a) else if withinC y 1 20 = false then (-1, a) else if withinC w 0 1 = false then (-1, a) else ((if w = 0 then (bstFrom C y.toNatClampNeg p cc 0 (-4) (-4) a).1 else (bstFrom C y.toNatClampNeg p cc 0 (-4) (-4) a).2.1), (bstFrom C y.toNatClampNeg p cc 0 (-4) (-4) a).2.2)
theorem k_X5_best (a : OV) {cc : Nat} (hcc : cellsC C = nI cc) (hc : cc < 2 ^ 31) (p y w : Int32) : Ctr l G 6 145 0 0 mX5_best [.ref B, .int p, .int y, .int w] n (ren B (sO C 1 a) ρ) (some (.int ((bestC C cc p y w a).1))) n (ren B (sO C 1 (bestC C cc p y w a).2) ρ) := by
  refine Ctr.of (by decide +kernel) rfl (fun X g E => ?_)
  have loop : ∀ (m : Nat) (hm : m < 2 ^ 31) (q k : Nat) (wh mo : Int32) (b : OV), k + q = cc → bestC C cc p y w a = ((if w = 0 then (bstFrom C m p q k wh mo b).1 else (bstFrom C m p q k wh mo b).2.1), (bstFrom C m p q k wh mo b).2.2) → V X 0 0 n (ren B (sO C 1 b) ρ) 39 [(6, .int (nI k)), (5, .int mo), (4, .int wh), (0, .ref B), (1, .int p), (2, .int (nI m)), (3, .int w)] [] := by
    intro m hm q
    induction q with
    | zero =>
      intro k wh mo b hq he
      refine v_iload g dX5_best_39 0 rfl ?_
      refine v_aload_n g dX5_best_41 3 rfl ?_
      refine v_get g dX5_best_42 fl_RX5_16 (rd_W B _ _) rfl ?_
      refine v_callV (As := []) (r := some (.int (nI cc))) g dX5_best_45 (k_cellsN (C := sO C 1 b) hcc) cl_X0_cells ml_RX5_228 im_X0_cells (rd_L B _ _ (by decide)) rfl rfl ⟨rfl, rfl, rfl⟩ ?_
      refine v_icmp_ge (tgt := 107) g dX5_best_48 (by decide) (fun h48 => ?_) (fun h48 => absurd (nI_le (a := cc) (b := k) (by omega) (by omega)) h48)
      refine v_iload_n g dX5_best_107 6 rfl ?_
      refine v_if_ne (tgt := 116) g dX5_best_108 (by decide) (fun h108 => ?_) (fun h108 => ?_)
      · skip
        refine v_iload g dX5_best_116 1 rfl ?_
        exact v_iret g E dX5_best_118 rfl ⟨by rw [he]; simp [bstFrom, *], rfl, by rw [he]; rfl⟩
      · skip
        refine v_iload g dX5_best_111 2 rfl ?_
        refine v_goto (tgt := 118) g dX5_best_113 (by decide) ?_
        exact v_iret g E dX5_best_118 rfl ⟨by rw [he]; simp [bstFrom, *], rfl, by rw [he]; rfl⟩
    | succ q ih =>
      intro k wh mo b hq he
      refine v_iload g dX5_best_39 0 rfl ?_
      refine v_aload_n g dX5_best_41 3 rfl ?_
      refine v_get g dX5_best_42 fl_RX5_16 (rd_W B _ _) rfl ?_
      refine v_callV (As := []) (r := some (.int (nI cc))) g dX5_best_45 (k_cellsN (C := sO C 1 b) hcc) cl_X0_cells ml_RX5_228 im_X0_cells (rd_L B _ _ (by decide)) rfl rfl ⟨rfl, rfl, rfl⟩ ?_
      refine v_icmp_ge (tgt := 107) g dX5_best_48 (by decide) (fun h48 => absurd h48 (nI_ge (a := k) (b := cc) (by omega) hc)) (fun h48 => ?_)
      refine v_aload_n g dX5_best_51 3 rfl ?_
      refine v_get g dX5_best_52 fl_RX5_25 (rd_W B _ _) rfl ?_
      refine v_iload g dX5_best_55 0 rfl ?_
      refine v_callV (As := [.int (nI k)]) (r := some (.int (zB (dC0 C (nI k))))) g dX5_best_57 (k_canDigC (C := sO C 1 b) (i := 0) (by decide) (nI k)) cl_X1_canDig ml_RX5_179 im_X1_canDig (rd_O B _ _ (by decide)) rfl rfl ⟨rfl, rfl, rfl⟩ ?_
      refine v_if_ne (tgt := 66) g dX5_best_60 (by decide) (fun h60 => ?_) (fun h60 => ?_)
      · skip
        have h60 := zB_t0 h60
        refine v_aload_n g dX5_best_66 3 rfl ?_
        refine v_iload_n g dX5_best_67 5 rfl ?_
        refine v_iload_n g dX5_best_68 4 rfl ?_
        refine v_iload g dX5_best_69 0 rfl ?_
        refine v_callS (As := [.int (nI k)]) (r := some (.long (bitC (nI k)))) g dX5_best_71 (k_X5_bit (nI k)) cl_X5_bit ml_RX5_231 sm_X5_bit rfl ⟨rfl, rfl, rfl⟩ ?_
        refine v_callV (As := [.int (nI m), .int p, .long (bitC (nI k))]) (r := some (.int (ownR (obA C b m (bitC (nI k))) p))) g dX5_best_74 (k_X5_ownedBehind (C := C) b (m := m) (by omega) p (bitC (nI k))) cl_X5_ownedBehind ml_RX5_207 im_X5_ownedBehind (rd_W B _ _) rfl rfl ⟨rfl, rfl, rfl⟩ ?_
        refine v_istore (ls' := [(7, .int (ownR (obA C b m (bitC (nI k))) p)), (6, .int (nI k)), (5, .int mo), (4, .int wh), (0, .ref B), (1, .int p), (2, .int (nI m)), (3, .int w)]) g dX5_best_77 rfl rfl ?_
        refine v_iload g dX5_best_79 3 rfl ?_
        refine v_bipush (v := (-4)) g dX5_best_81 (by decide) ?_
        refine v_icmp_eq (tgt := 93) g dX5_best_83 (by decide) (fun h83 => ?_) (fun h83 => ?_)
        · skip
          refine v_iload g dX5_best_93 1 rfl ?_
          refine v_istore (ls' := [(4, .int (nI k)), (7, .int (ownR (obA C b m (bitC (nI k))) p)), (6, .int (nI k)), (5, .int mo), (0, .ref B), (1, .int p), (2, .int (nI m)), (3, .int w)]) g dX5_best_95 rfl rfl ?_
          refine v_iload g dX5_best_97 1 rfl ?_
          refine v_istore (ls' := [(5, .int (ownR (obA C b m (bitC (nI k))) p)), (4, .int (nI k)), (7, .int (ownR (obA C b m (bitC (nI k))) p)), (6, .int (nI k)), (0, .ref B), (1, .int p), (2, .int (nI m)), (3, .int w)]) g dX5_best_99 rfl rfl ?_
          refine v_iinc (v := nI (k + 1)) (ls' := [(6, .int (nI (k + 1))), (5, .int (ownR (obA C b m (bitC (nI k))) p)), (4, .int (nI k)), (7, .int (ownR (obA C b m (bitC (nI k))) p)), (0, .ref B), (1, .int p), (2, .int (nI m)), (3, .int w)]) g dX5_best_101 3 rfl (nI_1 k) rfl rfl ?_
          refine v_goto (tgt := 39) g dX5_best_104 (by decide) ?_
          refine v_sub (ls' := [(6, .int (nI (k + 1))), (5, .int (ownR (obA C b m (bitC (nI k))) p)), (4, .int (nI k)), (0, .ref B), (1, .int p), (2, .int (nI m)), (3, .int w)]) [0, 1, 2, 4, 5, 6, 7] rfl ?_
          exact ih (k + 1) _ _ _ (by omega) (by first | (rw [he]; simp only [bstFrom, h60, if_pos h83, Bool.true_eq_false, Bool.false_eq_true, ↓reduceIte]; done) | (rw [he]; simp only [bstFrom, h60, if_neg h83, if_pos h90, Bool.true_eq_false, Bool.false_eq_true, ↓reduceIte]; done) | (rw [he]; simp only [bstFrom, h60, if_neg h83, if_neg h90, Bool.true_eq_false, Bool.false_eq_true, ↓reduceIte]; done))
        · skip
          refine v_iload g dX5_best_86 0 rfl ?_
          refine v_iload g dX5_best_88 2 rfl ?_
          refine v_icmp_le (tgt := 101) g dX5_best_90 (by decide) (fun h90 => ?_) (fun h90 => ?_)
          · skip
            refine v_iinc (v := nI (k + 1)) (ls' := [(6, .int (nI (k + 1))), (7, .int (ownR (obA C b m (bitC (nI k))) p)), (5, .int mo), (4, .int wh), (0, .ref B), (1, .int p), (2, .int (nI m)), (3, .int w)]) g dX5_best_101 1 rfl (nI_1 k) rfl rfl ?_
            refine v_goto (tgt := 39) g dX5_best_104 (by decide) ?_
            refine v_sub (ls' := [(6, .int (nI (k + 1))), (5, .int mo), (4, .int wh), (0, .ref B), (1, .int p), (2, .int (nI m)), (3, .int w)]) [0, 2, 3, 4, 5, 6, 7] rfl ?_
            exact ih (k + 1) _ _ _ (by omega) (by first | (rw [he]; simp only [bstFrom, h60, if_pos h83, Bool.true_eq_false, Bool.false_eq_true, ↓reduceIte]; done) | (rw [he]; simp only [bstFrom, h60, if_neg h83, if_pos h90, Bool.true_eq_false, Bool.false_eq_true, ↓reduceIte]; done) | (rw [he]; simp only [bstFrom, h60, if_neg h83, if_neg h90, Bool.true_eq_false, Bool.false_eq_true, ↓reduceIte]; done))
          · skip
            refine v_iload g dX5_best_93 1 rfl ?_
            refine v_istore (ls' := [(4, .int (nI k)), (7, .int (ownR (obA C b m (bitC (nI k))) p)), (6, .int (nI k)), (5, .int mo), (0, .ref B), (1, .int p), (2, .int (nI m)), (3, .int w)]) g dX5_best_95 rfl rfl ?_
            refine v_iload g dX5_best_97 1 rfl ?_
            refine v_istore (ls' := [(5, .int (ownR (obA C b m (bitC (nI k))) p)), (4, .int (nI k)), (7, .int (ownR (obA C b m (bitC (nI k))) p)), (6, .int (nI k)), (0, .ref B), (1, .int p), (2, .int (nI m)), (3, .int w)]) g dX5_best_99 rfl rfl ?_
            refine v_iinc (v := nI (k + 1)) (ls' := [(6, .int (nI (k + 1))), (5, .int (ownR (obA C b m (bitC (nI k))) p)), (4, .int (nI k)), (7, .int (ownR (obA C b m (bitC (nI k))) p)), (0, .ref B), (1, .int p), (2, .int (nI m)), (3, .int w)]) g dX5_best_101 3 rfl (nI_1 k) rfl rfl ?_
            refine v_goto (tgt := 39) g dX5_best_104 (by decide) ?_
            refine v_sub (ls' := [(6, .int (nI (k + 1))), (5, .int (ownR (obA C b m (bitC (nI k))) p)), (4, .int (nI k)), (0, .ref B), (1, .int p), (2, .int (nI m)), (3, .int w)]) [0, 1, 2, 4, 5, 6, 7] rfl ?_
            exact ih (k + 1) _ _ _ (by omega) (by first | (rw [he]; simp only [bstFrom, h60, if_pos h83, Bool.true_eq_false, Bool.false_eq_true, ↓reduceIte]; done) | (rw [he]; simp only [bstFrom, h60, if_neg h83, if_pos h90, Bool.true_eq_false, Bool.false_eq_true, ↓reduceIte]; done) | (rw [he]; simp only [bstFrom, h60, if_neg h83, if_neg h90, Bool.true_eq_false, Bool.false_eq_true, ↓reduceIte]; done))
      · skip
        have h60 := zB_f0 h60
        refine v_goto (tgt := 101) g dX5_best_63 (by decide) ?_
        refine v_iinc (v := nI (k + 1)) (ls' := [(6, .int (nI (k + 1))), (5, .int mo), (4, .int wh), (0, .ref B), (1, .int p), (2, .int (nI m)), (3, .int w)]) g dX5_best_101 0 rfl (nI_1 k) rfl rfl ?_
        refine v_goto (tgt := 39) g dX5_best_104 (by decide) ?_
        refine v_sub (ls' := [(6, .int (nI (k + 1))), (5, .int mo), (4, .int wh), (0, .ref B), (1, .int p), (2, .int (nI m)), (3, .int w)]) [0, 1, 2, 3, 4, 5, 6] rfl ?_
        exact ih (k + 1) _ _ _ (by omega) (by rw [he]; simp only [bstFrom, if_pos h60])
  refine v_sub (ls' := [(0, .ref B), (1, .int p), (2, .int y), (3, .int w)]) [0, 1, 2, 3] rfl ?_
  refine v_iload_n g dX5_best_0 1 rfl ?_
  refine v_callS (As := [.int p]) (r := some (.int (zB (isOwnC p)))) g dX5_best_1 (k_X5_isOwner p) cl_X5_isOwner ml_RX5_159 sm_X5_isOwner rfl ⟨rfl, rfl, rfl⟩ ?_
  refine v_if_eq (tgt := 26) g dX5_best_4 (by decide) (fun h4 => ?_) (fun h4 => ?_)
  · skip
    have h4 := zB_f0 h4
    refine v_iconst (v := (-1)) g dX5_best_26 (by decide) ?_
    exact v_iret g E dX5_best_27 rfl ⟨by first | (simp only [bestC, *, ↓reduceIte, Bool.true_eq_false, Bool.false_eq_true, if_true, if_false]; done) | (simp [bestC, *]; done) | (simp only [bestC, *, ↓reduceIte, Bool.true_eq_false, Bool.false_eq_true, if_true, if_false]; rfl), rfl, by first | (simp only [bestC, *, ↓reduceIte, Bool.true_eq_false, Bool.false_eq_true, if_true, if_false]; done) | (simp [bestC, *]; done) | (simp only [bestC, *, ↓reduceIte, Bool.true_eq_false, Bool.false_eq_true, if_true, if_false]; rfl)⟩
  · skip
    have h4 := zB_t0 h4
    refine v_iload_n g dX5_best_7 2 rfl ?_
    refine v_iconst (v := 1) g dX5_best_8 (by decide) ?_
    refine v_bipush (v := 20) g dX5_best_9 (by decide) ?_
    refine v_callS (As := [.int y, .int 1, .int 20]) (r := some (.int (zB (withinC y 1 20)))) g dX5_best_11 (k_X5_isWithin y 1 20) cl_X5_isWithin ml_RX5_165 sm_X5_isWithin rfl ⟨rfl, rfl, rfl⟩ ?_
    refine v_if_eq (tgt := 26) g dX5_best_14 (by decide) (fun h14 => ?_) (fun h14 => ?_)
    · skip
      have h14 := zB_f0 h14
      refine v_iconst (v := (-1)) g dX5_best_26 (by decide) ?_
      exact v_iret g E dX5_best_27 rfl ⟨by first | (simp only [bestC, *, ↓reduceIte, Bool.true_eq_false, Bool.false_eq_true, if_true, if_false]; done) | (simp [bestC, *]; done) | (simp only [bestC, *, ↓reduceIte, Bool.true_eq_false, Bool.false_eq_true, if_true, if_false]; rfl), rfl, by first | (simp only [bestC, *, ↓reduceIte, Bool.true_eq_false, Bool.false_eq_true, if_true, if_false]; done) | (simp [bestC, *]; done) | (simp only [bestC, *, ↓reduceIte, Bool.true_eq_false, Bool.false_eq_true, if_true, if_false]; rfl)⟩
    · skip
      have h14 := zB_t0 h14
      refine v_iload_n g dX5_best_17 3 rfl ?_
      refine v_iconst (v := 0) g dX5_best_18 (by decide) ?_
      refine v_iconst (v := 1) g dX5_best_19 (by decide) ?_
      refine v_callS (As := [.int w, .int 0, .int 1]) (r := some (.int (zB (withinC w 0 1)))) g dX5_best_20 (k_X5_isWithin w 0 1) cl_X5_isWithin ml_RX5_165 sm_X5_isWithin rfl ⟨rfl, rfl, rfl⟩ ?_
      refine v_if_ne (tgt := 28) g dX5_best_23 (by decide) (fun h23 => ?_) (fun h23 => ?_)
      · skip
        have h23 := zB_t0 h23
        obtain ⟨m, hm1_m, hm2_m, em_m⟩ := within_nI (a := 1) (b := 20) rfl rfl h14
        subst em_m
        refine v_bipush (v := (-4)) g dX5_best_28 (by decide) ?_
        refine v_istore (ls' := [(4, .int (-4)), (0, .ref B), (1, .int p), (2, .int (nI m)), (3, .int w)]) g dX5_best_30 rfl rfl ?_
        refine v_bipush (v := (-4)) g dX5_best_32 (by decide) ?_
        refine v_istore (ls' := [(5, .int (-4)), (4, .int (-4)), (0, .ref B), (1, .int p), (2, .int (nI m)), (3, .int w)]) g dX5_best_34 rfl rfl ?_
        refine v_iconst (v := 0) g dX5_best_36 (by decide) ?_
        refine v_istore (ls' := [(6, .int 0), (5, .int (-4)), (4, .int (-4)), (0, .ref B), (1, .int p), (2, .int (nI m)), (3, .int w)]) g dX5_best_37 rfl rfl ?_
        refine v_sub (ls' := [(6, .int 0), (5, .int (-4)), (4, .int (-4)), (0, .ref B), (1, .int p), (2, .int (nI m)), (3, .int w)]) [0, 1, 2, 3, 4, 5, 6] rfl ?_
        exact loop m (by omega) cc 0 (-4) (-4) a (by omega) (by rw [bestC, if_neg (by rw [h4]; decide), if_neg (by rw [h14]; decide), if_neg (by rw [h23]; decide), nI_clamp (by omega)])
      · skip
        have h23 := zB_f0 h23
        refine v_iconst (v := (-1)) g dX5_best_26 (by decide) ?_
        exact v_iret g E dX5_best_27 rfl ⟨by first | (simp only [bestC, *, ↓reduceIte, Bool.true_eq_false, Bool.false_eq_true, if_true, if_false]; done) | (simp [bestC, *]; done) | (simp only [bestC, *, ↓reduceIte, Bool.true_eq_false, Bool.false_eq_true, if_true, if_false]; rfl), rfl, by first | (simp only [bestC, *, ↓reduceIte, Bool.true_eq_false, Bool.false_eq_true, if_true, if_false]; done) | (simp [bestC, *]; done) | (simp only [bestC, *, ↓reduceIte, Bool.true_eq_false, Bool.false_eq_true, if_true, if_false]; rfl)⟩
end C8
