/-! CLASS: ditches, trees left behind, copies, what is asked of an orchard -/
def cp4 (t t2 : Nat → Int32) : Nat → Int32 := upd (upd (upd (upd t 0 (t2 0)) 1 (t2 1)) 2 (t2 2)) 3 (t2 3)
def cpRow (a b : RV) : RV := (b.1, b.2.1, b.2.2.1, b.2.2.2.1, cp4 a.2.2.2.2 b.2.2.2.2)
def cpFrom (rc : Int32) (rs2 : Nat → RV) : Nat → Nat → (Nat → RV) → (Nat → RV)
  | 0, _, rs => rs
  | k + 1, r, rs => if rc ≤ nI r then rs else cpFrom rc rs2 k (r + 1) (va_up rs r (cpRow (rs r) (rs2 r)))
def copyC (a b : OV) : OV := (b.1, b.2.1, b.2.2.1, b.2.2.2.1, b.2.2.2.2.1, 0, cp4 a.2.2.2.2.2.2.1 b.2.2.2.2.2.2.1, cpFrom b.1 b.2.2.2.2.2.2.2 3 0 a.2.2.2.2.2.2.2)
def digInC (F : Int64) (o : OV) (x : Int32) : OV := if digC F o.2.2.1 o.2.2.2.2.1 x = true then (o.1, o.2.1, (o.2.2.1 ||| bitC x), o.2.2.2) else o
def fillInC (o : OV) (x : Int32) : OV := (o.1, o.2.1, (o.2.2.1 &&& (bitC x ^^^ (-1))), o.2.2.2)
def leaveR (sz : Int32) (t : Nat → Int32) : Int32 := if 2 ≤ sz then treeAtC sz t (sz - 1) else -4
def leaveF (rc yr : Int32) (di le ta en : Int64) (ow : Nat → Int32) (rs : Nat → RV) (r : Nat) (sz kd hd be : Int32) (t : Nat → Int32) : OV := if 2 ≤ sz then (rc, yr, di, (le ||| bitC (treeAtC sz t (sz - 1))), ta, en, ow, va_up rs r (sz - 1, kd, hd, be, t)) else (rc, yr, di, le, ta, en, ow, va_up rs r (sz, kd, hd, be, t))
def clearOC (o : OV) : OV := (0, 0, 0, 0, 0, 0, upd (upd (upd (upd o.2.2.2.2.2.2.1 0 0) 1 0) 2 0) 3 0, o.2.2.2.2.2.2.2)
def plantF (sz : Int32) (t : Nat → Int32) (x : Int32) : Int32 × (Nat → Int32) := if sz < 0 then (sz, t) else if 4 ≤ sz then (sz, t) else (sz + 1, upd t sz.toNatClampNeg x)
def allHaveC (ow : Nat → Int32) : Int32 := (((0 + ow 0) + ow 1) + ow 2) + ow 3
def sideC (li wi sz : Int32) (t : Nat → Int32) (cs : Int64) : Bool := if sz ≤ 0 then false else if besC li wi (t 0) cs = true then true else if sz ≤ 1 then false else if besC li wi (t 1) cs = true then true else if sz ≤ 2 then false else if besC li wi (t 2) cs = true then true else if sz ≤ 3 then false else if besC li wi (t 3) cs = true then true else false
def standInC (rc : Int32) (le : Int64) (rs : Nat → RV) (x : Int32) : Int32 := if ctn le x = true then 9 else if rc ≤ 0 then -4 else if ctn (rowCellsC (rs 0).1 (rs 0).2.2.2.2) x = true then 0 else if rc ≤ 1 then -4 else if ctn (rowCellsC (rs 1).1 (rs 1).2.2.2.2) x = true then 1 else if rc ≤ 2 then -4 else if ctn (rowCellsC (rs 2).1 (rs 2).2.2.2.2) x = true then 2 else -4
def asRow (a b : RV) : Bool := rowAsC a.2.2.1 a.1 a.2.2.2.2 b.2.2.1 b.1 b.2.2.2.2
def saEnd (yr yr2 : Int32) (s : Bool) : Bool := if s = false then true else if (yr - yr2) % 2 = 0 then true else false
def saFrom (rc yr yr2 : Int32) (rs rs2 : Nat → RV) : Nat → Nat → Bool → Bool
  | 0, _, s => saEnd yr yr2 s
  | k + 1, r, s => if rc ≤ nI r then saEnd yr yr2 s else if asRow (rs r) (rs2 r) = false then false else saFrom rc yr yr2 rs rs2 k (r + 1) (if s = true then true else if (rs r).2.1 = 2 then true else false)
def standsAsC (a b : OV) : Bool := saFrom a.1 a.2.1 b.2.1 a.2.2.2.2.2.2.2 b.2.2.2.2.2.2.2 3 0 false
section C3
variable {l : Launch} {G : GG} {n : Nat} {B : Nat} {C : CS} {ρ : Mu} {i : Nat}
theorem k_X1_digIn (hi : i < 13) {F Hd Br : Int64} {li wi : Int32} {lo : Nat → Int32} (hL : cL C (landOf i) = (F, Hd, Br, li, wi, lo)) (rc yr : Int32) (di le ta en : Int64) (ow : Nat → Int32) (rs : Nat → RV) (x : Int32) : Ctr l G 2 43 0 0 mX1_digIn [.ref (adO B i), .int x] n (ren B (sO C i (rc, yr, di, le, ta, en, ow, rs)) ρ) (none) n (ren B (sO C i (digInC F (rc, yr, di, le, ta, en, ow, rs) x)) ρ) := by
  refine Ctr.of (by decide +kernel) rfl (fun X g E => ?_)
  refine v_sub (ls' := [(0, .ref (adO B i)), (1, .int x)]) [0, 1] rfl ?_
  refine v_aload_n g dX1_digIn_0 0 rfl ?_
  refine v_iload_n g dX1_digIn_1 1 rfl ?_
  refine v_callV (As := [.int x]) (r := some (.int (zB (digC F di ta x)))) g dX1_digIn_2 (k_X1_canDig (fo_O B _ _ _ _ _ _ _ _ _ _ hi) (fo_L2 B _ _ _ _ _ _ _ _ _ _ hi hL) x) cl_X1_canDig ml_RX1_65 im_X1_canDig (fo_O B _ _ _ _ _ _ _ _ _ _ hi) rfl rfl ⟨rfl, rfl, rfl⟩ ?_
  refine v_if_eq (tgt := 21) g dX1_digIn_5 (by decide) (fun h5 => ?_) (fun h5 => ?_)
  · skip
    have h5 := zB_f0 h5
    exact v_vret g E dX1_digIn_21 rfl ⟨rfl, rfl, by simp only [digInC, h5, ↓reduceIte, Bool.false_eq_true]⟩
  · skip
    have h5 := zB_t0 h5
    refine v_aload_n g dX1_digIn_8 0 rfl ?_
    refine v_dup g dX1_digIn_9 rfl ?_
    refine v_get g dX1_digIn_10 fl_RX1_33 (fo_O B _ _ _ _ _ _ _ _ _ _ hi) rfl ?_
    refine v_iload_n g dX1_digIn_13 1 rfl ?_
    refine v_callSN (As := [.int x]) (r := some (.long (bitC x))) g dX1_digIn_14 (k_X5_bit x) cl_X5_bit nl_RX1_69 sm_X5_bit rfl ⟨rfl, rfl, rfl⟩ ?_
    refine v_lor g dX1_digIn_17 ?_
    refine v_put g dX1_digIn_18 fl_RX1_33 (fo_O B _ _ _ _ _ _ _ _ _ _ hi) ⟨rfl, rfl⟩ rfl ?_
    refine v_meq (st_O B _ _ _ _ _ _ _ _ _ _ hi rc yr (di ||| bitC x) le ta en) ?_
    exact v_vret g E dX1_digIn_21 rfl ⟨rfl, rfl, by simp only [digInC, h5, ↓reduceIte, Bool.false_eq_true]⟩
theorem k_X1_fillIn (hi : i < 13) (rc yr : Int32) (di le ta en : Int64) (ow : Nat → Int32) (rs : Nat → RV) (x : Int32) : Ctr l G 1 20 0 0 mX1_fillIn [.ref (adO B i), .int x] n (ren B (sO C i (rc, yr, di, le, ta, en, ow, rs)) ρ) (none) n (ren B (sO C i (fillInC (rc, yr, di, le, ta, en, ow, rs) x)) ρ) := by
  refine Ctr.of (by decide +kernel) rfl (fun X g E => ?_)
  refine v_sub (ls' := [(0, .ref (adO B i)), (1, .int x)]) [0, 1] rfl ?_
  refine v_aload_n g dX1_fillIn_0 0 rfl ?_
  refine v_dup g dX1_fillIn_1 rfl ?_
  refine v_get g dX1_fillIn_2 fl_RX1_33 (fo_O B _ _ _ _ _ _ _ _ _ _ hi) rfl ?_
  refine v_iload_n g dX1_fillIn_5 1 rfl ?_
  refine v_callSN (As := [.int x]) (r := some (.long (bitC x))) g dX1_fillIn_6 (k_X5_bit x) cl_X5_bit nl_RX1_69 sm_X5_bit rfl ⟨rfl, rfl, rfl⟩ ?_
  refine v_ldc2 (v := (-1)) g dX1_fillIn_9 kl_RX1_63 ?_
  refine v_lxor g dX1_fillIn_12 ?_
  refine v_land g dX1_fillIn_13 ?_
  refine v_put g dX1_fillIn_14 fl_RX1_33 (fo_O B _ _ _ _ _ _ _ _ _ _ hi) ⟨rfl, rfl⟩ rfl ?_
  refine v_meq (st_O B _ _ _ _ _ _ _ _ _ _ hi rc yr (di &&& (bitC x ^^^ (-1))) le ta en) ?_
  exact v_vret g E dX1_fillIn_17 rfl ⟨rfl, rfl, by rfl⟩
theorem k_X1_leaveLast (hi : i < 13) (rc yr : Int32) (di le ta en : Int64) (ow : Nat → Int32) (rs : Nat → RV) {r : Nat} (hr : r < 3) (sz kd hd be : Int32) (t : Nat → Int32) : Ctr l G 1 21 0 0 mX1_leaveLast [.ref (adO B i), .ref (adR B i r)] n (ren B (sO C i (rc, yr, di, le, ta, en, ow, va_up rs r (sz, kd, hd, be, t))) ρ) (some (.int (leaveR sz t))) n (ren B (sO C i (leaveF rc yr di le ta en ow rs r sz kd hd be t)) ρ) := by
  refine Ctr.of (by decide +kernel) rfl (fun X g E => ?_)
  refine v_sub (ls' := [(0, .ref (adO B i)), (1, .ref (adR B i r))]) [0, 1] rfl ?_
  refine v_aload_n g dX1_leaveLast_0 1 rfl ?_
  refine v_get g dX1_leaveLast_1 fl_RX1_73 (fo_Rf B _ _ _ _ _ _ _ _ _ _ hi hr _ _ _ _ _) rfl ?_
  refine v_iconst (v := 2) g dX1_leaveLast_4 (by decide) ?_
  refine v_icmp_ge (tgt := 11) g dX1_leaveLast_5 (by decide) (fun h5 => ?_) (fun h5 => ?_)
  · skip
    refine v_aload_n g dX1_leaveLast_11 1 rfl ?_
    refine v_aload_n g dX1_leaveLast_12 1 rfl ?_
    refine v_get g dX1_leaveLast_13 fl_RX1_73 (fo_Rf B _ _ _ _ _ _ _ _ _ _ hi hr _ _ _ _ _) rfl ?_
    refine v_iconst (v := 1) g dX1_leaveLast_16 (by decide) ?_
    refine v_isub g dX1_leaveLast_17 ?_
    refine v_callV (As := [.int (sz - 1)]) (r := some (.int (treeAtC sz t (sz - 1)))) g dX1_leaveLast_18 (k_X4_treeAt (fo_Rf B _ _ _ _ _ _ _ _ _ _ hi hr _ _ _ _ _) (fo_Tf B _ _ _ _ _ _ _ _ _ _ hi hr _ _ _ _ _) (sz - 1)) cl_X4_treeAt ml_RX1_76 im_X4_treeAt (fo_Rf B _ _ _ _ _ _ _ _ _ _ hi hr _ _ _ _ _) rfl rfl ⟨rfl, rfl, rfl⟩ ?_
    refine v_istore_n (ls' := [(2, .int (treeAtC sz t (sz - 1))), (0, .ref (adO B i)), (1, .ref (adR B i r))]) g dX1_leaveLast_21 rfl rfl ?_
    refine v_aload_n g dX1_leaveLast_22 2 rfl ?_
    refine v_dup g dX1_leaveLast_23 rfl ?_
    refine v_get g dX1_leaveLast_24 fl_RX1_73 (fo_Rf B _ _ _ _ _ _ _ _ _ _ hi hr _ _ _ _ _) rfl ?_
    refine v_iconst (v := 1) g dX1_leaveLast_27 (by decide) ?_
    refine v_isub g dX1_leaveLast_28 ?_
    refine v_put g dX1_leaveLast_29 fl_RX1_73 (fo_Rf B _ _ _ _ _ _ _ _ _ _ hi hr _ _ _ _ _) ⟨rfl, rfl⟩ rfl ?_
    refine v_meq (st_Rf B _ _ _ _ _ _ _ _ _ _ hi hr _ _ _ _ (sz - 1) kd hd be _) ?_
    refine v_aload_n g dX1_leaveLast_32 1 rfl ?_
    refine v_dup g dX1_leaveLast_33 rfl ?_
    refine v_get g dX1_leaveLast_34 fl_RX1_37 (fo_O B _ _ _ _ _ _ _ _ _ _ hi) rfl ?_
    refine v_iload_n g dX1_leaveLast_37 0 rfl ?_
    refine v_callSN (As := [.int (treeAtC sz t (sz - 1))]) (r := some (.long (bitC (treeAtC sz t (sz - 1))))) g dX1_leaveLast_38 (k_X5_bit (treeAtC sz t (sz - 1))) cl_X5_bit nl_RX1_69 sm_X5_bit rfl ⟨rfl, rfl, rfl⟩ ?_
    refine v_lor g dX1_leaveLast_41 ?_
    refine v_put g dX1_leaveLast_42 fl_RX1_37 (fo_O B _ _ _ _ _ _ _ _ _ _ hi) ⟨rfl, rfl⟩ rfl ?_
    refine v_meq (st_O B _ _ _ _ _ _ _ _ _ _ hi rc yr di (le ||| bitC (treeAtC sz t (sz - 1))) ta en) ?_
    refine v_iload_n g dX1_leaveLast_45 0 rfl ?_
    exact v_iret g E dX1_leaveLast_46 rfl ⟨by simp only [leaveR, h5, ↓reduceIte], rfl, by simp only [leaveF, h5, ↓reduceIte]⟩
  · skip
    refine v_bipush (v := (-4)) g dX1_leaveLast_8 (by decide) ?_
    exact v_iret g E dX1_leaveLast_10 rfl ⟨by simp only [leaveR, h5, ↓reduceIte], rfl, by simp only [leaveF, h5, ↓reduceIte]⟩
theorem k_X4_copyFrom (hi : i < 13) (rc yr : Int32) (di le ta en : Int64) (ow : Nat → Int32) (rs : Nat → RV) {r : Nat} (hr : r < 3) (sz kd hd be : Int32) (t : Nat → Int32) {j : Nat} (hj : j < 13) (hne : j ≠ i) {rc2 yr2 : Int32} {di2 le2 ta2 en2 : Int64} {ow2 : Nat → Int32} {rs2 : Nat → RV} (h2 : cO C j = (rc2, yr2, di2, le2, ta2, en2, ow2, rs2)) : Ctr l G 0 0 0 0 mX4_copyFrom [.ref (adR B i r), .ref (adR B j r)] n (ren B (sO C i (rc, yr, di, le, ta, en, ow, va_up rs r (sz, kd, hd, be, t))) ρ) (none) n (ren B (sO C i (rc, yr, di, le, ta, en, ow, va_up rs r (cpRow (sz, kd, hd, be, t) (rs2 r)))) ρ) := by
  refine Ctr.of (by decide +kernel) rfl (fun X g E => ?_)
  refine v_sub (ls' := [(0, .ref (adR B i r)), (1, .ref (adR B j r))]) [0, 1] rfl ?_
  refine v_aload_n g dX4_copyFrom_0 0 rfl ?_
  refine v_aload_n g dX4_copyFrom_1 1 rfl ?_
  refine v_get g dX4_copyFrom_2 fl_RX4_15 (fo2_R B _ _ hj (by omega) hne h2 _) rfl ?_
  refine v_put g dX4_copyFrom_5 fl_RX4_15 (fo_Rf B _ _ _ _ _ _ _ _ _ _ hi hr _ _ _ _ _) ⟨rfl, rfl⟩ rfl ?_
  refine v_meq (st_Rf B _ _ _ _ _ _ _ _ _ _ hi hr _ _ _ _ ((rs2 r).1) kd hd be _) ?_
  refine v_aload_n g dX4_copyFrom_8 0 rfl ?_
  refine v_aload_n g dX4_copyFrom_9 1 rfl ?_
  refine v_get g dX4_copyFrom_10 fl_RX4_19 (fo2_R B _ _ hj (by omega) hne h2 _) rfl ?_
  refine v_put g dX4_copyFrom_13 fl_RX4_19 (fo_Rf B _ _ _ _ _ _ _ _ _ _ hi hr _ _ _ _ _) ⟨rfl, rfl⟩ rfl ?_
  refine v_meq (st_Rf B _ _ _ _ _ _ _ _ _ _ hi hr _ _ _ _ ((rs2 r).1) ((rs2 r).2.1) hd be _) ?_
  refine v_aload_n g dX4_copyFrom_16 0 rfl ?_
  refine v_aload_n g dX4_copyFrom_17 1 rfl ?_
  refine v_get g dX4_copyFrom_18 fl_RX4_22 (fo2_R B _ _ hj (by omega) hne h2 _) rfl ?_
  refine v_put g dX4_copyFrom_21 fl_RX4_22 (fo_Rf B _ _ _ _ _ _ _ _ _ _ hi hr _ _ _ _ _) ⟨rfl, rfl⟩ rfl ?_
  refine v_meq (st_Rf B _ _ _ _ _ _ _ _ _ _ hi hr _ _ _ _ ((rs2 r).1) ((rs2 r).2.1) ((rs2 r).2.2.1) be _) ?_
  refine v_aload_n g dX4_copyFrom_24 0 rfl ?_
  refine v_aload_n g dX4_copyFrom_25 1 rfl ?_
  refine v_get g dX4_copyFrom_26 fl_RX4_25 (fo2_R B _ _ hj (by omega) hne h2 _) rfl ?_
  refine v_put g dX4_copyFrom_29 fl_RX4_25 (fo_Rf B _ _ _ _ _ _ _ _ _ _ hi hr _ _ _ _ _) ⟨rfl, rfl⟩ rfl ?_
  refine v_meq (st_Rf B _ _ _ _ _ _ _ _ _ _ hi hr _ _ _ _ ((rs2 r).1) ((rs2 r).2.1) ((rs2 r).2.2.1) ((rs2 r).2.2.2.1) _) ?_
  refine v_iconst (v := 0) g dX4_copyFrom_32 (by decide) ?_
  refine v_istore_n (ls' := [(2, .int 0), (0, .ref (adR B i r)), (1, .ref (adR B j r))]) g dX4_copyFrom_33 rfl rfl ?_
  refine v_iload_n g dX4_copyFrom_34 0 rfl ?_
  refine v_iconst (v := 4) g dX4_copyFrom_35 (by decide) ?_
  refine v_icmp_ge (tgt := 57) g dX4_copyFrom_36 (by decide) (fun h => absurd h (by decide)) (fun _ => ?_)
  refine v_aload_n g dX4_copyFrom_39 1 rfl ?_
  refine v_get g dX4_copyFrom_40 fl_RX4_9 (fo_Rf B _ _ _ _ _ _ _ _ _ _ hi hr _ _ _ _ _) rfl ?_
  refine v_iload_n g dX4_copyFrom_43 0 rfl ?_
  refine v_aload_n g dX4_copyFrom_44 2 rfl ?_
  refine v_get g dX4_copyFrom_45 fl_RX4_9 (fo2_R B _ _ hj (by omega) hne h2 _) rfl ?_
  refine v_iload_n g dX4_copyFrom_48 0 rfl ?_
  refine v_iald g dX4_copyFrom_49 (fo2_T B _ _ hj (by omega) hne h2 _) (by unfold vp_in; decide) (v_eqi (y := ((rs2 r).2.2.2.2 0)) rfl ?_)
  refine v_iast g dX4_copyFrom_50 (fo_Tf B _ _ _ _ _ _ _ _ _ _ hi hr _ _ _ _ _) (by unfold vp_in; decide) ?_
  refine v_meq (st_Tf B _ _ _ _ _ _ _ _ _ _ hi hr _ _ _ _ _ (upd t 0 ((rs2 r).2.2.2.2 0))) ?_
  refine v_iinc (v := 1) (ls' := [(2, .int 1), (0, .ref (adR B i r)), (1, .ref (adR B j r))]) g dX4_copyFrom_51 0 rfl rfl rfl rfl ?_
  refine v_goto (tgt := 34) g dX4_copyFrom_54 (by decide) ?_
  refine v_iload_n g dX4_copyFrom_34 0 rfl ?_
  refine v_iconst (v := 4) g dX4_copyFrom_35 (by decide) ?_
  refine v_icmp_ge (tgt := 57) g dX4_copyFrom_36 (by decide) (fun h => absurd h (by decide)) (fun _ => ?_)
  refine v_aload_n g dX4_copyFrom_39 1 rfl ?_
  refine v_get g dX4_copyFrom_40 fl_RX4_9 (fo_Rf B _ _ _ _ _ _ _ _ _ _ hi hr _ _ _ _ _) rfl ?_
  refine v_iload_n g dX4_copyFrom_43 0 rfl ?_
  refine v_aload_n g dX4_copyFrom_44 2 rfl ?_
  refine v_get g dX4_copyFrom_45 fl_RX4_9 (fo2_R B _ _ hj (by omega) hne h2 _) rfl ?_
  refine v_iload_n g dX4_copyFrom_48 0 rfl ?_
  refine v_iald g dX4_copyFrom_49 (fo2_T B _ _ hj (by omega) hne h2 _) (by unfold vp_in; decide) (v_eqi (y := ((rs2 r).2.2.2.2 1)) rfl ?_)
  refine v_iast g dX4_copyFrom_50 (fo_Tf B _ _ _ _ _ _ _ _ _ _ hi hr _ _ _ _ _) (by unfold vp_in; decide) ?_
  refine v_meq (st_Tf B _ _ _ _ _ _ _ _ _ _ hi hr _ _ _ _ _ (upd (upd t 0 ((rs2 r).2.2.2.2 0)) 1 ((rs2 r).2.2.2.2 1))) ?_
  refine v_iinc (v := 2) (ls' := [(2, .int 2), (0, .ref (adR B i r)), (1, .ref (adR B j r))]) g dX4_copyFrom_51 0 rfl rfl rfl rfl ?_
  refine v_goto (tgt := 34) g dX4_copyFrom_54 (by decide) ?_
  refine v_iload_n g dX4_copyFrom_34 0 rfl ?_
  refine v_iconst (v := 4) g dX4_copyFrom_35 (by decide) ?_
  refine v_icmp_ge (tgt := 57) g dX4_copyFrom_36 (by decide) (fun h => absurd h (by decide)) (fun _ => ?_)
  refine v_aload_n g dX4_copyFrom_39 1 rfl ?_
  refine v_get g dX4_copyFrom_40 fl_RX4_9 (fo_Rf B _ _ _ _ _ _ _ _ _ _ hi hr _ _ _ _ _) rfl ?_
  refine v_iload_n g dX4_copyFrom_43 0 rfl ?_
  refine v_aload_n g dX4_copyFrom_44 2 rfl ?_
  refine v_get g dX4_copyFrom_45 fl_RX4_9 (fo2_R B _ _ hj (by omega) hne h2 _) rfl ?_
  refine v_iload_n g dX4_copyFrom_48 0 rfl ?_
  refine v_iald g dX4_copyFrom_49 (fo2_T B _ _ hj (by omega) hne h2 _) (by unfold vp_in; decide) (v_eqi (y := ((rs2 r).2.2.2.2 2)) rfl ?_)
  refine v_iast g dX4_copyFrom_50 (fo_Tf B _ _ _ _ _ _ _ _ _ _ hi hr _ _ _ _ _) (by unfold vp_in; decide) ?_
  refine v_meq (st_Tf B _ _ _ _ _ _ _ _ _ _ hi hr _ _ _ _ _ (upd (upd (upd t 0 ((rs2 r).2.2.2.2 0)) 1 ((rs2 r).2.2.2.2 1)) 2 ((rs2 r).2.2.2.2 2))) ?_
  refine v_iinc (v := 3) (ls' := [(2, .int 3), (0, .ref (adR B i r)), (1, .ref (adR B j r))]) g dX4_copyFrom_51 0 rfl rfl rfl rfl ?_
  refine v_goto (tgt := 34) g dX4_copyFrom_54 (by decide) ?_
  refine v_iload_n g dX4_copyFrom_34 0 rfl ?_
  refine v_iconst (v := 4) g dX4_copyFrom_35 (by decide) ?_
  refine v_icmp_ge (tgt := 57) g dX4_copyFrom_36 (by decide) (fun h => absurd h (by decide)) (fun _ => ?_)
  refine v_aload_n g dX4_copyFrom_39 1 rfl ?_
  refine v_get g dX4_copyFrom_40 fl_RX4_9 (fo_Rf B _ _ _ _ _ _ _ _ _ _ hi hr _ _ _ _ _) rfl ?_
  refine v_iload_n g dX4_copyFrom_43 0 rfl ?_
  refine v_aload_n g dX4_copyFrom_44 2 rfl ?_
  refine v_get g dX4_copyFrom_45 fl_RX4_9 (fo2_R B _ _ hj (by omega) hne h2 _) rfl ?_
  refine v_iload_n g dX4_copyFrom_48 0 rfl ?_
  refine v_iald g dX4_copyFrom_49 (fo2_T B _ _ hj (by omega) hne h2 _) (by unfold vp_in; decide) (v_eqi (y := ((rs2 r).2.2.2.2 3)) rfl ?_)
  refine v_iast g dX4_copyFrom_50 (fo_Tf B _ _ _ _ _ _ _ _ _ _ hi hr _ _ _ _ _) (by unfold vp_in; decide) ?_
  refine v_meq (st_Tf B _ _ _ _ _ _ _ _ _ _ hi hr _ _ _ _ _ (upd (upd (upd (upd t 0 ((rs2 r).2.2.2.2 0)) 1 ((rs2 r).2.2.2.2 1)) 2 ((rs2 r).2.2.2.2 2)) 3 ((rs2 r).2.2.2.2 3))) ?_
  refine v_iinc (v := 4) (ls' := [(2, .int 4), (0, .ref (adR B i r)), (1, .ref (adR B j r))]) g dX4_copyFrom_51 0 rfl rfl rfl rfl ?_
  refine v_goto (tgt := 34) g dX4_copyFrom_54 (by decide) ?_
  refine v_iload_n g dX4_copyFrom_34 0 rfl ?_
  refine v_iconst (v := 4) g dX4_copyFrom_35 (by decide) ?_
  refine v_icmp_ge (tgt := 57) g dX4_copyFrom_36 (by decide) (fun _ => ?_) (fun h => absurd (by decide) h)
  exact v_vret g E dX4_copyFrom_57 rfl ⟨rfl, rfl, by rfl⟩
theorem k_rowCopy (hi : i < 13) (rc yr : Int32) (di le ta en : Int64) (ow : Nat → Int32) (rs : Nat → RV) {r : Nat} (hr : r < 3) {j : Nat} (hj : j < 13) (hne : j ≠ i) {rc2 yr2 : Int32} {di2 le2 ta2 en2 : Int64} {ow2 : Nat → Int32} {rs2 : Nat → RV} (h2 : cO C j = (rc2, yr2, di2, le2, ta2, en2, ow2, rs2)) : Ctr l G 0 0 0 0 mX4_copyFrom [.ref (adR B i r), .ref (adR B j r)] n (ren B (sO C i (rc, yr, di, le, ta, en, ow, rs)) ρ) none n (ren B (sO C i (rc, yr, di, le, ta, en, ow, va_up rs r (cpRow (rs r) (rs2 r)))) ρ) := by
  rcases hq : rs r with ⟨sz, kd, hd, be, t⟩
  have hrs : va_up rs r (sz, kd, hd, be, t) = rs := by rw [← hq, va_up_id]
  have k := k_X4_copyFrom (l := l) (G := G) (n := n) (B := B) (ρ := ρ) hi rc yr di le ta en ow rs hr sz kd hd be t hj hne h2
  rw [hrs] at k
  exact k
theorem k_X1_copyFrom (hi : i < 13) (rc yr : Int32) (di le ta en : Int64) (ow : Nat → Int32) (rs : Nat → RV) {j : Nat} (hj : j < 13) (hne : j ≠ i) {rc2 yr2 : Int32} {di2 le2 ta2 en2 : Int64} {ow2 : Nat → Int32} {rs2 : Nat → RV} (h2 : cO C j = (rc2, yr2, di2, le2, ta2, en2, ow2, rs2)) : Ctr l G 1 22 0 0 mX1_copyFrom [.ref (adO B i), .ref (adO B j)] n (ren B (sO C i (rc, yr, di, le, ta, en, ow, rs)) ρ) none n (ren B (sO C i (copyC (rc, yr, di, le, ta, en, ow, rs) (rc2, yr2, di2, le2, ta2, en2, ow2, rs2))) ρ) := by
  refine Ctr.of (by decide +kernel) rfl (fun X g E => ?_)
  have loop : ∀ (k r : Nat) (rs1 : Nat → RV), r + k = 3 → cpFrom rc2 rs2 3 0 rs = cpFrom rc2 rs2 k r rs1 → V X 0 0 n (ren B (sO C i (rc2, yr2, di2, le2, ta2, 0, (cp4 ow ow2), rs1)) ρ) 72 [(2, .int (nI r)), (0, .ref (adO B i)), (1, .ref (adO B j))] [] := by
    intro k
    induction k with
    | zero =>
      intro r rs1 hrk he
      refine v_iload_n g dX1_copyFrom_72 0 rfl ?_
      refine v_aload_n g dX1_copyFrom_73 1 rfl ?_
      refine v_get g dX1_copyFrom_74 fl_RX1_26 (fo_O B _ _ _ _ _ _ _ _ _ _ hi) rfl ?_
      refine v_icmp_ge (tgt := 106) g dX1_copyFrom_77 (by decide) (fun h77 => ?_) (fun h77 => ?_)
      · skip
        exact v_vret g E dX1_copyFrom_106 rfl ⟨rfl, rfl, by (simp only [copyC]; rw [he, cpFrom])⟩
      · skip
        refine v_iload_n g dX1_copyFrom_80 0 rfl ?_
        refine v_iconst (v := 3) g dX1_copyFrom_81 (by decide) ?_
        refine v_icmp_ge (tgt := 106) g dX1_copyFrom_82 (by decide) (fun h82 => ?_) (fun h82 => absurd (nI_le (a := 3) (b := r) (by omega) (by omega)) h82)
        exact v_vret g E dX1_copyFrom_106 rfl ⟨rfl, rfl, by (simp only [copyC]; rw [he, cpFrom])⟩
    | succ k ih =>
      intro r rs1 hrk he
      refine v_iload_n g dX1_copyFrom_72 0 rfl ?_
      refine v_aload_n g dX1_copyFrom_73 1 rfl ?_
      refine v_get g dX1_copyFrom_74 fl_RX1_26 (fo_O B _ _ _ _ _ _ _ _ _ _ hi) rfl ?_
      refine v_icmp_ge (tgt := 106) g dX1_copyFrom_77 (by decide) (fun h77 => ?_) (fun h77 => ?_)
      · skip
        exact v_vret g E dX1_copyFrom_106 rfl ⟨rfl, rfl, by (simp only [copyC]; rw [he, cpFrom, if_pos h77])⟩
      · skip
        refine v_iload_n g dX1_copyFrom_80 0 rfl ?_
        refine v_iconst (v := 3) g dX1_copyFrom_81 (by decide) ?_
        refine v_icmp_ge (tgt := 106) g dX1_copyFrom_82 (by decide) (fun h82 => absurd h82 (nI_ge (a := r) (b := 3) (by omega) (by decide))) (fun h82 => ?_)
        refine v_aload_n g dX1_copyFrom_85 1 rfl ?_
        refine v_get g dX1_copyFrom_86 fl_RX1_11 (fo_O B _ _ _ _ _ _ _ _ _ _ hi) rfl ?_
        refine v_iload_n g dX1_copyFrom_89 0 rfl ?_
        refine v_aaldR (v := .ref (adR B i r)) g dX1_copyFrom_90 (fo_Rs B _ _ _ _ _ _ _ _ _ _ hi) (vp_in_nI (by omega) (by decide)) (by rw [nI_clamp (by omega)]; rfl) ?_
        refine v_aload_n g dX1_copyFrom_91 2 rfl ?_
        refine v_get g dX1_copyFrom_92 fl_RX1_11 (fo2_O B _ _ hj hne h2 _) rfl ?_
        refine v_iload_n g dX1_copyFrom_95 0 rfl ?_
        refine v_aaldR (v := .ref (adR B j r)) g dX1_copyFrom_96 (fo2_Rs B _ _ hj _) (vp_in_nI (by omega) (by decide)) (by rw [nI_clamp (by omega)]; rfl) ?_
        refine v_callV (As := [.ref (adR B j r)]) (r := none) g dX1_copyFrom_97 (k_rowCopy hi rc2 yr2 di2 le2 ta2 0 (cp4 ow ow2) rs1 (r := r) (by omega) hj hne h2) cl_X4_copyFrom ml_RX1_46 im_X4_copyFrom (fo_R B _ _ _ _ _ _ _ _ _ _ hi (by omega)) rfl rfl ⟨rfl, rfl, rfl⟩ ?_
        refine v_iinc (v := nI (r + 1)) (ls' := [(2, .int (nI (r + 1))), (0, .ref (adO B i)), (1, .ref (adO B j))]) g dX1_copyFrom_100 0 rfl (nI_1 r) rfl rfl ?_
        refine v_goto (tgt := 72) g dX1_copyFrom_103 (by decide) ?_
        refine v_sub (ls' := [(2, .int (nI (r + 1))), (0, .ref (adO B i)), (1, .ref (adO B j))]) [0, 1, 2] rfl ?_
        exact ih (r + 1) _ (by omega) (by rw [he, cpFrom, if_neg h77])
  refine v_sub (ls' := [(0, .ref (adO B i)), (1, .ref (adO B j))]) [0, 1] rfl ?_
  refine v_aload_n g dX1_copyFrom_0 0 rfl ?_
  refine v_aload_n g dX1_copyFrom_1 1 rfl ?_
  refine v_get g dX1_copyFrom_2 fl_RX1_26 (fo2_O B _ _ hj hne h2 _) rfl ?_
  refine v_put g dX1_copyFrom_5 fl_RX1_26 (fo_O B _ _ _ _ _ _ _ _ _ _ hi) ⟨rfl, rfl⟩ rfl ?_
  refine v_meq (st_O B _ _ _ _ _ _ _ _ _ _ hi rc2 yr di le ta en) ?_
  refine v_aload_n g dX1_copyFrom_8 0 rfl ?_
  refine v_aload_n g dX1_copyFrom_9 1 rfl ?_
  refine v_get g dX1_copyFrom_10 fl_RX1_30 (fo2_O B _ _ hj hne h2 _) rfl ?_
  refine v_put g dX1_copyFrom_13 fl_RX1_30 (fo_O B _ _ _ _ _ _ _ _ _ _ hi) ⟨rfl, rfl⟩ rfl ?_
  refine v_meq (st_O B _ _ _ _ _ _ _ _ _ _ hi rc2 yr2 di le ta en) ?_
  refine v_aload_n g dX1_copyFrom_16 0 rfl ?_
  refine v_aload_n g dX1_copyFrom_17 1 rfl ?_
  refine v_get g dX1_copyFrom_18 fl_RX1_33 (fo2_O B _ _ hj hne h2 _) rfl ?_
  refine v_put g dX1_copyFrom_21 fl_RX1_33 (fo_O B _ _ _ _ _ _ _ _ _ _ hi) ⟨rfl, rfl⟩ rfl ?_
  refine v_meq (st_O B _ _ _ _ _ _ _ _ _ _ hi rc2 yr2 di2 le ta en) ?_
  refine v_aload_n g dX1_copyFrom_24 0 rfl ?_
  refine v_aload_n g dX1_copyFrom_25 1 rfl ?_
  refine v_get g dX1_copyFrom_26 fl_RX1_37 (fo2_O B _ _ hj hne h2 _) rfl ?_
  refine v_put g dX1_copyFrom_29 fl_RX1_37 (fo_O B _ _ _ _ _ _ _ _ _ _ hi) ⟨rfl, rfl⟩ rfl ?_
  refine v_meq (st_O B _ _ _ _ _ _ _ _ _ _ hi rc2 yr2 di2 le2 ta en) ?_
  refine v_aload_n g dX1_copyFrom_32 0 rfl ?_
  refine v_aload_n g dX1_copyFrom_33 1 rfl ?_
  refine v_get g dX1_copyFrom_34 fl_RX1_40 (fo2_O B _ _ hj hne h2 _) rfl ?_
  refine v_put g dX1_copyFrom_37 fl_RX1_40 (fo_O B _ _ _ _ _ _ _ _ _ _ hi) ⟨rfl, rfl⟩ rfl ?_
  refine v_meq (st_O B _ _ _ _ _ _ _ _ _ _ hi rc2 yr2 di2 le2 ta2 en) ?_
  refine v_aload_n g dX1_copyFrom_40 0 rfl ?_
  refine v_lconst (v := 0) g dX1_copyFrom_41 (by decide) ?_
  refine v_put g dX1_copyFrom_42 fl_RX1_43 (fo_O B _ _ _ _ _ _ _ _ _ _ hi) ⟨rfl, rfl⟩ rfl ?_
  refine v_meq (st_O B _ _ _ _ _ _ _ _ _ _ hi rc2 yr2 di2 le2 ta2 0) ?_
  refine v_iconst (v := 0) g dX1_copyFrom_45 (by decide) ?_
  refine v_istore_n (ls' := [(2, .int 0), (0, .ref (adO B i)), (1, .ref (adO B j))]) g dX1_copyFrom_46 rfl rfl ?_
  refine v_iload_n g dX1_copyFrom_47 0 rfl ?_
  refine v_iconst (v := 4) g dX1_copyFrom_48 (by decide) ?_
  refine v_icmp_ge (tgt := 70) g dX1_copyFrom_49 (by decide) (fun h => absurd h (by decide)) (fun _ => ?_)
  refine v_aload_n g dX1_copyFrom_52 1 rfl ?_
  refine v_get g dX1_copyFrom_53 fl_RX1_17 (fo_O B _ _ _ _ _ _ _ _ _ _ hi) rfl ?_
  refine v_iload_n g dX1_copyFrom_56 0 rfl ?_
  refine v_aload_n g dX1_copyFrom_57 2 rfl ?_
  refine v_get g dX1_copyFrom_58 fl_RX1_17 (fo2_O B _ _ hj hne h2 _) rfl ?_
  refine v_iload_n g dX1_copyFrom_61 0 rfl ?_
  refine v_iald g dX1_copyFrom_62 (fo2_Ow B _ _ hj hne h2 _) (by unfold vp_in; decide) (v_eqi (y := (ow2 0)) rfl ?_)
  refine v_iast g dX1_copyFrom_63 (fo_Ow B _ _ _ _ _ _ _ _ _ _ hi) (by unfold vp_in; decide) ?_
  refine v_meq (st_Ow B _ _ _ _ _ _ _ _ _ _ hi (upd ow 0 (ow2 0))) ?_
  refine v_iinc (v := 1) (ls' := [(2, .int 1), (0, .ref (adO B i)), (1, .ref (adO B j))]) g dX1_copyFrom_64 0 rfl rfl rfl rfl ?_
  refine v_goto (tgt := 47) g dX1_copyFrom_67 (by decide) ?_
  refine v_iload_n g dX1_copyFrom_47 0 rfl ?_
  refine v_iconst (v := 4) g dX1_copyFrom_48 (by decide) ?_
  refine v_icmp_ge (tgt := 70) g dX1_copyFrom_49 (by decide) (fun h => absurd h (by decide)) (fun _ => ?_)
  refine v_aload_n g dX1_copyFrom_52 1 rfl ?_
  refine v_get g dX1_copyFrom_53 fl_RX1_17 (fo_O B _ _ _ _ _ _ _ _ _ _ hi) rfl ?_
  refine v_iload_n g dX1_copyFrom_56 0 rfl ?_
  refine v_aload_n g dX1_copyFrom_57 2 rfl ?_
  refine v_get g dX1_copyFrom_58 fl_RX1_17 (fo2_O B _ _ hj hne h2 _) rfl ?_
  refine v_iload_n g dX1_copyFrom_61 0 rfl ?_
  refine v_iald g dX1_copyFrom_62 (fo2_Ow B _ _ hj hne h2 _) (by unfold vp_in; decide) (v_eqi (y := (ow2 1)) rfl ?_)
  refine v_iast g dX1_copyFrom_63 (fo_Ow B _ _ _ _ _ _ _ _ _ _ hi) (by unfold vp_in; decide) ?_
  refine v_meq (st_Ow B _ _ _ _ _ _ _ _ _ _ hi (upd (upd ow 0 (ow2 0)) 1 (ow2 1))) ?_
  refine v_iinc (v := 2) (ls' := [(2, .int 2), (0, .ref (adO B i)), (1, .ref (adO B j))]) g dX1_copyFrom_64 0 rfl rfl rfl rfl ?_
  refine v_goto (tgt := 47) g dX1_copyFrom_67 (by decide) ?_
  refine v_iload_n g dX1_copyFrom_47 0 rfl ?_
  refine v_iconst (v := 4) g dX1_copyFrom_48 (by decide) ?_
  refine v_icmp_ge (tgt := 70) g dX1_copyFrom_49 (by decide) (fun h => absurd h (by decide)) (fun _ => ?_)
  refine v_aload_n g dX1_copyFrom_52 1 rfl ?_
  refine v_get g dX1_copyFrom_53 fl_RX1_17 (fo_O B _ _ _ _ _ _ _ _ _ _ hi) rfl ?_
  refine v_iload_n g dX1_copyFrom_56 0 rfl ?_
  refine v_aload_n g dX1_copyFrom_57 2 rfl ?_
  refine v_get g dX1_copyFrom_58 fl_RX1_17 (fo2_O B _ _ hj hne h2 _) rfl ?_
  refine v_iload_n g dX1_copyFrom_61 0 rfl ?_
  refine v_iald g dX1_copyFrom_62 (fo2_Ow B _ _ hj hne h2 _) (by unfold vp_in; decide) (v_eqi (y := (ow2 2)) rfl ?_)
  refine v_iast g dX1_copyFrom_63 (fo_Ow B _ _ _ _ _ _ _ _ _ _ hi) (by unfold vp_in; decide) ?_
  refine v_meq (st_Ow B _ _ _ _ _ _ _ _ _ _ hi (upd (upd (upd ow 0 (ow2 0)) 1 (ow2 1)) 2 (ow2 2))) ?_
  refine v_iinc (v := 3) (ls' := [(2, .int 3), (0, .ref (adO B i)), (1, .ref (adO B j))]) g dX1_copyFrom_64 0 rfl rfl rfl rfl ?_
  refine v_goto (tgt := 47) g dX1_copyFrom_67 (by decide) ?_
  refine v_iload_n g dX1_copyFrom_47 0 rfl ?_
  refine v_iconst (v := 4) g dX1_copyFrom_48 (by decide) ?_
  refine v_icmp_ge (tgt := 70) g dX1_copyFrom_49 (by decide) (fun h => absurd h (by decide)) (fun _ => ?_)
  refine v_aload_n g dX1_copyFrom_52 1 rfl ?_
  refine v_get g dX1_copyFrom_53 fl_RX1_17 (fo_O B _ _ _ _ _ _ _ _ _ _ hi) rfl ?_
  refine v_iload_n g dX1_copyFrom_56 0 rfl ?_
  refine v_aload_n g dX1_copyFrom_57 2 rfl ?_
  refine v_get g dX1_copyFrom_58 fl_RX1_17 (fo2_O B _ _ hj hne h2 _) rfl ?_
  refine v_iload_n g dX1_copyFrom_61 0 rfl ?_
  refine v_iald g dX1_copyFrom_62 (fo2_Ow B _ _ hj hne h2 _) (by unfold vp_in; decide) (v_eqi (y := (ow2 3)) rfl ?_)
  refine v_iast g dX1_copyFrom_63 (fo_Ow B _ _ _ _ _ _ _ _ _ _ hi) (by unfold vp_in; decide) ?_
  refine v_meq (st_Ow B _ _ _ _ _ _ _ _ _ _ hi (upd (upd (upd (upd ow 0 (ow2 0)) 1 (ow2 1)) 2 (ow2 2)) 3 (ow2 3))) ?_
  refine v_iinc (v := 4) (ls' := [(2, .int 4), (0, .ref (adO B i)), (1, .ref (adO B j))]) g dX1_copyFrom_64 0 rfl rfl rfl rfl ?_
  refine v_goto (tgt := 47) g dX1_copyFrom_67 (by decide) ?_
  refine v_iload_n g dX1_copyFrom_47 0 rfl ?_
  refine v_iconst (v := 4) g dX1_copyFrom_48 (by decide) ?_
  refine v_icmp_ge (tgt := 70) g dX1_copyFrom_49 (by decide) (fun _ => ?_) (fun h => absurd (by decide) h)
  refine v_iconst (v := 0) g dX1_copyFrom_70 (by decide) ?_
  refine v_istore_n (ls' := [(2, .int 0), (0, .ref (adO B i)), (1, .ref (adO B j))]) g dX1_copyFrom_71 rfl rfl ?_
  refine v_sub (ls' := [(2, .int 0), (0, .ref (adO B i)), (1, .ref (adO B j))]) [0, 1, 2] rfl ?_
  exact loop 3 0 rs rfl rfl
theorem k_X1_clear (hi : i < 13) (rc yr : Int32) (di le ta en : Int64) (ow : Nat → Int32) (rs : Nat → RV) : Ctr l G 0 0 0 0 mX1_clear [.ref (adO B i)] n (ren B (sO C i (rc, yr, di, le, ta, en, ow, rs)) ρ) (none) n (ren B (sO C i (clearOC (rc, yr, di, le, ta, en, ow, rs))) ρ) := by
  refine Ctr.of (by decide +kernel) rfl (fun X g E => ?_)
  refine v_sub (ls' := [(0, .ref (adO B i))]) [0] rfl ?_
  refine v_aload_n g dX1_clear_0 0 rfl ?_
  refine v_iconst (v := 0) g dX1_clear_1 (by decide) ?_
  refine v_put g dX1_clear_2 fl_RX1_26 (fo_O B _ _ _ _ _ _ _ _ _ _ hi) ⟨rfl, rfl⟩ rfl ?_
  refine v_meq (st_O B _ _ _ _ _ _ _ _ _ _ hi 0 yr di le ta en) ?_
  refine v_aload_n g dX1_clear_5 0 rfl ?_
  refine v_iconst (v := 0) g dX1_clear_6 (by decide) ?_
  refine v_put g dX1_clear_7 fl_RX1_30 (fo_O B _ _ _ _ _ _ _ _ _ _ hi) ⟨rfl, rfl⟩ rfl ?_
  refine v_meq (st_O B _ _ _ _ _ _ _ _ _ _ hi 0 0 di le ta en) ?_
  refine v_aload_n g dX1_clear_10 0 rfl ?_
  refine v_lconst (v := 0) g dX1_clear_11 (by decide) ?_
  refine v_put g dX1_clear_12 fl_RX1_33 (fo_O B _ _ _ _ _ _ _ _ _ _ hi) ⟨rfl, rfl⟩ rfl ?_
  refine v_meq (st_O B _ _ _ _ _ _ _ _ _ _ hi 0 0 0 le ta en) ?_
  refine v_aload_n g dX1_clear_15 0 rfl ?_
  refine v_lconst (v := 0) g dX1_clear_16 (by decide) ?_
  refine v_put g dX1_clear_17 fl_RX1_37 (fo_O B _ _ _ _ _ _ _ _ _ _ hi) ⟨rfl, rfl⟩ rfl ?_
  refine v_meq (st_O B _ _ _ _ _ _ _ _ _ _ hi 0 0 0 0 ta en) ?_
  refine v_aload_n g dX1_clear_20 0 rfl ?_
  refine v_lconst (v := 0) g dX1_clear_21 (by decide) ?_
  refine v_put g dX1_clear_22 fl_RX1_40 (fo_O B _ _ _ _ _ _ _ _ _ _ hi) ⟨rfl, rfl⟩ rfl ?_
  refine v_meq (st_O B _ _ _ _ _ _ _ _ _ _ hi 0 0 0 0 0 en) ?_
  refine v_aload_n g dX1_clear_25 0 rfl ?_
  refine v_lconst (v := 0) g dX1_clear_26 (by decide) ?_
  refine v_put g dX1_clear_27 fl_RX1_43 (fo_O B _ _ _ _ _ _ _ _ _ _ hi) ⟨rfl, rfl⟩ rfl ?_
  refine v_meq (st_O B _ _ _ _ _ _ _ _ _ _ hi 0 0 0 0 0 0) ?_
  refine v_iconst (v := 0) g dX1_clear_30 (by decide) ?_
  refine v_istore_n (ls' := [(1, .int 0), (0, .ref (adO B i))]) g dX1_clear_31 rfl rfl ?_
  refine v_iload_n g dX1_clear_32 0 rfl ?_
  refine v_iconst (v := 4) g dX1_clear_33 (by decide) ?_
  refine v_icmp_ge (tgt := 50) g dX1_clear_34 (by decide) (fun h => absurd h (by decide)) (fun _ => ?_)
  refine v_aload_n g dX1_clear_37 1 rfl ?_
  refine v_get g dX1_clear_38 fl_RX1_17 (fo_O B _ _ _ _ _ _ _ _ _ _ hi) rfl ?_
  refine v_iload_n g dX1_clear_41 0 rfl ?_
  refine v_iconst (v := 0) g dX1_clear_42 (by decide) ?_
  refine v_iast g dX1_clear_43 (fo_Ow B _ _ _ _ _ _ _ _ _ _ hi) (by unfold vp_in; decide) ?_
  refine v_meq (st_Ow B _ _ _ _ _ _ _ _ _ _ hi (upd ow 0 0)) ?_
  refine v_iinc (v := 1) (ls' := [(1, .int 1), (0, .ref (adO B i))]) g dX1_clear_44 0 rfl rfl rfl rfl ?_
  refine v_goto (tgt := 32) g dX1_clear_47 (by decide) ?_
  refine v_iload_n g dX1_clear_32 0 rfl ?_
  refine v_iconst (v := 4) g dX1_clear_33 (by decide) ?_
  refine v_icmp_ge (tgt := 50) g dX1_clear_34 (by decide) (fun h => absurd h (by decide)) (fun _ => ?_)
  refine v_aload_n g dX1_clear_37 1 rfl ?_
  refine v_get g dX1_clear_38 fl_RX1_17 (fo_O B _ _ _ _ _ _ _ _ _ _ hi) rfl ?_
  refine v_iload_n g dX1_clear_41 0 rfl ?_
  refine v_iconst (v := 0) g dX1_clear_42 (by decide) ?_
  refine v_iast g dX1_clear_43 (fo_Ow B _ _ _ _ _ _ _ _ _ _ hi) (by unfold vp_in; decide) ?_
  refine v_meq (st_Ow B _ _ _ _ _ _ _ _ _ _ hi (upd (upd ow 0 0) 1 0)) ?_
  refine v_iinc (v := 2) (ls' := [(1, .int 2), (0, .ref (adO B i))]) g dX1_clear_44 0 rfl rfl rfl rfl ?_
  refine v_goto (tgt := 32) g dX1_clear_47 (by decide) ?_
  refine v_iload_n g dX1_clear_32 0 rfl ?_
  refine v_iconst (v := 4) g dX1_clear_33 (by decide) ?_
  refine v_icmp_ge (tgt := 50) g dX1_clear_34 (by decide) (fun h => absurd h (by decide)) (fun _ => ?_)
  refine v_aload_n g dX1_clear_37 1 rfl ?_
  refine v_get g dX1_clear_38 fl_RX1_17 (fo_O B _ _ _ _ _ _ _ _ _ _ hi) rfl ?_
  refine v_iload_n g dX1_clear_41 0 rfl ?_
  refine v_iconst (v := 0) g dX1_clear_42 (by decide) ?_
  refine v_iast g dX1_clear_43 (fo_Ow B _ _ _ _ _ _ _ _ _ _ hi) (by unfold vp_in; decide) ?_
  refine v_meq (st_Ow B _ _ _ _ _ _ _ _ _ _ hi (upd (upd (upd ow 0 0) 1 0) 2 0)) ?_
  refine v_iinc (v := 3) (ls' := [(1, .int 3), (0, .ref (adO B i))]) g dX1_clear_44 0 rfl rfl rfl rfl ?_
  refine v_goto (tgt := 32) g dX1_clear_47 (by decide) ?_
  refine v_iload_n g dX1_clear_32 0 rfl ?_
  refine v_iconst (v := 4) g dX1_clear_33 (by decide) ?_
  refine v_icmp_ge (tgt := 50) g dX1_clear_34 (by decide) (fun h => absurd h (by decide)) (fun _ => ?_)
  refine v_aload_n g dX1_clear_37 1 rfl ?_
  refine v_get g dX1_clear_38 fl_RX1_17 (fo_O B _ _ _ _ _ _ _ _ _ _ hi) rfl ?_
  refine v_iload_n g dX1_clear_41 0 rfl ?_
  refine v_iconst (v := 0) g dX1_clear_42 (by decide) ?_
  refine v_iast g dX1_clear_43 (fo_Ow B _ _ _ _ _ _ _ _ _ _ hi) (by unfold vp_in; decide) ?_
  refine v_meq (st_Ow B _ _ _ _ _ _ _ _ _ _ hi (upd (upd (upd (upd ow 0 0) 1 0) 2 0) 3 0)) ?_
  refine v_iinc (v := 4) (ls' := [(1, .int 4), (0, .ref (adO B i))]) g dX1_clear_44 0 rfl rfl rfl rfl ?_
  refine v_goto (tgt := 32) g dX1_clear_47 (by decide) ?_
  refine v_iload_n g dX1_clear_32 0 rfl ?_
  refine v_iconst (v := 4) g dX1_clear_33 (by decide) ?_
  refine v_icmp_ge (tgt := 50) g dX1_clear_34 (by decide) (fun _ => ?_) (fun h => absurd (by decide) h)
  exact v_vret g E dX1_clear_50 rfl ⟨rfl, rfl, by rfl⟩
theorem k_X4_plant (hi : i < 13) (rc yr : Int32) (di le ta en : Int64) (ow : Nat → Int32) (rs : Nat → RV) {r : Nat} (hr : r < 3) (sz kd hd be : Int32) (t : Nat → Int32) (x : Int32) : Ctr l G 0 0 0 0 mX4_plant [.ref (adR B i r), .int x] n (ren B (sO C i (rc, yr, di, le, ta, en, ow, va_up rs r (sz, kd, hd, be, t))) ρ) (none) n (ren B (sO C i (rc, yr, di, le, ta, en, ow, va_up rs r ((plantF sz t x).1, kd, hd, be, (plantF sz t x).2))) ρ) := by
  refine Ctr.of (by decide +kernel) rfl (fun X g E => ?_)
  refine v_sub (ls' := [(0, .ref (adR B i r)), (1, .int x)]) [0, 1] rfl ?_
  refine v_aload_n g dX4_plant_0 0 rfl ?_
  refine v_get g dX4_plant_1 fl_RX4_15 (fo_Rf B _ _ _ _ _ _ _ _ _ _ hi hr _ _ _ _ _) rfl ?_
  refine v_if_lt (tgt := 35) g dX4_plant_4 (by decide) (fun h4 => ?_) (fun h4 => ?_)
  · skip
    exact v_vret g E dX4_plant_35 rfl ⟨rfl, rfl, by simp only [plantF, *, ↓reduceIte]⟩
  · skip
    refine v_aload_n g dX4_plant_7 0 rfl ?_
    refine v_get g dX4_plant_8 fl_RX4_15 (fo_Rf B _ _ _ _ _ _ _ _ _ _ hi hr _ _ _ _ _) rfl ?_
    refine v_iconst (v := 4) g dX4_plant_11 (by decide) ?_
    refine v_icmp_ge (tgt := 35) g dX4_plant_12 (by decide) (fun h12 => ?_) (fun h12 => ?_)
    · skip
      exact v_vret g E dX4_plant_35 rfl ⟨rfl, rfl, by simp only [plantF, *, ↓reduceIte]⟩
    · skip
      refine v_aload_n g dX4_plant_15 0 rfl ?_
      refine v_get g dX4_plant_16 fl_RX4_9 (fo_Rf B _ _ _ _ _ _ _ _ _ _ hi hr _ _ _ _ _) rfl ?_
      refine v_aload_n g dX4_plant_19 0 rfl ?_
      refine v_get g dX4_plant_20 fl_RX4_15 (fo_Rf B _ _ _ _ _ _ _ _ _ _ hi hr _ _ _ _ _) rfl ?_
      refine v_iload_n g dX4_plant_23 1 rfl ?_
      refine v_iast g dX4_plant_24 (fo_Tf B _ _ _ _ _ _ _ _ _ _ hi hr _ _ _ _ _) (vin_c (m := 4) rfl h4 h12) ?_
      refine v_meq (st_Tf B _ _ _ _ _ _ _ _ _ _ hi hr _ _ _ _ _ (upd t sz.toNatClampNeg x)) ?_
      refine v_aload_n g dX4_plant_25 0 rfl ?_
      refine v_dup g dX4_plant_26 rfl ?_
      refine v_get g dX4_plant_27 fl_RX4_15 (fo_Rf B _ _ _ _ _ _ _ _ _ _ hi hr _ _ _ _ _) rfl ?_
      refine v_iconst (v := 1) g dX4_plant_30 (by decide) ?_
      refine v_iadd g dX4_plant_31 ?_
      refine v_put g dX4_plant_32 fl_RX4_15 (fo_Rf B _ _ _ _ _ _ _ _ _ _ hi hr _ _ _ _ _) ⟨rfl, rfl⟩ rfl ?_
      refine v_meq (st_Rf B _ _ _ _ _ _ _ _ _ _ hi hr _ _ _ _ (sz + 1) kd hd be _) ?_
      exact v_vret g E dX4_plant_35 rfl ⟨rfl, rfl, by simp only [plantF, *, ↓reduceIte]⟩
end C3
section C3r
variable {l : Launch} {G : GG} {n : Nat} {μ : Mu}
theorem k_X1_ownedByAll {oo la rsa oow : Nat} {rc yr : Int32} {di le ta en : Int64} (hO : μ oo = some (orCe la rsa oow rc yr di le ta en)) {ow : Nat → Int32} (hOw : μ oow = some (iA 4 ow)) : Ctr l G 0 0 0 0 mX1_ownedByAll [.ref oo] n μ (some (.int (allHaveC ow))) n μ := by
  refine Ctr.of (by decide +kernel) rfl (fun X g E => ?_)
  refine v_sub (ls' := [(0, .ref oo)]) [0] rfl ?_
  refine v_iconst (v := 0) g dX1_ownedByAll_0 (by decide) ?_
  refine v_istore_n (ls' := [(1, .int 0), (0, .ref oo)]) g dX1_ownedByAll_1 rfl rfl ?_
  refine v_iconst (v := 0) g dX1_ownedByAll_2 (by decide) ?_
  refine v_istore_n (ls' := [(2, .int 0), (1, .int 0), (0, .ref oo)]) g dX1_ownedByAll_3 rfl rfl ?_
  refine v_iload_n g dX1_ownedByAll_4 0 rfl ?_
  refine v_iconst (v := 4) g dX1_ownedByAll_5 (by decide) ?_
  refine v_icmp_ge (tgt := 24) g dX1_ownedByAll_6 (by decide) (fun h => absurd h (by decide)) (fun _ => ?_)
  refine v_iload_n g dX1_ownedByAll_9 1 rfl ?_
  refine v_aload_n g dX1_ownedByAll_10 2 rfl ?_
  refine v_get g dX1_ownedByAll_11 fl_RX1_17 hO rfl ?_
  refine v_iload_n g dX1_ownedByAll_14 0 rfl ?_
  refine v_iald g dX1_ownedByAll_15 hOw (by unfold vp_in; decide) (v_eqi (y := (ow 0)) rfl ?_)
  refine v_iadd g dX1_ownedByAll_16 ?_
  refine v_istore_n (ls' := [(1, .int (0 + (ow 0))), (2, .int 0), (0, .ref oo)]) g dX1_ownedByAll_17 rfl rfl ?_
  refine v_iinc (v := 1) (ls' := [(2, .int 1), (1, .int (0 + (ow 0))), (0, .ref oo)]) g dX1_ownedByAll_18 1 rfl rfl rfl rfl ?_
  refine v_goto (tgt := 4) g dX1_ownedByAll_21 (by decide) ?_
  refine v_iload_n g dX1_ownedByAll_4 0 rfl ?_
  refine v_iconst (v := 4) g dX1_ownedByAll_5 (by decide) ?_
  refine v_icmp_ge (tgt := 24) g dX1_ownedByAll_6 (by decide) (fun h => absurd h (by decide)) (fun _ => ?_)
  refine v_iload_n g dX1_ownedByAll_9 1 rfl ?_
  refine v_aload_n g dX1_ownedByAll_10 2 rfl ?_
  refine v_get g dX1_ownedByAll_11 fl_RX1_17 hO rfl ?_
  refine v_iload_n g dX1_ownedByAll_14 0 rfl ?_
  refine v_iald g dX1_ownedByAll_15 hOw (by unfold vp_in; decide) (v_eqi (y := (ow 1)) rfl ?_)
  refine v_iadd g dX1_ownedByAll_16 ?_
  refine v_istore_n (ls' := [(1, .int ((0 + (ow 0)) + (ow 1))), (2, .int 1), (0, .ref oo)]) g dX1_ownedByAll_17 rfl rfl ?_
  refine v_iinc (v := 2) (ls' := [(2, .int 2), (1, .int ((0 + (ow 0)) + (ow 1))), (0, .ref oo)]) g dX1_ownedByAll_18 1 rfl rfl rfl rfl ?_
  refine v_goto (tgt := 4) g dX1_ownedByAll_21 (by decide) ?_
  refine v_iload_n g dX1_ownedByAll_4 0 rfl ?_
  refine v_iconst (v := 4) g dX1_ownedByAll_5 (by decide) ?_
  refine v_icmp_ge (tgt := 24) g dX1_ownedByAll_6 (by decide) (fun h => absurd h (by decide)) (fun _ => ?_)
  refine v_iload_n g dX1_ownedByAll_9 1 rfl ?_
  refine v_aload_n g dX1_ownedByAll_10 2 rfl ?_
  refine v_get g dX1_ownedByAll_11 fl_RX1_17 hO rfl ?_
  refine v_iload_n g dX1_ownedByAll_14 0 rfl ?_
  refine v_iald g dX1_ownedByAll_15 hOw (by unfold vp_in; decide) (v_eqi (y := (ow 2)) rfl ?_)
  refine v_iadd g dX1_ownedByAll_16 ?_
  refine v_istore_n (ls' := [(1, .int (((0 + (ow 0)) + (ow 1)) + (ow 2))), (2, .int 2), (0, .ref oo)]) g dX1_ownedByAll_17 rfl rfl ?_
  refine v_iinc (v := 3) (ls' := [(2, .int 3), (1, .int (((0 + (ow 0)) + (ow 1)) + (ow 2))), (0, .ref oo)]) g dX1_ownedByAll_18 1 rfl rfl rfl rfl ?_
  refine v_goto (tgt := 4) g dX1_ownedByAll_21 (by decide) ?_
  refine v_iload_n g dX1_ownedByAll_4 0 rfl ?_
  refine v_iconst (v := 4) g dX1_ownedByAll_5 (by decide) ?_
  refine v_icmp_ge (tgt := 24) g dX1_ownedByAll_6 (by decide) (fun h => absurd h (by decide)) (fun _ => ?_)
  refine v_iload_n g dX1_ownedByAll_9 1 rfl ?_
  refine v_aload_n g dX1_ownedByAll_10 2 rfl ?_
  refine v_get g dX1_ownedByAll_11 fl_RX1_17 hO rfl ?_
  refine v_iload_n g dX1_ownedByAll_14 0 rfl ?_
  refine v_iald g dX1_ownedByAll_15 hOw (by unfold vp_in; decide) (v_eqi (y := (ow 3)) rfl ?_)
  refine v_iadd g dX1_ownedByAll_16 ?_
  refine v_istore_n (ls' := [(1, .int ((((0 + (ow 0)) + (ow 1)) + (ow 2)) + (ow 3))), (2, .int 3), (0, .ref oo)]) g dX1_ownedByAll_17 rfl rfl ?_
  refine v_iinc (v := 4) (ls' := [(2, .int 4), (1, .int ((((0 + (ow 0)) + (ow 1)) + (ow 2)) + (ow 3))), (0, .ref oo)]) g dX1_ownedByAll_18 1 rfl rfl rfl rfl ?_
  refine v_goto (tgt := 4) g dX1_ownedByAll_21 (by decide) ?_
  refine v_iload_n g dX1_ownedByAll_4 0 rfl ?_
  refine v_iconst (v := 4) g dX1_ownedByAll_5 (by decide) ?_
  refine v_icmp_ge (tgt := 24) g dX1_ownedByAll_6 (by decide) (fun _ => ?_) (fun h => absurd (by decide) h)
  refine v_iload_n g dX1_ownedByAll_24 1 rfl ?_
  exact v_iret g E dX1_ownedByAll_25 rfl ⟨by rfl, rfl, rfl⟩
theorem k_X1_areSideBySide {oo la rsa oow : Nat} {rc yr : Int32} {di le ta en : Int64} (hO : μ oo = some (orCe la rsa oow rc yr di le ta en)) {low : Nat} {F Hd Br : Int64} {li wi : Int32} (hL : μ la = some (landCe low F Hd Br li wi)) {ro tr : Nat} {sz kd hd be : Int32} (hR : μ ro = some (rowCe tr sz kd hd be)) {t : Nat → Int32} (hT : μ tr = some (iA 4 t)) {ro' tr' : Nat} {sz' kd' hd' be' : Int32} (hR' : μ ro' = some (rowCe tr' sz' kd' hd' be')) {t' : Nat → Int32} (hT' : μ tr' = some (iA 4 t')) : Ctr l G 2 47 0 0 mX1_areSideBySide [.ref oo, .ref ro, .ref ro'] n μ (some (.int (zB (sideC li wi sz t (rowCellsC sz' t'))))) n μ := by
  refine Ctr.of (by decide +kernel) rfl (fun X g E => ?_)
  refine v_sub (ls' := [(0, .ref oo), (1, .ref ro), (2, .ref ro')]) [0, 1, 2] rfl ?_
  refine v_aload_n g dX1_areSideBySide_0 2 rfl ?_
  refine v_callV (As := []) (r := some (.long (rowCellsC sz' t'))) g dX1_areSideBySide_1 (k_X4_cells hR' hT') cl_X4_cells ml_RX1_54 im_X4_cells hR' rfl rfl ⟨rfl, rfl, rfl⟩ ?_
  refine v_lstore_n (ls' := [(3, .long (rowCellsC sz' t')), (0, .ref oo), (1, .ref ro), (2, .ref ro')]) g dX1_areSideBySide_4 rfl rfl ?_
  refine v_iconst (v := 0) g dX1_areSideBySide_5 (by decide) ?_
  refine v_istore (ls' := [(5, .int 0), (3, .long (rowCellsC sz' t')), (0, .ref oo), (1, .ref ro), (2, .ref ro')]) g dX1_areSideBySide_6 rfl rfl ?_
  refine v_iload g dX1_areSideBySide_8 0 rfl ?_
  refine v_aload_n g dX1_areSideBySide_10 3 rfl ?_
  refine v_get g dX1_areSideBySide_11 fl_RX1_73 hR rfl ?_
  refine v_icmp_ge (tgt := 49) g dX1_areSideBySide_14 (by decide) (fun h14 => ?_) (fun h14 => ?_)
  · skip
    refine v_iconst (v := 0) g dX1_areSideBySide_49 (by decide) ?_
    exact v_zret g E dX1_areSideBySide_50 rfl rfl ⟨by first | (simp [sideC, zB, *]; done) | (simp_all [sideC, zB]; done), rfl, rfl⟩
  · skip
    refine v_iload g dX1_areSideBySide_17 0 rfl ?_
    refine v_iconst (v := 4) g dX1_areSideBySide_19 (by decide) ?_
    refine v_icmp_ge (tgt := 49) g dX1_areSideBySide_20 (by decide) (fun h => absurd h (by decide)) (fun _ => ?_)
    refine v_aload_n g dX1_areSideBySide_23 2 rfl ?_
    refine v_get g dX1_areSideBySide_24 fl_RX1_21 hO rfl ?_
    refine v_aload_n g dX1_areSideBySide_27 3 rfl ?_
    refine v_get g dX1_areSideBySide_28 fl_RX1_104 hR rfl ?_
    refine v_iload g dX1_areSideBySide_31 0 rfl ?_
    refine v_iald g dX1_areSideBySide_33 hT (by unfold vp_in; decide) (v_eqi (y := (t 0)) rfl ?_)
    refine v_lload_n g dX1_areSideBySide_34 1 rfl ?_
    refine v_callV (As := [.int (t 0), .long (rowCellsC sz' t')]) (r := some (.int (zB (besC li wi (t 0) (rowCellsC sz' t'))))) g dX1_areSideBySide_35 (k_X0_isBesideOne hL (t 0) (rowCellsC sz' t')) cl_X0_isBesideOne ml_RX1_124 im_X0_isBesideOne hL rfl rfl ⟨rfl, rfl, rfl⟩ ?_
    refine v_if_eq (tgt := 43) g dX1_areSideBySide_38 (by decide) (fun h38 => ?_) (fun h38 => ?_)
    · skip
      have h38 := zB_f0 h38
      refine v_iinc (v := 1) (ls' := [(5, .int 1), (3, .long (rowCellsC sz' t')), (0, .ref oo), (1, .ref ro), (2, .ref ro')]) g dX1_areSideBySide_43 0 rfl rfl rfl rfl ?_
      refine v_goto (tgt := 8) g dX1_areSideBySide_46 (by decide) ?_
      refine v_iload g dX1_areSideBySide_8 0 rfl ?_
      refine v_aload_n g dX1_areSideBySide_10 3 rfl ?_
      refine v_get g dX1_areSideBySide_11 fl_RX1_73 hR rfl ?_
      refine v_icmp_ge (tgt := 49) g dX1_areSideBySide_14 (by decide) (fun h14_2 => ?_) (fun h14_2 => ?_)
      · skip
        refine v_iconst (v := 0) g dX1_areSideBySide_49 (by decide) ?_
        exact v_zret g E dX1_areSideBySide_50 rfl rfl ⟨by first | (simp [sideC, zB, *]; done) | (simp_all [sideC, zB]; done), rfl, rfl⟩
      · skip
        refine v_iload g dX1_areSideBySide_17 0 rfl ?_
        refine v_iconst (v := 4) g dX1_areSideBySide_19 (by decide) ?_
        refine v_icmp_ge (tgt := 49) g dX1_areSideBySide_20 (by decide) (fun h => absurd h (by decide)) (fun _ => ?_)
        refine v_aload_n g dX1_areSideBySide_23 2 rfl ?_
        refine v_get g dX1_areSideBySide_24 fl_RX1_21 hO rfl ?_
        refine v_aload_n g dX1_areSideBySide_27 3 rfl ?_
        refine v_get g dX1_areSideBySide_28 fl_RX1_104 hR rfl ?_
        refine v_iload g dX1_areSideBySide_31 0 rfl ?_
        refine v_iald g dX1_areSideBySide_33 hT (by unfold vp_in; decide) (v_eqi (y := (t 1)) rfl ?_)
        refine v_lload_n g dX1_areSideBySide_34 1 rfl ?_
        refine v_callV (As := [.int (t 1), .long (rowCellsC sz' t')]) (r := some (.int (zB (besC li wi (t 1) (rowCellsC sz' t'))))) g dX1_areSideBySide_35 (k_X0_isBesideOne hL (t 1) (rowCellsC sz' t')) cl_X0_isBesideOne ml_RX1_124 im_X0_isBesideOne hL rfl rfl ⟨rfl, rfl, rfl⟩ ?_
        refine v_if_eq (tgt := 43) g dX1_areSideBySide_38 (by decide) (fun h38_2 => ?_) (fun h38_2 => ?_)
        · skip
          have h38_2 := zB_f0 h38_2
          refine v_iinc (v := 2) (ls' := [(5, .int 2), (3, .long (rowCellsC sz' t')), (0, .ref oo), (1, .ref ro), (2, .ref ro')]) g dX1_areSideBySide_43 0 rfl rfl rfl rfl ?_
          refine v_goto (tgt := 8) g dX1_areSideBySide_46 (by decide) ?_
          refine v_iload g dX1_areSideBySide_8 0 rfl ?_
          refine v_aload_n g dX1_areSideBySide_10 3 rfl ?_
          refine v_get g dX1_areSideBySide_11 fl_RX1_73 hR rfl ?_
          refine v_icmp_ge (tgt := 49) g dX1_areSideBySide_14 (by decide) (fun h14_3 => ?_) (fun h14_3 => ?_)
          · skip
            refine v_iconst (v := 0) g dX1_areSideBySide_49 (by decide) ?_
            exact v_zret g E dX1_areSideBySide_50 rfl rfl ⟨by first | (simp [sideC, zB, *]; done) | (simp_all [sideC, zB]; done), rfl, rfl⟩
          · skip
            refine v_iload g dX1_areSideBySide_17 0 rfl ?_
            refine v_iconst (v := 4) g dX1_areSideBySide_19 (by decide) ?_
            refine v_icmp_ge (tgt := 49) g dX1_areSideBySide_20 (by decide) (fun h => absurd h (by decide)) (fun _ => ?_)
            refine v_aload_n g dX1_areSideBySide_23 2 rfl ?_
            refine v_get g dX1_areSideBySide_24 fl_RX1_21 hO rfl ?_
            refine v_aload_n g dX1_areSideBySide_27 3 rfl ?_
            refine v_get g dX1_areSideBySide_28 fl_RX1_104 hR rfl ?_
            refine v_iload g dX1_areSideBySide_31 0 rfl ?_
            refine v_iald g dX1_areSideBySide_33 hT (by unfold vp_in; decide) (v_eqi (y := (t 2)) rfl ?_)
            refine v_lload_n g dX1_areSideBySide_34 1 rfl ?_
            refine v_callV (As := [.int (t 2), .long (rowCellsC sz' t')]) (r := some (.int (zB (besC li wi (t 2) (rowCellsC sz' t'))))) g dX1_areSideBySide_35 (k_X0_isBesideOne hL (t 2) (rowCellsC sz' t')) cl_X0_isBesideOne ml_RX1_124 im_X0_isBesideOne hL rfl rfl ⟨rfl, rfl, rfl⟩ ?_
            refine v_if_eq (tgt := 43) g dX1_areSideBySide_38 (by decide) (fun h38_3 => ?_) (fun h38_3 => ?_)
            · skip
              have h38_3 := zB_f0 h38_3
              refine v_iinc (v := 3) (ls' := [(5, .int 3), (3, .long (rowCellsC sz' t')), (0, .ref oo), (1, .ref ro), (2, .ref ro')]) g dX1_areSideBySide_43 0 rfl rfl rfl rfl ?_
              refine v_goto (tgt := 8) g dX1_areSideBySide_46 (by decide) ?_
              refine v_iload g dX1_areSideBySide_8 0 rfl ?_
              refine v_aload_n g dX1_areSideBySide_10 3 rfl ?_
              refine v_get g dX1_areSideBySide_11 fl_RX1_73 hR rfl ?_
              refine v_icmp_ge (tgt := 49) g dX1_areSideBySide_14 (by decide) (fun h14_4 => ?_) (fun h14_4 => ?_)
              · skip
                refine v_iconst (v := 0) g dX1_areSideBySide_49 (by decide) ?_
                exact v_zret g E dX1_areSideBySide_50 rfl rfl ⟨by first | (simp [sideC, zB, *]; done) | (simp_all [sideC, zB]; done), rfl, rfl⟩
              · skip
                refine v_iload g dX1_areSideBySide_17 0 rfl ?_
                refine v_iconst (v := 4) g dX1_areSideBySide_19 (by decide) ?_
                refine v_icmp_ge (tgt := 49) g dX1_areSideBySide_20 (by decide) (fun h => absurd h (by decide)) (fun _ => ?_)
                refine v_aload_n g dX1_areSideBySide_23 2 rfl ?_
                refine v_get g dX1_areSideBySide_24 fl_RX1_21 hO rfl ?_
                refine v_aload_n g dX1_areSideBySide_27 3 rfl ?_
                refine v_get g dX1_areSideBySide_28 fl_RX1_104 hR rfl ?_
                refine v_iload g dX1_areSideBySide_31 0 rfl ?_
                refine v_iald g dX1_areSideBySide_33 hT (by unfold vp_in; decide) (v_eqi (y := (t 3)) rfl ?_)
                refine v_lload_n g dX1_areSideBySide_34 1 rfl ?_
                refine v_callV (As := [.int (t 3), .long (rowCellsC sz' t')]) (r := some (.int (zB (besC li wi (t 3) (rowCellsC sz' t'))))) g dX1_areSideBySide_35 (k_X0_isBesideOne hL (t 3) (rowCellsC sz' t')) cl_X0_isBesideOne ml_RX1_124 im_X0_isBesideOne hL rfl rfl ⟨rfl, rfl, rfl⟩ ?_
                refine v_if_eq (tgt := 43) g dX1_areSideBySide_38 (by decide) (fun h38_4 => ?_) (fun h38_4 => ?_)
                · skip
                  have h38_4 := zB_f0 h38_4
                  refine v_iinc (v := 4) (ls' := [(5, .int 4), (3, .long (rowCellsC sz' t')), (0, .ref oo), (1, .ref ro), (2, .ref ro')]) g dX1_areSideBySide_43 0 rfl rfl rfl rfl ?_
                  refine v_goto (tgt := 8) g dX1_areSideBySide_46 (by decide) ?_
                  refine v_iload g dX1_areSideBySide_8 0 rfl ?_
                  refine v_aload_n g dX1_areSideBySide_10 3 rfl ?_
                  refine v_get g dX1_areSideBySide_11 fl_RX1_73 hR rfl ?_
                  refine v_icmp_ge (tgt := 49) g dX1_areSideBySide_14 (by decide) (fun h14_5 => ?_) (fun h14_5 => ?_)
                  · skip
                    refine v_iconst (v := 0) g dX1_areSideBySide_49 (by decide) ?_
                    exact v_zret g E dX1_areSideBySide_50 rfl rfl ⟨by first | (simp [sideC, zB, *]; done) | (simp_all [sideC, zB]; done), rfl, rfl⟩
                  · skip
                    refine v_iload g dX1_areSideBySide_17 0 rfl ?_
                    refine v_iconst (v := 4) g dX1_areSideBySide_19 (by decide) ?_
                    refine v_icmp_ge (tgt := 49) g dX1_areSideBySide_20 (by decide) (fun _ => ?_) (fun h => absurd (by decide) h)
                    refine v_iconst (v := 0) g dX1_areSideBySide_49 (by decide) ?_
                    exact v_zret g E dX1_areSideBySide_50 rfl rfl ⟨by first | (simp [sideC, zB, *]; done) | (simp_all [sideC, zB]; done), rfl, rfl⟩
                · skip
                  have h38_4 := zB_t0 h38_4
                  refine v_iconst (v := 1) g dX1_areSideBySide_41 (by decide) ?_
                  exact v_zret g E dX1_areSideBySide_42 rfl rfl ⟨by first | (simp [sideC, zB, *]; done) | (simp_all [sideC, zB]; done), rfl, rfl⟩
            · skip
              have h38_3 := zB_t0 h38_3
              refine v_iconst (v := 1) g dX1_areSideBySide_41 (by decide) ?_
              exact v_zret g E dX1_areSideBySide_42 rfl rfl ⟨by first | (simp [sideC, zB, *]; done) | (simp_all [sideC, zB]; done), rfl, rfl⟩
        · skip
          have h38_2 := zB_t0 h38_2
          refine v_iconst (v := 1) g dX1_areSideBySide_41 (by decide) ?_
          exact v_zret g E dX1_areSideBySide_42 rfl rfl ⟨by first | (simp [sideC, zB, *]; done) | (simp_all [sideC, zB]; done), rfl, rfl⟩
    · skip
      have h38 := zB_t0 h38
      refine v_iconst (v := 1) g dX1_areSideBySide_41 (by decide) ?_
      exact v_zret g E dX1_areSideBySide_42 rfl rfl ⟨by first | (simp [sideC, zB, *]; done) | (simp_all [sideC, zB]; done), rfl, rfl⟩
end C3r
section C3o
variable {l : Launch} {G : GG} {n : Nat} {B : Nat} {C : CS} {ρ : Mu} {i : Nat}
theorem k_X1_standsIn (hi : i < 13) (rc yr : Int32) (di le ta en : Int64) (ow : Nat → Int32) (rs : Nat → RV) (x : Int32) : Ctr l G 2 43 0 0 mX1_standsIn [.ref (adO B i), .int x] n (ren B (sO C i (rc, yr, di, le, ta, en, ow, rs)) ρ) (some (.int (standInC rc le rs x))) n (ren B (sO C i (rc, yr, di, le, ta, en, ow, rs)) ρ) := by
  refine Ctr.of (by decide +kernel) rfl (fun X g E => ?_)
  refine v_sub (ls' := [(0, .ref (adO B i)), (1, .int x)]) [0, 1] rfl ?_
  refine v_aload_n g dX1_standsIn_0 0 rfl ?_
  refine v_get g dX1_standsIn_1 fl_RX1_37 (fo_O B _ _ _ _ _ _ _ _ _ _ hi) rfl ?_
  refine v_iload_n g dX1_standsIn_4 1 rfl ?_
  refine v_callSN (As := [.long le, .int x]) (r := some (.int (zB (ctn le x)))) g dX1_standsIn_5 (k_X5_contains le x) cl_X5_contains nl_RX1_50 sm_X5_contains rfl ⟨rfl, rfl, rfl⟩ ?_
  refine v_if_eq (tgt := 14) g dX1_standsIn_8 (by decide) (fun h8 => ?_) (fun h8 => ?_)
  · skip
    have h8 := zB_f0 h8
    refine v_iconst (v := 0) g dX1_standsIn_14 (by decide) ?_
    refine v_istore_n (ls' := [(2, .int 0), (0, .ref (adO B i)), (1, .int x)]) g dX1_standsIn_15 rfl rfl ?_
    refine v_iload_n g dX1_standsIn_16 0 rfl ?_
    refine v_aload_n g dX1_standsIn_17 1 rfl ?_
    refine v_get g dX1_standsIn_18 fl_RX1_26 (fo_O B _ _ _ _ _ _ _ _ _ _ hi) rfl ?_
    refine v_icmp_ge (tgt := 53) g dX1_standsIn_21 (by decide) (fun h21 => ?_) (fun h21 => ?_)
    · skip
      refine v_bipush (v := (-4)) g dX1_standsIn_53 (by decide) ?_
      exact v_iret g E dX1_standsIn_55 rfl ⟨by simp [standInC, *], rfl, rfl⟩
    · skip
      refine v_iload_n g dX1_standsIn_24 0 rfl ?_
      refine v_iconst (v := 3) g dX1_standsIn_25 (by decide) ?_
      refine v_icmp_ge (tgt := 53) g dX1_standsIn_26 (by decide) (fun h => absurd h (by decide)) (fun _ => ?_)
      refine v_aload_n g dX1_standsIn_29 1 rfl ?_
      refine v_get g dX1_standsIn_30 fl_RX1_11 (fo_O B _ _ _ _ _ _ _ _ _ _ hi) rfl ?_
      refine v_iload_n g dX1_standsIn_33 0 rfl ?_
      refine v_aaldR (v := .ref (adR B i 0)) g dX1_standsIn_34 (fo_Rs B _ _ _ _ _ _ _ _ _ _ hi) (by unfold vp_in; decide) rfl ?_
      refine v_callV (As := []) (r := some (.long (rowCellsC ((rs 0).1) ((rs 0).2.2.2.2)))) g dX1_standsIn_35 (k_X4_cells (fo_R B _ _ _ _ _ _ _ _ _ _ hi (by decide)) (fo_T B _ _ _ _ _ _ _ _ _ _ hi (by decide))) cl_X4_cells ml_RX1_54 im_X4_cells (fo_R B _ _ _ _ _ _ _ _ _ _ hi (by decide)) rfl rfl ⟨rfl, rfl, rfl⟩ ?_
      refine v_iload_n g dX1_standsIn_38 2 rfl ?_
      refine v_callSN (As := [.long (rowCellsC ((rs 0).1) ((rs 0).2.2.2.2)), .int x]) (r := some (.int (zB (ctn (rowCellsC ((rs 0).1) ((rs 0).2.2.2.2)) x)))) g dX1_standsIn_39 (k_X5_contains (rowCellsC ((rs 0).1) ((rs 0).2.2.2.2)) x) cl_X5_contains nl_RX1_50 sm_X5_contains rfl ⟨rfl, rfl, rfl⟩ ?_
      refine v_if_eq (tgt := 47) g dX1_standsIn_42 (by decide) (fun h42 => ?_) (fun h42 => ?_)
      · skip
        have h42 := zB_f0 h42
        refine v_iinc (v := 1) (ls' := [(2, .int 1), (0, .ref (adO B i)), (1, .int x)]) g dX1_standsIn_47 0 rfl rfl rfl rfl ?_
        refine v_goto (tgt := 16) g dX1_standsIn_50 (by decide) ?_
        refine v_iload_n g dX1_standsIn_16 0 rfl ?_
        refine v_aload_n g dX1_standsIn_17 1 rfl ?_
        refine v_get g dX1_standsIn_18 fl_RX1_26 (fo_O B _ _ _ _ _ _ _ _ _ _ hi) rfl ?_
        refine v_icmp_ge (tgt := 53) g dX1_standsIn_21 (by decide) (fun h21_2 => ?_) (fun h21_2 => ?_)
        · skip
          refine v_bipush (v := (-4)) g dX1_standsIn_53 (by decide) ?_
          exact v_iret g E dX1_standsIn_55 rfl ⟨by simp [standInC, *], rfl, rfl⟩
        · skip
          refine v_iload_n g dX1_standsIn_24 0 rfl ?_
          refine v_iconst (v := 3) g dX1_standsIn_25 (by decide) ?_
          refine v_icmp_ge (tgt := 53) g dX1_standsIn_26 (by decide) (fun h => absurd h (by decide)) (fun _ => ?_)
          refine v_aload_n g dX1_standsIn_29 1 rfl ?_
          refine v_get g dX1_standsIn_30 fl_RX1_11 (fo_O B _ _ _ _ _ _ _ _ _ _ hi) rfl ?_
          refine v_iload_n g dX1_standsIn_33 0 rfl ?_
          refine v_aaldR (v := .ref (adR B i 1)) g dX1_standsIn_34 (fo_Rs B _ _ _ _ _ _ _ _ _ _ hi) (by unfold vp_in; decide) rfl ?_
          refine v_callV (As := []) (r := some (.long (rowCellsC ((rs 1).1) ((rs 1).2.2.2.2)))) g dX1_standsIn_35 (k_X4_cells (fo_R B _ _ _ _ _ _ _ _ _ _ hi (by decide)) (fo_T B _ _ _ _ _ _ _ _ _ _ hi (by decide))) cl_X4_cells ml_RX1_54 im_X4_cells (fo_R B _ _ _ _ _ _ _ _ _ _ hi (by decide)) rfl rfl ⟨rfl, rfl, rfl⟩ ?_
          refine v_iload_n g dX1_standsIn_38 2 rfl ?_
          refine v_callSN (As := [.long (rowCellsC ((rs 1).1) ((rs 1).2.2.2.2)), .int x]) (r := some (.int (zB (ctn (rowCellsC ((rs 1).1) ((rs 1).2.2.2.2)) x)))) g dX1_standsIn_39 (k_X5_contains (rowCellsC ((rs 1).1) ((rs 1).2.2.2.2)) x) cl_X5_contains nl_RX1_50 sm_X5_contains rfl ⟨rfl, rfl, rfl⟩ ?_
          refine v_if_eq (tgt := 47) g dX1_standsIn_42 (by decide) (fun h42_2 => ?_) (fun h42_2 => ?_)
          · skip
            have h42_2 := zB_f0 h42_2
            refine v_iinc (v := 2) (ls' := [(2, .int 2), (0, .ref (adO B i)), (1, .int x)]) g dX1_standsIn_47 0 rfl rfl rfl rfl ?_
            refine v_goto (tgt := 16) g dX1_standsIn_50 (by decide) ?_
            refine v_iload_n g dX1_standsIn_16 0 rfl ?_
            refine v_aload_n g dX1_standsIn_17 1 rfl ?_
            refine v_get g dX1_standsIn_18 fl_RX1_26 (fo_O B _ _ _ _ _ _ _ _ _ _ hi) rfl ?_
            refine v_icmp_ge (tgt := 53) g dX1_standsIn_21 (by decide) (fun h21_3 => ?_) (fun h21_3 => ?_)
            · skip
              refine v_bipush (v := (-4)) g dX1_standsIn_53 (by decide) ?_
              exact v_iret g E dX1_standsIn_55 rfl ⟨by simp [standInC, *], rfl, rfl⟩
            · skip
              refine v_iload_n g dX1_standsIn_24 0 rfl ?_
              refine v_iconst (v := 3) g dX1_standsIn_25 (by decide) ?_
              refine v_icmp_ge (tgt := 53) g dX1_standsIn_26 (by decide) (fun h => absurd h (by decide)) (fun _ => ?_)
              refine v_aload_n g dX1_standsIn_29 1 rfl ?_
              refine v_get g dX1_standsIn_30 fl_RX1_11 (fo_O B _ _ _ _ _ _ _ _ _ _ hi) rfl ?_
              refine v_iload_n g dX1_standsIn_33 0 rfl ?_
              refine v_aaldR (v := .ref (adR B i 2)) g dX1_standsIn_34 (fo_Rs B _ _ _ _ _ _ _ _ _ _ hi) (by unfold vp_in; decide) rfl ?_
              refine v_callV (As := []) (r := some (.long (rowCellsC ((rs 2).1) ((rs 2).2.2.2.2)))) g dX1_standsIn_35 (k_X4_cells (fo_R B _ _ _ _ _ _ _ _ _ _ hi (by decide)) (fo_T B _ _ _ _ _ _ _ _ _ _ hi (by decide))) cl_X4_cells ml_RX1_54 im_X4_cells (fo_R B _ _ _ _ _ _ _ _ _ _ hi (by decide)) rfl rfl ⟨rfl, rfl, rfl⟩ ?_
              refine v_iload_n g dX1_standsIn_38 2 rfl ?_
              refine v_callSN (As := [.long (rowCellsC ((rs 2).1) ((rs 2).2.2.2.2)), .int x]) (r := some (.int (zB (ctn (rowCellsC ((rs 2).1) ((rs 2).2.2.2.2)) x)))) g dX1_standsIn_39 (k_X5_contains (rowCellsC ((rs 2).1) ((rs 2).2.2.2.2)) x) cl_X5_contains nl_RX1_50 sm_X5_contains rfl ⟨rfl, rfl, rfl⟩ ?_
              refine v_if_eq (tgt := 47) g dX1_standsIn_42 (by decide) (fun h42_3 => ?_) (fun h42_3 => ?_)
              · skip
                have h42_3 := zB_f0 h42_3
                refine v_iinc (v := 3) (ls' := [(2, .int 3), (0, .ref (adO B i)), (1, .int x)]) g dX1_standsIn_47 0 rfl rfl rfl rfl ?_
                refine v_goto (tgt := 16) g dX1_standsIn_50 (by decide) ?_
                refine v_iload_n g dX1_standsIn_16 0 rfl ?_
                refine v_aload_n g dX1_standsIn_17 1 rfl ?_
                refine v_get g dX1_standsIn_18 fl_RX1_26 (fo_O B _ _ _ _ _ _ _ _ _ _ hi) rfl ?_
                refine v_icmp_ge (tgt := 53) g dX1_standsIn_21 (by decide) (fun h21_4 => ?_) (fun h21_4 => ?_)
                · skip
                  refine v_bipush (v := (-4)) g dX1_standsIn_53 (by decide) ?_
                  exact v_iret g E dX1_standsIn_55 rfl ⟨by simp [standInC, *], rfl, rfl⟩
                · skip
                  refine v_iload_n g dX1_standsIn_24 0 rfl ?_
                  refine v_iconst (v := 3) g dX1_standsIn_25 (by decide) ?_
                  refine v_icmp_ge (tgt := 53) g dX1_standsIn_26 (by decide) (fun _ => ?_) (fun h => absurd (by decide) h)
                  refine v_bipush (v := (-4)) g dX1_standsIn_53 (by decide) ?_
                  exact v_iret g E dX1_standsIn_55 rfl ⟨by simp [standInC, *], rfl, rfl⟩
              · skip
                have h42_3 := zB_t0 h42_3
                refine v_iload_n g dX1_standsIn_45 0 rfl ?_
                exact v_iret g E dX1_standsIn_46 rfl ⟨by simp [standInC, *], rfl, rfl⟩
          · skip
            have h42_2 := zB_t0 h42_2
            refine v_iload_n g dX1_standsIn_45 0 rfl ?_
            exact v_iret g E dX1_standsIn_46 rfl ⟨by simp [standInC, *], rfl, rfl⟩
      · skip
        have h42 := zB_t0 h42
        refine v_iload_n g dX1_standsIn_45 0 rfl ?_
        exact v_iret g E dX1_standsIn_46 rfl ⟨by simp [standInC, *], rfl, rfl⟩
  · skip
    have h8 := zB_t0 h8
    refine v_bipush (v := 9) g dX1_standsIn_11 (by decide) ?_
    exact v_iret g E dX1_standsIn_13 rfl ⟨by simp [standInC, *], rfl, rfl⟩
theorem k_X1_standsAs (hi : i < 13) (rc yr : Int32) (di le ta en : Int64) (ow : Nat → Int32) (rs : Nat → RV) {j : Nat} (hj : j < 13) (hne : j ≠ i) {rc2 yr2 : Int32} {di2 le2 ta2 en2 : Int64} {ow2 : Nat → Int32} {rs2 : Nat → RV} (h2 : cO C j = (rc2, yr2, di2, le2, ta2, en2, ow2, rs2)) : Ctr l G 1 22 0 0 mX1_standsAs [.ref (adO B i), .ref (adO B j)] n (ren B (sO C i (rc, yr, di, le, ta, en, ow, rs)) ρ) (some (.int (zB (standsAsC (rc, yr, di, le, ta, en, ow, rs) (rc2, yr2, di2, le2, ta2, en2, ow2, rs2))))) n (ren B (sO C i (rc, yr, di, le, ta, en, ow, rs)) ρ) := by
  refine Ctr.of (by decide +kernel) rfl (fun X g E => ?_)
  have loop : ∀ (k r : Nat) (s : Bool), r + k = 3 → saFrom rc yr yr2 rs rs2 3 0 false = saFrom rc yr yr2 rs rs2 k r s → V X 0 0 n (ren B (sO C i (rc, yr, di, le, ta, en, ow, rs)) ρ) 4 [(3, .int (nI r)), (2, .int (zB s)), (0, .ref (adO B i)), (1, .ref (adO B j))] [] := by
    intro k
    induction k with
    | zero =>
      intro r s hrk he
      refine v_iload_n g dX1_standsAs_4 0 rfl ?_
      refine v_aload_n g dX1_standsAs_5 2 rfl ?_
      refine v_get g dX1_standsAs_6 fl_RX1_26 (fo_O B _ _ _ _ _ _ _ _ _ _ hi) rfl ?_
      refine v_icmp_ge (tgt := 66) g dX1_standsAs_9 (by decide) (fun h9 => ?_) (fun h9 => ?_)
      · skip
        refine v_iload_n g dX1_standsAs_66 1 rfl ?_
        refine v_if_eq (tgt := 84) g dX1_standsAs_67 (by decide) (fun h67 => ?_) (fun h67 => ?_)
        · skip
          have h67 := zB_f0 h67
          refine v_iconst (v := 1) g dX1_standsAs_84 (by decide) ?_
          refine v_goto (tgt := 89) g dX1_standsAs_85 (by decide) ?_
          exact v_zret g E dX1_standsAs_89 rfl rfl ⟨by (rw [standsAsC, he]; simp [saFrom, saEnd, zB, *]), rfl, rfl⟩
        · skip
          have h67 := zB_t0 h67
          refine v_aload_n g dX1_standsAs_70 2 rfl ?_
          refine v_get g dX1_standsAs_71 fl_RX1_30 (fo_O B _ _ _ _ _ _ _ _ _ _ hi) rfl ?_
          refine v_aload_n g dX1_standsAs_74 3 rfl ?_
          refine v_get g dX1_standsAs_75 fl_RX1_30 (fo2_O B _ _ hj hne h2 _) rfl ?_
          refine v_isub g dX1_standsAs_78 ?_
          refine v_iconst (v := 2) g dX1_standsAs_79 (by decide) ?_
          refine v_irem g dX1_standsAs_80 (by decide) ?_
          refine v_if_ne (tgt := 88) g dX1_standsAs_81 (by decide) (fun h81 => ?_) (fun h81 => ?_)
          · skip
            refine v_iconst (v := 0) g dX1_standsAs_88 (by decide) ?_
            exact v_zret g E dX1_standsAs_89 rfl rfl ⟨by (rw [standsAsC, he]; simp [saFrom, saEnd, zB, *]), rfl, rfl⟩
          · skip
            refine v_iconst (v := 1) g dX1_standsAs_84 (by decide) ?_
            refine v_goto (tgt := 89) g dX1_standsAs_85 (by decide) ?_
            exact v_zret g E dX1_standsAs_89 rfl rfl ⟨by (rw [standsAsC, he]; simp [saFrom, saEnd, zB, *]), rfl, rfl⟩
      · skip
        refine v_iload_n g dX1_standsAs_12 0 rfl ?_
        refine v_iconst (v := 3) g dX1_standsAs_13 (by decide) ?_
        refine v_icmp_ge (tgt := 66) g dX1_standsAs_14 (by decide) (fun h14 => ?_) (fun h14 => absurd (nI_le (a := 3) (b := r) (by omega) (by omega)) h14)
        refine v_iload_n g dX1_standsAs_66 1 rfl ?_
        refine v_if_eq (tgt := 84) g dX1_standsAs_67 (by decide) (fun h67_2 => ?_) (fun h67_2 => ?_)
        · skip
          have h67_2 := zB_f0 h67_2
          refine v_iconst (v := 1) g dX1_standsAs_84 (by decide) ?_
          refine v_goto (tgt := 89) g dX1_standsAs_85 (by decide) ?_
          exact v_zret g E dX1_standsAs_89 rfl rfl ⟨by (rw [standsAsC, he]; simp [saFrom, saEnd, zB, *]), rfl, rfl⟩
        · skip
          have h67_2 := zB_t0 h67_2
          refine v_aload_n g dX1_standsAs_70 2 rfl ?_
          refine v_get g dX1_standsAs_71 fl_RX1_30 (fo_O B _ _ _ _ _ _ _ _ _ _ hi) rfl ?_
          refine v_aload_n g dX1_standsAs_74 3 rfl ?_
          refine v_get g dX1_standsAs_75 fl_RX1_30 (fo2_O B _ _ hj hne h2 _) rfl ?_
          refine v_isub g dX1_standsAs_78 ?_
          refine v_iconst (v := 2) g dX1_standsAs_79 (by decide) ?_
          refine v_irem g dX1_standsAs_80 (by decide) ?_
          refine v_if_ne (tgt := 88) g dX1_standsAs_81 (by decide) (fun h81_2 => ?_) (fun h81_2 => ?_)
          · skip
            refine v_iconst (v := 0) g dX1_standsAs_88 (by decide) ?_
            exact v_zret g E dX1_standsAs_89 rfl rfl ⟨by (rw [standsAsC, he]; simp [saFrom, saEnd, zB, *]), rfl, rfl⟩
          · skip
            refine v_iconst (v := 1) g dX1_standsAs_84 (by decide) ?_
            refine v_goto (tgt := 89) g dX1_standsAs_85 (by decide) ?_
            exact v_zret g E dX1_standsAs_89 rfl rfl ⟨by (rw [standsAsC, he]; simp [saFrom, saEnd, zB, *]), rfl, rfl⟩
    | succ k ih =>
      intro r s hrk he
      refine v_iload_n g dX1_standsAs_4 0 rfl ?_
      refine v_aload_n g dX1_standsAs_5 2 rfl ?_
      refine v_get g dX1_standsAs_6 fl_RX1_26 (fo_O B _ _ _ _ _ _ _ _ _ _ hi) rfl ?_
      refine v_icmp_ge (tgt := 66) g dX1_standsAs_9 (by decide) (fun h9 => ?_) (fun h9 => ?_)
      · skip
        refine v_iload_n g dX1_standsAs_66 1 rfl ?_
        refine v_if_eq (tgt := 84) g dX1_standsAs_67 (by decide) (fun h67 => ?_) (fun h67 => ?_)
        · skip
          have h67 := zB_f0 h67
          refine v_iconst (v := 1) g dX1_standsAs_84 (by decide) ?_
          refine v_goto (tgt := 89) g dX1_standsAs_85 (by decide) ?_
          exact v_zret g E dX1_standsAs_89 rfl rfl ⟨by (rw [standsAsC, he]; simp [saFrom, saEnd, zB, *]), rfl, rfl⟩
        · skip
          have h67 := zB_t0 h67
          refine v_aload_n g dX1_standsAs_70 2 rfl ?_
          refine v_get g dX1_standsAs_71 fl_RX1_30 (fo_O B _ _ _ _ _ _ _ _ _ _ hi) rfl ?_
          refine v_aload_n g dX1_standsAs_74 3 rfl ?_
          refine v_get g dX1_standsAs_75 fl_RX1_30 (fo2_O B _ _ hj hne h2 _) rfl ?_
          refine v_isub g dX1_standsAs_78 ?_
          refine v_iconst (v := 2) g dX1_standsAs_79 (by decide) ?_
          refine v_irem g dX1_standsAs_80 (by decide) ?_
          refine v_if_ne (tgt := 88) g dX1_standsAs_81 (by decide) (fun h81 => ?_) (fun h81 => ?_)
          · skip
            refine v_iconst (v := 0) g dX1_standsAs_88 (by decide) ?_
            exact v_zret g E dX1_standsAs_89 rfl rfl ⟨by (rw [standsAsC, he]; simp [saFrom, saEnd, zB, *]), rfl, rfl⟩
          · skip
            refine v_iconst (v := 1) g dX1_standsAs_84 (by decide) ?_
            refine v_goto (tgt := 89) g dX1_standsAs_85 (by decide) ?_
            exact v_zret g E dX1_standsAs_89 rfl rfl ⟨by (rw [standsAsC, he]; simp [saFrom, saEnd, zB, *]), rfl, rfl⟩
      · skip
        refine v_iload_n g dX1_standsAs_12 0 rfl ?_
        refine v_iconst (v := 3) g dX1_standsAs_13 (by decide) ?_
        refine v_icmp_ge (tgt := 66) g dX1_standsAs_14 (by decide) (fun h14 => absurd h14 (nI_ge (a := r) (b := 3) (by omega) (by decide))) (fun h14 => ?_)
        refine v_aload_n g dX1_standsAs_17 2 rfl ?_
        refine v_get g dX1_standsAs_18 fl_RX1_11 (fo_O B _ _ _ _ _ _ _ _ _ _ hi) rfl ?_
        refine v_iload_n g dX1_standsAs_21 0 rfl ?_
        refine v_aaldR (v := .ref (adR B i r)) g dX1_standsAs_22 (fo_Rs B _ _ _ _ _ _ _ _ _ _ hi) (vp_in_nI (by omega) (by decide)) (by rw [nI_clamp (by omega)]; rfl) ?_
        refine v_aload_n g dX1_standsAs_23 3 rfl ?_
        refine v_get g dX1_standsAs_24 fl_RX1_11 (fo2_O B _ _ hj hne h2 _) rfl ?_
        refine v_iload_n g dX1_standsAs_27 0 rfl ?_
        refine v_aaldR (v := .ref (adR B j r)) g dX1_standsAs_28 (fo2_Rs B _ _ hj _) (vp_in_nI (by omega) (by decide)) (by rw [nI_clamp (by omega)]; rfl) ?_
        refine v_callV (As := [.ref (adR B j r)]) (r := some (.int (zB (asRow (rs r) (rs2 r))))) g dX1_standsAs_29 (k_X4_standsAs (fo_R B _ _ _ _ _ _ _ _ _ _ hi (by omega)) (fo_T B _ _ _ _ _ _ _ _ _ _ hi (by omega)) (fo2_R B _ _ hj (by omega) hne h2 _) (fo2_T B _ _ hj (by omega) hne h2 _)) cl_X4_standsAs ml_RX1_131 im_X4_standsAs (fo_R B _ _ _ _ _ _ _ _ _ _ hi (by omega)) rfl rfl ⟨rfl, rfl, rfl⟩ ?_
        refine v_if_ne (tgt := 37) g dX1_standsAs_32 (by decide) (fun h32 => ?_) (fun h32 => ?_)
        · skip
          have h32 := zB_t0 h32
          refine v_iload_n g dX1_standsAs_37 1 rfl ?_
          refine v_if_ne (tgt := 54) g dX1_standsAs_38 (by decide) (fun h38 => ?_) (fun h38 => ?_)
          · skip
            have h38 := zB_t0 h38
            refine v_iconst (v := 1) g dX1_standsAs_54 (by decide) ?_
            refine v_goto (tgt := 59) g dX1_standsAs_55 (by decide) ?_
            refine v_istore_n (ls' := [(2, .int 1), (3, .int (nI r)), (0, .ref (adO B i)), (1, .ref (adO B j))]) g dX1_standsAs_59 rfl rfl ?_
            refine v_iinc (v := nI (r + 1)) (ls' := [(3, .int (nI (r + 1))), (2, .int 1), (0, .ref (adO B i)), (1, .ref (adO B j))]) g dX1_standsAs_60 1 rfl (nI_1 r) rfl rfl ?_
            refine v_goto (tgt := 4) g dX1_standsAs_63 (by decide) ?_
            refine v_sub (ls' := [(3, .int (nI (r + 1))), (2, .int (zB true)), (0, .ref (adO B i)), (1, .ref (adO B j))]) [0, 1, 2, 3] rfl ?_
            exact ih (r + 1) true (by omega) (by rw [he, saFrom, if_neg h9]; simp [*])
          · skip
            have h38 := zB_f0 h38
            refine v_aload_n g dX1_standsAs_41 2 rfl ?_
            refine v_get g dX1_standsAs_42 fl_RX1_11 (fo_O B _ _ _ _ _ _ _ _ _ _ hi) rfl ?_
            refine v_iload_n g dX1_standsAs_45 0 rfl ?_
            refine v_aaldR (v := .ref (adR B i r)) g dX1_standsAs_46 (fo_Rs B _ _ _ _ _ _ _ _ _ _ hi) (vp_in_nI (by omega) (by decide)) (by rw [nI_clamp (by omega)]; rfl) ?_
            refine v_get g dX1_standsAs_47 fl_RX1_80 (fo_R B _ _ _ _ _ _ _ _ _ _ hi (by omega)) rfl ?_
            refine v_iconst (v := 2) g dX1_standsAs_50 (by decide) ?_
            refine v_icmp_ne (tgt := 58) g dX1_standsAs_51 (by decide) (fun h51 => ?_) (fun h51 => ?_)
            · skip
              refine v_iconst (v := 0) g dX1_standsAs_58 (by decide) ?_
              refine v_istore_n (ls' := [(2, .int 0), (3, .int (nI r)), (0, .ref (adO B i)), (1, .ref (adO B j))]) g dX1_standsAs_59 rfl rfl ?_
              refine v_iinc (v := nI (r + 1)) (ls' := [(3, .int (nI (r + 1))), (2, .int 0), (0, .ref (adO B i)), (1, .ref (adO B j))]) g dX1_standsAs_60 1 rfl (nI_1 r) rfl rfl ?_
              refine v_goto (tgt := 4) g dX1_standsAs_63 (by decide) ?_
              refine v_sub (ls' := [(3, .int (nI (r + 1))), (2, .int (zB false)), (0, .ref (adO B i)), (1, .ref (adO B j))]) [0, 1, 2, 3] rfl ?_
              exact ih (r + 1) false (by omega) (by rw [he, saFrom, if_neg h9]; simp [*])
            · skip
              refine v_iconst (v := 1) g dX1_standsAs_54 (by decide) ?_
              refine v_goto (tgt := 59) g dX1_standsAs_55 (by decide) ?_
              refine v_istore_n (ls' := [(2, .int 1), (3, .int (nI r)), (0, .ref (adO B i)), (1, .ref (adO B j))]) g dX1_standsAs_59 rfl rfl ?_
              refine v_iinc (v := nI (r + 1)) (ls' := [(3, .int (nI (r + 1))), (2, .int 1), (0, .ref (adO B i)), (1, .ref (adO B j))]) g dX1_standsAs_60 1 rfl (nI_1 r) rfl rfl ?_
              refine v_goto (tgt := 4) g dX1_standsAs_63 (by decide) ?_
              refine v_sub (ls' := [(3, .int (nI (r + 1))), (2, .int (zB true)), (0, .ref (adO B i)), (1, .ref (adO B j))]) [0, 1, 2, 3] rfl ?_
              exact ih (r + 1) true (by omega) (by rw [he, saFrom, if_neg h9]; simp [*])
        · skip
          have h32 := zB_f0 h32
          refine v_iconst (v := 0) g dX1_standsAs_35 (by decide) ?_
          exact v_zret g E dX1_standsAs_36 rfl rfl ⟨by (rw [standsAsC, he]; simp [saFrom, saEnd, zB, *]), rfl, rfl⟩
  refine v_sub (ls' := [(0, .ref (adO B i)), (1, .ref (adO B j))]) [0, 1] rfl ?_
  refine v_iconst (v := 0) g dX1_standsAs_0 (by decide) ?_
  refine v_istore_n (ls' := [(2, .int 0), (0, .ref (adO B i)), (1, .ref (adO B j))]) g dX1_standsAs_1 rfl rfl ?_
  refine v_iconst (v := 0) g dX1_standsAs_2 (by decide) ?_
  refine v_istore_n (ls' := [(3, .int 0), (2, .int 0), (0, .ref (adO B i)), (1, .ref (adO B j))]) g dX1_standsAs_3 rfl rfl ?_
  refine v_sub (ls' := [(3, .int 0), (2, .int 0), (0, .ref (adO B i)), (1, .ref (adO B j))]) [0, 1, 2, 3] rfl ?_
  exact loop 3 0 false rfl rfl
end C3o
