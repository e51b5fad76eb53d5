/-! CLASS, ORCHARDS: what a row's going, a year, years make of an orchard -/
section FO2
variable (B : Nat) (C : CS) (ρ : Mu) {i : Nat} (rc yr : Int32) (di le ta en : Int64) (ow : Nat → Int32) (rs : Nat → RV)
theorem fo_L2 (hi : i < 13) {F H Br : Int64} {li wi : Int32} {lo : Nat → Int32} (hL : cL C (landOf i) = (F, H, Br, li, wi, lo)) : ren B (sO C i (rc, yr, di, le, ta, en, ow, rs)) ρ (adL B (landOf i)) = some (landCe (adLo B (landOf i)) F H Br li wi) := by
  rw [fo_L B C ρ rc yr di le ta en ow rs hi, hL]
theorem fo_Lo2 (hi : i < 13) {F H Br : Int64} {li wi : Int32} {lo : Nat → Int32} (hL : cL C (landOf i) = (F, H, Br, li, wi, lo)) : ren B (sO C i (rc, yr, di, le, ta, en, ow, rs)) ρ (adLo B (landOf i)) = some (iA 36 lo) := by
  rw [fo_Lo B C ρ rc yr di le ta en ow rs hi, hL]
end FO2
def giveC (lo ow : Nat → Int32) (x m : Int32) : Nat → Int32 := if ownerC lo x < 0 then ow else if 4 ≤ ownerC lo x then ow else upd ow (ownerC lo x).toNatClampNeg (ow (ownerC lo x).toNatClampNeg + m)
def sh4 (t : Nat → Int32) (x : Int32) : Nat → Int32 := upd (upd (upd (upd t 3 (t 2)) 2 (t 1)) 1 (t 0)) 0 x
def takenC (ta : Int64) (sz : Int32) (t : Nat → Int32) (x : Int32) : Int64 := (ta &&& (bitC (treeAtC sz t (sz - 1)) ^^^ (-1))) ||| bitC x
def goRowF (F Hd Br : Int64) (li wi : Int32) (lo : Nat → Int32) (rc yr : Int32) (di le ta en : Int64) (ow : Nat → Int32) (rs : Nat → RV) (r : Nat) (sz kd hd be : Int32) (t : Nat → Int32) : OV :=
  if wayC F Hd Br li wi di ta yr kd hd (t 0) = -4 then (rc, yr, di, le, ta, en, ow, va_up rs r (sz, kd, hd, be, t))
  else (rc, yr, di, le, takenC ta sz t (nextC li wi (t 0) (wayC F Hd Br li wi di ta yr kd hd (t 0))), (en ||| bitC (nextC li wi (t 0) (wayC F Hd Br li wi di ta yr kd hd (t 0)))),
    if ctn Hd (nextC li wi (t 0) (wayC F Hd Br li wi di ta yr kd hd (t 0))) = true then giveC lo ow (nextC li wi (t 0) (wayC F Hd Br li wi di ta yr kd hd (t 0))) 1 else ow,
    va_up rs r (sz, kd, wayC F Hd Br li wi di ta yr kd hd (t 0), be, sh4 t (nextC li wi (t 0) (wayC F Hd Br li wi di ta yr kd hd (t 0)))))
section C2
variable {l : Launch} {G : GG} {n : Nat} {B : Nat} {C : CS} {ρ : Mu} {i : Nat}
theorem k_X1_give (hi : i < 13) {F Hd Br : Int64} {li wi : Int32} {lo : Nat → Int32} (hL : cL C (landOf i) = (F, Hd, Br, li, wi, lo)) (rc yr : Int32) (di le ta en : Int64) (ow : Nat → Int32) (rs : Nat → RV) (x m : Int32) : Ctr l G 1 21 0 0 mX1_give [.ref (adO B i), .int x, .int m] n (ren B (sO C i (rc, yr, di, le, ta, en, ow, rs)) ρ) (none) n (ren B (sO C i (rc, yr, di, le, ta, en, giveC lo ow x m, rs)) ρ) := by
  refine Ctr.of (by decide +kernel) rfl (fun X g E => ?_)
  refine v_sub (ls' := [(0, .ref (adO B i)), (1, .int x), (2, .int m)]) [0, 1, 2] rfl ?_
  refine v_aload_n g dX1_give_0 0 rfl ?_
  refine v_get g dX1_give_1 fl_RX1_21 (fo_O B _ _ _ _ _ _ _ _ _ _ hi) rfl ?_
  refine v_iload_n g dX1_give_4 1 rfl ?_
  refine v_callV (As := [.int x]) (r := some (.int (ownerC lo x))) g dX1_give_5 (k_X0_ownerOf (fo_L2 B _ _ _ _ _ _ _ _ _ _ hi hL) (fo_Lo2 B _ _ _ _ _ _ _ _ _ _ hi hL) x) cl_X0_ownerOf ml_RX1_128 im_X0_ownerOf (fo_L2 B _ _ _ _ _ _ _ _ _ _ hi hL) rfl rfl ⟨rfl, rfl, rfl⟩ ?_
  refine v_istore_n (ls' := [(3, .int (ownerC lo x)), (0, .ref (adO B i)), (1, .int x), (2, .int m)]) g dX1_give_8 rfl rfl ?_
  refine v_iload_n g dX1_give_9 0 rfl ?_
  refine v_if_lt (tgt := 28) g dX1_give_10 (by decide) (fun h10 => ?_) (fun h10 => ?_)
  · skip
    exact v_vret g E dX1_give_28 rfl ⟨rfl, rfl, by simp only [giveC, if_pos, if_neg, *, ↓reduceIte]⟩
  · skip
    refine v_iload_n g dX1_give_13 0 rfl ?_
    refine v_iconst (v := 4) g dX1_give_14 (by decide) ?_
    refine v_icmp_ge (tgt := 28) g dX1_give_15 (by decide) (fun h15 => ?_) (fun h15 => ?_)
    · skip
      exact v_vret g E dX1_give_28 rfl ⟨rfl, rfl, by simp only [giveC, if_pos, if_neg, *, ↓reduceIte]⟩
    · skip
      refine v_aload_n g dX1_give_18 1 rfl ?_
      refine v_get g dX1_give_19 fl_RX1_17 (fo_O B _ _ _ _ _ _ _ _ _ _ hi) rfl ?_
      refine v_iload_n g dX1_give_22 0 rfl ?_
      refine v_dup2 g dX1_give_23 rfl rfl ?_
      refine v_iald g dX1_give_24 (fo_Ow B _ _ _ _ _ _ _ _ _ _ hi) (vin_c (m := 4) rfl h10 h15) ?_
      refine v_iload_n g dX1_give_25 3 rfl ?_
      refine v_iadd g dX1_give_26 ?_
      refine v_iast g dX1_give_27 (fo_Ow B _ _ _ _ _ _ _ _ _ _ hi) (vin_c (m := 4) rfl h10 h15) ?_
      refine v_meq (st_Ow B _ _ _ _ _ _ _ _ _ _ hi (upd ow (ownerC lo x).toNatClampNeg ((ow (ownerC lo x).toNatClampNeg) + m))) ?_
      exact v_vret g E dX1_give_28 rfl ⟨rfl, rfl, by simp only [giveC, if_pos, if_neg, *, ↓reduceIte]⟩
theorem k_X1_goRow (hi : i < 13) {F Hd Br : Int64} {li wi : Int32} {lo : Nat → Int32} (hL : cL C (landOf i) = (F, Hd, Br, li, wi, lo)) (rc yr : Int32) (di le ta en : Int64) (ow : Nat → Int32) (rs : Nat → RV) {r : Nat} (hr : r < 3) (sz kd hd be : Int32) (t : Nat → Int32) : Ctr l G 2 52 0 0 mX1_goRow [.ref (adO B i), .ref (adR B i r)] n (ren B (sO C i (rc, yr, di, le, ta, en, ow, va_up rs r (sz, kd, hd, be, t))) ρ) (none) n (ren B (sO C i (goRowF F Hd Br li wi lo rc yr di le ta en ow rs r sz kd hd be t)) ρ) := by
  refine Ctr.of (by decide +kernel) rfl (fun X g E => ?_)
  refine v_sub (ls' := [(0, .ref (adO B i)), (1, .ref (adR B i r))]) [0, 1] rfl ?_
  refine v_aload_n g dX1_goRow_0 0 rfl ?_
  refine v_aload_n g dX1_goRow_1 1 rfl ?_
  refine v_callV (As := [.ref (adR B i r)]) (r := some (.int (wayC F Hd Br li wi di ta yr kd hd (t 0)))) g dX1_goRow_2 (k_X1_wayOf (fo_O B _ _ _ _ _ _ _ _ _ _ hi) (fo_L2 B _ _ _ _ _ _ _ _ _ _ hi hL) (fo_Rf B _ _ _ _ _ _ _ _ _ _ hi hr _ _ _ _ _) (fo_Tf B _ _ _ _ _ _ _ _ _ _ hi hr _ _ _ _ _)) cl_X1_wayOf ml_RX1_100 im_X1_wayOf (fo_O B _ _ _ _ _ _ _ _ _ _ hi) rfl rfl ⟨rfl, rfl, rfl⟩ ?_
  refine v_istore_n (ls' := [(2, .int (wayC F Hd Br li wi di ta yr kd hd (t 0))), (0, .ref (adO B i)), (1, .ref (adR B i r))]) g dX1_goRow_5 rfl rfl ?_
  refine v_iload_n g dX1_goRow_6 0 rfl ?_
  refine v_bipush (v := (-4)) g dX1_goRow_7 (by decide) ?_
  refine v_icmp_ne (tgt := 13) g dX1_goRow_9 (by decide) (fun h9 => ?_) (fun h9 => ?_)
  · skip
    refine v_aload_n g dX1_goRow_13 1 rfl ?_
    refine v_get g dX1_goRow_14 fl_RX1_21 (fo_O B _ _ _ _ _ _ _ _ _ _ hi) rfl ?_
    refine v_aload_n g dX1_goRow_17 2 rfl ?_
    refine v_callV (As := []) (r := some (.int (t 0))) g dX1_goRow_18 (k_X4_first (fo_Rf B _ _ _ _ _ _ _ _ _ _ hi hr _ _ _ _ _) (fo_Tf B _ _ _ _ _ _ _ _ _ _ hi hr _ _ _ _ _)) cl_X4_first ml_RX1_92 im_X4_first (fo_Rf B _ _ _ _ _ _ _ _ _ _ hi hr _ _ _ _ _) rfl rfl ⟨rfl, rfl, rfl⟩ ?_
    refine v_iload_n g dX1_goRow_21 0 rfl ?_
    refine v_callV (As := [.int (t 0), .int (wayC F Hd Br li wi di ta yr kd hd (t 0))]) (r := some (.int (nextC li wi (t 0) (wayC F Hd Br li wi di ta yr kd hd (t 0))))) g dX1_goRow_22 (k_X0_nextBy (fo_L2 B _ _ _ _ _ _ _ _ _ _ hi hL) (t 0) (wayC F Hd Br li wi di ta yr kd hd (t 0))) cl_X0_nextBy ml_RX1_96 im_X0_nextBy (fo_L2 B _ _ _ _ _ _ _ _ _ _ hi hL) rfl rfl ⟨rfl, rfl, rfl⟩ ?_
    refine v_istore_n (ls' := [(3, .int (nextC li wi (t 0) (wayC F Hd Br li wi di ta yr kd hd (t 0)))), (2, .int (wayC F Hd Br li wi di ta yr kd hd (t 0))), (0, .ref (adO B i)), (1, .ref (adR B i r))]) g dX1_goRow_25 rfl rfl ?_
    refine v_aload_n g dX1_goRow_26 2 rfl ?_
    refine v_dup g dX1_goRow_27 rfl ?_
    refine v_get g dX1_goRow_28 fl_RX1_40 (fo_O B _ _ _ _ _ _ _ _ _ _ hi) rfl ?_
    refine v_aload_n g dX1_goRow_31 3 rfl ?_
    refine v_aload_n g dX1_goRow_32 3 rfl ?_
    refine v_get g dX1_goRow_33 fl_RX1_73 (fo_Rf B _ _ _ _ _ _ _ _ _ _ hi hr _ _ _ _ _) rfl ?_
    refine v_iconst (v := 1) g dX1_goRow_36 (by decide) ?_
    refine v_isub g dX1_goRow_37 ?_
    refine v_callV (As := [.int (sz - 1)]) (r := some (.int (treeAtC sz t (sz - 1)))) g dX1_goRow_38 (k_X4_treeAt (fo_Rf B _ _ _ _ _ _ _ _ _ _ hi hr _ _ _ _ _) (fo_Tf B _ _ _ _ _ _ _ _ _ _ hi hr _ _ _ _ _) (sz - 1)) cl_X4_treeAt ml_RX1_76 im_X4_treeAt (fo_Rf B _ _ _ _ _ _ _ _ _ _ hi hr _ _ _ _ _) rfl rfl ⟨rfl, rfl, rfl⟩ ?_
    refine v_callSN (As := [.int (treeAtC sz t (sz - 1))]) (r := some (.long (bitC (treeAtC sz t (sz - 1))))) g dX1_goRow_41 (k_X5_bit (treeAtC sz t (sz - 1))) cl_X5_bit nl_RX1_69 sm_X5_bit rfl ⟨rfl, rfl, rfl⟩ ?_
    refine v_ldc2 (v := (-1)) g dX1_goRow_44 kl_RX1_63 ?_
    refine v_lxor g dX1_goRow_47 ?_
    refine v_land g dX1_goRow_48 ?_
    refine v_put g dX1_goRow_49 fl_RX1_40 (fo_O B _ _ _ _ _ _ _ _ _ _ hi) ⟨rfl, rfl⟩ rfl ?_
    refine v_meq (st_O B _ _ _ _ _ _ _ _ _ _ hi rc yr di le (ta &&& (bitC (treeAtC sz t (sz - 1)) ^^^ (-1))) en) ?_
    refine v_aload_n g dX1_goRow_52 2 rfl ?_
    refine v_dup g dX1_goRow_53 rfl ?_
    refine v_get g dX1_goRow_54 fl_RX1_40 (fo_O B _ _ _ _ _ _ _ _ _ _ hi) rfl ?_
    refine v_iload_n g dX1_goRow_57 0 rfl ?_
    refine v_callSN (As := [.int (nextC li wi (t 0) (wayC F Hd Br li wi di ta yr kd hd (t 0)))]) (r := some (.long (bitC (nextC li wi (t 0) (wayC F Hd Br li wi di ta yr kd hd (t 0)))))) g dX1_goRow_58 (k_X5_bit (nextC li wi (t 0) (wayC F Hd Br li wi di ta yr kd hd (t 0)))) cl_X5_bit nl_RX1_69 sm_X5_bit rfl ⟨rfl, rfl, rfl⟩ ?_
    refine v_lor g dX1_goRow_61 ?_
    refine v_put g dX1_goRow_62 fl_RX1_40 (fo_O B _ _ _ _ _ _ _ _ _ _ hi) ⟨rfl, rfl⟩ rfl ?_
    refine v_meq (st_O B _ _ _ _ _ _ _ _ _ _ hi rc yr di le ((ta &&& (bitC (treeAtC sz t (sz - 1)) ^^^ (-1))) ||| bitC (nextC li wi (t 0) (wayC F Hd Br li wi di ta yr kd hd (t 0)))) en) ?_
    refine v_aload_n g dX1_goRow_65 2 rfl ?_
    refine v_dup g dX1_goRow_66 rfl ?_
    refine v_get g dX1_goRow_67 fl_RX1_43 (fo_O B _ _ _ _ _ _ _ _ _ _ hi) rfl ?_
    refine v_iload_n g dX1_goRow_70 0 rfl ?_
    refine v_callSN (As := [.int (nextC li wi (t 0) (wayC F Hd Br li wi di ta yr kd hd (t 0)))]) (r := some (.long (bitC (nextC li wi (t 0) (wayC F Hd Br li wi di ta yr kd hd (t 0)))))) g dX1_goRow_71 (k_X5_bit (nextC li wi (t 0) (wayC F Hd Br li wi di ta yr kd hd (t 0)))) cl_X5_bit nl_RX1_69 sm_X5_bit rfl ⟨rfl, rfl, rfl⟩ ?_
    refine v_lor g dX1_goRow_74 ?_
    refine v_put g dX1_goRow_75 fl_RX1_43 (fo_O B _ _ _ _ _ _ _ _ _ _ hi) ⟨rfl, rfl⟩ rfl ?_
    refine v_meq (st_O B _ _ _ _ _ _ _ _ _ _ hi rc yr di le ((ta &&& (bitC (treeAtC sz t (sz - 1)) ^^^ (-1))) ||| bitC (nextC li wi (t 0) (wayC F Hd Br li wi di ta yr kd hd (t 0)))) (en ||| bitC (nextC li wi (t 0) (wayC F Hd Br li wi di ta yr kd hd (t 0))))) ?_
    refine v_aload_n g dX1_goRow_78 3 rfl ?_
    refine v_iload_n g dX1_goRow_79 1 rfl ?_
    refine v_put g dX1_goRow_80 fl_RX1_89 (fo_Rf B _ _ _ _ _ _ _ _ _ _ hi hr _ _ _ _ _) ⟨rfl, rfl⟩ rfl ?_
    refine v_meq (st_Rf B _ _ _ _ _ _ _ _ _ _ hi hr _ _ _ _ sz kd (wayC F Hd Br li wi di ta yr kd hd (t 0)) be _) ?_
    refine v_iconst (v := 3) g dX1_goRow_83 (by decide) ?_
    refine v_istore (ls' := [(4, .int 3), (3, .int (nextC li wi (t 0) (wayC F Hd Br li wi di ta yr kd hd (t 0)))), (2, .int (wayC F Hd Br li wi di ta yr kd hd (t 0))), (0, .ref (adO B i)), (1, .ref (adR B i r))]) g dX1_goRow_84 rfl rfl ?_
    refine v_iload g dX1_goRow_86 0 rfl ?_
    refine v_if_le (tgt := 113) g dX1_goRow_88 (by decide) (fun h => absurd h (by decide)) (fun _ => ?_)
    refine v_aload_n g dX1_goRow_91 4 rfl ?_
    refine v_get g dX1_goRow_92 fl_RX1_104 (fo_Rf B _ _ _ _ _ _ _ _ _ _ hi hr _ _ _ _ _) rfl ?_
    refine v_iload g dX1_goRow_95 0 rfl ?_
    refine v_aload_n g dX1_goRow_97 4 rfl ?_
    refine v_get g dX1_goRow_98 fl_RX1_104 (fo_Rf B _ _ _ _ _ _ _ _ _ _ hi hr _ _ _ _ _) rfl ?_
    refine v_iload g dX1_goRow_101 0 rfl ?_
    refine v_iconst (v := 1) g dX1_goRow_103 (by decide) ?_
    refine v_isub g dX1_goRow_104 (v_eqi (y := 2) (by decide) ?_)
    refine v_iald g dX1_goRow_105 (fo_Tf B _ _ _ _ _ _ _ _ _ _ hi hr _ _ _ _ _) (by unfold vp_in; decide) (v_eqi (y := (t 2)) rfl ?_)
    refine v_iast g dX1_goRow_106 (fo_Tf B _ _ _ _ _ _ _ _ _ _ hi hr _ _ _ _ _) (by unfold vp_in; decide) ?_
    refine v_meq (st_Tf B _ _ _ _ _ _ _ _ _ _ hi hr _ _ _ _ _ (upd t 3 (t 2))) ?_
    refine v_iinc (v := 2) (ls' := [(4, .int 2), (3, .int (nextC li wi (t 0) (wayC F Hd Br li wi di ta yr kd hd (t 0)))), (2, .int (wayC F Hd Br li wi di ta yr kd hd (t 0))), (0, .ref (adO B i)), (1, .ref (adR B i r))]) g dX1_goRow_107 0 rfl rfl rfl rfl ?_
    refine v_goto (tgt := 86) g dX1_goRow_110 (by decide) ?_
    refine v_iload g dX1_goRow_86 0 rfl ?_
    refine v_if_le (tgt := 113) g dX1_goRow_88 (by decide) (fun h => absurd h (by decide)) (fun _ => ?_)
    refine v_aload_n g dX1_goRow_91 4 rfl ?_
    refine v_get g dX1_goRow_92 fl_RX1_104 (fo_Rf B _ _ _ _ _ _ _ _ _ _ hi hr _ _ _ _ _) rfl ?_
    refine v_iload g dX1_goRow_95 0 rfl ?_
    refine v_aload_n g dX1_goRow_97 4 rfl ?_
    refine v_get g dX1_goRow_98 fl_RX1_104 (fo_Rf B _ _ _ _ _ _ _ _ _ _ hi hr _ _ _ _ _) rfl ?_
    refine v_iload g dX1_goRow_101 0 rfl ?_
    refine v_iconst (v := 1) g dX1_goRow_103 (by decide) ?_
    refine v_isub g dX1_goRow_104 (v_eqi (y := 1) (by decide) ?_)
    refine v_iald g dX1_goRow_105 (fo_Tf B _ _ _ _ _ _ _ _ _ _ hi hr _ _ _ _ _) (by unfold vp_in; decide) (v_eqi (y := (t 1)) rfl ?_)
    refine v_iast g dX1_goRow_106 (fo_Tf B _ _ _ _ _ _ _ _ _ _ hi hr _ _ _ _ _) (by unfold vp_in; decide) ?_
    refine v_meq (st_Tf B _ _ _ _ _ _ _ _ _ _ hi hr _ _ _ _ _ (upd (upd t 3 (t 2)) 2 (t 1))) ?_
    refine v_iinc (v := 1) (ls' := [(4, .int 1), (3, .int (nextC li wi (t 0) (wayC F Hd Br li wi di ta yr kd hd (t 0)))), (2, .int (wayC F Hd Br li wi di ta yr kd hd (t 0))), (0, .ref (adO B i)), (1, .ref (adR B i r))]) g dX1_goRow_107 0 rfl rfl rfl rfl ?_
    refine v_goto (tgt := 86) g dX1_goRow_110 (by decide) ?_
    refine v_iload g dX1_goRow_86 0 rfl ?_
    refine v_if_le (tgt := 113) g dX1_goRow_88 (by decide) (fun h => absurd h (by decide)) (fun _ => ?_)
    refine v_aload_n g dX1_goRow_91 4 rfl ?_
    refine v_get g dX1_goRow_92 fl_RX1_104 (fo_Rf B _ _ _ _ _ _ _ _ _ _ hi hr _ _ _ _ _) rfl ?_
    refine v_iload g dX1_goRow_95 0 rfl ?_
    refine v_aload_n g dX1_goRow_97 4 rfl ?_
    refine v_get g dX1_goRow_98 fl_RX1_104 (fo_Rf B _ _ _ _ _ _ _ _ _ _ hi hr _ _ _ _ _) rfl ?_
    refine v_iload g dX1_goRow_101 0 rfl ?_
    refine v_iconst (v := 1) g dX1_goRow_103 (by decide) ?_
    refine v_isub g dX1_goRow_104 (v_eqi (y := 0) (by decide) ?_)
    refine v_iald g dX1_goRow_105 (fo_Tf B _ _ _ _ _ _ _ _ _ _ hi hr _ _ _ _ _) (by unfold vp_in; decide) (v_eqi (y := (t 0)) rfl ?_)
    refine v_iast g dX1_goRow_106 (fo_Tf B _ _ _ _ _ _ _ _ _ _ hi hr _ _ _ _ _) (by unfold vp_in; decide) ?_
    refine v_meq (st_Tf B _ _ _ _ _ _ _ _ _ _ hi hr _ _ _ _ _ (upd (upd (upd t 3 (t 2)) 2 (t 1)) 1 (t 0))) ?_
    refine v_iinc (v := 0) (ls' := [(4, .int 0), (3, .int (nextC li wi (t 0) (wayC F Hd Br li wi di ta yr kd hd (t 0)))), (2, .int (wayC F Hd Br li wi di ta yr kd hd (t 0))), (0, .ref (adO B i)), (1, .ref (adR B i r))]) g dX1_goRow_107 0 rfl rfl rfl rfl ?_
    refine v_goto (tgt := 86) g dX1_goRow_110 (by decide) ?_
    refine v_iload g dX1_goRow_86 0 rfl ?_
    refine v_if_le (tgt := 113) g dX1_goRow_88 (by decide) (fun _ => ?_) (fun h => absurd (by decide) h)
    refine v_aload_n g dX1_goRow_113 4 rfl ?_
    refine v_get g dX1_goRow_114 fl_RX1_104 (fo_Rf B _ _ _ _ _ _ _ _ _ _ hi hr _ _ _ _ _) rfl ?_
    refine v_iconst (v := 0) g dX1_goRow_117 (by decide) ?_
    refine v_iload_n g dX1_goRow_118 1 rfl ?_
    refine v_iast g dX1_goRow_119 (fo_Tf B _ _ _ _ _ _ _ _ _ _ hi hr _ _ _ _ _) (by unfold vp_in; decide) ?_
    refine v_meq (st_Tf B _ _ _ _ _ _ _ _ _ _ hi hr _ _ _ _ _ (upd (upd (upd (upd t 3 (t 2)) 2 (t 1)) 1 (t 0)) 0 (nextC li wi (t 0) (wayC F Hd Br li wi di ta yr kd hd (t 0))))) ?_
    refine v_aload_n g dX1_goRow_120 3 rfl ?_
    refine v_get g dX1_goRow_121 fl_RX1_21 (fo_O B _ _ _ _ _ _ _ _ _ _ hi) rfl ?_
    refine v_get g dX1_goRow_124 fl_RX1_83 (fo_L2 B _ _ _ _ _ _ _ _ _ _ hi hL) rfl ?_
    refine v_iload_n g dX1_goRow_127 1 rfl ?_
    refine v_callSN (As := [.long Hd, .int (nextC li wi (t 0) (wayC F Hd Br li wi di ta yr kd hd (t 0)))]) (r := some (.int (zB (ctn Hd (nextC li wi (t 0) (wayC F Hd Br li wi di ta yr kd hd (t 0))))))) g dX1_goRow_128 (k_X5_contains Hd (nextC li wi (t 0) (wayC F Hd Br li wi di ta yr kd hd (t 0)))) cl_X5_contains nl_RX1_50 sm_X5_contains rfl ⟨rfl, rfl, rfl⟩ ?_
    refine v_if_eq (tgt := 140) g dX1_goRow_131 (by decide) (fun h131 => ?_) (fun h131 => ?_)
    · skip
      have h131 := zB_f0 h131
      exact v_vret g E dX1_goRow_140 rfl ⟨rfl, rfl, by simp only [goRowF, takenC, sh4, if_pos, if_neg, *, ↓reduceIte, Bool.false_eq_true]⟩
    · skip
      have h131 := zB_t0 h131
      refine v_aload_n g dX1_goRow_134 3 rfl ?_
      refine v_iload_n g dX1_goRow_135 1 rfl ?_
      refine v_iconst (v := 1) g dX1_goRow_136 (by decide) ?_
      refine v_callV (As := [.int (nextC li wi (t 0) (wayC F Hd Br li wi di ta yr kd hd (t 0))), .int 1]) (r := none) g dX1_goRow_137 (k_X1_give hi hL rc yr di le ((ta &&& (bitC (treeAtC sz t (sz - 1)) ^^^ (-1))) ||| bitC (nextC li wi (t 0) (wayC F Hd Br li wi di ta yr kd hd (t 0)))) (en ||| bitC (nextC li wi (t 0) (wayC F Hd Br li wi di ta yr kd hd (t 0)))) ow (va_up rs r (sz, kd, wayC F Hd Br li wi di ta yr kd hd (t 0), be, (upd (upd (upd (upd t 3 (t 2)) 2 (t 1)) 1 (t 0)) 0 (nextC li wi (t 0) (wayC F Hd Br li wi di ta yr kd hd (t 0)))))) (nextC li wi (t 0) (wayC F Hd Br li wi di ta yr kd hd (t 0))) 1) cl_X1_give ml_RX1_107 im_X1_give (fo_O B _ _ _ _ _ _ _ _ _ _ hi) rfl rfl ⟨rfl, rfl, rfl⟩ ?_
      exact v_vret g E dX1_goRow_140 rfl ⟨rfl, rfl, by simp only [goRowF, takenC, sh4, if_pos, if_neg, *, ↓reduceIte, Bool.false_eq_true]⟩
  · skip
    exact v_vret g E dX1_goRow_12 rfl ⟨rfl, rfl, by simp only [goRowF, takenC, sh4, if_pos, if_neg, *, ↓reduceIte, Bool.false_eq_true]⟩
theorem fo2_O (B : Nat) (C : CS) (ρ : Mu) {i j : Nat} (hj : j < 13) (hne : j ≠ i) {rc2 yr2 : Int32} {di2 le2 ta2 en2 : Int64} {ow2 : Nat → Int32} {rs2 : Nat → RV} (h2 : cO C j = (rc2, yr2, di2, le2, ta2, en2, ow2, rs2)) (v : OV) : ren B (sO C i v) ρ (adO B j) = some (orCe (adL B (landOf j)) (adRs B j) (adOw B j) rc2 yr2 di2 le2 ta2 en2) := by
  rw [rd_O B _ ρ hj]; simp only [cellC, cO_sO_ne C v hne, h2]
theorem fo2_R (B : Nat) (C : CS) (ρ : Mu) {i j : Nat} (hj : j < 13) {r : Nat} (hr : r < 3) (hne : j ≠ i) {rc2 yr2 : Int32} {di2 le2 ta2 en2 : Int64} {ow2 : Nat → Int32} {rs2 : Nat → RV} (h2 : cO C j = (rc2, yr2, di2, le2, ta2, en2, ow2, rs2)) (v : OV) : ren B (sO C i v) ρ (adR B j r) = some (rowCe (adT B j r) (rs2 r).1 (rs2 r).2.1 (rs2 r).2.2.1 (rs2 r).2.2.2.1) := by
  rw [rd_R B _ ρ hj hr]; simp only [cellC, cO_sO_ne C v hne, h2]
theorem fo2_T (B : Nat) (C : CS) (ρ : Mu) {i j : Nat} (hj : j < 13) {r : Nat} (hr : r < 3) (hne : j ≠ i) {rc2 yr2 : Int32} {di2 le2 ta2 en2 : Int64} {ow2 : Nat → Int32} {rs2 : Nat → RV} (h2 : cO C j = (rc2, yr2, di2, le2, ta2, en2, ow2, rs2)) (v : OV) : ren B (sO C i v) ρ (adT B j r) = some (iA 4 (rs2 r).2.2.2.2) := by
  rw [rd_T B _ ρ hj hr]; simp only [cellC, cO_sO_ne C v hne, h2]
theorem fo2_Rs (B : Nat) (C : CS) (ρ : Mu) {i j : Nat} (hj : j < 13) (v : OV) : ren B (sO C i v) ρ (adRs B j) = some (rA 3 (fun r => some (adR B j r))) := by
  rw [rd_Rs B _ ρ hj]; rfl
theorem fo2_Ow (B : Nat) (C : CS) (ρ : Mu) {i j : Nat} (hj : j < 13) (hne : j ≠ i) {rc2 yr2 : Int32} {di2 le2 ta2 en2 : Int64} {ow2 : Nat → Int32} {rs2 : Nat → RV} (h2 : cO C j = (rc2, yr2, di2, le2, ta2, en2, ow2, rs2)) (v : OV) : ren B (sO C i v) ρ (adOw B j) = some (iA 4 ow2) := by
  rw [rd_Ow B _ ρ hj]; simp only [cellC, cO_sO_ne C v hne, h2]
def goRowC (L : LV) (o : OV) (r : Nat) : OV := match L, o with
  | (F, Hd, Br, li, wi, lo), (rc, yr, di, le, ta, en, ow, rs) => match rs r with
    | (sz, kd, hd, be, t) => goRowF F Hd Br li wi lo rc yr di le ta en ow rs r sz kd hd be t
theorem k_goRow (hi : i < 13) {L : LV} (hL : cL C (landOf i) = L) (o : OV) {r : Nat} (hr : r < 3) : Ctr l G 2 52 0 0 mX1_goRow [.ref (adO B i), .ref (adR B i r)] n (ren B (sO C i o) ρ) none n (ren B (sO C i (goRowC L o r)) ρ) := by
  obtain ⟨F, Hd, Br, li, wi, lo⟩ := L
  obtain ⟨rc, yr, di, le, ta, en, ow, rs⟩ := o
  rcases hq : rs r with ⟨sz, kd, hd, be, t⟩
  have hrs : va_up rs r (sz, kd, hd, be, t) = rs := by rw [← hq, va_up_id]
  have k := k_X1_goRow (l := l) (G := G) (n := n) (B := B) (ρ := ρ) hi hL rc yr di le ta en ow rs hr sz kd hd be t
  rw [hrs] at k
  simpa only [goRowC, hq] using k
def finY (o : OV) : OV := (o.1, o.2.1 + 1, o.2.2)
def gyFrom (L : LV) (s : Int32) : Nat → Nat → OV → OV
  | 0, _, o => finY o
  | k + 1, r, o => if o.1 ≤ nI r then finY o else gyFrom L s k (r + 1) (if nI r = s then o else goRowC L o r)
def goYearC (L : LV) (s : Int32) (o : OV) : OV := gyFrom L s 3 0 o
theorem k_X1_goYear (hi : i < 13) {L : LV} (hL : cL C (landOf i) = L) (o0 : OV) (s : Int32) : Ctr l G 3 76 0 0 mX1_goYear [.ref (adO B i), .int s] n (ren B (sO C i o0) ρ) none n (ren B (sO C i (goYearC L s o0)) ρ) := by
  refine Ctr.of (by decide +kernel) rfl (fun X g E => ?_)
  have loop : ∀ (k r : Nat) (o : OV), r + k = 3 → goYearC L s o0 = gyFrom L s k r o → V X 0 0 n (ren B (sO C i o) ρ) 2 [(2, .int (nI r)), (0, .ref (adO B i)), (1, .int s)] [] := by
    intro k
    induction k with
    | zero =>
      intro r o hrk he
      obtain ⟨rc, yr, di, le, ta, en, ow, rs⟩ := o
      have hr3 : r = 3 := by omega
      refine v_iload_n g dX1_goYear_2 0 rfl ?_
      refine v_aload_n g dX1_goYear_3 1 rfl ?_
      refine v_get g dX1_goYear_4 fl_RX1_26 (fo_O B _ _ _ _ _ _ _ _ _ _ hi) rfl ?_
      refine v_icmp_ge (tgt := 36) g dX1_goYear_7 (by decide) (fun h7 => ?_) (fun h7 => ?_)
      · skip
        refine v_aload_n g dX1_goYear_36 1 rfl ?_
        refine v_dup g dX1_goYear_37 rfl ?_
        refine v_get g dX1_goYear_38 fl_RX1_30 (fo_O B _ _ _ _ _ _ _ _ _ _ hi) rfl ?_
        refine v_iconst (v := 1) g dX1_goYear_41 (by decide) ?_
        refine v_iadd g dX1_goYear_42 ?_
        refine v_put g dX1_goYear_43 fl_RX1_30 (fo_O B _ _ _ _ _ _ _ _ _ _ hi) ⟨rfl, rfl⟩ rfl ?_
        refine v_meq (st_O B _ _ _ _ _ _ _ _ _ _ hi rc (yr + 1) di le ta en) ?_
        exact v_vret g E dX1_goYear_46 rfl ⟨rfl, rfl, by rw [he]; simp only [gyFrom, finY]⟩
      · skip
        refine v_iload_n g dX1_goYear_10 0 rfl ?_
        refine v_iconst (v := 3) g dX1_goYear_11 (by decide) ?_
        refine v_icmp_ge (tgt := 36) g dX1_goYear_12 (by decide) (fun h12 => ?_) (fun h12 => absurd (nI_le (a := 3) (b := r) (by omega) (by omega)) h12)
        refine v_aload_n g dX1_goYear_36 1 rfl ?_
        refine v_dup g dX1_goYear_37 rfl ?_
        refine v_get g dX1_goYear_38 fl_RX1_30 (fo_O B _ _ _ _ _ _ _ _ _ _ hi) rfl ?_
        refine v_iconst (v := 1) g dX1_goYear_41 (by decide) ?_
        refine v_iadd g dX1_goYear_42 ?_
        refine v_put g dX1_goYear_43 fl_RX1_30 (fo_O B _ _ _ _ _ _ _ _ _ _ hi) ⟨rfl, rfl⟩ rfl ?_
        refine v_meq (st_O B _ _ _ _ _ _ _ _ _ _ hi rc (yr + 1) di le ta en) ?_
        exact v_vret g E dX1_goYear_46 rfl ⟨rfl, rfl, by rw [he]; simp only [gyFrom, finY]⟩
    | succ k ih =>
      intro r o hrk he
      obtain ⟨rc, yr, di, le, ta, en, ow, rs⟩ := o
      refine v_iload_n g dX1_goYear_2 0 rfl ?_
      refine v_aload_n g dX1_goYear_3 1 rfl ?_
      refine v_get g dX1_goYear_4 fl_RX1_26 (fo_O B _ _ _ _ _ _ _ _ _ _ hi) rfl ?_
      refine v_icmp_ge (tgt := 36) g dX1_goYear_7 (by decide) (fun h7 => ?_) (fun h7 => ?_)
      · skip
        refine v_aload_n g dX1_goYear_36 1 rfl ?_
        refine v_dup g dX1_goYear_37 rfl ?_
        refine v_get g dX1_goYear_38 fl_RX1_30 (fo_O B _ _ _ _ _ _ _ _ _ _ hi) rfl ?_
        refine v_iconst (v := 1) g dX1_goYear_41 (by decide) ?_
        refine v_iadd g dX1_goYear_42 ?_
        refine v_put g dX1_goYear_43 fl_RX1_30 (fo_O B _ _ _ _ _ _ _ _ _ _ hi) ⟨rfl, rfl⟩ rfl ?_
        refine v_meq (st_O B _ _ _ _ _ _ _ _ _ _ hi rc (yr + 1) di le ta en) ?_
        exact v_vret g E dX1_goYear_46 rfl ⟨rfl, rfl, by rw [he]; simp only [gyFrom, finY, h7, ↓reduceIte]⟩
      · skip
        refine v_iload_n g dX1_goYear_10 0 rfl ?_
        refine v_iconst (v := 3) g dX1_goYear_11 (by decide) ?_
        refine v_icmp_ge (tgt := 36) g dX1_goYear_12 (by decide) (fun h12 => absurd h12 (nI_ge (a := r) (b := 3) (by omega) (by decide))) (fun h12 => ?_)
        refine v_iload_n g dX1_goYear_15 0 rfl ?_
        refine v_iload_n g dX1_goYear_16 2 rfl ?_
        refine v_icmp_eq (tgt := 30) g dX1_goYear_17 (by decide) (fun h17 => ?_) (fun h17 => ?_)
        · skip
          refine v_iinc (v := nI (r + 1)) (ls' := [(2, .int (nI (r + 1))), (0, .ref (adO B i)), (1, .int s)]) g dX1_goYear_30 0 rfl (nI_1 r) rfl rfl ?_
          refine v_goto (tgt := 2) g dX1_goYear_33 (by decide) ?_
          exact ih (r + 1) _ (by omega) (by rw [he, gyFrom, if_neg h7, if_pos h17])
        · skip
          refine v_aload_n g dX1_goYear_20 1 rfl ?_
          refine v_aload_n g dX1_goYear_21 1 rfl ?_
          refine v_get g dX1_goYear_22 fl_RX1_11 (fo_O B _ _ _ _ _ _ _ _ _ _ hi) rfl ?_
          refine v_iload_n g dX1_goYear_25 0 rfl ?_
          refine v_aaldR (v := .ref (adR B i r)) g dX1_goYear_26 (fo_Rs B _ _ _ _ _ _ _ _ _ _ hi) (vp_in_nI (by omega) (by decide)) (by rw [nI_clamp (by omega)]; rfl) ?_
          refine v_callV (As := [.ref (adR B i r)]) (r := none) g dX1_goYear_27 (k_goRow hi hL _ (r := r) (by omega)) cl_X1_goRow ml_RX1_111 im_X1_goRow (fo_O B _ _ _ _ _ _ _ _ _ _ hi) rfl rfl ⟨rfl, rfl, rfl⟩ ?_
          refine v_iinc (v := nI (r + 1)) (ls' := [(2, .int (nI (r + 1))), (0, .ref (adO B i)), (1, .int s)]) g dX1_goYear_30 0 rfl (nI_1 r) rfl rfl ?_
          refine v_goto (tgt := 2) g dX1_goYear_33 (by decide) ?_
          exact ih (r + 1) _ (by omega) (by rw [he, gyFrom, if_neg h7, if_neg h17])
  refine v_sub (ls' := [(0, .ref (adO B i)), (1, .int s)]) [0, 1] rfl ?_
  refine v_iconst (v := 0) g dX1_goYear_0 (by decide) ?_
  refine v_istore_n (ls' := [(2, .int 0), (0, .ref (adO B i)), (1, .int s)]) g dX1_goYear_1 rfl rfl ?_
  exact loop 3 0 o0 rfl rfl
def brFrom (li wi : Int32) (lo : Nat → Int32) (oth : Int64) (be sz : Int32) (t : Nat → Int32) : Nat → Nat → (Nat → Int32) → (Nat → Int32)
  | 0, _, ow => ow
  | k + 1, j, ow => if sz ≤ nI j then ow else brFrom li wi lo oth be sz t k (j + 1) (giveC lo ow (t j) (be + (if zB (besC li wi (t j) oth) = 0 then 0 else 1)))
def bearF (li wi : Int32) (lo : Nat → Int32) (le ta : Int64) (ow : Nat → Int32) (sz be : Int32) (t : Nat → Int32) : Nat → Int32 := brFrom li wi lo ((ta &&& (le ^^^ (-1))) &&& (rowCellsC sz t ^^^ (-1))) be sz t 4 0 ow
theorem k_X1_bearRow (hi : i < 13) {F Hd Br : Int64} {li wi : Int32} {lo : Nat → Int32} (hL : cL C (landOf i) = (F, Hd, Br, li, wi, lo)) (rc yr : Int32) (di le ta en : Int64) (ow : Nat → Int32) (rs : Nat → RV) {r : Nat} (hr : r < 3) (sz kd hd be : Int32) (t : Nat → Int32) : Ctr l G 2 47 0 0 mX1_bearRow [.ref (adO B i), .ref (adR B i r)] n (ren B (sO C i (rc, yr, di, le, ta, en, ow, va_up rs r (sz, kd, hd, be, t))) ρ) none n (ren B (sO C i (rc, yr, di, le, ta, en, bearF li wi lo le ta ow sz be t, va_up rs r (sz, kd, hd, be, t))) ρ) := by
  refine Ctr.of (by decide +kernel) rfl (fun X g E => ?_)
  have loop : ∀ (oth : Int64) (k j : Nat) (ow1 : Nat → Int32), j + k = 4 → bearF li wi lo le ta ow sz be t = brFrom li wi lo oth be sz t k j ow1 → V X 0 0 n (ren B (sO C i (rc, yr, di, le, ta, en, ow1, va_up rs r (sz, kd, hd, be, t))) ρ) 26 [(4, .int (nI j)), (2, .long oth), (0, .ref (adO B i)), (1, .ref (adR B i r))] [] := by
    intro oth k
    induction k with
    | zero =>
      intro j ow1 hjk he
      refine v_iload g dX1_bearRow_26 0 rfl ?_
      refine v_aload_n g dX1_bearRow_28 3 rfl ?_
      refine v_get g dX1_bearRow_29 fl_RX1_73 (fo_Rf B _ _ _ _ _ _ _ _ _ _ hi hr _ _ _ _ _) rfl ?_
      refine v_icmp_ge (tgt := 85) g dX1_bearRow_32 (by decide) (fun h32 => ?_) (fun h32 => ?_)
      · skip
        exact v_vret g E dX1_bearRow_85 rfl ⟨rfl, rfl, by rw [he]; simp only [brFrom]⟩
      · skip
        refine v_iload g dX1_bearRow_35 0 rfl ?_
        refine v_iconst (v := 4) g dX1_bearRow_37 (by decide) ?_
        refine v_icmp_ge (tgt := 85) g dX1_bearRow_38 (by decide) (fun h38 => ?_) (fun h38 => absurd (nI_le (a := 4) (b := j) (by omega) (by omega)) h38)
        exact v_vret g E dX1_bearRow_85 rfl ⟨rfl, rfl, by rw [he]; simp only [brFrom]⟩
    | succ k ih =>
      intro j ow1 hjk he
      refine v_iload g dX1_bearRow_26 0 rfl ?_
      refine v_aload_n g dX1_bearRow_28 3 rfl ?_
      refine v_get g dX1_bearRow_29 fl_RX1_73 (fo_Rf B _ _ _ _ _ _ _ _ _ _ hi hr _ _ _ _ _) rfl ?_
      refine v_icmp_ge (tgt := 85) g dX1_bearRow_32 (by decide) (fun h32 => ?_) (fun h32 => ?_)
      · skip
        exact v_vret g E dX1_bearRow_85 rfl ⟨rfl, rfl, by rw [he]; simp only [brFrom, h32, ↓reduceIte]⟩
      · skip
        refine v_iload g dX1_bearRow_35 0 rfl ?_
        refine v_iconst (v := 4) g dX1_bearRow_37 (by decide) ?_
        refine v_icmp_ge (tgt := 85) g dX1_bearRow_38 (by decide) (fun h38 => absurd h38 (nI_ge (a := j) (b := 4) (by omega) (by decide))) (fun h38 => ?_)
        refine v_aload_n g dX1_bearRow_41 3 rfl ?_
        refine v_get g dX1_bearRow_42 fl_RX1_104 (fo_Rf B _ _ _ _ _ _ _ _ _ _ hi hr _ _ _ _ _) rfl ?_
        refine v_iload g dX1_bearRow_45 0 rfl ?_
        refine v_iald g dX1_bearRow_47 (fo_Tf B _ _ _ _ _ _ _ _ _ _ hi hr _ _ _ _ _) (vp_in_nI (by omega) (by decide)) (v_eqi (y := (t j)) (by rw [nI_clamp (by omega)]) ?_)
        refine v_istore (ls' := [(5, .int (t j)), (4, .int (nI j)), (2, .long oth), (0, .ref (adO B i)), (1, .ref (adR B i r))]) g dX1_bearRow_48 rfl rfl ?_
        refine v_aload_n g dX1_bearRow_50 3 rfl ?_
        refine v_iload g dX1_bearRow_51 0 rfl ?_
        refine v_aload_n g dX1_bearRow_53 4 rfl ?_
        refine v_get g dX1_bearRow_54 fl_RX1_121 (fo_Rf B _ _ _ _ _ _ _ _ _ _ hi hr _ _ _ _ _) rfl ?_
        refine v_aload_n g dX1_bearRow_57 3 rfl ?_
        refine v_get g dX1_bearRow_58 fl_RX1_21 (fo_O B _ _ _ _ _ _ _ _ _ _ hi) rfl ?_
        refine v_iload g dX1_bearRow_61 0 rfl ?_
        refine v_lload_n g dX1_bearRow_63 2 rfl ?_
        refine v_callV (As := [.int (t j), .long oth]) (r := some (.int (zB (besC li wi (t j) oth)))) g dX1_bearRow_64 (k_X0_isBesideOne (fo_L2 B _ _ _ _ _ _ _ _ _ _ hi hL) (t j) oth) cl_X0_isBesideOne ml_RX1_124 im_X0_isBesideOne (fo_L2 B _ _ _ _ _ _ _ _ _ _ hi hL) rfl rfl ⟨rfl, rfl, rfl⟩ ?_
        refine v_if_eq_d (tgt := 74) (u := 0) (v := 1) 75 g dX1_bearRow_67 (by decide) (fun h67 K => ?_) (fun h67 K => ?_) ?_
        · skip
          have h67 := zB_f0 h67
          refine v_iconst (v := 0) g dX1_bearRow_74 (by decide) ?_
          exact K
        · skip
          have h67 := zB_t0 h67
          refine v_iconst (v := 1) g dX1_bearRow_70 (by decide) ?_
          refine v_goto (tgt := 75) g dX1_bearRow_71 (by decide) ?_
          exact K
        refine v_iadd g dX1_bearRow_75 ?_
        refine v_callV (As := [.int (t j), .int (be + (if zB (besC li wi (t j) oth) = 0 then 0 else 1))]) (r := none) g dX1_bearRow_76 (k_X1_give hi hL rc yr di le ta en ow1 (va_up rs r (sz, kd, hd, be, t)) (t j) (be + (if zB (besC li wi (t j) oth) = 0 then 0 else 1))) cl_X1_give ml_RX1_107 im_X1_give (fo_O B _ _ _ _ _ _ _ _ _ _ hi) rfl rfl ⟨rfl, rfl, rfl⟩ ?_
        refine v_iinc (v := nI (j + 1)) (ls' := [(4, .int (nI (j + 1))), (5, .int (t j)), (2, .long oth), (0, .ref (adO B i)), (1, .ref (adR B i r))]) g dX1_bearRow_79 1 rfl (nI_1 j) rfl rfl ?_
        refine v_goto (tgt := 26) g dX1_bearRow_82 (by decide) ?_
        refine v_sub (ls' := [(4, .int (nI (j + 1))), (2, .long oth), (0, .ref (adO B i)), (1, .ref (adR B i r))]) [0, 2, 3, 4] rfl ?_
        exact ih (j + 1) _ (by omega) (by rw [he, brFrom, if_neg h32])
  refine v_sub (ls' := [(0, .ref (adO B i)), (1, .ref (adR B i r))]) [0, 1] rfl ?_
  refine v_aload_n g dX1_bearRow_0 0 rfl ?_
  refine v_get g dX1_bearRow_1 fl_RX1_40 (fo_O B _ _ _ _ _ _ _ _ _ _ hi) rfl ?_
  refine v_aload_n g dX1_bearRow_4 0 rfl ?_
  refine v_get g dX1_bearRow_5 fl_RX1_37 (fo_O B _ _ _ _ _ _ _ _ _ _ hi) rfl ?_
  refine v_ldc2 (v := (-1)) g dX1_bearRow_8 kl_RX1_63 ?_
  refine v_lxor g dX1_bearRow_11 ?_
  refine v_land g dX1_bearRow_12 ?_
  refine v_aload_n g dX1_bearRow_13 1 rfl ?_
  refine v_callV (As := []) (r := some (.long (rowCellsC sz t))) g dX1_bearRow_14 (k_X4_cells (fo_Rf B _ _ _ _ _ _ _ _ _ _ hi hr _ _ _ _ _) (fo_Tf B _ _ _ _ _ _ _ _ _ _ hi hr _ _ _ _ _)) cl_X4_cells ml_RX1_54 im_X4_cells (fo_Rf B _ _ _ _ _ _ _ _ _ _ hi hr _ _ _ _ _) rfl rfl ⟨rfl, rfl, rfl⟩ ?_
  refine v_ldc2 (v := (-1)) g dX1_bearRow_17 kl_RX1_63 ?_
  refine v_lxor g dX1_bearRow_20 ?_
  refine v_land g dX1_bearRow_21 ?_
  refine v_lstore_n (ls' := [(2, .long ((ta &&& (le ^^^ (-1))) &&& (rowCellsC sz t ^^^ (-1)))), (0, .ref (adO B i)), (1, .ref (adR B i r))]) g dX1_bearRow_22 rfl rfl ?_
  refine v_iconst (v := 0) g dX1_bearRow_23 (by decide) ?_
  refine v_istore (ls' := [(4, .int 0), (2, .long ((ta &&& (le ^^^ (-1))) &&& (rowCellsC sz t ^^^ (-1)))), (0, .ref (adO B i)), (1, .ref (adR B i r))]) g dX1_bearRow_24 rfl rfl ?_
  refine v_sub (ls' := [(4, .int (nI 0)), (2, .long _), (0, .ref (adO B i)), (1, .ref (adR B i r))]) [0, 1, 2, 3] rfl ?_
  exact loop _ 4 0 ow rfl rfl
def bearRowC (L : LV) (o : OV) (r : Nat) : OV := match L, o with
  | (F, Hd, Br, li, wi, lo), (rc, yr, di, le, ta, en, ow, rs) => match rs r with
    | (sz, kd, hd, be, t) => (rc, yr, di, le, ta, en, bearF li wi lo le ta ow sz be t, rs)
theorem k_bearRow (hi : i < 13) {L : LV} (hL : cL C (landOf i) = L) (o : OV) {r : Nat} (hr : r < 3) : Ctr l G 2 47 0 0 mX1_bearRow [.ref (adO B i), .ref (adR B i r)] n (ren B (sO C i o) ρ) none n (ren B (sO C i (bearRowC L o r)) ρ) := by
  obtain ⟨F, Hd, Br, li, wi, lo⟩ := L
  obtain ⟨rc, yr, di, le, ta, en, ow, rs⟩ := o
  rcases hq : rs r with ⟨sz, kd, hd, be, t⟩
  have hrs : va_up rs r (sz, kd, hd, be, t) = rs := by rw [← hq, va_up_id]
  have k := k_X1_bearRow (l := l) (G := G) (n := n) (B := B) (ρ := ρ) hi hL rc yr di le ta en ow rs hr sz kd hd be t
  rw [hrs] at k
  simpa only [bearRowC, hq] using k
def byFrom (L : LV) : Nat → Nat → OV → OV
  | 0, _, o => o
  | k + 1, r, o => if o.1 ≤ nI r then o else byFrom L k (r + 1) (bearRowC L o r)
def yearC (L : LV) (o : OV) : OV := byFrom L 3 0 (goYearC L (-4) o)
def yearsC (L : LV) : Nat → OV → OV
  | 0, o => o
  | m + 1, o => yearsC L m (yearC L o)
theorem k_X1_passYears (hi : i < 13) {L : LV} (hL : cL C (landOf i) = L) (o0 : OV) {m : Nat} (hm : m < 2 ^ 31) : Ctr l G 4 98 0 0 mX1_passYears [.ref (adO B i), .int (nI m)] n (ren B (sO C i o0) ρ) none n (ren B (sO C i (yearsC L m o0)) ρ) := by
  refine Ctr.of (by decide +kernel) rfl (fun X g E => ?_)
  have loop : ∀ (q j : Nat) (o : OV), j + q = m → yearsC L m o0 = yearsC L q o → V X 0 0 n (ren B (sO C i o) ρ) 2 [(2, .int (nI j)), (0, .ref (adO B i)), (1, .int (nI m))] [] := by
    intro q
    induction q with
    | zero =>
      intro j o hjq he
      refine v_iload_n g dX1_passYears_2 0 rfl ?_
      refine v_iload_n g dX1_passYears_3 2 rfl ?_
      refine v_icmp_ge (tgt := 50) g dX1_passYears_4 (by decide) (fun h4 => ?_) (fun h4 => absurd (nI_le (a := m) (b := j) (by omega) (by omega)) h4)
      exact v_vret g E dX1_passYears_50 rfl ⟨rfl, rfl, by rw [he, yearsC]⟩
    | succ q ih =>
      intro j o hjq he
      have inner : ∀ (k r : Nat) (o1 : OV), r + k = 3 → yearC L o = byFrom L k r o1 → V X 0 0 n (ren B (sO C i o1) ρ) 15 [(3, .int (nI r)), (2, .int (nI j)), (0, .ref (adO B i)), (1, .int (nI m))] [] := by
        intro k
        induction k with
        | zero =>
          intro r o1 hrk h1
          obtain ⟨rc, yr, di, le, ta, en, ow, rs⟩ := o1
          refine v_iload_n g dX1_passYears_15 0 rfl ?_
          refine v_aload_n g dX1_passYears_16 2 rfl ?_
          refine v_get g dX1_passYears_17 fl_RX1_26 (fo_O B _ _ _ _ _ _ _ _ _ _ hi) rfl ?_
          refine v_icmp_ge (tgt := 44) g dX1_passYears_20 (by decide) (fun h20 => ?_) (fun h20 => ?_)
          · skip
            refine v_iinc (v := nI (j + 1)) (ls' := [(2, .int (nI (j + 1))), (3, .int (nI r)), (0, .ref (adO B i)), (1, .int (nI m))]) g dX1_passYears_44 1 rfl (nI_1 j) rfl rfl ?_
            refine v_goto (tgt := 2) g dX1_passYears_47 (by decide) ?_
            refine v_sub (ls' := [(2, .int (nI (j + 1))), (0, .ref (adO B i)), (1, .int (nI m))]) [0, 2, 3] rfl ?_
            exact ih (j + 1) _ (by omega) (by rw [he, yearsC, h1, byFrom])
          · skip
            refine v_iload_n g dX1_passYears_23 0 rfl ?_
            refine v_iconst (v := 3) g dX1_passYears_24 (by decide) ?_
            refine v_icmp_ge (tgt := 44) g dX1_passYears_25 (by decide) (fun h25 => ?_) (fun h25 => absurd (nI_le (a := 3) (b := r) (by omega) (by omega)) h25)
            refine v_iinc (v := nI (j + 1)) (ls' := [(2, .int (nI (j + 1))), (3, .int (nI r)), (0, .ref (adO B i)), (1, .int (nI m))]) g dX1_passYears_44 1 rfl (nI_1 j) rfl rfl ?_
            refine v_goto (tgt := 2) g dX1_passYears_47 (by decide) ?_
            refine v_sub (ls' := [(2, .int (nI (j + 1))), (0, .ref (adO B i)), (1, .int (nI m))]) [0, 2, 3] rfl ?_
            exact ih (j + 1) _ (by omega) (by rw [he, yearsC, h1, byFrom])
        | succ k ihk =>
          intro r o1 hrk h1
          obtain ⟨rc, yr, di, le, ta, en, ow, rs⟩ := o1
          refine v_iload_n g dX1_passYears_15 0 rfl ?_
          refine v_aload_n g dX1_passYears_16 2 rfl ?_
          refine v_get g dX1_passYears_17 fl_RX1_26 (fo_O B _ _ _ _ _ _ _ _ _ _ hi) rfl ?_
          refine v_icmp_ge (tgt := 44) g dX1_passYears_20 (by decide) (fun h20 => ?_) (fun h20 => ?_)
          · skip
            refine v_iinc (v := nI (j + 1)) (ls' := [(2, .int (nI (j + 1))), (3, .int (nI r)), (0, .ref (adO B i)), (1, .int (nI m))]) g dX1_passYears_44 1 rfl (nI_1 j) rfl rfl ?_
            refine v_goto (tgt := 2) g dX1_passYears_47 (by decide) ?_
            refine v_sub (ls' := [(2, .int (nI (j + 1))), (0, .ref (adO B i)), (1, .int (nI m))]) [0, 2, 3] rfl ?_
            exact ih (j + 1) _ (by omega) (by rw [he, yearsC, h1, byFrom, if_pos h20])
          · skip
            refine v_iload_n g dX1_passYears_23 0 rfl ?_
            refine v_iconst (v := 3) g dX1_passYears_24 (by decide) ?_
            refine v_icmp_ge (tgt := 44) g dX1_passYears_25 (by decide) (fun h25 => absurd h25 (nI_ge (a := r) (b := 3) (by omega) (by decide))) (fun h25 => ?_)
            refine v_aload_n g dX1_passYears_28 2 rfl ?_
            refine v_aload_n g dX1_passYears_29 2 rfl ?_
            refine v_get g dX1_passYears_30 fl_RX1_11 (fo_O B _ _ _ _ _ _ _ _ _ _ hi) rfl ?_
            refine v_iload_n g dX1_passYears_33 0 rfl ?_
            refine v_aaldR (v := .ref (adR B i r)) g dX1_passYears_34 (fo_Rs B _ _ _ _ _ _ _ _ _ _ hi) (vp_in_nI (by omega) (by decide)) (by rw [nI_clamp (by omega)]; rfl) ?_
            refine v_callV (As := [.ref (adR B i r)]) (r := none) g dX1_passYears_35 (k_bearRow hi hL _ (r := r) (by omega)) cl_X1_bearRow ml_RX1_118 im_X1_bearRow (fo_O B _ _ _ _ _ _ _ _ _ _ hi) rfl rfl ⟨rfl, rfl, rfl⟩ ?_
            refine v_iinc (v := nI (r + 1)) (ls' := [(3, .int (nI (r + 1))), (2, .int (nI j)), (0, .ref (adO B i)), (1, .int (nI m))]) g dX1_passYears_38 0 rfl (nI_1 r) rfl rfl ?_
            refine v_goto (tgt := 15) g dX1_passYears_41 (by decide) ?_
            exact ihk (r + 1) _ (by omega) (by rw [h1, byFrom, if_neg h20])
      obtain ⟨rc, yr, di, le, ta, en, ow, rs⟩ := o
      refine v_iload_n g dX1_passYears_2 0 rfl ?_
      refine v_iload_n g dX1_passYears_3 2 rfl ?_
      refine v_icmp_ge (tgt := 50) g dX1_passYears_4 (by decide) (fun h4 => absurd h4 (nI_ge (a := j) (b := m) (by omega) hm)) (fun h4 => ?_)
      refine v_aload_n g dX1_passYears_7 1 rfl ?_
      refine v_bipush (v := (-4)) g dX1_passYears_8 (by decide) ?_
      refine v_callV (As := [.int (-4)]) (r := none) g dX1_passYears_10 (k_X1_goYear hi hL (rc, yr, di, le, ta, en, ow, rs) (-4)) cl_X1_goYear ml_RX1_114 im_X1_goYear (fo_O B _ _ _ _ _ _ _ _ _ _ hi) rfl rfl ⟨rfl, rfl, rfl⟩ ?_
      refine v_iconst (v := 0) g dX1_passYears_13 (by decide) ?_
      refine v_istore_n (ls' := [(3, .int 0), (2, .int (nI j)), (0, .ref (adO B i)), (1, .int (nI m))]) g dX1_passYears_14 rfl rfl ?_
      exact inner 3 0 _ rfl rfl
  refine v_sub (ls' := [(0, .ref (adO B i)), (1, .int (nI m))]) [0, 1] rfl ?_
  refine v_iconst (v := 0) g dX1_passYears_0 (by decide) ?_
  refine v_istore_n (ls' := [(2, .int 0), (0, .ref (adO B i)), (1, .int (nI m))]) g dX1_passYears_1 rfl rfl ?_
  exact loop m 0 o0 (by omega) rfl
end C2
