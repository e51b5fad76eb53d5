/-! CLASS, ORCHARDS: what a row's going, a year, years make of an orchard -/
section FO2
variable (B : Nat) (C : CS) (ρ : Mu) {i : Nat} (rc yr : Int32) (di le ta en : Int64) (ow : Nat → Int32) (rs : Nat → RV)
theorem fo_L2 (hi : i < 13) {F H Br : Int64} {li wi : Int32} {lo : Nat → Int32} (hL : cL C (landOf i) = (F, H, Br, li, wi, lo)) : ren B (sO C i (rc, yr, di, le, ta, en, ow, rs)) ρ (adL B (landOf i)) = some (landCe (adLo B (landOf i)) F H Br li wi) := by
  rw [fo_L B C ρ rc yr di le ta en ow rs hi, hL]
theorem fo_Lo2 (hi : i < 13) {F H Br : Int64} {li wi : Int32} {lo : Nat → Int32} (hL : cL C (landOf i) = (F, H, Br, li, wi, lo)) : ren B (sO C i (rc, yr, di, le, ta, en, ow, rs)) ρ (adLo B (landOf i)) = some (iA 36 lo) := by
  rw [fo_Lo B C ρ rc yr di le ta en ow rs hi, hL]
end FO2
def giveC (lo ow : Nat → Int32) (x m : Int32) : Nat → Int32 := if ownerC lo x < 0 then ow else if 4 ≤ ownerC lo x then ow else upd ow (ownerC lo x).toNatClampNeg (ow (ownerC lo x).toNatClampNeg + m)
def sh4 (t : Nat → Int32) (x : Int32) : Nat → Int32 := upd (upd (upd (upd t 3 (t 2)) 2 (t 1)) 1 (t 0)) 0 x
def takenC (ta : Int64) (sz : Int32) (t : Nat → Int32) (x : Int32) : Int64 := (ta &&& (bitC (treeAtC sz t (sz - 1)) ^^^ (-1))) ||| bitC x
def goRowF (F Hd Br : Int64) (li wi : Int32) (lo : Nat → Int32) (rc yr : Int32) (di le ta en : Int64) (ow : Nat → Int32) (rs : Nat → RV) (r : Nat) (sz kd hd be : Int32) (t : Nat → Int32) : OV :=
  if wayC F Hd Br li wi di ta yr kd hd (t 0) = -4 then (rc, yr, di, le, ta, en, ow, va_up rs r (sz, kd, hd, be, t))
  else (rc, yr, di, le, takenC ta sz t (nextC li wi (t 0) (wayC F Hd Br li wi di ta yr kd hd (t 0))), (en ||| bitC (nextC li wi (t 0) (wayC F Hd Br li wi di ta yr kd hd (t 0)))),
    if ctn Hd (nextC li wi (t 0) (wayC F Hd Br li wi di ta yr kd hd (t 0))) = true then giveC lo ow (nextC li wi (t 0) (wayC F Hd Br li wi di ta yr kd hd (t 0))) 1 else ow,
    va_up rs r (sz, kd, wayC F Hd Br li wi di ta yr kd hd (t 0), be, sh4 t (nextC li wi (t 0) (wayC F Hd Br li wi di ta yr kd hd (t 0)))))
section C2
variable {l : Launch} {G : GG} {n : Nat} {B : Nat} {C : CS} {ρ : Mu} {i : Nat}
theorem k_X1_give (hi : i < 13) {F Hd Br : Int64} {li wi : Int32} {lo : Nat → Int32} (hL : cL C (landOf i) = (F, Hd, Br, li, wi, lo)) (rc yr : Int32) (di le ta en : Int64) (ow : Nat → Int32) (rs : Nat → RV) (x m : Int32) : Ctr l G 1 21 0 0 mX1_give [.ref (adO B i), .int x, .int m] n (ren B (sO C i (rc, yr, di, le, ta, en, ow, rs)) ρ) (none) n (ren B (sO C i (rc, yr, di, le, ta, en, giveC lo ow x m, rs)) ρ) := by
  refine Ctr.of (by decide +kernel) rfl (fun X g E => ?_)
  refine v_sub (ls' := [(0, .ref (adO B i)), (1, .int x), (2, .int m)]) [0, 1, 2] rfl ?_
  refine v_aload_n g dX1_give_0 0 rfl ?_
  refine v_get g dX1_give_1 fl_RX1_21 (fo_O B _ _ _ _ _ _ _ _ _ _ hi) rfl ?_
  refine v_iload_n g dX1_give_4 1 rfl ?_
  refine v_callV (As := [.int x]) (r := some (.int (ownerC lo x))) g dX1_give_5 (k_X0_ownerOf (fo_L2 B _ _ _ _ _ _ _ _ _ _ hi hL) (fo_Lo2 B _ _ _ _ _ _ _ _ _ _ hi hL) x) cl_X0_ownerOf ml_RX1_128 im_X0_ownerOf (fo_L2 B _ _ _ _ _ _ _ _ _ _ hi hL) rfl rfl ⟨rfl, rfl, rfl⟩ ?_
  refine v_istore_n (ls' := [(3, .int (ownerC lo x)), (0, .ref (adO B i)), (1, .int x), (2, .int m)]) g dX1_give_8 rfl rfl ?_
  refine v_iload_n g dX1_give_9 0 rfl ?_
  refine v_if_lt (tgt := 28) g dX1_give_10 (by decide) (fun h10 => ?_) (fun h10 => ?_)
  · skip
    exact v_vret g E dX1_give_28 rfl ⟨rfl, rfl, by simp only [giveC, if_pos, if_neg, *, ↓reduceIte]⟩
  · skip
    refine v_iload_n g dX1_give_13 0 rfl ?_
    refine v_iconst (v := 4) g dX1_give_14 (by decide) ?_
    refine v_icmp_ge (tgt := 28) g dX1_give_15 (by decide) (fun h15 => ?_) (fun h15 => ?_)
    · skip
      exact v_vret g E dX1_give_28 rfl ⟨rfl, rfl, by simp only [giveC, if_pos, if_neg, *, ↓reduceIte]⟩
    · skip
      refine v_aload_n g dX1_give_18 1 rfl ?_
      refine v_get g dX1_give_19 fl_RX1_17 (fo_O B _ _ _ _ _ _ _ _ _ _ hi) rfl ?_
      refine v_iload_n g dX1_give_22 0 rfl ?_
      refine v_dup2 g dX1_give_23 rfl rfl ?_
      refine v_iald g dX1_give_24 (fo_Ow B _ _ _ _ _ _ _ _ _ _ hi) (vin_c (m := 4) rfl h10 h15) ?_
      refine v_iload_n g dX1_give_25 3 rfl ?_
      refine v_iadd g dX1_give_26 ?_
      refine v_iast g dX1_give_27 (fo_Ow B _ _ _ _ _ _ _ _ _ _ hi) (vin_c (m := 4) rfl h10 h15) ?_
      refine v_meq (st_Ow B _ _ _ _ _ _ _ _ _ _ hi (upd ow (ownerC lo x).toNatClampNeg ((ow (ownerC lo x).toNatClampNeg) + m))) ?_
      exact v_vret g E dX1_give_28 rfl ⟨rfl, rfl, by simp only [giveC, if_pos, if_neg, *, ↓reduceIte]⟩
theorem k_X1_goRow (hi : i < 13) {F Hd Br : Int64} {li wi : Int32} {lo : Nat → Int32} (hL : cL C (landOf i) = (F, Hd, Br, li, wi, lo)) (rc yr : Int32) (di le ta en : Int64) (ow : Nat → Int32) (rs : Nat → RV) {r : Nat} (hr : r < 3) (sz kd hd be : Int32) (t : Nat → Int32) : Ctr l G 2 52 0 0 mX1_goRow [.ref (adO B i), .ref (adR B i r)] n (ren B (sO C i (rc, yr, di, le, ta, en, ow, va_up rs r (sz, kd, hd, be, t))) ρ) (none) n (ren B (sO C i (goRowF F Hd Br li wi lo rc yr di le ta en ow rs r sz kd hd be t)) ρ) := by
  refine Ctr.of (by decide +kernel) rfl (fun X g E => ?_)
  refine v_sub (ls' := [(0, .ref (adO B i)), (1, .ref (adR B i r))]) [0, 1] rfl ?_
  refine v_aload_n g dX1_goRow_0 0 rfl ?_
  refine v_aload_n g dX1_goRow_1 1 rfl ?_
  refine v_callV (As := [.ref (adR B i r)]) (r := some (.int (wayC F Hd Br li wi di ta yr kd hd (t 0)))) g dX1_goRow_2 (k_X1_wayOf (fo_O B _ _ _ _ _ _ _ _ _ _ hi) (fo_L2 B _ _ _ _ _ _ _ _ _ _ hi hL) (fo_Rf B _ _ _ _ _ _ _ _ _ _ hi hr _ _ _ _ _) (fo_Tf B _ _ _ _ _ _ _ _ _ _ hi hr _ _ _ _ _)) cl_X1_wayOf ml_RX1_100 im_X1_wayOf (fo_O B _ _ _ _ _ _ _ _ _ _ hi) rfl rfl ⟨rfl, rfl, rfl⟩ ?_
  refine v_istore_n (ls' := [(2, .int (wayC F Hd Br li wi di ta yr kd hd (t 0))), (0, .ref (adO B i)), (1, .ref (adR B i r))]) g dX1_goRow_5 rfl rfl ?_
  refine v_iload_n g dX1_goRow_6 0 rfl ?_
  refine v_bipush (v := (-4)) g dX1_goRow_7 (by decide) ?_
  refine v_icmp_ne (tgt := 13) g dX1_goRow_9 (by decide) (fun h9 => ?_) (fun h9 => ?_)
  · skip
    refine v_aload_n g dX1_goRow_13 1 rfl ?_
    refine v_get g dX1_goRow_14 fl_RX1_21 (fo_O B _ _ _ _ _ _ _ _ _ _ hi) rfl ?_
    refine v_aload_n g dX1_goRow_17 2 rfl ?_
    refine v_callV (As := []) (r := some (.int (t 0))) g dX1_goRow_18 (k_X4_first (fo_Rf B _ _ _ _ _ _ _ _ _ _ hi hr _ _ _ _ _) (fo_Tf B _ _ _ _ _ _ _ _ _ _ hi hr _ _ _ _ _)) cl_X4_first ml_RX1_92 im_X4_first (fo_Rf B _ _ _ _ _ _ _ _ _ _ hi hr _ _ _ _ _) rfl rfl ⟨rfl, rfl, rfl⟩ ?_
    refine v_iload_n g dX1_goRow_21 0 rfl ?_
    refine v_callV (As := [.int (t 0), .int (wayC F Hd Br li wi di ta yr kd hd (t 0))]) (r := some (.int (nextC li wi (t 0) (wayC F Hd Br li wi di ta yr kd hd (t 0))))) g dX1_goRow_22 (k_X0_nextBy (fo_L2 B _ _ _ _ _ _ _ _ _ _ hi hL) (t 0) (wayC F Hd Br li wi di ta yr kd hd (t 0))) cl_X0_nextBy ml_RX1_96 im_X0_nextBy (fo_L2 B _ _ _ _ _ _ _ _ _ _ hi hL) rfl rfl ⟨rfl, rfl, rfl⟩ ?_
    refine v_istore_n (ls' := [(3, .int (nextC li wi (t 0) (wayC F Hd Br li wi di ta yr kd hd (t 0)))), (2, .int (wayC F Hd Br li wi di ta yr kd hd (t 0))), (0, .ref (adO B i)), (1, .ref (adR B i r))]) g dX1_goRow_25 rfl rfl ?_
    refine v_aload_n g dX1_goRow_26 2 rfl ?_
    refine v_dup g dX1_goRow_27 rfl ?_
    refine v_get g dX1_goRow_28 fl_RX1_40 (fo_O B _ _ _ _ _ _ _ _ _ _ hi) rfl ?_
    refine v_aload_n g dX1_goRow_31 3 rfl ?_
    refine v_aload_n g dX1_goRow_32 3 rfl ?_
    refine v_get g dX1_goRow_33 fl_RX1_73 (fo_Rf B _ _ _ _ _ _ _ _ _ _ hi hr _ _ _ _ _) rfl ?_
    refine v_iconst (v := 1) g dX1_goRow_36 (by decide) ?_
    refine v_isub g dX1_goRow_37 ?_
    refine v_callV (As := [.int (sz - 1)]) (r := some (.int (treeAtC sz t (sz - 1)))) g dX1_goRow_38 (k_X4_treeAt (fo_Rf B _ _ _ _ _ _ _ _ _ _ hi hr _ _ _ _ _) (fo_Tf B _ _ _ _ _ _ _ _ _ _ hi hr _ _ _ _ _) (sz - 1)) cl_X4_treeAt ml_RX1_76 im_X4_treeAt (fo_Rf B _ _ _ _ _ _ _ _ _ _ hi hr _ _ _ _ _) rfl rfl ⟨rfl, rfl, rfl⟩ ?_
    refine v_callSN (As := [.int (treeAtC sz t (sz - 1))]) (r := some (.long (bitC (treeAtC sz t (sz - 1))))) g dX1_goRow_41 (k_X5_bit (treeAtC sz t (sz - 1))) cl_X5_bit nl_RX1_69 sm_X5_bit rfl ⟨rfl, rfl, rfl⟩ ?_
    refine v_ldc2 (v := (-1)) g dX1_goRow_44 kl_RX1_63 ?_
    refine v_lxor g dX1_goRow_47 ?_
    refine v_land g dX1_goRow_48 ?_
    refine v_put g dX1_goRow_49 fl_RX1_40 (fo_O B _ _ _ _ _ _ _ _ _ _ hi) ⟨rfl, rfl⟩ rfl ?_
    refine v_meq (st_O B _ _ _ _ _ _ _ _ _ _ hi rc yr di le (ta &&& (bitC (treeAtC sz t (sz - 1)) ^^^ (-1))) en) ?_
    refine v_aload_n g dX1_goRow_52 2 rfl ?_
    refine v_dup g dX1_goRow_53 rfl ?_
    refine v_get g dX1_goRow_54 fl_RX1_40 (fo_O B _ _ _ _ _ _ _ _ _ _ hi) rfl ?_
    refine v_iload_n g dX1_goRow_57 0 rfl ?_
    refine v_callSN (As := [.int (nextC li wi (t 0) (wayC F Hd Br li wi di ta yr kd hd (t 0)))]) (r := some (.long (bitC (nextC li wi (t 0) (wayC F Hd Br li wi di ta yr kd hd (t 0)))))) g dX1_goRow_58 (k_X5_bit (nextC li wi (t 0) (wayC F Hd Br li wi di ta yr kd hd (t 0)))) cl_X5_bit nl_RX1_69 sm_X5_bit rfl ⟨rfl, rfl, rfl⟩ ?_
    refine v_lor g dX1_goRow_61 ?_
    refine v_put g dX1_goRow_62 fl_RX1_40 (fo_O B _ _ _ _ _ _ _ _ _ _ hi) ⟨rfl, rfl⟩ rfl ?_
    refine v_meq (st_O B _ _ _ _ _ _ _ _ _ _ hi rc yr di le ((ta &&& (bitC (treeAtC sz t (sz - 1)) ^^^ (-1))) ||| bitC (nextC li wi (t 0) (wayC F Hd Br li wi di ta yr kd hd (t 0)))) en) ?_
    refine v_aload_n g dX1_goRow_65 2 rfl ?_
    refine v_dup g dX1_goRow_66 rfl ?_
    refine v_get g dX1_goRow_67 fl_RX1_43 (fo_O B _ _ _ _ _ _ _ _ _ _ hi) rfl ?_
    refine v_iload_n g dX1_goRow_70 0 rfl ?_
    refine v_callSN (As := [.int (nextC li wi (t 0) (wayC F Hd Br li wi di ta yr kd hd (t 0)))]) (r := some (.long (bitC (nextC li wi (t 0) (wayC F Hd Br li wi di ta yr kd hd (t 0)))))) g dX1_goRow_71 (k_X5_bit (nextC li wi (t 0) (wayC F Hd Br li wi di ta yr kd hd (t 0)))) cl_X5_bit nl_RX1_69 sm_X5_bit rfl ⟨rfl, rfl, rfl⟩ ?_
    refine v_lor g dX1_goRow_74 ?_
    refine v_put g dX1_goRow_75 fl_RX1_43 (fo_O B _ _ _ _ _ _ _ _ _ _ hi) ⟨rfl, rfl⟩ rfl ?_
    refine v_meq (st_O B _ _ _ _ _ _ _ _ _ _ hi rc yr di le ((ta &&& (bitC (treeAtC sz t (sz - 1)) ^^^ (-1))) ||| bitC (nextC li wi (t 0) (wayC F Hd Br li wi di ta yr kd hd (t 0)))) (en ||| bitC (nextC li wi (t 0) (wayC F Hd Br li wi di ta yr kd hd (t 0))))) ?_
    refine v_aload_n g dX1_goRow_78 3 rfl ?_
    refine v_iload_n g dX1_goRow_79 1 rfl ?_
    refine v_put g dX1_goRow_80 fl_RX1_89 (fo_Rf B _ _ _ _ _ _ _ _ _ _ hi hr _ _ _ _ _) ⟨rfl, rfl⟩ rfl ?_
    refine v_meq (st_Rf B _ _ _ _ _ _ _ _ _ _ hi hr _ _ _ _ sz kd (wayC F Hd Br li wi di ta yr kd hd (t 0)) be _) ?_
    refine v_iconst (v := 3) g dX1_goRow_83 (by decide) ?_
    refine v_istore (ls' := [(4, .int 3), (3, .int (nextC li wi (t 0) (wayC F Hd Br li wi di ta yr kd hd (t 0)))), (2, .int (wayC F Hd Br li wi di ta yr kd hd (t 0))), (0, .ref (adO B i)), (1, .ref (adR B i r))]) g dX1_goRow_84 rfl rfl ?_
    refine v_iload g dX1_goRow_86 0 rfl ?_
    refine v_if_le (tgt := 113) g dX1_goRow_88 (by decide) (fun h => absurd h (by decide)) (fun _ => ?_)
    refine v_aload_n g dX1_goRow_91 4 rfl ?_
    refine v_get g dX1_goRow_92 fl_RX1_104 (fo_Rf B _ _ _ _ _ _ _ _ _ _ hi hr _ _ _ _ _) rfl ?_
    refine v_iload g dX1_goRow_95 0 rfl ?_
    refine v_aload_n g dX1_goRow_97 4 rfl ?_
    refine v_get g dX1_goRow_98 fl_RX1_104 (fo_Rf B _ _ _ _ _ _ _ _ _ _ hi hr _ _ _ _ _) rfl ?_
    refine v_iload g dX1_goRow_101 0 rfl ?_
    refine v_iconst (v := 1) g dX1_goRow_103 (by decide) ?_
    refine v_isub g dX1_goRow_104 (v_eqi (y := 2) (by decide) ?_)
    refine v_iald g dX1_goRow_105 (fo_Tf B _ _ _ _ _ _ _ _ _ _ hi hr _ _ _ _ _) (by unfold vp_in; decide) (v_eqi (y := (t 2)) rfl ?_)
    refine v_iast g dX1_goRow_106 (fo_Tf B _ _ _ _ _ _ _ _ _ _ hi hr _ _ _ _ _) (by unfold vp_in; decide) ?_
    refine v_meq (st_Tf B _ _ _ _ _ _ _ _ _ _ hi hr _ _ _ _ _ (upd t 3 (t 2))) ?_
    refine v_iinc (v := 2) (ls' := [(4, .int 2), (3, .int (nextC li wi (t 0) (wayC F Hd Br li wi di ta yr kd hd (t 0)))), (2, .int (wayC F Hd Br li wi di ta yr kd hd (t 0))), (0, .ref (adO B i)), (1, .ref (adR B i r))]) g dX1_goRow_107 0 rfl rfl rfl rfl ?_
    refine v_goto (tgt := 86) g dX1_goRow_110 (by decide) ?_
    refine v_iload g dX1_goRow_86 0 rfl ?_
    refine v_if_le (tgt := 113) g dX1_goRow_88 (by decide) (fun h => absurd h (by decide)) (fun _ => ?_)
    refine v_aload_n g dX1_goRow_91 4 rfl ?_
    refine v_get g dX1_goRow_92 fl_RX1_104 (fo_Rf B _ _ _ _ _ _ _ _ _ _ hi hr _ _ _ _ _) rfl ?_
    refine v_iload g dX1_goRow_95 0 rfl ?_
    refine v_aload_n g dX1_goRow_97 4 rfl ?_
    refine v_get g dX1_goRow_98 fl_RX1_104 (fo_Rf B _ _ _ _ _ _ _ _ _ _ hi hr _ _ _ _ _) rfl ?_
    refine v_iload g dX1_goRow_101 0 rfl ?_
    refine v_iconst (v := 1) g dX1_goRow_103 (by decide) ?_
    refine v_isub g dX1_goRow_104 (v_eqi (y := 1) (by decide) ?_)
    refine v_iald g dX1_goRow_105 (fo_Tf B _ _ _ _ _ _ _ _ _ _ hi hr _ _ _ _ _) (by unfold vp_in; decide) (v_eqi (y := (t 1)) rfl ?_)
    refine v_iast g dX1_goRow_106 (fo_Tf B _ _ _ _ _ _ _ _ _ _ hi hr _ _ _ _ _) (by unfold vp_in; decide) ?_
    refine v_meq (st_Tf B _ _ _ _ _ _ _ _ _ _ hi hr _ _ _ _ _ (upd (upd t 3 (t 2)) 2 (t 1))) ?_
    refine v_iinc (v := 1) (ls' := [(4, .int 1), (3, .int (nextC li wi (t 0) (wayC F Hd Br li wi di ta yr kd hd (t 0)))), (2, .int (wayC F Hd Br li wi di ta yr kd hd (t 0))), (0, .ref (adO B i)), (1, .ref (adR B i r))]) g dX1_goRow_107 0 rfl rfl rfl rfl ?_
    refine v_goto (tgt := 86) g dX1_goRow_110 (by decide) ?_
    refine v_iload g dX1_goRow_86 0 rfl ?_
    refine v_if_le (tgt := 113) g dX1_goRow_88 (by decide) (fun h => absurd h (by decide)) (fun _ => ?_)
    refine v_aload_n g dX1_goRow_91 4 rfl ?_
    refine v_get g dX1_goRow_92 fl_RX1_104 (fo_Rf B _ _ _ _ _ _ _ _ _ _ hi hr _ _ _ _ _) rfl ?_
    refine v_iload g dX1_goRow_95 0 rfl ?_
    refine v_aload_n g dX1_goRow_97 4 rfl ?_
    refine v_get g dX1_goRow_98 fl_RX1_104 (fo_Rf B _ _ _ _ _ _ _ _ _ _ hi hr _ _ _ _ _) rfl ?_
    refine v_iload g dX1_goRow_101 0 rfl ?_
    refine v_iconst (v := 1) g dX1_goRow_103 (by decide) ?_
    refine v_isub g dX1_goRow_104 (v_eqi (y := 0) (by decide) ?_)
    refine v_iald g dX1_goRow_105 (fo_Tf B _ _ _ _ _ _ _ _ _ _ hi hr _ _ _ _ _) (by unfold vp_in; decide) (v_eqi (y := (t 0)) rfl ?_)
    refine v_iast g dX1_goRow_106 (fo_Tf B _ _ _ _ _ _ _ _ _ _ hi hr _ _ _ _ _) (by unfold vp_in; decide) ?_
    refine v_meq (st_Tf B _ _ _ _ _ _ _ _ _ _ hi hr _ _ _ _ _ (upd (upd (upd t 3 (t 2)) 2 (t 1)) 1 (t 0))) ?_
    refine v_iinc (v := 0) (ls' := [(4, .int 0), (3, .int (nextC li wi (t 0) (wayC F Hd Br li wi di ta yr kd hd (t 0)))), (2, .int (wayC F Hd Br li wi di ta yr kd hd (t 0))), (0, .ref (adO B i)), (1, .ref (adR B i r))]) g dX1_goRow_107 0 rfl rfl rfl rfl ?_
    refine v_goto (tgt := 86) g dX1_goRow_110 (by decide) ?_
    refine v_iload g dX1_goRow_86 0 rfl ?_
    refine v_if_le (tgt := 113) g dX1_goRow_88 (by decide) (fun _ => ?_) (fun h => absurd (by decide) h)
    refine v_aload_n g dX1_goRow_113 4 rfl ?_
    refine v_get g dX1_goRow_114 fl_RX1_104 (fo_Rf B _ _ _ _ _ _ _ _ _ _ hi hr _ _ _ _ _) rfl ?_
    refine v_iconst (v := 0) g dX1_goRow_117 (by decide) ?_
    refine v_iload_n g dX1_goRow_118 1 rfl ?_
    refine v_iast g dX1_goRow_119 (fo_Tf B _ _ _ _ _ _ _ _ _ _ hi hr _ _ _ _ _) (by unfold vp_in; decide) ?_
    refine v_meq (st_Tf B _ _ _ _ _ _ _ _ _ _ hi hr _ _ _ _ _ (upd (upd (upd (upd t 3 (t 2)) 2 (t 1)) 1 (t 0)) 0 (nextC li wi (t 0) (wayC F Hd Br li wi di ta yr kd hd (t 0))))) ?_
    refine v_aload_n g dX1_goRow_120 3 rfl ?_
    refine v_get g dX1_goRow_121 fl_RX1_21 (fo_O B _ _ _ _ _ _ _ _ _ _ hi) rfl ?_
    refine v_get g dX1_goRow_124 fl_RX1_83 (fo_L2 B _ _ _ _ _ _ _ _ _ _ hi hL) rfl ?_
    refine v_iload_n g dX1_goRow_127 1 rfl ?_
    refine v_callSN (As := [.long Hd, .int (nextC li wi (t 0) (wayC F Hd Br li wi di ta yr kd hd (t 0)))]) (r := some (.int (zB (ctn Hd (nextC li wi (t 0) (wayC F Hd Br li wi di ta yr kd hd (t 0))))))) g dX1_goRow_128 (k_X5_contains Hd (nextC li wi (t 0) (wayC F Hd Br li wi di ta yr kd hd (t 0)))) cl_X5_contains nl_RX1_50 sm_X5_contains rfl ⟨rfl, rfl, rfl⟩ ?_
    refine v_if_eq (tgt := 140) g dX1_goRow_131 (by decide) (fun h131 => ?_) (fun h131 => ?_)
    · skip
      have h131 := zB_f0 h131
      exact v_vret g E dX1_goRow_140 rfl ⟨rfl, rfl, by simp only [goRowF, takenC, sh4, if_pos, if_neg, *, ↓reduceIte, Bool.false_eq_true]⟩
    · skip
      have h131 := zB_t0 h131
      refine v_aload_n g dX1_goRow_134 3 rfl ?_
      refine v_iload_n g dX1_goRow_135 1 rfl ?_
      refine v_iconst (v := 1) g dX1_goRow_136 (by decide) ?_
      refine v_callV (As := [.int (nextC li wi (t 0) (wayC F Hd Br li wi di ta yr kd hd (t 0))), .int 1]) (r := none) g dX1_goRow_137 (k_X1_give hi hL rc yr di le ((ta &&& (bitC (treeAtC sz t (sz - 1)) ^^^ (-1))) ||| bitC (nextC li wi (t 0) (wayC F Hd Br li wi di ta yr kd hd (t 0)))) (en ||| bitC (nextC li wi (t 0) (wayC F Hd Br li wi di ta yr kd hd (t 0)))) ow (va_up rs r (sz, kd, wayC F Hd Br li wi di ta yr kd hd (t 0), be, (upd (upd (upd (upd t 3 (t 2)) 2 (t 1)) 1 (t 0)) 0 (nextC li wi (t 0) (wayC F Hd Br li wi di ta yr kd hd (t 0)))))) (nextC li wi (t 0) (wayC F Hd Br li wi di ta yr kd hd (t 0))) 1) cl_X1_give ml_RX1_107 im_X1_give (fo_O B _ _ _ _ _ _ _ _ _ _ hi) rfl rfl ⟨rfl, rfl, rfl⟩ ?_
      exact v_vret g E dX1_goRow_140 rfl ⟨rfl, rfl, by simp only [goRowF, takenC, sh4, if_pos, if_neg, *, ↓reduceIte, Bool.false_eq_true]⟩
  · skip
    exact v_vret g E dX1_goRow_12 rfl ⟨rfl, rfl, by simp only [goRowF, takenC, sh4, if_pos, if_neg, *, ↓reduceIte, Bool.false_eq_true]⟩
end C2
