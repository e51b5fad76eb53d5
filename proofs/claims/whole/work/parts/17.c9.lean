/-! CLASS: its own methods (3): what fits, frost, centuries -/
def seenFrom (C : CS) (r t f : Int32) : Nat → Nat → Bool
  | 0, _ => true
  | q + 1, i => if (cW C).2 ≤ nI i then true else if ¬ cA C 1 i = r then seenFrom C r t f q (i + 1) else if ¬ cA C 3 i = t then seenFrom C r t f q (i + 1) else if cA C 2 i = f then seenFrom C r t f q (i + 1) else false
def allFrom (C : CS) (r : Int32) : Nat → Nat → OV → Bool × OV
  | 0, _, a => (true, a)
  | q + 1, t, a => if seenFrom C r (nI t) (firstR a r) 6 0 = true then allFrom C r q (t + 1) (goYearC (cL C 0) (-4) a) else (false, a)
def allC (C : CS) (a : OV) (r : Int32) : Bool × OV := allFrom C r 21 0 a
def fitO (a : OV) (r : Nat) (w v : Int32) : OV := if w = 0 then putRow a r ((a.2.2.2.2.2.2.2 r).1, (a.2.2.2.2.2.2.2 r).2.1, v, (a.2.2.2.2.2.2.2 r).2.2.2.1, (a.2.2.2.2.2.2.2 r).2.2.2.2) else putRow a r ((a.2.2.2.2.2.2.2 r).1, v, (a.2.2.2.2.2.2.2 r).2.2.1, (a.2.2.2.2.2.2.2 r).2.2.2.1, (a.2.2.2.2.2.2.2 r).2.2.2.2)
def fitFrom (C : CS) (r w : Int32) : Nat → Nat → Int32 → OV → Int32 × OV
  | 0, _, f, a => (f, a)
  | q + 1, v, f, a => if (allC C (fitO (copyC a (cO C 0)) r.toNatClampNeg w (nI v)) r).1 = true then fitFrom C r w q (v + 1) (f ||| 1 <<< (nI v &&& 31)) (allC C (fitO (copyC a (cO C 0)) r.toNatClampNeg w (nI v)) r).2 else fitFrom C r w q (v + 1) f (allC C (fitO (copyC a (cO C 0)) r.toNatClampNeg w (nI v)) r).2
def fitsC (C : CS) (a : OV) (r w : Int32) : Int32 × OV := if rC C r = false then (-1, a) else if withinC w 0 1 = false then (-1, a) else fitFrom C r w 4 0 0 a
def ffFrom (L : LV) (r s : Int32) : Nat → Nat → OV → OV
  | 0, _, a => a
  | q + 1, k, a => ffFrom L r s q (k + 1) (goYearC L (if ctn s.toInt64 (nI k) = true then r else -4) a)
def ffA (C : CS) (a : OV) (m : Nat) (r s : Int32) : OV := ffFrom (cL C 0) r s m 0 (copyC a (cO C 0))
def wtFrom (s x : Int32) : Nat → Nat → Int64 → Int64
  | 0, _, w => w
  | q + 1, k, w => wtFrom s x q (k + 1) (w * (if ctn s.toInt64 (nI k) = true then x.toInt64 else (10 - x).toInt64))
def casFrom (C : CS) (m : Nat) (r cell x : Int32) : Nat → Nat → Int64 → OV → Int64 × OV
  | 0, _, c, a => (c, a)
  | q + 1, s, c, a => if lg_cmp (wtFrom (nI s) x m 0 1) 0 ≤ 0 then casFrom C m r cell x q (s + 1) c a else if ¬ firstR (ffA C a m r (nI s)) r = cell then casFrom C m r cell x q (s + 1) c (ffA C a m r (nI s)) else casFrom C m r cell x q (s + 1) (c + wtFrom (nI s) x m 0 1) (ffA C a m r (nI s))
def p10From : Nat → Int64 → Int64
  | 0, b => b
  | q + 1, b => p10From q (b * 10)
def redD (d : Int64) (z : Int64 × Int64) : Int64 × Int64 := if ¬ lg_cmp (z.1 % d) 0 = 0 then z else if ¬ lg_cmp (z.2 % d) 0 = 0 then z else (z.1 / d, z.2 / d)
def redFrom : Nat → Int64 × Int64 → Int64 × Int64
  | 0, z => z
  | q + 1, z => redFrom q (redD 5 (redD 2 z))
def frostZ (C : CS) (a : OV) (m : Nat) (r cell x : Int32) : Int64 × Int64 := redFrom m ((casFrom C m r cell x (2 ^ m) 0 0 a).1, p10From m 1)
def frostC (C : CS) (a : OV) (r cell n x w : Int32) : Int32 × OV := if rC C r = false then (-1, a) else if hC C cell = false then (-1, a) else if withinC n 0 8 = false then (-1, a) else if withinC x 0 10 = false then (-1, a) else if withinC w 0 1 = false then (-1, a) else ((if w = 0 then (frostZ C a n.toNatClampNeg r cell x).1 else (frostZ C a n.toNatClampNeg r cell x).2).toInt32, (casFrom C n.toNatClampNeg r cell x (2 ^ n.toNatClampNeg) 0 0 a).2)
def disC (C : CS) (a : OV) (d : Int32) : OV := if cellsC C < 1 then a else if a.1 < 1 then a else if d < 0 then a else if d % 8 = 0 then digInC (cL C 0).1 a (d / 8 % cellsC C) else if d % 8 = 1 then digInC (cL C 0).1 a (d / 8 % cellsC C) else if d % 8 = 2 then fillInC a (d / 8 % cellsC C) else if d % 8 = 3 then leaveC a (minC (d / 8 % a.1) 2).toNatClampNeg else a
def cenFrom (C : CS) (z : Int32) : Nat → Nat → OV → OV
  | 0, _, a => a
  | q + 1, k, a => cenFrom C z q (k + 1) (yearsC (cL C 0) 1 (disC C a (drawC z (nI k))))
def cenC (C : CS) (a : OV) (z n w : Int32) : Int32 × OV := if withinC z 0 9999 = false then (-1, a) else if withinC n 1 60 = false then (-1, a) else if withinC w 0 1 = false then (-1, a) else ((if w = 0 then allHaveC (cenFrom C z n.toNatClampNeg 0 (copyC a (cO C 0))).2.2.2.2.2.2.1 else bcC (cenFrom C z n.toNatClampNeg 0 (copyC a (cO C 0))).2.2.1), cenFrom C z n.toNatClampNeg 0 (copyC a (cO C 0)))
theorem shl_nI {m : Nat} (h : m ≤ 8) : (1 : Int32) <<< (nI m &&& 31) = nI (2 ^ m) := by
  rcases m with _ | _ | _ | _ | _ | _ | _ | _ | _ | m
  any_goals decide
  omega
theorem min_nI {x : Int32} (h : ¬ x < 0) : ∃ r : Nat, r < 3 ∧ minC x 2 = nI r := by
  unfold minC
  split
  · exact ⟨2, by decide, rfl⟩
  · rename_i h2
    rw [Int32.lt_iff_toInt_lt] at h2
    have e2 : (2 : Int32).toInt = 2 := rfl
    obtain ⟨j, hj, e⟩ := nI_of h
    have h3 := nI_toInt hj
    rw [e] at h2 ⊢
    exact ⟨j, by omega, rfl⟩
theorem dis_pos {d c : Int32} (h : 0 ≤ d) : ¬ d / 8 % c < 0 := by
  rw [Int32.le_iff_toInt_le] at h
  rw [Int32.lt_iff_toInt_lt, Int32.toInt_mod, Int32.toInt_div_of_ne_right d 8 (by decide)]
  have e0 : (0 : Int32).toInt = 0 := rfl
  have e8 : (8 : Int32).toInt = 8 := rfl
  rw [e0] at h
  rw [e0, e8]
  have := Int.tmod_nonneg c.toInt (Int.tdiv_nonneg h (by decide : (0 : Int) ≤ 8))
  omega
section C9
variable {l : Launch} {G : GG} {n : Nat} {B : Nat} {C : CS} {ρ : Mu}
theorem k_digA (a : OV) (x : Int32) : Ctr l G 2 43 0 0 mX1_digIn [.ref (adO B 1), .int x] n (ren B (sO C 1 a) ρ) none n (ren B (sO C 1 (digInC (cL C 0).1 a x)) ρ) := k_X1_digIn (C := C) (i := 1) (by decide) (F := (cL C 0).1) (Hd := (cL C 0).2.1) (Br := (cL C 0).2.2.1) (li := (cL C 0).2.2.2.1) (wi := (cL C 0).2.2.2.2.1) (lo := (cL C 0).2.2.2.2.2) rfl a.1 a.2.1 a.2.2.1 a.2.2.2.1 a.2.2.2.2.1 a.2.2.2.2.2.1 a.2.2.2.2.2.2.1 a.2.2.2.2.2.2.2 x
theorem k_fillA (a : OV) (x : Int32) : Ctr l G 1 20 0 0 mX1_fillIn [.ref (adO B 1), .int x] n (ren B (sO C 1 a) ρ) none n (ren B (sO C 1 (fillInC a x)) ρ) := k_X1_fillIn (C := C) (i := 1) (by decide) a.1 a.2.1 a.2.2.1 a.2.2.2.1 a.2.2.2.2.1 a.2.2.2.2.2.1 a.2.2.2.2.2.2.1 a.2.2.2.2.2.2.2 x
theorem k_leaveA (a : OV) {r : Nat} (hr : r < 3) : Ctr l G 1 21 0 0 mX1_leaveLast [.ref (adO B 1), .ref (adR B 1 r)] n (ren B (sO C 1 a) ρ) (some (.int (leaveR (a.2.2.2.2.2.2.2 r).1 (a.2.2.2.2.2.2.2 r).2.2.2.2))) n (ren B (sO C 1 (leaveC a r)) ρ) := by
  have h := k_leaveC (l := l) (G := G) (n := n) (B := B) (C := sO C 1 a) (ρ := ρ) (i := 1) (by decide) hr
  rw [sO_sO] at h
  exact h
theorem k_X5_allSeenComes (a : OV) (r : Int32) : Ctr l G 4 98 0 0 mX5_allSeenComes [.ref B, .int r] n (ren B (sO C 1 a) ρ) (some (.int (zB (allC C a r).1))) n (ren B (sO C 1 (allC C a r).2) ρ) := by
  refine Ctr.of (by decide +kernel) rfl (fun X g E => ?_)
  have loop : ∀ (q t : Nat) (b : OV), t + q = 21 → allC C a r = allFrom C r q t b → V X 0 0 n (ren B (sO C 1 b) ρ) 2 [(2, .int (nI t)), (0, .ref B), (1, .int r)] [] := by
    intro q
    induction q with
    | zero =>
      intro t b hq he
      refine v_iload_n g dX5_allSeenComes_2 0 rfl ?_
      refine v_bipush (v := 20) g dX5_allSeenComes_3 (by decide) ?_
      refine v_icmp_gt (tgt := 112) g dX5_allSeenComes_5 (by decide) (fun h5 => ?_) (fun h5 => absurd (nI_lt (a := 20) (b := t) (by omega) (by omega)) h5)
      refine v_iconst (v := 1) g dX5_allSeenComes_112 (by decide) ?_
      exact v_zret g E dX5_allSeenComes_113 rfl rfl ⟨by rw [he]; rfl, rfl, by rw [he]; rfl⟩
    | succ q ih =>
      intro t b hq he
      have inner : ∀ (u i : Nat), i + u = 6 → seenFrom C r (nI t) (firstR b r) 6 0 = seenFrom C r (nI t) (firstR b r) u i → V X 0 0 n (ren B (sO C 1 b) ρ) 40 [(4, .int (nI i)), (3, .int (firstR b r)), (2, .int (nI t)), (0, .ref B), (1, .int r)] [] := by
        intro u
        induction u with
        | zero =>
          intro i hu h2
          refine v_iload g dX5_allSeenComes_40 0 rfl ?_
          refine v_aload_n g dX5_allSeenComes_42 3 rfl ?_
          refine v_get g dX5_allSeenComes_43 fl_RX5_97 (rd_W B _ _) rfl ?_
          refine v_eqi (y := (cW C).2) rfl ?_
          refine v_icmp_ge (tgt := 97) g dX5_allSeenComes_46 (by decide) (fun h46 => ?_) (fun h46 => ?_)
          · skip
            refine v_aload_n g dX5_allSeenComes_97 3 rfl ?_
            refine v_get g dX5_allSeenComes_98 fl_RX5_29 (rd_W B _ _) rfl ?_
            refine v_bipush (v := (-4)) g dX5_allSeenComes_101 (by decide) ?_
            refine v_callV (As := [.int (-4)]) (r := none) g dX5_allSeenComes_103 (k_X1_goYear (C := C) (i := 1) (by decide) (L := cL C 0) rfl b (-4)) cl_X1_goYear ml_RX5_210 im_X1_goYear (rd_O B _ _ (by decide)) rfl rfl ⟨rfl, rfl, rfl⟩ ?_
            refine v_iinc (v := nI (t + 1)) (ls' := [(2, .int (nI (t + 1))), (4, .int (nI i)), (3, .int (firstR b r)), (0, .ref B), (1, .int r)]) g dX5_allSeenComes_106 2 rfl (nI_1 t) rfl rfl ?_
            refine v_goto (tgt := 2) g dX5_allSeenComes_109 (by decide) ?_
            refine v_sub (ls' := [(2, .int (nI (t + 1))), (0, .ref B), (1, .int r)]) [0, 3, 4] rfl ?_
            exact ih (t + 1) _ (by omega) (by rw [he, allFrom, if_pos (by rw [h2, seenFrom])])
          · skip
            refine v_iload g dX5_allSeenComes_49 0 rfl ?_
            refine v_bipush (v := 6) g dX5_allSeenComes_51 (by decide) ?_
            refine v_icmp_ge (tgt := 97) g dX5_allSeenComes_53 (by decide) (fun h53 => ?_) (fun h53 => absurd (nI_le (a := 6) (b := i) (by omega) (by omega)) h53)
            refine v_aload_n g dX5_allSeenComes_97 3 rfl ?_
            refine v_get g dX5_allSeenComes_98 fl_RX5_29 (rd_W B _ _) rfl ?_
            refine v_bipush (v := (-4)) g dX5_allSeenComes_101 (by decide) ?_
            refine v_callV (As := [.int (-4)]) (r := none) g dX5_allSeenComes_103 (k_X1_goYear (C := C) (i := 1) (by decide) (L := cL C 0) rfl b (-4)) cl_X1_goYear ml_RX5_210 im_X1_goYear (rd_O B _ _ (by decide)) rfl rfl ⟨rfl, rfl, rfl⟩ ?_
            refine v_iinc (v := nI (t + 1)) (ls' := [(2, .int (nI (t + 1))), (4, .int (nI i)), (3, .int (firstR b r)), (0, .ref B), (1, .int r)]) g dX5_allSeenComes_106 2 rfl (nI_1 t) rfl rfl ?_
            refine v_goto (tgt := 2) g dX5_allSeenComes_109 (by decide) ?_
            refine v_sub (ls' := [(2, .int (nI (t + 1))), (0, .ref B), (1, .int r)]) [0, 3, 4] rfl ?_
            exact ih (t + 1) _ (by omega) (by rw [he, allFrom, if_pos (by rw [h2, seenFrom])])
        | succ u ihu =>
          intro i hu h2
          refine v_iload g dX5_allSeenComes_40 0 rfl ?_
          refine v_aload_n g dX5_allSeenComes_42 3 rfl ?_
          refine v_get g dX5_allSeenComes_43 fl_RX5_97 (rd_W B _ _) rfl ?_
          refine v_eqi (y := (cW C).2) rfl ?_
          refine v_icmp_ge (tgt := 97) g dX5_allSeenComes_46 (by decide) (fun h46 => ?_) (fun h46 => ?_)
          · skip
            refine v_aload_n g dX5_allSeenComes_97 3 rfl ?_
            refine v_get g dX5_allSeenComes_98 fl_RX5_29 (rd_W B _ _) rfl ?_
            refine v_bipush (v := (-4)) g dX5_allSeenComes_101 (by decide) ?_
            refine v_callV (As := [.int (-4)]) (r := none) g dX5_allSeenComes_103 (k_X1_goYear (C := C) (i := 1) (by decide) (L := cL C 0) rfl b (-4)) cl_X1_goYear ml_RX5_210 im_X1_goYear (rd_O B _ _ (by decide)) rfl rfl ⟨rfl, rfl, rfl⟩ ?_
            refine v_iinc (v := nI (t + 1)) (ls' := [(2, .int (nI (t + 1))), (4, .int (nI i)), (3, .int (firstR b r)), (0, .ref B), (1, .int r)]) g dX5_allSeenComes_106 2 rfl (nI_1 t) rfl rfl ?_
            refine v_goto (tgt := 2) g dX5_allSeenComes_109 (by decide) ?_
            refine v_sub (ls' := [(2, .int (nI (t + 1))), (0, .ref B), (1, .int r)]) [0, 3, 4] rfl ?_
            exact ih (t + 1) _ (by omega) (by rw [he, allFrom, if_pos (by rw [h2, seenFrom, if_pos h46])])
          · skip
            refine v_iload g dX5_allSeenComes_49 0 rfl ?_
            refine v_bipush (v := 6) g dX5_allSeenComes_51 (by decide) ?_
            refine v_icmp_ge (tgt := 97) g dX5_allSeenComes_53 (by decide) (fun h53 => absurd h53 (nI_ge (a := i) (b := 6) (by omega) (by decide))) (fun h53 => ?_)
            refine v_aload_n g dX5_allSeenComes_56 3 rfl ?_
            refine v_get g dX5_allSeenComes_57 fl_RX5_51 (rd_W B _ _) rfl ?_
            refine v_iload g dX5_allSeenComes_60 0 rfl ?_
            refine v_iald g dX5_allSeenComes_62 (rd_A B _ _ (by decide)) (vp_in_nI (show i < 6 by omega) (by decide)) (v_eqi (y := ((cA C 1) i)) (by first | (rw [nI_clamp (by omega)]; done) | (rw [nI_clamp (by omega)]; rfl)) ?_)
            refine v_iload_n g dX5_allSeenComes_63 4 rfl ?_
            refine v_icmp_ne (tgt := 91) g dX5_allSeenComes_64 (by decide) (fun h64 => ?_) (fun h64 => ?_)
            · skip
              refine v_iinc (v := nI (i + 1)) (ls' := [(4, .int (nI (i + 1))), (3, .int (firstR b r)), (2, .int (nI t)), (0, .ref B), (1, .int r)]) g dX5_allSeenComes_91 0 rfl (nI_1 i) rfl rfl ?_
              refine v_goto (tgt := 40) g dX5_allSeenComes_94 (by decide) ?_
              refine v_sub (ls' := [(4, .int (nI (i + 1))), (3, .int (firstR b r)), (2, .int (nI t)), (0, .ref B), (1, .int r)]) [0, 1, 2, 3, 4] rfl ?_
              exact ihu (i + 1) (by omega) (by first | rw [h2, seenFrom, if_neg h46, if_pos h64] | rw [h2, seenFrom, if_neg h46, if_neg (fun h => h h64), if_pos h75] | rw [h2, seenFrom, if_neg h46, if_neg (fun h => h h64), if_neg (fun h => h h75), if_pos h86])
            · skip
              refine v_aload_n g dX5_allSeenComes_67 3 rfl ?_
              refine v_get g dX5_allSeenComes_68 fl_RX5_58 (rd_W B _ _) rfl ?_
              refine v_iload g dX5_allSeenComes_71 0 rfl ?_
              refine v_iald g dX5_allSeenComes_73 (rd_A B _ _ (by decide)) (vp_in_nI (show i < 6 by omega) (by decide)) (v_eqi (y := ((cA C 3) i)) (by first | (rw [nI_clamp (by omega)]; done) | (rw [nI_clamp (by omega)]; rfl)) ?_)
              refine v_iload_n g dX5_allSeenComes_74 2 rfl ?_
              refine v_icmp_ne (tgt := 91) g dX5_allSeenComes_75 (by decide) (fun h75 => ?_) (fun h75 => ?_)
              · skip
                refine v_iinc (v := nI (i + 1)) (ls' := [(4, .int (nI (i + 1))), (3, .int (firstR b r)), (2, .int (nI t)), (0, .ref B), (1, .int r)]) g dX5_allSeenComes_91 0 rfl (nI_1 i) rfl rfl ?_
                refine v_goto (tgt := 40) g dX5_allSeenComes_94 (by decide) ?_
                refine v_sub (ls' := [(4, .int (nI (i + 1))), (3, .int (firstR b r)), (2, .int (nI t)), (0, .ref B), (1, .int r)]) [0, 1, 2, 3, 4] rfl ?_
                exact ihu (i + 1) (by omega) (by first | rw [h2, seenFrom, if_neg h46, if_pos h64] | rw [h2, seenFrom, if_neg h46, if_neg (fun h => h h64), if_pos h75] | rw [h2, seenFrom, if_neg h46, if_neg (fun h => h h64), if_neg (fun h => h h75), if_pos h86])
              · skip
                refine v_aload_n g dX5_allSeenComes_78 3 rfl ?_
                refine v_get g dX5_allSeenComes_79 fl_RX5_55 (rd_W B _ _) rfl ?_
                refine v_iload g dX5_allSeenComes_82 0 rfl ?_
                refine v_iald g dX5_allSeenComes_84 (rd_A B _ _ (by decide)) (vp_in_nI (show i < 6 by omega) (by decide)) (v_eqi (y := ((cA C 2) i)) (by first | (rw [nI_clamp (by omega)]; done) | (rw [nI_clamp (by omega)]; rfl)) ?_)
                refine v_iload_n g dX5_allSeenComes_85 1 rfl ?_
                refine v_icmp_eq (tgt := 91) g dX5_allSeenComes_86 (by decide) (fun h86 => ?_) (fun h86 => ?_)
                · skip
                  refine v_iinc (v := nI (i + 1)) (ls' := [(4, .int (nI (i + 1))), (3, .int (firstR b r)), (2, .int (nI t)), (0, .ref B), (1, .int r)]) g dX5_allSeenComes_91 0 rfl (nI_1 i) rfl rfl ?_
                  refine v_goto (tgt := 40) g dX5_allSeenComes_94 (by decide) ?_
                  refine v_sub (ls' := [(4, .int (nI (i + 1))), (3, .int (firstR b r)), (2, .int (nI t)), (0, .ref B), (1, .int r)]) [0, 1, 2, 3, 4] rfl ?_
                  exact ihu (i + 1) (by omega) (by first | rw [h2, seenFrom, if_neg h46, if_pos h64] | rw [h2, seenFrom, if_neg h46, if_neg (fun h => h h64), if_pos h75] | rw [h2, seenFrom, if_neg h46, if_neg (fun h => h h64), if_neg (fun h => h h75), if_pos h86])
                · skip
                  refine v_iconst (v := 0) g dX5_allSeenComes_89 (by decide) ?_
                  exact v_zret g E dX5_allSeenComes_90 rfl rfl ⟨by rw [he, allFrom, if_neg (by rw [h2, seenFrom, if_neg h46, if_neg (fun h => h h64), if_neg (fun h => h h75), if_neg h86]; decide)]; rfl, rfl, by rw [he, allFrom, if_neg (by rw [h2, seenFrom, if_neg h46, if_neg (fun h => h h64), if_neg (fun h => h h75), if_neg h86]; decide)]⟩
      refine v_iload_n g dX5_allSeenComes_2 0 rfl ?_
      refine v_bipush (v := 20) g dX5_allSeenComes_3 (by decide) ?_
      refine v_icmp_gt (tgt := 112) g dX5_allSeenComes_5 (by decide) (fun h5 => absurd h5 (nI_nlt (a := 20) (b := t) (by omega) (by decide))) (fun h5 => ?_)
      refine v_aload_n g dX5_allSeenComes_8 1 rfl ?_
      refine v_get g dX5_allSeenComes_9 fl_RX5_29 (rd_W B _ _) rfl ?_
      refine v_iload_n g dX5_allSeenComes_12 2 rfl ?_
      refine v_callV (As := [.int r]) (r := some (.int (zB (orHoldsC b.1 r)))) g dX5_allSeenComes_13 (k_holdsOC (C := sO C 1 b) (i := 1) (by decide) r) cl_X1_holds ml_RX5_125 im_X1_holds (rd_O B _ _ (by decide)) rfl rfl ⟨rfl, rfl, rfl⟩ ?_
      refine v_if_eq_d (tgt := 34) (u := -4) (v := (b.2.2.2.2.2.2.2 r.toNatClampNeg).2.2.2.2 0) 36 g dX5_allSeenComes_16 (by decide) (fun h16 K => ?_) (fun h16 K => ?_) ?_
      · skip
        have h16 := zB_f0 h16
        refine v_bipush (v := (-4)) g dX5_allSeenComes_34 (by decide) ?_
        exact K
      · skip
        have h16 := zB_t0 h16
        refine v_aload_n g dX5_allSeenComes_19 1 rfl ?_
        refine v_get g dX5_allSeenComes_20 fl_RX5_29 (rd_W B _ _) rfl ?_
        refine v_get g dX5_allSeenComes_23 fl_RX5_126 (rd_O B _ _ (by decide)) rfl ?_
        refine v_iload_n g dX5_allSeenComes_26 2 rfl ?_
        obtain ⟨r0, hr0, er⟩ := orHolds_nI h16
        refine v_eqi er ?_
        refine v_aaldR (v := .ref (adR B 1 r0)) g dX5_allSeenComes_27 (rd_Rs B _ _ (by decide)) (vp_in_nI (by omega) (by decide)) (by rw [nI_clamp (by omega)]; rfl) ?_
        refine v_callV (As := []) (r := some (.int ((b.2.2.2.2.2.2.2 r0).2.2.2.2 0))) g dX5_allSeenComes_28 (k_X4_first (rd_R B _ _ (by decide) hr0) (rd_T B _ _ (by decide) hr0)) cl_X4_first ml_RX5_144 im_X4_first (rd_R B _ _ (by decide) hr0) rfl rfl ⟨rfl, rfl, rfl⟩ ?_
        refine v_eqi (y := (b.2.2.2.2.2.2.2 r.toNatClampNeg).2.2.2.2 0) (by rw [er, nI_clamp (by omega)]) ?_
        refine v_goto (tgt := 36) g dX5_allSeenComes_31 (by decide) ?_
        exact K
      refine v_eqi (y := firstR b r) (by unfold firstR; cases orHoldsC b.1 r <;> simp [zB]) ?_
      refine v_istore_n (ls' := [(3, .int (firstR b r)), (2, .int (nI t)), (0, .ref B), (1, .int r)]) g dX5_allSeenComes_36 rfl rfl ?_
      refine v_iconst (v := 0) g dX5_allSeenComes_37 (by decide) ?_
      refine v_istore (ls' := [(4, .int 0), (3, .int (firstR b r)), (2, .int (nI t)), (0, .ref B), (1, .int r)]) g dX5_allSeenComes_38 rfl rfl ?_
      refine v_sub (ls' := [(4, .int 0), (3, .int (firstR b r)), (2, .int (nI t)), (0, .ref B), (1, .int r)]) [0, 1, 2, 3, 4] rfl ?_
      exact inner 6 0 rfl rfl
  refine v_sub (ls' := [(0, .ref B), (1, .int r)]) [0, 1] rfl ?_
  refine v_iconst (v := 0) g dX5_allSeenComes_0 (by decide) ?_
  refine v_istore_n (ls' := [(2, .int 0), (0, .ref B), (1, .int r)]) g dX5_allSeenComes_1 rfl rfl ?_
  refine v_sub (ls' := [(2, .int 0), (0, .ref B), (1, .int r)]) [0, 1, 2] rfl ?_
  exact loop 21 0 a rfl rfl
theorem k_X5_fits (a : OV) (r w : Int32) : Ctr l G 5 122 0 0 mX5_fits [.ref B, .int r, .int w] n (ren B (sO C 1 a) ρ) (some (.int (fitsC C a r w).1)) n (ren B (sO C 1 (fitsC C a r w).2) ρ) := by
  refine Ctr.of (by decide +kernel) rfl (fun X g E => ?_)
  have loop : ∀ (r0 : Nat) (hr0 : r0 < 3), r = nI r0 → ∀ (q v : Nat) (f : Int32) (b : OV), v + q = 4 → fitsC C a r w = fitFrom C (nI r0) w q v f b → V X 0 0 n (ren B (sO C 1 b) ρ) 27 [(4, .int (nI v)), (3, .int f), (0, .ref B), (1, .int (nI r0)), (2, .int w)] [] := by
    intro r0 hr0 er q
    induction q with
    | zero =>
      intro v f b hq he
      refine v_iload g dX5_fits_27 0 rfl ?_
      refine v_iconst (v := 4) g dX5_fits_29 (by decide) ?_
      refine v_icmp_ge (tgt := 100) g dX5_fits_30 (by decide) (fun h30 => ?_) (fun h30 => absurd (nI_le (a := 4) (b := v) (by omega) (by omega)) h30)
      refine v_iload_n g dX5_fits_100 1 rfl ?_
      exact v_iret g E dX5_fits_101 rfl ⟨by rw [he]; rfl, rfl, by rw [he]; rfl⟩
    | succ q ih =>
      intro v f b hq he
      rw [fitFrom, nI_clamp (show r0 < 2 ^ 31 by omega)] at he
      refine v_iload g dX5_fits_27 0 rfl ?_
      refine v_iconst (v := 4) g dX5_fits_29 (by decide) ?_
      refine v_icmp_ge (tgt := 100) g dX5_fits_30 (by decide) (fun h30 => absurd h30 (nI_ge (a := v) (b := 4) (by omega) (by decide))) (fun h30 => ?_)
      refine v_aload_n g dX5_fits_33 2 rfl ?_
      refine v_get g dX5_fits_34 fl_RX5_29 (rd_W B _ _) rfl ?_
      refine v_aload_n g dX5_fits_37 2 rfl ?_
      refine v_get g dX5_fits_38 fl_RX5_25 (rd_W B _ _) rfl ?_
      refine v_callV (As := [.ref (adO B 0)]) (r := none) g dX5_fits_41 (k_orCopy (C := C) (i := 1) (j := 0) (by decide) (by decide) (by decide) b) cl_X1_copyFrom ml_RX5_87 im_X1_copyFrom (rd_O B _ _ (by decide)) rfl rfl ⟨rfl, rfl, rfl⟩ ?_
      refine v_iload_n g dX5_fits_44 4 rfl ?_
      refine v_if_ne (tgt := 65) g dX5_fits_45 (by decide) (fun h45 => ?_) (fun h45 => ?_)
      · skip
        refine v_aload_n g dX5_fits_65 2 rfl ?_
        refine v_get g dX5_fits_66 fl_RX5_29 (rd_W B _ _) rfl ?_
        refine v_get g dX5_fits_69 fl_RX5_126 (rd_O B _ _ (by decide)) rfl ?_
        refine v_iload_n g dX5_fits_72 3 rfl ?_
        refine v_aaldR (v := .ref (adR B 1 r0)) g dX5_fits_73 (rd_Rs B _ _ (by decide)) (vp_in_nI (by omega) (by decide)) (by rw [nI_clamp (by omega)]; rfl) ?_
        refine v_iload g dX5_fits_74 0 rfl ?_
        refine v_put g dX5_fits_76 fl_RX5_130 (rd_R B _ _ (by decide) hr0) ⟨rfl, rfl⟩ rfl ?_
        refine v_meq (st_R1 B _ _ _ hr0 (((copyC b (cO C 0)).2.2.2.2.2.2.2 r0).1) (nI v) (((copyC b (cO C 0)).2.2.2.2.2.2.2 r0).2.2.1) (((copyC b (cO C 0)).2.2.2.2.2.2.2 r0).2.2.2.1)) ?_
        refine v_aload_n g dX5_fits_79 2 rfl ?_
        refine v_iload_n g dX5_fits_80 3 rfl ?_
        refine v_callV (As := [.int (nI r0)]) (r := some (.int (zB (allC C (putRow (copyC b (cO C 0)) r0 (((copyC b (cO C 0)).2.2.2.2.2.2.2 r0).1, nI v, ((copyC b (cO C 0)).2.2.2.2.2.2.2 r0).2.2.1, ((copyC b (cO C 0)).2.2.2.2.2.2.2 r0).2.2.2.1, ((copyC b (cO C 0)).2.2.2.2.2.2.2 r0).2.2.2.2)) (nI r0)).1))) g dX5_fits_81 (k_X5_allSeenComes (C := C) (putRow (copyC b (cO C 0)) r0 (((copyC b (cO C 0)).2.2.2.2.2.2.2 r0).1, nI v, ((copyC b (cO C 0)).2.2.2.2.2.2.2 r0).2.2.1, ((copyC b (cO C 0)).2.2.2.2.2.2.2 r0).2.2.2.1, ((copyC b (cO C 0)).2.2.2.2.2.2.2 r0).2.2.2.2)) (nI r0)) cl_X5_allSeenComes ml_RX5_235 im_X5_allSeenComes (rd_W B _ _) rfl rfl ⟨rfl, rfl, rfl⟩ ?_
        refine v_if_eq (tgt := 94) g dX5_fits_84 (by decide) (fun h84 => ?_) (fun h84 => ?_)
        · skip
          have h84 := zB_f0 h84
          refine v_iinc (v := nI (v + 1)) (ls' := [(4, .int (nI (v + 1))), (3, .int f), (0, .ref B), (1, .int (nI r0)), (2, .int w)]) g dX5_fits_94 0 rfl (nI_1 v) rfl rfl ?_
          refine v_goto (tgt := 27) g dX5_fits_97 (by decide) ?_
          refine v_sub (ls' := [(4, .int (nI (v + 1))), (3, .int f), (0, .ref B), (1, .int (nI r0)), (2, .int w)]) [0, 1, 2, 3, 4] rfl ?_
          exact ih (v + 1) _ _ (by omega) (by first | (rw [he, fitO, if_pos h45]; first | rw [if_pos h84] | rw [if_neg (by rw [h84]; decide)]) | (rw [he, fitO, if_neg h45]; first | rw [if_pos h84] | rw [if_neg (by rw [h84]; decide)]))
        · skip
          have h84 := zB_t0 h84
          refine v_iload_n g dX5_fits_87 1 rfl ?_
          refine v_iconst (v := 1) g dX5_fits_88 (by decide) ?_
          refine v_iload g dX5_fits_89 0 rfl ?_
          refine v_ishl g dX5_fits_91 ?_
          refine v_ior g dX5_fits_92 ?_
          refine v_istore_n (ls' := [(3, .int (f ||| (1 <<< (nI v &&& 31)))), (4, .int (nI v)), (0, .ref B), (1, .int (nI r0)), (2, .int w)]) g dX5_fits_93 rfl rfl ?_
          refine v_iinc (v := nI (v + 1)) (ls' := [(4, .int (nI (v + 1))), (3, .int (f ||| (1 <<< (nI v &&& 31)))), (0, .ref B), (1, .int (nI r0)), (2, .int w)]) g dX5_fits_94 1 rfl (nI_1 v) rfl rfl ?_
          refine v_goto (tgt := 27) g dX5_fits_97 (by decide) ?_
          refine v_sub (ls' := [(4, .int (nI (v + 1))), (3, .int (f ||| (1 <<< (nI v &&& 31)))), (0, .ref B), (1, .int (nI r0)), (2, .int w)]) [0, 1, 2, 3, 4] rfl ?_
          exact ih (v + 1) _ _ (by omega) (by first | (rw [he, fitO, if_pos h45]; first | rw [if_pos h84] | rw [if_neg (by rw [h84]; decide)]) | (rw [he, fitO, if_neg h45]; first | rw [if_pos h84] | rw [if_neg (by rw [h84]; decide)]))
      · skip
        refine v_aload_n g dX5_fits_48 2 rfl ?_
        refine v_get g dX5_fits_49 fl_RX5_29 (rd_W B _ _) rfl ?_
        refine v_get g dX5_fits_52 fl_RX5_126 (rd_O B _ _ (by decide)) rfl ?_
        refine v_iload_n g dX5_fits_55 3 rfl ?_
        refine v_aaldR (v := .ref (adR B 1 r0)) g dX5_fits_56 (rd_Rs B _ _ (by decide)) (vp_in_nI (by omega) (by decide)) (by rw [nI_clamp (by omega)]; rfl) ?_
        refine v_iload g dX5_fits_57 0 rfl ?_
        refine v_put g dX5_fits_59 fl_RX5_135 (rd_R B _ _ (by decide) hr0) ⟨rfl, rfl⟩ rfl ?_
        refine v_meq (st_R1 B _ _ _ hr0 (((copyC b (cO C 0)).2.2.2.2.2.2.2 r0).1) (((copyC b (cO C 0)).2.2.2.2.2.2.2 r0).2.1) (nI v) (((copyC b (cO C 0)).2.2.2.2.2.2.2 r0).2.2.2.1)) ?_
        refine v_goto (tgt := 79) g dX5_fits_62 (by decide) ?_
        refine v_aload_n g dX5_fits_79 2 rfl ?_
        refine v_iload_n g dX5_fits_80 3 rfl ?_
        refine v_callV (As := [.int (nI r0)]) (r := some (.int (zB (allC C (putRow (copyC b (cO C 0)) r0 (((copyC b (cO C 0)).2.2.2.2.2.2.2 r0).1, ((copyC b (cO C 0)).2.2.2.2.2.2.2 r0).2.1, nI v, ((copyC b (cO C 0)).2.2.2.2.2.2.2 r0).2.2.2.1, ((copyC b (cO C 0)).2.2.2.2.2.2.2 r0).2.2.2.2)) (nI r0)).1))) g dX5_fits_81 (k_X5_allSeenComes (C := C) (putRow (copyC b (cO C 0)) r0 (((copyC b (cO C 0)).2.2.2.2.2.2.2 r0).1, ((copyC b (cO C 0)).2.2.2.2.2.2.2 r0).2.1, nI v, ((copyC b (cO C 0)).2.2.2.2.2.2.2 r0).2.2.2.1, ((copyC b (cO C 0)).2.2.2.2.2.2.2 r0).2.2.2.2)) (nI r0)) cl_X5_allSeenComes ml_RX5_235 im_X5_allSeenComes (rd_W B _ _) rfl rfl ⟨rfl, rfl, rfl⟩ ?_
        refine v_if_eq (tgt := 94) g dX5_fits_84 (by decide) (fun h84 => ?_) (fun h84 => ?_)
        · skip
          have h84 := zB_f0 h84
          refine v_iinc (v := nI (v + 1)) (ls' := [(4, .int (nI (v + 1))), (3, .int f), (0, .ref B), (1, .int (nI r0)), (2, .int w)]) g dX5_fits_94 0 rfl (nI_1 v) rfl rfl ?_
          refine v_goto (tgt := 27) g dX5_fits_97 (by decide) ?_
          refine v_sub (ls' := [(4, .int (nI (v + 1))), (3, .int f), (0, .ref B), (1, .int (nI r0)), (2, .int w)]) [0, 1, 2, 3, 4] rfl ?_
          exact ih (v + 1) _ _ (by omega) (by first | (rw [he, fitO, if_pos h45]; first | rw [if_pos h84] | rw [if_neg (by rw [h84]; decide)]) | (rw [he, fitO, if_neg h45]; first | rw [if_pos h84] | rw [if_neg (by rw [h84]; decide)]))
        · skip
          have h84 := zB_t0 h84
          refine v_iload_n g dX5_fits_87 1 rfl ?_
          refine v_iconst (v := 1) g dX5_fits_88 (by decide) ?_
          refine v_iload g dX5_fits_89 0 rfl ?_
          refine v_ishl g dX5_fits_91 ?_
          refine v_ior g dX5_fits_92 ?_
          refine v_istore_n (ls' := [(3, .int (f ||| (1 <<< (nI v &&& 31)))), (4, .int (nI v)), (0, .ref B), (1, .int (nI r0)), (2, .int w)]) g dX5_fits_93 rfl rfl ?_
          refine v_iinc (v := nI (v + 1)) (ls' := [(4, .int (nI (v + 1))), (3, .int (f ||| (1 <<< (nI v &&& 31)))), (0, .ref B), (1, .int (nI r0)), (2, .int w)]) g dX5_fits_94 1 rfl (nI_1 v) rfl rfl ?_
          refine v_goto (tgt := 27) g dX5_fits_97 (by decide) ?_
          refine v_sub (ls' := [(4, .int (nI (v + 1))), (3, .int (f ||| (1 <<< (nI v &&& 31)))), (0, .ref B), (1, .int (nI r0)), (2, .int w)]) [0, 1, 2, 3, 4] rfl ?_
          exact ih (v + 1) _ _ (by omega) (by first | (rw [he, fitO, if_pos h45]; first | rw [if_pos h84] | rw [if_neg (by rw [h84]; decide)]) | (rw [he, fitO, if_neg h45]; first | rw [if_pos h84] | rw [if_neg (by rw [h84]; decide)]))
  refine v_sub (ls' := [(0, .ref B), (1, .int r), (2, .int w)]) [0, 1, 2] rfl ?_
  refine v_aload_n g dX5_fits_0 0 rfl ?_
  refine v_get g dX5_fits_1 fl_RX5_25 (rd_W B _ _) rfl ?_
  refine v_iload_n g dX5_fits_4 1 rfl ?_
  refine v_callV (As := [.int r]) (r := some (.int (zB (orHoldsC (cO C 0).1 r)))) g dX5_fits_5 (k_holdsOC (C := sO C 1 a) (i := 0) (by decide) r) cl_X1_holds ml_RX5_125 im_X1_holds (rd_O B _ _ (by decide)) rfl rfl ⟨rfl, rfl, rfl⟩ ?_
  refine v_if_eq (tgt := 20) g dX5_fits_8 (by decide) (fun h8 => ?_) (fun h8 => ?_)
  · skip
    have h8 := zB_f0 h8
    refine v_iconst (v := (-1)) g dX5_fits_20 (by decide) ?_
    exact v_iret g E dX5_fits_21 rfl ⟨by first | (simp only [fitsC, rC, *, ↓reduceIte, Bool.true_eq_false, Bool.false_eq_true, if_true, if_false]; done) | (simp [fitsC, rC, *]; done) | (simp only [fitsC, rC, *, ↓reduceIte, Bool.true_eq_false, Bool.false_eq_true, if_true, if_false]; rfl), rfl, by first | (simp only [fitsC, rC, *, ↓reduceIte, Bool.true_eq_false, Bool.false_eq_true, if_true, if_false]; done) | (simp [fitsC, rC, *]; done) | (simp only [fitsC, rC, *, ↓reduceIte, Bool.true_eq_false, Bool.false_eq_true, if_true, if_false]; rfl)⟩
  · skip
    have h8 := zB_t0 h8
    refine v_iload_n g dX5_fits_11 2 rfl ?_
    refine v_iconst (v := 0) g dX5_fits_12 (by decide) ?_
    refine v_iconst (v := 1) g dX5_fits_13 (by decide) ?_
    refine v_callS (As := [.int w, .int 0, .int 1]) (r := some (.int (zB (withinC w 0 1)))) g dX5_fits_14 (k_X5_isWithin w 0 1) cl_X5_isWithin ml_RX5_165 sm_X5_isWithin rfl ⟨rfl, rfl, rfl⟩ ?_
    refine v_if_ne (tgt := 22) g dX5_fits_17 (by decide) (fun h17 => ?_) (fun h17 => ?_)
    · skip
      have h17 := zB_t0 h17
      obtain ⟨r0, hr0, er⟩ := orHolds_nI h8
      refine v_iconst (v := 0) g dX5_fits_22 (by decide) ?_
      refine v_istore_n (ls' := [(3, .int 0), (0, .ref B), (1, .int r), (2, .int w)]) g dX5_fits_23 rfl rfl ?_
      refine v_iconst (v := 0) g dX5_fits_24 (by decide) ?_
      refine v_istore (ls' := [(4, .int 0), (3, .int 0), (0, .ref B), (1, .int r), (2, .int w)]) g dX5_fits_25 rfl rfl ?_
      rw [er]
      refine v_sub (ls' := [(4, .int 0), (3, .int 0), (0, .ref B), (1, .int (nI r0)), (2, .int w)]) [0, 1, 2, 3, 4] rfl ?_
      exact loop r0 hr0 er 4 0 _ _ rfl (by rw [fitsC, if_neg (by rw [rC, h8]; decide), if_neg (by rw [h17]; decide), er])
    · skip
      have h17 := zB_f0 h17
      refine v_iconst (v := (-1)) g dX5_fits_20 (by decide) ?_
      exact v_iret g E dX5_fits_21 rfl ⟨by first | (simp only [fitsC, rC, *, ↓reduceIte, Bool.true_eq_false, Bool.false_eq_true, if_true, if_false]; done) | (simp [fitsC, rC, *]; done) | (simp only [fitsC, rC, *, ↓reduceIte, Bool.true_eq_false, Bool.false_eq_true, if_true, if_false]; rfl), rfl, by first | (simp only [fitsC, rC, *, ↓reduceIte, Bool.true_eq_false, Bool.false_eq_true, if_true, if_false]; done) | (simp [fitsC, rC, *]; done) | (simp only [fitsC, rC, *, ↓reduceIte, Bool.true_eq_false, Bool.false_eq_true, if_true, if_false]; rfl)⟩
theorem k_X5_firstTreeOfFrost (a : OV) {m : Nat} (hm : m < 2 ^ 31) (r s : Int32) : Ctr l G 4 98 0 0 mX5_firstTreeOfFrost [.ref B, .int r, .int (nI m), .int s] n (ren B (sO C 1 a) ρ) (some (.int (firstR (ffA C a m r s) r))) n (ren B (sO C 1 (ffA C a m r s)) ρ) := by
  refine Ctr.of (by decide +kernel) rfl (fun X g E => ?_)
  have loop : ∀ (q k : Nat) (b : OV), k + q = m → ffA C a m r s = ffFrom (cL C 0) r s q k b → V X 0 0 n (ren B (sO C 1 b) ρ) 14 [(4, .int (nI k)), (0, .ref B), (1, .int r), (2, .int (nI m)), (3, .int s)] [] := by
    intro q
    induction q with
    | zero =>
      intro k b hq he
      refine v_iload g dX5_firstTreeOfFrost_14 0 rfl ?_
      refine v_iload_n g dX5_firstTreeOfFrost_16 3 rfl ?_
      refine v_icmp_ge (tgt := 49) g dX5_firstTreeOfFrost_17 (by decide) (fun h17 => ?_) (fun h17 => absurd (nI_le (a := m) (b := k) (by omega) (by omega)) h17)
      refine v_aload_n g dX5_firstTreeOfFrost_49 1 rfl ?_
      refine v_get g dX5_firstTreeOfFrost_50 fl_RX5_29 (rd_W B _ _) rfl ?_
      refine v_iload_n g dX5_firstTreeOfFrost_53 2 rfl ?_
      refine v_callV (As := [.int r]) (r := some (.int (zB (orHoldsC b.1 r)))) g dX5_firstTreeOfFrost_54 (k_holdsOC (C := sO C 1 b) (i := 1) (by decide) r) cl_X1_holds ml_RX5_125 im_X1_holds (rd_O B _ _ (by decide)) rfl rfl ⟨rfl, rfl, rfl⟩ ?_
      refine v_if_eq (tgt := 75) g dX5_firstTreeOfFrost_57 (by decide) (fun h57 => ?_) (fun h57 => ?_)
      · skip
        have h57 := zB_f0 h57
        refine v_bipush (v := (-4)) g dX5_firstTreeOfFrost_75 (by decide) ?_
        exact v_iret g E dX5_firstTreeOfFrost_77 rfl ⟨by first | (rw [he]; simp only [ffFrom, firstR, *, ↓reduceIte, nI_clamp (show r0 < 2 ^ 31 by omega), Bool.false_eq_true]; done) | (rw [he]; simp only [ffFrom, firstR, h57, ↓reduceIte, Bool.false_eq_true]; done) | (rw [he]; simp [ffFrom, firstR, *]), rfl, by rw [he]; rfl⟩
      · skip
        have h57 := zB_t0 h57
        obtain ⟨r0, hr0, er0⟩ := orHolds_nI h57
        subst er0
        refine v_aload_n g dX5_firstTreeOfFrost_60 1 rfl ?_
        refine v_get g dX5_firstTreeOfFrost_61 fl_RX5_29 (rd_W B _ _) rfl ?_
        refine v_get g dX5_firstTreeOfFrost_64 fl_RX5_126 (rd_O B _ _ (by decide)) rfl ?_
        refine v_iload_n g dX5_firstTreeOfFrost_67 2 rfl ?_
        refine v_aaldR (v := .ref (adR B 1 r0)) g dX5_firstTreeOfFrost_68 (rd_Rs B _ _ (by decide)) (vp_in_nI (by omega) (by decide)) (by rw [nI_clamp (by omega)]; rfl) ?_
        refine v_callV (As := []) (r := some (.int ((b.2.2.2.2.2.2.2 r0).2.2.2.2 0))) g dX5_firstTreeOfFrost_69 (k_X4_first (rd_R B _ _ (by decide) hr0) (rd_T B _ _ (by decide) hr0)) cl_X4_first ml_RX5_144 im_X4_first (rd_R B _ _ (by decide) hr0) rfl rfl ⟨rfl, rfl, rfl⟩ ?_
        refine v_goto (tgt := 77) g dX5_firstTreeOfFrost_72 (by decide) ?_
        exact v_iret g E dX5_firstTreeOfFrost_77 rfl ⟨by first | (rw [he]; simp only [ffFrom, firstR, *, ↓reduceIte, nI_clamp (show r0 < 2 ^ 31 by omega), Bool.false_eq_true]; done) | (rw [he]; simp only [ffFrom, firstR, h57, ↓reduceIte, Bool.false_eq_true]; done) | (rw [he]; simp [ffFrom, firstR, *]), rfl, by rw [he]; rfl⟩
    | succ q ih =>
      intro k b hq he
      refine v_iload g dX5_firstTreeOfFrost_14 0 rfl ?_
      refine v_iload_n g dX5_firstTreeOfFrost_16 3 rfl ?_
      refine v_icmp_ge (tgt := 49) g dX5_firstTreeOfFrost_17 (by decide) (fun h17 => absurd h17 (nI_ge (a := k) (b := m) (by omega) hm)) (fun h17 => ?_)
      refine v_aload_n g dX5_firstTreeOfFrost_20 1 rfl ?_
      refine v_get g dX5_firstTreeOfFrost_21 fl_RX5_29 (rd_W B _ _) rfl ?_
      refine v_iload_n g dX5_firstTreeOfFrost_24 4 rfl ?_
      refine v_i2l g dX5_firstTreeOfFrost_25 ?_
      refine v_iload g dX5_firstTreeOfFrost_26 0 rfl ?_
      refine v_callS (As := [.long s.toInt64, .int (nI k)]) (r := some (.int (zB (ctn s.toInt64 (nI k))))) g dX5_firstTreeOfFrost_28 (k_X5_contains s.toInt64 (nI k)) cl_X5_contains ml_RX5_118 sm_X5_contains rfl ⟨rfl, rfl, rfl⟩ ?_
      refine v_if_eq_d (tgt := 38) (u := -4) (v := r) 40 g dX5_firstTreeOfFrost_31 (by decide) (fun h31 K => ?_) (fun h31 K => ?_) ?_
      · skip
        have h31 := zB_f0 h31
        refine v_bipush (v := (-4)) g dX5_firstTreeOfFrost_38 (by decide) ?_
        exact K
      · skip
        have h31 := zB_t0 h31
        refine v_iload_n g dX5_firstTreeOfFrost_34 2 rfl ?_
        refine v_goto (tgt := 40) g dX5_firstTreeOfFrost_35 (by decide) ?_
        exact K
      refine v_eqi (y := if ctn s.toInt64 (nI k) = true then r else -4) (by cases ctn s.toInt64 (nI k) <;> simp [zB]) ?_
      refine v_callV (As := [.int (if ctn s.toInt64 (nI k) = true then r else -4)]) (r := none) g dX5_firstTreeOfFrost_40 (k_X1_goYear (C := C) (i := 1) (by decide) (L := cL C 0) rfl b (if ctn s.toInt64 (nI k) = true then r else -4)) cl_X1_goYear ml_RX5_210 im_X1_goYear (rd_O B _ _ (by decide)) rfl rfl ⟨rfl, rfl, rfl⟩ ?_
      refine v_iinc (v := nI (k + 1)) (ls' := [(4, .int (nI (k + 1))), (0, .ref B), (1, .int r), (2, .int (nI m)), (3, .int s)]) g dX5_firstTreeOfFrost_43 0 rfl (nI_1 k) rfl rfl ?_
      refine v_goto (tgt := 14) g dX5_firstTreeOfFrost_46 (by decide) ?_
      refine v_sub (ls' := [(4, .int (nI (k + 1))), (0, .ref B), (1, .int r), (2, .int (nI m)), (3, .int s)]) [0, 1, 2, 3, 4] rfl ?_
      exact ih (k + 1) _ (by omega) (by rw [he, ffFrom])
  refine v_sub (ls' := [(0, .ref B), (1, .int r), (2, .int (nI m)), (3, .int s)]) [0, 1, 2, 3] rfl ?_
  refine v_aload_n g dX5_firstTreeOfFrost_0 0 rfl ?_
  refine v_get g dX5_firstTreeOfFrost_1 fl_RX5_29 (rd_W B _ _) rfl ?_
  refine v_aload_n g dX5_firstTreeOfFrost_4 0 rfl ?_
  refine v_get g dX5_firstTreeOfFrost_5 fl_RX5_25 (rd_W B _ _) rfl ?_
  refine v_callV (As := [.ref (adO B 0)]) (r := none) g dX5_firstTreeOfFrost_8 (k_orCopy (C := C) (i := 1) (j := 0) (by decide) (by decide) (by decide) a) cl_X1_copyFrom ml_RX5_87 im_X1_copyFrom (rd_O B _ _ (by decide)) rfl rfl ⟨rfl, rfl, rfl⟩ ?_
  refine v_iconst (v := 0) g dX5_firstTreeOfFrost_11 (by decide) ?_
  refine v_istore (ls' := [(4, .int 0), (0, .ref B), (1, .int r), (2, .int (nI m)), (3, .int s)]) g dX5_firstTreeOfFrost_12 rfl rfl ?_
  refine v_sub (ls' := [(4, .int 0), (0, .ref B), (1, .int r), (2, .int (nI m)), (3, .int s)]) [0, 1, 2, 3, 4] rfl ?_
  exact loop m 0 _ (by omega) rfl
theorem k_X5_casesOfFrost (a : OV) {m N : Nat} (hm : m < 2 ^ 31) (hN : (1 : Int32) <<< (nI m &&& 31) = nI N) (hN2 : N < 2 ^ 31) (r cell x : Int32) : Ctr l G 5 122 0 0 mX5_casesOfFrost [.ref B, .int r, .int cell, .int (nI m), .int x] n (ren B (sO C 1 a) ρ) (some (.long (casFrom C m r cell x N 0 0 a).1)) n (ren B (sO C 1 (casFrom C m r cell x N 0 0 a).2) ρ) := by
  refine Ctr.of (by decide +kernel) rfl (fun X g E => ?_)
  have loop : ∀ (q s : Nat) (c : Int64) (b : OV), s + q = N → casFrom C m r cell x N 0 0 a = casFrom C m r cell x q s c b → V X 0 0 n (ren B (sO C 1 b) ρ) 6 [(7, .int (nI s)), (5, .long c), (0, .ref B), (1, .int r), (2, .int cell), (3, .int (nI m)), (4, .int x)] [] := by
    intro q
    induction q with
    | zero =>
      intro s c b hq he
      refine v_iload g dX5_casesOfFrost_6 0 rfl ?_
      refine v_iconst (v := 1) g dX5_casesOfFrost_8 (by decide) ?_
      refine v_iload_n g dX5_casesOfFrost_9 5 rfl ?_
      refine v_ishl g dX5_casesOfFrost_10 ?_
      refine v_eqi hN ?_
      refine v_icmp_ge (tgt := 92) g dX5_casesOfFrost_11 (by decide) (fun h11 => ?_) (fun h11 => absurd (nI_le (a := N) (b := s) (by omega) (by omega)) h11)
      refine v_lload g dX5_casesOfFrost_92 1 rfl ?_
      exact v_lret g E dX5_casesOfFrost_94 rfl ⟨by rw [he]; rfl, rfl, by rw [he]; rfl⟩
    | succ q ih =>
      intro s c b hq he
      have inner : ∀ (u k : Nat) (w : Int64), k + u = m → wtFrom (nI s) x m 0 1 = wtFrom (nI s) x u k w → V X 0 0 n (ren B (sO C 1 b) ρ) 20 [(10, .int (nI k)), (8, .long w), (7, .int (nI s)), (5, .long c), (0, .ref B), (1, .int r), (2, .int cell), (3, .int (nI m)), (4, .int x)] [] := by
        intro u
        induction u with
        | zero =>
          intro k w hu h2
          rw [wtFrom] at h2
          refine v_iload g dX5_casesOfFrost_20 0 rfl ?_
          refine v_iload_n g dX5_casesOfFrost_22 7 rfl ?_
          refine v_icmp_ge (tgt := 60) g dX5_casesOfFrost_23 (by decide) (fun h23 => ?_) (fun h23 => absurd (nI_le (a := m) (b := k) (by omega) (by omega)) h23)
          refine v_lload g dX5_casesOfFrost_60 1 rfl ?_
          refine v_lconst (v := 0) g dX5_casesOfFrost_62 (by decide) ?_
          refine v_lcmp g dX5_casesOfFrost_63 ?_
          refine v_if_le (tgt := 86) g dX5_casesOfFrost_64 (by decide) (fun h64 => ?_) (fun h64 => ?_)
          · skip
            refine v_iinc (v := nI (s + 1)) (ls' := [(7, .int (nI (s + 1))), (10, .int (nI k)), (8, .long w), (5, .long c), (0, .ref B), (1, .int r), (2, .int cell), (3, .int (nI m)), (4, .int x)]) g dX5_casesOfFrost_86 2 rfl (nI_1 s) rfl rfl ?_
            refine v_goto (tgt := 6) g dX5_casesOfFrost_89 (by decide) ?_
            refine v_sub (ls' := [(7, .int (nI (s + 1))), (5, .long c), (0, .ref B), (1, .int r), (2, .int cell), (3, .int (nI m)), (4, .int x)]) [0, 3, 4, 5, 6, 7, 8] rfl ?_
            exact ih (s + 1) _ _ (by omega) (by first | rw [he, casFrom, h2, if_pos h64] | rw [he, casFrom, h2, if_neg h64, if_pos h76] | rw [he, casFrom, h2, if_neg h64, if_neg (fun h => h h76)])
          · skip
            refine v_aload_n g dX5_casesOfFrost_67 4 rfl ?_
            refine v_iload_n g dX5_casesOfFrost_68 5 rfl ?_
            refine v_iload_n g dX5_casesOfFrost_69 7 rfl ?_
            refine v_iload g dX5_casesOfFrost_70 2 rfl ?_
            refine v_callV (As := [.int r, .int (nI m), .int (nI s)]) (r := some (.int (firstR (ffA C b m r (nI s)) r))) g dX5_casesOfFrost_72 (k_X5_firstTreeOfFrost (C := C) b (m := m) (by omega) r (nI s)) cl_X5_firstTreeOfFrost ml_RX5_271 im_X5_firstTreeOfFrost (rd_W B _ _) rfl rfl ⟨rfl, rfl, rfl⟩ ?_
            refine v_iload_n g dX5_casesOfFrost_75 6 rfl ?_
            refine v_icmp_ne (tgt := 86) g dX5_casesOfFrost_76 (by decide) (fun h76 => ?_) (fun h76 => ?_)
            · skip
              refine v_iinc (v := nI (s + 1)) (ls' := [(7, .int (nI (s + 1))), (10, .int (nI k)), (8, .long w), (5, .long c), (0, .ref B), (1, .int r), (2, .int cell), (3, .int (nI m)), (4, .int x)]) g dX5_casesOfFrost_86 2 rfl (nI_1 s) rfl rfl ?_
              refine v_goto (tgt := 6) g dX5_casesOfFrost_89 (by decide) ?_
              refine v_sub (ls' := [(7, .int (nI (s + 1))), (5, .long c), (0, .ref B), (1, .int r), (2, .int cell), (3, .int (nI m)), (4, .int x)]) [0, 3, 4, 5, 6, 7, 8] rfl ?_
              exact ih (s + 1) _ _ (by omega) (by first | rw [he, casFrom, h2, if_pos h64] | rw [he, casFrom, h2, if_neg h64, if_pos h76] | rw [he, casFrom, h2, if_neg h64, if_neg (fun h => h h76)])
            · skip
              refine v_lload g dX5_casesOfFrost_79 3 rfl ?_
              refine v_lload g dX5_casesOfFrost_81 1 rfl ?_
              refine v_ladd g dX5_casesOfFrost_83 ?_
              refine v_lstore (ls' := [(5, .long (c + w)), (10, .int (nI k)), (8, .long w), (7, .int (nI s)), (0, .ref B), (1, .int r), (2, .int cell), (3, .int (nI m)), (4, .int x)]) g dX5_casesOfFrost_84 rfl rfl ?_
              refine v_iinc (v := nI (s + 1)) (ls' := [(7, .int (nI (s + 1))), (5, .long (c + w)), (10, .int (nI k)), (8, .long w), (0, .ref B), (1, .int r), (2, .int cell), (3, .int (nI m)), (4, .int x)]) g dX5_casesOfFrost_86 3 rfl (nI_1 s) rfl rfl ?_
              refine v_goto (tgt := 6) g dX5_casesOfFrost_89 (by decide) ?_
              refine v_sub (ls' := [(7, .int (nI (s + 1))), (5, .long (c + w)), (0, .ref B), (1, .int r), (2, .int cell), (3, .int (nI m)), (4, .int x)]) [0, 1, 4, 5, 6, 7, 8] rfl ?_
              exact ih (s + 1) _ _ (by omega) (by first | rw [he, casFrom, h2, if_pos h64] | rw [he, casFrom, h2, if_neg h64, if_pos h76] | rw [he, casFrom, h2, if_neg h64, if_neg (fun h => h h76)])
        | succ u ihu =>
          intro k w hu h2
          refine v_iload g dX5_casesOfFrost_20 0 rfl ?_
          refine v_iload_n g dX5_casesOfFrost_22 7 rfl ?_
          refine v_icmp_ge (tgt := 60) g dX5_casesOfFrost_23 (by decide) (fun h23 => absurd h23 (nI_ge (a := k) (b := m) (by omega) hm)) (fun h23 => ?_)
          refine v_lload g dX5_casesOfFrost_26 1 rfl ?_
          refine v_iload g dX5_casesOfFrost_28 2 rfl ?_
          refine v_i2l g dX5_casesOfFrost_30 ?_
          refine v_iload g dX5_casesOfFrost_31 0 rfl ?_
          refine v_callS (As := [.long ((nI s).toInt64), .int (nI k)]) (r := some (.int (zB (ctn ((nI s).toInt64) (nI k))))) g dX5_casesOfFrost_33 (k_X5_contains ((nI s).toInt64) (nI k)) cl_X5_contains ml_RX5_118 sm_X5_contains rfl ⟨rfl, rfl, rfl⟩ ?_
          refine v_if_eq_dl (tgt := 45) (u := (10 - x).toInt64) (v := x.toInt64) 51 g dX5_casesOfFrost_36 (by decide) (fun h36 K => ?_) (fun h36 K => ?_) ?_
          · skip
            have h36 := zB_f0 h36
            refine v_bipush (v := 10) g dX5_casesOfFrost_45 (by decide) ?_
            refine v_iload g dX5_casesOfFrost_47 8 rfl ?_
            refine v_isub g dX5_casesOfFrost_49 ?_
            refine v_i2l g dX5_casesOfFrost_50 ?_
            exact K
          · skip
            have h36 := zB_t0 h36
            refine v_iload g dX5_casesOfFrost_39 8 rfl ?_
            refine v_i2l g dX5_casesOfFrost_41 ?_
            refine v_goto (tgt := 51) g dX5_casesOfFrost_42 (by decide) ?_
            exact K
          refine v_eql (y := if ctn (nI s).toInt64 (nI k) = true then x.toInt64 else (10 - x).toInt64) (by cases ctn (nI s).toInt64 (nI k) <;> simp [zB]) ?_
          refine v_lmul g dX5_casesOfFrost_51 ?_
          refine v_lstore (ls' := [(8, .long (w * (if ctn (nI s).toInt64 (nI k) = true then x.toInt64 else (10 - x).toInt64))), (10, .int (nI k)), (7, .int (nI s)), (5, .long c), (0, .ref B), (1, .int r), (2, .int cell), (3, .int (nI m)), (4, .int x)]) g dX5_casesOfFrost_52 rfl rfl ?_
          refine v_iinc (v := nI (k + 1)) (ls' := [(10, .int (nI (k + 1))), (8, .long (w * (if ctn (nI s).toInt64 (nI k) = true then x.toInt64 else (10 - x).toInt64))), (7, .int (nI s)), (5, .long c), (0, .ref B), (1, .int r), (2, .int cell), (3, .int (nI m)), (4, .int x)]) g dX5_casesOfFrost_54 1 rfl (nI_1 k) rfl rfl ?_
          refine v_goto (tgt := 20) g dX5_casesOfFrost_57 (by decide) ?_
          refine v_sub (ls' := [(10, .int (nI (k + 1))), (8, .long (w * (if ctn (nI s).toInt64 (nI k) = true then x.toInt64 else (10 - x).toInt64))), (7, .int (nI s)), (5, .long c), (0, .ref B), (1, .int r), (2, .int cell), (3, .int (nI m)), (4, .int x)]) [0, 1, 2, 3, 4, 5, 6, 7, 8] rfl ?_
          exact ihu (k + 1) _ (by omega) (by rw [h2, wtFrom])
      refine v_iload g dX5_casesOfFrost_6 0 rfl ?_
      refine v_iconst (v := 1) g dX5_casesOfFrost_8 (by decide) ?_
      refine v_iload_n g dX5_casesOfFrost_9 5 rfl ?_
      refine v_ishl g dX5_casesOfFrost_10 ?_
      refine v_eqi hN ?_
      refine v_icmp_ge (tgt := 92) g dX5_casesOfFrost_11 (by decide) (fun h11 => absurd h11 (nI_ge (a := s) (b := N) (by omega) hN2)) (fun h11 => ?_)
      refine v_lconst (v := 1) g dX5_casesOfFrost_14 (by decide) ?_
      refine v_lstore (ls' := [(8, .long 1), (7, .int (nI s)), (5, .long c), (0, .ref B), (1, .int r), (2, .int cell), (3, .int (nI m)), (4, .int x)]) g dX5_casesOfFrost_15 rfl rfl ?_
      refine v_iconst (v := 0) g dX5_casesOfFrost_17 (by decide) ?_
      refine v_istore (ls' := [(10, .int 0), (8, .long 1), (7, .int (nI s)), (5, .long c), (0, .ref B), (1, .int r), (2, .int cell), (3, .int (nI m)), (4, .int x)]) g dX5_casesOfFrost_18 rfl rfl ?_
      refine v_sub (ls' := [(10, .int 0), (8, .long 1), (7, .int (nI s)), (5, .long c), (0, .ref B), (1, .int r), (2, .int cell), (3, .int (nI m)), (4, .int x)]) [0, 1, 2, 3, 4, 5, 6, 7, 8] rfl ?_
      exact inner m 0 1 (by omega) rfl
  refine v_sub (ls' := [(0, .ref B), (1, .int r), (2, .int cell), (3, .int (nI m)), (4, .int x)]) [0, 1, 2, 3, 4] rfl ?_
  refine v_lconst (v := 0) g dX5_casesOfFrost_0 (by decide) ?_
  refine v_lstore (ls' := [(5, .long 0), (0, .ref B), (1, .int r), (2, .int cell), (3, .int (nI m)), (4, .int x)]) g dX5_casesOfFrost_1 rfl rfl ?_
  refine v_iconst (v := 0) g dX5_casesOfFrost_3 (by decide) ?_
  refine v_istore (ls' := [(7, .int 0), (5, .long 0), (0, .ref B), (1, .int r), (2, .int cell), (3, .int (nI m)), (4, .int x)]) g dX5_casesOfFrost_4 rfl rfl ?_
  refine v_sub (ls' := [(7, .int 0), (5, .long 0), (0, .ref B), (1, .int r), (2, .int cell), (3, .int (nI m)), (4, .int x)]) [0, 1, 2, 3, 4, 5, 6] rfl ?_
  exact loop N 0 0 a (by omega) rfl
theorem k_X5_frost (a : OV) (r cell nn x w : Int32) : Ctr l G 6 152 0 0 mX5_frost [.ref B, .int r, .int cell, .int nn, .int x, .int w] n (ren B (sO C 1 a) ρ) (some (.int (frostC C a r cell nn x w).1)) n (ren B (sO C 1 (frostC C a r cell nn x w).2) ρ) := by
  refine Ctr.of (by decide +kernel) rfl (fun X g E => ?_)
  have fin : ∀ (m : Nat) (hm : m < 2 ^ 31) (b : OV) (z0 : Int64 × Int64), frostC C a r cell nn x w = ((if w = 0 then (redFrom m z0).1 else (redFrom m z0).2).toInt32, b) → ∀ (q k : Nat) (z : Int64 × Int64), k + q = m → redFrom m z0 = redFrom q z → V X 0 0 n (ren B (sO C 1 b) ρ) 95 [(10, .int (nI k)), (8, .long z.2), (6, .long z.1), (0, .ref B), (1, .int r), (2, .int cell), (3, .int (nI m)), (4, .int x), (5, .int w)] [] := by
    intro m hm b z0 hz q
    induction q with
    | zero =>
      intro k z hq he
      refine v_iload g dX5_frost_95 0 rfl ?_
      refine v_iload_n g dX5_frost_97 6 rfl ?_
      refine v_icmp_ge (tgt := 183) g dX5_frost_98 (by decide) (fun h98 => ?_) (fun h98 => absurd (nI_le (a := m) (b := k) (by omega) (by omega)) h98)
      refine v_iload g dX5_frost_183 8 rfl ?_
      refine v_if_ne_dl (tgt := 193) (u := z.2) (v := z.1) 195 g dX5_frost_185 (by decide) (fun h185 K => ?_) (fun h185 K => ?_) ?_
      · skip
        refine v_lload g dX5_frost_193 1 rfl ?_
        exact K
      · skip
        refine v_lload g dX5_frost_188 2 rfl ?_
        refine v_goto (tgt := 195) g dX5_frost_190 (by decide) ?_
        exact K
      refine v_l2i g dX5_frost_195 ?_
      exact v_iret g E dX5_frost_196 rfl ⟨by rw [hz, he]; rfl, rfl, by rw [hz]⟩
    | succ q ih =>
      intro k z hq he
      have half : ∀ (y : Int64 × Int64), redFrom m z0 = redFrom q (redD 5 y) → V X 0 0 n (ren B (sO C 1 b) ρ) 139 [(10, .int (nI k)), (8, .long y.2), (6, .long y.1), (0, .ref B), (1, .int r), (2, .int cell), (3, .int (nI m)), (4, .int x), (5, .int w)] [] := by
        intro y h5
        refine v_lload g dX5_frost_139 2 rfl ?_
        refine v_ldc2 (v := 5) g dX5_frost_141 kl_RX5_246 ?_
        refine v_lrem g dX5_frost_144 (by decide) ?_
        refine v_lconst (v := 0) g dX5_frost_145 (by decide) ?_
        refine v_lcmp g dX5_frost_146 ?_
        refine v_if_ne (tgt := 177) g dX5_frost_147 (by decide) (fun h147 => ?_) (fun h147 => ?_)
        · skip
          refine v_iinc (v := nI (k + 1)) (ls' := [(10, .int (nI (k + 1))), (8, .long y.2), (6, .long y.1), (0, .ref B), (1, .int r), (2, .int cell), (3, .int (nI m)), (4, .int x), (5, .int w)]) g dX5_frost_177 0 rfl (nI_1 k) rfl rfl ?_
          refine v_goto (tgt := 95) g dX5_frost_180 (by decide) ?_
          refine v_sub (ls' := [(10, .int (nI (k + 1))), (8, .long y.2), (6, .long y.1), (0, .ref B), (1, .int r), (2, .int cell), (3, .int (nI m)), (4, .int x), (5, .int w)]) [0, 1, 2, 3, 4, 5, 6, 7, 8] rfl ?_
          exact ih (k + 1) (y.1, y.2) (by omega) (by first | rw [h5, redD, if_pos h147] | rw [h5, redD, if_neg (fun h => h h147), if_pos h158] | rw [h5, redD, if_neg (fun h => h h147), if_neg (fun h => h h158)])
        · skip
          refine v_lload g dX5_frost_150 1 rfl ?_
          refine v_ldc2 (v := 5) g dX5_frost_152 kl_RX5_246 ?_
          refine v_lrem g dX5_frost_155 (by decide) ?_
          refine v_lconst (v := 0) g dX5_frost_156 (by decide) ?_
          refine v_lcmp g dX5_frost_157 ?_
          refine v_if_ne (tgt := 177) g dX5_frost_158 (by decide) (fun h158 => ?_) (fun h158 => ?_)
          · skip
            refine v_iinc (v := nI (k + 1)) (ls' := [(10, .int (nI (k + 1))), (8, .long y.2), (6, .long y.1), (0, .ref B), (1, .int r), (2, .int cell), (3, .int (nI m)), (4, .int x), (5, .int w)]) g dX5_frost_177 0 rfl (nI_1 k) rfl rfl ?_
            refine v_goto (tgt := 95) g dX5_frost_180 (by decide) ?_
            refine v_sub (ls' := [(10, .int (nI (k + 1))), (8, .long y.2), (6, .long y.1), (0, .ref B), (1, .int r), (2, .int cell), (3, .int (nI m)), (4, .int x), (5, .int w)]) [0, 1, 2, 3, 4, 5, 6, 7, 8] rfl ?_
            exact ih (k + 1) (y.1, y.2) (by omega) (by first | rw [h5, redD, if_pos h147] | rw [h5, redD, if_neg (fun h => h h147), if_pos h158] | rw [h5, redD, if_neg (fun h => h h147), if_neg (fun h => h h158)])
          · skip
            refine v_lload g dX5_frost_161 2 rfl ?_
            refine v_ldc2 (v := 5) g dX5_frost_163 kl_RX5_246 ?_
            refine v_ldiv g dX5_frost_166 (by decide) ?_
            refine v_lstore (ls' := [(6, .long (y.1 / 5)), (10, .int (nI k)), (8, .long y.2), (0, .ref B), (1, .int r), (2, .int cell), (3, .int (nI m)), (4, .int x), (5, .int w)]) g dX5_frost_167 rfl rfl ?_
            refine v_lload g dX5_frost_169 2 rfl ?_
            refine v_ldc2 (v := 5) g dX5_frost_171 kl_RX5_246 ?_
            refine v_ldiv g dX5_frost_174 (by decide) ?_
            refine v_lstore (ls' := [(8, .long (y.2 / 5)), (6, .long (y.1 / 5)), (10, .int (nI k)), (0, .ref B), (1, .int r), (2, .int cell), (3, .int (nI m)), (4, .int x), (5, .int w)]) g dX5_frost_175 rfl rfl ?_
            refine v_iinc (v := nI (k + 1)) (ls' := [(10, .int (nI (k + 1))), (8, .long (y.2 / 5)), (6, .long (y.1 / 5)), (0, .ref B), (1, .int r), (2, .int cell), (3, .int (nI m)), (4, .int x), (5, .int w)]) g dX5_frost_177 2 rfl (nI_1 k) rfl rfl ?_
            refine v_goto (tgt := 95) g dX5_frost_180 (by decide) ?_
            refine v_sub (ls' := [(10, .int (nI (k + 1))), (8, .long (y.2 / 5)), (6, .long (y.1 / 5)), (0, .ref B), (1, .int r), (2, .int cell), (3, .int (nI m)), (4, .int x), (5, .int w)]) [0, 1, 2, 3, 4, 5, 6, 7, 8] rfl ?_
            exact ih (k + 1) ((y.1 / 5), (y.2 / 5)) (by omega) (by first | rw [h5, redD, if_pos h147] | rw [h5, redD, if_neg (fun h => h h147), if_pos h158] | rw [h5, redD, if_neg (fun h => h h147), if_neg (fun h => h h158)])
      refine v_iload g dX5_frost_95 0 rfl ?_
      refine v_iload_n g dX5_frost_97 6 rfl ?_
      refine v_icmp_ge (tgt := 183) g dX5_frost_98 (by decide) (fun h98 => absurd h98 (nI_ge (a := k) (b := m) (by omega) hm)) (fun h98 => ?_)
      refine v_lload g dX5_frost_101 2 rfl ?_
      refine v_ldc2 (v := 2) g dX5_frost_103 kl_RX5_244 ?_
      refine v_lrem g dX5_frost_106 (by decide) ?_
      refine v_lconst (v := 0) g dX5_frost_107 (by decide) ?_
      refine v_lcmp g dX5_frost_108 ?_
      refine v_if_ne (tgt := 139) g dX5_frost_109 (by decide) (fun h109 => ?_) (fun h109 => ?_)
      · skip
        refine v_sub (ls' := [(10, .int (nI k)), (8, .long z.2), (6, .long z.1), (0, .ref B), (1, .int r), (2, .int cell), (3, .int (nI m)), (4, .int x), (5, .int w)]) [0, 1, 2, 3, 4, 5, 6, 7, 8] rfl ?_
        exact half (z.1, z.2) (by first | rw [he, redFrom, show redD 2 z = z from if_pos h109] | rw [he, redFrom, show redD 2 z = z from (if_neg (fun h => h h109)).trans (if_pos h120)] | rw [he, redFrom, show redD 2 z = (z.1 / 2, z.2 / 2) from (if_neg (fun h => h h109)).trans (if_neg (fun h => h h120))])
      · skip
        refine v_lload g dX5_frost_112 1 rfl ?_
        refine v_ldc2 (v := 2) g dX5_frost_114 kl_RX5_244 ?_
        refine v_lrem g dX5_frost_117 (by decide) ?_
        refine v_lconst (v := 0) g dX5_frost_118 (by decide) ?_
        refine v_lcmp g dX5_frost_119 ?_
        refine v_if_ne (tgt := 139) g dX5_frost_120 (by decide) (fun h120 => ?_) (fun h120 => ?_)
        · skip
          refine v_sub (ls' := [(10, .int (nI k)), (8, .long z.2), (6, .long z.1), (0, .ref B), (1, .int r), (2, .int cell), (3, .int (nI m)), (4, .int x), (5, .int w)]) [0, 1, 2, 3, 4, 5, 6, 7, 8] rfl ?_
          exact half (z.1, z.2) (by first | rw [he, redFrom, show redD 2 z = z from if_pos h109] | rw [he, redFrom, show redD 2 z = z from (if_neg (fun h => h h109)).trans (if_pos h120)] | rw [he, redFrom, show redD 2 z = (z.1 / 2, z.2 / 2) from (if_neg (fun h => h h109)).trans (if_neg (fun h => h h120))])
        · skip
          refine v_lload g dX5_frost_123 2 rfl ?_
          refine v_ldc2 (v := 2) g dX5_frost_125 kl_RX5_244 ?_
          refine v_ldiv g dX5_frost_128 (by decide) ?_
          refine v_lstore (ls' := [(6, .long (z.1 / 2)), (10, .int (nI k)), (8, .long z.2), (0, .ref B), (1, .int r), (2, .int cell), (3, .int (nI m)), (4, .int x), (5, .int w)]) g dX5_frost_129 rfl rfl ?_
          refine v_lload g dX5_frost_131 2 rfl ?_
          refine v_ldc2 (v := 2) g dX5_frost_133 kl_RX5_244 ?_
          refine v_ldiv g dX5_frost_136 (by decide) ?_
          refine v_lstore (ls' := [(8, .long (z.2 / 2)), (6, .long (z.1 / 2)), (10, .int (nI k)), (0, .ref B), (1, .int r), (2, .int cell), (3, .int (nI m)), (4, .int x), (5, .int w)]) g dX5_frost_137 rfl rfl ?_
          refine v_sub (ls' := [(10, .int (nI k)), (8, .long (z.2 / 2)), (6, .long (z.1 / 2)), (0, .ref B), (1, .int r), (2, .int cell), (3, .int (nI m)), (4, .int x), (5, .int w)]) [2, 0, 1, 3, 4, 5, 6, 7, 8] rfl ?_
          exact half ((z.1 / 2), (z.2 / 2)) (by first | rw [he, redFrom, show redD 2 z = z from if_pos h109] | rw [he, redFrom, show redD 2 z = z from (if_neg (fun h => h h109)).trans (if_pos h120)] | rw [he, redFrom, show redD 2 z = (z.1 / 2, z.2 / 2) from (if_neg (fun h => h h109)).trans (if_neg (fun h => h h120))])
  have tens : ∀ (m : Nat) (hm : m < 2 ^ 31) (b : OV) (c : Int64), frostC C a r cell nn x w = ((if w = 0 then (redFrom m (c, p10From m 1)).1 else (redFrom m (c, p10From m 1)).2).toInt32, b) → ∀ (q k : Nat) (e : Int64), k + q = m → p10From m 1 = p10From q e → V X 0 0 n (ren B (sO C 1 b) ρ) 72 [(10, .int (nI k)), (8, .long e), (6, .long c), (0, .ref B), (1, .int r), (2, .int cell), (3, .int (nI m)), (4, .int x), (5, .int w)] [] := by
    intro m hm b c hz q
    induction q with
    | zero =>
      intro k e hq he
      refine v_iload g dX5_frost_72 0 rfl ?_
      refine v_iload_n g dX5_frost_74 6 rfl ?_
      refine v_icmp_ge (tgt := 92) g dX5_frost_75 (by decide) (fun h75 => ?_) (fun h75 => absurd (nI_le (a := m) (b := k) (by omega) (by omega)) h75)
      refine v_iconst (v := 0) g dX5_frost_92 (by decide) ?_
      refine v_istore (ls' := [(10, .int 0), (8, .long e), (6, .long c), (0, .ref B), (1, .int r), (2, .int cell), (3, .int (nI m)), (4, .int x), (5, .int w)]) g dX5_frost_93 rfl rfl ?_
      refine v_sub (ls' := [(10, .int 0), (8, .long e), (6, .long c), (0, .ref B), (1, .int r), (2, .int cell), (3, .int (nI m)), (4, .int x), (5, .int w)]) [0, 1, 2, 3, 4, 5, 6, 7, 8] rfl ?_
      exact fin m hm b (c, p10From m 1) hz m 0 (c, e) (by omega) (by rw [he]; rfl)
    | succ q ih =>
      intro k e hq he
      refine v_iload g dX5_frost_72 0 rfl ?_
      refine v_iload_n g dX5_frost_74 6 rfl ?_
      refine v_icmp_ge (tgt := 92) g dX5_frost_75 (by decide) (fun h75 => absurd h75 (nI_ge (a := k) (b := m) (by omega) hm)) (fun h75 => ?_)
      refine v_lload g dX5_frost_78 1 rfl ?_
      refine v_ldc2 (v := 10) g dX5_frost_80 kl_RX5_242 ?_
      refine v_lmul g dX5_frost_83 ?_
      refine v_lstore (ls' := [(8, .long (e * 10)), (10, .int (nI k)), (6, .long c), (0, .ref B), (1, .int r), (2, .int cell), (3, .int (nI m)), (4, .int x), (5, .int w)]) g dX5_frost_84 rfl rfl ?_
      refine v_iinc (v := nI (k + 1)) (ls' := [(10, .int (nI (k + 1))), (8, .long (e * 10)), (6, .long c), (0, .ref B), (1, .int r), (2, .int cell), (3, .int (nI m)), (4, .int x), (5, .int w)]) g dX5_frost_86 1 rfl (nI_1 k) rfl rfl ?_
      refine v_goto (tgt := 72) g dX5_frost_89 (by decide) ?_
      refine v_sub (ls' := [(10, .int (nI (k + 1))), (8, .long (e * 10)), (6, .long c), (0, .ref B), (1, .int r), (2, .int cell), (3, .int (nI m)), (4, .int x), (5, .int w)]) [0, 1, 2, 3, 4, 5, 6, 7, 8] rfl ?_
      exact ih (k + 1) _ (by omega) (by rw [he, p10From])
  refine v_sub (ls' := [(0, .ref B), (1, .int r), (2, .int cell), (3, .int nn), (4, .int x), (5, .int w)]) [0, 1, 2, 3, 4, 5] rfl ?_
  refine v_aload_n g dX5_frost_0 0 rfl ?_
  refine v_get g dX5_frost_1 fl_RX5_25 (rd_W B _ _) rfl ?_
  refine v_iload_n g dX5_frost_4 1 rfl ?_
  refine v_callV (As := [.int r]) (r := some (.int (zB (orHoldsC (cO C 0).1 r)))) g dX5_frost_5 (k_holdsOC (C := sO C 1 a) (i := 0) (by decide) r) cl_X1_holds ml_RX5_125 im_X1_holds (rd_O B _ _ (by decide)) rfl rfl ⟨rfl, rfl, rfl⟩ ?_
  refine v_if_eq (tgt := 53) g dX5_frost_8 (by decide) (fun h8 => ?_) (fun h8 => ?_)
  · skip
    have h8 := zB_f0 h8
    refine v_iconst (v := (-1)) g dX5_frost_53 (by decide) ?_
    exact v_iret g E dX5_frost_54 rfl ⟨by first | (simp only [frostC, rC, *, ↓reduceIte, Bool.true_eq_false, Bool.false_eq_true, if_true, if_false]; done) | (simp [frostC, rC, *]; done) | (simp only [frostC, rC, *, ↓reduceIte, Bool.true_eq_false, Bool.false_eq_true, if_true, if_false]; rfl), rfl, by first | (simp only [frostC, rC, *, ↓reduceIte, Bool.true_eq_false, Bool.false_eq_true, if_true, if_false]; done) | (simp [frostC, rC, *]; done) | (simp only [frostC, rC, *, ↓reduceIte, Bool.true_eq_false, Bool.false_eq_true, if_true, if_false]; rfl)⟩
  · skip
    have h8 := zB_t0 h8
    refine v_aload_n g dX5_frost_11 0 rfl ?_
    refine v_get g dX5_frost_12 fl_RX5_16 (rd_W B _ _) rfl ?_
    refine v_iload_n g dX5_frost_15 2 rfl ?_
    refine v_callV (As := [.int cell]) (r := some (.int (zB (hC C cell)))) g dX5_frost_16 (k_holdsLC (C := sO C 1 a) (i := 0) (by decide) cell) cl_X0_holds ml_RX5_103 im_X0_holds (rd_L B _ _ (by decide)) rfl rfl ⟨rfl, rfl, rfl⟩ ?_
    refine v_if_eq (tgt := 53) g dX5_frost_19 (by decide) (fun h19 => ?_) (fun h19 => ?_)
    · skip
      have h19 := zB_f0 h19
      refine v_iconst (v := (-1)) g dX5_frost_53 (by decide) ?_
      exact v_iret g E dX5_frost_54 rfl ⟨by first | (simp only [frostC, rC, *, ↓reduceIte, Bool.true_eq_false, Bool.false_eq_true, if_true, if_false]; done) | (simp [frostC, rC, *]; done) | (simp only [frostC, rC, *, ↓reduceIte, Bool.true_eq_false, Bool.false_eq_true, if_true, if_false]; rfl), rfl, by first | (simp only [frostC, rC, *, ↓reduceIte, Bool.true_eq_false, Bool.false_eq_true, if_true, if_false]; done) | (simp [frostC, rC, *]; done) | (simp only [frostC, rC, *, ↓reduceIte, Bool.true_eq_false, Bool.false_eq_true, if_true, if_false]; rfl)⟩
    · skip
      have h19 := zB_t0 h19
      refine v_iload_n g dX5_frost_22 3 rfl ?_
      refine v_iconst (v := 0) g dX5_frost_23 (by decide) ?_
      refine v_bipush (v := 8) g dX5_frost_24 (by decide) ?_
      refine v_callS (As := [.int nn, .int 0, .int 8]) (r := some (.int (zB (withinC nn 0 8)))) g dX5_frost_26 (k_X5_isWithin nn 0 8) cl_X5_isWithin ml_RX5_165 sm_X5_isWithin rfl ⟨rfl, rfl, rfl⟩ ?_
      refine v_if_eq (tgt := 53) g dX5_frost_29 (by decide) (fun h29 => ?_) (fun h29 => ?_)
      · skip
        have h29 := zB_f0 h29
        refine v_iconst (v := (-1)) g dX5_frost_53 (by decide) ?_
        exact v_iret g E dX5_frost_54 rfl ⟨by first | (simp only [frostC, rC, *, ↓reduceIte, Bool.true_eq_false, Bool.false_eq_true, if_true, if_false]; done) | (simp [frostC, rC, *]; done) | (simp only [frostC, rC, *, ↓reduceIte, Bool.true_eq_false, Bool.false_eq_true, if_true, if_false]; rfl), rfl, by first | (simp only [frostC, rC, *, ↓reduceIte, Bool.true_eq_false, Bool.false_eq_true, if_true, if_false]; done) | (simp [frostC, rC, *]; done) | (simp only [frostC, rC, *, ↓reduceIte, Bool.true_eq_false, Bool.false_eq_true, if_true, if_false]; rfl)⟩
      · skip
        have h29 := zB_t0 h29
        refine v_iload g dX5_frost_32 4 rfl ?_
        refine v_iconst (v := 0) g dX5_frost_34 (by decide) ?_
        refine v_bipush (v := 10) g dX5_frost_35 (by decide) ?_
        refine v_callS (As := [.int x, .int 0, .int 10]) (r := some (.int (zB (withinC x 0 10)))) g dX5_frost_37 (k_X5_isWithin x 0 10) cl_X5_isWithin ml_RX5_165 sm_X5_isWithin rfl ⟨rfl, rfl, rfl⟩ ?_
        refine v_if_eq (tgt := 53) g dX5_frost_40 (by decide) (fun h40 => ?_) (fun h40 => ?_)
        · skip
          have h40 := zB_f0 h40
          refine v_iconst (v := (-1)) g dX5_frost_53 (by decide) ?_
          exact v_iret g E dX5_frost_54 rfl ⟨by first | (simp only [frostC, rC, *, ↓reduceIte, Bool.true_eq_false, Bool.false_eq_true, if_true, if_false]; done) | (simp [frostC, rC, *]; done) | (simp only [frostC, rC, *, ↓reduceIte, Bool.true_eq_false, Bool.false_eq_true, if_true, if_false]; rfl), rfl, by first | (simp only [frostC, rC, *, ↓reduceIte, Bool.true_eq_false, Bool.false_eq_true, if_true, if_false]; done) | (simp [frostC, rC, *]; done) | (simp only [frostC, rC, *, ↓reduceIte, Bool.true_eq_false, Bool.false_eq_true, if_true, if_false]; rfl)⟩
        · skip
          have h40 := zB_t0 h40
          refine v_iload g dX5_frost_43 5 rfl ?_
          refine v_iconst (v := 0) g dX5_frost_45 (by decide) ?_
          refine v_iconst (v := 1) g dX5_frost_46 (by decide) ?_
          refine v_callS (As := [.int w, .int 0, .int 1]) (r := some (.int (zB (withinC w 0 1)))) g dX5_frost_47 (k_X5_isWithin w 0 1) cl_X5_isWithin ml_RX5_165 sm_X5_isWithin rfl ⟨rfl, rfl, rfl⟩ ?_
          refine v_if_ne (tgt := 55) g dX5_frost_50 (by decide) (fun h50 => ?_) (fun h50 => ?_)
          · skip
            have h50 := zB_t0 h50
            obtain ⟨m, hm1_m, hm2_m, em_m⟩ := within_nI (a := 0) (b := 8) rfl rfl h29
            subst em_m
            refine v_aload_n g dX5_frost_55 0 rfl ?_
            refine v_iload_n g dX5_frost_56 1 rfl ?_
            refine v_iload_n g dX5_frost_57 2 rfl ?_
            refine v_iload_n g dX5_frost_58 3 rfl ?_
            refine v_iload g dX5_frost_59 4 rfl ?_
            refine v_callV (As := [.int r, .int cell, .int (nI m), .int x]) (r := some (.long ((casFrom C m r cell x (2 ^ m) 0 0 a).1))) g dX5_frost_61 (k_X5_casesOfFrost (C := C) a (m := m) (N := 2 ^ m) (by omega) (shl_nI hm2_m) (Nat.lt_of_le_of_lt (Nat.pow_le_pow_right (by decide) hm2_m) (by decide)) r cell x) cl_X5_casesOfFrost ml_RX5_238 im_X5_casesOfFrost (rd_W B _ _) rfl rfl ⟨rfl, rfl, rfl⟩ ?_
            refine v_lstore (ls' := [(6, .long ((casFrom C m r cell x (2 ^ m) 0 0 a).1)), (0, .ref B), (1, .int r), (2, .int cell), (3, .int (nI m)), (4, .int x), (5, .int w)]) g dX5_frost_64 rfl rfl ?_
            refine v_lconst (v := 1) g dX5_frost_66 (by decide) ?_
            refine v_lstore (ls' := [(8, .long 1), (6, .long ((casFrom C m r cell x (2 ^ m) 0 0 a).1)), (0, .ref B), (1, .int r), (2, .int cell), (3, .int (nI m)), (4, .int x), (5, .int w)]) g dX5_frost_67 rfl rfl ?_
            refine v_iconst (v := 0) g dX5_frost_69 (by decide) ?_
            refine v_istore (ls' := [(10, .int 0), (8, .long 1), (6, .long ((casFrom C m r cell x (2 ^ m) 0 0 a).1)), (0, .ref B), (1, .int r), (2, .int cell), (3, .int (nI m)), (4, .int x), (5, .int w)]) g dX5_frost_70 rfl rfl ?_
            refine v_sub (ls' := [(10, .int 0), (8, .long 1), (6, .long ((casFrom C m r cell x (2 ^ m) 0 0 a).1)), (0, .ref B), (1, .int r), (2, .int cell), (3, .int (nI m)), (4, .int x), (5, .int w)]) [0, 1, 2, 3, 4, 5, 6, 7, 8] rfl ?_
            exact tens m (by omega) _ _ (by rw [frostC, if_neg (by rw [rC, h8]; decide), if_neg (by rw [h19]; decide), if_neg (by rw [h29]; decide), if_neg (by rw [h40]; decide), if_neg (by rw [h50]; decide), nI_clamp (by omega)]; rfl) m 0 1 (by omega) rfl
          · skip
            have h50 := zB_f0 h50
            refine v_iconst (v := (-1)) g dX5_frost_53 (by decide) ?_
            exact v_iret g E dX5_frost_54 rfl ⟨by first | (simp only [frostC, rC, *, ↓reduceIte, Bool.true_eq_false, Bool.false_eq_true, if_true, if_false]; done) | (simp [frostC, rC, *]; done) | (simp only [frostC, rC, *, ↓reduceIte, Bool.true_eq_false, Bool.false_eq_true, if_true, if_false]; rfl), rfl, by first | (simp only [frostC, rC, *, ↓reduceIte, Bool.true_eq_false, Bool.false_eq_true, if_true, if_false]; done) | (simp [frostC, rC, *]; done) | (simp only [frostC, rC, *, ↓reduceIte, Bool.true_eq_false, Bool.false_eq_true, if_true, if_false]; rfl)⟩
theorem k_X5_disturbAhead (a : OV) (d : Int32) : Ctr l G 3 64 0 0 mX5_disturbAhead [.ref B, .int d] n (ren B (sO C 1 a) ρ) none n (ren B (sO C 1 (disC C a d)) ρ) := by
  refine Ctr.of (by decide +kernel) rfl (fun X g E => ?_)
  refine v_sub (ls' := [(0, .ref B), (1, .int d)]) [0, 1] rfl ?_
  refine v_aload_n g dX5_disturbAhead_0 0 rfl ?_
  refine v_get g dX5_disturbAhead_1 fl_RX5_16 (rd_W B _ _) rfl ?_
  refine v_callV (As := []) (r := some (.int (cellsC C))) g dX5_disturbAhead_4 (k_cellsLC (C := sO C 1 a) (i := 0) (by decide)) cl_X0_cells ml_RX5_228 im_X0_cells (rd_L B _ _ (by decide)) rfl rfl ⟨rfl, rfl, rfl⟩ ?_
  refine v_istore_n (ls' := [(2, .int (cellsC C)), (0, .ref B), (1, .int d)]) g dX5_disturbAhead_7 rfl rfl ?_
  refine v_aload_n g dX5_disturbAhead_8 1 rfl ?_
  refine v_get g dX5_disturbAhead_9 fl_RX5_29 (rd_W B _ _) rfl ?_
  refine v_get g dX5_disturbAhead_12 fl_RX5_94 (rd_O B _ _ (by decide)) rfl ?_
  refine v_istore_n (ls' := [(3, .int a.1), (2, .int (cellsC C)), (0, .ref B), (1, .int d)]) g dX5_disturbAhead_15 rfl rfl ?_
  refine v_iload_n g dX5_disturbAhead_16 1 rfl ?_
  refine v_iconst (v := 1) g dX5_disturbAhead_17 (by decide) ?_
  refine v_icmp_lt (tgt := 30) g dX5_disturbAhead_18 (by decide) (fun h18 => ?_) (fun h18 => ?_)
  · skip
    exact v_vret g E dX5_disturbAhead_30 rfl ⟨rfl, rfl, by first | (rw [disC, if_pos h18]; done) | (rw [disC, if_neg h18, if_pos h23]; done) | (rw [disC, if_neg h18, if_neg h23, if_pos (Int32.not_le.mp h27)]; done) | (unfold disC; rw [if_neg h18, if_neg h23, if_neg (Int32.not_lt.mpr h27)]; first | (simp only [*, ↓reduceIte, if_true, if_false]; done) | (simp [*]; done) | (simp [*, nI_clamp (show r0 < 2 ^ 31 by omega)]; done))⟩
  · skip
    refine v_iload_n g dX5_disturbAhead_21 0 rfl ?_
    refine v_iconst (v := 1) g dX5_disturbAhead_22 (by decide) ?_
    refine v_icmp_lt (tgt := 30) g dX5_disturbAhead_23 (by decide) (fun h23 => ?_) (fun h23 => ?_)
    · skip
      exact v_vret g E dX5_disturbAhead_30 rfl ⟨rfl, rfl, by first | (rw [disC, if_pos h18]; done) | (rw [disC, if_neg h18, if_pos h23]; done) | (rw [disC, if_neg h18, if_neg h23, if_pos (Int32.not_le.mp h27)]; done) | (unfold disC; rw [if_neg h18, if_neg h23, if_neg (Int32.not_lt.mpr h27)]; first | (simp only [*, ↓reduceIte, if_true, if_false]; done) | (simp [*]; done) | (simp [*, nI_clamp (show r0 < 2 ^ 31 by omega)]; done))⟩
    · skip
      refine v_iload_n g dX5_disturbAhead_26 3 rfl ?_
      refine v_if_ge (tgt := 31) g dX5_disturbAhead_27 (by decide) (fun h27 => ?_) (fun h27 => ?_)
      · skip
        refine v_iload_n g dX5_disturbAhead_31 3 rfl ?_
        refine v_bipush (v := 8) g dX5_disturbAhead_32 (by decide) ?_
        refine v_idiv g dX5_disturbAhead_34 (by decide) ?_
        refine v_istore (ls' := [(4, .int (d / 8)), (3, .int a.1), (2, .int (cellsC C)), (0, .ref B), (1, .int d)]) g dX5_disturbAhead_35 rfl rfl ?_
        refine v_iload_n g dX5_disturbAhead_37 4 rfl ?_
        refine v_bipush (v := 8) g dX5_disturbAhead_38 (by decide) ?_
        refine v_irem g dX5_disturbAhead_40 (by decide) ?_
        by_cases h41_0 : (d % 8) = 0
        · skip
          refine v_tableIn (tgt := 72) (off := 31) g dX5_disturbAhead_41 (by rw [h41_0]; decide) (by rw [h41_0]; rfl) (by decide) ?_
          refine v_aload_n g dX5_disturbAhead_72 3 rfl ?_
          refine v_get g dX5_disturbAhead_73 fl_RX5_29 (rd_W B _ _) rfl ?_
          refine v_iload g dX5_disturbAhead_76 0 rfl ?_
          refine v_iload_n g dX5_disturbAhead_78 2 rfl ?_
          refine v_irem g dX5_disturbAhead_79 (fun h => h18 (by rw [h]; decide)) ?_
          refine v_callV (As := [.int ((d / 8) % cellsC C)]) (r := none) g dX5_disturbAhead_80 (k_digA (C := C) a ((d / 8) % cellsC C)) cl_X1_digIn ml_RX5_182 im_X1_digIn (rd_O B _ _ (by decide)) rfl rfl ⟨rfl, rfl, rfl⟩ ?_
          refine v_goto (tgt := 127) g dX5_disturbAhead_83 (by decide) ?_
          exact v_vret g E dX5_disturbAhead_127 rfl ⟨rfl, rfl, by first | (rw [disC, if_pos h18]; done) | (rw [disC, if_neg h18, if_pos h23]; done) | (rw [disC, if_neg h18, if_neg h23, if_pos (Int32.not_le.mp h27)]; done) | (unfold disC; rw [if_neg h18, if_neg h23, if_neg (Int32.not_lt.mpr h27)]; first | (simp only [*, ↓reduceIte, if_true, if_false]; done) | (simp [*]; done) | (simp [*, nI_clamp (show r0 < 2 ^ 31 by omega)]; done))⟩
        by_cases h41_1 : (d % 8) = 1
        · skip
          refine v_tableIn (tgt := 72) (off := 31) g dX5_disturbAhead_41 (by rw [h41_1]; decide) (by rw [h41_1]; rfl) (by decide) ?_
          refine v_aload_n g dX5_disturbAhead_72 3 rfl ?_
          refine v_get g dX5_disturbAhead_73 fl_RX5_29 (rd_W B _ _) rfl ?_
          refine v_iload g dX5_disturbAhead_76 0 rfl ?_
          refine v_iload_n g dX5_disturbAhead_78 2 rfl ?_
          refine v_irem g dX5_disturbAhead_79 (fun h => h18 (by rw [h]; decide)) ?_
          refine v_callV (As := [.int ((d / 8) % cellsC C)]) (r := none) g dX5_disturbAhead_80 (k_digA (C := C) a ((d / 8) % cellsC C)) cl_X1_digIn ml_RX5_182 im_X1_digIn (rd_O B _ _ (by decide)) rfl rfl ⟨rfl, rfl, rfl⟩ ?_
          refine v_goto (tgt := 127) g dX5_disturbAhead_83 (by decide) ?_
          exact v_vret g E dX5_disturbAhead_127 rfl ⟨rfl, rfl, by first | (rw [disC, if_pos h18]; done) | (rw [disC, if_neg h18, if_pos h23]; done) | (rw [disC, if_neg h18, if_neg h23, if_pos (Int32.not_le.mp h27)]; done) | (unfold disC; rw [if_neg h18, if_neg h23, if_neg (Int32.not_lt.mpr h27)]; first | (simp only [*, ↓reduceIte, if_true, if_false]; done) | (simp [*]; done) | (simp [*, nI_clamp (show r0 < 2 ^ 31 by omega)]; done))⟩
        by_cases h41_2 : (d % 8) = 2
        · skip
          refine v_tableIn (tgt := 86) (off := 45) g dX5_disturbAhead_41 (by rw [h41_2]; decide) (by rw [h41_2]; rfl) (by decide) ?_
          refine v_aload_n g dX5_disturbAhead_86 3 rfl ?_
          refine v_get g dX5_disturbAhead_87 fl_RX5_29 (rd_W B _ _) rfl ?_
          refine v_iload g dX5_disturbAhead_90 0 rfl ?_
          refine v_iload_n g dX5_disturbAhead_92 2 rfl ?_
          refine v_irem g dX5_disturbAhead_93 (fun h => h18 (by rw [h]; decide)) ?_
          refine v_callV (As := [.int ((d / 8) % cellsC C)]) (r := none) g dX5_disturbAhead_94 (k_fillA (C := C) a ((d / 8) % cellsC C)) cl_X1_fillIn ml_RX5_191 im_X1_fillIn (rd_O B _ _ (by decide)) rfl rfl ⟨rfl, rfl, rfl⟩ ?_
          refine v_goto (tgt := 127) g dX5_disturbAhead_97 (by decide) ?_
          exact v_vret g E dX5_disturbAhead_127 rfl ⟨rfl, rfl, by first | (rw [disC, if_pos h18]; done) | (rw [disC, if_neg h18, if_pos h23]; done) | (rw [disC, if_neg h18, if_neg h23, if_pos (Int32.not_le.mp h27)]; done) | (unfold disC; rw [if_neg h18, if_neg h23, if_neg (Int32.not_lt.mpr h27)]; first | (simp only [*, ↓reduceIte, if_true, if_false]; done) | (simp [*]; done) | (simp [*, nI_clamp (show r0 < 2 ^ 31 by omega)]; done))⟩
        by_cases h41_3 : (d % 8) = 3
        · skip
          refine v_tableIn (tgt := 100) (off := 59) g dX5_disturbAhead_41 (by rw [h41_3]; decide) (by rw [h41_3]; rfl) (by decide) ?_
          refine v_aload_n g dX5_disturbAhead_100 3 rfl ?_
          refine v_get g dX5_disturbAhead_101 fl_RX5_29 (rd_W B _ _) rfl ?_
          refine v_aload_n g dX5_disturbAhead_104 3 rfl ?_
          refine v_get g dX5_disturbAhead_105 fl_RX5_29 (rd_W B _ _) rfl ?_
          refine v_get g dX5_disturbAhead_108 fl_RX5_126 (rd_O B _ _ (by decide)) rfl ?_
          refine v_iload g dX5_disturbAhead_111 0 rfl ?_
          refine v_iload_n g dX5_disturbAhead_113 1 rfl ?_
          refine v_irem g dX5_disturbAhead_114 (fun h => h23 (by rw [h]; decide)) ?_
          refine v_iconst (v := 2) g dX5_disturbAhead_115 (by decide) ?_
          refine v_mmin g dX5_disturbAhead_116 ml_RX5_280 ⟨rfl, rfl⟩ ?_
          obtain ⟨r0, hr0, er⟩ := min_nI (x := d / 8 % a.1) (dis_pos h27)
          refine v_eqi er ?_
          refine v_aaldR (v := .ref (adR B 1 r0)) g dX5_disturbAhead_119 (rd_Rs B _ _ (by decide)) (vp_in_nI (by omega) (by decide)) (by rw [nI_clamp (by omega)]; rfl) ?_
          refine v_callV (As := [.ref (adR B 1 r0)]) (r := some (.int (leaveR (a.2.2.2.2.2.2.2 r0).1 (a.2.2.2.2.2.2.2 r0).2.2.2.2))) g dX5_disturbAhead_120 (k_leaveA (C := C) a hr0) cl_X1_leaveLast ml_RX5_194 im_X1_leaveLast (rd_O B _ _ (by decide)) rfl rfl ⟨rfl, rfl, rfl⟩ ?_
          refine v_pop g dX5_disturbAhead_123 rfl ?_
          refine v_goto (tgt := 127) g dX5_disturbAhead_124 (by decide) ?_
          exact v_vret g E dX5_disturbAhead_127 rfl ⟨rfl, rfl, by first | (rw [disC, if_pos h18]; done) | (rw [disC, if_neg h18, if_pos h23]; done) | (rw [disC, if_neg h18, if_neg h23, if_pos (Int32.not_le.mp h27)]; done) | (unfold disC; rw [if_neg h18, if_neg h23, if_neg (Int32.not_lt.mpr h27)]; first | (simp only [*, ↓reduceIte, if_true, if_false]; done) | (simp [*]; done) | (simp [*, nI_clamp (show r0 < 2 ^ 31 by omega)]; done))⟩
        refine v_tableOut (tgt := 127) g dX5_disturbAhead_41 (by have q0 := lv_neT (a := 0) h41_0 rfl; have q1 := lv_neT (a := 1) h41_1 rfl; have q2 := lv_neT (a := 2) h41_2 rfl; have q3 := lv_neT (a := 3) h41_3 rfl; omega) (by decide) ?_
        exact v_vret g E dX5_disturbAhead_127 rfl ⟨rfl, rfl, by first | (rw [disC, if_pos h18]; done) | (rw [disC, if_neg h18, if_pos h23]; done) | (rw [disC, if_neg h18, if_neg h23, if_pos (Int32.not_le.mp h27)]; done) | (unfold disC; rw [if_neg h18, if_neg h23, if_neg (Int32.not_lt.mpr h27)]; first | (simp only [*, ↓reduceIte, if_true, if_false]; done) | (simp [*]; done) | (simp [*, nI_clamp (show r0 < 2 ^ 31 by omega)]; done))⟩
      · skip
        exact v_vret g E dX5_disturbAhead_30 rfl ⟨rfl, rfl, by first | (rw [disC, if_pos h18]; done) | (rw [disC, if_neg h18, if_pos h23]; done) | (rw [disC, if_neg h18, if_neg h23, if_pos (Int32.not_le.mp h27)]; done) | (unfold disC; rw [if_neg h18, if_neg h23, if_neg (Int32.not_lt.mpr h27)]; first | (simp only [*, ↓reduceIte, if_true, if_false]; done) | (simp [*]; done) | (simp [*, nI_clamp (show r0 < 2 ^ 31 by omega)]; done))⟩
theorem k_X5_century (a : OV) (z nn w : Int32) : Ctr l G 5 121 0 0 mX5_century [.ref B, .int z, .int nn, .int w] n (ren B (sO C 1 a) ρ) (some (.int (cenC C a z nn w).1)) n (ren B (sO C 1 (cenC C a z nn w).2) ρ) := by
  refine Ctr.of (by decide +kernel) rfl (fun X g E => ?_)
  have loop : ∀ (m : Nat) (hm : m < 2 ^ 31) (q k : Nat) (b : OV), k + q = m → cenC C a z nn w = ((if w = 0 then allHaveC (cenFrom C z q k b).2.2.2.2.2.2.1 else bcC (cenFrom C z q k b).2.2.1), cenFrom C z q k b) → V X 0 0 n (ren B (sO C 1 b) ρ) 46 [(4, .int (nI k)), (0, .ref B), (1, .int z), (2, .int (nI m)), (3, .int w)] [] := by
    intro m hm q
    induction q with
    | zero =>
      intro k b hq he
      refine v_iload g dX5_century_46 0 rfl ?_
      refine v_iload_n g dX5_century_48 3 rfl ?_
      refine v_icmp_ge (tgt := 76) g dX5_century_49 (by decide) (fun h49 => ?_) (fun h49 => absurd (nI_le (a := m) (b := k) (by omega) (by omega)) h49)
      refine v_iload_n g dX5_century_76 4 rfl ?_
      refine v_if_ne (tgt := 90) g dX5_century_77 (by decide) (fun h77 => ?_) (fun h77 => ?_)
      · skip
        refine v_aload_n g dX5_century_90 1 rfl ?_
        refine v_get g dX5_century_91 fl_RX5_29 (rd_W B _ _) rfl ?_
        refine v_get g dX5_century_94 fl_RX5_114 (rd_O B _ _ (by decide)) rfl ?_
        refine v_callS (As := [.long b.2.2.1]) (r := some (.int (bcC b.2.2.1))) g dX5_century_97 (k_J13_bitCount b.2.2.1) cl_J13_bitCount_95d88 ml_RX5_185 sm_J13_bitCount_95d88 rfl ⟨rfl, rfl, rfl⟩ ?_
        exact v_iret g E dX5_century_100 rfl ⟨by rw [he]; first | (rw [if_pos h77]; rfl) | (rw [if_neg h77]; rfl), rfl, by rw [he]; rfl⟩
      · skip
        refine v_aload_n g dX5_century_80 1 rfl ?_
        refine v_get g dX5_century_81 fl_RX5_29 (rd_W B _ _) rfl ?_
        refine v_callV (As := []) (r := some (.int (allHaveC b.2.2.2.2.2.2.1))) g dX5_century_84 (k_X1_ownedByAll (rd_O B _ _ (by decide)) (rd_Ow B _ _ (by decide))) cl_X1_ownedByAll ml_RX5_254 im_X1_ownedByAll (rd_O B _ _ (by decide)) rfl rfl ⟨rfl, rfl, rfl⟩ ?_
        refine v_goto (tgt := 100) g dX5_century_87 (by decide) ?_
        exact v_iret g E dX5_century_100 rfl ⟨by rw [he]; first | (rw [if_pos h77]; rfl) | (rw [if_neg h77]; rfl), rfl, by rw [he]; rfl⟩
    | succ q ih =>
      intro k b hq he
      refine v_iload g dX5_century_46 0 rfl ?_
      refine v_iload_n g dX5_century_48 3 rfl ?_
      refine v_icmp_ge (tgt := 76) g dX5_century_49 (by decide) (fun h49 => absurd h49 (nI_ge (a := k) (b := m) (by omega) hm)) (fun h49 => ?_)
      refine v_aload_n g dX5_century_52 1 rfl ?_
      refine v_iload_n g dX5_century_53 2 rfl ?_
      refine v_iload g dX5_century_54 0 rfl ?_
      refine v_callS (As := [.int z, .int (nI k)]) (r := some (.int (drawC z (nI k)))) g dX5_century_56 (k_X5_drawOf z (nI k)) cl_X5_drawOf ml_RX5_248 sm_X5_drawOf rfl ⟨rfl, rfl, rfl⟩ ?_
      refine v_callV (As := [.int (drawC z (nI k))]) (r := none) g dX5_century_59 (k_X5_disturbAhead (C := C) b (drawC z (nI k))) cl_X5_disturbAhead ml_RX5_251 im_X5_disturbAhead (rd_W B _ _) rfl rfl ⟨rfl, rfl, rfl⟩ ?_
      refine v_aload_n g dX5_century_62 1 rfl ?_
      refine v_get g dX5_century_63 fl_RX5_29 (rd_W B _ _) rfl ?_
      refine v_iconst (v := 1) g dX5_century_66 (by decide) ?_
      refine v_callV (As := [.int 1]) (r := none) g dX5_century_67 (k_X1_passYears (C := C) (i := 1) (by decide) (L := cL C 0) rfl (disC C b (drawC z (nI k))) (m := 1) (by omega)) cl_X1_passYears ml_RX5_172 im_X1_passYears (rd_O B _ _ (by decide)) rfl rfl ⟨rfl, rfl, rfl⟩ ?_
      refine v_iinc (v := nI (k + 1)) (ls' := [(4, .int (nI (k + 1))), (0, .ref B), (1, .int z), (2, .int (nI m)), (3, .int w)]) g dX5_century_70 0 rfl (nI_1 k) rfl rfl ?_
      refine v_goto (tgt := 46) g dX5_century_73 (by decide) ?_
      refine v_sub (ls' := [(4, .int (nI (k + 1))), (0, .ref B), (1, .int z), (2, .int (nI m)), (3, .int w)]) [0, 1, 2, 3, 4] rfl ?_
      exact ih (k + 1) _ (by omega) (by rw [he, cenFrom])
  refine v_sub (ls' := [(0, .ref B), (1, .int z), (2, .int nn), (3, .int w)]) [0, 1, 2, 3] rfl ?_
  refine v_iload_n g dX5_century_0 1 rfl ?_
  refine v_iconst (v := 0) g dX5_century_1 (by decide) ?_
  refine v_sipush (v := 9999) g dX5_century_2 (by decide) ?_
  refine v_callS (As := [.int z, .int 0, .int 9999]) (r := some (.int (zB (withinC z 0 9999)))) g dX5_century_5 (k_X5_isWithin z 0 9999) cl_X5_isWithin ml_RX5_165 sm_X5_isWithin rfl ⟨rfl, rfl, rfl⟩ ?_
  refine v_if_eq (tgt := 30) g dX5_century_8 (by decide) (fun h8 => ?_) (fun h8 => ?_)
  · skip
    have h8 := zB_f0 h8
    refine v_iconst (v := (-1)) g dX5_century_30 (by decide) ?_
    exact v_iret g E dX5_century_31 rfl ⟨by first | (simp only [cenC, *, ↓reduceIte, Bool.true_eq_false, Bool.false_eq_true, if_true, if_false]; done) | (simp [cenC, *]; done) | (simp only [cenC, *, ↓reduceIte, Bool.true_eq_false, Bool.false_eq_true, if_true, if_false]; rfl), rfl, by first | (simp only [cenC, *, ↓reduceIte, Bool.true_eq_false, Bool.false_eq_true, if_true, if_false]; done) | (simp [cenC, *]; done) | (simp only [cenC, *, ↓reduceIte, Bool.true_eq_false, Bool.false_eq_true, if_true, if_false]; rfl)⟩
  · skip
    have h8 := zB_t0 h8
    refine v_iload_n g dX5_century_11 2 rfl ?_
    refine v_iconst (v := 1) g dX5_century_12 (by decide) ?_
    refine v_bipush (v := 60) g dX5_century_13 (by decide) ?_
    refine v_callS (As := [.int nn, .int 1, .int 60]) (r := some (.int (zB (withinC nn 1 60)))) g dX5_century_15 (k_X5_isWithin nn 1 60) cl_X5_isWithin ml_RX5_165 sm_X5_isWithin rfl ⟨rfl, rfl, rfl⟩ ?_
    refine v_if_eq (tgt := 30) g dX5_century_18 (by decide) (fun h18 => ?_) (fun h18 => ?_)
    · skip
      have h18 := zB_f0 h18
      refine v_iconst (v := (-1)) g dX5_century_30 (by decide) ?_
      exact v_iret g E dX5_century_31 rfl ⟨by first | (simp only [cenC, *, ↓reduceIte, Bool.true_eq_false, Bool.false_eq_true, if_true, if_false]; done) | (simp [cenC, *]; done) | (simp only [cenC, *, ↓reduceIte, Bool.true_eq_false, Bool.false_eq_true, if_true, if_false]; rfl), rfl, by first | (simp only [cenC, *, ↓reduceIte, Bool.true_eq_false, Bool.false_eq_true, if_true, if_false]; done) | (simp [cenC, *]; done) | (simp only [cenC, *, ↓reduceIte, Bool.true_eq_false, Bool.false_eq_true, if_true, if_false]; rfl)⟩
    · skip
      have h18 := zB_t0 h18
      refine v_iload_n g dX5_century_21 3 rfl ?_
      refine v_iconst (v := 0) g dX5_century_22 (by decide) ?_
      refine v_iconst (v := 1) g dX5_century_23 (by decide) ?_
      refine v_callS (As := [.int w, .int 0, .int 1]) (r := some (.int (zB (withinC w 0 1)))) g dX5_century_24 (k_X5_isWithin w 0 1) cl_X5_isWithin ml_RX5_165 sm_X5_isWithin rfl ⟨rfl, rfl, rfl⟩ ?_
      refine v_if_ne (tgt := 32) g dX5_century_27 (by decide) (fun h27 => ?_) (fun h27 => ?_)
      · skip
        have h27 := zB_t0 h27
        obtain ⟨m, hm1_m, hm2_m, em_m⟩ := within_nI (a := 1) (b := 60) rfl rfl h18
        subst em_m
        refine v_aload_n g dX5_century_32 0 rfl ?_
        refine v_get g dX5_century_33 fl_RX5_29 (rd_W B _ _) rfl ?_
        refine v_aload_n g dX5_century_36 0 rfl ?_
        refine v_get g dX5_century_37 fl_RX5_25 (rd_W B _ _) rfl ?_
        refine v_callV (As := [.ref (adO B 0)]) (r := none) g dX5_century_40 (k_orCopy (C := C) (i := 1) (j := 0) (by decide) (by decide) (by decide) a) cl_X1_copyFrom ml_RX5_87 im_X1_copyFrom (rd_O B _ _ (by decide)) rfl rfl ⟨rfl, rfl, rfl⟩ ?_
        refine v_iconst (v := 0) g dX5_century_43 (by decide) ?_
        refine v_istore (ls' := [(4, .int 0), (0, .ref B), (1, .int z), (2, .int (nI m)), (3, .int w)]) g dX5_century_44 rfl rfl ?_
        refine v_sub (ls' := [(4, .int 0), (0, .ref B), (1, .int z), (2, .int (nI m)), (3, .int w)]) [0, 1, 2, 3, 4] rfl ?_
        exact loop m (by omega) m 0 _ (by omega) (by rw [cenC, if_neg (by rw [h8]; decide), if_neg (by rw [h18]; decide), if_neg (by rw [h27]; decide), nI_clamp (by omega)])
      · skip
        have h27 := zB_f0 h27
        refine v_iconst (v := (-1)) g dX5_century_30 (by decide) ?_
        exact v_iret g E dX5_century_31 rfl ⟨by first | (simp only [cenC, *, ↓reduceIte, Bool.true_eq_false, Bool.false_eq_true, if_true, if_false]; done) | (simp [cenC, *]; done) | (simp only [cenC, *, ↓reduceIte, Bool.true_eq_false, Bool.false_eq_true, if_true, if_false]; rfl), rfl, by first | (simp only [cenC, *, ↓reduceIte, Bool.true_eq_false, Bool.false_eq_true, if_true, if_false]; done) | (simp [cenC, *]; done) | (simp only [cenC, *, ↓reduceIte, Bool.true_eq_false, Bool.false_eq_true, if_true, if_false]; rfl)⟩
end C9
