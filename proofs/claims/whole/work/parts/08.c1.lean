/-! CLASS, LEAVES THAT READ: contracts over any memory that holds the cells -/
def ctn (F : Int64) (x : Int32) : Bool := if x < 0 then false else if 36 ≤ x then false else if lg_cmp ((F.toUInt64 >>> (x.toInt64.toUInt64 &&& Int64.toUInt64 63)).toInt64 &&& 1) 0 = 0 then false else true
def bitC (x : Int32) : Int64 := if x < 0 then 0 else if 36 ≤ x then 0 else 1 <<< (x.toInt64 &&& 63)
def withinC (x lo hi : Int32) : Bool := if x < lo then false else if hi < x then false else true
def isOwnC (p : Int32) : Bool := if p < 0 then false else if 4 ≤ p then false else true
def holdsC (li wi x : Int32) : Bool := if x < 0 then false else if li * wi ≤ x then false else if 36 ≤ x then false else true
def groundC (F H Br : Int64) (x : Int32) : Int32 := if ctn F x = true then 0 else if ctn H x = true then 1 else if ctn Br x = true then 2 else 3
def ownerC (ow : Nat → Int32) (x : Int32) : Int32 := if x < 0 then 0 else if 36 ≤ x then 0 else ow x.toNatClampNeg
def nextC (li wi x way : Int32) : Int32 := if wi < 1 then -4 else if x < 0 then -4 else if li * wi ≤ x then -4 else if 0 ≤ way then (if way = 0 then (if x < wi then -4 else x - wi) else if way = 1 then (if wi ≤ x % wi + 1 then -4 else x + 1) else if way = 2 then (if li * wi ≤ x + wi then -4 else x + wi) else (if x % wi ≤ 0 then -4 else x - 1)) else -4
def besC (li wi x : Int32) (cs : Int64) : Bool := if ctn cs (nextC li wi x 0) = true then true else if ctn cs (nextC li wi x 1) = true then true else if ctn cs (nextC li wi x 2) = true then true else if ctn cs (nextC li wi x 3) = true then true else false
def treeAtC (sz : Int32) (t : Nat → Int32) (k : Int32) : Int32 := if k < 0 then -4 else if sz ≤ k then -4 else if 4 ≤ k then -4 else t k.toNatClampNeg
def rowCellsC (sz : Int32) (t : Nat → Int32) : Int64 := if sz ≤ 0 then 0 else if sz ≤ 1 then (0 ||| bitC (t 0)) else if sz ≤ 2 then ((0 ||| bitC (t 0)) ||| bitC (t 1)) else if sz ≤ 3 then (((0 ||| bitC (t 0)) ||| bitC (t 1)) ||| bitC (t 2)) else ((((0 ||| bitC (t 0)) ||| bitC (t 1)) ||| bitC (t 2)) ||| bitC (t 3))
def rowAsC (h sz : Int32) (t : Nat → Int32) (h' sz' : Int32) (t' : Nat → Int32) : Bool := if ¬ h = h' then false else if ¬ sz = sz' then false else if sz ≤ 0 then true else if ¬ t 0 = t' 0 then false else if sz ≤ 1 then true else if ¬ t 1 = t' 1 then false else if sz ≤ 2 then true else if ¬ t 2 = t' 2 then false else if sz ≤ 3 then true else if ¬ t 3 = t' 3 then false else true
def orHoldsC (rc r : Int32) : Bool := if r < 0 then false else if rc ≤ r then false else if 3 ≤ r then false else true
def openC (F Hd Br di ta : Int64) (kind : Int32) : Int64 := (((F ||| Hd) ||| (if kind = 3 then Br else 0)) &&& (di ^^^ (-1))) &&& (ta ^^^ (-1))
def turnC (kind : Int32) : Int32 := if kind = 1 then 3 else 1
def wayC2 (li wi : Int32) (op : Int64) (fst d t o : Int32) : Int32 := if ctn op (nextC li wi fst d) = true then d else if ctn op (nextC li wi fst t) = true then t else if ctn op (nextC li wi fst o) = true then o else -4
def wayC (F Hd Br : Int64) (li wi : Int32) (di ta : Int64) (yr kind hd fst : Int32) : Int32 := if kind = 2 ∧ ¬ yr % 2 = 0 then -4 else wayC2 li wi (openC F Hd Br di ta kind) fst hd ((hd + turnC kind) % 4) (((hd + 4) - turnC kind) % 4)
def digC (F di ta : Int64) (x : Int32) : Bool := ctn ((F &&& (di ^^^ (-1))) &&& (ta ^^^ (-1))) x
abbrev landCe (ow : Nat) (F Hd Br : Int64) (li wi : Int32) : Ce := .inr (0, [.ref ow, .long F, .long Hd, .long Br, .int li, .int wi])
abbrev rowCe (tr : Nat) (sz kd hd be : Int32) : Ce := .inr (4, [.ref tr, .int sz, .int kd, .int hd, .int be])
abbrev orCe (la rs ow : Nat) (rc yr : Int32) (di le ta en : Int64) : Ce := .inr (1, [.ref la, .ref rs, .ref ow, .int rc, .int yr, .long di, .long le, .long ta, .long en])
abbrev iA (k : Nat) (f : Nat → Int32) : Ce := .inl (0, k, .inl f)
abbrev rA (k : Nat) (f : Nat → Option Nat) : Ce := .inl (3, k, .inr (.inr (.inr (.inr f))))
section C1
variable {l : Launch} {G : GG} {n : Nat} {μ : Mu}
theorem k_X5_contains (F : Int64) (x : Int32) : Ctr l G 0 0 0 0 mX5_contains [.long F, .int x] n (μ) (some (.int (zB (ctn F x)))) n (μ) := by
  refine Ctr.of (by decide +kernel) rfl (fun X g E => ?_)
  refine v_sub (ls' := [(0, .long F), (2, .int x)]) [0, 1] rfl ?_
  refine v_iload_n g dX5_contains_0 1 rfl ?_
  refine v_if_lt (tgt := 24) g dX5_contains_1 (by decide) (fun h1 => ?_) (fun h1 => ?_)
  · skip
    refine v_iconst (v := 0) g dX5_contains_24 (by decide) ?_
    exact v_zret g E dX5_contains_25 rfl rfl ⟨by first | (simp [ctn, zB, *]; done) | (simp_all [ctn, zB]; done), rfl, rfl⟩
  · skip
    refine v_iload_n g dX5_contains_4 1 rfl ?_
    refine v_bipush (v := 36) g dX5_contains_5 (by decide) ?_
    refine v_icmp_ge (tgt := 24) g dX5_contains_7 (by decide) (fun h7 => ?_) (fun h7 => ?_)
    · skip
      refine v_iconst (v := 0) g dX5_contains_24 (by decide) ?_
      exact v_zret g E dX5_contains_25 rfl rfl ⟨by first | (simp [ctn, zB, *]; done) | (simp_all [ctn, zB]; done), rfl, rfl⟩
    · skip
      refine v_lload_n g dX5_contains_10 0 rfl ?_
      refine v_iload_n g dX5_contains_11 1 rfl ?_
      refine v_lushr g dX5_contains_12 ?_
      refine v_lconst (v := 1) g dX5_contains_13 (by decide) ?_
      refine v_land g dX5_contains_14 ?_
      refine v_lconst (v := 0) g dX5_contains_15 (by decide) ?_
      refine v_lcmp g dX5_contains_16 ?_
      refine v_if_eq (tgt := 24) g dX5_contains_17 (by decide) (fun h17 => ?_) (fun h17 => ?_)
      · skip
        refine v_iconst (v := 0) g dX5_contains_24 (by decide) ?_
        exact v_zret g E dX5_contains_25 rfl rfl ⟨by first | (simp [ctn, zB, *]; done) | (simp_all [ctn, zB]; done), rfl, rfl⟩
      · skip
        refine v_iconst (v := 1) g dX5_contains_20 (by decide) ?_
        refine v_goto (tgt := 25) g dX5_contains_21 (by decide) ?_
        exact v_zret g E dX5_contains_25 rfl rfl ⟨by first | (simp [ctn, zB, *]; done) | (simp_all [ctn, zB]; done), rfl, rfl⟩
theorem k_X5_bit (x : Int32) : Ctr l G 0 0 0 0 mX5_bit [.int x] n (μ) (some (.long (bitC x))) n (μ) := by
  refine Ctr.of (by decide +kernel) rfl (fun X g E => ?_)
  refine v_sub (ls' := [(0, .int x)]) [0] rfl ?_
  refine v_iload_n g dX5_bit_0 0 rfl ?_
  refine v_if_lt (tgt := 16) g dX5_bit_1 (by decide) (fun h1 => ?_) (fun h1 => ?_)
  · skip
    refine v_lconst (v := 0) g dX5_bit_16 (by decide) ?_
    exact v_lret g E dX5_bit_17 rfl ⟨by first | (simp [bitC, *]; done) | (simp_all [bitC]; done), rfl, rfl⟩
  · skip
    refine v_iload_n g dX5_bit_4 0 rfl ?_
    refine v_bipush (v := 36) g dX5_bit_5 (by decide) ?_
    refine v_icmp_ge (tgt := 16) g dX5_bit_7 (by decide) (fun h7 => ?_) (fun h7 => ?_)
    · skip
      refine v_lconst (v := 0) g dX5_bit_16 (by decide) ?_
      exact v_lret g E dX5_bit_17 rfl ⟨by first | (simp [bitC, *]; done) | (simp_all [bitC]; done), rfl, rfl⟩
    · skip
      refine v_lconst (v := 1) g dX5_bit_10 (by decide) ?_
      refine v_iload_n g dX5_bit_11 0 rfl ?_
      refine v_lshl g dX5_bit_12 ?_
      refine v_goto (tgt := 17) g dX5_bit_13 (by decide) ?_
      exact v_lret g E dX5_bit_17 rfl ⟨by first | (simp [bitC, *]; done) | (simp_all [bitC]; done), rfl, rfl⟩
theorem k_X5_isWithin (x lo hi : Int32) : Ctr l G 0 0 0 0 mX5_isWithin [.int x, .int lo, .int hi] n (μ) (some (.int (zB (withinC x lo hi)))) n (μ) := by
  refine Ctr.of (by decide +kernel) rfl (fun X g E => ?_)
  refine v_sub (ls' := [(0, .int x), (1, .int lo), (2, .int hi)]) [0, 1, 2] rfl ?_
  refine v_iload_n g dX5_isWithin_0 0 rfl ?_
  refine v_iload_n g dX5_isWithin_1 1 rfl ?_
  refine v_icmp_lt (tgt := 14) g dX5_isWithin_2 (by decide) (fun h2 => ?_) (fun h2 => ?_)
  · skip
    refine v_iconst (v := 0) g dX5_isWithin_14 (by decide) ?_
    exact v_zret g E dX5_isWithin_15 rfl rfl ⟨by first | (simp [withinC, zB, *]; done) | (simp_all [withinC, zB]; done), rfl, rfl⟩
  · skip
    refine v_iload_n g dX5_isWithin_5 0 rfl ?_
    refine v_iload_n g dX5_isWithin_6 2 rfl ?_
    refine v_icmp_gt (tgt := 14) g dX5_isWithin_7 (by decide) (fun h7 => ?_) (fun h7 => ?_)
    · skip
      refine v_iconst (v := 0) g dX5_isWithin_14 (by decide) ?_
      exact v_zret g E dX5_isWithin_15 rfl rfl ⟨by first | (simp [withinC, zB, *]; done) | (simp_all [withinC, zB]; done), rfl, rfl⟩
    · skip
      refine v_iconst (v := 1) g dX5_isWithin_10 (by decide) ?_
      refine v_goto (tgt := 15) g dX5_isWithin_11 (by decide) ?_
      exact v_zret g E dX5_isWithin_15 rfl rfl ⟨by first | (simp [withinC, zB, *]; done) | (simp_all [withinC, zB]; done), rfl, rfl⟩
theorem k_X5_isOwner (x : Int32) : Ctr l G 0 0 0 0 mX5_isOwner [.int x] n (μ) (some (.int (zB (isOwnC x)))) n (μ) := by
  refine Ctr.of (by decide +kernel) rfl (fun X g E => ?_)
  refine v_sub (ls' := [(0, .int x)]) [0] rfl ?_
  refine v_iload_n g dX5_isOwner_0 0 rfl ?_
  refine v_if_lt (tgt := 13) g dX5_isOwner_1 (by decide) (fun h1 => ?_) (fun h1 => ?_)
  · skip
    refine v_iconst (v := 0) g dX5_isOwner_13 (by decide) ?_
    exact v_zret g E dX5_isOwner_14 rfl rfl ⟨by first | (simp [isOwnC, zB, *]; done) | (simp_all [isOwnC, zB]; done), rfl, rfl⟩
  · skip
    refine v_iload_n g dX5_isOwner_4 0 rfl ?_
    refine v_iconst (v := 4) g dX5_isOwner_5 (by decide) ?_
    refine v_icmp_ge (tgt := 13) g dX5_isOwner_6 (by decide) (fun h6 => ?_) (fun h6 => ?_)
    · skip
      refine v_iconst (v := 0) g dX5_isOwner_13 (by decide) ?_
      exact v_zret g E dX5_isOwner_14 rfl rfl ⟨by first | (simp [isOwnC, zB, *]; done) | (simp_all [isOwnC, zB]; done), rfl, rfl⟩
    · skip
      refine v_iconst (v := 1) g dX5_isOwner_9 (by decide) ?_
      refine v_goto (tgt := 14) g dX5_isOwner_10 (by decide) ?_
      exact v_zret g E dX5_isOwner_14 rfl rfl ⟨by first | (simp [isOwnC, zB, *]; done) | (simp_all [isOwnC, zB]; done), rfl, rfl⟩
theorem k_X0_cells {lo ow : Nat} {F Hd Br : Int64} {li wi : Int32} (hL : μ lo = some (landCe ow F Hd Br li wi)) : Ctr l G 0 0 0 0 mX0_cells [.ref lo] n (μ) (some (.int (li * wi))) n (μ) := by
  refine Ctr.of (by decide +kernel) rfl (fun X g E => ?_)
  refine v_sub (ls' := [(0, .ref lo)]) [0] rfl ?_
  refine v_aload_n g dX0_cells_0 0 rfl ?_
  refine v_get g dX0_cells_1 fl_RX0_25 hL rfl ?_
  refine v_aload_n g dX0_cells_4 0 rfl ?_
  refine v_get g dX0_cells_5 fl_RX0_29 hL rfl ?_
  refine v_imul g dX0_cells_8 ?_
  exact v_iret g E dX0_cells_9 rfl ⟨by rfl, rfl, rfl⟩
theorem k_X0_holds {lo ow : Nat} {F Hd Br : Int64} {li wi : Int32} (hL : μ lo = some (landCe ow F Hd Br li wi)) (x : Int32) : Ctr l G 0 0 0 0 mX0_holds [.ref lo, .int x] n (μ) (some (.int (zB (holdsC li wi x)))) n (μ) := by
  refine Ctr.of (by decide +kernel) rfl (fun X g E => ?_)
  refine v_sub (ls' := [(0, .ref lo), (1, .int x)]) [0, 1] rfl ?_
  refine v_iload_n g dX0_holds_0 1 rfl ?_
  refine v_if_lt (tgt := 27) g dX0_holds_1 (by decide) (fun h1 => ?_) (fun h1 => ?_)
  · skip
    refine v_iconst (v := 0) g dX0_holds_27 (by decide) ?_
    exact v_zret g E dX0_holds_28 rfl rfl ⟨by first | (simp [holdsC, zB, *]; done) | (simp_all [holdsC, zB]; done), rfl, rfl⟩
  · skip
    refine v_iload_n g dX0_holds_4 1 rfl ?_
    refine v_aload_n g dX0_holds_5 0 rfl ?_
    refine v_get g dX0_holds_6 fl_RX0_25 hL rfl ?_
    refine v_aload_n g dX0_holds_9 0 rfl ?_
    refine v_get g dX0_holds_10 fl_RX0_29 hL rfl ?_
    refine v_imul g dX0_holds_13 ?_
    refine v_icmp_ge (tgt := 27) g dX0_holds_14 (by decide) (fun h14 => ?_) (fun h14 => ?_)
    · skip
      refine v_iconst (v := 0) g dX0_holds_27 (by decide) ?_
      exact v_zret g E dX0_holds_28 rfl rfl ⟨by first | (simp [holdsC, zB, *]; done) | (simp_all [holdsC, zB]; done), rfl, rfl⟩
    · skip
      refine v_iload_n g dX0_holds_17 1 rfl ?_
      refine v_bipush (v := 36) g dX0_holds_18 (by decide) ?_
      refine v_icmp_ge (tgt := 27) g dX0_holds_20 (by decide) (fun h20 => ?_) (fun h20 => ?_)
      · skip
        refine v_iconst (v := 0) g dX0_holds_27 (by decide) ?_
        exact v_zret g E dX0_holds_28 rfl rfl ⟨by first | (simp [holdsC, zB, *]; done) | (simp_all [holdsC, zB]; done), rfl, rfl⟩
      · skip
        refine v_iconst (v := 1) g dX0_holds_23 (by decide) ?_
        refine v_goto (tgt := 28) g dX0_holds_24 (by decide) ?_
        exact v_zret g E dX0_holds_28 rfl rfl ⟨by first | (simp [holdsC, zB, *]; done) | (simp_all [holdsC, zB]; done), rfl, rfl⟩
theorem k_X0_groundOf {lo ow : Nat} {F Hd Br : Int64} {li wi : Int32} (hL : μ lo = some (landCe ow F Hd Br li wi)) (x : Int32) : Ctr l G 1 22 0 0 mX0_groundOf [.ref lo, .int x] n (μ) (some (.int (groundC F Hd Br x))) n (μ) := by
  refine Ctr.of (by decide +kernel) rfl (fun X g E => ?_)
  refine v_sub (ls' := [(0, .ref lo), (1, .int x)]) [0, 1] rfl ?_
  refine v_aload_n g dX0_groundOf_0 0 rfl ?_
  refine v_get g dX0_groundOf_1 fl_RX0_15 hL rfl ?_
  refine v_iload_n g dX0_groundOf_4 1 rfl ?_
  refine v_callSN (As := [.long F, .int x]) (r := some (.int (zB (ctn F x)))) g dX0_groundOf_5 (k_X5_contains F x) cl_X5_contains nl_RX0_32 sm_X5_contains rfl ⟨rfl, rfl, rfl⟩ ?_
  refine v_if_eq (tgt := 13) g dX0_groundOf_8 (by decide) (fun h8 => ?_) (fun h8 => ?_)
  · skip
    have h8 := zB_f0 h8
    refine v_aload_n g dX0_groundOf_13 0 rfl ?_
    refine v_get g dX0_groundOf_14 fl_RX0_19 hL rfl ?_
    refine v_iload_n g dX0_groundOf_17 1 rfl ?_
    refine v_callSN (As := [.long Hd, .int x]) (r := some (.int (zB (ctn Hd x)))) g dX0_groundOf_18 (k_X5_contains Hd x) cl_X5_contains nl_RX0_32 sm_X5_contains rfl ⟨rfl, rfl, rfl⟩ ?_
    refine v_if_eq (tgt := 26) g dX0_groundOf_21 (by decide) (fun h21 => ?_) (fun h21 => ?_)
    · skip
      have h21 := zB_f0 h21
      refine v_aload_n g dX0_groundOf_26 0 rfl ?_
      refine v_get g dX0_groundOf_27 fl_RX0_22 hL rfl ?_
      refine v_iload_n g dX0_groundOf_30 1 rfl ?_
      refine v_callSN (As := [.long Br, .int x]) (r := some (.int (zB (ctn Br x)))) g dX0_groundOf_31 (k_X5_contains Br x) cl_X5_contains nl_RX0_32 sm_X5_contains rfl ⟨rfl, rfl, rfl⟩ ?_
      refine v_if_eq (tgt := 41) g dX0_groundOf_34 (by decide) (fun h34 => ?_) (fun h34 => ?_)
      · skip
        have h34 := zB_f0 h34
        refine v_iconst (v := 3) g dX0_groundOf_41 (by decide) ?_
        exact v_iret g E dX0_groundOf_42 rfl ⟨by first | (simp [groundC, *]; done) | (simp_all [groundC]; done), rfl, rfl⟩
      · skip
        have h34 := zB_t0 h34
        refine v_iconst (v := 2) g dX0_groundOf_37 (by decide) ?_
        refine v_goto (tgt := 42) g dX0_groundOf_38 (by decide) ?_
        exact v_iret g E dX0_groundOf_42 rfl ⟨by first | (simp [groundC, *]; done) | (simp_all [groundC]; done), rfl, rfl⟩
    · skip
      have h21 := zB_t0 h21
      refine v_iconst (v := 1) g dX0_groundOf_24 (by decide) ?_
      exact v_iret g E dX0_groundOf_25 rfl ⟨by first | (simp [groundC, *]; done) | (simp_all [groundC]; done), rfl, rfl⟩
  · skip
    have h8 := zB_t0 h8
    refine v_iconst (v := 0) g dX0_groundOf_11 (by decide) ?_
    exact v_iret g E dX0_groundOf_12 rfl ⟨by first | (simp [groundC, *]; done) | (simp_all [groundC]; done), rfl, rfl⟩
theorem k_X0_ownerOf {lo ow : Nat} {F Hd Br : Int64} {li wi : Int32} (hL : μ lo = some (landCe ow F Hd Br li wi)) {o : Nat → Int32} (hO : μ ow = some (iA 36 o)) (x : Int32) : Ctr l G 0 0 0 0 mX0_ownerOf [.ref lo, .int x] n (μ) (some (.int (ownerC o x))) n (μ) := by
  refine Ctr.of (by decide +kernel) rfl (fun X g E => ?_)
  refine v_sub (ls' := [(0, .ref lo), (1, .int x)]) [0, 1] rfl ?_
  refine v_iload_n g dX0_ownerOf_0 1 rfl ?_
  refine v_if_lt (tgt := 19) g dX0_ownerOf_1 (by decide) (fun h1 => ?_) (fun h1 => ?_)
  · skip
    refine v_iconst (v := 0) g dX0_ownerOf_19 (by decide) ?_
    exact v_iret g E dX0_ownerOf_20 rfl ⟨by first | (simp [ownerC, *]; done) | (simp_all [ownerC]; done), rfl, rfl⟩
  · skip
    refine v_iload_n g dX0_ownerOf_4 1 rfl ?_
    refine v_bipush (v := 36) g dX0_ownerOf_5 (by decide) ?_
    refine v_icmp_ge (tgt := 19) g dX0_ownerOf_7 (by decide) (fun h7 => ?_) (fun h7 => ?_)
    · skip
      refine v_iconst (v := 0) g dX0_ownerOf_19 (by decide) ?_
      exact v_iret g E dX0_ownerOf_20 rfl ⟨by first | (simp [ownerC, *]; done) | (simp_all [ownerC]; done), rfl, rfl⟩
    · skip
      refine v_aload_n g dX0_ownerOf_10 0 rfl ?_
      refine v_get g dX0_ownerOf_11 fl_RX0_9 hL rfl ?_
      refine v_iload_n g dX0_ownerOf_14 1 rfl ?_
      refine v_iald g dX0_ownerOf_15 hO (vin_c (m := 36) rfl h1 h7) ?_
      refine v_goto (tgt := 20) g dX0_ownerOf_16 (by decide) ?_
      exact v_iret g E dX0_ownerOf_20 rfl ⟨by first | (simp [ownerC, *]; done) | (simp_all [ownerC]; done), rfl, rfl⟩
theorem k_X0_nextBy {lo ow : Nat} {F Hd Br : Int64} {li wi : Int32} (hL : μ lo = some (landCe ow F Hd Br li wi)) (x way : Int32) : Ctr l G 0 0 0 0 mX0_nextBy [.ref lo, .int x, .int way] n (μ) (some (.int (nextC li wi x way))) n (μ) := by
  refine Ctr.of (by decide +kernel) rfl (fun X g E => ?_)
  refine v_sub (ls' := [(0, .ref lo), (1, .int x), (2, .int way)]) [0, 1, 2] rfl ?_
  refine v_aload_n g dX0_nextBy_0 0 rfl ?_
  refine v_get g dX0_nextBy_1 fl_RX0_29 hL rfl ?_
  refine v_iconst (v := 1) g dX0_nextBy_4 (by decide) ?_
  refine v_icmp_lt (tgt := 29) g dX0_nextBy_5 (by decide) (fun h5 => ?_) (fun h5 => ?_)
  · skip
    refine v_bipush (v := (-4)) g dX0_nextBy_29 (by decide) ?_
    exact v_iret g E dX0_nextBy_31 rfl ⟨by first | (simp [nextC, *]; done) | (simp_all [nextC]; done), rfl, rfl⟩
  · skip
    refine v_iload_n g dX0_nextBy_8 1 rfl ?_
    refine v_if_lt (tgt := 29) g dX0_nextBy_9 (by decide) (fun h9 => ?_) (fun h9 => ?_)
    · skip
      refine v_bipush (v := (-4)) g dX0_nextBy_29 (by decide) ?_
      exact v_iret g E dX0_nextBy_31 rfl ⟨by first | (simp [nextC, *]; done) | (simp_all [nextC]; done), rfl, rfl⟩
    · skip
      refine v_iload_n g dX0_nextBy_12 1 rfl ?_
      refine v_aload_n g dX0_nextBy_13 0 rfl ?_
      refine v_get g dX0_nextBy_14 fl_RX0_25 hL rfl ?_
      refine v_aload_n g dX0_nextBy_17 0 rfl ?_
      refine v_get g dX0_nextBy_18 fl_RX0_29 hL rfl ?_
      refine v_imul g dX0_nextBy_21 ?_
      refine v_icmp_ge (tgt := 29) g dX0_nextBy_22 (by decide) (fun h22 => ?_) (fun h22 => ?_)
      · skip
        refine v_bipush (v := (-4)) g dX0_nextBy_29 (by decide) ?_
        exact v_iret g E dX0_nextBy_31 rfl ⟨by first | (simp [nextC, *]; done) | (simp_all [nextC]; done), rfl, rfl⟩
      · skip
        refine v_iload_n g dX0_nextBy_25 2 rfl ?_
        refine v_if_ge (tgt := 32) g dX0_nextBy_26 (by decide) (fun h26 => ?_) (fun h26 => ?_)
        · skip
          refine v_iload_n g dX0_nextBy_32 1 rfl ?_
          refine v_aload_n g dX0_nextBy_33 0 rfl ?_
          refine v_get g dX0_nextBy_34 fl_RX0_29 hL rfl ?_
          refine v_irem g dX0_nextBy_37 (by intro q; subst q; exact h5 (by decide)) ?_
          refine v_istore_n (ls' := [(3, .int (x % wi)), (0, .ref lo), (1, .int x), (2, .int way)]) g dX0_nextBy_38 rfl rfl ?_
          refine v_iload_n g dX0_nextBy_39 3 rfl ?_
          by_cases h40_0 : way = 0
          · skip
            refine v_tableIn (tgt := 68) (off := 28) g dX0_nextBy_40 (by rw [h40_0]; decide) (by rw [h40_0]; rfl) (by decide) ?_
            refine v_iload_n g dX0_nextBy_68 2 rfl ?_
            refine v_aload_n g dX0_nextBy_69 1 rfl ?_
            refine v_get g dX0_nextBy_70 fl_RX0_29 hL rfl ?_
            refine v_icmp_lt (tgt := 85) g dX0_nextBy_73 (by decide) (fun h73 => ?_) (fun h73 => ?_)
            · skip
              refine v_bipush (v := (-4)) g dX0_nextBy_85 (by decide) ?_
              exact v_iret g E dX0_nextBy_87 rfl ⟨by first | (simp [nextC, *]; done) | (simp_all [nextC]; done), rfl, rfl⟩
            · skip
              refine v_iload_n g dX0_nextBy_76 2 rfl ?_
              refine v_aload_n g dX0_nextBy_77 1 rfl ?_
              refine v_get g dX0_nextBy_78 fl_RX0_29 hL rfl ?_
              refine v_isub g dX0_nextBy_81 ?_
              refine v_goto (tgt := 87) g dX0_nextBy_82 (by decide) ?_
              exact v_iret g E dX0_nextBy_87 rfl ⟨by first | (simp [nextC, *]; done) | (simp_all [nextC]; done), rfl, rfl⟩
          by_cases h40_1 : way = 1
          · skip
            refine v_tableIn (tgt := 88) (off := 48) g dX0_nextBy_40 (by rw [h40_1]; decide) (by rw [h40_1]; rfl) (by decide) ?_
            refine v_iload_n g dX0_nextBy_88 0 rfl ?_
            refine v_iconst (v := 1) g dX0_nextBy_89 (by decide) ?_
            refine v_iadd g dX0_nextBy_90 ?_
            refine v_aload_n g dX0_nextBy_91 1 rfl ?_
            refine v_get g dX0_nextBy_92 fl_RX0_29 hL rfl ?_
            refine v_icmp_ge (tgt := 104) g dX0_nextBy_95 (by decide) (fun h95 => ?_) (fun h95 => ?_)
            · skip
              refine v_bipush (v := (-4)) g dX0_nextBy_104 (by decide) ?_
              exact v_iret g E dX0_nextBy_106 rfl ⟨by first | (simp [nextC, *]; done) | (simp_all [nextC]; done), rfl, rfl⟩
            · skip
              refine v_iload_n g dX0_nextBy_98 2 rfl ?_
              refine v_iconst (v := 1) g dX0_nextBy_99 (by decide) ?_
              refine v_iadd g dX0_nextBy_100 ?_
              refine v_goto (tgt := 106) g dX0_nextBy_101 (by decide) ?_
              exact v_iret g E dX0_nextBy_106 rfl ⟨by first | (simp [nextC, *]; done) | (simp_all [nextC]; done), rfl, rfl⟩
          by_cases h40_2 : way = 2
          · skip
            refine v_tableIn (tgt := 107) (off := 67) g dX0_nextBy_40 (by rw [h40_2]; decide) (by rw [h40_2]; rfl) (by decide) ?_
            refine v_iload_n g dX0_nextBy_107 2 rfl ?_
            refine v_aload_n g dX0_nextBy_108 1 rfl ?_
            refine v_get g dX0_nextBy_109 fl_RX0_29 hL rfl ?_
            refine v_iadd g dX0_nextBy_112 ?_
            refine v_aload_n g dX0_nextBy_113 1 rfl ?_
            refine v_get g dX0_nextBy_114 fl_RX0_25 hL rfl ?_
            refine v_aload_n g dX0_nextBy_117 1 rfl ?_
            refine v_get g dX0_nextBy_118 fl_RX0_29 hL rfl ?_
            refine v_imul g dX0_nextBy_121 ?_
            refine v_icmp_ge (tgt := 134) g dX0_nextBy_122 (by decide) (fun h122 => ?_) (fun h122 => ?_)
            · skip
              refine v_bipush (v := (-4)) g dX0_nextBy_134 (by decide) ?_
              exact v_iret g E dX0_nextBy_136 rfl ⟨by first | (simp [nextC, *]; done) | (simp_all [nextC]; done), rfl, rfl⟩
            · skip
              refine v_iload_n g dX0_nextBy_125 2 rfl ?_
              refine v_aload_n g dX0_nextBy_126 1 rfl ?_
              refine v_get g dX0_nextBy_127 fl_RX0_29 hL rfl ?_
              refine v_iadd g dX0_nextBy_130 ?_
              refine v_goto (tgt := 136) g dX0_nextBy_131 (by decide) ?_
              exact v_iret g E dX0_nextBy_136 rfl ⟨by first | (simp [nextC, *]; done) | (simp_all [nextC]; done), rfl, rfl⟩
          refine v_tableOut (tgt := 137) g dX0_nextBy_40 (by have q0 := lv_neT (a := 0) h40_0 rfl; have q1 := lv_neT (a := 1) h40_1 rfl; have q2 := lv_neT (a := 2) h40_2 rfl; omega) (by decide) ?_
          refine v_iload_n g dX0_nextBy_137 0 rfl ?_
          refine v_if_le (tgt := 147) g dX0_nextBy_138 (by decide) (fun h138 => ?_) (fun h138 => ?_)
          · skip
            refine v_bipush (v := (-4)) g dX0_nextBy_147 (by decide) ?_
            exact v_iret g E dX0_nextBy_149 rfl ⟨by first | (simp [nextC, *]; done) | (simp_all [nextC]; done), rfl, rfl⟩
          · skip
            refine v_iload_n g dX0_nextBy_141 2 rfl ?_
            refine v_iconst (v := 1) g dX0_nextBy_142 (by decide) ?_
            refine v_isub g dX0_nextBy_143 ?_
            refine v_goto (tgt := 149) g dX0_nextBy_144 (by decide) ?_
            exact v_iret g E dX0_nextBy_149 rfl ⟨by first | (simp [nextC, *]; done) | (simp_all [nextC]; done), rfl, rfl⟩
        · skip
          refine v_bipush (v := (-4)) g dX0_nextBy_29 (by decide) ?_
          exact v_iret g E dX0_nextBy_31 rfl ⟨by first | (simp [nextC, *]; done) | (simp_all [nextC]; done), rfl, rfl⟩
theorem k_X0_isBesideOne {lo ow : Nat} {F Hd Br : Int64} {li wi : Int32} (hL : μ lo = some (landCe ow F Hd Br li wi)) (x : Int32) (cs : Int64) : Ctr l G 1 23 0 0 mX0_isBesideOne [.ref lo, .int x, .long cs] n (μ) (some (.int (zB (besC li wi x cs)))) n (μ) := by
  refine Ctr.of (by decide +kernel) rfl (fun X g E => ?_)
  refine v_sub (ls' := [(0, .ref lo), (1, .int x), (2, .long cs)]) [0, 1, 2] rfl ?_
  refine v_iconst (v := 0) g dX0_isBesideOne_0 (by decide) ?_
  refine v_istore (ls' := [(4, .int 0), (0, .ref lo), (1, .int x), (2, .long cs)]) g dX0_isBesideOne_1 rfl rfl ?_
  refine v_iload g dX0_isBesideOne_3 0 rfl ?_
  refine v_iconst (v := 4) g dX0_isBesideOne_5 (by decide) ?_
  refine v_icmp_ge (tgt := 31) g dX0_isBesideOne_6 (by decide) (fun h => absurd h (by decide)) (fun _ => ?_)
  refine v_lload_n g dX0_isBesideOne_9 3 rfl ?_
  refine v_aload_n g dX0_isBesideOne_10 1 rfl ?_
  refine v_iload_n g dX0_isBesideOne_11 2 rfl ?_
  refine v_iload g dX0_isBesideOne_12 0 rfl ?_
  refine v_callV (As := [.int x, .int 0]) (r := some (.int (nextC li wi x 0))) g dX0_isBesideOne_14 (k_X0_nextBy hL x 0) cl_X0_nextBy ml_RX0_36 im_X0_nextBy hL rfl rfl ⟨rfl, rfl, rfl⟩ ?_
  refine v_callSN (As := [.long cs, .int (nextC li wi x 0)]) (r := some (.int (zB (ctn cs (nextC li wi x 0))))) g dX0_isBesideOne_17 (k_X5_contains cs (nextC li wi x 0)) cl_X5_contains nl_RX0_32 sm_X5_contains rfl ⟨rfl, rfl, rfl⟩ ?_
  refine v_if_eq (tgt := 25) g dX0_isBesideOne_20 (by decide) (fun h20 => ?_) (fun h20 => ?_)
  · skip
    have h20 := zB_f0 h20
    refine v_iinc (v := 1) (ls' := [(4, .int 1), (0, .ref lo), (1, .int x), (2, .long cs)]) g dX0_isBesideOne_25 0 rfl rfl rfl rfl ?_
    refine v_goto (tgt := 3) g dX0_isBesideOne_28 (by decide) ?_
    refine v_iload g dX0_isBesideOne_3 0 rfl ?_
    refine v_iconst (v := 4) g dX0_isBesideOne_5 (by decide) ?_
    refine v_icmp_ge (tgt := 31) g dX0_isBesideOne_6 (by decide) (fun h => absurd h (by decide)) (fun _ => ?_)
    refine v_lload_n g dX0_isBesideOne_9 3 rfl ?_
    refine v_aload_n g dX0_isBesideOne_10 1 rfl ?_
    refine v_iload_n g dX0_isBesideOne_11 2 rfl ?_
    refine v_iload g dX0_isBesideOne_12 0 rfl ?_
    refine v_callV (As := [.int x, .int 1]) (r := some (.int (nextC li wi x 1))) g dX0_isBesideOne_14 (k_X0_nextBy hL x 1) cl_X0_nextBy ml_RX0_36 im_X0_nextBy hL rfl rfl ⟨rfl, rfl, rfl⟩ ?_
    refine v_callSN (As := [.long cs, .int (nextC li wi x 1)]) (r := some (.int (zB (ctn cs (nextC li wi x 1))))) g dX0_isBesideOne_17 (k_X5_contains cs (nextC li wi x 1)) cl_X5_contains nl_RX0_32 sm_X5_contains rfl ⟨rfl, rfl, rfl⟩ ?_
    refine v_if_eq (tgt := 25) g dX0_isBesideOne_20 (by decide) (fun h20_2 => ?_) (fun h20_2 => ?_)
    · skip
      have h20_2 := zB_f0 h20_2
      refine v_iinc (v := 2) (ls' := [(4, .int 2), (0, .ref lo), (1, .int x), (2, .long cs)]) g dX0_isBesideOne_25 0 rfl rfl rfl rfl ?_
      refine v_goto (tgt := 3) g dX0_isBesideOne_28 (by decide) ?_
      refine v_iload g dX0_isBesideOne_3 0 rfl ?_
      refine v_iconst (v := 4) g dX0_isBesideOne_5 (by decide) ?_
      refine v_icmp_ge (tgt := 31) g dX0_isBesideOne_6 (by decide) (fun h => absurd h (by decide)) (fun _ => ?_)
      refine v_lload_n g dX0_isBesideOne_9 3 rfl ?_
      refine v_aload_n g dX0_isBesideOne_10 1 rfl ?_
      refine v_iload_n g dX0_isBesideOne_11 2 rfl ?_
      refine v_iload g dX0_isBesideOne_12 0 rfl ?_
      refine v_callV (As := [.int x, .int 2]) (r := some (.int (nextC li wi x 2))) g dX0_isBesideOne_14 (k_X0_nextBy hL x 2) cl_X0_nextBy ml_RX0_36 im_X0_nextBy hL rfl rfl ⟨rfl, rfl, rfl⟩ ?_
      refine v_callSN (As := [.long cs, .int (nextC li wi x 2)]) (r := some (.int (zB (ctn cs (nextC li wi x 2))))) g dX0_isBesideOne_17 (k_X5_contains cs (nextC li wi x 2)) cl_X5_contains nl_RX0_32 sm_X5_contains rfl ⟨rfl, rfl, rfl⟩ ?_
      refine v_if_eq (tgt := 25) g dX0_isBesideOne_20 (by decide) (fun h20_3 => ?_) (fun h20_3 => ?_)
      · skip
        have h20_3 := zB_f0 h20_3
        refine v_iinc (v := 3) (ls' := [(4, .int 3), (0, .ref lo), (1, .int x), (2, .long cs)]) g dX0_isBesideOne_25 0 rfl rfl rfl rfl ?_
        refine v_goto (tgt := 3) g dX0_isBesideOne_28 (by decide) ?_
        refine v_iload g dX0_isBesideOne_3 0 rfl ?_
        refine v_iconst (v := 4) g dX0_isBesideOne_5 (by decide) ?_
        refine v_icmp_ge (tgt := 31) g dX0_isBesideOne_6 (by decide) (fun h => absurd h (by decide)) (fun _ => ?_)
        refine v_lload_n g dX0_isBesideOne_9 3 rfl ?_
        refine v_aload_n g dX0_isBesideOne_10 1 rfl ?_
        refine v_iload_n g dX0_isBesideOne_11 2 rfl ?_
        refine v_iload g dX0_isBesideOne_12 0 rfl ?_
        refine v_callV (As := [.int x, .int 3]) (r := some (.int (nextC li wi x 3))) g dX0_isBesideOne_14 (k_X0_nextBy hL x 3) cl_X0_nextBy ml_RX0_36 im_X0_nextBy hL rfl rfl ⟨rfl, rfl, rfl⟩ ?_
        refine v_callSN (As := [.long cs, .int (nextC li wi x 3)]) (r := some (.int (zB (ctn cs (nextC li wi x 3))))) g dX0_isBesideOne_17 (k_X5_contains cs (nextC li wi x 3)) cl_X5_contains nl_RX0_32 sm_X5_contains rfl ⟨rfl, rfl, rfl⟩ ?_
        refine v_if_eq (tgt := 25) g dX0_isBesideOne_20 (by decide) (fun h20_4 => ?_) (fun h20_4 => ?_)
        · skip
          have h20_4 := zB_f0 h20_4
          refine v_iinc (v := 4) (ls' := [(4, .int 4), (0, .ref lo), (1, .int x), (2, .long cs)]) g dX0_isBesideOne_25 0 rfl rfl rfl rfl ?_
          refine v_goto (tgt := 3) g dX0_isBesideOne_28 (by decide) ?_
          refine v_iload g dX0_isBesideOne_3 0 rfl ?_
          refine v_iconst (v := 4) g dX0_isBesideOne_5 (by decide) ?_
          refine v_icmp_ge (tgt := 31) g dX0_isBesideOne_6 (by decide) (fun _ => ?_) (fun h => absurd (by decide) h)
          refine v_iconst (v := 0) g dX0_isBesideOne_31 (by decide) ?_
          exact v_zret g E dX0_isBesideOne_32 rfl rfl ⟨by first | (simp [besC, zB, *]; done) | (simp_all [besC, zB]; done), rfl, rfl⟩
        · skip
          have h20_4 := zB_t0 h20_4
          refine v_iconst (v := 1) g dX0_isBesideOne_23 (by decide) ?_
          exact v_zret g E dX0_isBesideOne_24 rfl rfl ⟨by first | (simp [besC, zB, *]; done) | (simp_all [besC, zB]; done), rfl, rfl⟩
      · skip
        have h20_3 := zB_t0 h20_3
        refine v_iconst (v := 1) g dX0_isBesideOne_23 (by decide) ?_
        exact v_zret g E dX0_isBesideOne_24 rfl rfl ⟨by first | (simp [besC, zB, *]; done) | (simp_all [besC, zB]; done), rfl, rfl⟩
    · skip
      have h20_2 := zB_t0 h20_2
      refine v_iconst (v := 1) g dX0_isBesideOne_23 (by decide) ?_
      exact v_zret g E dX0_isBesideOne_24 rfl rfl ⟨by first | (simp [besC, zB, *]; done) | (simp_all [besC, zB]; done), rfl, rfl⟩
  · skip
    have h20 := zB_t0 h20
    refine v_iconst (v := 1) g dX0_isBesideOne_23 (by decide) ?_
    exact v_zret g E dX0_isBesideOne_24 rfl rfl ⟨by first | (simp [besC, zB, *]; done) | (simp_all [besC, zB]; done), rfl, rfl⟩
theorem k_X4_first {ro tr : Nat} {sz kd hd be : Int32} (hR : μ ro = some (rowCe tr sz kd hd be)) {t : Nat → Int32} (hT : μ tr = some (iA 4 t)) : Ctr l G 0 0 0 0 mX4_first [.ref ro] n (μ) (some (.int (t 0))) n (μ) := by
  refine Ctr.of (by decide +kernel) rfl (fun X g E => ?_)
  refine v_sub (ls' := [(0, .ref ro)]) [0] rfl ?_
  refine v_aload_n g dX4_first_0 0 rfl ?_
  refine v_get g dX4_first_1 fl_RX4_9 hR rfl ?_
  refine v_iconst (v := 0) g dX4_first_4 (by decide) ?_
  refine v_iald g dX4_first_5 hT (by unfold vp_in; decide) (v_eqi (y := (t 0)) rfl ?_)
  exact v_iret g E dX4_first_6 rfl ⟨by rfl, rfl, rfl⟩
theorem k_X4_treeAt {ro tr : Nat} {sz kd hd be : Int32} (hR : μ ro = some (rowCe tr sz kd hd be)) {t : Nat → Int32} (hT : μ tr = some (iA 4 t)) (k : Int32) : Ctr l G 0 0 0 0 mX4_treeAt [.ref ro, .int k] n (μ) (some (.int (treeAtC sz t k))) n (μ) := by
  refine Ctr.of (by decide +kernel) rfl (fun X g E => ?_)
  refine v_sub (ls' := [(0, .ref ro), (1, .int k)]) [0, 1] rfl ?_
  refine v_iload_n g dX4_treeAt_0 1 rfl ?_
  refine v_if_lt (tgt := 26) g dX4_treeAt_1 (by decide) (fun h1 => ?_) (fun h1 => ?_)
  · skip
    refine v_bipush (v := (-4)) g dX4_treeAt_26 (by decide) ?_
    exact v_iret g E dX4_treeAt_28 rfl ⟨by first | (simp [treeAtC, *]; done) | (simp_all [treeAtC]; done), rfl, rfl⟩
  · skip
    refine v_iload_n g dX4_treeAt_4 1 rfl ?_
    refine v_aload_n g dX4_treeAt_5 0 rfl ?_
    refine v_get g dX4_treeAt_6 fl_RX4_15 hR rfl ?_
    refine v_icmp_ge (tgt := 26) g dX4_treeAt_9 (by decide) (fun h9 => ?_) (fun h9 => ?_)
    · skip
      refine v_bipush (v := (-4)) g dX4_treeAt_26 (by decide) ?_
      exact v_iret g E dX4_treeAt_28 rfl ⟨by first | (simp [treeAtC, *]; done) | (simp_all [treeAtC]; done), rfl, rfl⟩
    · skip
      refine v_iload_n g dX4_treeAt_12 1 rfl ?_
      refine v_iconst (v := 4) g dX4_treeAt_13 (by decide) ?_
      refine v_icmp_ge (tgt := 26) g dX4_treeAt_14 (by decide) (fun h14 => ?_) (fun h14 => ?_)
      · skip
        refine v_bipush (v := (-4)) g dX4_treeAt_26 (by decide) ?_
        exact v_iret g E dX4_treeAt_28 rfl ⟨by first | (simp [treeAtC, *]; done) | (simp_all [treeAtC]; done), rfl, rfl⟩
      · skip
        refine v_aload_n g dX4_treeAt_17 0 rfl ?_
        refine v_get g dX4_treeAt_18 fl_RX4_9 hR rfl ?_
        refine v_iload_n g dX4_treeAt_21 1 rfl ?_
        refine v_iald g dX4_treeAt_22 hT (vin_c (m := 4) rfl h1 h14) ?_
        refine v_goto (tgt := 28) g dX4_treeAt_23 (by decide) ?_
        exact v_iret g E dX4_treeAt_28 rfl ⟨by first | (simp [treeAtC, *]; done) | (simp_all [treeAtC]; done), rfl, rfl⟩
theorem k_X4_cells {ro tr : Nat} {sz kd hd be : Int32} (hR : μ ro = some (rowCe tr sz kd hd be)) {t : Nat → Int32} (hT : μ tr = some (iA 4 t)) : Ctr l G 1 20 0 0 mX4_cells [.ref ro] n (μ) (some (.long (rowCellsC sz t))) n (μ) := by
  refine Ctr.of (by decide +kernel) rfl (fun X g E => ?_)
  refine v_sub (ls' := [(0, .ref ro)]) [0] rfl ?_
  refine v_lconst (v := 0) g dX4_cells_0 (by decide) ?_
  refine v_lstore_n (ls' := [(1, .long 0), (0, .ref ro)]) g dX4_cells_1 rfl rfl ?_
  refine v_iconst (v := 0) g dX4_cells_2 (by decide) ?_
  refine v_istore_n (ls' := [(3, .int 0), (1, .long 0), (0, .ref ro)]) g dX4_cells_3 rfl rfl ?_
  refine v_iload_n g dX4_cells_4 0 rfl ?_
  refine v_aload_n g dX4_cells_5 2 rfl ?_
  refine v_get g dX4_cells_6 fl_RX4_15 hR rfl ?_
  refine v_icmp_ge (tgt := 35) g dX4_cells_9 (by decide) (fun h9 => ?_) (fun h9 => ?_)
  · skip
    refine v_lload_n g dX4_cells_35 1 rfl ?_
    exact v_lret g E dX4_cells_36 rfl ⟨by first | (simp [rowCellsC, *]; done) | (simp_all [rowCellsC]; done), rfl, rfl⟩
  · skip
    refine v_iload_n g dX4_cells_12 0 rfl ?_
    refine v_iconst (v := 4) g dX4_cells_13 (by decide) ?_
    refine v_icmp_ge (tgt := 35) g dX4_cells_14 (by decide) (fun h => absurd h (by decide)) (fun _ => ?_)
    refine v_lload_n g dX4_cells_17 1 rfl ?_
    refine v_aload_n g dX4_cells_18 2 rfl ?_
    refine v_get g dX4_cells_19 fl_RX4_9 hR rfl ?_
    refine v_iload_n g dX4_cells_22 0 rfl ?_
    refine v_iald g dX4_cells_23 hT (by unfold vp_in; decide) (v_eqi (y := (t 0)) rfl ?_)
    refine v_callSN (As := [.int (t 0)]) (r := some (.long (bitC (t 0)))) g dX4_cells_24 (k_X5_bit (t 0)) cl_X5_bit nl_RX4_28 sm_X5_bit rfl ⟨rfl, rfl, rfl⟩ ?_
    refine v_lor g dX4_cells_27 ?_
    refine v_lstore_n (ls' := [(1, .long (0 ||| bitC (t 0))), (3, .int 0), (0, .ref ro)]) g dX4_cells_28 rfl rfl ?_
    refine v_iinc (v := 1) (ls' := [(3, .int 1), (1, .long (0 ||| bitC (t 0))), (0, .ref ro)]) g dX4_cells_29 1 rfl rfl rfl rfl ?_
    refine v_goto (tgt := 4) g dX4_cells_32 (by decide) ?_
    refine v_iload_n g dX4_cells_4 0 rfl ?_
    refine v_aload_n g dX4_cells_5 2 rfl ?_
    refine v_get g dX4_cells_6 fl_RX4_15 hR rfl ?_
    refine v_icmp_ge (tgt := 35) g dX4_cells_9 (by decide) (fun h9_2 => ?_) (fun h9_2 => ?_)
    · skip
      refine v_lload_n g dX4_cells_35 1 rfl ?_
      exact v_lret g E dX4_cells_36 rfl ⟨by first | (simp [rowCellsC, *]; done) | (simp_all [rowCellsC]; done), rfl, rfl⟩
    · skip
      refine v_iload_n g dX4_cells_12 0 rfl ?_
      refine v_iconst (v := 4) g dX4_cells_13 (by decide) ?_
      refine v_icmp_ge (tgt := 35) g dX4_cells_14 (by decide) (fun h => absurd h (by decide)) (fun _ => ?_)
      refine v_lload_n g dX4_cells_17 1 rfl ?_
      refine v_aload_n g dX4_cells_18 2 rfl ?_
      refine v_get g dX4_cells_19 fl_RX4_9 hR rfl ?_
      refine v_iload_n g dX4_cells_22 0 rfl ?_
      refine v_iald g dX4_cells_23 hT (by unfold vp_in; decide) (v_eqi (y := (t 1)) rfl ?_)
      refine v_callSN (As := [.int (t 1)]) (r := some (.long (bitC (t 1)))) g dX4_cells_24 (k_X5_bit (t 1)) cl_X5_bit nl_RX4_28 sm_X5_bit rfl ⟨rfl, rfl, rfl⟩ ?_
      refine v_lor g dX4_cells_27 ?_
      refine v_lstore_n (ls' := [(1, .long ((0 ||| bitC (t 0)) ||| bitC (t 1))), (3, .int 1), (0, .ref ro)]) g dX4_cells_28 rfl rfl ?_
      refine v_iinc (v := 2) (ls' := [(3, .int 2), (1, .long ((0 ||| bitC (t 0)) ||| bitC (t 1))), (0, .ref ro)]) g dX4_cells_29 1 rfl rfl rfl rfl ?_
      refine v_goto (tgt := 4) g dX4_cells_32 (by decide) ?_
      refine v_iload_n g dX4_cells_4 0 rfl ?_
      refine v_aload_n g dX4_cells_5 2 rfl ?_
      refine v_get g dX4_cells_6 fl_RX4_15 hR rfl ?_
      refine v_icmp_ge (tgt := 35) g dX4_cells_9 (by decide) (fun h9_3 => ?_) (fun h9_3 => ?_)
      · skip
        refine v_lload_n g dX4_cells_35 1 rfl ?_
        exact v_lret g E dX4_cells_36 rfl ⟨by first | (simp [rowCellsC, *]; done) | (simp_all [rowCellsC]; done), rfl, rfl⟩
      · skip
        refine v_iload_n g dX4_cells_12 0 rfl ?_
        refine v_iconst (v := 4) g dX4_cells_13 (by decide) ?_
        refine v_icmp_ge (tgt := 35) g dX4_cells_14 (by decide) (fun h => absurd h (by decide)) (fun _ => ?_)
        refine v_lload_n g dX4_cells_17 1 rfl ?_
        refine v_aload_n g dX4_cells_18 2 rfl ?_
        refine v_get g dX4_cells_19 fl_RX4_9 hR rfl ?_
        refine v_iload_n g dX4_cells_22 0 rfl ?_
        refine v_iald g dX4_cells_23 hT (by unfold vp_in; decide) (v_eqi (y := (t 2)) rfl ?_)
        refine v_callSN (As := [.int (t 2)]) (r := some (.long (bitC (t 2)))) g dX4_cells_24 (k_X5_bit (t 2)) cl_X5_bit nl_RX4_28 sm_X5_bit rfl ⟨rfl, rfl, rfl⟩ ?_
        refine v_lor g dX4_cells_27 ?_
        refine v_lstore_n (ls' := [(1, .long (((0 ||| bitC (t 0)) ||| bitC (t 1)) ||| bitC (t 2))), (3, .int 2), (0, .ref ro)]) g dX4_cells_28 rfl rfl ?_
        refine v_iinc (v := 3) (ls' := [(3, .int 3), (1, .long (((0 ||| bitC (t 0)) ||| bitC (t 1)) ||| bitC (t 2))), (0, .ref ro)]) g dX4_cells_29 1 rfl rfl rfl rfl ?_
        refine v_goto (tgt := 4) g dX4_cells_32 (by decide) ?_
        refine v_iload_n g dX4_cells_4 0 rfl ?_
        refine v_aload_n g dX4_cells_5 2 rfl ?_
        refine v_get g dX4_cells_6 fl_RX4_15 hR rfl ?_
        refine v_icmp_ge (tgt := 35) g dX4_cells_9 (by decide) (fun h9_4 => ?_) (fun h9_4 => ?_)
        · skip
          refine v_lload_n g dX4_cells_35 1 rfl ?_
          exact v_lret g E dX4_cells_36 rfl ⟨by first | (simp [rowCellsC, *]; done) | (simp_all [rowCellsC]; done), rfl, rfl⟩
        · skip
          refine v_iload_n g dX4_cells_12 0 rfl ?_
          refine v_iconst (v := 4) g dX4_cells_13 (by decide) ?_
          refine v_icmp_ge (tgt := 35) g dX4_cells_14 (by decide) (fun h => absurd h (by decide)) (fun _ => ?_)
          refine v_lload_n g dX4_cells_17 1 rfl ?_
          refine v_aload_n g dX4_cells_18 2 rfl ?_
          refine v_get g dX4_cells_19 fl_RX4_9 hR rfl ?_
          refine v_iload_n g dX4_cells_22 0 rfl ?_
          refine v_iald g dX4_cells_23 hT (by unfold vp_in; decide) (v_eqi (y := (t 3)) rfl ?_)
          refine v_callSN (As := [.int (t 3)]) (r := some (.long (bitC (t 3)))) g dX4_cells_24 (k_X5_bit (t 3)) cl_X5_bit nl_RX4_28 sm_X5_bit rfl ⟨rfl, rfl, rfl⟩ ?_
          refine v_lor g dX4_cells_27 ?_
          refine v_lstore_n (ls' := [(1, .long ((((0 ||| bitC (t 0)) ||| bitC (t 1)) ||| bitC (t 2)) ||| bitC (t 3))), (3, .int 3), (0, .ref ro)]) g dX4_cells_28 rfl rfl ?_
          refine v_iinc (v := 4) (ls' := [(3, .int 4), (1, .long ((((0 ||| bitC (t 0)) ||| bitC (t 1)) ||| bitC (t 2)) ||| bitC (t 3))), (0, .ref ro)]) g dX4_cells_29 1 rfl rfl rfl rfl ?_
          refine v_goto (tgt := 4) g dX4_cells_32 (by decide) ?_
          refine v_iload_n g dX4_cells_4 0 rfl ?_
          refine v_aload_n g dX4_cells_5 2 rfl ?_
          refine v_get g dX4_cells_6 fl_RX4_15 hR rfl ?_
          refine v_icmp_ge (tgt := 35) g dX4_cells_9 (by decide) (fun h9_5 => ?_) (fun h9_5 => ?_)
          · skip
            refine v_lload_n g dX4_cells_35 1 rfl ?_
            exact v_lret g E dX4_cells_36 rfl ⟨by first | (simp [rowCellsC, *]; done) | (simp_all [rowCellsC]; done), rfl, rfl⟩
          · skip
            refine v_iload_n g dX4_cells_12 0 rfl ?_
            refine v_iconst (v := 4) g dX4_cells_13 (by decide) ?_
            refine v_icmp_ge (tgt := 35) g dX4_cells_14 (by decide) (fun _ => ?_) (fun h => absurd (by decide) h)
            refine v_lload_n g dX4_cells_35 1 rfl ?_
            exact v_lret g E dX4_cells_36 rfl ⟨by first | (simp [rowCellsC, *]; done) | (simp_all [rowCellsC]; done), rfl, rfl⟩
theorem k_X4_standsAs {ro tr : Nat} {sz kd hd be : Int32} (hR : μ ro = some (rowCe tr sz kd hd be)) {t : Nat → Int32} (hT : μ tr = some (iA 4 t)) {ro' tr' : Nat} {sz' kd' hd' be' : Int32} (hR' : μ ro' = some (rowCe tr' sz' kd' hd' be')) {t' : Nat → Int32} (hT' : μ tr' = some (iA 4 t')) : Ctr l G 0 0 0 0 mX4_standsAs [.ref ro, .ref ro'] n (μ) (some (.int (zB (rowAsC hd sz t hd' sz' t')))) n (μ) := by
  refine Ctr.of (by decide +kernel) rfl (fun X g E => ?_)
  refine v_sub (ls' := [(0, .ref ro), (1, .ref ro')]) [0, 1] rfl ?_
  refine v_aload_n g dX4_standsAs_0 0 rfl ?_
  refine v_get g dX4_standsAs_1 fl_RX4_22 hR rfl ?_
  refine v_aload_n g dX4_standsAs_4 1 rfl ?_
  refine v_get g dX4_standsAs_5 fl_RX4_22 hR' rfl ?_
  refine v_icmp_ne (tgt := 22) g dX4_standsAs_8 (by decide) (fun h8 => ?_) (fun h8 => ?_)
  · skip
    refine v_iconst (v := 0) g dX4_standsAs_22 (by decide) ?_
    exact v_zret g E dX4_standsAs_23 rfl rfl ⟨by first | (simp [rowAsC, zB, *]; done) | (simp_all [rowAsC, zB]; done), rfl, rfl⟩
  · skip
    refine v_aload_n g dX4_standsAs_11 0 rfl ?_
    refine v_get g dX4_standsAs_12 fl_RX4_15 hR rfl ?_
    refine v_aload_n g dX4_standsAs_15 1 rfl ?_
    refine v_get g dX4_standsAs_16 fl_RX4_15 hR' rfl ?_
    refine v_icmp_eq (tgt := 24) g dX4_standsAs_19 (by decide) (fun h19 => ?_) (fun h19 => ?_)
    · skip
      refine v_iconst (v := 0) g dX4_standsAs_24 (by decide) ?_
      refine v_istore_n (ls' := [(2, .int 0), (0, .ref ro), (1, .ref ro')]) g dX4_standsAs_25 rfl rfl ?_
      refine v_iload_n g dX4_standsAs_26 0 rfl ?_
      refine v_aload_n g dX4_standsAs_27 1 rfl ?_
      refine v_get g dX4_standsAs_28 fl_RX4_15 hR rfl ?_
      refine v_icmp_ge (tgt := 62) g dX4_standsAs_31 (by decide) (fun h31 => ?_) (fun h31 => ?_)
      · skip
        refine v_iconst (v := 1) g dX4_standsAs_62 (by decide) ?_
        exact v_zret g E dX4_standsAs_63 rfl rfl ⟨by first | (simp [rowAsC, zB, *]; done) | (simp_all [rowAsC, zB]; done), rfl, rfl⟩
      · skip
        refine v_iload_n g dX4_standsAs_34 0 rfl ?_
        refine v_iconst (v := 4) g dX4_standsAs_35 (by decide) ?_
        refine v_icmp_ge (tgt := 62) g dX4_standsAs_36 (by decide) (fun h => absurd h (by decide)) (fun _ => ?_)
        refine v_aload_n g dX4_standsAs_39 1 rfl ?_
        refine v_get g dX4_standsAs_40 fl_RX4_9 hR rfl ?_
        refine v_iload_n g dX4_standsAs_43 0 rfl ?_
        refine v_iald g dX4_standsAs_44 hT (by unfold vp_in; decide) (v_eqi (y := (t 0)) rfl ?_)
        refine v_aload_n g dX4_standsAs_45 2 rfl ?_
        refine v_get g dX4_standsAs_46 fl_RX4_9 hR' rfl ?_
        refine v_iload_n g dX4_standsAs_49 0 rfl ?_
        refine v_iald g dX4_standsAs_50 hT' (by unfold vp_in; decide) (v_eqi (y := (t' 0)) rfl ?_)
        refine v_icmp_eq (tgt := 56) g dX4_standsAs_51 (by decide) (fun h51 => ?_) (fun h51 => ?_)
        · skip
          refine v_iinc (v := 1) (ls' := [(2, .int 1), (0, .ref ro), (1, .ref ro')]) g dX4_standsAs_56 0 rfl rfl rfl rfl ?_
          refine v_goto (tgt := 26) g dX4_standsAs_59 (by decide) ?_
          refine v_iload_n g dX4_standsAs_26 0 rfl ?_
          refine v_aload_n g dX4_standsAs_27 1 rfl ?_
          refine v_get g dX4_standsAs_28 fl_RX4_15 hR rfl ?_
          refine v_icmp_ge (tgt := 62) g dX4_standsAs_31 (by decide) (fun h31_2 => ?_) (fun h31_2 => ?_)
          · skip
            refine v_iconst (v := 1) g dX4_standsAs_62 (by decide) ?_
            exact v_zret g E dX4_standsAs_63 rfl rfl ⟨by first | (simp [rowAsC, zB, *]; done) | (simp_all [rowAsC, zB]; done), rfl, rfl⟩
          · skip
            refine v_iload_n g dX4_standsAs_34 0 rfl ?_
            refine v_iconst (v := 4) g dX4_standsAs_35 (by decide) ?_
            refine v_icmp_ge (tgt := 62) g dX4_standsAs_36 (by decide) (fun h => absurd h (by decide)) (fun _ => ?_)
            refine v_aload_n g dX4_standsAs_39 1 rfl ?_
            refine v_get g dX4_standsAs_40 fl_RX4_9 hR rfl ?_
            refine v_iload_n g dX4_standsAs_43 0 rfl ?_
            refine v_iald g dX4_standsAs_44 hT (by unfold vp_in; decide) (v_eqi (y := (t 1)) rfl ?_)
            refine v_aload_n g dX4_standsAs_45 2 rfl ?_
            refine v_get g dX4_standsAs_46 fl_RX4_9 hR' rfl ?_
            refine v_iload_n g dX4_standsAs_49 0 rfl ?_
            refine v_iald g dX4_standsAs_50 hT' (by unfold vp_in; decide) (v_eqi (y := (t' 1)) rfl ?_)
            refine v_icmp_eq (tgt := 56) g dX4_standsAs_51 (by decide) (fun h51_2 => ?_) (fun h51_2 => ?_)
            · skip
              refine v_iinc (v := 2) (ls' := [(2, .int 2), (0, .ref ro), (1, .ref ro')]) g dX4_standsAs_56 0 rfl rfl rfl rfl ?_
              refine v_goto (tgt := 26) g dX4_standsAs_59 (by decide) ?_
              refine v_iload_n g dX4_standsAs_26 0 rfl ?_
              refine v_aload_n g dX4_standsAs_27 1 rfl ?_
              refine v_get g dX4_standsAs_28 fl_RX4_15 hR rfl ?_
              refine v_icmp_ge (tgt := 62) g dX4_standsAs_31 (by decide) (fun h31_3 => ?_) (fun h31_3 => ?_)
              · skip
                refine v_iconst (v := 1) g dX4_standsAs_62 (by decide) ?_
                exact v_zret g E dX4_standsAs_63 rfl rfl ⟨by first | (simp [rowAsC, zB, *]; done) | (simp_all [rowAsC, zB]; done), rfl, rfl⟩
              · skip
                refine v_iload_n g dX4_standsAs_34 0 rfl ?_
                refine v_iconst (v := 4) g dX4_standsAs_35 (by decide) ?_
                refine v_icmp_ge (tgt := 62) g dX4_standsAs_36 (by decide) (fun h => absurd h (by decide)) (fun _ => ?_)
                refine v_aload_n g dX4_standsAs_39 1 rfl ?_
                refine v_get g dX4_standsAs_40 fl_RX4_9 hR rfl ?_
                refine v_iload_n g dX4_standsAs_43 0 rfl ?_
                refine v_iald g dX4_standsAs_44 hT (by unfold vp_in; decide) (v_eqi (y := (t 2)) rfl ?_)
                refine v_aload_n g dX4_standsAs_45 2 rfl ?_
                refine v_get g dX4_standsAs_46 fl_RX4_9 hR' rfl ?_
                refine v_iload_n g dX4_standsAs_49 0 rfl ?_
                refine v_iald g dX4_standsAs_50 hT' (by unfold vp_in; decide) (v_eqi (y := (t' 2)) rfl ?_)
                refine v_icmp_eq (tgt := 56) g dX4_standsAs_51 (by decide) (fun h51_3 => ?_) (fun h51_3 => ?_)
                · skip
                  refine v_iinc (v := 3) (ls' := [(2, .int 3), (0, .ref ro), (1, .ref ro')]) g dX4_standsAs_56 0 rfl rfl rfl rfl ?_
                  refine v_goto (tgt := 26) g dX4_standsAs_59 (by decide) ?_
                  refine v_iload_n g dX4_standsAs_26 0 rfl ?_
                  refine v_aload_n g dX4_standsAs_27 1 rfl ?_
                  refine v_get g dX4_standsAs_28 fl_RX4_15 hR rfl ?_
                  refine v_icmp_ge (tgt := 62) g dX4_standsAs_31 (by decide) (fun h31_4 => ?_) (fun h31_4 => ?_)
                  · skip
                    refine v_iconst (v := 1) g dX4_standsAs_62 (by decide) ?_
                    exact v_zret g E dX4_standsAs_63 rfl rfl ⟨by first | (simp [rowAsC, zB, *]; done) | (simp_all [rowAsC, zB]; done), rfl, rfl⟩
                  · skip
                    refine v_iload_n g dX4_standsAs_34 0 rfl ?_
                    refine v_iconst (v := 4) g dX4_standsAs_35 (by decide) ?_
                    refine v_icmp_ge (tgt := 62) g dX4_standsAs_36 (by decide) (fun h => absurd h (by decide)) (fun _ => ?_)
                    refine v_aload_n g dX4_standsAs_39 1 rfl ?_
                    refine v_get g dX4_standsAs_40 fl_RX4_9 hR rfl ?_
                    refine v_iload_n g dX4_standsAs_43 0 rfl ?_
                    refine v_iald g dX4_standsAs_44 hT (by unfold vp_in; decide) (v_eqi (y := (t 3)) rfl ?_)
                    refine v_aload_n g dX4_standsAs_45 2 rfl ?_
                    refine v_get g dX4_standsAs_46 fl_RX4_9 hR' rfl ?_
                    refine v_iload_n g dX4_standsAs_49 0 rfl ?_
                    refine v_iald g dX4_standsAs_50 hT' (by unfold vp_in; decide) (v_eqi (y := (t' 3)) rfl ?_)
                    refine v_icmp_eq (tgt := 56) g dX4_standsAs_51 (by decide) (fun h51_4 => ?_) (fun h51_4 => ?_)
                    · skip
                      refine v_iinc (v := 4) (ls' := [(2, .int 4), (0, .ref ro), (1, .ref ro')]) g dX4_standsAs_56 0 rfl rfl rfl rfl ?_
                      refine v_goto (tgt := 26) g dX4_standsAs_59 (by decide) ?_
                      refine v_iload_n g dX4_standsAs_26 0 rfl ?_
                      refine v_aload_n g dX4_standsAs_27 1 rfl ?_
                      refine v_get g dX4_standsAs_28 fl_RX4_15 hR rfl ?_
                      refine v_icmp_ge (tgt := 62) g dX4_standsAs_31 (by decide) (fun h31_5 => ?_) (fun h31_5 => ?_)
                      · skip
                        refine v_iconst (v := 1) g dX4_standsAs_62 (by decide) ?_
                        exact v_zret g E dX4_standsAs_63 rfl rfl ⟨by first | (simp [rowAsC, zB, *]; done) | (simp_all [rowAsC, zB]; done), rfl, rfl⟩
                      · skip
                        refine v_iload_n g dX4_standsAs_34 0 rfl ?_
                        refine v_iconst (v := 4) g dX4_standsAs_35 (by decide) ?_
                        refine v_icmp_ge (tgt := 62) g dX4_standsAs_36 (by decide) (fun _ => ?_) (fun h => absurd (by decide) h)
                        refine v_iconst (v := 1) g dX4_standsAs_62 (by decide) ?_
                        exact v_zret g E dX4_standsAs_63 rfl rfl ⟨by first | (simp [rowAsC, zB, *]; done) | (simp_all [rowAsC, zB]; done), rfl, rfl⟩
                    · skip
                      refine v_iconst (v := 0) g dX4_standsAs_54 (by decide) ?_
                      exact v_zret g E dX4_standsAs_55 rfl rfl ⟨by first | (simp [rowAsC, zB, *]; done) | (simp_all [rowAsC, zB]; done), rfl, rfl⟩
                · skip
                  refine v_iconst (v := 0) g dX4_standsAs_54 (by decide) ?_
                  exact v_zret g E dX4_standsAs_55 rfl rfl ⟨by first | (simp [rowAsC, zB, *]; done) | (simp_all [rowAsC, zB]; done), rfl, rfl⟩
            · skip
              refine v_iconst (v := 0) g dX4_standsAs_54 (by decide) ?_
              exact v_zret g E dX4_standsAs_55 rfl rfl ⟨by first | (simp [rowAsC, zB, *]; done) | (simp_all [rowAsC, zB]; done), rfl, rfl⟩
        · skip
          refine v_iconst (v := 0) g dX4_standsAs_54 (by decide) ?_
          exact v_zret g E dX4_standsAs_55 rfl rfl ⟨by first | (simp [rowAsC, zB, *]; done) | (simp_all [rowAsC, zB]; done), rfl, rfl⟩
    · skip
      refine v_iconst (v := 0) g dX4_standsAs_22 (by decide) ?_
      exact v_zret g E dX4_standsAs_23 rfl rfl ⟨by first | (simp [rowAsC, zB, *]; done) | (simp_all [rowAsC, zB]; done), rfl, rfl⟩
theorem k_X1_holds {oo la rs oow : Nat} {rc yr : Int32} {di le ta en : Int64} (hO : μ oo = some (orCe la rs oow rc yr di le ta en)) (r : Int32) : Ctr l G 0 0 0 0 mX1_holds [.ref oo, .int r] n (μ) (some (.int (zB (orHoldsC rc r)))) n (μ) := by
  refine Ctr.of (by decide +kernel) rfl (fun X g E => ?_)
  refine v_sub (ls' := [(0, .ref oo), (1, .int r)]) [0, 1] rfl ?_
  refine v_iload_n g dX1_holds_0 1 rfl ?_
  refine v_if_lt (tgt := 21) g dX1_holds_1 (by decide) (fun h1 => ?_) (fun h1 => ?_)
  · skip
    refine v_iconst (v := 0) g dX1_holds_21 (by decide) ?_
    exact v_zret g E dX1_holds_22 rfl rfl ⟨by first | (simp [orHoldsC, zB, *]; done) | (simp_all [orHoldsC, zB]; done), rfl, rfl⟩
  · skip
    refine v_iload_n g dX1_holds_4 1 rfl ?_
    refine v_aload_n g dX1_holds_5 0 rfl ?_
    refine v_get g dX1_holds_6 fl_RX1_26 hO rfl ?_
    refine v_icmp_ge (tgt := 21) g dX1_holds_9 (by decide) (fun h9 => ?_) (fun h9 => ?_)
    · skip
      refine v_iconst (v := 0) g dX1_holds_21 (by decide) ?_
      exact v_zret g E dX1_holds_22 rfl rfl ⟨by first | (simp [orHoldsC, zB, *]; done) | (simp_all [orHoldsC, zB]; done), rfl, rfl⟩
    · skip
      refine v_iload_n g dX1_holds_12 1 rfl ?_
      refine v_iconst (v := 3) g dX1_holds_13 (by decide) ?_
      refine v_icmp_ge (tgt := 21) g dX1_holds_14 (by decide) (fun h14 => ?_) (fun h14 => ?_)
      · skip
        refine v_iconst (v := 0) g dX1_holds_21 (by decide) ?_
        exact v_zret g E dX1_holds_22 rfl rfl ⟨by first | (simp [orHoldsC, zB, *]; done) | (simp_all [orHoldsC, zB]; done), rfl, rfl⟩
      · skip
        refine v_iconst (v := 1) g dX1_holds_17 (by decide) ?_
        refine v_goto (tgt := 22) g dX1_holds_18 (by decide) ?_
        exact v_zret g E dX1_holds_22 rfl rfl ⟨by first | (simp [orHoldsC, zB, *]; done) | (simp_all [orHoldsC, zB]; done), rfl, rfl⟩
theorem k_X1_canDig {oo la rs oow : Nat} {rc yr : Int32} {di le ta en : Int64} (hO : μ oo = some (orCe la rs oow rc yr di le ta en)) {ow : Nat} {F Hd Br : Int64} {li wi : Int32} (hL : μ la = some (landCe ow F Hd Br li wi)) (x : Int32) : Ctr l G 1 22 0 0 mX1_canDig [.ref oo, .int x] n (μ) (some (.int (zB (digC F di ta x)))) n (μ) := by
  refine Ctr.of (by decide +kernel) rfl (fun X g E => ?_)
  refine v_sub (ls' := [(0, .ref oo), (1, .int x)]) [0, 1] rfl ?_
  refine v_aload_n g dX1_canDig_0 0 rfl ?_
  refine v_get g dX1_canDig_1 fl_RX1_21 hO rfl ?_
  refine v_get g dX1_canDig_4 fl_RX1_58 hL rfl ?_
  refine v_aload_n g dX1_canDig_7 0 rfl ?_
  refine v_get g dX1_canDig_8 fl_RX1_33 hO rfl ?_
  refine v_ldc2 (v := (-1)) g dX1_canDig_11 kl_RX1_63 ?_
  refine v_lxor g dX1_canDig_14 ?_
  refine v_land g dX1_canDig_15 ?_
  refine v_aload_n g dX1_canDig_16 0 rfl ?_
  refine v_get g dX1_canDig_17 fl_RX1_40 hO rfl ?_
  refine v_ldc2 (v := (-1)) g dX1_canDig_20 kl_RX1_63 ?_
  refine v_lxor g dX1_canDig_23 ?_
  refine v_land g dX1_canDig_24 ?_
  refine v_iload_n g dX1_canDig_25 1 rfl ?_
  refine v_callSN (As := [.long ((F &&& (di ^^^ (-1))) &&& (ta ^^^ (-1))), .int x]) (r := some (.int (zB (ctn ((F &&& (di ^^^ (-1))) &&& (ta ^^^ (-1))) x)))) g dX1_canDig_26 (k_X5_contains ((F &&& (di ^^^ (-1))) &&& (ta ^^^ (-1))) x) cl_X5_contains nl_RX1_50 sm_X5_contains rfl ⟨rfl, rfl, rfl⟩ ?_
  exact v_zret g E dX1_canDig_29 rfl (zB_nar _) ⟨by simp [digC], rfl, rfl⟩
theorem k_X1_wayOf {oo la rs oow : Nat} {rc yr : Int32} {di le ta en : Int64} (hO : μ oo = some (orCe la rs oow rc yr di le ta en)) {ow : Nat} {F Hd Br : Int64} {li wi : Int32} (hL : μ la = some (landCe ow F Hd Br li wi)) {ro tr : Nat} {sz kd hd be : Int32} (hR : μ ro = some (rowCe tr sz kd hd be)) {t : Nat → Int32} (hT : μ tr = some (iA 4 t)) : Ctr l G 1 23 0 0 mX1_wayOf [.ref oo, .ref ro] n μ (some (.int (wayC F Hd Br li wi di ta yr kd hd (t 0)))) n μ := by
  refine Ctr.of (by decide +kernel) rfl (fun X g E => ?_)
  refine v_sub (ls' := [(0, .ref oo), (1, .ref ro)]) [0, 1] rfl ?_
  have J20 : ¬ (kd = 2 ∧ ¬ yr % 2 = 0) → V X 0 0 n μ 20 [(0, .ref oo), (1, .ref ro)] [] := by
    intro hk
    refine v_aload_n g dX1_wayOf_20 0 rfl ?_
    refine v_get g dX1_wayOf_21 fl_RX1_21 hO rfl ?_
    refine v_get g dX1_wayOf_24 fl_RX1_58 hL rfl ?_
    refine v_aload_n g dX1_wayOf_27 0 rfl ?_
    refine v_get g dX1_wayOf_28 fl_RX1_21 hO rfl ?_
    refine v_get g dX1_wayOf_31 fl_RX1_83 hL rfl ?_
    refine v_lor g dX1_wayOf_34 ?_
    refine v_aload_n g dX1_wayOf_35 1 rfl ?_
    refine v_get g dX1_wayOf_36 fl_RX1_80 hR rfl ?_
    refine v_iconst (v := 3) g dX1_wayOf_39 (by decide) ?_
    refine v_icmp_ne_dl (tgt := 53) (u := 0) (v := Br) 54 g dX1_wayOf_40 (by decide) (fun h40 K => ?_) (fun h40 K => ?_) ?_
    · skip
      refine v_lconst (v := 0) g dX1_wayOf_53 (by decide) ?_
      exact K
    · skip
      refine v_aload_n g dX1_wayOf_43 0 rfl ?_
      refine v_get g dX1_wayOf_44 fl_RX1_21 hO rfl ?_
      refine v_get g dX1_wayOf_47 fl_RX1_86 hL rfl ?_
      refine v_goto (tgt := 54) g dX1_wayOf_50 (by decide) ?_
      exact K
    refine v_lor g dX1_wayOf_54 ?_
    refine v_topl (fun gr e_gr => ?_)
    refine v_lstore_n (ls' := [(2, .long gr), (0, .ref oo), (1, .ref ro)]) g dX1_wayOf_55 rfl rfl ?_
    refine v_lload_n g dX1_wayOf_56 0 rfl ?_
    refine v_aload_n g dX1_wayOf_57 1 rfl ?_
    refine v_get g dX1_wayOf_58 fl_RX1_33 hO rfl ?_
    refine v_ldc2 (v := (-1)) g dX1_wayOf_61 kl_RX1_63 ?_
    refine v_lxor g dX1_wayOf_64 ?_
    refine v_land g dX1_wayOf_65 ?_
    refine v_aload_n g dX1_wayOf_66 1 rfl ?_
    refine v_get g dX1_wayOf_67 fl_RX1_40 hO rfl ?_
    refine v_ldc2 (v := (-1)) g dX1_wayOf_70 kl_RX1_63 ?_
    refine v_lxor g dX1_wayOf_73 ?_
    refine v_land g dX1_wayOf_74 ?_
    refine v_topl (fun op e_op => ?_)
    refine v_lstore (ls' := [(4, .long op), (2, .long gr), (0, .ref oo), (1, .ref ro)]) g dX1_wayOf_75 rfl rfl ?_
    refine v_aload_n g dX1_wayOf_77 3 rfl ?_
    refine v_get g dX1_wayOf_78 fl_RX1_80 hR rfl ?_
    refine v_iconst (v := 1) g dX1_wayOf_81 (by decide) ?_
    refine v_icmp_ne_d (tgt := 89) (u := 1) (v := 3) 90 g dX1_wayOf_82 (by decide) (fun h82 K => ?_) (fun h82 K => ?_) ?_
    · skip
      refine v_iconst (v := 1) g dX1_wayOf_89 (by decide) ?_
      exact K
    · skip
      refine v_iconst (v := 3) g dX1_wayOf_85 (by decide) ?_
      refine v_goto (tgt := 90) g dX1_wayOf_86 (by decide) ?_
      exact K
    refine v_topi (fun tu e_tu => ?_)
    refine v_istore (ls' := [(6, .int tu), (4, .long op), (2, .long gr), (0, .ref oo), (1, .ref ro)]) g dX1_wayOf_90 rfl rfl ?_
    refine v_aload_n g dX1_wayOf_92 4 rfl ?_
    refine v_get g dX1_wayOf_93 fl_RX1_89 hR rfl ?_
    refine v_istore (ls' := [(7, .int hd), (6, .int tu), (4, .long op), (2, .long gr), (0, .ref oo), (1, .ref ro)]) g dX1_wayOf_96 rfl rfl ?_
    refine v_iload g dX1_wayOf_98 0 rfl ?_
    refine v_iload g dX1_wayOf_100 1 rfl ?_
    refine v_iadd g dX1_wayOf_102 ?_
    refine v_iconst (v := 4) g dX1_wayOf_103 (by decide) ?_
    refine v_irem g dX1_wayOf_104 (by decide) ?_
    refine v_topi (fun tn e_tn => ?_)
    refine v_istore (ls' := [(8, .int tn), (7, .int hd), (6, .int tu), (4, .long op), (2, .long gr), (0, .ref oo), (1, .ref ro)]) g dX1_wayOf_105 rfl rfl ?_
    refine v_iload g dX1_wayOf_107 1 rfl ?_
    refine v_iconst (v := 4) g dX1_wayOf_109 (by decide) ?_
    refine v_iadd g dX1_wayOf_110 ?_
    refine v_iload g dX1_wayOf_111 2 rfl ?_
    refine v_isub g dX1_wayOf_113 ?_
    refine v_iconst (v := 4) g dX1_wayOf_114 (by decide) ?_
    refine v_irem g dX1_wayOf_115 (by decide) ?_
    refine v_topi (fun ot e_ot => ?_)
    refine v_istore (ls' := [(9, .int ot), (8, .int tn), (7, .int hd), (6, .int tu), (4, .long op), (2, .long gr), (0, .ref oo), (1, .ref ro)]) g dX1_wayOf_116 rfl rfl ?_
    refine v_lload g dX1_wayOf_118 4 rfl ?_
    refine v_aload_n g dX1_wayOf_120 6 rfl ?_
    refine v_get g dX1_wayOf_121 fl_RX1_21 hO rfl ?_
    refine v_aload_n g dX1_wayOf_124 7 rfl ?_
    refine v_callV (As := []) (r := some (.int (t 0))) g dX1_wayOf_125 (k_X4_first hR hT) cl_X4_first ml_RX1_92 im_X4_first hR rfl rfl ⟨rfl, rfl, rfl⟩ ?_
    refine v_iload g dX1_wayOf_128 2 rfl ?_
    refine v_callV (As := [.int (t 0), .int hd]) (r := some (.int (nextC li wi (t 0) hd))) g dX1_wayOf_130 (k_X0_nextBy hL (t 0) hd) cl_X0_nextBy ml_RX1_96 im_X0_nextBy hL rfl rfl ⟨rfl, rfl, rfl⟩ ?_
    refine v_callSN (As := [.long op, .int (nextC li wi (t 0) hd)]) (r := some (.int (zB (ctn op (nextC li wi (t 0) hd))))) g dX1_wayOf_133 (k_X5_contains op (nextC li wi (t 0) hd)) cl_X5_contains nl_RX1_50 sm_X5_contains rfl ⟨rfl, rfl, rfl⟩ ?_
    refine v_if_eq (tgt := 142) g dX1_wayOf_136 (by decide) (fun h136 => ?_) (fun h136 => ?_)
    · skip
      have h136 := zB_f0 h136
      refine v_lload g dX1_wayOf_142 4 rfl ?_
      refine v_aload_n g dX1_wayOf_144 6 rfl ?_
      refine v_get g dX1_wayOf_145 fl_RX1_21 hO rfl ?_
      refine v_aload_n g dX1_wayOf_148 7 rfl ?_
      refine v_callV (As := []) (r := some (.int (t 0))) g dX1_wayOf_149 (k_X4_first hR hT) cl_X4_first ml_RX1_92 im_X4_first hR rfl rfl ⟨rfl, rfl, rfl⟩ ?_
      refine v_iload g dX1_wayOf_152 1 rfl ?_
      refine v_callV (As := [.int (t 0), .int tn]) (r := some (.int (nextC li wi (t 0) tn))) g dX1_wayOf_154 (k_X0_nextBy hL (t 0) tn) cl_X0_nextBy ml_RX1_96 im_X0_nextBy hL rfl rfl ⟨rfl, rfl, rfl⟩ ?_
      refine v_callSN (As := [.long op, .int (nextC li wi (t 0) tn)]) (r := some (.int (zB (ctn op (nextC li wi (t 0) tn))))) g dX1_wayOf_157 (k_X5_contains op (nextC li wi (t 0) tn)) cl_X5_contains nl_RX1_50 sm_X5_contains rfl ⟨rfl, rfl, rfl⟩ ?_
      refine v_if_eq (tgt := 166) g dX1_wayOf_160 (by decide) (fun h160 => ?_) (fun h160 => ?_)
      · skip
        have h160 := zB_f0 h160
        refine v_lload g dX1_wayOf_166 4 rfl ?_
        refine v_aload_n g dX1_wayOf_168 6 rfl ?_
        refine v_get g dX1_wayOf_169 fl_RX1_21 hO rfl ?_
        refine v_aload_n g dX1_wayOf_172 7 rfl ?_
        refine v_callV (As := []) (r := some (.int (t 0))) g dX1_wayOf_173 (k_X4_first hR hT) cl_X4_first ml_RX1_92 im_X4_first hR rfl rfl ⟨rfl, rfl, rfl⟩ ?_
        refine v_iload g dX1_wayOf_176 0 rfl ?_
        refine v_callV (As := [.int (t 0), .int ot]) (r := some (.int (nextC li wi (t 0) ot))) g dX1_wayOf_178 (k_X0_nextBy hL (t 0) ot) cl_X0_nextBy ml_RX1_96 im_X0_nextBy hL rfl rfl ⟨rfl, rfl, rfl⟩ ?_
        refine v_callSN (As := [.long op, .int (nextC li wi (t 0) ot)]) (r := some (.int (zB (ctn op (nextC li wi (t 0) ot))))) g dX1_wayOf_181 (k_X5_contains op (nextC li wi (t 0) ot)) cl_X5_contains nl_RX1_50 sm_X5_contains rfl ⟨rfl, rfl, rfl⟩ ?_
        refine v_if_eq (tgt := 192) g dX1_wayOf_184 (by decide) (fun h184 => ?_) (fun h184 => ?_)
        · skip
          have h184 := zB_f0 h184
          refine v_bipush (v := (-4)) g dX1_wayOf_192 (by decide) ?_
          exact v_iret g E dX1_wayOf_194 rfl ⟨by first | (simp [wayC, wayC2, turnC, openC, *]; done) | (simp_all [wayC, wayC2, turnC, openC]; done), rfl, rfl⟩
        · skip
          have h184 := zB_t0 h184
          refine v_iload g dX1_wayOf_187 0 rfl ?_
          refine v_goto (tgt := 194) g dX1_wayOf_189 (by decide) ?_
          exact v_iret g E dX1_wayOf_194 rfl ⟨by first | (simp [wayC, wayC2, turnC, openC, *]; done) | (simp_all [wayC, wayC2, turnC, openC]; done), rfl, rfl⟩
      · skip
        have h160 := zB_t0 h160
        refine v_iload g dX1_wayOf_163 1 rfl ?_
        exact v_iret g E dX1_wayOf_165 rfl ⟨by first | (simp [wayC, wayC2, turnC, openC, *]; done) | (simp_all [wayC, wayC2, turnC, openC]; done), rfl, rfl⟩
    · skip
      have h136 := zB_t0 h136
      refine v_iload g dX1_wayOf_139 2 rfl ?_
      exact v_iret g E dX1_wayOf_141 rfl ⟨by first | (simp [wayC, wayC2, turnC, openC, *]; done) | (simp_all [wayC, wayC2, turnC, openC]; done), rfl, rfl⟩
  refine v_aload_n g dX1_wayOf_0 1 rfl ?_
  refine v_get g dX1_wayOf_1 fl_RX1_80 hR rfl ?_
  refine v_iconst (v := 2) g dX1_wayOf_4 (by decide) ?_
  refine v_icmp_ne (tgt := 20) g dX1_wayOf_5 (by decide) (fun h5 => ?_) (fun h5 => ?_)
  · skip
    exact J20 (by simp [*])
  · skip
    refine v_aload_n g dX1_wayOf_8 0 rfl ?_
    refine v_get g dX1_wayOf_9 fl_RX1_30 hO rfl ?_
    refine v_iconst (v := 2) g dX1_wayOf_12 (by decide) ?_
    refine v_irem g dX1_wayOf_13 (by decide) ?_
    refine v_if_eq (tgt := 20) g dX1_wayOf_14 (by decide) (fun h14 => ?_) (fun h14 => ?_)
    · skip
      exact J20 (by simp [*])
    · skip
      refine v_bipush (v := (-4)) g dX1_wayOf_17 (by decide) ?_
      exact v_iret g E dX1_wayOf_19 rfl ⟨by first | (simp [wayC, wayC2, turnC, openC, *]; done) | (simp_all [wayC, wayC2, turnC, openC]; done), rfl, rfl⟩
end C1
