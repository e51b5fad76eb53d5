/-! CLASS: the reader, rows of trees, items, the whole text -/
def ptC (F Hd : Int64) (li wi : Int32) (ta : Int64) (sz : Int32) (t : Nat → Int32) (x : Int32) : Bool := if ctn ((F ||| Hd) &&& (ta ^^^ (-1))) x = false then false else if sz ≤ 0 then true else if besC li wi x (bitC (treeAtC sz t (sz - 1))) = true then true else false
def prFrom (F Hd : Int64) (li wi told : Int32) (nums : Nat → Int32) : Nat → Nat → Int64 → Int32 → (Nat → Int32) → Bool × Int64 × Int32 × (Nat → Int32)
  | 0, _, ta, sz, t => (true, ta, sz, t)
  | q + 1, i, ta, sz, t => if told ≤ nI i then (true, ta, sz, t) else if ptC F Hd li wi ta sz t (nums i) = true then prFrom F Hd li wi told nums q (i + 1) (ta ||| bitC (nums i)) (plantF sz t (nums i)).1 (plantF sz t (nums i)).2 else (false, ta, sz, t)
def prOk (told : Int32) (nums : Nat → Int32) (rc : Int32) : Bool := if told < 4 then false else if rc < 0 then false else if 3 ≤ rc then false else if 4 ≤ nums 0 then false else if 4 ≤ nums 1 then false else if nums 2 ≤ 9 then true else false
def prPut (nums : Nat → Int32) (O : OV) (r : Nat) (z : Bool × Int64 × Int32 × (Nat → Int32)) : Bool × OV := (z.1, (if z.1 = true then O.1 + 1 else O.1), O.2.1, O.2.2.1, O.2.2.2.1, z.2.1, O.2.2.2.2.2.1, O.2.2.2.2.2.2.1, va_up O.2.2.2.2.2.2.2 r (z.2.2.1, nums 0, nums 1, nums 2, z.2.2.2))
def plRow (told : Int32) (nums : Nat → Int32) (L : LV) (O : OV) : Bool × OV := if prOk told nums O.1 = true then prPut nums O O.1.toNatClampNeg (prFrom L.1 L.2.1 L.2.2.2.1 L.2.2.2.2.1 told nums 4 3 O.2.2.2.2.1 0 (O.2.2.2.2.2.2.2 O.1.toNatClampNeg).2.2.2.2) else (false, O)
abbrev RS : Type := Int32 × Int32 × (Nat → Int32) × LV × OV
def rdItem (K : Nat) (le : Nat → Int32) (len : Int32) (s : RS) : Bool × RS :=
  if nlV K le len s.2.1 = 108 then ((rdLine K le len (nlA K len s.2.1) s.2.2.2.1).1, s.1, (rdLine K le len (nlA K len s.2.1) s.2.2.2.1).2.1, s.2.2.1, (rdLine K le len (nlA K len s.2.1) s.2.2.2.1).2.2, s.2.2.2.2)
  else if nlV K le len s.2.1 = 111 then
    (if (rdNums K le len (nlA K len s.2.1) s.2.2.1).1 = false then (false, (rdNums K le len (nlA K len s.2.1) s.2.2.1).2.1, (rdNums K le len (nlA K len s.2.1) s.2.2.1).2.2.1, (rdNums K le len (nlA K len s.2.1) s.2.2.1).2.2.2, s.2.2.2)
     else ((giveCs (rdNums K le len (nlA K len s.2.1) s.2.2.1).2.1 (rdNums K le len (nlA K len s.2.1) s.2.2.1).2.2.2 s.2.2.2.1).1, (rdNums K le len (nlA K len s.2.1) s.2.2.1).2.1, (rdNums K le len (nlA K len s.2.1) s.2.2.1).2.2.1, (rdNums K le len (nlA K len s.2.1) s.2.2.1).2.2.2, (giveCs (rdNums K le len (nlA K len s.2.1) s.2.2.1).2.1 (rdNums K le len (nlA K len s.2.1) s.2.2.1).2.2.2 s.2.2.2.1).2, s.2.2.2.2))
  else if nlV K le len s.2.1 = 116 then
    (if (rdNums K le len (nlA K len s.2.1) s.2.2.1).1 = false then (false, (rdNums K le len (nlA K len s.2.1) s.2.2.1).2.1, (rdNums K le len (nlA K len s.2.1) s.2.2.1).2.2.1, (rdNums K le len (nlA K len s.2.1) s.2.2.1).2.2.2, s.2.2.2)
     else ((plRow (rdNums K le len (nlA K len s.2.1) s.2.2.1).2.1 (rdNums K le len (nlA K len s.2.1) s.2.2.1).2.2.2 s.2.2.2.1 s.2.2.2.2).1, (rdNums K le len (nlA K len s.2.1) s.2.2.1).2.1, (rdNums K le len (nlA K len s.2.1) s.2.2.1).2.2.1, (rdNums K le len (nlA K len s.2.1) s.2.2.1).2.2.2, s.2.2.2.1, (plRow (rdNums K le len (nlA K len s.2.1) s.2.2.1).2.1 (rdNums K le len (nlA K len s.2.1) s.2.2.1).2.2.2 s.2.2.2.1 s.2.2.2.2).2))
  else (false, s.1, nlA K len s.2.1, s.2.2)
def rtFrom (K : Nat) (le : Nat → Int32) (len : Int32) : Nat → RS → Int32 × RS
  | 0, s => (-4, s)
  | q + 1, s => if len ≤ s.2.1 then (-4, s) else if (rdItem K le len s).1 = true then rtFrom K le len q (rdItem K le len s).2 else (s.2.1, (rdItem K le len s).2)
def minC (a b : Int32) : Int32 := if b < a then b else a
def rdS1 (C : CS) (len : Int32) (k : Nat) (s : RS) : CS := rdS C s.1 len s.2.1 k s.2.2.1 s.2.2.2.1 s.2.2.2.2
section C6
variable {l : Launch} {G : GG} {n : Nat} {B : Nat} {C : CS} {ρ : Mu} {k : Nat}
theorem k_plantR (told len att : Int32) (nums : Nat → Int32) (L : LV) (rc yr : Int32) (di lb ta en : Int64) (ow : Nat → Int32) (rs : Nat → RV) {r : Nat} (hr : r < 3) (sz kd hd be : Int32) (t : Nat → Int32) (x : Int32) : Ctr l G 0 0 0 0 mX4_plant [.ref (adR B 2 r), .int x] n (ren B (rdS C told len att k nums L (rc, yr, di, lb, ta, en, ow, va_up rs r (sz, kd, hd, be, t))) ρ) none n (ren B (rdS C told len att k nums L (rc, yr, di, lb, ta, en, ow, va_up rs r ((plantF sz t x).1, kd, hd, be, (plantF sz t x).2))) ρ) := k_X4_plant (i := 2) (by decide) rc yr di lb ta en ow rs hr sz kd hd be t x
theorem k_X3_plantTree (told len att : Int32) (nums : Nat → Int32) (F Hd Br : Int64) (li wi : Int32) (lo : Nat → Int32) (rc yr : Int32) (di lb ta en : Int64) (ow : Nat → Int32) (rs : Nat → RV) {r : Nat} (hr : r < 3) (sz kd hd be : Int32) (t : Nat → Int32) (x : Int32) : Ctr l G 2 47 0 0 mX3_plantTree [.ref (B + 22), .ref (adR B 2 r), .int x] n (ren B (rdS C told len att k nums (F, Hd, Br, li, wi, lo) (rc, yr, di, lb, ta, en, ow, va_up rs r (sz, kd, hd, be, t))) ρ) (some (.int (zB (ptC F Hd li wi ta sz t x)))) n (ren B (rdS C told len att k nums (F, Hd, Br, li, wi, lo) (rc, yr, di, lb, (if ptC F Hd li wi ta sz t x = true then (ta ||| bitC x) else ta), en, ow, va_up rs r ((if ptC F Hd li wi ta sz t x = true then (plantF sz t x).1 else sz), kd, hd, be, (if ptC F Hd li wi ta sz t x = true then (plantF sz t x).2 else t)))) ρ) := by
  refine Ctr.of (by decide +kernel) rfl (fun X g E => ?_)
  refine v_sub (ls' := [(0, .ref (B + 22)), (1, .ref (adR B 2 r)), (2, .int x)]) [0, 1, 2] rfl ?_
  refine v_aload_n g dX3_plantTree_0 0 rfl ?_
  refine v_get g dX3_plantTree_1 fl_RX3_12 (fr_Re B _ _ _ _ _ _ _ _ _) rfl ?_
  refine v_get g dX3_plantTree_4 fl_RX3_82 (fr_L B _ _ _ _ _ _ _ _ _ _ _ _ _ _) rfl ?_
  refine v_aload_n g dX3_plantTree_7 0 rfl ?_
  refine v_get g dX3_plantTree_8 fl_RX3_12 (fr_Re B _ _ _ _ _ _ _ _ _) rfl ?_
  refine v_get g dX3_plantTree_11 fl_RX3_90 (fr_L B _ _ _ _ _ _ _ _ _ _ _ _ _ _) rfl ?_
  refine v_lor g dX3_plantTree_14 ?_
  refine v_aload_n g dX3_plantTree_15 0 rfl ?_
  refine v_get g dX3_plantTree_16 fl_RX3_23 (fr_Re B _ _ _ _ _ _ _ _ _) rfl ?_
  refine v_get g dX3_plantTree_19 fl_RX3_138 (fr_O B _ _ _ _ _ _ _ _ _ _ _ _ _ _ _ _) rfl ?_
  refine v_ldc2 (v := (-1)) g dX3_plantTree_22 kl_RX3_141 ?_
  refine v_lxor g dX3_plantTree_25 ?_
  refine v_land g dX3_plantTree_26 ?_
  refine v_iload_n g dX3_plantTree_27 2 rfl ?_
  refine v_callSN (As := [.long ((F ||| Hd) &&& (ta ^^^ (-1))), .int x]) (r := some (.int (zB (ctn ((F ||| Hd) &&& (ta ^^^ (-1))) x)))) g dX3_plantTree_28 (k_X5_contains ((F ||| Hd) &&& (ta ^^^ (-1))) x) cl_X5_contains nl_RX3_143 sm_X5_contains rfl ⟨rfl, rfl, rfl⟩ ?_
  refine v_if_ne (tgt := 36) g dX3_plantTree_31 (by decide) (fun h31 => ?_) (fun h31 => ?_)
  · skip
    have h31 := zB_t0 h31
    refine v_aload_n g dX3_plantTree_36 1 rfl ?_
    refine v_get g dX3_plantTree_37 fl_RX3_120 (fr_Rf B _ _ _ _ _ _ _ _ _ _ _ _ _ _ _ _ hr _ _ _ _ _) rfl ?_
    refine v_if_le (tgt := 69) g dX3_plantTree_40 (by decide) (fun h40 => ?_) (fun h40 => ?_)
    · skip
      refine v_aload_n g dX3_plantTree_69 1 rfl ?_
      refine v_iload_n g dX3_plantTree_70 2 rfl ?_
      refine v_callV (As := [.int x]) (r := none) g dX3_plantTree_71 (k_plantR told len att nums (F, Hd, Br, li, wi, lo) rc yr di lb ta en ow rs hr sz kd hd be t x) cl_X4_plant ml_RX3_155 im_X4_plant (fr_Rf B _ _ _ _ _ _ _ _ _ _ _ _ _ _ _ _ hr _ _ _ _ _) rfl rfl ⟨rfl, rfl, rfl⟩ ?_
      refine v_aload_n g dX3_plantTree_74 0 rfl ?_
      refine v_get g dX3_plantTree_75 fl_RX3_23 (fr_Re B _ _ _ _ _ _ _ _ _) rfl ?_
      refine v_dup g dX3_plantTree_78 rfl ?_
      refine v_get g dX3_plantTree_79 fl_RX3_138 (fr_O B _ _ _ _ _ _ _ _ _ _ _ _ _ _ _ _) rfl ?_
      refine v_iload_n g dX3_plantTree_82 2 rfl ?_
      refine v_callSN (As := [.int x]) (r := some (.long (bitC x))) g dX3_plantTree_83 (k_X5_bit x) cl_X5_bit nl_RX3_86 sm_X5_bit rfl ⟨rfl, rfl, rfl⟩ ?_
      refine v_lor g dX3_plantTree_86 ?_
      refine v_put g dX3_plantTree_87 fl_RX3_138 (fr_O B _ _ _ _ _ _ _ _ _ _ _ _ _ _ _ _) ⟨rfl, rfl⟩ rfl ?_
      refine v_meq (sr_O B _ _ _ _ _ _ _ _ _ _ _ _ _ _ _ _ rc yr di lb (ta ||| bitC x) en) ?_
      refine v_iconst (v := 1) g dX3_plantTree_90 (by decide) ?_
      exact v_zret g E dX3_plantTree_91 rfl rfl ⟨by simp only [ptC, zB, *, ↓reduceIte, Bool.true_eq_false, Bool.false_eq_true], rfl, by simp only [ptC, *, ↓reduceIte, Bool.true_eq_false, Bool.false_eq_true]⟩
    · skip
      refine v_aload_n g dX3_plantTree_43 0 rfl ?_
      refine v_get g dX3_plantTree_44 fl_RX3_12 (fr_Re B _ _ _ _ _ _ _ _ _) rfl ?_
      refine v_iload_n g dX3_plantTree_47 2 rfl ?_
      refine v_aload_n g dX3_plantTree_48 1 rfl ?_
      refine v_aload_n g dX3_plantTree_49 1 rfl ?_
      refine v_get g dX3_plantTree_50 fl_RX3_120 (fr_Rf B _ _ _ _ _ _ _ _ _ _ _ _ _ _ _ _ hr _ _ _ _ _) rfl ?_
      refine v_iconst (v := 1) g dX3_plantTree_53 (by decide) ?_
      refine v_isub g dX3_plantTree_54 ?_
      refine v_callV (As := [.int (sz - 1)]) (r := some (.int (treeAtC sz t (sz - 1)))) g dX3_plantTree_55 (k_X4_treeAt (fr_Rf B _ _ _ _ _ _ _ _ _ _ _ _ _ _ _ _ hr _ _ _ _ _) (fr_Tf B _ _ _ _ _ _ _ _ _ _ _ _ _ _ _ _ hr _ _ _ _ _) (sz - 1)) cl_X4_treeAt ml_RX3_147 im_X4_treeAt (fr_Rf B _ _ _ _ _ _ _ _ _ _ _ _ _ _ _ _ hr _ _ _ _ _) rfl rfl ⟨rfl, rfl, rfl⟩ ?_
      refine v_callSN (As := [.int (treeAtC sz t (sz - 1))]) (r := some (.long (bitC (treeAtC sz t (sz - 1))))) g dX3_plantTree_58 (k_X5_bit (treeAtC sz t (sz - 1))) cl_X5_bit nl_RX3_86 sm_X5_bit rfl ⟨rfl, rfl, rfl⟩ ?_
      refine v_callV (As := [.int x, .long (bitC (treeAtC sz t (sz - 1)))]) (r := some (.int (zB (besC li wi x (bitC (treeAtC sz t (sz - 1))))))) g dX3_plantTree_61 (k_X0_isBesideOne (fr_L B _ _ _ _ _ _ _ _ _ _ _ _ _ _) x (bitC (treeAtC sz t (sz - 1)))) cl_X0_isBesideOne ml_RX3_151 im_X0_isBesideOne (fr_L B _ _ _ _ _ _ _ _ _ _ _ _ _ _) rfl rfl ⟨rfl, rfl, rfl⟩ ?_
      refine v_if_ne (tgt := 69) g dX3_plantTree_64 (by decide) (fun h64 => ?_) (fun h64 => ?_)
      · skip
        have h64 := zB_t0 h64
        refine v_aload_n g dX3_plantTree_69 1 rfl ?_
        refine v_iload_n g dX3_plantTree_70 2 rfl ?_
        refine v_callV (As := [.int x]) (r := none) g dX3_plantTree_71 (k_plantR told len att nums (F, Hd, Br, li, wi, lo) rc yr di lb ta en ow rs hr sz kd hd be t x) cl_X4_plant ml_RX3_155 im_X4_plant (fr_Rf B _ _ _ _ _ _ _ _ _ _ _ _ _ _ _ _ hr _ _ _ _ _) rfl rfl ⟨rfl, rfl, rfl⟩ ?_
        refine v_aload_n g dX3_plantTree_74 0 rfl ?_
        refine v_get g dX3_plantTree_75 fl_RX3_23 (fr_Re B _ _ _ _ _ _ _ _ _) rfl ?_
        refine v_dup g dX3_plantTree_78 rfl ?_
        refine v_get g dX3_plantTree_79 fl_RX3_138 (fr_O B _ _ _ _ _ _ _ _ _ _ _ _ _ _ _ _) rfl ?_
        refine v_iload_n g dX3_plantTree_82 2 rfl ?_
        refine v_callSN (As := [.int x]) (r := some (.long (bitC x))) g dX3_plantTree_83 (k_X5_bit x) cl_X5_bit nl_RX3_86 sm_X5_bit rfl ⟨rfl, rfl, rfl⟩ ?_
        refine v_lor g dX3_plantTree_86 ?_
        refine v_put g dX3_plantTree_87 fl_RX3_138 (fr_O B _ _ _ _ _ _ _ _ _ _ _ _ _ _ _ _) ⟨rfl, rfl⟩ rfl ?_
        refine v_meq (sr_O B _ _ _ _ _ _ _ _ _ _ _ _ _ _ _ _ rc yr di lb (ta ||| bitC x) en) ?_
        refine v_iconst (v := 1) g dX3_plantTree_90 (by decide) ?_
        exact v_zret g E dX3_plantTree_91 rfl rfl ⟨by simp only [ptC, zB, *, ↓reduceIte, Bool.true_eq_false, Bool.false_eq_true], rfl, by simp only [ptC, *, ↓reduceIte, Bool.true_eq_false, Bool.false_eq_true]⟩
      · skip
        have h64 := zB_f0 h64
        refine v_iconst (v := 0) g dX3_plantTree_67 (by decide) ?_
        exact v_zret g E dX3_plantTree_68 rfl rfl ⟨by simp only [ptC, zB, *, ↓reduceIte, Bool.true_eq_false, Bool.false_eq_true], rfl, by simp only [ptC, *, ↓reduceIte, Bool.true_eq_false, Bool.false_eq_true]⟩
  · skip
    have h31 := zB_f0 h31
    refine v_iconst (v := 0) g dX3_plantTree_34 (by decide) ?_
    exact v_zret g E dX3_plantTree_35 rfl rfl ⟨by simp only [ptC, zB, *, ↓reduceIte, Bool.true_eq_false, Bool.false_eq_true], rfl, by simp only [ptC, *, ↓reduceIte, Bool.true_eq_false, Bool.false_eq_true]⟩
theorem k_X3_plantRow (told len att : Int32) (nums : Nat → Int32) (F Hd Br : Int64) (li wi : Int32) (lo : Nat → Int32) (rc yr : Int32) (di lb ta en : Int64) (ow : Nat → Int32) (rs : Nat → RV) : Ctr l G 3 69 0 0 mX3_plantRow [.ref (B + 22)] n (ren B (rdS C told len att k nums (F, Hd, Br, li, wi, lo) (rc, yr, di, lb, ta, en, ow, rs)) ρ) (some (.int (zB (plRow told nums (F, Hd, Br, li, wi, lo) (rc, yr, di, lb, ta, en, ow, rs)).1))) n (ren B (rdS C told len att k nums (F, Hd, Br, li, wi, lo) ((plRow told nums (F, Hd, Br, li, wi, lo) (rc, yr, di, lb, ta, en, ow, rs)).2)) ρ) := by
  refine Ctr.of (by decide +kernel) rfl (fun X g E => ?_)
  have loop : ∀ (r : Nat) (hr : r < 3), rc = nI r → ∀ (q i : Nat) (ta1 : Int64) (s1 : Int32) (t1 : Nat → Int32), i + q = 7 → plRow told nums (F, Hd, Br, li, wi, lo) (rc, yr, di, lb, ta, en, ow, rs) = prPut nums (nI r, yr, di, lb, ta, en, ow, rs) r (prFrom F Hd li wi told nums q i ta1 s1 t1) → V X 0 0 n (ren B (rdS C told len att k nums (F, Hd, Br, li, wi, lo) ((nI r), yr, di, lb, ta1, en, ow, va_up rs r (s1, (nums 0), (nums 1), (nums 2), t1))) ρ) 115 [(2, .int (nI i)), (1, .ref (adR B 2 r)), (0, .ref (B + 22))] [] := by
    intro r hr er q
    induction q with
    | zero =>
      intro i ta1 s1 t1 hq he
      refine v_iload_n g dX3_plantRow_115 0 rfl ?_
      refine v_aload_n g dX3_plantRow_116 2 rfl ?_
      refine v_get g dX3_plantRow_117 fl_RX3_96 (fr_Re B _ _ _ _ _ _ _ _ _) rfl ?_
      refine v_icmp_ge (tgt := 151) g dX3_plantRow_120 (by decide) (fun h120 => ?_) (fun h120 => ?_)
      · skip
        refine v_aload_n g dX3_plantRow_151 2 rfl ?_
        refine v_get g dX3_plantRow_152 fl_RX3_23 (fr_Re B _ _ _ _ _ _ _ _ _) rfl ?_
        refine v_dup g dX3_plantRow_155 rfl ?_
        refine v_get g dX3_plantRow_156 fl_RX3_113 (fr_O B _ _ _ _ _ _ _ _ _ _ _ _ _ _ _ _) rfl ?_
        refine v_iconst (v := 1) g dX3_plantRow_159 (by decide) ?_
        refine v_iadd g dX3_plantRow_160 ?_
        refine v_put g dX3_plantRow_161 fl_RX3_113 (fr_O B _ _ _ _ _ _ _ _ _ _ _ _ _ _ _ _) ⟨rfl, rfl⟩ rfl ?_
        refine v_meq (sr_O B _ _ _ _ _ _ _ _ _ _ _ _ _ _ _ _ ((nI r) + 1) yr di lb ta1 en) ?_
        refine v_iconst (v := 1) g dX3_plantRow_164 (by decide) ?_
        exact v_zret g E dX3_plantRow_165 rfl rfl ⟨by rw [he]; simp [prFrom, prPut, zB, *], rfl, by rw [he]; simp [prFrom, prPut, *]⟩
      · skip
        refine v_iload_n g dX3_plantRow_123 0 rfl ?_
        refine v_bipush (v := 7) g dX3_plantRow_124 (by decide) ?_
        refine v_icmp_ge (tgt := 151) g dX3_plantRow_126 (by decide) (fun h126 => ?_) (fun h126 => absurd (nI_le (a := 7) (b := i) (by omega) (by omega)) h126)
        refine v_aload_n g dX3_plantRow_151 2 rfl ?_
        refine v_get g dX3_plantRow_152 fl_RX3_23 (fr_Re B _ _ _ _ _ _ _ _ _) rfl ?_
        refine v_dup g dX3_plantRow_155 rfl ?_
        refine v_get g dX3_plantRow_156 fl_RX3_113 (fr_O B _ _ _ _ _ _ _ _ _ _ _ _ _ _ _ _) rfl ?_
        refine v_iconst (v := 1) g dX3_plantRow_159 (by decide) ?_
        refine v_iadd g dX3_plantRow_160 ?_
        refine v_put g dX3_plantRow_161 fl_RX3_113 (fr_O B _ _ _ _ _ _ _ _ _ _ _ _ _ _ _ _) ⟨rfl, rfl⟩ rfl ?_
        refine v_meq (sr_O B _ _ _ _ _ _ _ _ _ _ _ _ _ _ _ _ ((nI r) + 1) yr di lb ta1 en) ?_
        refine v_iconst (v := 1) g dX3_plantRow_164 (by decide) ?_
        exact v_zret g E dX3_plantRow_165 rfl rfl ⟨by rw [he]; simp [prFrom, prPut, zB, *], rfl, by rw [he]; simp [prFrom, prPut, *]⟩
    | succ q ih =>
      intro i ta1 s1 t1 hq he
      refine v_iload_n g dX3_plantRow_115 0 rfl ?_
      refine v_aload_n g dX3_plantRow_116 2 rfl ?_
      refine v_get g dX3_plantRow_117 fl_RX3_96 (fr_Re B _ _ _ _ _ _ _ _ _) rfl ?_
      refine v_icmp_ge (tgt := 151) g dX3_plantRow_120 (by decide) (fun h120 => ?_) (fun h120 => ?_)
      · skip
        refine v_aload_n g dX3_plantRow_151 2 rfl ?_
        refine v_get g dX3_plantRow_152 fl_RX3_23 (fr_Re B _ _ _ _ _ _ _ _ _) rfl ?_
        refine v_dup g dX3_plantRow_155 rfl ?_
        refine v_get g dX3_plantRow_156 fl_RX3_113 (fr_O B _ _ _ _ _ _ _ _ _ _ _ _ _ _ _ _) rfl ?_
        refine v_iconst (v := 1) g dX3_plantRow_159 (by decide) ?_
        refine v_iadd g dX3_plantRow_160 ?_
        refine v_put g dX3_plantRow_161 fl_RX3_113 (fr_O B _ _ _ _ _ _ _ _ _ _ _ _ _ _ _ _) ⟨rfl, rfl⟩ rfl ?_
        refine v_meq (sr_O B _ _ _ _ _ _ _ _ _ _ _ _ _ _ _ _ ((nI r) + 1) yr di lb ta1 en) ?_
        refine v_iconst (v := 1) g dX3_plantRow_164 (by decide) ?_
        exact v_zret g E dX3_plantRow_165 rfl rfl ⟨by rw [he]; simp [prFrom, prPut, zB, *], rfl, by rw [he]; simp [prFrom, prPut, *]⟩
      · skip
        refine v_iload_n g dX3_plantRow_123 0 rfl ?_
        refine v_bipush (v := 7) g dX3_plantRow_124 (by decide) ?_
        refine v_icmp_ge (tgt := 151) g dX3_plantRow_126 (by decide) (fun h126 => absurd h126 (nI_ge (a := i) (b := 7) (by omega) (by decide))) (fun h126 => ?_)
        refine v_aload_n g dX3_plantRow_129 2 rfl ?_
        refine v_aload_n g dX3_plantRow_130 1 rfl ?_
        refine v_aload_n g dX3_plantRow_131 2 rfl ?_
        refine v_get g dX3_plantRow_132 fl_RX3_27 (fr_Re B _ _ _ _ _ _ _ _ _) rfl ?_
        refine v_iload_n g dX3_plantRow_135 0 rfl ?_
        refine v_iald g dX3_plantRow_136 (fr_N B _ _ _ _ _ _ _ _ _) (vp_in_nI (by omega) (by decide)) (v_eqi (y := (nums i)) (by rw [nI_clamp (by omega)]) ?_)
        refine v_callV (As := [.ref (adR B 2 r), .int (nums i)]) (r := some (.int (zB (ptC F Hd li wi ta1 s1 t1 (nums i))))) g dX3_plantRow_137 (k_X3_plantTree told len att nums F Hd Br li wi lo (nI r) yr di lb ta1 en ow rs hr s1 (nums 0) (nums 1) (nums 2) t1 (nums i)) cl_X3_plantTree ml_RX3_134 im_X3_plantTree (fr_Re B _ _ _ _ _ _ _ _ _) rfl rfl ⟨rfl, rfl, rfl⟩ ?_
        refine v_if_ne (tgt := 145) g dX3_plantRow_140 (by decide) (fun h140 => ?_) (fun h140 => ?_)
        · skip
          have h140 := zB_t0 h140
          refine v_iinc (v := nI (i + 1)) (ls' := [(2, .int (nI (i + 1))), (1, .ref (adR B 2 r)), (0, .ref (B + 22))]) g dX3_plantRow_145 0 rfl (nI_1 i) rfl rfl ?_
          refine v_goto (tgt := 115) g dX3_plantRow_148 (by decide) ?_
          refine v_sub (ls' := [(2, .int (nI (i + 1))), (1, .ref (adR B 2 r)), (0, .ref (B + 22))]) [0, 1, 2] rfl ?_
          simp only [h140, ↓reduceIte]
          exact ih (i + 1) _ _ _ (by omega) (by rw [he, prFrom, if_neg h120, if_pos h140])
        · skip
          have h140 := zB_f0 h140
          refine v_iconst (v := 0) g dX3_plantRow_143 (by decide) ?_
          exact v_zret g E dX3_plantRow_144 rfl rfl ⟨by rw [he]; simp [prFrom, prPut, zB, *], rfl, by rw [he]; simp [prFrom, prPut, *]⟩
  refine v_sub (ls' := [(0, .ref (B + 22))]) [0] rfl ?_
  refine v_aload_n g dX3_plantRow_0 0 rfl ?_
  refine v_get g dX3_plantRow_1 fl_RX3_96 (fr_Re B _ _ _ _ _ _ _ _ _) rfl ?_
  refine v_iconst (v := 4) g dX3_plantRow_4 (by decide) ?_
  refine v_icmp_lt (tgt := 60) g dX3_plantRow_5 (by decide) (fun h5 => ?_) (fun h5 => ?_)
  · skip
    refine v_iconst (v := 0) g dX3_plantRow_60 (by decide) ?_
    exact v_zret g E dX3_plantRow_61 rfl rfl ⟨by simp [plRow, prOk, zB, *], rfl, by simp [plRow, prOk, *]⟩
  · skip
    refine v_aload_n g dX3_plantRow_8 0 rfl ?_
    refine v_get g dX3_plantRow_9 fl_RX3_23 (fr_Re B _ _ _ _ _ _ _ _ _) rfl ?_
    refine v_get g dX3_plantRow_12 fl_RX3_113 (fr_O B _ _ _ _ _ _ _ _ _ _ _ _ _ _ _ _) rfl ?_
    refine v_if_lt (tgt := 60) g dX3_plantRow_15 (by decide) (fun h15 => ?_) (fun h15 => ?_)
    · skip
      refine v_iconst (v := 0) g dX3_plantRow_60 (by decide) ?_
      exact v_zret g E dX3_plantRow_61 rfl rfl ⟨by simp [plRow, prOk, zB, *], rfl, by simp [plRow, prOk, *]⟩
    · skip
      refine v_aload_n g dX3_plantRow_18 0 rfl ?_
      refine v_get g dX3_plantRow_19 fl_RX3_23 (fr_Re B _ _ _ _ _ _ _ _ _) rfl ?_
      refine v_get g dX3_plantRow_22 fl_RX3_113 (fr_O B _ _ _ _ _ _ _ _ _ _ _ _ _ _ _ _) rfl ?_
      refine v_iconst (v := 3) g dX3_plantRow_25 (by decide) ?_
      refine v_icmp_ge (tgt := 60) g dX3_plantRow_26 (by decide) (fun h26 => ?_) (fun h26 => ?_)
      · skip
        refine v_iconst (v := 0) g dX3_plantRow_60 (by decide) ?_
        exact v_zret g E dX3_plantRow_61 rfl rfl ⟨by simp [plRow, prOk, zB, *], rfl, by simp [plRow, prOk, *]⟩
      · skip
        refine v_aload_n g dX3_plantRow_29 0 rfl ?_
        refine v_get g dX3_plantRow_30 fl_RX3_27 (fr_Re B _ _ _ _ _ _ _ _ _) rfl ?_
        refine v_iconst (v := 0) g dX3_plantRow_33 (by decide) ?_
        refine v_iald g dX3_plantRow_34 (fr_N B _ _ _ _ _ _ _ _ _) (by unfold vp_in; decide) (v_eqi (y := (nums 0)) rfl ?_)
        refine v_iconst (v := 4) g dX3_plantRow_35 (by decide) ?_
        refine v_icmp_ge (tgt := 60) g dX3_plantRow_36 (by decide) (fun h36 => ?_) (fun h36 => ?_)
        · skip
          refine v_iconst (v := 0) g dX3_plantRow_60 (by decide) ?_
          exact v_zret g E dX3_plantRow_61 rfl rfl ⟨by simp [plRow, prOk, zB, *], rfl, by simp [plRow, prOk, *]⟩
        · skip
          refine v_aload_n g dX3_plantRow_39 0 rfl ?_
          refine v_get g dX3_plantRow_40 fl_RX3_27 (fr_Re B _ _ _ _ _ _ _ _ _) rfl ?_
          refine v_iconst (v := 1) g dX3_plantRow_43 (by decide) ?_
          refine v_iald g dX3_plantRow_44 (fr_N B _ _ _ _ _ _ _ _ _) (by unfold vp_in; decide) (v_eqi (y := (nums 1)) rfl ?_)
          refine v_iconst (v := 4) g dX3_plantRow_45 (by decide) ?_
          refine v_icmp_ge (tgt := 60) g dX3_plantRow_46 (by decide) (fun h46 => ?_) (fun h46 => ?_)
          · skip
            refine v_iconst (v := 0) g dX3_plantRow_60 (by decide) ?_
            exact v_zret g E dX3_plantRow_61 rfl rfl ⟨by simp [plRow, prOk, zB, *], rfl, by simp [plRow, prOk, *]⟩
          · skip
            refine v_aload_n g dX3_plantRow_49 0 rfl ?_
            refine v_get g dX3_plantRow_50 fl_RX3_27 (fr_Re B _ _ _ _ _ _ _ _ _) rfl ?_
            refine v_iconst (v := 2) g dX3_plantRow_53 (by decide) ?_
            refine v_iald g dX3_plantRow_54 (fr_N B _ _ _ _ _ _ _ _ _) (by unfold vp_in; decide) (v_eqi (y := (nums 2)) rfl ?_)
            refine v_bipush (v := 9) g dX3_plantRow_55 (by decide) ?_
            refine v_icmp_le (tgt := 62) g dX3_plantRow_57 (by decide) (fun h57 => ?_) (fun h57 => ?_)
            · skip
              have eo : prOk told nums rc = true := by simp [prOk, *]
              obtain ⟨r, hr, er⟩ := vp_in_of (vin_c (N := 3) (m := 3) rfl h15 h26) (by decide)
              have hrt : rc.toNatClampNeg = r := by rw [er, nI_clamp (by omega)]
              rcases hq : rs r with ⟨sz, kd, hd, be, t⟩
              have hrs : va_up rs r (sz, kd, hd, be, t) = rs := by rw [← hq, va_up_id]
              refine v_meq (μ' := ren B (rdS C told len att k nums (F, Hd, Br, li, wi, lo) ((nI r), yr, di, lb, ta, en, ow, va_up rs r (sz, kd, hd, be, t))) ρ) (by rw [hrs, er]) ?_
              refine v_aload_n g dX3_plantRow_62 0 rfl ?_
              refine v_get g dX3_plantRow_63 fl_RX3_23 (fr_Re B _ _ _ _ _ _ _ _ _) rfl ?_
              refine v_get g dX3_plantRow_66 fl_RX3_116 (fr_O B _ _ _ _ _ _ _ _ _ _ _ _ _ _ _ _) rfl ?_
              refine v_aload_n g dX3_plantRow_69 0 rfl ?_
              refine v_get g dX3_plantRow_70 fl_RX3_23 (fr_Re B _ _ _ _ _ _ _ _ _) rfl ?_
              refine v_get g dX3_plantRow_73 fl_RX3_113 (fr_O B _ _ _ _ _ _ _ _ _ _ _ _ _ _ _ _) rfl ?_
              refine v_aaldR (v := .ref (adR B 2 r)) g dX3_plantRow_76 (fr_Rs B _ _ _ _ _ _ _ _ _ _ _ _ _ _ _ _) (vp_in_nI (by omega) (by decide)) (by rw [nI_clamp (by omega)]; rfl) ?_
              refine v_astore_n (ls' := [(1, .ref (adR B 2 r)), (0, .ref (B + 22))]) g dX3_plantRow_77 rfl rfl ?_
              refine v_aload_n g dX3_plantRow_78 0 rfl ?_
              refine v_iconst (v := 0) g dX3_plantRow_79 (by decide) ?_
              refine v_put g dX3_plantRow_80 fl_RX3_120 (fr_Rf B _ _ _ _ _ _ _ _ _ _ _ _ _ _ _ _ hr _ _ _ _ _) ⟨rfl, rfl⟩ rfl ?_
              refine v_meq (sr_Rf B _ _ _ _ _ _ _ _ _ _ _ _ _ _ _ _ hr _ _ _ _ 0 kd hd be _) ?_
              refine v_aload_n g dX3_plantRow_83 0 rfl ?_
              refine v_aload_n g dX3_plantRow_84 1 rfl ?_
              refine v_get g dX3_plantRow_85 fl_RX3_27 (fr_Re B _ _ _ _ _ _ _ _ _) rfl ?_
              refine v_iconst (v := 0) g dX3_plantRow_88 (by decide) ?_
              refine v_iald g dX3_plantRow_89 (fr_N B _ _ _ _ _ _ _ _ _) (by unfold vp_in; decide) (v_eqi (y := (nums 0)) rfl ?_)
              refine v_put g dX3_plantRow_90 fl_RX3_125 (fr_Rf B _ _ _ _ _ _ _ _ _ _ _ _ _ _ _ _ hr _ _ _ _ _) ⟨rfl, rfl⟩ rfl ?_
              refine v_meq (sr_Rf B _ _ _ _ _ _ _ _ _ _ _ _ _ _ _ _ hr _ _ _ _ 0 (nums 0) hd be _) ?_
              refine v_aload_n g dX3_plantRow_93 0 rfl ?_
              refine v_aload_n g dX3_plantRow_94 1 rfl ?_
              refine v_get g dX3_plantRow_95 fl_RX3_27 (fr_Re B _ _ _ _ _ _ _ _ _) rfl ?_
              refine v_iconst (v := 1) g dX3_plantRow_98 (by decide) ?_
              refine v_iald g dX3_plantRow_99 (fr_N B _ _ _ _ _ _ _ _ _) (by unfold vp_in; decide) (v_eqi (y := (nums 1)) rfl ?_)
              refine v_put g dX3_plantRow_100 fl_RX3_128 (fr_Rf B _ _ _ _ _ _ _ _ _ _ _ _ _ _ _ _ hr _ _ _ _ _) ⟨rfl, rfl⟩ rfl ?_
              refine v_meq (sr_Rf B _ _ _ _ _ _ _ _ _ _ _ _ _ _ _ _ hr _ _ _ _ 0 (nums 0) (nums 1) be _) ?_
              refine v_aload_n g dX3_plantRow_103 0 rfl ?_
              refine v_aload_n g dX3_plantRow_104 1 rfl ?_
              refine v_get g dX3_plantRow_105 fl_RX3_27 (fr_Re B _ _ _ _ _ _ _ _ _) rfl ?_
              refine v_iconst (v := 2) g dX3_plantRow_108 (by decide) ?_
              refine v_iald g dX3_plantRow_109 (fr_N B _ _ _ _ _ _ _ _ _) (by unfold vp_in; decide) (v_eqi (y := (nums 2)) rfl ?_)
              refine v_put g dX3_plantRow_110 fl_RX3_131 (fr_Rf B _ _ _ _ _ _ _ _ _ _ _ _ _ _ _ _ hr _ _ _ _ _) ⟨rfl, rfl⟩ rfl ?_
              refine v_meq (sr_Rf B _ _ _ _ _ _ _ _ _ _ _ _ _ _ _ _ hr _ _ _ _ 0 (nums 0) (nums 1) (nums 2) _) ?_
              refine v_iconst (v := 3) g dX3_plantRow_113 (by decide) ?_
              refine v_istore_n (ls' := [(2, .int 3), (1, .ref (adR B 2 r)), (0, .ref (B + 22))]) g dX3_plantRow_114 rfl rfl ?_
              refine v_sub (ls' := [(2, .int 3), (1, .ref (adR B 2 r)), (0, .ref (B + 22))]) [0, 1, 2] rfl ?_
              exact loop r hr er 4 3 ta 0 t rfl (by simp only [plRow, eo, hrt, hq, ↓reduceIte]; rw [er])
            · skip
              refine v_iconst (v := 0) g dX3_plantRow_60 (by decide) ?_
              exact v_zret g E dX3_plantRow_61 rfl rfl ⟨by simp [plRow, prOk, zB, *], rfl, by simp [plRow, prOk, *]⟩
theorem k_plRow (told len att : Int32) (nums : Nat → Int32) (L : LV) (O : OV) : Ctr l G 3 69 0 0 mX3_plantRow [.ref (B + 22)] n (ren B (rdS C told len att k nums L O) ρ) (some (.int (zB (plRow told nums L O).1))) n (ren B (rdS C told len att k nums L (plRow told nums L O).2) ρ) := k_X3_plantRow told len att nums L.1 L.2.1 L.2.2.1 L.2.2.2.1 L.2.2.2.2.1 L.2.2.2.2.2 O.1 O.2.1 O.2.2.1 O.2.2.2.1 O.2.2.2.2.1 O.2.2.2.2.2.1 O.2.2.2.2.2.2.1 O.2.2.2.2.2.2.2
theorem k_giveCs (told len att : Int32) (nums : Nat → Int32) (L : LV) (O : OV) : Ctr l G 1 21 0 0 mX3_giveCells [.ref (B + 22)] n (ren B (rdS C told len att k nums L O) ρ) (some (.int (zB (giveCs told nums L).1))) n (ren B (rdS C told len att k nums (giveCs told nums L).2 O) ρ) := k_X3_giveCells told len att nums L.1 L.2.1 L.2.2.1 L.2.2.2.1 L.2.2.2.2.1 L.2.2.2.2.2 O
theorem k_X3_readItem (hk : k = 0 ∨ k = 6) {le : Nat → Int32} (hle : cA C k = le) (hch : ∀ q, narrow .char (.int (le q)) = .int (le q)) (told len att : Int32) (nums : Nat → Int32) (L : LV) (O : OV) : Ctr l G 4 91 0 0 mX3_readItem [.ref (B + 22)] n (ren B (rdS C told len att k nums L O) ρ) (some (.int (zB (rdItem (aLen k) le len (told, att, nums, L, O)).1))) n (ren B (rdS1 C len k (rdItem (aLen k) le len (told, att, nums, L, O)).2) ρ) := by
  refine Ctr.of (by decide +kernel) rfl (fun X g E => ?_)
  refine v_sub (ls' := [(0, .ref (B + 22))]) [0] rfl ?_
  refine v_aload_n g dX3_readItem_0 0 rfl ?_
  refine v_callV (As := []) (r := some (.int (nlV (aLen k) le len att))) g dX3_readItem_1 (k_X3_nextLetter hk hle hch told len att nums L O) cl_X3_nextLetter ml_RX3_56 im_X3_nextLetter (fr_Re B _ _ _ _ _ _ _ _ _) rfl rfl ⟨rfl, rfl, rfl⟩ ?_
  by_cases h4_108 : nlV (aLen k) le len att = 108
  · skip
    refine v_lookup (tgt := 40) (off := 36) g dX3_readItem_4 rfl (by rw [h4_108]; rfl) (by decide) ?_
    refine v_aload_n g dX3_readItem_40 0 rfl ?_
    refine v_callV (As := []) (r := some (.int (zB (rdLine (aLen k) le len (nlA (aLen k) len att) L).1))) g dX3_readItem_41 (k_X3_readLine hk hle hch told len (nlA (aLen k) len att) nums L O) cl_X3_readLine ml_RX3_60 im_X3_readLine (fr_Re B _ _ _ _ _ _ _ _ _) rfl rfl ⟨rfl, rfl, rfl⟩ ?_
    exact v_zret g E dX3_readItem_44 rfl (zB_nar _) ⟨by simp [rdItem, zB, *], rfl, by simp [rdItem, rdS1, *]⟩
  by_cases h4_111 : nlV (aLen k) le len att = 111
  · skip
    refine v_lookup (tgt := 45) (off := 41) g dX3_readItem_4 rfl (by rw [h4_111]; rfl) (by decide) ?_
    refine v_aload_n g dX3_readItem_45 0 rfl ?_
    refine v_callV (As := []) (r := some (.int (zB (rdNums (aLen k) le len (nlA (aLen k) len att) nums).1))) g dX3_readItem_46 (k_X3_readNumbers hk hle hch told len (nlA (aLen k) len att) nums L O) cl_X3_readNumbers ml_RX3_63 im_X3_readNumbers (fr_Re B _ _ _ _ _ _ _ _ _) rfl rfl ⟨rfl, rfl, rfl⟩ ?_
    refine v_if_eq (tgt := 63) g dX3_readItem_49 (by decide) (fun h49 => ?_) (fun h49 => ?_)
    · skip
      have h49 := zB_f0 h49
      refine v_iconst (v := 0) g dX3_readItem_63 (by decide) ?_
      exact v_zret g E dX3_readItem_64 rfl rfl ⟨by simp [rdItem, zB, *], rfl, by simp [rdItem, rdS1, *]⟩
    · skip
      have h49 := zB_t0 h49
      refine v_aload_n g dX3_readItem_52 0 rfl ?_
      refine v_callV (As := []) (r := some (.int (zB (giveCs ((rdNums (aLen k) le len (nlA (aLen k) len att) nums).2.1) ((rdNums (aLen k) le len (nlA (aLen k) len att) nums).2.2.2) L).1))) g dX3_readItem_53 (k_giveCs ((rdNums (aLen k) le len (nlA (aLen k) len att) nums).2.1) len ((rdNums (aLen k) le len (nlA (aLen k) len att) nums).2.2.1) ((rdNums (aLen k) le len (nlA (aLen k) len att) nums).2.2.2) L O) cl_X3_giveCells ml_RX3_66 im_X3_giveCells (fr_Re B _ _ _ _ _ _ _ _ _) rfl rfl ⟨rfl, rfl, rfl⟩ ?_
      refine v_if_eq (tgt := 63) g dX3_readItem_56 (by decide) (fun h56 => ?_) (fun h56 => ?_)
      · skip
        have h56 := zB_f0 h56
        refine v_iconst (v := 0) g dX3_readItem_63 (by decide) ?_
        exact v_zret g E dX3_readItem_64 rfl rfl ⟨by simp [rdItem, zB, *], rfl, by simp [rdItem, rdS1, *]⟩
      · skip
        have h56 := zB_t0 h56
        refine v_iconst (v := 1) g dX3_readItem_59 (by decide) ?_
        refine v_goto (tgt := 64) g dX3_readItem_60 (by decide) ?_
        exact v_zret g E dX3_readItem_64 rfl rfl ⟨by simp [rdItem, zB, *], rfl, by simp [rdItem, rdS1, *]⟩
  by_cases h4_116 : nlV (aLen k) le len att = 116
  · skip
    refine v_lookup (tgt := 65) (off := 61) g dX3_readItem_4 rfl (by rw [h4_116]; rfl) (by decide) ?_
    refine v_aload_n g dX3_readItem_65 0 rfl ?_
    refine v_callV (As := []) (r := some (.int (zB (rdNums (aLen k) le len (nlA (aLen k) len att) nums).1))) g dX3_readItem_66 (k_X3_readNumbers hk hle hch told len (nlA (aLen k) len att) nums L O) cl_X3_readNumbers ml_RX3_63 im_X3_readNumbers (fr_Re B _ _ _ _ _ _ _ _ _) rfl rfl ⟨rfl, rfl, rfl⟩ ?_
    refine v_if_eq (tgt := 83) g dX3_readItem_69 (by decide) (fun h69 => ?_) (fun h69 => ?_)
    · skip
      have h69 := zB_f0 h69
      refine v_iconst (v := 0) g dX3_readItem_83 (by decide) ?_
      exact v_zret g E dX3_readItem_84 rfl rfl ⟨by simp [rdItem, zB, *], rfl, by simp [rdItem, rdS1, *]⟩
    · skip
      have h69 := zB_t0 h69
      refine v_aload_n g dX3_readItem_72 0 rfl ?_
      refine v_callV (As := []) (r := some (.int (zB (plRow ((rdNums (aLen k) le len (nlA (aLen k) len att) nums).2.1) ((rdNums (aLen k) le len (nlA (aLen k) len att) nums).2.2.2) L O).1))) g dX3_readItem_73 (k_plRow ((rdNums (aLen k) le len (nlA (aLen k) len att) nums).2.1) len ((rdNums (aLen k) le len (nlA (aLen k) len att) nums).2.2.1) ((rdNums (aLen k) le len (nlA (aLen k) len att) nums).2.2.2) L O) cl_X3_plantRow ml_RX3_69 im_X3_plantRow (fr_Re B _ _ _ _ _ _ _ _ _) rfl rfl ⟨rfl, rfl, rfl⟩ ?_
      refine v_if_eq (tgt := 83) g dX3_readItem_76 (by decide) (fun h76 => ?_) (fun h76 => ?_)
      · skip
        have h76 := zB_f0 h76
        refine v_iconst (v := 0) g dX3_readItem_83 (by decide) ?_
        exact v_zret g E dX3_readItem_84 rfl rfl ⟨by simp [rdItem, zB, *], rfl, by simp [rdItem, rdS1, *]⟩
      · skip
        have h76 := zB_t0 h76
        refine v_iconst (v := 1) g dX3_readItem_79 (by decide) ?_
        refine v_goto (tgt := 84) g dX3_readItem_80 (by decide) ?_
        exact v_zret g E dX3_readItem_84 rfl rfl ⟨by simp [rdItem, zB, *], rfl, by simp [rdItem, rdS1, *]⟩
  refine v_lookup (tgt := 85) (off := 81) g dX3_readItem_4 rfl (by show Op.lookupswitch.offset [(108, 36), (111, 41), (116, 61)] 81 _ = 81; rw [lv_osw (a := 108) h4_108 rfl, lv_osw (a := 111) h4_111 rfl, lv_osw (a := 116) h4_116 rfl]; rfl) (by decide) ?_
  refine v_iconst (v := 0) g dX3_readItem_85 (by decide) ?_
  exact v_zret g E dX3_readItem_86 rfl rfl ⟨by simp [rdItem, zB, *], rfl, by simp [rdItem, rdS1, *]⟩
end C6
/-- Math.min, by the kit's row -/
theorem v_mmin {X : CX} {l0 : Launch} {G0 : GG} {M : MD} {f w a b n : Nat} {μ : Mu} {pc : Nat} {ls : List (Nat × Value)} {st : List Value} {x y : Int32} {idx : Nat} (g : GX X l0 G0 M f w) (hd : decode M.2.1 pc = .ok (.invokestatic idx, 3)) (hl : Cond.methodLink M.1.cls idx yJ9_min_7cf53 ∈ TT) (hroom : Nat.ble 1 f = true ∧ Nat.ble ((st.map fun v => v.category).sum + 13) w = true)
    (k : V X a b n μ (pc + 3) ls (.int (if y < x then y else x) :: st)) : V X a b n μ pc ls (.int y :: .int x :: st) := by
  obtain ⟨p, l, e, R, s, m, args, below, meth, c, Z, G⟩ := X
  obtain ⟨rfl, rfl, hx, hb, hr, hml, hown, hts, hlk, hnm, hK, hB, hf, hw⟩ := g
  intro H locs cells slots L h1 h2 h3 h4 h5
  exact va_mmin hx hb (h5.1.symm) hown (hts _ hl) (hts _ sm_J9_min_7cf53) (hts _ ini_RJ9) (hts _ cl_J9_min_7cf53.1) (by rw [hf]; exact Nat.le_of_ble_eq_true hroom.1) (by rw [hw]; exact Nat.le_of_ble_eq_true hroom.2) (by omega) (by omega) hd (k H locs cells slots L h1 h2 h3 h4 h5)
section C6c
variable {l : Launch} {G : GG} {n : Nat} {B : Nat} {C : CS} {ρ : Mu} {k : Nat}
def rtRun (K : Nat) (le : Nat → Int32) (m : Int32) (C : CS) : Int32 × RS := rtFrom K le (minC m (nI K)) 200 ((cR C).1, 0, cA C 5, clrLand (cL C 1), clearOC (cO C 2))
theorem rdS_id (C : CS) : sO (sL (sA (sR C (cR C)) 5 (cA C 5)) 1 (cL C 1)) 2 (cO C 2) = C := by
  have h1 : sR C (cR C) = C := rfl
  rw [h1, sA_id, sL_id, sO_id]
theorem k_lcR (told len att : Int32) (nums : Nat → Int32) (L : LV) (O : OV) : Ctr l G 0 0 0 0 mX0_clear [.ref (adL B 1)] n (ren B (rdS C told len att k nums L O) ρ) none n (ren B (rdS C told len att k nums (clrLand L) O) ρ) := k_X0_clear (C := sO (sA (sR C (told, len, att, aB k)) 5 nums) 2 O) (i := 1) (by decide) L.1 L.2.1 L.2.2.1 L.2.2.2.1 L.2.2.2.2.1 L.2.2.2.2.2
theorem k_ocR (told len att : Int32) (nums : Nat → Int32) (L : LV) (O : OV) : Ctr l G 0 0 0 0 mX1_clear [.ref (adO B 2)] n (ren B (rdS C told len att k nums L O) ρ) none n (ren B (rdS C told len att k nums L (clearOC O)) ρ) := k_orClear (i := 2) (by decide) O
theorem sr_first (B : Nat) (C : CS) (ρ : Mu) (k : Nat) (told len att : Int32) (nums : Nat → Int32) (L : LV) (O : OV) (lt : Nat) : mset (ren B (sO (sL (sA (sR C (told, len, att, lt)) 5 nums) 1 L) 2 O) ρ) (B + 22) (.inr (3, [.ref (adL B 1), .ref (adO B 2), .ref (adA B 5), .int told, .ref (adA B k), .int len, .int att])) = ren B (rdS C told len att k nums L O) ρ := st_Re B (sO (sL (sA (sR C (told, len, att, lt)) 5 nums) 1 L) 2 O) ρ told len att (aB k)
theorem fr_first (B : Nat) (C : CS) (ρ : Mu) (told len att : Int32) (nums : Nat → Int32) (L : LV) (O : OV) (lt : Nat) : ren B (sO (sL (sA (sR C (told, len, att, lt)) 5 nums) 1 L) 2 O) ρ (B + 22) = some (.inr (3, [.ref (adL B 1), .ref (adO B 2), .ref (adA B 5), .int told, .ref (B + lt), .int len, .int att])) := by
  rw [rd_Re B _ ρ]; rfl
theorem k_X3_readText (hk : k = 0 ∨ k = 6) {le : Nat → Int32} (hle : cA C k = le) (hch : ∀ q, narrow .char (.int (le q)) = .int (le q)) (m told len att : Int32) (lt : Nat) (nums : Nat → Int32) (L : LV) (O : OV) : Ctr l G 5 111 0 0 mX3_readText [.ref (B + 22), .ref (adA B k), .int m] n (ren B (sO (sL (sA (sR C (told, len, att, lt)) 5 nums) 1 L) 2 O) ρ) (some (.int (rtFrom (aLen k) le (minC m (nI (aLen k))) 200 (told, 0, nums, clrLand L, clearOC O)).1)) n (ren B (rdS1 C (minC m (nI (aLen k))) k (rtFrom (aLen k) le (minC m (nI (aLen k))) 200 (told, 0, nums, clrLand L, clearOC O)).2) ρ) := by
  refine Ctr.of (by decide +kernel) rfl (fun X g E => ?_)
  have loop : ∀ (q j : Nat) (s : RS), j + q = 200 → rtFrom (aLen k) le (minC m (nI (aLen k))) 200 (told, 0, nums, clrLand L, clearOC O) = rtFrom (aLen k) le (minC m (nI (aLen k))) q s → V X 0 0 n (ren B (rdS1 C (minC m (nI (aLen k))) k s) ρ) 36 [(3, .int (nI j)), (0, .ref (B + 22)), (1, .ref (adA B k)), (2, .int m)] [] := by
    intro q
    induction q with
    | zero =>
      intro j s hq he
      obtain ⟨told, att, nums, L, O⟩ := s
      refine v_iload_n g dX3_readText_36 0 rfl ?_
      refine v_sipush (v := 200) g dX3_readText_37 (by decide) ?_
      refine v_icmp_ge (tgt := 76) g dX3_readText_40 (by decide) (fun h40 => ?_) (fun h40 => absurd (nI_le (a := 200) (b := j) (by omega) (by omega)) h40)
      refine v_bipush (v := (-4)) g dX3_readText_76 (by decide) ?_
      exact v_iret g E dX3_readText_78 rfl ⟨by rw [he]; simp [rtFrom, *], rfl, by rw [he]; simp [rtFrom, rdS1, *]⟩
    | succ q ih =>
      intro j s hq he
      obtain ⟨told, att, nums, L, O⟩ := s
      refine v_iload_n g dX3_readText_36 0 rfl ?_
      refine v_sipush (v := 200) g dX3_readText_37 (by decide) ?_
      refine v_icmp_ge (tgt := 76) g dX3_readText_40 (by decide) (fun h40 => absurd h40 (nI_ge (a := j) (b := 200) (by omega) (by decide))) (fun h40 => ?_)
      refine v_aload_n g dX3_readText_43 1 rfl ?_
      refine v_get g dX3_readText_44 fl_RX3_45 (fr_Re B _ _ _ _ _ _ _ _ _) rfl ?_
      refine v_aload_n g dX3_readText_47 1 rfl ?_
      refine v_get g dX3_readText_48 fl_RX3_41 (fr_Re B _ _ _ _ _ _ _ _ _) rfl ?_
      refine v_icmp_ge (tgt := 76) g dX3_readText_51 (by decide) (fun h51 => ?_) (fun h51 => ?_)
      · skip
        refine v_bipush (v := (-4)) g dX3_readText_76 (by decide) ?_
        exact v_iret g E dX3_readText_78 rfl ⟨by rw [he]; simp [rtFrom, *], rfl, by rw [he]; simp [rtFrom, rdS1, *]⟩
      · skip
        refine v_aload_n g dX3_readText_54 1 rfl ?_
        refine v_get g dX3_readText_55 fl_RX3_45 (fr_Re B _ _ _ _ _ _ _ _ _) rfl ?_
        refine v_istore (ls' := [(4, .int att), (3, .int (nI j)), (0, .ref (B + 22)), (1, .ref (adA B k)), (2, .int m)]) g dX3_readText_58 rfl rfl ?_
        refine v_aload_n g dX3_readText_60 2 rfl ?_
        refine v_callV (As := []) (r := some (.int (zB (rdItem (aLen k) le (minC m (nI (aLen k))) (told, att, nums, L, O)).1))) g dX3_readText_61 (k_X3_readItem hk hle hch told (minC m (nI (aLen k))) att nums L O) cl_X3_readItem ml_RX3_52 im_X3_readItem (fr_Re B _ _ _ _ _ _ _ _ _) rfl rfl ⟨rfl, rfl, rfl⟩ ?_
        refine v_if_ne (tgt := 70) g dX3_readText_64 (by decide) (fun h64 => ?_) (fun h64 => ?_)
        · skip
          have h64 := zB_t0 h64
          refine v_iinc (v := nI (j + 1)) (ls' := [(3, .int (nI (j + 1))), (4, .int att), (0, .ref (B + 22)), (1, .ref (adA B k)), (2, .int m)]) g dX3_readText_70 1 rfl (nI_1 j) rfl rfl ?_
          refine v_goto (tgt := 36) g dX3_readText_73 (by decide) ?_
          refine v_sub (ls' := [(3, .int (nI (j + 1))), (0, .ref (B + 22)), (1, .ref (adA B k)), (2, .int m)]) [0, 2, 3, 4] rfl ?_
          exact ih (j + 1) _ (by omega) (by rw [he, rtFrom, if_neg h51, if_pos h64])
        · skip
          have h64 := zB_f0 h64
          refine v_iload g dX3_readText_67 0 rfl ?_
          exact v_iret g E dX3_readText_69 rfl ⟨by rw [he]; simp [rtFrom, *], rfl, by rw [he]; simp [rtFrom, rdS1, *]⟩
  refine v_sub (ls' := [(0, .ref (B + 22)), (1, .ref (adA B k)), (2, .int m)]) [0, 1, 2] rfl ?_
  refine v_aload_n g dX3_readText_0 0 rfl ?_
  refine v_aload_n g dX3_readText_1 1 rfl ?_
  refine v_put g dX3_readText_2 fl_RX3_31 (fr_first B _ _ _ _ _ _ _ _ _) ⟨rfl, rfl⟩ rfl ?_
  refine v_meq (sr_first B _ _ k _ _ _ _ _ _ _) ?_
  refine v_aload_n g dX3_readText_5 0 rfl ?_
  refine v_iload_n g dX3_readText_6 2 rfl ?_
  refine v_aload_n g dX3_readText_7 1 rfl ?_
  refine v_alen (v := nI (aLen k)) g dX3_readText_8 (fr_Le B _ _ _ _ _ _ _ _ _ hk hle) rfl rfl ?_
  refine v_mmin g dX3_readText_9 ml_RX3_35 ⟨rfl, rfl⟩ ?_
  refine v_put g dX3_readText_12 fl_RX3_41 (fr_Re B _ _ _ _ _ _ _ _ _) ⟨rfl, rfl⟩ rfl ?_
  refine v_meq (sr_Re B _ _ _ _ _ _ _ _ _ told (minC m (nI (aLen k))) att) ?_
  refine v_aload_n g dX3_readText_15 0 rfl ?_
  refine v_iconst (v := 0) g dX3_readText_16 (by decide) ?_
  refine v_put g dX3_readText_17 fl_RX3_45 (fr_Re B _ _ _ _ _ _ _ _ _) ⟨rfl, rfl⟩ rfl ?_
  refine v_meq (sr_Re B _ _ _ _ _ _ _ _ _ told (minC m (nI (aLen k))) 0) ?_
  refine v_aload_n g dX3_readText_20 0 rfl ?_
  refine v_get g dX3_readText_21 fl_RX3_12 (fr_Re B _ _ _ _ _ _ _ _ _) rfl ?_
  refine v_callV (As := []) (r := none) g dX3_readText_24 (k_lcR told (minC m (nI (aLen k))) 0 nums L O) cl_X0_clear ml_RX3_48 im_X0_clear (rd_L B _ _ (by decide)) rfl rfl ⟨rfl, rfl, rfl⟩ ?_
  refine v_aload_n g dX3_readText_27 0 rfl ?_
  refine v_get g dX3_readText_28 fl_RX3_23 (fr_Re B _ _ _ _ _ _ _ _ _) rfl ?_
  refine v_callV (As := []) (r := none) g dX3_readText_31 (k_ocR told (minC m (nI (aLen k))) 0 nums (clrLand L) O) cl_X1_clear ml_RX3_51 im_X1_clear (rd_O B _ _ (by decide)) rfl rfl ⟨rfl, rfl, rfl⟩ ?_
  refine v_iconst (v := 0) g dX3_readText_34 (by decide) ?_
  refine v_istore_n (ls' := [(3, .int 0), (0, .ref (B + 22)), (1, .ref (adA B k)), (2, .int m)]) g dX3_readText_35 rfl rfl ?_
  refine v_sub (ls' := [(3, .int 0), (0, .ref (B + 22)), (1, .ref (adA B k)), (2, .int m)]) [0, 1, 2, 3] rfl ?_
  exact loop 200 0 (told, 0, nums, clrLand L, clearOC O) rfl rfl
theorem k_readText (hk : k = 0 ∨ k = 6) (hch : ∀ q, narrow .char (.int (cA C k q)) = .int (cA C k q)) (m : Int32) : Ctr l G 5 111 0 0 mX3_readText [.ref (B + 22), .ref (adA B k), .int m] n (ren B C ρ) (some (.int (rtRun (aLen k) (cA C k) m C).1)) n (ren B (rdS1 C (minC m (nI (aLen k))) k (rtRun (aLen k) (cA C k) m C).2) ρ) := by
  have h := k_X3_readText (l := l) (G := G) (n := n) (B := B) (C := C) (ρ := ρ) hk rfl hch m (cR C).1 (cR C).2.1 (cR C).2.2.1 (cR C).2.2.2 (cA C 5) (cL C 1) (cO C 2)
  have e : sO (sL (sA (sR C ((cR C).1, (cR C).2.1, (cR C).2.2.1, (cR C).2.2.2)) 5 (cA C 5)) 1 (cL C 1)) 2 (cO C 2) = C := rdS_id C
  rw [e] at h
  exact h
end C6c
