/-! CLASS: the reader of a text -/
/-- the reader: what it has told, length, at, which letters, numbers, its land, its orchard -/
def rdS (C : CS) (told len att : Int32) (k : Nat) (nums : Nat → Int32) (L : LV) (O : OV) : CS := sO (sL (sA (sR C (told, len, att, aB k)) 5 nums) 1 L) 2 O
section FR
variable (B : Nat) (C : CS) (ρ : Mu) (told len att : Int32) (k : Nat) (nums : Nat → Int32)
theorem fr_Re (L : LV) (O : OV) : ren B (rdS C told len att k nums L O) ρ (B + 22) = some (.inr (3, [.ref (adL B 1), .ref (adO B 2), .ref (adA B 5), .int told, .ref (adA B k), .int len, .int att])) := by
  rw [rd_Re B _ ρ]; rfl
theorem fr_N (L : LV) (O : OV) : ren B (rdS C told len att k nums L O) ρ (adA B 5) = some (iA 7 nums) := by
  rw [rd_A B _ ρ (k := 5) (by decide)]; rfl
theorem fr_Le (L : LV) (O : OV) (hk : k = 0 ∨ k = 6) {le : Nat → Int32} (hle : cA C k = le) : ren B (rdS C told len att k nums L O) ρ (adA B k) = some (.inl (2, aLen k, .inl le)) := by
  rw [rd_A B _ ρ (k := k) (by omega), ← hle]
  rcases hk with rfl | rfl <;> rfl
variable (F H Br : Int64) (li wi : Int32) (lo : Nat → Int32) (rc yr : Int32) (di le ta en : Int64) (ow : Nat → Int32) (rs : Nat → RV)
theorem fr_L (O : OV) : ren B (rdS C told len att k nums (F, H, Br, li, wi, lo) O) ρ (adL B 1) = some (landCe (adLo B 1) F H Br li wi) := by
  rw [rd_L B _ ρ (i := 1) (by decide)]; rfl
theorem fr_Lo (O : OV) : ren B (rdS C told len att k nums (F, H, Br, li, wi, lo) O) ρ (adLo B 1) = some (iA 36 lo) := by
  rw [rd_Lo B _ ρ (i := 1) (by decide)]; rfl
theorem fr_O (L : LV) : ren B (rdS C told len att k nums L (rc, yr, di, le, ta, en, ow, rs)) ρ (adO B 2) = some (orCe (adL B 1) (adRs B 2) (adOw B 2) rc yr di le ta en) := fo_O B _ ρ (i := 2) rc yr di le ta en ow rs (by decide)
theorem fr_Rs (L : LV) : ren B (rdS C told len att k nums L (rc, yr, di, le, ta, en, ow, rs)) ρ (adRs B 2) = some (rA 3 (fun r => some (adR B 2 r))) := fo_Rs B _ ρ (i := 2) rc yr di le ta en ow rs (by decide)
theorem fr_Rf (L : LV) {r : Nat} (hr : r < 3) (sz kd hd be : Int32) (t : Nat → Int32) : ren B (rdS C told len att k nums L (rc, yr, di, le, ta, en, ow, va_up rs r (sz, kd, hd, be, t))) ρ (adR B 2 r) = some (rowCe (adT B 2 r) sz kd hd be) := fo_Rf B _ ρ (i := 2) rc yr di le ta en ow rs (by decide) hr sz kd hd be t
theorem fr_Tf (L : LV) {r : Nat} (hr : r < 3) (sz kd hd be : Int32) (t : Nat → Int32) : ren B (rdS C told len att k nums L (rc, yr, di, le, ta, en, ow, va_up rs r (sz, kd, hd, be, t))) ρ (adT B 2 r) = some (iA 4 t) := fo_Tf B _ ρ (i := 2) rc yr di le ta en ow rs (by decide) hr sz kd hd be t
theorem sr_Re (L : LV) (O : OV) (told' len' att' : Int32) : mset (ren B (rdS C told len att k nums L O) ρ) (B + 22) (.inr (3, [.ref (adL B 1), .ref (adO B 2), .ref (adA B 5), .int told', .ref (adA B k), .int len', .int att'])) = ren B (rdS C told' len' att' k nums L O) ρ := st_Re B (rdS C told len att k nums L O) ρ told' len' att' (aB k)
theorem sr_N (L : LV) (O : OV) (nums' : Nat → Int32) : mset (ren B (rdS C told len att k nums L O) ρ) (adA B 5) (iA 7 nums') = ren B (rdS C told len att k nums' L O) ρ := by
  have h := st_A B (rdS C told len att k nums L O) ρ (k := 5) (by decide) nums'
  refine h.trans (congrArg (fun Z => ren B Z ρ) ?_)
  exact congrArg (fun Z => sO (sL Z 1 L) 2 O) (sA_sA (sR C (told, len, att, aB k)) 5 nums nums')
theorem sr_L (O : OV) (F' H' Br' : Int64) (li' wi' : Int32) : mset (ren B (rdS C told len att k nums (F, H, Br, li, wi, lo) O) ρ) (adL B 1) (landCe (adLo B 1) F' H' Br' li' wi') = ren B (rdS C told len att k nums (F', H', Br', li', wi', lo) O) ρ := st_L B (sO (sA (sR C (told, len, att, aB k)) 5 nums) 2 O) ρ F H Br li wi lo (i := 1) (by decide) F' H' Br' li' wi'
theorem sr_Lo (O : OV) (lo' : Nat → Int32) : mset (ren B (rdS C told len att k nums (F, H, Br, li, wi, lo) O) ρ) (adLo B 1) (iA 36 lo') = ren B (rdS C told len att k nums (F, H, Br, li, wi, lo') O) ρ := st_Lo B (sO (sA (sR C (told, len, att, aB k)) 5 nums) 2 O) ρ F H Br li wi lo (i := 1) (by decide) lo'
theorem sr_O (L : LV) (rc' yr' : Int32) (di' le' ta' en' : Int64) : mset (ren B (rdS C told len att k nums L (rc, yr, di, le, ta, en, ow, rs)) ρ) (adO B 2) (orCe (adL B 1) (adRs B 2) (adOw B 2) rc' yr' di' le' ta' en') = ren B (rdS C told len att k nums L (rc', yr', di', le', ta', en', ow, rs)) ρ := st_O B _ ρ (i := 2) rc yr di le ta en ow rs (by decide) rc' yr' di' le' ta' en'
theorem sr_Rf (L : LV) {r : Nat} (hr : r < 3) (sz kd hd be sz' kd' hd' be' : Int32) (t : Nat → Int32) : mset (ren B (rdS C told len att k nums L (rc, yr, di, le, ta, en, ow, va_up rs r (sz, kd, hd, be, t))) ρ) (adR B 2 r) (rowCe (adT B 2 r) sz' kd' hd' be') = ren B (rdS C told len att k nums L (rc, yr, di, le, ta, en, ow, va_up rs r (sz', kd', hd', be', t))) ρ := st_Rf B _ ρ (i := 2) rc yr di le ta en ow rs (by decide) hr sz kd hd be sz' kd' hd' be' t
end FR
def okAt (K : Nat) (len att : Int32) : Bool := if att < 0 then false else if len ≤ att then false else if att < nI K then true else false
def nlV (K : Nat) (le : Nat → Int32) (len att : Int32) : Int32 := if okAt K len att = true then le att.toNatClampNeg else 0
def nlA (K : Nat) (len att : Int32) : Int32 := if okAt K len att = true then att + 1 else att
def fgN (K : Nat) (le : Nat → Int32) (len att : Int32) : Bool := if att < 0 then false else if len ≤ att then false else if nI K ≤ att then false else if le att.toNatClampNeg < 48 then false else if 57 < le att.toNatClampNeg then false else true
def rdNum (K : Nat) (le : Nat → Int32) (len att : Int32) : Int32 × Int32 := if fgN K le len att = false then (-4, att) else if fgN K le len (nlA K len att) = false then (nlV K le len att - 48, nlA K len att) else ((nlV K le len att - 48) * 10 + (nlV K le len (nlA K len att) - 48), nlA K len (nlA K len att))
def rnFrom (K : Nat) (le : Nat → Int32) (len : Int32) : Nat → Nat → Int32 → Int32 → (Nat → Int32) → Bool × Int32 × Int32 × (Nat → Int32)
  | 0, _, told, att, nums => (false, told, att, nums)
  | q + 1, i, told, att, nums => if (rdNum K le len att).1 = -4 then (false, told, (rdNum K le len att).2, nums)
    else if nlV K le len (rdNum K le len att).2 = 44 then rnFrom K le len q (i + 1) (told + 1) (nlA K len (rdNum K le len att).2) (upd nums i (rdNum K le len att).1)
    else (if nlV K le len (rdNum K le len att).2 = 59 then true else false, told + 1, nlA K len (rdNum K le len att).2, upd nums i (rdNum K le len att).1)
def rdNums (K : Nat) (le : Nat → Int32) (len att : Int32) (nums : Nat → Int32) := rnFrom K le len 7 0 0 att nums
def grd (L : LV) (x g : Int32) : LV := if g = 0 then ((L.1 ||| bitC x), L.2) else if g = 1 then (L.1, (L.2.1 ||| bitC x), L.2.2) else if g = 2 then (L.1, L.2.1, (L.2.2.1 ||| bitC x), L.2.2.2) else L
def rlFrom (K : Nat) (le : Nat → Int32) (len st : Int32) : Nat → Nat → Int32 → Int32 → LV → Nat × Int32 × Int32 × LV
  | 0, w, c, att, L => (w, c, att, L)
  | q + 1, w, c, att, L => if c < 48 then (w, c, att, L) else if 51 < c then (w, c, att, L) else rlFrom K le len st q (w + 1) (nlV K le len att) (nlA K len att) (grd L (st + nI w) (c - 48))
def rlEnd (z : Nat × Int32 × Int32 × LV) : Bool × Int32 × LV := if ¬ z.2.1 = 59 then (false, z.2.2.1, z.2.2.2) else if nI z.1 = 0 then (false, z.2.2.1, z.2.2.2) else if z.2.2.2.2.2.2.1 ≤ 0 then (true, z.2.2.1, (z.2.2.2.1, z.2.2.2.2.1, z.2.2.2.2.2.1, z.2.2.2.2.2.2.1 + 1, nI z.1, z.2.2.2.2.2.2.2.2)) else if nI z.1 = z.2.2.2.2.2.2.2.1 then (true, z.2.2.1, (z.2.2.2.1, z.2.2.2.2.1, z.2.2.2.2.2.1, z.2.2.2.2.2.2.1 + 1, nI z.1, z.2.2.2.2.2.2.2.2)) else (false, z.2.2.1, z.2.2.2)
def rdLine (K : Nat) (le : Nat → Int32) (len att : Int32) (L : LV) : Bool × Int32 × LV := if L.2.2.2.1 < 6 then rlEnd (rlFrom K le len (L.2.2.2.1 * L.2.2.2.2.1) 6 0 (nlV K le len att) (nlA K len att) L) else (false, att, L)
def gcFrom (n1 v : Int32) : Nat → Nat → (Nat → Int32) → (Nat → Int32)
  | 0, _, lo => lo
  | q + 1, x, lo => if n1 < nI x then lo else gcFrom n1 v q (x + 1) (upd lo x v)
def gcOk (told : Int32) (nums : Nat → Int32) (li wi : Int32) : Bool := if ¬ told = 3 then false else if holdsC li wi (nums 0) = false then false else if holdsC li wi (nums 1) = false then false else if nums 1 < nums 0 then false else if nums 2 < 4 then true else false
def giveCs (told : Int32) (nums : Nat → Int32) (L : LV) : Bool × LV := if gcOk told nums L.2.2.2.1 L.2.2.2.2.1 = true then (true, (L.1, L.2.1, L.2.2.1, L.2.2.2.1, L.2.2.2.2.1, gcFrom (nums 1) (nums 2) (36 - (nums 0).toNatClampNeg) (nums 0).toNatClampNeg L.2.2.2.2.2)) else (false, L)
section C5
variable {l : Launch} {G : GG} {n : Nat} {B : Nat} {C : CS} {ρ : Mu} {k : Nat}
theorem vin_k {i : Int32} {N : Nat} (hN : N < 2 ^ 31) (h0 : ¬ i < 0) (h1 : ¬ nI N ≤ i) : vp_in i N := vin_c (nI_toInt hN) h0 h1
theorem vin_k2 {i : Int32} {N : Nat} (hN : N < 2 ^ 31) (h0 : ¬ i < 0) (h1 : i < nI N) : vp_in i N := vin_k hN h0 (by rw [Int32.le_iff_toInt_le]; rw [Int32.lt_iff_toInt_lt] at h1; omega)
theorem k_X3_nextLetter (hk : k = 0 ∨ k = 6) {le : Nat → Int32} (hle : cA C k = le) (hch : ∀ q, narrow .char (.int (le q)) = .int (le q)) (told len att : Int32) (nums : Nat → Int32) (L : LV) (O : OV) : Ctr l G 0 0 0 0 mX3_nextLetter [.ref (B + 22)] n (ren B (rdS C told len att k nums L O) ρ) (some (.int (nlV (aLen k) le len att))) n (ren B (rdS C told len (nlA (aLen k) len att) k nums L O) ρ) := by
  refine Ctr.of (by decide +kernel) rfl (fun X g E => ?_)
  refine v_sub (ls' := [(0, .ref (B + 22))]) [0] rfl ?_
  refine v_aload_n g dX3_nextLetter_0 0 rfl ?_
  refine v_get g dX3_nextLetter_1 fl_RX3_45 (fr_Re B _ _ _ _ _ _ _ _ _) rfl ?_
  refine v_if_lt (tgt := 30) g dX3_nextLetter_4 (by decide) (fun h4 => ?_) (fun h4 => ?_)
  · skip
    refine v_iconst (v := 0) g dX3_nextLetter_30 (by decide) ?_
    exact v_cret g E dX3_nextLetter_31 rfl rfl ⟨by simp [nlV, okAt, *], rfl, by simp [nlA, okAt, *]⟩
  · skip
    refine v_aload_n g dX3_nextLetter_7 0 rfl ?_
    refine v_get g dX3_nextLetter_8 fl_RX3_45 (fr_Re B _ _ _ _ _ _ _ _ _) rfl ?_
    refine v_aload_n g dX3_nextLetter_11 0 rfl ?_
    refine v_get g dX3_nextLetter_12 fl_RX3_41 (fr_Re B _ _ _ _ _ _ _ _ _) rfl ?_
    refine v_icmp_ge (tgt := 30) g dX3_nextLetter_15 (by decide) (fun h15 => ?_) (fun h15 => ?_)
    · skip
      refine v_iconst (v := 0) g dX3_nextLetter_30 (by decide) ?_
      exact v_cret g E dX3_nextLetter_31 rfl rfl ⟨by simp [nlV, okAt, *], rfl, by simp [nlA, okAt, *]⟩
    · skip
      refine v_aload_n g dX3_nextLetter_18 0 rfl ?_
      refine v_get g dX3_nextLetter_19 fl_RX3_45 (fr_Re B _ _ _ _ _ _ _ _ _) rfl ?_
      refine v_aload_n g dX3_nextLetter_22 0 rfl ?_
      refine v_get g dX3_nextLetter_23 fl_RX3_31 (fr_Re B _ _ _ _ _ _ _ _ _) rfl ?_
      refine v_alen (v := nI (aLen k)) g dX3_nextLetter_26 (fr_Le B _ _ _ _ _ _ _ _ _ hk hle) rfl rfl ?_
      refine v_icmp_lt (tgt := 32) g dX3_nextLetter_27 (by decide) (fun h27 => ?_) (fun h27 => ?_)
      · skip
        refine v_aload_n g dX3_nextLetter_32 0 rfl ?_
        refine v_get g dX3_nextLetter_33 fl_RX3_31 (fr_Re B _ _ _ _ _ _ _ _ _) rfl ?_
        refine v_aload_n g dX3_nextLetter_36 0 rfl ?_
        refine v_get g dX3_nextLetter_37 fl_RX3_45 (fr_Re B _ _ _ _ _ _ _ _ _) rfl ?_
        refine v_cald g dX3_nextLetter_40 (fr_Le B _ _ _ _ _ _ _ _ _ hk hle) (vin_k2 (by rcases hk with rfl | rfl <;> decide) h4 h27) ?_
        refine v_istore_n (ls' := [(1, .int (le att.toNatClampNeg)), (0, .ref (B + 22))]) g dX3_nextLetter_41 rfl rfl ?_
        refine v_aload_n g dX3_nextLetter_42 1 rfl ?_
        refine v_dup g dX3_nextLetter_43 rfl ?_
        refine v_get g dX3_nextLetter_44 fl_RX3_45 (fr_Re B _ _ _ _ _ _ _ _ _) rfl ?_
        refine v_iconst (v := 1) g dX3_nextLetter_47 (by decide) ?_
        refine v_iadd g dX3_nextLetter_48 ?_
        refine v_put g dX3_nextLetter_49 fl_RX3_45 (fr_Re B _ _ _ _ _ _ _ _ _) ⟨rfl, rfl⟩ rfl ?_
        refine v_meq (sr_Re B _ _ _ _ _ _ _ _ _ told len (att + 1)) ?_
        refine v_iload_n g dX3_nextLetter_52 0 rfl ?_
        exact v_cret g E dX3_nextLetter_53 rfl (hch _) ⟨by simp [nlV, okAt, *], rfl, by simp [nlA, okAt, *]⟩
      · skip
        refine v_iconst (v := 0) g dX3_nextLetter_30 (by decide) ?_
        exact v_cret g E dX3_nextLetter_31 rfl rfl ⟨by simp [nlV, okAt, *], rfl, by simp [nlA, okAt, *]⟩
theorem k_X3_isFigureNext (hk : k = 0 ∨ k = 6) {le : Nat → Int32} (hle : cA C k = le) (told len att : Int32) (nums : Nat → Int32) (L : LV) (O : OV) : Ctr l G 0 0 0 0 mX3_isFigureNext [.ref (B + 22)] n (ren B (rdS C told len att k nums L O) ρ) (some (.int (zB (fgN (aLen k) le len att)))) n (ren B (rdS C told len att k nums L O) ρ) := by
  refine Ctr.of (by decide +kernel) rfl (fun X g E => ?_)
  refine v_sub (ls' := [(0, .ref (B + 22))]) [0] rfl ?_
  refine v_aload_n g dX3_isFigureNext_0 0 rfl ?_
  refine v_get g dX3_isFigureNext_1 fl_RX3_45 (fr_Re B _ _ _ _ _ _ _ _ _) rfl ?_
  refine v_if_lt (tgt := 62) g dX3_isFigureNext_4 (by decide) (fun h4 => ?_) (fun h4 => ?_)
  · skip
    refine v_iconst (v := 0) g dX3_isFigureNext_62 (by decide) ?_
    exact v_zret g E dX3_isFigureNext_63 rfl rfl ⟨by simp [fgN, zB, *], rfl, rfl⟩
  · skip
    refine v_aload_n g dX3_isFigureNext_7 0 rfl ?_
    refine v_get g dX3_isFigureNext_8 fl_RX3_45 (fr_Re B _ _ _ _ _ _ _ _ _) rfl ?_
    refine v_aload_n g dX3_isFigureNext_11 0 rfl ?_
    refine v_get g dX3_isFigureNext_12 fl_RX3_41 (fr_Re B _ _ _ _ _ _ _ _ _) rfl ?_
    refine v_icmp_ge (tgt := 62) g dX3_isFigureNext_15 (by decide) (fun h15 => ?_) (fun h15 => ?_)
    · skip
      refine v_iconst (v := 0) g dX3_isFigureNext_62 (by decide) ?_
      exact v_zret g E dX3_isFigureNext_63 rfl rfl ⟨by simp [fgN, zB, *], rfl, rfl⟩
    · skip
      refine v_aload_n g dX3_isFigureNext_18 0 rfl ?_
      refine v_get g dX3_isFigureNext_19 fl_RX3_45 (fr_Re B _ _ _ _ _ _ _ _ _) rfl ?_
      refine v_aload_n g dX3_isFigureNext_22 0 rfl ?_
      refine v_get g dX3_isFigureNext_23 fl_RX3_31 (fr_Re B _ _ _ _ _ _ _ _ _) rfl ?_
      refine v_alen (v := nI (aLen k)) g dX3_isFigureNext_26 (fr_Le B _ _ _ _ _ _ _ _ _ hk hle) rfl rfl ?_
      refine v_icmp_ge (tgt := 62) g dX3_isFigureNext_27 (by decide) (fun h27 => ?_) (fun h27 => ?_)
      · skip
        refine v_iconst (v := 0) g dX3_isFigureNext_62 (by decide) ?_
        exact v_zret g E dX3_isFigureNext_63 rfl rfl ⟨by simp [fgN, zB, *], rfl, rfl⟩
      · skip
        refine v_aload_n g dX3_isFigureNext_30 0 rfl ?_
        refine v_get g dX3_isFigureNext_31 fl_RX3_31 (fr_Re B _ _ _ _ _ _ _ _ _) rfl ?_
        refine v_aload_n g dX3_isFigureNext_34 0 rfl ?_
        refine v_get g dX3_isFigureNext_35 fl_RX3_45 (fr_Re B _ _ _ _ _ _ _ _ _) rfl ?_
        refine v_cald g dX3_isFigureNext_38 (fr_Le B _ _ _ _ _ _ _ _ _ hk hle) (vin_k (by rcases hk with rfl | rfl <;> decide) h4 h27) ?_
        refine v_bipush (v := 48) g dX3_isFigureNext_39 (by decide) ?_
        refine v_icmp_lt (tgt := 62) g dX3_isFigureNext_41 (by decide) (fun h41 => ?_) (fun h41 => ?_)
        · skip
          refine v_iconst (v := 0) g dX3_isFigureNext_62 (by decide) ?_
          exact v_zret g E dX3_isFigureNext_63 rfl rfl ⟨by simp [fgN, zB, *], rfl, rfl⟩
        · skip
          refine v_aload_n g dX3_isFigureNext_44 0 rfl ?_
          refine v_get g dX3_isFigureNext_45 fl_RX3_31 (fr_Re B _ _ _ _ _ _ _ _ _) rfl ?_
          refine v_aload_n g dX3_isFigureNext_48 0 rfl ?_
          refine v_get g dX3_isFigureNext_49 fl_RX3_45 (fr_Re B _ _ _ _ _ _ _ _ _) rfl ?_
          refine v_cald g dX3_isFigureNext_52 (fr_Le B _ _ _ _ _ _ _ _ _ hk hle) (vin_k (by rcases hk with rfl | rfl <;> decide) h4 h27) ?_
          refine v_bipush (v := 57) g dX3_isFigureNext_53 (by decide) ?_
          refine v_icmp_gt (tgt := 62) g dX3_isFigureNext_55 (by decide) (fun h55 => ?_) (fun h55 => ?_)
          · skip
            refine v_iconst (v := 0) g dX3_isFigureNext_62 (by decide) ?_
            exact v_zret g E dX3_isFigureNext_63 rfl rfl ⟨by simp [fgN, zB, *], rfl, rfl⟩
          · skip
            refine v_iconst (v := 1) g dX3_isFigureNext_58 (by decide) ?_
            refine v_goto (tgt := 63) g dX3_isFigureNext_59 (by decide) ?_
            exact v_zret g E dX3_isFigureNext_63 rfl rfl ⟨by simp [fgN, zB, *], rfl, rfl⟩
theorem k_X3_readNumber (hk : k = 0 ∨ k = 6) {le : Nat → Int32} (hle : cA C k = le) (hch : ∀ q, narrow .char (.int (le q)) = .int (le q)) (told len att : Int32) (nums : Nat → Int32) (L : LV) (O : OV) : Ctr l G 1 21 0 0 mX3_readNumber [.ref (B + 22)] n (ren B (rdS C told len att k nums L O) ρ) (some (.int (rdNum (aLen k) le len att).1)) n (ren B (rdS C told len ((rdNum (aLen k) le len att).2) k nums L O) ρ) := by
  refine Ctr.of (by decide +kernel) rfl (fun X g E => ?_)
  refine v_sub (ls' := [(0, .ref (B + 22))]) [0] rfl ?_
  refine v_aload_n g dX3_readNumber_0 0 rfl ?_
  refine v_callV (As := []) (r := some (.int (zB (fgN (aLen k) le len att)))) g dX3_readNumber_1 (k_X3_isFigureNext hk hle told len att nums L O) cl_X3_isFigureNext ml_RX3_103 im_X3_isFigureNext (fr_Re B _ _ _ _ _ _ _ _ _) rfl rfl ⟨rfl, rfl, rfl⟩ ?_
  refine v_if_ne (tgt := 10) g dX3_readNumber_4 (by decide) (fun h4 => ?_) (fun h4 => ?_)
  · skip
    have h4 := zB_t0 h4
    refine v_aload_n g dX3_readNumber_10 0 rfl ?_
    refine v_callV (As := []) (r := some (.int (nlV (aLen k) le len att))) g dX3_readNumber_11 (k_X3_nextLetter hk hle hch told len att nums L O) cl_X3_nextLetter ml_RX3_56 im_X3_nextLetter (fr_Re B _ _ _ _ _ _ _ _ _) rfl rfl ⟨rfl, rfl, rfl⟩ ?_
    refine v_bipush (v := 48) g dX3_readNumber_14 (by decide) ?_
    refine v_isub g dX3_readNumber_16 ?_
    refine v_istore_n (ls' := [(1, .int (nlV (aLen k) le len att - 48)), (0, .ref (B + 22))]) g dX3_readNumber_17 rfl rfl ?_
    refine v_aload_n g dX3_readNumber_18 1 rfl ?_
    refine v_callV (As := []) (r := some (.int (zB (fgN (aLen k) le len (nlA (aLen k) len att))))) g dX3_readNumber_19 (k_X3_isFigureNext hk hle told len (nlA (aLen k) len att) nums L O) cl_X3_isFigureNext ml_RX3_103 im_X3_isFigureNext (fr_Re B _ _ _ _ _ _ _ _ _) rfl rfl ⟨rfl, rfl, rfl⟩ ?_
    refine v_if_eq (tgt := 40) g dX3_readNumber_22 (by decide) (fun h22 => ?_) (fun h22 => ?_)
    · skip
      have h22 := zB_f0 h22
      refine v_iload_n g dX3_readNumber_40 0 rfl ?_
      exact v_iret g E dX3_readNumber_41 rfl ⟨by simp [rdNum, *], rfl, by simp [rdNum, *]⟩
    · skip
      have h22 := zB_t0 h22
      refine v_iload_n g dX3_readNumber_25 0 rfl ?_
      refine v_bipush (v := 10) g dX3_readNumber_26 (by decide) ?_
      refine v_imul g dX3_readNumber_28 ?_
      refine v_aload_n g dX3_readNumber_29 1 rfl ?_
      refine v_callV (As := []) (r := some (.int (nlV (aLen k) le len (nlA (aLen k) len att)))) g dX3_readNumber_30 (k_X3_nextLetter hk hle hch told len (nlA (aLen k) len att) nums L O) cl_X3_nextLetter ml_RX3_56 im_X3_nextLetter (fr_Re B _ _ _ _ _ _ _ _ _) rfl rfl ⟨rfl, rfl, rfl⟩ ?_
      refine v_bipush (v := 48) g dX3_readNumber_33 (by decide) ?_
      refine v_isub g dX3_readNumber_35 ?_
      refine v_iadd g dX3_readNumber_36 ?_
      refine v_goto (tgt := 41) g dX3_readNumber_37 (by decide) ?_
      exact v_iret g E dX3_readNumber_41 rfl ⟨by simp [rdNum, *], rfl, by simp [rdNum, *]⟩
  · skip
    have h4 := zB_f0 h4
    refine v_bipush (v := (-4)) g dX3_readNumber_7 (by decide) ?_
    exact v_iret g E dX3_readNumber_9 rfl ⟨by simp [rdNum, *], rfl, by simp [rdNum, *]⟩
theorem k_X3_readNumbers (hk : k = 0 ∨ k = 6) {le : Nat → Int32} (hle : cA C k = le) (hch : ∀ q, narrow .char (.int (le q)) = .int (le q)) (told len att : Int32) (nums : Nat → Int32) (L : LV) (O : OV) : Ctr l G 2 42 0 0 mX3_readNumbers [.ref (B + 22)] n (ren B (rdS C told len att k nums L O) ρ) (some (.int (zB (rdNums (aLen k) le len att nums).1))) n (ren B (rdS C ((rdNums (aLen k) le len att nums).2.1) len ((rdNums (aLen k) le len att nums).2.2.1) k ((rdNums (aLen k) le len att nums).2.2.2) L O) ρ) := by
  refine Ctr.of (by decide +kernel) rfl (fun X g E => ?_)
  have loop : ∀ (q i : Nat) (t1 a1 : Int32) (n1 : Nat → Int32), i + q = 7 → rdNums (aLen k) le len att nums = rnFrom (aLen k) le len q i t1 a1 n1 → V X 0 0 n (ren B (rdS C t1 len a1 k n1 L O) ρ) 7 [(1, .int (nI i)), (0, .ref (B + 22))] [] := by
    intro q
    induction q with
    | zero =>
      intro i t1 a1 n1 hq he
      refine v_iload_n g dX3_readNumbers_7 0 rfl ?_
      refine v_bipush (v := 7) g dX3_readNumbers_8 (by decide) ?_
      refine v_icmp_ge (tgt := 72) g dX3_readNumbers_10 (by decide) (fun h10 => ?_) (fun h10 => absurd (nI_le (a := 7) (b := i) (by omega) (by omega)) h10)
      refine v_iconst (v := 0) g dX3_readNumbers_72 (by decide) ?_
      exact v_zret g E dX3_readNumbers_73 rfl rfl ⟨by rw [he]; simp [rnFrom, zB, *], rfl, by rw [he]; simp [rnFrom, *]⟩
    | succ q ih =>
      intro i t1 a1 n1 hq he
      refine v_iload_n g dX3_readNumbers_7 0 rfl ?_
      refine v_bipush (v := 7) g dX3_readNumbers_8 (by decide) ?_
      refine v_icmp_ge (tgt := 72) g dX3_readNumbers_10 (by decide) (fun h10 => absurd h10 (nI_ge (a := i) (b := 7) (by omega) (by decide))) (fun h10 => ?_)
      refine v_aload_n g dX3_readNumbers_13 1 rfl ?_
      refine v_callV (As := []) (r := some (.int ((rdNum (aLen k) le len a1).1))) g dX3_readNumbers_14 (k_X3_readNumber hk hle hch t1 len a1 n1 L O) cl_X3_readNumber ml_RX3_99 im_X3_readNumber (fr_Re B _ _ _ _ _ _ _ _ _) rfl rfl ⟨rfl, rfl, rfl⟩ ?_
      refine v_istore_n (ls' := [(2, .int ((rdNum (aLen k) le len a1).1)), (1, .int (nI i)), (0, .ref (B + 22))]) g dX3_readNumbers_17 rfl rfl ?_
      refine v_iload_n g dX3_readNumbers_18 0 rfl ?_
      refine v_bipush (v := (-4)) g dX3_readNumbers_19 (by decide) ?_
      refine v_icmp_ne (tgt := 26) g dX3_readNumbers_21 (by decide) (fun h21 => ?_) (fun h21 => ?_)
      · skip
        refine v_aload_n g dX3_readNumbers_26 2 rfl ?_
        refine v_get g dX3_readNumbers_27 fl_RX3_27 (fr_Re B _ _ _ _ _ _ _ _ _) rfl ?_
        refine v_iload_n g dX3_readNumbers_30 1 rfl ?_
        refine v_iload_n g dX3_readNumbers_31 0 rfl ?_
        refine v_iast g dX3_readNumbers_32 (fr_N B _ _ _ _ _ _ _ _ _) (vp_in_nI (by omega) (by decide)) ?_
        rw [nI_clamp (n := i) (by omega)]
        refine v_meq (sr_N B _ _ _ _ _ _ _ _ _ (upd n1 i ((rdNum (aLen k) le len a1).1))) ?_
        refine v_aload_n g dX3_readNumbers_33 2 rfl ?_
        refine v_dup g dX3_readNumbers_34 rfl ?_
        refine v_get g dX3_readNumbers_35 fl_RX3_96 (fr_Re B _ _ _ _ _ _ _ _ _) rfl ?_
        refine v_iconst (v := 1) g dX3_readNumbers_38 (by decide) ?_
        refine v_iadd g dX3_readNumbers_39 ?_
        refine v_put g dX3_readNumbers_40 fl_RX3_96 (fr_Re B _ _ _ _ _ _ _ _ _) ⟨rfl, rfl⟩ rfl ?_
        refine v_meq (sr_Re B _ _ _ _ _ _ _ _ _ (t1 + 1) len ((rdNum (aLen k) le len a1).2)) ?_
        refine v_aload_n g dX3_readNumbers_43 2 rfl ?_
        refine v_callV (As := []) (r := some (.int (nlV (aLen k) le len ((rdNum (aLen k) le len a1).2)))) g dX3_readNumbers_44 (k_X3_nextLetter hk hle hch (t1 + 1) len ((rdNum (aLen k) le len a1).2) (upd n1 i ((rdNum (aLen k) le len a1).1)) L O) cl_X3_nextLetter ml_RX3_56 im_X3_nextLetter (fr_Re B _ _ _ _ _ _ _ _ _) rfl rfl ⟨rfl, rfl, rfl⟩ ?_
        refine v_istore_n (ls' := [(3, .int (nlV (aLen k) le len ((rdNum (aLen k) le len a1).2))), (2, .int ((rdNum (aLen k) le len a1).1)), (1, .int (nI i)), (0, .ref (B + 22))]) g dX3_readNumbers_47 rfl rfl ?_
        refine v_iload_n g dX3_readNumbers_48 0 rfl ?_
        refine v_bipush (v := 44) g dX3_readNumbers_49 (by decide) ?_
        refine v_icmp_eq (tgt := 66) g dX3_readNumbers_51 (by decide) (fun h51 => ?_) (fun h51 => ?_)
        · skip
          refine v_iinc (v := nI (i + 1)) (ls' := [(1, .int (nI (i + 1))), (3, .int (nlV (aLen k) le len ((rdNum (aLen k) le len a1).2))), (2, .int ((rdNum (aLen k) le len a1).1)), (0, .ref (B + 22))]) g dX3_readNumbers_66 2 rfl (nI_1 i) rfl rfl ?_
          refine v_goto (tgt := 7) g dX3_readNumbers_69 (by decide) ?_
          refine v_sub (ls' := [(1, .int (nI (i + 1))), (0, .ref (B + 22))]) [0, 3] rfl ?_
          exact ih (i + 1) _ _ _ (by omega) (by rw [he, rnFrom, if_neg h21, if_pos h51])
        · skip
          refine v_iload_n g dX3_readNumbers_54 0 rfl ?_
          refine v_bipush (v := 59) g dX3_readNumbers_55 (by decide) ?_
          refine v_icmp_ne (tgt := 64) g dX3_readNumbers_57 (by decide) (fun h57 => ?_) (fun h57 => ?_)
          · skip
            refine v_iconst (v := 0) g dX3_readNumbers_64 (by decide) ?_
            exact v_zret g E dX3_readNumbers_65 rfl rfl ⟨by rw [he]; simp [rnFrom, zB, *], rfl, by rw [he]; simp [rnFrom, *]⟩
          · skip
            refine v_iconst (v := 1) g dX3_readNumbers_60 (by decide) ?_
            refine v_goto (tgt := 65) g dX3_readNumbers_61 (by decide) ?_
            exact v_zret g E dX3_readNumbers_65 rfl rfl ⟨by rw [he]; simp [rnFrom, zB, *], rfl, by rw [he]; simp [rnFrom, *]⟩
      · skip
        refine v_iconst (v := 0) g dX3_readNumbers_24 (by decide) ?_
        exact v_zret g E dX3_readNumbers_25 rfl rfl ⟨by rw [he]; simp [rnFrom, zB, *], rfl, by rw [he]; simp [rnFrom, *]⟩
  refine v_sub (ls' := [(0, .ref (B + 22))]) [0] rfl ?_
  refine v_aload_n g dX3_readNumbers_0 0 rfl ?_
  refine v_iconst (v := 0) g dX3_readNumbers_1 (by decide) ?_
  refine v_put g dX3_readNumbers_2 fl_RX3_96 (fr_Re B _ _ _ _ _ _ _ _ _) ⟨rfl, rfl⟩ rfl ?_
  refine v_meq (sr_Re B _ _ _ _ _ _ _ _ _ 0 len att) ?_
  refine v_iconst (v := 0) g dX3_readNumbers_5 (by decide) ?_
  refine v_istore_n (ls' := [(1, .int 0), (0, .ref (B + 22))]) g dX3_readNumbers_6 rfl rfl ?_
  refine v_sub (ls' := [(1, .int 0), (0, .ref (B + 22))]) [0, 1] rfl ?_
  exact loop 7 0 0 att nums rfl rfl
theorem k_X3_tellGround (told len att : Int32) (nums : Nat → Int32) (F Hd Br : Int64) (li wi : Int32) (lo : Nat → Int32) (O : OV) (x gr : Int32) : Ctr l G 1 20 0 0 mX3_tellGround [.ref (B + 22), .int x, .int gr] n (ren B (rdS C told len att k nums (F, Hd, Br, li, wi, lo) O) ρ) (none) n (ren B (rdS C told len att k nums (grd (F, Hd, Br, li, wi, lo) x gr) O) ρ) := by
  refine Ctr.of (by decide +kernel) rfl (fun X g E => ?_)
  refine v_sub (ls' := [(0, .ref (B + 22)), (1, .int x), (2, .int gr)]) [0, 1, 2] rfl ?_
  refine v_iload_n g dX3_tellGround_0 2 rfl ?_
  by_cases h1_0 : gr = 0
  · skip
    refine v_tableIn (tgt := 28) (off := 27) g dX3_tellGround_1 (by rw [h1_0]; decide) (by rw [h1_0]; rfl) (by decide) ?_
    refine v_aload_n g dX3_tellGround_28 0 rfl ?_
    refine v_get g dX3_tellGround_29 fl_RX3_12 (fr_Re B _ _ _ _ _ _ _ _ _) rfl ?_
    refine v_dup g dX3_tellGround_32 rfl ?_
    refine v_get g dX3_tellGround_33 fl_RX3_82 (fr_L B _ _ _ _ _ _ _ _ _ _ _ _ _ _) rfl ?_
    refine v_iload_n g dX3_tellGround_36 1 rfl ?_
    refine v_callSN (As := [.int x]) (r := some (.long (bitC x))) g dX3_tellGround_37 (k_X5_bit x) cl_X5_bit nl_RX3_86 sm_X5_bit rfl ⟨rfl, rfl, rfl⟩ ?_
    refine v_lor g dX3_tellGround_40 ?_
    refine v_put g dX3_tellGround_41 fl_RX3_82 (fr_L B _ _ _ _ _ _ _ _ _ _ _ _ _ _) ⟨rfl, rfl⟩ rfl ?_
    refine v_meq (sr_L B _ _ _ _ _ _ _ _ _ _ _ _ _ _ (F ||| bitC x) Hd Br li wi) ?_
    refine v_goto (tgt := 85) g dX3_tellGround_44 (by decide) ?_
    exact v_vret g E dX3_tellGround_85 rfl ⟨rfl, rfl, by simp [grd, *]⟩
  by_cases h1_1 : gr = 1
  · skip
    refine v_tableIn (tgt := 47) (off := 46) g dX3_tellGround_1 (by rw [h1_1]; decide) (by rw [h1_1]; rfl) (by decide) ?_
    refine v_aload_n g dX3_tellGround_47 0 rfl ?_
    refine v_get g dX3_tellGround_48 fl_RX3_12 (fr_Re B _ _ _ _ _ _ _ _ _) rfl ?_
    refine v_dup g dX3_tellGround_51 rfl ?_
    refine v_get g dX3_tellGround_52 fl_RX3_90 (fr_L B _ _ _ _ _ _ _ _ _ _ _ _ _ _) rfl ?_
    refine v_iload_n g dX3_tellGround_55 1 rfl ?_
    refine v_callSN (As := [.int x]) (r := some (.long (bitC x))) g dX3_tellGround_56 (k_X5_bit x) cl_X5_bit nl_RX3_86 sm_X5_bit rfl ⟨rfl, rfl, rfl⟩ ?_
    refine v_lor g dX3_tellGround_59 ?_
    refine v_put g dX3_tellGround_60 fl_RX3_90 (fr_L B _ _ _ _ _ _ _ _ _ _ _ _ _ _) ⟨rfl, rfl⟩ rfl ?_
    refine v_meq (sr_L B _ _ _ _ _ _ _ _ _ _ _ _ _ _ F (Hd ||| bitC x) Br li wi) ?_
    refine v_goto (tgt := 85) g dX3_tellGround_63 (by decide) ?_
    exact v_vret g E dX3_tellGround_85 rfl ⟨rfl, rfl, by simp [grd, *]⟩
  by_cases h1_2 : gr = 2
  · skip
    refine v_tableIn (tgt := 66) (off := 65) g dX3_tellGround_1 (by rw [h1_2]; decide) (by rw [h1_2]; rfl) (by decide) ?_
    refine v_aload_n g dX3_tellGround_66 0 rfl ?_
    refine v_get g dX3_tellGround_67 fl_RX3_12 (fr_Re B _ _ _ _ _ _ _ _ _) rfl ?_
    refine v_dup g dX3_tellGround_70 rfl ?_
    refine v_get g dX3_tellGround_71 fl_RX3_93 (fr_L B _ _ _ _ _ _ _ _ _ _ _ _ _ _) rfl ?_
    refine v_iload_n g dX3_tellGround_74 1 rfl ?_
    refine v_callSN (As := [.int x]) (r := some (.long (bitC x))) g dX3_tellGround_75 (k_X5_bit x) cl_X5_bit nl_RX3_86 sm_X5_bit rfl ⟨rfl, rfl, rfl⟩ ?_
    refine v_lor g dX3_tellGround_78 ?_
    refine v_put g dX3_tellGround_79 fl_RX3_93 (fr_L B _ _ _ _ _ _ _ _ _ _ _ _ _ _) ⟨rfl, rfl⟩ rfl ?_
    refine v_meq (sr_L B _ _ _ _ _ _ _ _ _ _ _ _ _ _ F Hd (Br ||| bitC x) li wi) ?_
    refine v_goto (tgt := 85) g dX3_tellGround_82 (by decide) ?_
    exact v_vret g E dX3_tellGround_85 rfl ⟨rfl, rfl, by simp [grd, *]⟩
  refine v_tableOut (tgt := 85) g dX3_tellGround_1 (by have q0 := lv_neT (a := 0) h1_0 rfl; have q1 := lv_neT (a := 1) h1_1 rfl; have q2 := lv_neT (a := 2) h1_2 rfl; omega) (by decide) ?_
  exact v_vret g E dX3_tellGround_85 rfl ⟨rfl, rfl, by simp [grd, *]⟩
theorem k_X3_readLine (hk : k = 0 ∨ k = 6) {le : Nat → Int32} (hle : cA C k = le) (hch : ∀ q, narrow .char (.int (le q)) = .int (le q)) (told len att : Int32) (nums : Nat → Int32) (L : LV) (O : OV) : Ctr l G 2 42 0 0 mX3_readLine [.ref (B + 22)] n (ren B (rdS C told len att k nums L O) ρ) (some (.int (zB (rdLine (aLen k) le len att L).1))) n (ren B (rdS C told len ((rdLine (aLen k) le len att L).2.1) k nums ((rdLine (aLen k) le len att L).2.2) O) ρ) := by
  refine Ctr.of (by decide +kernel) rfl (fun X g E => ?_)
  have loop : ∀ (st : Int32) (q w : Nat) (c a1 : Int32) (L1 : LV), w + q = 6 → rdLine (aLen k) le len att L = rlEnd (rlFrom (aLen k) le len st q w c a1 L1) → V X 0 0 n (ren B (rdS C told len a1 k nums L1 O) ρ) 37 [(3, .int c), (2, .int (nI w)), (1, .int st), (0, .ref (B + 22))] [] := by
    intro st q
    induction q with
    | zero =>
      intro w c a1 L1 hq he
      obtain ⟨F, Hd, Br, li, wi, lo⟩ := L1
      refine v_iload_n g dX3_readLine_37 1 rfl ?_
      refine v_bipush (v := 6) g dX3_readLine_38 (by decide) ?_
      refine v_icmp_ge (tgt := 77) g dX3_readLine_40 (by decide) (fun h40 => ?_) (fun h40 => absurd (nI_le (a := 6) (b := w) (by omega) (by omega)) h40)
      refine v_iload_n g dX3_readLine_77 0 rfl ?_
      refine v_bipush (v := 59) g dX3_readLine_78 (by decide) ?_
      refine v_icmp_ne (tgt := 108) g dX3_readLine_80 (by decide) (fun h80 => ?_) (fun h80 => ?_)
      · skip
        refine v_iconst (v := 0) g dX3_readLine_108 (by decide) ?_
        exact v_zret g E dX3_readLine_109 rfl rfl ⟨by first | (rw [he]; simp [rlFrom, rlEnd, zB, *]; done) | (subst_vars; rw [he]; simp [rlFrom, rlEnd, zB, *]; done), rfl, by first | (rw [he]; simp [rlFrom, rlEnd, *]; done) | (subst_vars; rw [he]; simp [rlFrom, rlEnd, *]; done)⟩
      · skip
        refine v_iload_n g dX3_readLine_83 1 rfl ?_
        refine v_if_eq (tgt := 108) g dX3_readLine_84 (by decide) (fun h84 => ?_) (fun h84 => ?_)
        · skip
          refine v_iconst (v := 0) g dX3_readLine_108 (by decide) ?_
          exact v_zret g E dX3_readLine_109 rfl rfl ⟨by first | (rw [he]; simp [rlFrom, rlEnd, zB, *]; done) | (subst_vars; rw [he]; simp [rlFrom, rlEnd, zB, *]; done), rfl, by first | (rw [he]; simp [rlFrom, rlEnd, *]; done) | (subst_vars; rw [he]; simp [rlFrom, rlEnd, *]; done)⟩
        · skip
          refine v_aload_n g dX3_readLine_87 3 rfl ?_
          refine v_get g dX3_readLine_88 fl_RX3_12 (fr_Re B _ _ _ _ _ _ _ _ _) rfl ?_
          refine v_get g dX3_readLine_91 fl_RX3_72 (fr_L B _ _ _ _ _ _ _ _ _ _ _ _ _ _) rfl ?_
          refine v_if_le (tgt := 110) g dX3_readLine_94 (by decide) (fun h94 => ?_) (fun h94 => ?_)
          · skip
            refine v_aload_n g dX3_readLine_110 3 rfl ?_
            refine v_get g dX3_readLine_111 fl_RX3_12 (fr_Re B _ _ _ _ _ _ _ _ _) rfl ?_
            refine v_iload_n g dX3_readLine_114 1 rfl ?_
            refine v_put g dX3_readLine_115 fl_RX3_75 (fr_L B _ _ _ _ _ _ _ _ _ _ _ _ _ _) ⟨rfl, rfl⟩ rfl ?_
            refine v_meq (sr_L B _ _ _ _ _ _ _ _ _ _ _ _ _ _ F Hd Br li (nI w)) ?_
            refine v_aload_n g dX3_readLine_118 3 rfl ?_
            refine v_get g dX3_readLine_119 fl_RX3_12 (fr_Re B _ _ _ _ _ _ _ _ _) rfl ?_
            refine v_dup g dX3_readLine_122 rfl ?_
            refine v_get g dX3_readLine_123 fl_RX3_72 (fr_L B _ _ _ _ _ _ _ _ _ _ _ _ _ _) rfl ?_
            refine v_iconst (v := 1) g dX3_readLine_126 (by decide) ?_
            refine v_iadd g dX3_readLine_127 ?_
            refine v_put g dX3_readLine_128 fl_RX3_72 (fr_L B _ _ _ _ _ _ _ _ _ _ _ _ _ _) ⟨rfl, rfl⟩ rfl ?_
            refine v_meq (sr_L B _ _ _ _ _ _ _ _ _ _ _ _ _ _ F Hd Br (li + 1) (nI w)) ?_
            refine v_iconst (v := 1) g dX3_readLine_131 (by decide) ?_
            exact v_zret g E dX3_readLine_132 rfl rfl ⟨by first | (rw [he]; simp [rlFrom, rlEnd, zB, *]; done) | (subst_vars; rw [he]; simp [rlFrom, rlEnd, zB, *]; done), rfl, by first | (rw [he]; simp [rlFrom, rlEnd, *]; done) | (subst_vars; rw [he]; simp [rlFrom, rlEnd, *]; done)⟩
          · skip
            refine v_iload_n g dX3_readLine_97 1 rfl ?_
            refine v_aload_n g dX3_readLine_98 3 rfl ?_
            refine v_get g dX3_readLine_99 fl_RX3_12 (fr_Re B _ _ _ _ _ _ _ _ _) rfl ?_
            refine v_get g dX3_readLine_102 fl_RX3_75 (fr_L B _ _ _ _ _ _ _ _ _ _ _ _ _ _) rfl ?_
            refine v_icmp_eq (tgt := 110) g dX3_readLine_105 (by decide) (fun h105 => ?_) (fun h105 => ?_)
            · skip
              refine v_aload_n g dX3_readLine_110 3 rfl ?_
              refine v_get g dX3_readLine_111 fl_RX3_12 (fr_Re B _ _ _ _ _ _ _ _ _) rfl ?_
              refine v_iload_n g dX3_readLine_114 1 rfl ?_
              refine v_put g dX3_readLine_115 fl_RX3_75 (fr_L B _ _ _ _ _ _ _ _ _ _ _ _ _ _) ⟨rfl, rfl⟩ rfl ?_
              refine v_meq (sr_L B _ _ _ _ _ _ _ _ _ _ _ _ _ _ F Hd Br li (nI w)) ?_
              refine v_aload_n g dX3_readLine_118 3 rfl ?_
              refine v_get g dX3_readLine_119 fl_RX3_12 (fr_Re B _ _ _ _ _ _ _ _ _) rfl ?_
              refine v_dup g dX3_readLine_122 rfl ?_
              refine v_get g dX3_readLine_123 fl_RX3_72 (fr_L B _ _ _ _ _ _ _ _ _ _ _ _ _ _) rfl ?_
              refine v_iconst (v := 1) g dX3_readLine_126 (by decide) ?_
              refine v_iadd g dX3_readLine_127 ?_
              refine v_put g dX3_readLine_128 fl_RX3_72 (fr_L B _ _ _ _ _ _ _ _ _ _ _ _ _ _) ⟨rfl, rfl⟩ rfl ?_
              refine v_meq (sr_L B _ _ _ _ _ _ _ _ _ _ _ _ _ _ F Hd Br (li + 1) (nI w)) ?_
              refine v_iconst (v := 1) g dX3_readLine_131 (by decide) ?_
              exact v_zret g E dX3_readLine_132 rfl rfl ⟨by first | (rw [he]; simp [rlFrom, rlEnd, zB, *]; done) | (subst_vars; rw [he]; simp [rlFrom, rlEnd, zB, *]; done), rfl, by first | (rw [he]; simp [rlFrom, rlEnd, *]; done) | (subst_vars; rw [he]; simp [rlFrom, rlEnd, *]; done)⟩
            · skip
              refine v_iconst (v := 0) g dX3_readLine_108 (by decide) ?_
              exact v_zret g E dX3_readLine_109 rfl rfl ⟨by first | (rw [he]; simp [rlFrom, rlEnd, zB, *]; done) | (subst_vars; rw [he]; simp [rlFrom, rlEnd, zB, *]; done), rfl, by first | (rw [he]; simp [rlFrom, rlEnd, *]; done) | (subst_vars; rw [he]; simp [rlFrom, rlEnd, *]; done)⟩
    | succ q ih =>
      intro w c a1 L1 hq he
      obtain ⟨F, Hd, Br, li, wi, lo⟩ := L1
      refine v_iload_n g dX3_readLine_37 1 rfl ?_
      refine v_bipush (v := 6) g dX3_readLine_38 (by decide) ?_
      refine v_icmp_ge (tgt := 77) g dX3_readLine_40 (by decide) (fun h40 => absurd h40 (nI_ge (a := w) (b := 6) (by omega) (by decide))) (fun h40 => ?_)
      refine v_iload_n g dX3_readLine_43 0 rfl ?_
      refine v_bipush (v := 48) g dX3_readLine_44 (by decide) ?_
      refine v_icmp_lt (tgt := 77) g dX3_readLine_46 (by decide) (fun h46 => ?_) (fun h46 => ?_)
      · skip
        refine v_iload_n g dX3_readLine_77 0 rfl ?_
        refine v_bipush (v := 59) g dX3_readLine_78 (by decide) ?_
        refine v_icmp_ne (tgt := 108) g dX3_readLine_80 (by decide) (fun h80 => ?_) (fun h80 => ?_)
        · skip
          refine v_iconst (v := 0) g dX3_readLine_108 (by decide) ?_
          exact v_zret g E dX3_readLine_109 rfl rfl ⟨by first | (rw [he]; simp [rlFrom, rlEnd, zB, *]; done) | (subst_vars; rw [he]; simp [rlFrom, rlEnd, zB, *]; done), rfl, by first | (rw [he]; simp [rlFrom, rlEnd, *]; done) | (subst_vars; rw [he]; simp [rlFrom, rlEnd, *]; done)⟩
        · skip
          refine v_iload_n g dX3_readLine_83 1 rfl ?_
          refine v_if_eq (tgt := 108) g dX3_readLine_84 (by decide) (fun h84 => ?_) (fun h84 => ?_)
          · skip
            refine v_iconst (v := 0) g dX3_readLine_108 (by decide) ?_
            exact v_zret g E dX3_readLine_109 rfl rfl ⟨by first | (rw [he]; simp [rlFrom, rlEnd, zB, *]; done) | (subst_vars; rw [he]; simp [rlFrom, rlEnd, zB, *]; done), rfl, by first | (rw [he]; simp [rlFrom, rlEnd, *]; done) | (subst_vars; rw [he]; simp [rlFrom, rlEnd, *]; done)⟩
          · skip
            refine v_aload_n g dX3_readLine_87 3 rfl ?_
            refine v_get g dX3_readLine_88 fl_RX3_12 (fr_Re B _ _ _ _ _ _ _ _ _) rfl ?_
            refine v_get g dX3_readLine_91 fl_RX3_72 (fr_L B _ _ _ _ _ _ _ _ _ _ _ _ _ _) rfl ?_
            refine v_if_le (tgt := 110) g dX3_readLine_94 (by decide) (fun h94 => ?_) (fun h94 => ?_)
            · skip
              refine v_aload_n g dX3_readLine_110 3 rfl ?_
              refine v_get g dX3_readLine_111 fl_RX3_12 (fr_Re B _ _ _ _ _ _ _ _ _) rfl ?_
              refine v_iload_n g dX3_readLine_114 1 rfl ?_
              refine v_put g dX3_readLine_115 fl_RX3_75 (fr_L B _ _ _ _ _ _ _ _ _ _ _ _ _ _) ⟨rfl, rfl⟩ rfl ?_
              refine v_meq (sr_L B _ _ _ _ _ _ _ _ _ _ _ _ _ _ F Hd Br li (nI w)) ?_
              refine v_aload_n g dX3_readLine_118 3 rfl ?_
              refine v_get g dX3_readLine_119 fl_RX3_12 (fr_Re B _ _ _ _ _ _ _ _ _) rfl ?_
              refine v_dup g dX3_readLine_122 rfl ?_
              refine v_get g dX3_readLine_123 fl_RX3_72 (fr_L B _ _ _ _ _ _ _ _ _ _ _ _ _ _) rfl ?_
              refine v_iconst (v := 1) g dX3_readLine_126 (by decide) ?_
              refine v_iadd g dX3_readLine_127 ?_
              refine v_put g dX3_readLine_128 fl_RX3_72 (fr_L B _ _ _ _ _ _ _ _ _ _ _ _ _ _) ⟨rfl, rfl⟩ rfl ?_
              refine v_meq (sr_L B _ _ _ _ _ _ _ _ _ _ _ _ _ _ F Hd Br (li + 1) (nI w)) ?_
              refine v_iconst (v := 1) g dX3_readLine_131 (by decide) ?_
              exact v_zret g E dX3_readLine_132 rfl rfl ⟨by first | (rw [he]; simp [rlFrom, rlEnd, zB, *]; done) | (subst_vars; rw [he]; simp [rlFrom, rlEnd, zB, *]; done), rfl, by first | (rw [he]; simp [rlFrom, rlEnd, *]; done) | (subst_vars; rw [he]; simp [rlFrom, rlEnd, *]; done)⟩
            · skip
              refine v_iload_n g dX3_readLine_97 1 rfl ?_
              refine v_aload_n g dX3_readLine_98 3 rfl ?_
              refine v_get g dX3_readLine_99 fl_RX3_12 (fr_Re B _ _ _ _ _ _ _ _ _) rfl ?_
              refine v_get g dX3_readLine_102 fl_RX3_75 (fr_L B _ _ _ _ _ _ _ _ _ _ _ _ _ _) rfl ?_
              refine v_icmp_eq (tgt := 110) g dX3_readLine_105 (by decide) (fun h105 => ?_) (fun h105 => ?_)
              · skip
                refine v_aload_n g dX3_readLine_110 3 rfl ?_
                refine v_get g dX3_readLine_111 fl_RX3_12 (fr_Re B _ _ _ _ _ _ _ _ _) rfl ?_
                refine v_iload_n g dX3_readLine_114 1 rfl ?_
                refine v_put g dX3_readLine_115 fl_RX3_75 (fr_L B _ _ _ _ _ _ _ _ _ _ _ _ _ _) ⟨rfl, rfl⟩ rfl ?_
                refine v_meq (sr_L B _ _ _ _ _ _ _ _ _ _ _ _ _ _ F Hd Br li (nI w)) ?_
                refine v_aload_n g dX3_readLine_118 3 rfl ?_
                refine v_get g dX3_readLine_119 fl_RX3_12 (fr_Re B _ _ _ _ _ _ _ _ _) rfl ?_
                refine v_dup g dX3_readLine_122 rfl ?_
                refine v_get g dX3_readLine_123 fl_RX3_72 (fr_L B _ _ _ _ _ _ _ _ _ _ _ _ _ _) rfl ?_
                refine v_iconst (v := 1) g dX3_readLine_126 (by decide) ?_
                refine v_iadd g dX3_readLine_127 ?_
                refine v_put g dX3_readLine_128 fl_RX3_72 (fr_L B _ _ _ _ _ _ _ _ _ _ _ _ _ _) ⟨rfl, rfl⟩ rfl ?_
                refine v_meq (sr_L B _ _ _ _ _ _ _ _ _ _ _ _ _ _ F Hd Br (li + 1) (nI w)) ?_
                refine v_iconst (v := 1) g dX3_readLine_131 (by decide) ?_
                exact v_zret g E dX3_readLine_132 rfl rfl ⟨by first | (rw [he]; simp [rlFrom, rlEnd, zB, *]; done) | (subst_vars; rw [he]; simp [rlFrom, rlEnd, zB, *]; done), rfl, by first | (rw [he]; simp [rlFrom, rlEnd, *]; done) | (subst_vars; rw [he]; simp [rlFrom, rlEnd, *]; done)⟩
              · skip
                refine v_iconst (v := 0) g dX3_readLine_108 (by decide) ?_
                exact v_zret g E dX3_readLine_109 rfl rfl ⟨by first | (rw [he]; simp [rlFrom, rlEnd, zB, *]; done) | (subst_vars; rw [he]; simp [rlFrom, rlEnd, zB, *]; done), rfl, by first | (rw [he]; simp [rlFrom, rlEnd, *]; done) | (subst_vars; rw [he]; simp [rlFrom, rlEnd, *]; done)⟩
      · skip
        refine v_iload_n g dX3_readLine_49 0 rfl ?_
        refine v_bipush (v := 51) g dX3_readLine_50 (by decide) ?_
        refine v_icmp_gt (tgt := 77) g dX3_readLine_52 (by decide) (fun h52 => ?_) (fun h52 => ?_)
        · skip
          refine v_iload_n g dX3_readLine_77 0 rfl ?_
          refine v_bipush (v := 59) g dX3_readLine_78 (by decide) ?_
          refine v_icmp_ne (tgt := 108) g dX3_readLine_80 (by decide) (fun h80_2 => ?_) (fun h80_2 => ?_)
          · skip
            refine v_iconst (v := 0) g dX3_readLine_108 (by decide) ?_
            exact v_zret g E dX3_readLine_109 rfl rfl ⟨by first | (rw [he]; simp [rlFrom, rlEnd, zB, *]; done) | (subst_vars; rw [he]; simp [rlFrom, rlEnd, zB, *]; done), rfl, by first | (rw [he]; simp [rlFrom, rlEnd, *]; done) | (subst_vars; rw [he]; simp [rlFrom, rlEnd, *]; done)⟩
          · skip
            refine v_iload_n g dX3_readLine_83 1 rfl ?_
            refine v_if_eq (tgt := 108) g dX3_readLine_84 (by decide) (fun h84_2 => ?_) (fun h84_2 => ?_)
            · skip
              refine v_iconst (v := 0) g dX3_readLine_108 (by decide) ?_
              exact v_zret g E dX3_readLine_109 rfl rfl ⟨by first | (rw [he]; simp [rlFrom, rlEnd, zB, *]; done) | (subst_vars; rw [he]; simp [rlFrom, rlEnd, zB, *]; done), rfl, by first | (rw [he]; simp [rlFrom, rlEnd, *]; done) | (subst_vars; rw [he]; simp [rlFrom, rlEnd, *]; done)⟩
            · skip
              refine v_aload_n g dX3_readLine_87 3 rfl ?_
              refine v_get g dX3_readLine_88 fl_RX3_12 (fr_Re B _ _ _ _ _ _ _ _ _) rfl ?_
              refine v_get g dX3_readLine_91 fl_RX3_72 (fr_L B _ _ _ _ _ _ _ _ _ _ _ _ _ _) rfl ?_
              refine v_if_le (tgt := 110) g dX3_readLine_94 (by decide) (fun h94_2 => ?_) (fun h94_2 => ?_)
              · skip
                refine v_aload_n g dX3_readLine_110 3 rfl ?_
                refine v_get g dX3_readLine_111 fl_RX3_12 (fr_Re B _ _ _ _ _ _ _ _ _) rfl ?_
                refine v_iload_n g dX3_readLine_114 1 rfl ?_
                refine v_put g dX3_readLine_115 fl_RX3_75 (fr_L B _ _ _ _ _ _ _ _ _ _ _ _ _ _) ⟨rfl, rfl⟩ rfl ?_
                refine v_meq (sr_L B _ _ _ _ _ _ _ _ _ _ _ _ _ _ F Hd Br li (nI w)) ?_
                refine v_aload_n g dX3_readLine_118 3 rfl ?_
                refine v_get g dX3_readLine_119 fl_RX3_12 (fr_Re B _ _ _ _ _ _ _ _ _) rfl ?_
                refine v_dup g dX3_readLine_122 rfl ?_
                refine v_get g dX3_readLine_123 fl_RX3_72 (fr_L B _ _ _ _ _ _ _ _ _ _ _ _ _ _) rfl ?_
                refine v_iconst (v := 1) g dX3_readLine_126 (by decide) ?_
                refine v_iadd g dX3_readLine_127 ?_
                refine v_put g dX3_readLine_128 fl_RX3_72 (fr_L B _ _ _ _ _ _ _ _ _ _ _ _ _ _) ⟨rfl, rfl⟩ rfl ?_
                refine v_meq (sr_L B _ _ _ _ _ _ _ _ _ _ _ _ _ _ F Hd Br (li + 1) (nI w)) ?_
                refine v_iconst (v := 1) g dX3_readLine_131 (by decide) ?_
                exact v_zret g E dX3_readLine_132 rfl rfl ⟨by first | (rw [he]; simp [rlFrom, rlEnd, zB, *]; done) | (subst_vars; rw [he]; simp [rlFrom, rlEnd, zB, *]; done), rfl, by first | (rw [he]; simp [rlFrom, rlEnd, *]; done) | (subst_vars; rw [he]; simp [rlFrom, rlEnd, *]; done)⟩
              · skip
                refine v_iload_n g dX3_readLine_97 1 rfl ?_
                refine v_aload_n g dX3_readLine_98 3 rfl ?_
                refine v_get g dX3_readLine_99 fl_RX3_12 (fr_Re B _ _ _ _ _ _ _ _ _) rfl ?_
                refine v_get g dX3_readLine_102 fl_RX3_75 (fr_L B _ _ _ _ _ _ _ _ _ _ _ _ _ _) rfl ?_
                refine v_icmp_eq (tgt := 110) g dX3_readLine_105 (by decide) (fun h105_2 => ?_) (fun h105_2 => ?_)
                · skip
                  refine v_aload_n g dX3_readLine_110 3 rfl ?_
                  refine v_get g dX3_readLine_111 fl_RX3_12 (fr_Re B _ _ _ _ _ _ _ _ _) rfl ?_
                  refine v_iload_n g dX3_readLine_114 1 rfl ?_
                  refine v_put g dX3_readLine_115 fl_RX3_75 (fr_L B _ _ _ _ _ _ _ _ _ _ _ _ _ _) ⟨rfl, rfl⟩ rfl ?_
                  refine v_meq (sr_L B _ _ _ _ _ _ _ _ _ _ _ _ _ _ F Hd Br li (nI w)) ?_
                  refine v_aload_n g dX3_readLine_118 3 rfl ?_
                  refine v_get g dX3_readLine_119 fl_RX3_12 (fr_Re B _ _ _ _ _ _ _ _ _) rfl ?_
                  refine v_dup g dX3_readLine_122 rfl ?_
                  refine v_get g dX3_readLine_123 fl_RX3_72 (fr_L B _ _ _ _ _ _ _ _ _ _ _ _ _ _) rfl ?_
                  refine v_iconst (v := 1) g dX3_readLine_126 (by decide) ?_
                  refine v_iadd g dX3_readLine_127 ?_
                  refine v_put g dX3_readLine_128 fl_RX3_72 (fr_L B _ _ _ _ _ _ _ _ _ _ _ _ _ _) ⟨rfl, rfl⟩ rfl ?_
                  refine v_meq (sr_L B _ _ _ _ _ _ _ _ _ _ _ _ _ _ F Hd Br (li + 1) (nI w)) ?_
                  refine v_iconst (v := 1) g dX3_readLine_131 (by decide) ?_
                  exact v_zret g E dX3_readLine_132 rfl rfl ⟨by first | (rw [he]; simp [rlFrom, rlEnd, zB, *]; done) | (subst_vars; rw [he]; simp [rlFrom, rlEnd, zB, *]; done), rfl, by first | (rw [he]; simp [rlFrom, rlEnd, *]; done) | (subst_vars; rw [he]; simp [rlFrom, rlEnd, *]; done)⟩
                · skip
                  refine v_iconst (v := 0) g dX3_readLine_108 (by decide) ?_
                  exact v_zret g E dX3_readLine_109 rfl rfl ⟨by first | (rw [he]; simp [rlFrom, rlEnd, zB, *]; done) | (subst_vars; rw [he]; simp [rlFrom, rlEnd, zB, *]; done), rfl, by first | (rw [he]; simp [rlFrom, rlEnd, *]; done) | (subst_vars; rw [he]; simp [rlFrom, rlEnd, *]; done)⟩
        · skip
          refine v_aload_n g dX3_readLine_55 3 rfl ?_
          refine v_iload_n g dX3_readLine_56 2 rfl ?_
          refine v_iload_n g dX3_readLine_57 1 rfl ?_
          refine v_iadd g dX3_readLine_58 ?_
          refine v_iload_n g dX3_readLine_59 0 rfl ?_
          refine v_bipush (v := 48) g dX3_readLine_60 (by decide) ?_
          refine v_isub g dX3_readLine_62 ?_
          refine v_callV (As := [.int (st + nI w), .int (c - 48)]) (r := none) g dX3_readLine_63 (k_X3_tellGround told len a1 nums F Hd Br li wi lo O (st + nI w) (c - 48)) cl_X3_tellGround ml_RX3_78 im_X3_tellGround (fr_Re B _ _ _ _ _ _ _ _ _) rfl rfl ⟨rfl, rfl, rfl⟩ ?_
          refine v_iinc (v := nI (w + 1)) (ls' := [(2, .int (nI (w + 1))), (3, .int c), (1, .int st), (0, .ref (B + 22))]) g dX3_readLine_66 1 rfl (nI_1 w) rfl rfl ?_
          refine v_aload_n g dX3_readLine_69 3 rfl ?_
          refine v_callV (As := []) (r := some (.int (nlV (aLen k) le len a1))) g dX3_readLine_70 (k_X3_nextLetter hk hle hch told len a1 nums (grd (F, Hd, Br, li, wi, lo) (st + nI w) (c - 48)) O) cl_X3_nextLetter ml_RX3_56 im_X3_nextLetter (fr_Re B _ _ _ _ _ _ _ _ _) rfl rfl ⟨rfl, rfl, rfl⟩ ?_
          refine v_istore_n (ls' := [(3, .int (nlV (aLen k) le len a1)), (2, .int (nI (w + 1))), (1, .int st), (0, .ref (B + 22))]) g dX3_readLine_73 rfl rfl ?_
          refine v_goto (tgt := 37) g dX3_readLine_74 (by decide) ?_
          refine v_sub (ls' := [(3, .int (nlV (aLen k) le len a1)), (2, .int (nI (w + 1))), (1, .int st), (0, .ref (B + 22))]) [0, 1, 2, 3] rfl ?_
          exact ih (w + 1) _ _ _ (by omega) (by rw [he, rlFrom, if_neg h46, if_neg h52])
  obtain ⟨F, Hd, Br, li, wi, lo⟩ := L
  refine v_sub (ls' := [(0, .ref (B + 22))]) [0] rfl ?_
  refine v_aload_n g dX3_readLine_0 0 rfl ?_
  refine v_get g dX3_readLine_1 fl_RX3_12 (fr_Re B _ _ _ _ _ _ _ _ _) rfl ?_
  refine v_get g dX3_readLine_4 fl_RX3_72 (fr_L B _ _ _ _ _ _ _ _ _ _ _ _ _ _) rfl ?_
  refine v_bipush (v := 6) g dX3_readLine_7 (by decide) ?_
  refine v_icmp_lt (tgt := 14) g dX3_readLine_9 (by decide) (fun h9 => ?_) (fun h9 => ?_)
  · skip
    refine v_aload_n g dX3_readLine_14 0 rfl ?_
    refine v_get g dX3_readLine_15 fl_RX3_12 (fr_Re B _ _ _ _ _ _ _ _ _) rfl ?_
    refine v_get g dX3_readLine_18 fl_RX3_72 (fr_L B _ _ _ _ _ _ _ _ _ _ _ _ _ _) rfl ?_
    refine v_aload_n g dX3_readLine_21 0 rfl ?_
    refine v_get g dX3_readLine_22 fl_RX3_12 (fr_Re B _ _ _ _ _ _ _ _ _) rfl ?_
    refine v_get g dX3_readLine_25 fl_RX3_75 (fr_L B _ _ _ _ _ _ _ _ _ _ _ _ _ _) rfl ?_
    refine v_imul g dX3_readLine_28 ?_
    refine v_istore_n (ls' := [(1, .int (li * wi)), (0, .ref (B + 22))]) g dX3_readLine_29 rfl rfl ?_
    refine v_iconst (v := 0) g dX3_readLine_30 (by decide) ?_
    refine v_istore_n (ls' := [(2, .int 0), (1, .int (li * wi)), (0, .ref (B + 22))]) g dX3_readLine_31 rfl rfl ?_
    refine v_aload_n g dX3_readLine_32 2 rfl ?_
    refine v_callV (As := []) (r := some (.int (nlV (aLen k) le len att))) g dX3_readLine_33 (k_X3_nextLetter hk hle hch told len att nums (F, Hd, Br, li, wi, lo) O) cl_X3_nextLetter ml_RX3_56 im_X3_nextLetter (fr_Re B _ _ _ _ _ _ _ _ _) rfl rfl ⟨rfl, rfl, rfl⟩ ?_
    refine v_istore_n (ls' := [(3, .int (nlV (aLen k) le len att)), (2, .int 0), (1, .int (li * wi)), (0, .ref (B + 22))]) g dX3_readLine_36 rfl rfl ?_
    refine v_sub (ls' := [(3, .int (nlV (aLen k) le len att)), (2, .int 0), (1, .int (li * wi)), (0, .ref (B + 22))]) [0, 1, 2, 3] rfl ?_
    exact loop _ 6 0 _ _ _ rfl (by rw [rdLine, if_pos h9])
  · skip
    refine v_iconst (v := 0) g dX3_readLine_12 (by decide) ?_
    exact v_zret g E dX3_readLine_13 rfl rfl ⟨by simp [rdLine, zB, *], rfl, by simp [rdLine, *]⟩
theorem holdsC_nI {li wi x : Int32} (h : holdsC li wi x = true) : ∃ j : Nat, j < 36 ∧ x = nI j := by
  unfold holdsC at h
  by_cases h0 : x < 0
  · rw [if_pos h0] at h; cases h
  · rw [if_neg h0] at h
    by_cases h1 : li * wi ≤ x
    · rw [if_pos h1] at h; cases h
    · rw [if_neg h1] at h
      by_cases h2 : (36 : Int32) ≤ x
      · rw [if_pos h2] at h; cases h
      · exact vp_in_of (vin_c (m := 36) rfl h0 h2) (by decide)
theorem k_X3_giveCells (told len att : Int32) (nums : Nat → Int32) (F Hd Br : Int64) (li wi : Int32) (lo : Nat → Int32) (O : OV) : Ctr l G 1 21 0 0 mX3_giveCells [.ref (B + 22)] n (ren B (rdS C told len att k nums (F, Hd, Br, li, wi, lo) O) ρ) (some (.int (zB (giveCs told nums (F, Hd, Br, li, wi, lo)).1))) n (ren B (rdS C told len att k nums ((giveCs told nums (F, Hd, Br, li, wi, lo)).2) O) ρ) := by
  refine Ctr.of (by decide +kernel) rfl (fun X g E => ?_)
  have loop : ∀ (q x : Nat) (lo1 : Nat → Int32), x + q = 36 → giveCs told nums (F, Hd, Br, li, wi, lo) = (true, (F, Hd, Br, li, wi, gcFrom (nums 1) (nums 2) q x lo1)) → V X 0 0 n (ren B (rdS C told len att k nums (F, Hd, Br, li, wi, lo1) O) ρ) 74 [(1, .int (nI x)), (0, .ref (B + 22))] [] := by
    intro q
    induction q with
    | zero =>
      intro x lo1 hq he
      refine v_iload_n g dX3_giveCells_74 0 rfl ?_
      refine v_aload_n g dX3_giveCells_75 1 rfl ?_
      refine v_get g dX3_giveCells_76 fl_RX3_27 (fr_Re B _ _ _ _ _ _ _ _ _) rfl ?_
      refine v_iconst (v := 1) g dX3_giveCells_79 (by decide) ?_
      refine v_iald g dX3_giveCells_80 (fr_N B _ _ _ _ _ _ _ _ _) (by unfold vp_in; decide) (v_eqi (y := (nums 1)) rfl ?_)
      refine v_icmp_gt (tgt := 111) g dX3_giveCells_81 (by decide) (fun h81 => ?_) (fun h81 => ?_)
      · skip
        refine v_iconst (v := 1) g dX3_giveCells_111 (by decide) ?_
        exact v_zret g E dX3_giveCells_112 rfl rfl ⟨by rw [he]; rfl, rfl, by rw [he]; rfl⟩
      · skip
        refine v_iload_n g dX3_giveCells_84 0 rfl ?_
        refine v_bipush (v := 36) g dX3_giveCells_85 (by decide) ?_
        refine v_icmp_ge (tgt := 111) g dX3_giveCells_87 (by decide) (fun h87 => ?_) (fun h87 => absurd (nI_le (a := 36) (b := x) (by omega) (by omega)) h87)
        refine v_iconst (v := 1) g dX3_giveCells_111 (by decide) ?_
        exact v_zret g E dX3_giveCells_112 rfl rfl ⟨by rw [he]; rfl, rfl, by rw [he]; rfl⟩
    | succ q ih =>
      intro x lo1 hq he
      refine v_iload_n g dX3_giveCells_74 0 rfl ?_
      refine v_aload_n g dX3_giveCells_75 1 rfl ?_
      refine v_get g dX3_giveCells_76 fl_RX3_27 (fr_Re B _ _ _ _ _ _ _ _ _) rfl ?_
      refine v_iconst (v := 1) g dX3_giveCells_79 (by decide) ?_
      refine v_iald g dX3_giveCells_80 (fr_N B _ _ _ _ _ _ _ _ _) (by unfold vp_in; decide) (v_eqi (y := (nums 1)) rfl ?_)
      refine v_icmp_gt (tgt := 111) g dX3_giveCells_81 (by decide) (fun h81 => ?_) (fun h81 => ?_)
      · skip
        refine v_iconst (v := 1) g dX3_giveCells_111 (by decide) ?_
        exact v_zret g E dX3_giveCells_112 rfl rfl ⟨by rw [he]; rfl, rfl, by rw [he]; simp [gcFrom, *]⟩
      · skip
        refine v_iload_n g dX3_giveCells_84 0 rfl ?_
        refine v_bipush (v := 36) g dX3_giveCells_85 (by decide) ?_
        refine v_icmp_ge (tgt := 111) g dX3_giveCells_87 (by decide) (fun h87 => absurd h87 (nI_ge (a := x) (b := 36) (by omega) (by decide))) (fun h87 => ?_)
        refine v_aload_n g dX3_giveCells_90 1 rfl ?_
        refine v_get g dX3_giveCells_91 fl_RX3_12 (fr_Re B _ _ _ _ _ _ _ _ _) rfl ?_
        refine v_get g dX3_giveCells_94 fl_RX3_110 (fr_L B _ _ _ _ _ _ _ _ _ _ _ _ _ _) rfl ?_
        refine v_iload_n g dX3_giveCells_97 0 rfl ?_
        refine v_aload_n g dX3_giveCells_98 1 rfl ?_
        refine v_get g dX3_giveCells_99 fl_RX3_27 (fr_Re B _ _ _ _ _ _ _ _ _) rfl ?_
        refine v_iconst (v := 2) g dX3_giveCells_102 (by decide) ?_
        refine v_iald g dX3_giveCells_103 (fr_N B _ _ _ _ _ _ _ _ _) (by unfold vp_in; decide) (v_eqi (y := (nums 2)) rfl ?_)
        refine v_iast g dX3_giveCells_104 (fr_Lo B _ _ _ _ _ _ _ _ _ _ _ _ _ _) (vp_in_nI (by omega) (by decide)) ?_
        rw [nI_clamp (n := x) (by omega)]
        refine v_meq (sr_Lo B _ _ _ _ _ _ _ _ _ _ _ _ _ _ (upd lo1 x (nums 2))) ?_
        refine v_iinc (v := nI (x + 1)) (ls' := [(1, .int (nI (x + 1))), (0, .ref (B + 22))]) g dX3_giveCells_105 0 rfl (nI_1 x) rfl rfl ?_
        refine v_goto (tgt := 74) g dX3_giveCells_108 (by decide) ?_
        refine v_sub (ls' := [(1, .int (nI (x + 1))), (0, .ref (B + 22))]) [0, 1] rfl ?_
        exact ih (x + 1) _ (by omega) (by rw [he, gcFrom, if_neg h81])
  refine v_sub (ls' := [(0, .ref (B + 22))]) [0] rfl ?_
  refine v_aload_n g dX3_giveCells_0 0 rfl ?_
  refine v_get g dX3_giveCells_1 fl_RX3_96 (fr_Re B _ _ _ _ _ _ _ _ _) rfl ?_
  refine v_iconst (v := 3) g dX3_giveCells_4 (by decide) ?_
  refine v_icmp_ne (tgt := 65) g dX3_giveCells_5 (by decide) (fun h5 => ?_) (fun h5 => ?_)
  · skip
    refine v_iconst (v := 0) g dX3_giveCells_65 (by decide) ?_
    exact v_zret g E dX3_giveCells_66 rfl rfl ⟨by simp [giveCs, gcOk, zB, *], rfl, by simp [giveCs, gcOk, *]⟩
  · skip
    refine v_aload_n g dX3_giveCells_8 0 rfl ?_
    refine v_get g dX3_giveCells_9 fl_RX3_12 (fr_Re B _ _ _ _ _ _ _ _ _) rfl ?_
    refine v_aload_n g dX3_giveCells_12 0 rfl ?_
    refine v_get g dX3_giveCells_13 fl_RX3_27 (fr_Re B _ _ _ _ _ _ _ _ _) rfl ?_
    refine v_iconst (v := 0) g dX3_giveCells_16 (by decide) ?_
    refine v_iald g dX3_giveCells_17 (fr_N B _ _ _ _ _ _ _ _ _) (by unfold vp_in; decide) (v_eqi (y := (nums 0)) rfl ?_)
    refine v_callV (As := [.int (nums 0)]) (r := some (.int (zB (holdsC li wi (nums 0))))) g dX3_giveCells_18 (k_X0_holds (fr_L B _ _ _ _ _ _ _ _ _ _ _ _ _ _) (nums 0)) cl_X0_holds ml_RX3_106 im_X0_holds (fr_L B _ _ _ _ _ _ _ _ _ _ _ _ _ _) rfl rfl ⟨rfl, rfl, rfl⟩ ?_
    refine v_if_eq (tgt := 65) g dX3_giveCells_21 (by decide) (fun h21 => ?_) (fun h21 => ?_)
    · skip
      have h21 := zB_f0 h21
      refine v_iconst (v := 0) g dX3_giveCells_65 (by decide) ?_
      exact v_zret g E dX3_giveCells_66 rfl rfl ⟨by simp [giveCs, gcOk, zB, *], rfl, by simp [giveCs, gcOk, *]⟩
    · skip
      have h21 := zB_t0 h21
      refine v_aload_n g dX3_giveCells_24 0 rfl ?_
      refine v_get g dX3_giveCells_25 fl_RX3_12 (fr_Re B _ _ _ _ _ _ _ _ _) rfl ?_
      refine v_aload_n g dX3_giveCells_28 0 rfl ?_
      refine v_get g dX3_giveCells_29 fl_RX3_27 (fr_Re B _ _ _ _ _ _ _ _ _) rfl ?_
      refine v_iconst (v := 1) g dX3_giveCells_32 (by decide) ?_
      refine v_iald g dX3_giveCells_33 (fr_N B _ _ _ _ _ _ _ _ _) (by unfold vp_in; decide) (v_eqi (y := (nums 1)) rfl ?_)
      refine v_callV (As := [.int (nums 1)]) (r := some (.int (zB (holdsC li wi (nums 1))))) g dX3_giveCells_34 (k_X0_holds (fr_L B _ _ _ _ _ _ _ _ _ _ _ _ _ _) (nums 1)) cl_X0_holds ml_RX3_106 im_X0_holds (fr_L B _ _ _ _ _ _ _ _ _ _ _ _ _ _) rfl rfl ⟨rfl, rfl, rfl⟩ ?_
      refine v_if_eq (tgt := 65) g dX3_giveCells_37 (by decide) (fun h37 => ?_) (fun h37 => ?_)
      · skip
        have h37 := zB_f0 h37
        refine v_iconst (v := 0) g dX3_giveCells_65 (by decide) ?_
        exact v_zret g E dX3_giveCells_66 rfl rfl ⟨by simp [giveCs, gcOk, zB, *], rfl, by simp [giveCs, gcOk, *]⟩
      · skip
        have h37 := zB_t0 h37
        refine v_aload_n g dX3_giveCells_40 0 rfl ?_
        refine v_get g dX3_giveCells_41 fl_RX3_27 (fr_Re B _ _ _ _ _ _ _ _ _) rfl ?_
        refine v_iconst (v := 1) g dX3_giveCells_44 (by decide) ?_
        refine v_iald g dX3_giveCells_45 (fr_N B _ _ _ _ _ _ _ _ _) (by unfold vp_in; decide) (v_eqi (y := (nums 1)) rfl ?_)
        refine v_aload_n g dX3_giveCells_46 0 rfl ?_
        refine v_get g dX3_giveCells_47 fl_RX3_27 (fr_Re B _ _ _ _ _ _ _ _ _) rfl ?_
        refine v_iconst (v := 0) g dX3_giveCells_50 (by decide) ?_
        refine v_iald g dX3_giveCells_51 (fr_N B _ _ _ _ _ _ _ _ _) (by unfold vp_in; decide) (v_eqi (y := (nums 0)) rfl ?_)
        refine v_icmp_lt (tgt := 65) g dX3_giveCells_52 (by decide) (fun h52 => ?_) (fun h52 => ?_)
        · skip
          refine v_iconst (v := 0) g dX3_giveCells_65 (by decide) ?_
          exact v_zret g E dX3_giveCells_66 rfl rfl ⟨by simp [giveCs, gcOk, zB, *], rfl, by simp [giveCs, gcOk, *]⟩
        · skip
          refine v_aload_n g dX3_giveCells_55 0 rfl ?_
          refine v_get g dX3_giveCells_56 fl_RX3_27 (fr_Re B _ _ _ _ _ _ _ _ _) rfl ?_
          refine v_iconst (v := 2) g dX3_giveCells_59 (by decide) ?_
          refine v_iald g dX3_giveCells_60 (fr_N B _ _ _ _ _ _ _ _ _) (by unfold vp_in; decide) (v_eqi (y := (nums 2)) rfl ?_)
          refine v_iconst (v := 4) g dX3_giveCells_61 (by decide) ?_
          refine v_icmp_lt (tgt := 67) g dX3_giveCells_62 (by decide) (fun h62 => ?_) (fun h62 => ?_)
          · skip
            refine v_aload_n g dX3_giveCells_67 0 rfl ?_
            refine v_get g dX3_giveCells_68 fl_RX3_27 (fr_Re B _ _ _ _ _ _ _ _ _) rfl ?_
            refine v_iconst (v := 0) g dX3_giveCells_71 (by decide) ?_
            refine v_iald g dX3_giveCells_72 (fr_N B _ _ _ _ _ _ _ _ _) (by unfold vp_in; decide) (v_eqi (y := (nums 0)) rfl ?_)
            refine v_istore_n (ls' := [(1, .int (nums 0)), (0, .ref (B + 22))]) g dX3_giveCells_73 rfl rfl ?_
            have eg : gcOk told nums li wi = true := by simp [gcOk, *]
            obtain ⟨j, hj, ej⟩ := holdsC_nI h21
            rw [ej]
            refine loop (36 - j) j lo (by omega) ?_
            have ec : (nums 0).toNatClampNeg = j := by rw [ej, nI_clamp (by omega)]
            simp only [giveCs, eg, ec, ↓reduceIte]
          · skip
            refine v_iconst (v := 0) g dX3_giveCells_65 (by decide) ?_
            exact v_zret g E dX3_giveCells_66 rfl rfl ⟨by simp [giveCs, gcOk, zB, *], rfl, by simp [giveCs, gcOk, *]⟩
end C5
