/-! CLASS: its constructor (2) -/
def zL : LV := (0, 0, 0, 0, 0, fun _ => 0)
def zO : OV := (0, 0, 0, 0, 0, 0, (fun _ => 0), fun _ => (0, 0, 0, 0, fun _ => 0))
def zC : CS := ((0, 0), (fun k => if k = 6 then ttx else fun _ => 0), (fun _ => zL), (fun _ => zO), (fun j => (0, fun k => if j = 0 then 3 + k else 11 + k)), (0, 0, 0, 35), fun _ => 0)
theorem zc_or (o : Nat) : ∀ i, i < 13 → ∀ d, d < 9 → ∀ la a, la = adL o (landOf i) → a = adO o i → orBlk la a d = cellC o zC (dec (oB i + d)) := by
  intro i hi d hd la a hla ha
  subst hla; subst ha
  match d, hd with
  | 0, _ => rw [Nat.add_zero, (dec_O i hi).1]; rfl
  | 1, _ => rw [(dec_Rs i hi).1]; simp only [orBlk, cellC, adO, adR, Nat.add_assoc]
  | 2, _ => rw [(dec_Ow i hi).1]; rfl
  | 3, _ => rw [show oB i + 3 = oB i + 3 + 2 * 0 from rfl, (dec_R i hi 0 (by decide)).1]; rfl
  | 4, _ => rw [show oB i + 4 = oB i + 4 + 2 * 0 from rfl, (dec_T i hi 0 (by decide)).1]; rfl
  | 5, _ => rw [show oB i + 5 = oB i + 3 + 2 * 1 from rfl, (dec_R i hi 1 (by decide)).1]; rfl
  | 6, _ => rw [show oB i + 6 = oB i + 4 + 2 * 1 from rfl, (dec_T i hi 1 (by decide)).1]; rfl
  | 7, _ => rw [show oB i + 7 = oB i + 3 + 2 * 2 from rfl, (dec_R i hi 2 (by decide)).1]; rfl
  | 8, _ => rw [show oB i + 8 = oB i + 4 + 2 * 2 from rfl, (dec_T i hi 2 (by decide)).1]; rfl
  | d + 9, h => exact absurd h (by omega)
theorem rdb_or (o : Nat) : ∀ e, e < 9 → readBlk (o + 22) (e + 3) = orBlk (o + 23) (o + 25) e := by
  intro e he
  match e, he with
  | 0, _ => rfl
  | 1, _ => rfl
  | 2, _ => rfl
  | 3, _ => rfl
  | 4, _ => rfl
  | 5, _ => rfl
  | 6, _ => rfl
  | 7, _ => rfl
  | 8, _ => rfl
  | k + 9, h => exact absurd h (by omega)
theorem zc_la (o k i : Nat) (h : 2 < i) : o + 2 = adL o (landOf (i + k)) := by
  unfold adL landOf
  rw [if_neg (by omega)]
  rfl
theorem zc_oB3 (k : Nat) (h : k < 8) : oB (3 + k) = 38 + 9 * k := by
  unfold oB
  rw [if_neg (by omega), if_neg (by omega), if_neg (by omega), if_pos (by omega)]
  omega
theorem zc_oB11 (k : Nat) (h : k < 2) : oB (11 + k) = 112 + 9 * k := by
  unfold oB
  rw [if_neg (by omega), if_neg (by omega), if_neg (by omega), if_neg (by omega)]
  omega
theorem zc_a3 (o k : Nat) (h : k < 8) : o + 36 + 2 + 9 * k = adO o (3 + k) := by
  unfold adO
  rw [zc_oB3 k h]
  omega
theorem zc_a11 (o k : Nat) (h : k < 2) : o + 110 + 2 + 9 * k = adO o (11 + k) := by
  unfold adO
  rw [zc_oB11 k h]
  omega
theorem v_ren {X : CX} {a b n : Nat} {μ μ0 : Mu} {pc : Nat} {ls : List (Nat × Value)} {st : List Value} {o : Nat} {C : CS} (h1 : ∀ d, d < 136 → μ (o + d) = some (cellC o C (dec d))) (h2 : ∀ a, ¬ (o ≤ a ∧ a < o + 136) → μ a = μ0 a) (k : V X a b n (ren o C μ0) pc ls st) : V X a b n μ pc ls st := by
  refine v_mem (fun q e hq => ?_) k
  unfold ren at hq
  by_cases hb : o ≤ q ∧ q < o + 136
  · rw [if_pos hb] at hq
    have := h1 (q - o) (by omega)
    rw [show o + (q - o) = q by omega] at this
    rw [this, hq]
  · rw [if_neg hb] at hq
    rw [h2 q hb, hq]
def iniS (C : CS) : CS := rdS1 C (minC 101 (nI 101)) 6 (rtRun 101 (cA C 6) 101 C).2
def ini1 (C : CS) : CS := sL C 0 (cpLand (cL C 0) (cL C 1))
def ini2 (C : CS) : CS := sO C 0 (copyC (cO C 0) (cO C 2))
/-- the class as it begins -/
def begC : CS := ini2 (ini1 (iniS zC))
theorem sc_nar_stx : ∀ q, q < 101 → narrow .char (.int (stx q)) = .int (stx q) := by decide +kernel
theorem zC_ch : ∀ q, narrow .char (.int (cA zC 6 q)) = .int (cA zC 6 q) := by
  intro q
  show narrow .char (.int (ttx q)) = .int (ttx q)
  by_cases h : q < 101
  · have h2 := stx_b q h
    rw [show ttx q = stx q from if_pos h]
    exact sc_nar_stx q h
  · rw [show ttx q = 0 from if_neg h]
    rfl
section C13
variable {l : Launch} {G : GG} {z : SG} {μ : Mu}
theorem k_X5_init {o : Nat} (hμ : μ o = some (.inr (5, [.null, .int 0, .null, .null, .null, .null, .null, .null, .null, .null, .null, .int 0, .null, .null]))) : CtrS l G z 6 135 135 1028 mX5_init [.ref o] (o + 1) μ none (o + 136) (ren o begC μ) := by
  refine CtrS.of (by decide +kernel) rfl (fun X g S E => ?_)
  refine v_sub (ls' := [(0, .ref o)]) [0] rfl ?_
  have rest : ∀ X : CX, GX X l G mX5_init 6 135 → EX X none (o + 136) (ren o begC μ) → V X 0 0 (o + 136) (ren o zC μ) 142 [(0, .ref o)] [.ref (o + 135)] := by
    intro X g E
    refine v_astore_n (ls' := [(1, .ref (adA o 6)), (0, .ref o)]) g dX5_init_142 rfl rfl ?_
    refine v_aload_n g dX5_init_143 1 rfl ?_
    refine v_get g dX5_init_144 fl_RX5_35 (rd_W o _ _) rfl ?_
    refine v_aload_n g dX5_init_147 0 rfl ?_
    refine v_aload_n g dX5_init_148 0 rfl ?_
    refine v_alen (v := 101) g dX5_init_149 (rd_A o _ _ (by decide)) rfl rfl ?_
    refine v_callV (As := [.ref (adA o 6), .int 101]) (r := some (.int ((rtRun 101 (cA zC 6) 101 zC).1))) g dX5_init_150 (k_readText (C := zC) (k := 6) (Or.inr rfl) zC_ch 101) cl_X3_readText ml_RX5_76 im_X3_readText (rd_Re o _ _) rfl rfl ⟨rfl, rfl, rfl⟩ ?_
    refine v_meq (μ' := ren o (iniS zC) μ) rfl ?_
    refine v_pop g dX5_init_153 rfl ?_
    refine v_aload_n g dX5_init_154 1 rfl ?_
    refine v_get g dX5_init_155 fl_RX5_16 (rd_W o _ _) rfl ?_
    refine v_aload_n g dX5_init_158 1 rfl ?_
    refine v_get g dX5_init_159 fl_RX5_35 (rd_W o _ _) rfl ?_
    refine v_get g dX5_init_162 fl_RX5_80 (rd_Re o _ _) rfl ?_
    refine v_callV (As := [.ref (adL o 1)]) (r := none) g dX5_init_165 (k_landCopy (C := iniS zC) (i := 0) (j := 1) (by decide) (by decide) (by decide)) cl_X0_copyFrom ml_RX5_81 im_X0_copyFrom (rd_L o _ _ (by decide)) rfl rfl ⟨rfl, rfl, rfl⟩ ?_
    refine v_meq (μ' := ren o (ini1 (iniS zC)) μ) rfl ?_
    refine v_aload_n g dX5_init_168 1 rfl ?_
    refine v_get g dX5_init_169 fl_RX5_25 (rd_W o _ _) rfl ?_
    refine v_aload_n g dX5_init_172 1 rfl ?_
    refine v_get g dX5_init_173 fl_RX5_35 (rd_W o _ _) rfl ?_
    refine v_get g dX5_init_176 fl_RX5_84 (rd_Re o _ _) rfl ?_
    refine v_callV (As := [.ref (adO o 2)]) (r := none) g dX5_init_179 (k_orCopyC (C := ini1 (iniS zC)) (i := 0) (j := 2) (by decide) (by decide) (by decide)) cl_X1_copyFrom ml_RX5_87 im_X1_copyFrom (rd_O o _ _ (by decide)) rfl rfl ⟨rfl, rfl, rfl⟩ ?_
    refine v_meq (μ' := ren o begC μ) rfl ?_
    exact v_vret g E dX5_init_182 rfl ⟨rfl, rfl, rfl⟩
  refine v_aload_n g dX5_init_0 0 rfl ?_
  refine v_objInit g dX5_init_1 oi_RX5_1 ⟨rfl, rfl⟩ ?_
  refine v_aload_n g dX5_init_4 0 rfl ?_
  refine v_sipush (v := 200) g dX5_init_5 (by decide) ?_
  refine v_newaC (a := 134) (b := 828) (N := 200) g dX5_init_8 ac_char (by decide) rfl (by decide) ?_
  refine v_neq (n' := o + 2) rfl ?_
  refine v_putF g dX5_init_10 rfl (fun _ _ _ h => (congrArg Prod.fst (Option.some.inj h)).symm) fl_RX5_9 (show _ = some ((Sum.inr (5, [.null, .int 0, .null, .null, .null, .null, .null, .null, .null, .null, .null, .int 0, .null, .null])) : Ce) from by (first | (simp [mset, blk, rowBlk, landBlk, orBlk, pastBlk, readBlk]; done) | (simp [mset, blk, rowBlk, landBlk, orBlk, hμ]; done) | (simp only [mset, blk]; repeat (first | rw [if_pos (by omega)] | rw [if_neg (by omega)])); first | rfl | (simp [rowBlk, landBlk, orBlk, pastBlk, readBlk]; done) | exact hμ)) ⟨rfl, rfl⟩ rfl ?_
  refine v_meq (μ' := mset _ (o) (.inr (5, [.ref (o + 1), .int 0, .null, .null, .null, .null, .null, .null, .null, .null, .null, .int 0, .null, .null]))) rfl ?_
  refine v_aload_n g dX5_init_13 0 rfl ?_
  refine v_new (ci := 0) (C := RX0) (T := TX0) (fs := [.null, .long 0, .long 0, .long 0, .int 0, .int 0]) (a := 133) (b := 822) (N := 6) g tyX0 dX5_init_14 rfl uw_X0 tyX0_ok ⟨kc_RX5_13, it_RX0, ini_RX0⟩ dfX0 ?_
  refine v_neq (n' := o + 3) rfl ?_
  refine v_dup g dX5_init_17 rfl ?_
  refine v_callIN (As := []) (r := none) g dX5_init_18 (k_X0_init (o := o + 2) (show _ = some ((Sum.inr (0, [.null, .long 0, .long 0, .long 0, .int 0, .int 0])) : Ce) from by (first | (simp [mset, blk, rowBlk, landBlk, orBlk, pastBlk, readBlk]; done) | (simp [mset, blk, rowBlk, landBlk, orBlk, hμ]; done) | (simp only [mset, blk]; repeat (first | rw [if_pos (by omega)] | rw [if_neg (by omega)])); first | rfl | (simp [rowBlk, landBlk, orBlk, pastBlk, readBlk]; done) | exact hμ))) cl_X0_init nl_RX5_15 ii_X0_init rfl ⟨rfl, rfl, rfl⟩ ?_
  refine v_neq (n' := o + 4) rfl ?_
  refine v_putF g dX5_init_21 rfl (fun _ _ _ h => (congrArg Prod.fst (Option.some.inj h)).symm) fl_RX5_16 (show _ = some ((Sum.inr (5, [.ref (o + 1), .int 0, .null, .null, .null, .null, .null, .null, .null, .null, .null, .int 0, .null, .null])) : Ce) from by (first | (simp [mset, blk, rowBlk, landBlk, orBlk, pastBlk, readBlk]; done) | (simp [mset, blk, rowBlk, landBlk, orBlk, hμ]; done) | (simp only [mset, blk]; repeat (first | rw [if_pos (by omega)] | rw [if_neg (by omega)])); first | rfl | (simp [rowBlk, landBlk, orBlk, pastBlk, readBlk]; done) | exact hμ)) ⟨rfl, rfl⟩ rfl ?_
  refine v_meq (μ' := mset _ (o) (.inr (5, [.ref (o + 1), .int 0, .ref (o + 2), .null, .null, .null, .null, .null, .null, .null, .null, .int 0, .null, .null]))) rfl ?_
  refine v_aload_n g dX5_init_24 0 rfl ?_
  refine v_new (ci := 1) (C := RX1) (T := TX1) (fs := [.null, .null, .null, .int 0, .int 0, .long 0, .long 0, .long 0, .long 0]) (a := 131) (b := 777) (N := 9) g tyX1 dX5_init_25 rfl uw_X1 tyX1_ok ⟨kc_RX5_20, it_RX1, ini_RX1⟩ dfX1 ?_
  refine v_neq (n' := o + 5) rfl ?_
  refine v_dup g dX5_init_28 rfl ?_
  refine v_aload_n g dX5_init_29 0 rfl ?_
  refine v_get g dX5_init_30 fl_RX5_16 (show _ = some ((Sum.inr (5, [.ref (o + 1), .int 0, .ref (o + 2), .null, .null, .null, .null, .null, .null, .null, .null, .int 0, .null, .null])) : Ce) from by (first | (simp [mset, blk, rowBlk, landBlk, orBlk, pastBlk, readBlk]; done) | (simp [mset, blk, rowBlk, landBlk, orBlk, hμ]; done) | (simp only [mset, blk]; repeat (first | rw [if_pos (by omega)] | rw [if_neg (by omega)])); first | rfl | (simp [rowBlk, landBlk, orBlk, pastBlk, readBlk]; done) | exact hμ)) rfl ?_
  refine v_callI (As := [.ref (o + 2)]) (r := none) g dX5_init_33 (k_X1_init (o := o + 4) (la := o + 2) (show _ = some ((Sum.inr (1, [.null, .null, .null, .int 0, .int 0, .long 0, .long 0, .long 0, .long 0])) : Ce) from by (first | (simp [mset, blk, rowBlk, landBlk, orBlk, pastBlk, readBlk]; done) | (simp [mset, blk, rowBlk, landBlk, orBlk, hμ]; done) | (simp only [mset, blk]; repeat (first | rw [if_pos (by omega)] | rw [if_neg (by omega)])); first | rfl | (simp [rowBlk, landBlk, orBlk, pastBlk, readBlk]; done) | exact hμ))) cl_X1_init ml_RX5_22 ii_X1_init rfl ⟨rfl, rfl, rfl⟩ ?_
  refine v_neq (n' := o + 13) rfl ?_
  refine v_putF g dX5_init_36 rfl (fun _ _ _ h => (congrArg Prod.fst (Option.some.inj h)).symm) fl_RX5_25 (show _ = some ((Sum.inr (5, [.ref (o + 1), .int 0, .ref (o + 2), .null, .null, .null, .null, .null, .null, .null, .null, .int 0, .null, .null])) : Ce) from by (first | (simp [mset, blk, rowBlk, landBlk, orBlk, pastBlk, readBlk]; done) | (simp [mset, blk, rowBlk, landBlk, orBlk, hμ]; done) | (simp only [mset, blk]; repeat (first | rw [if_pos (by omega)] | rw [if_neg (by omega)])); first | rfl | (simp [rowBlk, landBlk, orBlk, pastBlk, readBlk]; done) | exact hμ)) ⟨rfl, rfl⟩ rfl ?_
  refine v_meq (μ' := mset _ (o) (.inr (5, [.ref (o + 1), .int 0, .ref (o + 2), .ref (o + 4), .null, .null, .null, .null, .null, .null, .null, .int 0, .null, .null]))) rfl ?_
  refine v_aload_n g dX5_init_39 0 rfl ?_
  refine v_new (ci := 1) (C := RX1) (T := TX1) (fs := [.null, .null, .null, .int 0, .int 0, .long 0, .long 0, .long 0, .long 0]) (a := 122) (b := 734) (N := 9) g tyX1 dX5_init_40 rfl uw_X1 tyX1_ok ⟨kc_RX5_20, it_RX1, ini_RX1⟩ dfX1 ?_
  refine v_neq (n' := o + 14) rfl ?_
  refine v_dup g dX5_init_43 rfl ?_
  refine v_aload_n g dX5_init_44 0 rfl ?_
  refine v_get g dX5_init_45 fl_RX5_16 (show _ = some ((Sum.inr (5, [.ref (o + 1), .int 0, .ref (o + 2), .ref (o + 4), .null, .null, .null, .null, .null, .null, .null, .int 0, .null, .null])) : Ce) from by (first | (simp [mset, blk, rowBlk, landBlk, orBlk, pastBlk, readBlk]; done) | (simp [mset, blk, rowBlk, landBlk, orBlk, hμ]; done) | (simp only [mset, blk]; repeat (first | rw [if_pos (by omega)] | rw [if_neg (by omega)])); first | rfl | (simp [rowBlk, landBlk, orBlk, pastBlk, readBlk]; done) | exact hμ)) rfl ?_
  refine v_callI (As := [.ref (o + 2)]) (r := none) g dX5_init_48 (k_X1_init (o := o + 13) (la := o + 2) (show _ = some ((Sum.inr (1, [.null, .null, .null, .int 0, .int 0, .long 0, .long 0, .long 0, .long 0])) : Ce) from by (first | (simp [mset, blk, rowBlk, landBlk, orBlk, pastBlk, readBlk]; done) | (simp [mset, blk, rowBlk, landBlk, orBlk, hμ]; done) | (simp only [mset, blk]; repeat (first | rw [if_pos (by omega)] | rw [if_neg (by omega)])); first | rfl | (simp [rowBlk, landBlk, orBlk, pastBlk, readBlk]; done) | exact hμ))) cl_X1_init ml_RX5_22 ii_X1_init rfl ⟨rfl, rfl, rfl⟩ ?_
  refine v_neq (n' := o + 22) rfl ?_
  refine v_putF g dX5_init_51 rfl (fun _ _ _ h => (congrArg Prod.fst (Option.some.inj h)).symm) fl_RX5_29 (show _ = some ((Sum.inr (5, [.ref (o + 1), .int 0, .ref (o + 2), .ref (o + 4), .null, .null, .null, .null, .null, .null, .null, .int 0, .null, .null])) : Ce) from by (first | (simp [mset, blk, rowBlk, landBlk, orBlk, pastBlk, readBlk]; done) | (simp [mset, blk, rowBlk, landBlk, orBlk, hμ]; done) | (simp only [mset, blk]; repeat (first | rw [if_pos (by omega)] | rw [if_neg (by omega)])); first | rfl | (simp [rowBlk, landBlk, orBlk, pastBlk, readBlk]; done) | exact hμ)) ⟨rfl, rfl⟩ rfl ?_
  refine v_meq (μ' := mset _ (o) (.inr (5, [.ref (o + 1), .int 0, .ref (o + 2), .ref (o + 4), .ref (o + 13), .null, .null, .null, .null, .null, .null, .int 0, .null, .null]))) rfl ?_
  refine v_aload_n g dX5_init_54 0 rfl ?_
  refine v_new (ci := 3) (C := RX3) (T := TX3) (fs := [.null, .null, .null, .int 0, .null, .int 0, .int 0]) (a := 113) (b := 693) (N := 7) g tyX3 dX5_init_55 rfl uw_X3 tyX3_ok ⟨kc_RX5_32, it_RX3, ini_RX3⟩ dfX3 ?_
  refine v_neq (n' := o + 23) rfl ?_
  refine v_dup g dX5_init_58 rfl ?_
  refine v_callIN (As := []) (r := none) g dX5_init_59 (k_X3_init (o := o + 22) (show _ = some ((Sum.inr (3, [.null, .null, .null, .int 0, .null, .int 0, .int 0])) : Ce) from by (first | (simp [mset, blk, rowBlk, landBlk, orBlk, pastBlk, readBlk]; done) | (simp [mset, blk, rowBlk, landBlk, orBlk, hμ]; done) | (simp only [mset, blk]; repeat (first | rw [if_pos (by omega)] | rw [if_neg (by omega)])); first | rfl | (simp [rowBlk, landBlk, orBlk, pastBlk, readBlk]; done) | exact hμ))) cl_X3_init nl_RX5_34 ii_X3_init rfl ⟨rfl, rfl, rfl⟩ ?_
  refine v_neq (n' := o + 36) rfl ?_
  refine v_putF g dX5_init_62 rfl (fun _ _ _ h => (congrArg Prod.fst (Option.some.inj h)).symm) fl_RX5_35 (show _ = some ((Sum.inr (5, [.ref (o + 1), .int 0, .ref (o + 2), .ref (o + 4), .ref (o + 13), .null, .null, .null, .null, .null, .null, .int 0, .null, .null])) : Ce) from by (first | (simp [mset, blk, rowBlk, landBlk, orBlk, pastBlk, readBlk]; done) | (simp [mset, blk, rowBlk, landBlk, orBlk, hμ]; done) | (simp only [mset, blk]; repeat (first | rw [if_pos (by omega)] | rw [if_neg (by omega)])); first | rfl | (simp [rowBlk, landBlk, orBlk, pastBlk, readBlk]; done) | exact hμ)) ⟨rfl, rfl⟩ rfl ?_
  refine v_meq (μ' := mset _ (o) (.inr (5, [.ref (o + 1), .int 0, .ref (o + 2), .ref (o + 4), .ref (o + 13), .ref (o + 22), .null, .null, .null, .null, .null, .int 0, .null, .null]))) rfl ?_
  refine v_aload_n g dX5_init_65 0 rfl ?_
  refine v_new (ci := 2) (C := RX2) (T := TX2) (fs := [.null, .int 0]) (a := 99) (b := 599) (N := 2) g tyX2 dX5_init_66 rfl uw_X2 tyX2_ok ⟨kc_RX5_39, it_RX2, ini_RX2⟩ dfX2 ?_
  refine v_neq (n' := o + 37) rfl ?_
  refine v_dup g dX5_init_69 rfl ?_
  refine v_bipush (v := 8) g dX5_init_70 (by decide) ?_
  refine v_aload_n g dX5_init_72 0 rfl ?_
  refine v_get g dX5_init_73 fl_RX5_16 (show _ = some ((Sum.inr (5, [.ref (o + 1), .int 0, .ref (o + 2), .ref (o + 4), .ref (o + 13), .ref (o + 22), .null, .null, .null, .null, .null, .int 0, .null, .null])) : Ce) from by (first | (simp [mset, blk, rowBlk, landBlk, orBlk, pastBlk, readBlk]; done) | (simp [mset, blk, rowBlk, landBlk, orBlk, hμ]; done) | (simp only [mset, blk]; repeat (first | rw [if_pos (by omega)] | rw [if_neg (by omega)])); first | rfl | (simp [rowBlk, landBlk, orBlk, pastBlk, readBlk]; done) | exact hμ)) rfl ?_
  refine v_callI (As := [.int 8, .ref (o + 2)]) (r := none) g dX5_init_76 (k_X2_init8 (o := o + 36) (la := o + 2) (show _ = some ((Sum.inr (2, [.null, .int 0])) : Ce) from by (first | (simp [mset, blk, rowBlk, landBlk, orBlk, pastBlk, readBlk]; done) | (simp [mset, blk, rowBlk, landBlk, orBlk, hμ]; done) | (simp only [mset, blk]; repeat (first | rw [if_pos (by omega)] | rw [if_neg (by omega)])); first | rfl | (simp [rowBlk, landBlk, orBlk, pastBlk, readBlk]; done) | exact hμ))) cl_X2_init ml_RX5_41 ii_X2_init rfl ⟨rfl, rfl, rfl⟩ ?_
  refine v_neq (n' := o + 110) rfl ?_
  refine v_putF g dX5_init_79 rfl (fun _ _ _ h => (congrArg Prod.fst (Option.some.inj h)).symm) fl_RX5_44 (show _ = some ((Sum.inr (5, [.ref (o + 1), .int 0, .ref (o + 2), .ref (o + 4), .ref (o + 13), .ref (o + 22), .null, .null, .null, .null, .null, .int 0, .null, .null])) : Ce) from by (first | (simp [mset, blk, rowBlk, landBlk, orBlk, pastBlk, readBlk]; done) | (simp [mset, blk, rowBlk, landBlk, orBlk, hμ]; done) | (simp only [mset, blk]; repeat (first | rw [if_pos (by omega)] | rw [if_neg (by omega)])); first | rfl | (simp [rowBlk, landBlk, orBlk, pastBlk, readBlk]; done) | exact hμ)) ⟨rfl, rfl⟩ rfl ?_
  refine v_meq (μ' := mset _ (o) (.inr (5, [.ref (o + 1), .int 0, .ref (o + 2), .ref (o + 4), .ref (o + 13), .ref (o + 22), .ref (o + 36), .null, .null, .null, .null, .int 0, .null, .null]))) rfl ?_
  refine v_aload_n g dX5_init_82 0 rfl ?_
  refine v_new (ci := 2) (C := RX2) (T := TX2) (fs := [.null, .int 0]) (a := 25) (b := 245) (N := 2) g tyX2 dX5_init_83 rfl uw_X2 tyX2_ok ⟨kc_RX5_39, it_RX2, ini_RX2⟩ dfX2 ?_
  refine v_neq (n' := o + 111) rfl ?_
  refine v_dup g dX5_init_86 rfl ?_
  refine v_iconst (v := 2) g dX5_init_87 (by decide) ?_
  refine v_aload_n g dX5_init_88 0 rfl ?_
  refine v_get g dX5_init_89 fl_RX5_16 (show _ = some ((Sum.inr (5, [.ref (o + 1), .int 0, .ref (o + 2), .ref (o + 4), .ref (o + 13), .ref (o + 22), .ref (o + 36), .null, .null, .null, .null, .int 0, .null, .null])) : Ce) from by (first | (simp [mset, blk, rowBlk, landBlk, orBlk, pastBlk, readBlk]; done) | (simp [mset, blk, rowBlk, landBlk, orBlk, hμ]; done) | (simp only [mset, blk]; repeat (first | rw [if_pos (by omega)] | rw [if_neg (by omega)])); first | rfl | (simp [rowBlk, landBlk, orBlk, pastBlk, readBlk]; done) | exact hμ)) rfl ?_
  refine v_callI (As := [.int 2, .ref (o + 2)]) (r := none) g dX5_init_92 (k_X2_init2 (o := o + 110) (la := o + 2) (show _ = some ((Sum.inr (2, [.null, .int 0])) : Ce) from by (first | (simp [mset, blk, rowBlk, landBlk, orBlk, pastBlk, readBlk]; done) | (simp [mset, blk, rowBlk, landBlk, orBlk, hμ]; done) | (simp only [mset, blk]; repeat (first | rw [if_pos (by omega)] | rw [if_neg (by omega)])); first | rfl | (simp [rowBlk, landBlk, orBlk, pastBlk, readBlk]; done) | exact hμ))) cl_X2_init ml_RX5_41 ii_X2_init rfl ⟨rfl, rfl, rfl⟩ ?_
  refine v_neq (n' := o + 130) rfl ?_
  refine v_putF g dX5_init_95 rfl (fun _ _ _ h => (congrArg Prod.fst (Option.some.inj h)).symm) fl_RX5_48 (show _ = some ((Sum.inr (5, [.ref (o + 1), .int 0, .ref (o + 2), .ref (o + 4), .ref (o + 13), .ref (o + 22), .ref (o + 36), .null, .null, .null, .null, .int 0, .null, .null])) : Ce) from by (first | (simp [mset, blk, rowBlk, landBlk, orBlk, pastBlk, readBlk]; done) | (simp [mset, blk, rowBlk, landBlk, orBlk, hμ]; done) | (simp only [mset, blk]; repeat (first | rw [if_pos (by omega)] | rw [if_neg (by omega)])); first | rfl | (simp [rowBlk, landBlk, orBlk, pastBlk, readBlk]; done) | exact hμ)) ⟨rfl, rfl⟩ rfl ?_
  refine v_meq (μ' := mset _ (o) (.inr (5, [.ref (o + 1), .int 0, .ref (o + 2), .ref (o + 4), .ref (o + 13), .ref (o + 22), .ref (o + 36), .ref (o + 110), .null, .null, .null, .int 0, .null, .null]))) rfl ?_
  refine v_aload_n g dX5_init_98 0 rfl ?_
  refine v_bipush (v := 6) g dX5_init_99 (by decide) ?_
  refine v_newaI (a := 5) (b := 151) (N := 6) g dX5_init_101 ac_int (by decide) rfl (by decide) ?_
  refine v_neq (n' := o + 131) rfl ?_
  refine v_putF g dX5_init_103 rfl (fun _ _ _ h => (congrArg Prod.fst (Option.some.inj h)).symm) fl_RX5_51 (show _ = some ((Sum.inr (5, [.ref (o + 1), .int 0, .ref (o + 2), .ref (o + 4), .ref (o + 13), .ref (o + 22), .ref (o + 36), .ref (o + 110), .null, .null, .null, .int 0, .null, .null])) : Ce) from by (first | (simp [mset, blk, rowBlk, landBlk, orBlk, pastBlk, readBlk]; done) | (simp [mset, blk, rowBlk, landBlk, orBlk, hμ]; done) | (simp only [mset, blk]; repeat (first | rw [if_pos (by omega)] | rw [if_neg (by omega)])); first | rfl | (simp [rowBlk, landBlk, orBlk, pastBlk, readBlk]; done) | exact hμ)) ⟨rfl, rfl⟩ rfl ?_
  refine v_meq (μ' := mset _ (o) (.inr (5, [.ref (o + 1), .int 0, .ref (o + 2), .ref (o + 4), .ref (o + 13), .ref (o + 22), .ref (o + 36), .ref (o + 110), .ref (o + 130), .null, .null, .int 0, .null, .null]))) rfl ?_
  refine v_aload_n g dX5_init_106 0 rfl ?_
  refine v_bipush (v := 6) g dX5_init_107 (by decide) ?_
  refine v_newaI (a := 4) (b := 145) (N := 6) g dX5_init_109 ac_int (by decide) rfl (by decide) ?_
  refine v_neq (n' := o + 132) rfl ?_
  refine v_putF g dX5_init_111 rfl (fun _ _ _ h => (congrArg Prod.fst (Option.some.inj h)).symm) fl_RX5_55 (show _ = some ((Sum.inr (5, [.ref (o + 1), .int 0, .ref (o + 2), .ref (o + 4), .ref (o + 13), .ref (o + 22), .ref (o + 36), .ref (o + 110), .ref (o + 130), .null, .null, .int 0, .null, .null])) : Ce) from by (first | (simp [mset, blk, rowBlk, landBlk, orBlk, pastBlk, readBlk]; done) | (simp [mset, blk, rowBlk, landBlk, orBlk, hμ]; done) | (simp only [mset, blk]; repeat (first | rw [if_pos (by omega)] | rw [if_neg (by omega)])); first | rfl | (simp [rowBlk, landBlk, orBlk, pastBlk, readBlk]; done) | exact hμ)) ⟨rfl, rfl⟩ rfl ?_
  refine v_meq (μ' := mset _ (o) (.inr (5, [.ref (o + 1), .int 0, .ref (o + 2), .ref (o + 4), .ref (o + 13), .ref (o + 22), .ref (o + 36), .ref (o + 110), .ref (o + 130), .ref (o + 131), .null, .int 0, .null, .null]))) rfl ?_
  refine v_aload_n g dX5_init_114 0 rfl ?_
  refine v_bipush (v := 6) g dX5_init_115 (by decide) ?_
  refine v_newaI (a := 3) (b := 139) (N := 6) g dX5_init_117 ac_int (by decide) rfl (by decide) ?_
  refine v_neq (n' := o + 133) rfl ?_
  refine v_putF g dX5_init_119 rfl (fun _ _ _ h => (congrArg Prod.fst (Option.some.inj h)).symm) fl_RX5_58 (show _ = some ((Sum.inr (5, [.ref (o + 1), .int 0, .ref (o + 2), .ref (o + 4), .ref (o + 13), .ref (o + 22), .ref (o + 36), .ref (o + 110), .ref (o + 130), .ref (o + 131), .null, .int 0, .null, .null])) : Ce) from by (first | (simp [mset, blk, rowBlk, landBlk, orBlk, pastBlk, readBlk]; done) | (simp [mset, blk, rowBlk, landBlk, orBlk, hμ]; done) | (simp only [mset, blk]; repeat (first | rw [if_pos (by omega)] | rw [if_neg (by omega)])); first | rfl | (simp [rowBlk, landBlk, orBlk, pastBlk, readBlk]; done) | exact hμ)) ⟨rfl, rfl⟩ rfl ?_
  refine v_meq (μ' := mset _ (o) (.inr (5, [.ref (o + 1), .int 0, .ref (o + 2), .ref (o + 4), .ref (o + 13), .ref (o + 22), .ref (o + 36), .ref (o + 110), .ref (o + 130), .ref (o + 131), .ref (o + 132), .int 0, .null, .null]))) rfl ?_
  refine v_aload_n g dX5_init_122 0 rfl ?_
  refine v_iconst (v := 2) g dX5_init_123 (by decide) ?_
  refine v_newaI (a := 2) (b := 137) (N := 2) g dX5_init_124 ac_int (by decide) rfl (by decide) ?_
  refine v_neq (n' := o + 134) rfl ?_
  refine v_putF g dX5_init_126 rfl (fun _ _ _ h => (congrArg Prod.fst (Option.some.inj h)).symm) fl_RX5_61 (show _ = some ((Sum.inr (5, [.ref (o + 1), .int 0, .ref (o + 2), .ref (o + 4), .ref (o + 13), .ref (o + 22), .ref (o + 36), .ref (o + 110), .ref (o + 130), .ref (o + 131), .ref (o + 132), .int 0, .null, .null])) : Ce) from by (first | (simp [mset, blk, rowBlk, landBlk, orBlk, pastBlk, readBlk]; done) | (simp [mset, blk, rowBlk, landBlk, orBlk, hμ]; done) | (simp only [mset, blk]; repeat (first | rw [if_pos (by omega)] | rw [if_neg (by omega)])); first | rfl | (simp [rowBlk, landBlk, orBlk, pastBlk, readBlk]; done) | exact hμ)) ⟨rfl, rfl⟩ rfl ?_
  refine v_meq (μ' := mset _ (o) (.inr (5, [.ref (o + 1), .int 0, .ref (o + 2), .ref (o + 4), .ref (o + 13), .ref (o + 22), .ref (o + 36), .ref (o + 110), .ref (o + 130), .ref (o + 131), .ref (o + 132), .int 0, .ref (o + 133), .null]))) rfl ?_
  refine v_aload_n g dX5_init_129 0 rfl ?_
  refine v_bipush (v := 36) g dX5_init_130 (by decide) ?_
  refine v_newaL (a := 1) (b := 101) (N := 36) g dX5_init_132 ac_long (by decide) rfl (by decide) ?_
  refine v_neq (n' := o + 135) rfl ?_
  refine v_putF g dX5_init_134 rfl (fun _ _ _ h => (congrArg Prod.fst (Option.some.inj h)).symm) fl_RX5_64 (show _ = some ((Sum.inr (5, [.ref (o + 1), .int 0, .ref (o + 2), .ref (o + 4), .ref (o + 13), .ref (o + 22), .ref (o + 36), .ref (o + 110), .ref (o + 130), .ref (o + 131), .ref (o + 132), .int 0, .ref (o + 133), .null])) : Ce) from by (first | (simp [mset, blk, rowBlk, landBlk, orBlk, pastBlk, readBlk]; done) | (simp [mset, blk, rowBlk, landBlk, orBlk, hμ]; done) | (simp only [mset, blk]; repeat (first | rw [if_pos (by omega)] | rw [if_neg (by omega)])); first | rfl | (simp [rowBlk, landBlk, orBlk, pastBlk, readBlk]; done) | exact hμ)) ⟨rfl, rfl⟩ rfl ?_
  refine v_meq (μ' := mset _ (o) (.inr (5, [.ref (o + 1), .int 0, .ref (o + 2), .ref (o + 4), .ref (o + 13), .ref (o + 22), .ref (o + 36), .ref (o + 110), .ref (o + 130), .ref (o + 131), .ref (o + 132), .int 0, .ref (o + 133), .ref (o + 134)]))) rfl ?_
  refine v_ldcS g S dX5_init_137 rfl ?_
  refine v_callVS (As := []) (r := some (.ref (o + 135))) g dX5_init_139 S k_J0_toCharArray_70df3 cl_J0_toCharArray_70df3 ml_RX5_70 im_J0_toCharArray_70df3 rfl ⟨rfl, rfl, rfl⟩ ?_
  refine v_neq (n' := o + 136) rfl ?_
  refine v_refs (q := o + 37) (t := 4) (N := 8) (f1 := fun k => some (o + 36 + 2 + 9 * k)) (f2 := fun k => some (adO o ((cP zC 0).2 k))) (by (first | (simp [mset, blk, rowBlk, landBlk, orBlk, pastBlk, readBlk]; done) | (simp [mset, blk, rowBlk, landBlk, orBlk, hμ]; done) | (simp only [mset, blk]; repeat (first | rw [if_pos (by omega)] | rw [if_neg (by omega)])); first | rfl | (simp [rowBlk, landBlk, orBlk, pastBlk, readBlk]; done) | exact hμ)) (fun k hk => congrArg some (zc_a3 o k hk)) ?_
  refine v_refs (q := o + 111) (t := 4) (N := 2) (f1 := fun k => some (o + 110 + 2 + 9 * k)) (f2 := fun k => some (adO o ((cP zC 1).2 k))) (by (first | (simp [mset, blk, rowBlk, landBlk, orBlk, pastBlk, readBlk]; done) | (simp [mset, blk, rowBlk, landBlk, orBlk, hμ]; done) | (simp only [mset, blk]; repeat (first | rw [if_pos (by omega)] | rw [if_neg (by omega)])); first | rfl | (simp [rowBlk, landBlk, orBlk, pastBlk, readBlk]; done) | exact hμ)) (fun k hk => congrArg some (zc_a11 o k hk)) ?_
  refine v_ren (μ0 := μ) (o := o) (C := zC) (fun d hd => ?_) (fun q hq => by
      simp only [mset, blk]
      repeat rw [if_neg (by omega)]) ?_
  · rcases (by omega : d = 0 ∨ d = 1 ∨ d = 2 ∨ d = 3 ∨ (4 ≤ d ∧ d < 13) ∨ (13 ≤ d ∧ d < 22) ∨ d = 22 ∨ d = 23 ∨ d = 24 ∨ (25 ≤ d ∧ d < 34) ∨ d = 34 ∨ d = 35 ∨ d = 36 ∨ d = 37 ∨ (38 ≤ d ∧ d < 110) ∨ d = 110 ∨ d = 111 ∨ (112 ≤ d ∧ d < 130) ∨ d = 130 ∨ d = 131 ∨ d = 132 ∨ d = 133 ∨ d = 134 ∨ d = 135) with rfl | rfl | rfl | rfl | h | h | rfl | rfl | rfl | h | rfl | rfl | rfl | rfl | h | rfl | rfl | h | rfl | rfl | rfl | rfl | rfl | rfl
    · (simp only [mset, blk]; repeat (first | rw [if_pos (by omega)] | rw [if_neg (by omega)])); first | rfl | (simp [readBlk, pastBlk, landBlk]; done) | (simp [readBlk, pastBlk]; rfl)
    · (simp only [mset, blk]; repeat (first | rw [if_pos (by omega)] | rw [if_neg (by omega)])); first | rfl | (simp [readBlk, pastBlk, landBlk]; done) | (simp [readBlk, pastBlk]; rfl)
    · (simp only [mset, blk]; repeat (first | rw [if_pos (by omega)] | rw [if_neg (by omega)])); first | rfl | (simp [readBlk, pastBlk, landBlk]; done) | (simp [readBlk, pastBlk]; rfl)
    · (simp only [mset, blk]; repeat (first | rw [if_pos (by omega)] | rw [if_neg (by omega)])); first | rfl | (simp [readBlk, pastBlk, landBlk]; done) | (simp [readBlk, pastBlk]; rfl)
    · obtain ⟨e, he, rfl⟩ : ∃ e, e < 9 ∧ d = 4 + e := ⟨d - 4, by omega, by omega⟩
      (simp only [mset, blk]; repeat (first | rw [if_pos (by omega)] | rw [if_neg (by omega)]))
      rw [show o + (4 + e) - (o + 4) = e by omega]
      exact congrArg some (zc_or o 0 (by decide) e he _ _ rfl rfl)
    · obtain ⟨e, he, rfl⟩ : ∃ e, e < 9 ∧ d = 13 + e := ⟨d - 13, by omega, by omega⟩
      (simp only [mset, blk]; repeat (first | rw [if_pos (by omega)] | rw [if_neg (by omega)]))
      rw [show o + (13 + e) - (o + 13) = e by omega]
      exact congrArg some (zc_or o 1 (by decide) e he _ _ rfl rfl)
    · (simp only [mset, blk]; repeat (first | rw [if_pos (by omega)] | rw [if_neg (by omega)])); first | rfl | (simp [readBlk, pastBlk, landBlk]; done) | (simp [readBlk, pastBlk]; rfl)
    · (simp only [mset, blk]; repeat (first | rw [if_pos (by omega)] | rw [if_neg (by omega)])); first | rfl | (simp [readBlk, pastBlk, landBlk]; done) | (simp [readBlk, pastBlk]; rfl)
    · (simp only [mset, blk]; repeat (first | rw [if_pos (by omega)] | rw [if_neg (by omega)])); first | rfl | (simp [readBlk, pastBlk, landBlk]; done) | (simp [readBlk, pastBlk]; rfl)
    · obtain ⟨e, he, rfl⟩ : ∃ e, e < 9 ∧ d = 25 + e := ⟨d - 25, by omega, by omega⟩
      (simp only [mset, blk]; repeat (first | rw [if_pos (by omega)] | rw [if_neg (by omega)]))
      rw [show o + (25 + e) - (o + 22) = e + 3 by omega, rdb_or o e he]
      exact congrArg some (zc_or o 2 (by decide) e he _ _ rfl rfl)
    · (simp only [mset, blk]; repeat (first | rw [if_pos (by omega)] | rw [if_neg (by omega)])); first | rfl | (simp [readBlk, pastBlk, landBlk]; done) | (simp [readBlk, pastBlk]; rfl)
    · (simp only [mset, blk]; repeat (first | rw [if_pos (by omega)] | rw [if_neg (by omega)])); first | rfl | (simp [readBlk, pastBlk, landBlk]; done) | (simp [readBlk, pastBlk]; rfl)
    · (simp only [mset, blk]; repeat (first | rw [if_pos (by omega)] | rw [if_neg (by omega)])); first | rfl | (simp [readBlk, pastBlk, landBlk]; done) | (simp [readBlk, pastBlk]; rfl)
    · (simp only [mset, blk]; repeat (first | rw [if_pos (by omega)] | rw [if_neg (by omega)])); first | rfl | (simp [readBlk, pastBlk, landBlk]; done) | (simp [readBlk, pastBlk]; rfl)
    · obtain ⟨k, e, hk, he, rfl⟩ : ∃ k e, k < 8 ∧ e < 9 ∧ d = 38 + (9 * k + e) := ⟨(d - 38) / 9, (d - 38) % 9, by omega, by omega, by omega⟩
      (simp only [mset, blk]; repeat (first | rw [if_pos (by omega)] | rw [if_neg (by omega)]))
      rw [show o + (38 + (9 * k + e)) - (o + 36) = 9 * k + e + 2 by omega]
      show some (orBlk (o + 2) (o + 36 + 2 + 9 * ((9 * k + e) / 9)) ((9 * k + e) % 9)) = _
      rw [show (9 * k + e) / 9 = k by omega, show (9 * k + e) % 9 = e by omega, zc_or o (3 + k) (by omega) e he _ _ (zc_la o k 3 (by decide)) (zc_a3 o k (by omega)), show 38 + (9 * k + e) = oB (3 + k) + e by rw [zc_oB3 k (by omega)]; omega]
    · (simp only [mset, blk]; repeat (first | rw [if_pos (by omega)] | rw [if_neg (by omega)])); first | rfl | (simp [readBlk, pastBlk, landBlk]; done) | (simp [readBlk, pastBlk]; rfl)
    · (simp only [mset, blk]; repeat (first | rw [if_pos (by omega)] | rw [if_neg (by omega)])); first | rfl | (simp [readBlk, pastBlk, landBlk]; done) | (simp [readBlk, pastBlk]; rfl)
    · obtain ⟨k, e, hk, he, rfl⟩ : ∃ k e, k < 2 ∧ e < 9 ∧ d = 112 + (9 * k + e) := ⟨(d - 112) / 9, (d - 112) % 9, by omega, by omega, by omega⟩
      (simp only [mset, blk]; repeat (first | rw [if_pos (by omega)] | rw [if_neg (by omega)]))
      rw [show o + (112 + (9 * k + e)) - (o + 110) = 9 * k + e + 2 by omega]
      show some (orBlk (o + 2) (o + 110 + 2 + 9 * ((9 * k + e) / 9)) ((9 * k + e) % 9)) = _
      rw [show (9 * k + e) / 9 = k by omega, show (9 * k + e) % 9 = e by omega, zc_or o (11 + k) (by omega) e he _ _ (zc_la o k 11 (by decide)) (zc_a11 o k (by omega)), show 112 + (9 * k + e) = oB (11 + k) + e by rw [zc_oB11 k (by omega)]; omega]
    · (simp only [mset, blk]; repeat (first | rw [if_pos (by omega)] | rw [if_neg (by omega)])); first | rfl | (simp [readBlk, pastBlk, landBlk]; done) | (simp [readBlk, pastBlk]; rfl)
    · (simp only [mset, blk]; repeat (first | rw [if_pos (by omega)] | rw [if_neg (by omega)])); first | rfl | (simp [readBlk, pastBlk, landBlk]; done) | (simp [readBlk, pastBlk]; rfl)
    · (simp only [mset, blk]; repeat (first | rw [if_pos (by omega)] | rw [if_neg (by omega)])); first | rfl | (simp [readBlk, pastBlk, landBlk]; done) | (simp [readBlk, pastBlk]; rfl)
    · (simp only [mset, blk]; repeat (first | rw [if_pos (by omega)] | rw [if_neg (by omega)])); first | rfl | (simp [readBlk, pastBlk, landBlk]; done) | (simp [readBlk, pastBlk]; rfl)
    · (simp only [mset, blk]; repeat (first | rw [if_pos (by omega)] | rw [if_neg (by omega)])); first | rfl | (simp [readBlk, pastBlk, landBlk]; done) | (simp [readBlk, pastBlk]; rfl)
    · (simp only [mset, blk]; repeat (first | rw [if_pos (by omega)] | rw [if_neg (by omega)])); first | rfl | (simp [readBlk, pastBlk, landBlk]; done) | (simp [readBlk, pastBlk]; rfl)
  exact rest X g E
end C13
