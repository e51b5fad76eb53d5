/-! CLASS: lands copied, the past (what can be undone, what is kept) -/
def cpTo (j : Nat) (f g : Nat → Int32) : Nat → Int32 := fun q => if q < j then g q else f q
theorem cpTo_0 (f g : Nat → Int32) : cpTo 0 f g = f := by funext q; simp [cpTo]
theorem cpTo_step (j : Nat) (f g : Nat → Int32) : upd (cpTo j f g) j (g j) = cpTo (j + 1) f g := by
  funext q
  simp only [upd, cpTo]
  by_cases h : q = j
  · subst h; simp
  · by_cases h2 : q < j
    · rw [if_neg h, if_pos h2, if_pos (by omega)]
    · rw [if_neg h, if_neg h2, if_neg (by omega)]
section C4
variable {l : Launch} {G : GG} {n : Nat} {B : Nat} {C : CS} {ρ : Mu} {i : Nat}
theorem fl2_L (B : Nat) (C : CS) (ρ : Mu) {i j : Nat} (hj : j < 2) (hne : j ≠ i) {F2 H2 B2 : Int64} {li2 wi2 : Int32} {lo2 : Nat → Int32} (h2 : cL C j = (F2, H2, B2, li2, wi2, lo2)) (v : LV) : ren B (sL C i v) ρ (adL B j) = some (landCe (adLo B j) F2 H2 B2 li2 wi2) := by
  rw [rd_L B _ ρ hj]; simp only [cellC, cL_sL_ne C v hne, h2]
theorem fl2_Lo (B : Nat) (C : CS) (ρ : Mu) {i j : Nat} (hj : j < 2) (hne : j ≠ i) {F2 H2 B2 : Int64} {li2 wi2 : Int32} {lo2 : Nat → Int32} (h2 : cL C j = (F2, H2, B2, li2, wi2, lo2)) (v : LV) : ren B (sL C i v) ρ (adLo B j) = some (iA 36 lo2) := by
  rw [rd_Lo B _ ρ hj]; simp only [cellC, cL_sL_ne C v hne, h2]
def cpLand (a b : LV) : LV := (b.1, b.2.1, b.2.2.1, b.2.2.2.1, b.2.2.2.2.1, cpTo 36 a.2.2.2.2.2 b.2.2.2.2.2)
def clrLand (a : LV) : LV := (0, 0, 0, 0, 0, cpTo 36 a.2.2.2.2.2 (fun _ => 0))
theorem k_X0_clear (hi : i < 2) (F Hd Br : Int64) (li wi : Int32) (ow : Nat → Int32)  : Ctr l G 0 0 0 0 mX0_clear [.ref (adL B i)] n (ren B (sL C i (F, Hd, Br, li, wi, ow)) ρ) none n (ren B (sL C i (clrLand (F, Hd, Br, li, wi, ow))) ρ) := by
  refine Ctr.of (by decide +kernel) rfl (fun X g E => ?_)
  have loop : ∀ (k q : Nat), q + k = 36 → V X 0 0 n (ren B (sL C i (0, 0, 0, 0, 0, cpTo q ow (fun _ => 0))) ρ) 27 [(1, .int (nI q)), (0, .ref (adL B i))] [] := by
    intro k
    induction k with
    | zero =>
      intro q hq
      obtain rfl : q = 36 := by omega
      refine v_iload_n g dX0_clear_27 0 rfl ?_
      refine v_bipush (v := 36) g dX0_clear_28 (by decide) ?_
      refine v_icmp_ge (tgt := 46) g dX0_clear_30 (by decide) (fun h30 => ?_) (fun h30 => absurd (nI_le (a := 36) (b := 36) (by omega) (by omega)) h30)
      exact v_vret g E dX0_clear_46 rfl ⟨rfl, rfl, by rfl⟩
    | succ k ih =>
      intro q hq
      refine v_iload_n g dX0_clear_27 0 rfl ?_
      refine v_bipush (v := 36) g dX0_clear_28 (by decide) ?_
      refine v_icmp_ge (tgt := 46) g dX0_clear_30 (by decide) (fun h30 => absurd h30 (nI_ge (a := q) (b := 36) (by omega) (by decide))) (fun h30 => ?_)
      refine v_aload_n g dX0_clear_33 1 rfl ?_
      refine v_get g dX0_clear_34 fl_RX0_9 (fl_L B _ _ _ _ _ _ _ _ hi) rfl ?_
      refine v_iload_n g dX0_clear_37 0 rfl ?_
      refine v_iconst (v := 0) g dX0_clear_38 (by decide) ?_
      refine v_iast g dX0_clear_39 (fl_Lo B _ _ _ _ _ _ _ _ hi) (vp_in_nI (by omega) (by decide)) ?_
      rw [nI_clamp (n := q) (by omega)]
      refine v_meq (st_Lo B _ _ _ _ _ _ _ _ hi (upd (cpTo q ow (fun _ => 0)) q 0)) ?_
      refine v_iinc (v := nI (q + 1)) (ls' := [(1, .int (nI (q + 1))), (0, .ref (adL B i))]) g dX0_clear_40 0 rfl (nI_1 q) rfl rfl ?_
      refine v_goto (tgt := 27) g dX0_clear_43 (by decide) ?_
      refine v_sub (ls' := [(1, .int (nI (q + 1))), (0, .ref (adL B i))]) [0, 1] rfl ?_
      rw [show upd (cpTo q ow (fun _ => 0)) q 0 = cpTo (q + 1) ow (fun _ => 0) from cpTo_step q ow (fun _ => 0)]
      exact ih (q + 1) (by omega)
  refine v_sub (ls' := [(0, .ref (adL B i))]) [0] rfl ?_
  refine v_aload_n g dX0_clear_0 0 rfl ?_
  refine v_lconst (v := 0) g dX0_clear_1 (by decide) ?_
  refine v_put g dX0_clear_2 fl_RX0_15 (fl_L B _ _ _ _ _ _ _ _ hi) ⟨rfl, rfl⟩ rfl ?_
  refine v_meq (st_L B _ _ _ _ _ _ _ _ hi 0 Hd Br li wi) ?_
  refine v_aload_n g dX0_clear_5 0 rfl ?_
  refine v_lconst (v := 0) g dX0_clear_6 (by decide) ?_
  refine v_put g dX0_clear_7 fl_RX0_19 (fl_L B _ _ _ _ _ _ _ _ hi) ⟨rfl, rfl⟩ rfl ?_
  refine v_meq (st_L B _ _ _ _ _ _ _ _ hi 0 0 Br li wi) ?_
  refine v_aload_n g dX0_clear_10 0 rfl ?_
  refine v_lconst (v := 0) g dX0_clear_11 (by decide) ?_
  refine v_put g dX0_clear_12 fl_RX0_22 (fl_L B _ _ _ _ _ _ _ _ hi) ⟨rfl, rfl⟩ rfl ?_
  refine v_meq (st_L B _ _ _ _ _ _ _ _ hi 0 0 0 li wi) ?_
  refine v_aload_n g dX0_clear_15 0 rfl ?_
  refine v_iconst (v := 0) g dX0_clear_16 (by decide) ?_
  refine v_put g dX0_clear_17 fl_RX0_25 (fl_L B _ _ _ _ _ _ _ _ hi) ⟨rfl, rfl⟩ rfl ?_
  refine v_meq (st_L B _ _ _ _ _ _ _ _ hi 0 0 0 0 wi) ?_
  refine v_aload_n g dX0_clear_20 0 rfl ?_
  refine v_iconst (v := 0) g dX0_clear_21 (by decide) ?_
  refine v_put g dX0_clear_22 fl_RX0_29 (fl_L B _ _ _ _ _ _ _ _ hi) ⟨rfl, rfl⟩ rfl ?_
  refine v_meq (st_L B _ _ _ _ _ _ _ _ hi 0 0 0 0 0) ?_
  refine v_iconst (v := 0) g dX0_clear_25 (by decide) ?_
  refine v_istore_n (ls' := [(1, .int 0), (0, .ref (adL B i))]) g dX0_clear_26 rfl rfl ?_
  refine v_sub (ls' := [(1, .int 0), (0, .ref (adL B i))]) [0, 1] rfl ?_
  have h0 := loop 36 0 rfl
  rw [cpTo_0] at h0
  exact h0
theorem k_X0_copyFrom (hi : i < 2) (F Hd Br : Int64) (li wi : Int32) (ow : Nat → Int32) {j : Nat} (hj : j < 2) (hne : j ≠ i) {F2 H2 B2 : Int64} {li2 wi2 : Int32} {lo2 : Nat → Int32} (h2 : cL C j = (F2, H2, B2, li2, wi2, lo2)) : Ctr l G 0 0 0 0 mX0_copyFrom [.ref (adL B i), .ref (adL B j)] n (ren B (sL C i (F, Hd, Br, li, wi, ow)) ρ) none n (ren B (sL C i (cpLand (F, Hd, Br, li, wi, ow) (F2, H2, B2, li2, wi2, lo2))) ρ) := by
  refine Ctr.of (by decide +kernel) rfl (fun X g E => ?_)
  have loop : ∀ (k q : Nat), q + k = 36 → V X 0 0 n (ren B (sL C i (F2, H2, B2, li2, wi2, cpTo q ow lo2)) ρ) 42 [(2, .int (nI q)), (0, .ref (adL B i)), (1, .ref (adL B j))] [] := by
    intro k
    induction k with
    | zero =>
      intro q hq
      obtain rfl : q = 36 := by omega
      refine v_iload_n g dX0_copyFrom_42 0 rfl ?_
      refine v_bipush (v := 36) g dX0_copyFrom_43 (by decide) ?_
      refine v_icmp_ge (tgt := 66) g dX0_copyFrom_45 (by decide) (fun h45 => ?_) (fun h45 => absurd (nI_le (a := 36) (b := 36) (by omega) (by omega)) h45)
      exact v_vret g E dX0_copyFrom_66 rfl ⟨rfl, rfl, by rfl⟩
    | succ k ih =>
      intro q hq
      refine v_iload_n g dX0_copyFrom_42 0 rfl ?_
      refine v_bipush (v := 36) g dX0_copyFrom_43 (by decide) ?_
      refine v_icmp_ge (tgt := 66) g dX0_copyFrom_45 (by decide) (fun h45 => absurd h45 (nI_ge (a := q) (b := 36) (by omega) (by decide))) (fun h45 => ?_)
      refine v_aload_n g dX0_copyFrom_48 1 rfl ?_
      refine v_get g dX0_copyFrom_49 fl_RX0_9 (fl_L B _ _ _ _ _ _ _ _ hi) rfl ?_
      refine v_iload_n g dX0_copyFrom_52 0 rfl ?_
      refine v_aload_n g dX0_copyFrom_53 2 rfl ?_
      refine v_get g dX0_copyFrom_54 fl_RX0_9 (fl2_L B _ _ hj hne h2 _) rfl ?_
      refine v_iload_n g dX0_copyFrom_57 0 rfl ?_
      refine v_iald g dX0_copyFrom_58 (fl2_Lo B _ _ hj hne h2 _) (vp_in_nI (by omega) (by decide)) (v_eqi (y := (lo2 q)) (by rw [nI_clamp (by omega)]) ?_)
      refine v_iast g dX0_copyFrom_59 (fl_Lo B _ _ _ _ _ _ _ _ hi) (vp_in_nI (by omega) (by decide)) ?_
      rw [nI_clamp (n := q) (by omega)]
      refine v_meq (st_Lo B _ _ _ _ _ _ _ _ hi (upd (cpTo q ow lo2) q (lo2 q))) ?_
      refine v_iinc (v := nI (q + 1)) (ls' := [(2, .int (nI (q + 1))), (0, .ref (adL B i)), (1, .ref (adL B j))]) g dX0_copyFrom_60 0 rfl (nI_1 q) rfl rfl ?_
      refine v_goto (tgt := 42) g dX0_copyFrom_63 (by decide) ?_
      refine v_sub (ls' := [(2, .int (nI (q + 1))), (0, .ref (adL B i)), (1, .ref (adL B j))]) [0, 1, 2] rfl ?_
      rw [cpTo_step]
      exact ih (q + 1) (by omega)
  refine v_sub (ls' := [(0, .ref (adL B i)), (1, .ref (adL B j))]) [0, 1] rfl ?_
  refine v_aload_n g dX0_copyFrom_0 0 rfl ?_
  refine v_aload_n g dX0_copyFrom_1 1 rfl ?_
  refine v_get g dX0_copyFrom_2 fl_RX0_15 (fl2_L B _ _ hj hne h2 _) rfl ?_
  refine v_put g dX0_copyFrom_5 fl_RX0_15 (fl_L B _ _ _ _ _ _ _ _ hi) ⟨rfl, rfl⟩ rfl ?_
  refine v_meq (st_L B _ _ _ _ _ _ _ _ hi F2 Hd Br li wi) ?_
  refine v_aload_n g dX0_copyFrom_8 0 rfl ?_
  refine v_aload_n g dX0_copyFrom_9 1 rfl ?_
  refine v_get g dX0_copyFrom_10 fl_RX0_19 (fl2_L B _ _ hj hne h2 _) rfl ?_
  refine v_put g dX0_copyFrom_13 fl_RX0_19 (fl_L B _ _ _ _ _ _ _ _ hi) ⟨rfl, rfl⟩ rfl ?_
  refine v_meq (st_L B _ _ _ _ _ _ _ _ hi F2 H2 Br li wi) ?_
  refine v_aload_n g dX0_copyFrom_16 0 rfl ?_
  refine v_aload_n g dX0_copyFrom_17 1 rfl ?_
  refine v_get g dX0_copyFrom_18 fl_RX0_22 (fl2_L B _ _ hj hne h2 _) rfl ?_
  refine v_put g dX0_copyFrom_21 fl_RX0_22 (fl_L B _ _ _ _ _ _ _ _ hi) ⟨rfl, rfl⟩ rfl ?_
  refine v_meq (st_L B _ _ _ _ _ _ _ _ hi F2 H2 B2 li wi) ?_
  refine v_aload_n g dX0_copyFrom_24 0 rfl ?_
  refine v_aload_n g dX0_copyFrom_25 1 rfl ?_
  refine v_get g dX0_copyFrom_26 fl_RX0_25 (fl2_L B _ _ hj hne h2 _) rfl ?_
  refine v_put g dX0_copyFrom_29 fl_RX0_25 (fl_L B _ _ _ _ _ _ _ _ hi) ⟨rfl, rfl⟩ rfl ?_
  refine v_meq (st_L B _ _ _ _ _ _ _ _ hi F2 H2 B2 li2 wi) ?_
  refine v_aload_n g dX0_copyFrom_32 0 rfl ?_
  refine v_aload_n g dX0_copyFrom_33 1 rfl ?_
  refine v_get g dX0_copyFrom_34 fl_RX0_29 (fl2_L B _ _ hj hne h2 _) rfl ?_
  refine v_put g dX0_copyFrom_37 fl_RX0_29 (fl_L B _ _ _ _ _ _ _ _ hi) ⟨rfl, rfl⟩ rfl ?_
  refine v_meq (st_L B _ _ _ _ _ _ _ _ hi F2 H2 B2 li2 wi2) ?_
  refine v_iconst (v := 0) g dX0_copyFrom_40 (by decide) ?_
  refine v_istore_n (ls' := [(2, .int 0), (0, .ref (adL B i)), (1, .ref (adL B j))]) g dX0_copyFrom_41 rfl rfl ?_
  refine v_sub (ls' := [(2, .int 0), (0, .ref (adL B i)), (1, .ref (adL B j))]) [0, 1, 2] rfl ?_
  have h0 := loop 36 0 rfl
  rw [cpTo_0] at h0
  exact h0
theorem k_landClear (hi : i < 2) : Ctr l G 0 0 0 0 mX0_clear [.ref (adL B i)] n (ren B C ρ) none n (ren B (sL C i (clrLand (cL C i))) ρ) := by
  have k := k_X0_clear (l := l) (G := G) (n := n) (B := B) (C := C) (ρ := ρ) hi (cL C i).1 (cL C i).2.1 (cL C i).2.2.1 (cL C i).2.2.2.1 (cL C i).2.2.2.2.1 (cL C i).2.2.2.2.2
  have e : sL C i ((cL C i).1, (cL C i).2.1, (cL C i).2.2.1, (cL C i).2.2.2.1, (cL C i).2.2.2.2.1, (cL C i).2.2.2.2.2) = C := sL_id C i
  rw [e] at k
  exact k
theorem k_landCopy (hi : i < 2) {j : Nat} (hj : j < 2) (hne : j ≠ i) : Ctr l G 0 0 0 0 mX0_copyFrom [.ref (adL B i), .ref (adL B j)] n (ren B C ρ) none n (ren B (sL C i (cpLand (cL C i) (cL C j))) ρ) := by
  have k := k_X0_copyFrom (l := l) (G := G) (n := n) (B := B) (C := C) (ρ := ρ) hi (cL C i).1 (cL C i).2.1 (cL C i).2.2.1 (cL C i).2.2.2.1 (cL C i).2.2.2.2.1 (cL C i).2.2.2.2.2 hj hne (rfl : cL C j = ((cL C j).1, (cL C j).2.1, (cL C j).2.2.1, (cL C j).2.2.2.1, (cL C j).2.2.2.2.1, (cL C j).2.2.2.2.2))
  have e : sL C i ((cL C i).1, (cL C i).2.1, (cL C i).2.2.1, (cL C i).2.2.2.1, (cL C i).2.2.2.2.1, (cL C i).2.2.2.2.2) = C := sL_id C i
  rw [e] at k
  exact k
theorem k_orCopy (hi : i < 13) {j : Nat} (hj : j < 13) (hne : j ≠ i) (o : OV) : Ctr l G 1 22 0 0 mX1_copyFrom [.ref (adO B i), .ref (adO B j)] n (ren B (sO C i o) ρ) none n (ren B (sO C i (copyC o (cO C j))) ρ) := by
  obtain ⟨rc, yr, di, le, ta, en, ow, rs⟩ := o
  rcases h2 : cO C j with ⟨rc2, yr2, di2, le2, ta2, en2, ow2, rs2⟩
  exact k_X1_copyFrom (l := l) (G := G) (n := n) (B := B) (C := C) (ρ := ρ) hi rc yr di le ta en ow rs hj hne h2
theorem k_orCopyC (hi : i < 13) {j : Nat} (hj : j < 13) (hne : j ≠ i) : Ctr l G 1 22 0 0 mX1_copyFrom [.ref (adO B i), .ref (adO B j)] n (ren B C ρ) none n (ren B (sO C i (copyC (cO C i) (cO C j))) ρ) := by
  have k := k_orCopy (l := l) (G := G) (n := n) (B := B) (C := C) (ρ := ρ) hi hj hne (cO C i)
  rwa [sO_id] at k
theorem k_orClear (hi : i < 13) (o : OV) : Ctr l G 0 0 0 0 mX1_clear [.ref (adO B i)] n (ren B (sO C i o) ρ) none n (ren B (sO C i (clearOC o)) ρ) := by
  obtain ⟨rc, yr, di, le, ta, en, ow, rs⟩ := o
  exact k_X1_clear (l := l) (G := G) (n := n) (B := B) (C := C) (ρ := ρ) hi rc yr di le ta en ow rs
theorem va_map (B : Nat) (pm : Nat → Nat) (m x : Nat) : va_up (fun k => some (adO B (pm k))) m (some (adO B x)) = fun k => some (adO B (va_up pm m x k)) := by
  funext k; simp only [va_up]; split <;> rfl
theorem st_Pa2 (B : Nat) (C : CS) (ρ : Mu) {j : Nat} (hj : j < 2) (ct : Int32) (pm : Nat → Nat) (m x : Nat) : mset (ren B (sP C j (ct, pm)) ρ) (adPa B j) (.inl (4, pLen j, .inr (.inr (.inr (.inr (va_up (fun k => some (adO B (pm k))) m (some (adO B x)))))))) = ren B (sP C j (ct, va_up pm m x)) ρ := by
  rw [va_map, st_Pa B _ ρ hj, cP_sP, sP_sP]
theorem st_P2 (B : Nat) (C : CS) (ρ : Mu) {j : Nat} (hj : j < 2) (ct ct' : Int32) (pm : Nat → Nat) : mset (ren B (sP C j (ct, pm)) ρ) (adP B j) (.inr (2, [.ref (adPa B j), .int ct'])) = ren B (sP C j (ct', pm)) ρ := by
  rw [st_P B _ ρ hj, cP_sP, sP_sP]
theorem fp_P (B : Nat) (C : CS) (ρ : Mu) {j : Nat} (hj : j < 2) (ct : Int32) (pm : Nat → Nat) : ren B (sP C j (ct, pm)) ρ (adP B j) = some (.inr (2, [.ref (adPa B j), .int ct])) := by
  rw [rd_P B _ ρ hj]; simp only [cellC, cP_sP]
theorem fp_Pa (B : Nat) (C : CS) (ρ : Mu) {j : Nat} (hj : j < 2) (ct : Int32) (pm : Nat → Nat) : ren B (sP C j (ct, pm)) ρ (adPa B j) = some (.inl (4, pLen j, .inr (.inr (.inr (.inr (fun k => some (adO B (pm k)))))))) := by
  rw [rd_Pa B _ ρ hj]; simp only [cellC, cP_sP]
theorem fp_O (B : Nat) (C : CS) (ρ : Mu) {k : Nat} (hk : k < 13) : ∃ vs, ren B C ρ (adO B k) = some (.inr (1, vs)) := ⟨_, rd_O B C ρ hk⟩
def rot8 (pm : Nat → Nat) : Nat → Nat := va_up (va_up (va_up (va_up (va_up (va_up (va_up (va_up pm 0 (pm 1)) 1 (pm 2)) 2 (pm 3)) 3 (pm 4)) 4 (pm 5)) 5 (pm 6)) 6 (pm 7)) 7 (pm 0)
theorem k_X2_clear {j : Nat} (hj : j < 2) : Ctr l G 0 0 0 0 mX2_clear [.ref (adP B j)] n (ren B C ρ) none n (ren B (sP C j (0, (cP C j).2)) ρ) := by
  refine Ctr.of (by decide +kernel) rfl (fun X g E => ?_)
  refine v_sub (ls' := [(0, .ref (adP B j))]) [0] rfl ?_
  refine v_aload_n g dX2_clear_0 0 rfl ?_
  refine v_iconst (v := 0) g dX2_clear_1 (by decide) ?_
  refine v_put g dX2_clear_2 fl_RX2_18 (rd_P B _ _ hj) ⟨rfl, rfl⟩ rfl ?_
  refine v_meq (st_P B _ _ hj 0) ?_
  exact v_vret g E dX2_clear_5 rfl ⟨rfl, rfl, by rfl⟩
theorem k_X2_dropOldest (ct : Int32) (pm : Nat → Nat) (hpm : ∀ k, k < 8 → pm k < 13) : Ctr l G 0 0 0 0 mX2_dropOldest [.ref (adP B 0)] n (ren B (sP C 0 (ct, pm)) ρ) none n (ren B (sP C 0 (7, rot8 pm)) ρ) := by
  refine Ctr.of (by decide +kernel) rfl (fun X g E => ?_)
  refine v_sub (ls' := [(0, .ref (adP B 0))]) [0] rfl ?_
  refine v_aload_n g dX2_dropOldest_0 0 rfl ?_
  refine v_get g dX2_dropOldest_1 fl_RX2_9 (fp_P B _ _ (by decide) _ _) rfl ?_
  refine v_alen (v := 8) g dX2_dropOldest_4 (fp_Pa B _ _ (by decide) _ _) rfl rfl ?_
  refine v_if_ne (tgt := 9) g dX2_dropOldest_5 (by decide) (fun _ => ?_) (fun h => absurd h (by decide))
  refine v_aload_n g dX2_dropOldest_9 0 rfl ?_
  refine v_get g dX2_dropOldest_10 fl_RX2_9 (fp_P B _ _ (by decide) _ _) rfl ?_
  refine v_iconst (v := 0) g dX2_dropOldest_13 (by decide) ?_
  refine v_aaldO (v := .ref (adO B (pm 0))) g dX2_dropOldest_14 (fp_Pa B _ _ (by decide) _ _) (by unfold vp_in; decide) rfl ?_
  refine v_astore_n (ls' := [(1, .ref (adO B (pm 0))), (0, .ref (adP B 0))]) g dX2_dropOldest_15 rfl rfl ?_
  refine v_iconst (v := 1) g dX2_dropOldest_16 (by decide) ?_
  refine v_istore_n (ls' := [(2, .int 1), (1, .ref (adO B (pm 0))), (0, .ref (adP B 0))]) g dX2_dropOldest_17 rfl rfl ?_
  refine v_iload_n g dX2_dropOldest_18 0 rfl ?_
  refine v_aload_n g dX2_dropOldest_19 2 rfl ?_
  refine v_get g dX2_dropOldest_20 fl_RX2_9 (fp_P B _ _ (by decide) _ _) rfl ?_
  refine v_alen (v := 8) g dX2_dropOldest_23 (fp_Pa B _ _ (by decide) _ _) rfl rfl ?_
  refine v_icmp_ge (tgt := 47) g dX2_dropOldest_24 (by decide) (fun h => absurd h (by decide)) (fun _ => ?_)
  refine v_aload_n g dX2_dropOldest_27 2 rfl ?_
  refine v_get g dX2_dropOldest_28 fl_RX2_9 (fp_P B _ _ (by decide) _ _) rfl ?_
  refine v_iload_n g dX2_dropOldest_31 0 rfl ?_
  refine v_iconst (v := 1) g dX2_dropOldest_32 (by decide) ?_
  refine v_isub g dX2_dropOldest_33 (v_eqi (y := 0) (by first | decide | rfl) ?_)
  refine v_aload_n g dX2_dropOldest_34 2 rfl ?_
  refine v_get g dX2_dropOldest_35 fl_RX2_9 (fp_P B _ _ (by decide) _ _) rfl ?_
  refine v_iload_n g dX2_dropOldest_38 0 rfl ?_
  refine v_aaldO (v := .ref (adO B (pm 1))) g dX2_dropOldest_39 (fp_Pa B _ _ (by decide) _ _) (by unfold vp_in; decide) rfl ?_
  refine v_aastO g dX2_dropOldest_40 (fp_Pa B _ _ (by decide) _ _) (by unfold vp_in; decide) (rd_O B _ _ (hpm _ (by omega))) ?_
  refine v_meq (st_Pa2 B _ _ (by decide) _ _ 0 (pm 1)) ?_
  refine v_iinc (v := 2) (ls' := [(2, .int 2), (1, .ref (adO B (pm 0))), (0, .ref (adP B 0))]) g dX2_dropOldest_41 0 rfl rfl rfl rfl ?_
  refine v_goto (tgt := 18) g dX2_dropOldest_44 (by decide) ?_
  refine v_iload_n g dX2_dropOldest_18 0 rfl ?_
  refine v_aload_n g dX2_dropOldest_19 2 rfl ?_
  refine v_get g dX2_dropOldest_20 fl_RX2_9 (fp_P B _ _ (by decide) _ _) rfl ?_
  refine v_alen (v := 8) g dX2_dropOldest_23 (fp_Pa B _ _ (by decide) _ _) rfl rfl ?_
  refine v_icmp_ge (tgt := 47) g dX2_dropOldest_24 (by decide) (fun h => absurd h (by decide)) (fun _ => ?_)
  refine v_aload_n g dX2_dropOldest_27 2 rfl ?_
  refine v_get g dX2_dropOldest_28 fl_RX2_9 (fp_P B _ _ (by decide) _ _) rfl ?_
  refine v_iload_n g dX2_dropOldest_31 0 rfl ?_
  refine v_iconst (v := 1) g dX2_dropOldest_32 (by decide) ?_
  refine v_isub g dX2_dropOldest_33 (v_eqi (y := 1) (by first | decide | rfl) ?_)
  refine v_aload_n g dX2_dropOldest_34 2 rfl ?_
  refine v_get g dX2_dropOldest_35 fl_RX2_9 (fp_P B _ _ (by decide) _ _) rfl ?_
  refine v_iload_n g dX2_dropOldest_38 0 rfl ?_
  refine v_aaldO (v := .ref (adO B (pm 2))) g dX2_dropOldest_39 (fp_Pa B _ _ (by decide) _ _) (by unfold vp_in; decide) rfl ?_
  refine v_aastO g dX2_dropOldest_40 (fp_Pa B _ _ (by decide) _ _) (by unfold vp_in; decide) (rd_O B _ _ (hpm _ (by omega))) ?_
  refine v_meq (st_Pa2 B _ _ (by decide) _ _ 1 (pm 2)) ?_
  refine v_iinc (v := 3) (ls' := [(2, .int 3), (1, .ref (adO B (pm 0))), (0, .ref (adP B 0))]) g dX2_dropOldest_41 0 rfl rfl rfl rfl ?_
  refine v_goto (tgt := 18) g dX2_dropOldest_44 (by decide) ?_
  refine v_iload_n g dX2_dropOldest_18 0 rfl ?_
  refine v_aload_n g dX2_dropOldest_19 2 rfl ?_
  refine v_get g dX2_dropOldest_20 fl_RX2_9 (fp_P B _ _ (by decide) _ _) rfl ?_
  refine v_alen (v := 8) g dX2_dropOldest_23 (fp_Pa B _ _ (by decide) _ _) rfl rfl ?_
  refine v_icmp_ge (tgt := 47) g dX2_dropOldest_24 (by decide) (fun h => absurd h (by decide)) (fun _ => ?_)
  refine v_aload_n g dX2_dropOldest_27 2 rfl ?_
  refine v_get g dX2_dropOldest_28 fl_RX2_9 (fp_P B _ _ (by decide) _ _) rfl ?_
  refine v_iload_n g dX2_dropOldest_31 0 rfl ?_
  refine v_iconst (v := 1) g dX2_dropOldest_32 (by decide) ?_
  refine v_isub g dX2_dropOldest_33 (v_eqi (y := 2) (by first | decide | rfl) ?_)
  refine v_aload_n g dX2_dropOldest_34 2 rfl ?_
  refine v_get g dX2_dropOldest_35 fl_RX2_9 (fp_P B _ _ (by decide) _ _) rfl ?_
  refine v_iload_n g dX2_dropOldest_38 0 rfl ?_
  refine v_aaldO (v := .ref (adO B (pm 3))) g dX2_dropOldest_39 (fp_Pa B _ _ (by decide) _ _) (by unfold vp_in; decide) rfl ?_
  refine v_aastO g dX2_dropOldest_40 (fp_Pa B _ _ (by decide) _ _) (by unfold vp_in; decide) (rd_O B _ _ (hpm _ (by omega))) ?_
  refine v_meq (st_Pa2 B _ _ (by decide) _ _ 2 (pm 3)) ?_
  refine v_iinc (v := 4) (ls' := [(2, .int 4), (1, .ref (adO B (pm 0))), (0, .ref (adP B 0))]) g dX2_dropOldest_41 0 rfl rfl rfl rfl ?_
  refine v_goto (tgt := 18) g dX2_dropOldest_44 (by decide) ?_
  refine v_iload_n g dX2_dropOldest_18 0 rfl ?_
  refine v_aload_n g dX2_dropOldest_19 2 rfl ?_
  refine v_get g dX2_dropOldest_20 fl_RX2_9 (fp_P B _ _ (by decide) _ _) rfl ?_
  refine v_alen (v := 8) g dX2_dropOldest_23 (fp_Pa B _ _ (by decide) _ _) rfl rfl ?_
  refine v_icmp_ge (tgt := 47) g dX2_dropOldest_24 (by decide) (fun h => absurd h (by decide)) (fun _ => ?_)
  refine v_aload_n g dX2_dropOldest_27 2 rfl ?_
  refine v_get g dX2_dropOldest_28 fl_RX2_9 (fp_P B _ _ (by decide) _ _) rfl ?_
  refine v_iload_n g dX2_dropOldest_31 0 rfl ?_
  refine v_iconst (v := 1) g dX2_dropOldest_32 (by decide) ?_
  refine v_isub g dX2_dropOldest_33 (v_eqi (y := 3) (by first | decide | rfl) ?_)
  refine v_aload_n g dX2_dropOldest_34 2 rfl ?_
  refine v_get g dX2_dropOldest_35 fl_RX2_9 (fp_P B _ _ (by decide) _ _) rfl ?_
  refine v_iload_n g dX2_dropOldest_38 0 rfl ?_
  refine v_aaldO (v := .ref (adO B (pm 4))) g dX2_dropOldest_39 (fp_Pa B _ _ (by decide) _ _) (by unfold vp_in; decide) rfl ?_
  refine v_aastO g dX2_dropOldest_40 (fp_Pa B _ _ (by decide) _ _) (by unfold vp_in; decide) (rd_O B _ _ (hpm _ (by omega))) ?_
  refine v_meq (st_Pa2 B _ _ (by decide) _ _ 3 (pm 4)) ?_
  refine v_iinc (v := 5) (ls' := [(2, .int 5), (1, .ref (adO B (pm 0))), (0, .ref (adP B 0))]) g dX2_dropOldest_41 0 rfl rfl rfl rfl ?_
  refine v_goto (tgt := 18) g dX2_dropOldest_44 (by decide) ?_
  refine v_iload_n g dX2_dropOldest_18 0 rfl ?_
  refine v_aload_n g dX2_dropOldest_19 2 rfl ?_
  refine v_get g dX2_dropOldest_20 fl_RX2_9 (fp_P B _ _ (by decide) _ _) rfl ?_
  refine v_alen (v := 8) g dX2_dropOldest_23 (fp_Pa B _ _ (by decide) _ _) rfl rfl ?_
  refine v_icmp_ge (tgt := 47) g dX2_dropOldest_24 (by decide) (fun h => absurd h (by decide)) (fun _ => ?_)
  refine v_aload_n g dX2_dropOldest_27 2 rfl ?_
  refine v_get g dX2_dropOldest_28 fl_RX2_9 (fp_P B _ _ (by decide) _ _) rfl ?_
  refine v_iload_n g dX2_dropOldest_31 0 rfl ?_
  refine v_iconst (v := 1) g dX2_dropOldest_32 (by decide) ?_
  refine v_isub g dX2_dropOldest_33 (v_eqi (y := 4) (by first | decide | rfl) ?_)
  refine v_aload_n g dX2_dropOldest_34 2 rfl ?_
  refine v_get g dX2_dropOldest_35 fl_RX2_9 (fp_P B _ _ (by decide) _ _) rfl ?_
  refine v_iload_n g dX2_dropOldest_38 0 rfl ?_
  refine v_aaldO (v := .ref (adO B (pm 5))) g dX2_dropOldest_39 (fp_Pa B _ _ (by decide) _ _) (by unfold vp_in; decide) rfl ?_
  refine v_aastO g dX2_dropOldest_40 (fp_Pa B _ _ (by decide) _ _) (by unfold vp_in; decide) (rd_O B _ _ (hpm _ (by omega))) ?_
  refine v_meq (st_Pa2 B _ _ (by decide) _ _ 4 (pm 5)) ?_
  refine v_iinc (v := 6) (ls' := [(2, .int 6), (1, .ref (adO B (pm 0))), (0, .ref (adP B 0))]) g dX2_dropOldest_41 0 rfl rfl rfl rfl ?_
  refine v_goto (tgt := 18) g dX2_dropOldest_44 (by decide) ?_
  refine v_iload_n g dX2_dropOldest_18 0 rfl ?_
  refine v_aload_n g dX2_dropOldest_19 2 rfl ?_
  refine v_get g dX2_dropOldest_20 fl_RX2_9 (fp_P B _ _ (by decide) _ _) rfl ?_
  refine v_alen (v := 8) g dX2_dropOldest_23 (fp_Pa B _ _ (by decide) _ _) rfl rfl ?_
  refine v_icmp_ge (tgt := 47) g dX2_dropOldest_24 (by decide) (fun h => absurd h (by decide)) (fun _ => ?_)
  refine v_aload_n g dX2_dropOldest_27 2 rfl ?_
  refine v_get g dX2_dropOldest_28 fl_RX2_9 (fp_P B _ _ (by decide) _ _) rfl ?_
  refine v_iload_n g dX2_dropOldest_31 0 rfl ?_
  refine v_iconst (v := 1) g dX2_dropOldest_32 (by decide) ?_
  refine v_isub g dX2_dropOldest_33 (v_eqi (y := 5) (by first | decide | rfl) ?_)
  refine v_aload_n g dX2_dropOldest_34 2 rfl ?_
  refine v_get g dX2_dropOldest_35 fl_RX2_9 (fp_P B _ _ (by decide) _ _) rfl ?_
  refine v_iload_n g dX2_dropOldest_38 0 rfl ?_
  refine v_aaldO (v := .ref (adO B (pm 6))) g dX2_dropOldest_39 (fp_Pa B _ _ (by decide) _ _) (by unfold vp_in; decide) rfl ?_
  refine v_aastO g dX2_dropOldest_40 (fp_Pa B _ _ (by decide) _ _) (by unfold vp_in; decide) (rd_O B _ _ (hpm _ (by omega))) ?_
  refine v_meq (st_Pa2 B _ _ (by decide) _ _ 5 (pm 6)) ?_
  refine v_iinc (v := 7) (ls' := [(2, .int 7), (1, .ref (adO B (pm 0))), (0, .ref (adP B 0))]) g dX2_dropOldest_41 0 rfl rfl rfl rfl ?_
  refine v_goto (tgt := 18) g dX2_dropOldest_44 (by decide) ?_
  refine v_iload_n g dX2_dropOldest_18 0 rfl ?_
  refine v_aload_n g dX2_dropOldest_19 2 rfl ?_
  refine v_get g dX2_dropOldest_20 fl_RX2_9 (fp_P B _ _ (by decide) _ _) rfl ?_
  refine v_alen (v := 8) g dX2_dropOldest_23 (fp_Pa B _ _ (by decide) _ _) rfl rfl ?_
  refine v_icmp_ge (tgt := 47) g dX2_dropOldest_24 (by decide) (fun h => absurd h (by decide)) (fun _ => ?_)
  refine v_aload_n g dX2_dropOldest_27 2 rfl ?_
  refine v_get g dX2_dropOldest_28 fl_RX2_9 (fp_P B _ _ (by decide) _ _) rfl ?_
  refine v_iload_n g dX2_dropOldest_31 0 rfl ?_
  refine v_iconst (v := 1) g dX2_dropOldest_32 (by decide) ?_
  refine v_isub g dX2_dropOldest_33 (v_eqi (y := 6) (by first | decide | rfl) ?_)
  refine v_aload_n g dX2_dropOldest_34 2 rfl ?_
  refine v_get g dX2_dropOldest_35 fl_RX2_9 (fp_P B _ _ (by decide) _ _) rfl ?_
  refine v_iload_n g dX2_dropOldest_38 0 rfl ?_
  refine v_aaldO (v := .ref (adO B (pm 7))) g dX2_dropOldest_39 (fp_Pa B _ _ (by decide) _ _) (by unfold vp_in; decide) rfl ?_
  refine v_aastO g dX2_dropOldest_40 (fp_Pa B _ _ (by decide) _ _) (by unfold vp_in; decide) (rd_O B _ _ (hpm _ (by omega))) ?_
  refine v_meq (st_Pa2 B _ _ (by decide) _ _ 6 (pm 7)) ?_
  refine v_iinc (v := 8) (ls' := [(2, .int 8), (1, .ref (adO B (pm 0))), (0, .ref (adP B 0))]) g dX2_dropOldest_41 0 rfl rfl rfl rfl ?_
  refine v_goto (tgt := 18) g dX2_dropOldest_44 (by decide) ?_
  refine v_iload_n g dX2_dropOldest_18 0 rfl ?_
  refine v_aload_n g dX2_dropOldest_19 2 rfl ?_
  refine v_get g dX2_dropOldest_20 fl_RX2_9 (fp_P B _ _ (by decide) _ _) rfl ?_
  refine v_alen (v := 8) g dX2_dropOldest_23 (fp_Pa B _ _ (by decide) _ _) rfl rfl ?_
  refine v_icmp_ge (tgt := 47) g dX2_dropOldest_24 (by decide) (fun _ => ?_) (fun h => absurd (by decide) h)
  refine v_aload_n g dX2_dropOldest_47 2 rfl ?_
  refine v_get g dX2_dropOldest_48 fl_RX2_9 (fp_P B _ _ (by decide) _ _) rfl ?_
  refine v_aload_n g dX2_dropOldest_51 2 rfl ?_
  refine v_get g dX2_dropOldest_52 fl_RX2_9 (fp_P B _ _ (by decide) _ _) rfl ?_
  refine v_alen (v := 8) g dX2_dropOldest_55 (fp_Pa B _ _ (by decide) _ _) rfl rfl ?_
  refine v_iconst (v := 1) g dX2_dropOldest_56 (by decide) ?_
  refine v_isub g dX2_dropOldest_57 (v_eqi (y := 7) (by first | decide | rfl) ?_)
  refine v_aload_n g dX2_dropOldest_58 1 rfl ?_
  refine v_aastO g dX2_dropOldest_59 (fp_Pa B _ _ (by decide) _ _) (by unfold vp_in; decide) (rd_O B _ _ (hpm _ (by omega))) ?_
  refine v_meq (st_Pa2 B _ _ (by decide) _ _ 7 (pm 0)) ?_
  refine v_aload_n g dX2_dropOldest_60 2 rfl ?_
  refine v_aload_n g dX2_dropOldest_61 2 rfl ?_
  refine v_get g dX2_dropOldest_62 fl_RX2_9 (fp_P B _ _ (by decide) _ _) rfl ?_
  refine v_alen (v := 8) g dX2_dropOldest_65 (fp_Pa B _ _ (by decide) _ _) rfl rfl ?_
  refine v_iconst (v := 1) g dX2_dropOldest_66 (by decide) ?_
  refine v_isub g dX2_dropOldest_67 (v_eqi (y := 7) (by first | decide | rfl) ?_)
  refine v_put g dX2_dropOldest_68 fl_RX2_18 (fp_P B _ _ (by decide) _ _) ⟨rfl, rfl⟩ rfl ?_
  refine v_meq (st_P2 B _ _ (by decide) _ 7 _) ?_
  exact v_vret g E dX2_dropOldest_71 rfl ⟨rfl, rfl, by rfl⟩
theorem k_push0 {c : Nat} (hc : c < 8) (pm : Nat → Nat) (hpm : ∀ k, k < 8 → pm k < 13) (hp0 : ∀ k, k < 8 → 0 ≠ pm k) : Ctr l G 2 44 0 0 mX2_push [.ref (adP B 0), .ref (adO B 0)] n (ren B (sP C 0 (nI c, pm)) ρ) none n (ren B (sP (sO C (pm c) (copyC (cO C (pm c)) (cO C 0))) 0 (nI (c + 1), pm)) ρ) := by
  refine Ctr.of (by decide +kernel) rfl (fun X g E => ?_)
  refine v_sub (ls' := [(0, .ref (adP B 0)), (1, .ref (adO B 0))]) [0, 1] rfl ?_
  refine v_aload_n g dX2_push_0 0 rfl ?_
  refine v_get g dX2_push_1 fl_RX2_18 (fp_P B _ _ (by decide) _ _) rfl ?_
  refine v_aload_n g dX2_push_4 0 rfl ?_
  refine v_get g dX2_push_5 fl_RX2_9 (fp_P B _ _ (by decide) _ _) rfl ?_
  refine v_alen (v := 8) g dX2_push_8 (fp_Pa B _ _ (by decide) _ _) rfl rfl ?_
  refine v_icmp_lt (tgt := 16) g dX2_push_9 (by decide) (fun h9 => ?_) (fun h9 => absurd (nI_lt (a := c) (b := 8) hc (by decide)) h9)
  refine v_aload_n g dX2_push_16 0 rfl ?_
  refine v_get g dX2_push_17 fl_RX2_18 (fp_P B _ _ (by decide) _ _) rfl ?_
  refine v_if_lt (tgt := 58) g dX2_push_20 (by decide) (fun h20 => absurd h20 (nI_pos (by omega))) (fun h20 => ?_)
  refine v_aload_n g dX2_push_23 0 rfl ?_
  refine v_get g dX2_push_24 fl_RX2_18 (fp_P B _ _ (by decide) _ _) rfl ?_
  refine v_aload_n g dX2_push_27 0 rfl ?_
  refine v_get g dX2_push_28 fl_RX2_9 (fp_P B _ _ (by decide) _ _) rfl ?_
  refine v_alen (v := 8) g dX2_push_31 (fp_Pa B _ _ (by decide) _ _) rfl rfl ?_
  refine v_icmp_ge (tgt := 58) g dX2_push_32 (by decide) (fun h32 => absurd h32 (nI_ge (a := c) (b := 8) hc (by decide))) (fun h32 => ?_)
  refine v_aload_n g dX2_push_35 0 rfl ?_
  refine v_get g dX2_push_36 fl_RX2_9 (fp_P B _ _ (by decide) _ _) rfl ?_
  refine v_aload_n g dX2_push_39 0 rfl ?_
  refine v_get g dX2_push_40 fl_RX2_18 (fp_P B _ _ (by decide) _ _) rfl ?_
  refine v_aaldO (v := .ref (adO B (pm c))) g dX2_push_43 (fp_Pa B _ _ (by decide) _ _) (vp_in_nI (N := 8) hc (by decide)) (by rw [nI_clamp (by omega)]; rfl) ?_
  refine v_aload_n g dX2_push_44 1 rfl ?_
  refine v_callV (As := [.ref (adO B 0)]) (r := none) g dX2_push_45 (k_orCopyC (i :=  (pm c)) (j :=  0) (by first | exact hpm _ (by omega) | decide) (by first | exact hpm _ (by omega) | decide) (by first | exact hp0 _ (by omega) | exact (hp0 _ (by omega)).symm)) cl_X1_copyFrom ml_RX2_25 im_X1_copyFrom (rd_O B _ _ (hpm _ (by omega))) rfl rfl ⟨rfl, rfl, rfl⟩ ?_
  refine v_aload_n g dX2_push_48 0 rfl ?_
  refine v_dup g dX2_push_49 rfl ?_
  refine v_get g dX2_push_50 fl_RX2_18 (rd_P B _ _ (by decide)) rfl ?_
  refine v_iconst (v := 1) g dX2_push_53 (by decide) ?_
  refine v_iadd g dX2_push_54 ?_
  refine v_put g dX2_push_55 fl_RX2_18 (rd_P B _ _ (by decide)) ⟨rfl, rfl⟩ rfl ?_
  refine v_meq (st_P B _ _ (by decide) (nI c + 1)) ?_
  exact v_vret g E dX2_push_58 rfl ⟨rfl, rfl, by (rw [← nI_1 c]; exact congrArg (fun Z => ren B Z ρ) (sP_sP (sO C (pm c) (copyC (cO C (pm c)) (cO C 0))) 0 (nI c, pm) (nI c + 1, pm)).symm)⟩
theorem k_push1 {c : Nat} (hc : c < 2) (pm : Nat → Nat) (hpm : ∀ k, k < 2 → pm k < 13) (hp0 : ∀ k, k < 2 → 0 ≠ pm k) : Ctr l G 2 44 0 0 mX2_push [.ref (adP B 1), .ref (adO B 0)] n (ren B (sP C 1 (nI c, pm)) ρ) none n (ren B (sP (sO C (pm c) (copyC (cO C (pm c)) (cO C 0))) 1 (nI (c + 1), pm)) ρ) := by
  refine Ctr.of (by decide +kernel) rfl (fun X g E => ?_)
  refine v_sub (ls' := [(0, .ref (adP B 1)), (1, .ref (adO B 0))]) [0, 1] rfl ?_
  refine v_aload_n g dX2_push_0 0 rfl ?_
  refine v_get g dX2_push_1 fl_RX2_18 (fp_P B _ _ (by decide) _ _) rfl ?_
  refine v_aload_n g dX2_push_4 0 rfl ?_
  refine v_get g dX2_push_5 fl_RX2_9 (fp_P B _ _ (by decide) _ _) rfl ?_
  refine v_alen (v := 2) g dX2_push_8 (fp_Pa B _ _ (by decide) _ _) rfl rfl ?_
  refine v_icmp_lt (tgt := 16) g dX2_push_9 (by decide) (fun h9 => ?_) (fun h9 => absurd (nI_lt (a := c) (b := 2) hc (by decide)) h9)
  refine v_aload_n g dX2_push_16 0 rfl ?_
  refine v_get g dX2_push_17 fl_RX2_18 (fp_P B _ _ (by decide) _ _) rfl ?_
  refine v_if_lt (tgt := 58) g dX2_push_20 (by decide) (fun h20 => absurd h20 (nI_pos (by omega))) (fun h20 => ?_)
  refine v_aload_n g dX2_push_23 0 rfl ?_
  refine v_get g dX2_push_24 fl_RX2_18 (fp_P B _ _ (by decide) _ _) rfl ?_
  refine v_aload_n g dX2_push_27 0 rfl ?_
  refine v_get g dX2_push_28 fl_RX2_9 (fp_P B _ _ (by decide) _ _) rfl ?_
  refine v_alen (v := 2) g dX2_push_31 (fp_Pa B _ _ (by decide) _ _) rfl rfl ?_
  refine v_icmp_ge (tgt := 58) g dX2_push_32 (by decide) (fun h32 => absurd h32 (nI_ge (a := c) (b := 2) hc (by decide))) (fun h32 => ?_)
  refine v_aload_n g dX2_push_35 0 rfl ?_
  refine v_get g dX2_push_36 fl_RX2_9 (fp_P B _ _ (by decide) _ _) rfl ?_
  refine v_aload_n g dX2_push_39 0 rfl ?_
  refine v_get g dX2_push_40 fl_RX2_18 (fp_P B _ _ (by decide) _ _) rfl ?_
  refine v_aaldO (v := .ref (adO B (pm c))) g dX2_push_43 (fp_Pa B _ _ (by decide) _ _) (vp_in_nI (N := 2) hc (by decide)) (by rw [nI_clamp (by omega)]; rfl) ?_
  refine v_aload_n g dX2_push_44 1 rfl ?_
  refine v_callV (As := [.ref (adO B 0)]) (r := none) g dX2_push_45 (k_orCopyC (i :=  (pm c)) (j :=  0) (by first | exact hpm _ (by omega) | decide) (by first | exact hpm _ (by omega) | decide) (by first | exact hp0 _ (by omega) | exact (hp0 _ (by omega)).symm)) cl_X1_copyFrom ml_RX2_25 im_X1_copyFrom (rd_O B _ _ (hpm _ (by omega))) rfl rfl ⟨rfl, rfl, rfl⟩ ?_
  refine v_aload_n g dX2_push_48 0 rfl ?_
  refine v_dup g dX2_push_49 rfl ?_
  refine v_get g dX2_push_50 fl_RX2_18 (rd_P B _ _ (by decide)) rfl ?_
  refine v_iconst (v := 1) g dX2_push_53 (by decide) ?_
  refine v_iadd g dX2_push_54 ?_
  refine v_put g dX2_push_55 fl_RX2_18 (rd_P B _ _ (by decide)) ⟨rfl, rfl⟩ rfl ?_
  refine v_meq (st_P B _ _ (by decide) (nI c + 1)) ?_
  exact v_vret g E dX2_push_58 rfl ⟨rfl, rfl, by (rw [← nI_1 c]; exact congrArg (fun Z => ren B Z ρ) (sP_sP (sO C (pm c) (copyC (cO C (pm c)) (cO C 0))) 1 (nI c, pm) (nI c + 1, pm)).symm)⟩
theorem k_push0f (pm : Nat → Nat) (hpm : ∀ k, k < 8 → pm k < 13) (hp0 : ∀ k, k < 8 → 0 ≠ pm k) : Ctr l G 2 44 0 0 mX2_push [.ref (adP B 0), .ref (adO B 0)] n (ren B (sP C 0 (8, pm)) ρ) none n (ren B (sP (sO C (pm 0) (copyC (cO C (pm 0)) (cO C 0))) 0 (8, rot8 pm)) ρ) := by
  refine Ctr.of (by decide +kernel) rfl (fun X g E => ?_)
  refine v_sub (ls' := [(0, .ref (adP B 0)), (1, .ref (adO B 0))]) [0, 1] rfl ?_
  refine v_aload_n g dX2_push_0 0 rfl ?_
  refine v_get g dX2_push_1 fl_RX2_18 (fp_P B _ _ (by decide) _ _) rfl ?_
  refine v_aload_n g dX2_push_4 0 rfl ?_
  refine v_get g dX2_push_5 fl_RX2_9 (fp_P B _ _ (by decide) _ _) rfl ?_
  refine v_alen (v := 8) g dX2_push_8 (fp_Pa B _ _ (by decide) _ _) rfl rfl ?_
  refine v_icmp_lt (tgt := 16) g dX2_push_9 (by decide) (fun h => absurd h (by decide)) (fun _ => ?_)
  refine v_aload_n g dX2_push_12 0 rfl ?_
  refine v_callV (As := []) (r := none) g dX2_push_13 (k_X2_dropOldest 8 pm hpm) cl_X2_dropOldest ml_RX2_22 im_X2_dropOldest (fp_P B _ _ (by decide) _ _) rfl rfl ⟨rfl, rfl, rfl⟩ ?_
  refine v_aload_n g dX2_push_16 0 rfl ?_
  refine v_get g dX2_push_17 fl_RX2_18 (fp_P B _ _ (by decide) _ _) rfl ?_
  refine v_if_lt (tgt := 58) g dX2_push_20 (by decide) (fun h => absurd h (by decide)) (fun _ => ?_)
  refine v_aload_n g dX2_push_23 0 rfl ?_
  refine v_get g dX2_push_24 fl_RX2_18 (fp_P B _ _ (by decide) _ _) rfl ?_
  refine v_aload_n g dX2_push_27 0 rfl ?_
  refine v_get g dX2_push_28 fl_RX2_9 (fp_P B _ _ (by decide) _ _) rfl ?_
  refine v_alen (v := 8) g dX2_push_31 (fp_Pa B _ _ (by decide) _ _) rfl rfl ?_
  refine v_icmp_ge (tgt := 58) g dX2_push_32 (by decide) (fun h => absurd h (by decide)) (fun _ => ?_)
  refine v_aload_n g dX2_push_35 0 rfl ?_
  refine v_get g dX2_push_36 fl_RX2_9 (fp_P B _ _ (by decide) _ _) rfl ?_
  refine v_aload_n g dX2_push_39 0 rfl ?_
  refine v_get g dX2_push_40 fl_RX2_18 (fp_P B _ _ (by decide) _ _) rfl ?_
  refine v_aaldO (v := .ref (adO B (pm 0))) g dX2_push_43 (fp_Pa B _ _ (by decide) _ _) (by unfold vp_in; decide) rfl ?_
  refine v_aload_n g dX2_push_44 1 rfl ?_
  refine v_callV (As := [.ref (adO B 0)]) (r := none) g dX2_push_45 (k_orCopyC (i :=  (pm 0)) (j :=  0) (by first | exact hpm _ (by omega) | decide) (by first | exact hpm _ (by omega) | decide) (by first | exact hp0 _ (by omega) | exact (hp0 _ (by omega)).symm)) cl_X1_copyFrom ml_RX2_25 im_X1_copyFrom (rd_O B _ _ (hpm _ (by omega))) rfl rfl ⟨rfl, rfl, rfl⟩ ?_
  refine v_aload_n g dX2_push_48 0 rfl ?_
  refine v_dup g dX2_push_49 rfl ?_
  refine v_get g dX2_push_50 fl_RX2_18 (rd_P B _ _ (by decide)) rfl ?_
  refine v_iconst (v := 1) g dX2_push_53 (by decide) ?_
  refine v_iadd g dX2_push_54 (v_eqi (y := 8) (by first | decide | rfl) ?_)
  refine v_put g dX2_push_55 fl_RX2_18 (rd_P B _ _ (by decide)) ⟨rfl, rfl⟩ rfl ?_
  refine v_meq (st_P B _ _ (by decide) 8) ?_
  exact v_vret g E dX2_push_58 rfl ⟨rfl, rfl, by (exact congrArg (fun Z => ren B Z ρ) (sP_sP (sO C (pm 0) (copyC (cO C (pm 0)) (cO C 0))) 0 (7, rot8 pm) (8, rot8 pm)).symm)⟩
theorem k_pop0 {c : Nat} (hc : c < 8) (pm : Nat → Nat) (hpm : ∀ k, k < 8 → pm k < 13) (hp0 : ∀ k, k < 8 → 0 ≠ pm k) : Ctr l G 2 44 0 0 mX2_pop [.ref (adP B 0), .ref (adO B 0)] n (ren B (sP C 0 (nI (c + 1), pm)) ρ) none n (ren B (sO (sP C 0 (nI c, pm)) 0 (copyC (cO C 0) (cO C (pm c)))) ρ) := by
  refine Ctr.of (by decide +kernel) rfl (fun X g E => ?_)
  refine v_sub (ls' := [(0, .ref (adP B 0)), (1, .ref (adO B 0))]) [0, 1] rfl ?_
  refine v_aload_n g dX2_pop_0 0 rfl ?_
  refine v_get g dX2_pop_1 fl_RX2_18 (fp_P B _ _ (by decide) _ _) rfl ?_
  refine v_if_le (tgt := 42) g dX2_pop_4 (by decide) (fun h4 => absurd h4 (nI_nle (n := c + 1) (by omega) (by omega))) (fun h4 => ?_)
  refine v_aload_n g dX2_pop_7 0 rfl ?_
  refine v_get g dX2_pop_8 fl_RX2_18 (fp_P B _ _ (by decide) _ _) rfl ?_
  refine v_aload_n g dX2_pop_11 0 rfl ?_
  refine v_get g dX2_pop_12 fl_RX2_9 (fp_P B _ _ (by decide) _ _) rfl ?_
  refine v_alen (v := 8) g dX2_pop_15 (fp_Pa B _ _ (by decide) _ _) rfl rfl ?_
  refine v_icmp_gt (tgt := 42) g dX2_pop_16 (by decide) (fun h16 => absurd h16 (nI_nlt (a := 8) (b := c + 1) (by omega) (by decide))) (fun h16 => ?_)
  refine v_aload_n g dX2_pop_19 0 rfl ?_
  refine v_dup g dX2_pop_20 rfl ?_
  refine v_get g dX2_pop_21 fl_RX2_18 (fp_P B _ _ (by decide) _ _) rfl ?_
  refine v_iconst (v := 1) g dX2_pop_24 (by decide) ?_
  refine v_isub g dX2_pop_25 ?_
  refine v_put g dX2_pop_26 fl_RX2_18 (fp_P B _ _ (by decide) _ _) ⟨rfl, rfl⟩ rfl ?_
  rw [nI_pred]
  refine v_meq (st_P2 B _ _ (by decide) _ (nI c) _) ?_
  refine v_aload_n g dX2_pop_29 1 rfl ?_
  refine v_aload_n g dX2_pop_30 0 rfl ?_
  refine v_get g dX2_pop_31 fl_RX2_9 (fp_P B _ _ (by decide) _ _) rfl ?_
  refine v_aload_n g dX2_pop_34 0 rfl ?_
  refine v_get g dX2_pop_35 fl_RX2_18 (fp_P B _ _ (by decide) _ _) rfl ?_
  refine v_aaldO (v := .ref (adO B (pm c))) g dX2_pop_38 (fp_Pa B _ _ (by decide) _ _) (vp_in_nI (N := 8) hc (by decide)) (by rw [nI_clamp (by omega)]; rfl) ?_
  refine v_callV (As := [.ref (adO B (pm c))]) (r := none) g dX2_pop_39 (k_orCopyC (i :=  0) (j :=  (pm c)) (by first | exact hpm _ (by omega) | decide) (by first | exact hpm _ (by omega) | decide) (by first | exact hp0 _ (by omega) | exact (hp0 _ (by omega)).symm)) cl_X1_copyFrom ml_RX2_25 im_X1_copyFrom (rd_O B _ _ (by decide)) rfl rfl ⟨rfl, rfl, rfl⟩ ?_
  exact v_vret g E dX2_pop_42 rfl ⟨rfl, rfl, by rfl⟩
theorem k_pop1 {c : Nat} (hc : c < 2) (pm : Nat → Nat) (hpm : ∀ k, k < 2 → pm k < 13) (hp0 : ∀ k, k < 2 → 0 ≠ pm k) : Ctr l G 2 44 0 0 mX2_pop [.ref (adP B 1), .ref (adO B 0)] n (ren B (sP C 1 (nI (c + 1), pm)) ρ) none n (ren B (sO (sP C 1 (nI c, pm)) 0 (copyC (cO C 0) (cO C (pm c)))) ρ) := by
  refine Ctr.of (by decide +kernel) rfl (fun X g E => ?_)
  refine v_sub (ls' := [(0, .ref (adP B 1)), (1, .ref (adO B 0))]) [0, 1] rfl ?_
  refine v_aload_n g dX2_pop_0 0 rfl ?_
  refine v_get g dX2_pop_1 fl_RX2_18 (fp_P B _ _ (by decide) _ _) rfl ?_
  refine v_if_le (tgt := 42) g dX2_pop_4 (by decide) (fun h4 => absurd h4 (nI_nle (n := c + 1) (by omega) (by omega))) (fun h4 => ?_)
  refine v_aload_n g dX2_pop_7 0 rfl ?_
  refine v_get g dX2_pop_8 fl_RX2_18 (fp_P B _ _ (by decide) _ _) rfl ?_
  refine v_aload_n g dX2_pop_11 0 rfl ?_
  refine v_get g dX2_pop_12 fl_RX2_9 (fp_P B _ _ (by decide) _ _) rfl ?_
  refine v_alen (v := 2) g dX2_pop_15 (fp_Pa B _ _ (by decide) _ _) rfl rfl ?_
  refine v_icmp_gt (tgt := 42) g dX2_pop_16 (by decide) (fun h16 => absurd h16 (nI_nlt (a := 2) (b := c + 1) (by omega) (by decide))) (fun h16 => ?_)
  refine v_aload_n g dX2_pop_19 0 rfl ?_
  refine v_dup g dX2_pop_20 rfl ?_
  refine v_get g dX2_pop_21 fl_RX2_18 (fp_P B _ _ (by decide) _ _) rfl ?_
  refine v_iconst (v := 1) g dX2_pop_24 (by decide) ?_
  refine v_isub g dX2_pop_25 ?_
  refine v_put g dX2_pop_26 fl_RX2_18 (fp_P B _ _ (by decide) _ _) ⟨rfl, rfl⟩ rfl ?_
  rw [nI_pred]
  refine v_meq (st_P2 B _ _ (by decide) _ (nI c) _) ?_
  refine v_aload_n g dX2_pop_29 1 rfl ?_
  refine v_aload_n g dX2_pop_30 0 rfl ?_
  refine v_get g dX2_pop_31 fl_RX2_9 (fp_P B _ _ (by decide) _ _) rfl ?_
  refine v_aload_n g dX2_pop_34 0 rfl ?_
  refine v_get g dX2_pop_35 fl_RX2_18 (fp_P B _ _ (by decide) _ _) rfl ?_
  refine v_aaldO (v := .ref (adO B (pm c))) g dX2_pop_38 (fp_Pa B _ _ (by decide) _ _) (vp_in_nI (N := 2) hc (by decide)) (by rw [nI_clamp (by omega)]; rfl) ?_
  refine v_callV (As := [.ref (adO B (pm c))]) (r := none) g dX2_pop_39 (k_orCopyC (i :=  0) (j :=  (pm c)) (by first | exact hpm _ (by omega) | decide) (by first | exact hpm _ (by omega) | decide) (by first | exact hp0 _ (by omega) | exact (hp0 _ (by omega)).symm)) cl_X1_copyFrom ml_RX2_25 im_X1_copyFrom (rd_O B _ _ (by decide)) rfl rfl ⟨rfl, rfl, rfl⟩ ?_
  exact v_vret g E dX2_pop_42 rfl ⟨rfl, rfl, by rfl⟩
end C4
