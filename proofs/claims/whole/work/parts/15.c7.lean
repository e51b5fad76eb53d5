/-! CLASS: its own methods (1): what is asked at once, what acts -/
section C7a
variable {l : Launch} {G : GG} {n : Nat} {μ : Mu}
def bc1 (x : Int64) : Int64 := x - ((x.toUInt64 >>> (((1) : Int32).toInt64.toUInt64 &&& Int64.toUInt64 63)).toInt64 &&& 6148914691236517205)
def bc2 (x : Int64) : Int64 := (x &&& 3689348814741910323) + ((x.toUInt64 >>> (((2) : Int32).toInt64.toUInt64 &&& Int64.toUInt64 63)).toInt64 &&& 3689348814741910323)
def bc3 (x : Int64) : Int64 := (x + (x.toUInt64 >>> (((4) : Int32).toInt64.toUInt64 &&& Int64.toUInt64 63)).toInt64) &&& 1085102592571150095
def bcS (x : Int64) (k : Int32) : Int64 := x + (x.toUInt64 >>> (k.toInt64.toUInt64 &&& Int64.toUInt64 63)).toInt64
def bcC (x : Int64) : Int32 := (bcS (bcS (bcS (bc3 (bc2 (bc1 x))) 8) 16) 32).toInt32 &&& 127
theorem k_J13_bitCount (x : Int64) : Ctr l G 0 0 0 0 mJ13_bitCount_95d88 [.long x] n μ (some (.int (bcC x))) n μ := by
  refine Ctr.of (by decide +kernel) rfl (fun X g E => ?_)
  refine v_sub (ls' := [(0, .long x)]) [0] rfl ?_
  refine v_lload_n g dJ13_bitCount_95d88_0 0 rfl ?_
  refine v_lload_n g dJ13_bitCount_95d88_1 0 rfl ?_
  refine v_iconst (v := 1) g dJ13_bitCount_95d88_2 (by decide) ?_
  refine v_lushr g dJ13_bitCount_95d88_3 ?_
  refine v_ldc2 (v := 6148914691236517205) g dJ13_bitCount_95d88_4 kl_RJ13_314 ?_
  refine v_land g dJ13_bitCount_95d88_7 ?_
  refine v_lsub g dJ13_bitCount_95d88_8 ?_
  refine v_topl (fun x1 e_x1 => ?_)
  refine v_lstore_n (ls' := [(0, .long x1)]) g dJ13_bitCount_95d88_9 rfl rfl ?_
  refine v_lload_n g dJ13_bitCount_95d88_10 0 rfl ?_
  refine v_ldc2 (v := 3689348814741910323) g dJ13_bitCount_95d88_11 kl_RJ13_316 ?_
  refine v_land g dJ13_bitCount_95d88_14 ?_
  refine v_lload_n g dJ13_bitCount_95d88_15 0 rfl ?_
  refine v_iconst (v := 2) g dJ13_bitCount_95d88_16 (by decide) ?_
  refine v_lushr g dJ13_bitCount_95d88_17 ?_
  refine v_ldc2 (v := 3689348814741910323) g dJ13_bitCount_95d88_18 kl_RJ13_316 ?_
  refine v_land g dJ13_bitCount_95d88_21 ?_
  refine v_ladd g dJ13_bitCount_95d88_22 ?_
  refine v_topl (fun x2 e_x2 => ?_)
  refine v_lstore_n (ls' := [(0, .long x2)]) g dJ13_bitCount_95d88_23 rfl rfl ?_
  refine v_lload_n g dJ13_bitCount_95d88_24 0 rfl ?_
  refine v_lload_n g dJ13_bitCount_95d88_25 0 rfl ?_
  refine v_iconst (v := 4) g dJ13_bitCount_95d88_26 (by decide) ?_
  refine v_lushr g dJ13_bitCount_95d88_27 ?_
  refine v_ladd g dJ13_bitCount_95d88_28 ?_
  refine v_ldc2 (v := 1085102592571150095) g dJ13_bitCount_95d88_29 kl_RJ13_318 ?_
  refine v_land g dJ13_bitCount_95d88_32 ?_
  refine v_topl (fun x3 e_x3 => ?_)
  refine v_lstore_n (ls' := [(0, .long x3)]) g dJ13_bitCount_95d88_33 rfl rfl ?_
  refine v_lload_n g dJ13_bitCount_95d88_34 0 rfl ?_
  refine v_lload_n g dJ13_bitCount_95d88_35 0 rfl ?_
  refine v_bipush (v := 8) g dJ13_bitCount_95d88_36 (by decide) ?_
  refine v_lushr g dJ13_bitCount_95d88_38 ?_
  refine v_ladd g dJ13_bitCount_95d88_39 ?_
  refine v_topl (fun x4 e_x4 => ?_)
  refine v_lstore_n (ls' := [(0, .long x4)]) g dJ13_bitCount_95d88_40 rfl rfl ?_
  refine v_lload_n g dJ13_bitCount_95d88_41 0 rfl ?_
  refine v_lload_n g dJ13_bitCount_95d88_42 0 rfl ?_
  refine v_bipush (v := 16) g dJ13_bitCount_95d88_43 (by decide) ?_
  refine v_lushr g dJ13_bitCount_95d88_45 ?_
  refine v_ladd g dJ13_bitCount_95d88_46 ?_
  refine v_topl (fun x5 e_x5 => ?_)
  refine v_lstore_n (ls' := [(0, .long x5)]) g dJ13_bitCount_95d88_47 rfl rfl ?_
  refine v_lload_n g dJ13_bitCount_95d88_48 0 rfl ?_
  refine v_lload_n g dJ13_bitCount_95d88_49 0 rfl ?_
  refine v_bipush (v := 32) g dJ13_bitCount_95d88_50 (by decide) ?_
  refine v_lushr g dJ13_bitCount_95d88_52 ?_
  refine v_ladd g dJ13_bitCount_95d88_53 ?_
  refine v_topl (fun x6 e_x6 => ?_)
  refine v_lstore_n (ls' := [(0, .long x6)]) g dJ13_bitCount_95d88_54 rfl rfl ?_
  refine v_lload_n g dJ13_bitCount_95d88_55 0 rfl ?_
  refine v_l2i g dJ13_bitCount_95d88_56 ?_
  refine v_bipush (v := 127) g dJ13_bitCount_95d88_57 (by decide) ?_
  refine v_iand g dJ13_bitCount_95d88_59 ?_
  exact v_iret g E dJ13_bitCount_95d88_60 rfl ⟨by (subst_vars; rfl), rfl, rfl⟩
end C7a
theorem orHolds_nI {rc r : Int32} (h : orHoldsC rc r = true) : ∃ j : Nat, j < 3 ∧ r = nI j := by
  unfold orHoldsC at h
  by_cases h0 : r < 0
  · rw [if_pos h0] at h; cases h
  · rw [if_neg h0] at h
    by_cases h1 : rc ≤ r
    · rw [if_pos h1] at h; cases h
    · rw [if_neg h1] at h
      by_cases h2 : (3 : Int32) ≤ r
      · rw [if_pos h2] at h; cases h
      · exact vp_in_of (vin_c (N := 3) (m := 3) rfl h0 h2) (by decide)
theorem within_nI {x lo hi : Int32} {a b : Nat} (hlo : lo.toInt = a) (hhi : hi.toInt = b) (h : withinC x lo hi = true) : ∃ j : Nat, a ≤ j ∧ j ≤ b ∧ x = nI j := by
  unfold withinC at h
  by_cases h0 : x < lo
  · rw [if_pos h0] at h; cases h
  · rw [if_neg h0] at h
    by_cases h1 : hi < x
    · rw [if_pos h1] at h; cases h
    · rw [Int32.lt_iff_toInt_lt] at h0 h1
      have h2 : ¬ x < 0 := by
        rw [Int32.lt_iff_toInt_lt]
        have : (0 : Int32).toInt = 0 := rfl
        omega
      obtain ⟨j, hj, e⟩ := nI_of h2
      have h3 := nI_toInt hj
      rw [e] at h0 h1
      exact ⟨j, by omega, by omega, e⟩
theorem own_nI {p : Int32} (h : isOwnC p = true) : ∃ j : Nat, j < 4 ∧ p = nI j := by
  unfold isOwnC at h
  by_cases h0 : p < 0
  · rw [if_pos h0] at h; cases h
  · rw [if_neg h0] at h
    by_cases h2 : (4 : Int32) ≤ p
    · rw [if_pos h2] at h; cases h
    · exact vp_in_of (vin_c (N := 4) (m := 4) rfl h0 h2) (by decide)
section C7b
variable {l : Launch} {G : GG} {n : Nat} {B : Nat} {C : CS} {ρ : Mu}
/-- the past's state: how many, in which orchards -/
def okP (C : CS) (j len c : Nat) (pm : Nat → Nat) : Prop := cP C j = (nI c, pm) ∧ c ≤ len ∧ (∀ k, k < len → pm k < 13) ∧ ∀ k, k < len → 3 ≤ pm k
def pushU (C : CS) (c : Nat) (pm : Nat → Nat) : CS := if c < 8 then sP (sO C (pm c) (copyC (cO C (pm c)) (cO C 0))) 0 (nI (c + 1), pm) else sP (sO C (pm 0) (copyC (cO C (pm 0)) (cO C 0))) 0 (8, rot8 pm)
theorem k_pushU {c : Nat} {pm : Nat → Nat} (h : okP C 0 8 c pm) : Ctr l G 2 44 0 0 mX2_push [.ref (adP B 0), .ref (adO B 0)] n (ren B C ρ) none n (ren B (pushU C c pm) ρ) := by
  obtain ⟨h1, h2, h3, h4⟩ := h
  have e : sP C 0 (nI c, pm) = C := by rw [← h1, sP_id]
  by_cases hc : c < 8
  · have k := k_push0 (l := l) (G := G) (n := n) (B := B) (C := C) (ρ := ρ) hc pm h3 (fun k hk => by have := h4 k hk; omega)
    rw [e] at k
    rw [pushU, if_pos hc]; exact k
  · have hc8 : c = 8 := by omega
    have k := k_push0f (l := l) (G := G) (n := n) (B := B) (C := C) (ρ := ρ) pm h3 (fun k hk => by have := h4 k hk; omega)
    subst hc8
    have e8 : sP C 0 (8, pm) = C := e
    rw [e8] at k
    rw [pushU, if_neg hc]; exact k
def pushK (C : CS) (c : Nat) (pm : Nat → Nat) : CS := sP (sO C (pm c) (copyC (cO C (pm c)) (cO C 0))) 1 (nI (c + 1), pm)
theorem k_pushK {c : Nat} {pm : Nat → Nat} (h : okP C 1 2 c pm) (hc : c < 2) : Ctr l G 2 44 0 0 mX2_push [.ref (adP B 1), .ref (adO B 0)] n (ren B C ρ) none n (ren B (pushK C c pm) ρ) := by
  obtain ⟨h1, h2, h3, h4⟩ := h
  have e : sP C 1 (nI c, pm) = C := by rw [← h1, sP_id]
  have k := k_push1 (l := l) (G := G) (n := n) (B := B) (C := C) (ρ := ρ) hc pm h3 (fun k hk => by have := h4 k hk; omega)
  rw [e] at k
  exact k
def popP (C : CS) (j c : Nat) (pm : Nat → Nat) : CS := sO (sP C j (nI c, pm)) 0 (copyC (cO C 0) (cO C (pm c)))
theorem k_popU {c : Nat} {pm : Nat → Nat} (h : okP C 0 8 (c + 1) pm) : Ctr l G 2 44 0 0 mX2_pop [.ref (adP B 0), .ref (adO B 0)] n (ren B C ρ) none n (ren B (popP C 0 c pm) ρ) := by
  obtain ⟨h1, h2, h3, h4⟩ := h
  have e : sP C 0 (nI (c + 1), pm) = C := by rw [← h1, sP_id]
  have k := k_pop0 (l := l) (G := G) (n := n) (B := B) (C := C) (ρ := ρ) (c := c) (by omega) pm h3 (fun k hk => by have := h4 k hk; omega)
  rw [e] at k
  exact k
theorem k_popK {c : Nat} {pm : Nat → Nat} (h : okP C 1 2 (c + 1) pm) : Ctr l G 2 44 0 0 mX2_pop [.ref (adP B 1), .ref (adO B 0)] n (ren B C ρ) none n (ren B (popP C 1 c pm) ρ) := by
  obtain ⟨h1, h2, h3, h4⟩ := h
  have e : sP C 1 (nI (c + 1), pm) = C := by rw [← h1, sP_id]
  have k := k_pop1 (l := l) (G := G) (n := n) (B := B) (C := C) (ρ := ρ) (c := c) (by omega) pm h3 (fun k hk => by have := h4 k hk; omega)
  rw [e] at k
  exact k
variable {i : Nat}
theorem k_yearsC (hi : i < 13) {m : Nat} (hm : m < 2 ^ 31) : Ctr l G 4 98 0 0 mX1_passYears [.ref (adO B i), .int (nI m)] n (ren B C ρ) none n (ren B (sO C i (yearsC (cL C (landOf i)) m (cO C i))) ρ) := by
  have k := k_X1_passYears (l := l) (G := G) (n := n) (B := B) (C := C) (ρ := ρ) hi rfl (cO C i) hm
  rwa [sO_id] at k
theorem k_digInC (hi : i < 13) (x : Int32) : Ctr l G 2 43 0 0 mX1_digIn [.ref (adO B i), .int x] n (ren B C ρ) none n (ren B (sO C i (digInC (cL C (landOf i)).1 (cO C i) x)) ρ) := by
  have k := k_X1_digIn (l := l) (G := G) (n := n) (B := B) (C := C) (ρ := ρ) hi (rfl : cL C (landOf i) = ((cL C (landOf i)).1, (cL C (landOf i)).2.1, (cL C (landOf i)).2.2.1, (cL C (landOf i)).2.2.2.1, (cL C (landOf i)).2.2.2.2.1, (cL C (landOf i)).2.2.2.2.2)) (cO C i).1 (cO C i).2.1 (cO C i).2.2.1 (cO C i).2.2.2.1 (cO C i).2.2.2.2.1 (cO C i).2.2.2.2.2.1 (cO C i).2.2.2.2.2.2.1 (cO C i).2.2.2.2.2.2.2 x
  have e : sO C i ((cO C i).1, (cO C i).2.1, (cO C i).2.2.1, (cO C i).2.2.2.1, (cO C i).2.2.2.2.1, (cO C i).2.2.2.2.2.1, (cO C i).2.2.2.2.2.2.1, (cO C i).2.2.2.2.2.2.2) = C := sO_id C i
  rw [e] at k
  exact k
theorem k_fillInC (hi : i < 13) (x : Int32) : Ctr l G 1 20 0 0 mX1_fillIn [.ref (adO B i), .int x] n (ren B C ρ) none n (ren B (sO C i (fillInC (cO C i) x)) ρ) := by
  have k := k_X1_fillIn (l := l) (G := G) (n := n) (B := B) (C := C) (ρ := ρ) hi (cO C i).1 (cO C i).2.1 (cO C i).2.2.1 (cO C i).2.2.2.1 (cO C i).2.2.2.2.1 (cO C i).2.2.2.2.2.1 (cO C i).2.2.2.2.2.2.1 (cO C i).2.2.2.2.2.2.2 x
  have e : sO C i ((cO C i).1, (cO C i).2.1, (cO C i).2.2.1, (cO C i).2.2.2.1, (cO C i).2.2.2.2.1, (cO C i).2.2.2.2.2.1, (cO C i).2.2.2.2.2.2.1, (cO C i).2.2.2.2.2.2.2) = C := sO_id C i
  rw [e] at k
  exact k
theorem k_canDigC (hi : i < 13) (x : Int32) : Ctr l G 1 22 0 0 mX1_canDig [.ref (adO B i), .int x] n (ren B C ρ) (some (.int (zB (digC (cL C (landOf i)).1 (cO C i).2.2.1 (cO C i).2.2.2.2.1 x)))) n (ren B C ρ) := k_X1_canDig (μ := ren B C ρ) (oo := adO B i) (la := adL B (landOf i)) (rs := adRs B i) (oow := adOw B i) (rc := (cO C i).1) (yr := (cO C i).2.1) (di := (cO C i).2.2.1) (le := (cO C i).2.2.2.1) (ta := (cO C i).2.2.2.2.1) (en := (cO C i).2.2.2.2.2.1) (ow := adLo B (landOf i)) (F := (cL C (landOf i)).1) (Hd := (cL C (landOf i)).2.1) (Br := (cL C (landOf i)).2.2.1) (li := (cL C (landOf i)).2.2.2.1) (wi := (cL C (landOf i)).2.2.2.2.1) (rd_O B C ρ hi) (rd_L B C ρ (landOf_lt i)) x
theorem k_wayOfC (hi : i < 13) {r : Nat} (hr : r < 3) : Ctr l G 1 23 0 0 mX1_wayOf [.ref (adO B i), .ref (adR B i r)] n (ren B C ρ) (some (.int (wayC (cL C (landOf i)).1 (cL C (landOf i)).2.1 (cL C (landOf i)).2.2.1 (cL C (landOf i)).2.2.2.1 (cL C (landOf i)).2.2.2.2.1 (cO C i).2.2.1 (cO C i).2.2.2.2.1 (cO C i).2.1 ((cO C i).2.2.2.2.2.2.2 r).2.1 ((cO C i).2.2.2.2.2.2.2 r).2.2.1 (((cO C i).2.2.2.2.2.2.2 r).2.2.2.2 0)))) n (ren B C ρ) := k_X1_wayOf (μ := ren B C ρ) (oo := adO B i) (la := adL B (landOf i)) (rs := adRs B i) (oow := adOw B i) (rc := (cO C i).1) (yr := (cO C i).2.1) (di := (cO C i).2.2.1) (le := (cO C i).2.2.2.1) (ta := (cO C i).2.2.2.2.1) (en := (cO C i).2.2.2.2.2.1) (rd_O B C ρ hi) (ow := adLo B (landOf i)) (F := (cL C (landOf i)).1) (Hd := (cL C (landOf i)).2.1) (Br := (cL C (landOf i)).2.2.1) (li := (cL C (landOf i)).2.2.2.1) (wi := (cL C (landOf i)).2.2.2.2.1) (rd_L B C ρ (landOf_lt i)) (ro := adR B i r) (tr := adT B i r) (sz := ((cO C i).2.2.2.2.2.2.2 r).1) (kd := ((cO C i).2.2.2.2.2.2.2 r).2.1) (hd := ((cO C i).2.2.2.2.2.2.2 r).2.2.1) (be := ((cO C i).2.2.2.2.2.2.2 r).2.2.2.1) (rd_R B C ρ hi hr) (t := ((cO C i).2.2.2.2.2.2.2 r).2.2.2.2) (rd_T B C ρ hi hr)
def leaveC (o : OV) (r : Nat) : OV := leaveF o.1 o.2.1 o.2.2.1 o.2.2.2.1 o.2.2.2.2.1 o.2.2.2.2.2.1 o.2.2.2.2.2.2.1 o.2.2.2.2.2.2.2 r (o.2.2.2.2.2.2.2 r).1 (o.2.2.2.2.2.2.2 r).2.1 (o.2.2.2.2.2.2.2 r).2.2.1 (o.2.2.2.2.2.2.2 r).2.2.2.1 (o.2.2.2.2.2.2.2 r).2.2.2.2
theorem k_leaveC (hi : i < 13) {r : Nat} (hr : r < 3) : Ctr l G 1 21 0 0 mX1_leaveLast [.ref (adO B i), .ref (adR B i r)] n (ren B C ρ) (some (.int (leaveR ((cO C i).2.2.2.2.2.2.2 r).1 ((cO C i).2.2.2.2.2.2.2 r).2.2.2.2))) n (ren B (sO C i (leaveC (cO C i) r)) ρ) := by
  have k := k_X1_leaveLast (l := l) (G := G) (n := n) (B := B) (C := C) (ρ := ρ) hi (cO C i).1 (cO C i).2.1 (cO C i).2.2.1 (cO C i).2.2.2.1 (cO C i).2.2.2.2.1 (cO C i).2.2.2.2.2.1 (cO C i).2.2.2.2.2.2.1 (cO C i).2.2.2.2.2.2.2 hr ((cO C i).2.2.2.2.2.2.2 r).1 ((cO C i).2.2.2.2.2.2.2 r).2.1 ((cO C i).2.2.2.2.2.2.2 r).2.2.1 ((cO C i).2.2.2.2.2.2.2 r).2.2.2.1 ((cO C i).2.2.2.2.2.2.2 r).2.2.2.2
  have e0 : va_up (cO C i).2.2.2.2.2.2.2 r (((cO C i).2.2.2.2.2.2.2 r).1, ((cO C i).2.2.2.2.2.2.2 r).2.1, ((cO C i).2.2.2.2.2.2.2 r).2.2.1, ((cO C i).2.2.2.2.2.2.2 r).2.2.2.1, ((cO C i).2.2.2.2.2.2.2 r).2.2.2.2) = (cO C i).2.2.2.2.2.2.2 := va_up_id _ _
  rw [e0] at k
  have e : sO C i ((cO C i).1, (cO C i).2.1, (cO C i).2.2.1, (cO C i).2.2.2.1, (cO C i).2.2.2.2.1, (cO C i).2.2.2.2.2.1, (cO C i).2.2.2.2.2.2.1, (cO C i).2.2.2.2.2.2.2) = C := sO_id C i
  rw [e] at k
  exact k
theorem k_standsInC (hi : i < 13) (x : Int32) : Ctr l G 2 43 0 0 mX1_standsIn [.ref (adO B i), .int x] n (ren B C ρ) (some (.int (standInC (cO C i).1 (cO C i).2.2.2.1 (cO C i).2.2.2.2.2.2.2 x))) n (ren B C ρ) := by
  have k := k_X1_standsIn (l := l) (G := G) (n := n) (B := B) (C := C) (ρ := ρ) hi (cO C i).1 (cO C i).2.1 (cO C i).2.2.1 (cO C i).2.2.2.1 (cO C i).2.2.2.2.1 (cO C i).2.2.2.2.2.1 (cO C i).2.2.2.2.2.2.1 (cO C i).2.2.2.2.2.2.2 x
  have e : sO C i ((cO C i).1, (cO C i).2.1, (cO C i).2.2.1, (cO C i).2.2.2.1, (cO C i).2.2.2.2.1, (cO C i).2.2.2.2.2.1, (cO C i).2.2.2.2.2.2.1, (cO C i).2.2.2.2.2.2.2) = C := sO_id C i
  rw [e] at k
  exact k
def hC (C : CS) (x : Int32) : Bool := holdsC (cL C 0).2.2.2.1 (cL C 0).2.2.2.2.1 x
def rC (C : CS) (r : Int32) : Bool := orHoldsC (cO C 0).1 r
def dC0 (C : CS) (x : Int32) : Bool := digC (cL C 0).1 (cO C 0).2.2.1 (cO C 0).2.2.2.2.1 x
def writeC (C : CS) (x : Int32) : Int32 × CS := if x < 32 then (-1, C) else if x ≤ 126 then (if (cW C).1 < 0 then (-3, C) else if (cW C).1 < 200 then ((cW C).1 + 1, sW (sA C 0 (upd (cA C 0) (cW C).1.toNatClampNeg (vp_nar .char (x.toUInt32 % 65536).toInt32))) ((cW C).1 + 1, (cW C).2)) else (-3, C)) else (-1, C)
def cellR (C : CS) (x what : Int32) : Int32 := if hC C x = false then -1 else if what = 0 then groundC (cL C 0).1 (cL C 0).2.1 (cL C 0).2.2.1 x else if what = 1 then ownerC (cL C 0).2.2.2.2.2 x else if what = 2 then (if ctn (cO C 0).2.2.1 x = true then 1 else 0) else if what = 3 then standInC (cO C 0).1 (cO C 0).2.2.2.1 (cO C 0).2.2.2.2.2.2.2 x else -1
def rowX (C : CS) (r : Nat) (what : Int32) : Int32 := if what = 0 then ((cO C 0).2.2.2.2.2.2.2 r).2.1 else if what = 1 then ((cO C 0).2.2.2.2.2.2.2 r).2.2.1 else if what = 2 then ((cO C 0).2.2.2.2.2.2.2 r).2.2.2.1 else if what = 3 then ((cO C 0).2.2.2.2.2.2.2 r).1 else if what = 4 then nextC (cL C 0).2.2.2.1 (cL C 0).2.2.2.2.1 (((cO C 0).2.2.2.2.2.2.2 r).2.2.2.2 0) (wayC (cL C 0).1 (cL C 0).2.1 (cL C 0).2.2.1 (cL C 0).2.2.2.1 (cL C 0).2.2.2.2.1 (cO C 0).2.2.1 (cO C 0).2.2.2.2.1 (cO C 0).2.1 ((cO C 0).2.2.2.2.2.2.2 r).2.1 ((cO C 0).2.2.2.2.2.2.2 r).2.2.1 (((cO C 0).2.2.2.2.2.2.2 r).2.2.2.2 0)) else -1
def rowR (C : CS) (r what : Int32) : Int32 := if rC C r = false then -1 else rowX C r.toNatClampNeg what
def treeR (C : CS) (r k : Int32) : Int32 := if rC C r = false then -1 else if k < 0 then -1 else if 4 ≤ k then -1 else treeAtC ((cO C 0).2.2.2.2.2.2.2 r.toNatClampNeg).1 ((cO C 0).2.2.2.2.2.2.2 r.toNatClampNeg).2.2.2.2 k
def hasR (C : CS) (p : Int32) : Int32 := if isOwnC p = false then -1 else (cO C 0).2.2.2.2.2.2.1 p.toNatClampNeg
def passS (C : CS) (c : Nat) (pm : Nat → Nat) (m : Nat) : CS := sO (pushU C c pm) 0 (yearsC (cL (pushU C c pm) 0) m (cO (pushU C c pm) 0))
def digS (C : CS) (c : Nat) (pm : Nat → Nat) (x : Int32) : CS := sO (pushU C c pm) 0 (digInC (cL (pushU C c pm) 0).1 (cO (pushU C c pm) 0) x)
def fillS (C : CS) (c : Nat) (pm : Nat → Nat) (x : Int32) : CS := sO (pushU C c pm) 0 (fillInC (cO (pushU C c pm) 0) x)
def leaveS (C : CS) (c : Nat) (pm : Nat → Nat) (r : Nat) : CS := sO (pushU C c pm) 0 (leaveC (cO (pushU C c pm) 0) r)
def passC (C : CS) (c : Nat) (pm : Nat → Nat) (x : Int32) : Int32 × CS := if withinC x 1 20 = false then (-1, C) else ((cO (passS C c pm x.toNatClampNeg) 0).2.1, passS C c pm x.toNatClampNeg)
def digW (C : CS) (c : Nat) (pm : Nat → Nat) (x : Int32) : Int32 × CS := if hC C x = false then (-1, C) else if dC0 C x = false then (-2, C) else (bcC (cO (digS C c pm x) 0).2.2.1, digS C c pm x)
def fillW (C : CS) (c : Nat) (pm : Nat → Nat) (x : Int32) : Int32 × CS := if hC C x = false then (-1, C) else if ctn (cO C 0).2.2.1 x = false then (-2, C) else (bcC (cO (fillS C c pm x) 0).2.2.1, fillS C c pm x)
def leaveW (C : CS) (c : Nat) (pm : Nat → Nat) (r : Int32) : Int32 × CS := if rC C r = false then (-1, C) else if 2 ≤ ((cO C 0).2.2.2.2.2.2.2 r.toNatClampNeg).1 then (leaveR ((cO (pushU C c pm) 0).2.2.2.2.2.2.2 r.toNatClampNeg).1 ((cO (pushU C c pm) 0).2.2.2.2.2.2.2 r.toNatClampNeg).2.2.2.2, leaveS C c pm r.toNatClampNeg) else (-2, C)
def seeC (C : CS) (r x t : Int32) : Int32 × CS := if rC C r = false then (-1, C) else if hC C x = false then (-1, C) else if withinC t 0 20 = false then (-1, C) else if (cW C).2 < 0 then (-3, C) else if (cW C).2 < 6 then ((cW C).2 + 1, sW (sA (sA (sA C 1 (upd (cA C 1) (cW C).2.toNatClampNeg r)) 2 (upd (cA C 2) (cW C).2.toNatClampNeg x)) 3 (upd (cA C 3) (cW C).2.toNatClampNeg t)) ((cW C).1, (cW C).2 + 1)) else (-3, C)
def countR (C : CS) (w : Int32) : Int32 := if w = 0 then (cL C 0).2.2.2.1 * (cL C 0).2.2.2.2.1 else if w = 1 then (cL C 0).2.2.2.2.1 else if w = 2 then (cO C 0).1 else if w = 3 then (cO C 0).2.1 else if w = 4 then bcC ((cO C 0).2.2.2.2.1 &&& ((cO C 0).2.2.2.1 ^^^ (-1))) else if w = 5 then bcC (cO C 0).2.2.2.1 else if w = 6 then bcC (cO C 0).2.2.1 else if w = 7 then allHaveC (cO C 0).2.2.2.2.2.2.1 else if w = 8 then (cW C).2 else if w = 9 then (cP C 0).1 else if w = 10 then (cP C 1).1 else if w = 11 then (cW C).1 else -1
def faultS (C : CS) : CS := rdS1 C (minC (cW C).1 (nI 200)) 0 (rtRun 200 (cA C 0) (cW C).1 C).2
def layS1 (C : CS) : CS := sL (faultS C) 0 (cpLand (cL (faultS C) 0) (cL (faultS C) 1))
def layS2 (C : CS) : CS := sO (layS1 C) 0 (copyC (cO (layS1 C) 0) (cO (layS1 C) 2))
def layS3 (C : CS) : CS := sP (sW (layS2 C) ((cW C).1, 0)) 0 (0, (cP C 0).2)
def layS (C : CS) : CS := sP (layS3 C) 1 (0, (cP C 1).2)
def layC (C : CS) : Int32 × CS := if (rtRun 200 (cA C 0) (cW C).1 C).1 = -4 then (if (cO (faultS C) 2).1 = 0 then (-2, faultS C) else ((cO (layS C) 0).1, layS C)) else (-2, faultS C)
theorem k_X5_write (x : Int32) : Ctr l G 0 0 0 0 mX5_write [.ref B, .int x] n (ren B C ρ) (some (.int ((writeC C x).1))) n (ren B ((writeC C x).2) ρ) := by
  refine Ctr.of (by decide +kernel) rfl (fun X g E => ?_)
  refine v_sub (ls' := [(0, .ref B), (1, .int x)]) [0, 1] rfl ?_
  refine v_iload_n g dX5_write_0 1 rfl ?_
  refine v_bipush (v := 32) g dX5_write_1 (by decide) ?_
  refine v_icmp_lt (tgt := 12) g dX5_write_3 (by decide) (fun h3 => ?_) (fun h3 => ?_)
  · skip
    refine v_iconst (v := (-1)) g dX5_write_12 (by decide) ?_
    exact v_iret g E dX5_write_13 rfl ⟨by first | (simp only [writeC, *, ↓reduceIte, Bool.true_eq_false, Bool.false_eq_true, if_true, if_false]; done) | (simp [writeC, *]; done) | (simp only [writeC, *, ↓reduceIte, Bool.true_eq_false, Bool.false_eq_true, if_true, if_false]; rfl), rfl, by first | (simp only [writeC, *, ↓reduceIte, Bool.true_eq_false, Bool.false_eq_true, if_true, if_false]; done) | (simp [writeC, *]; done) | (simp only [writeC, *, ↓reduceIte, Bool.true_eq_false, Bool.false_eq_true, if_true, if_false]; rfl)⟩
  · skip
    refine v_iload_n g dX5_write_6 1 rfl ?_
    refine v_bipush (v := 126) g dX5_write_7 (by decide) ?_
    refine v_icmp_le (tgt := 14) g dX5_write_9 (by decide) (fun h9 => ?_) (fun h9 => ?_)
    · skip
      refine v_aload_n g dX5_write_14 0 rfl ?_
      refine v_get g dX5_write_15 fl_RX5_90 (rd_W B _ _) rfl ?_
      refine v_if_lt (tgt := 33) g dX5_write_18 (by decide) (fun h18 => ?_) (fun h18 => ?_)
      · skip
        refine v_bipush (v := (-3)) g dX5_write_33 (by decide) ?_
        exact v_iret g E dX5_write_35 rfl ⟨by first | (simp only [writeC, *, ↓reduceIte, Bool.true_eq_false, Bool.false_eq_true, if_true, if_false]; done) | (simp [writeC, *]; done) | (simp only [writeC, *, ↓reduceIte, Bool.true_eq_false, Bool.false_eq_true, if_true, if_false]; rfl), rfl, by first | (simp only [writeC, *, ↓reduceIte, Bool.true_eq_false, Bool.false_eq_true, if_true, if_false]; done) | (simp [writeC, *]; done) | (simp only [writeC, *, ↓reduceIte, Bool.true_eq_false, Bool.false_eq_true, if_true, if_false]; rfl)⟩
      · skip
        refine v_aload_n g dX5_write_21 0 rfl ?_
        refine v_get g dX5_write_22 fl_RX5_90 (rd_W B _ _) rfl ?_
        refine v_aload_n g dX5_write_25 0 rfl ?_
        refine v_get g dX5_write_26 fl_RX5_9 (rd_W B _ _) rfl ?_
        refine v_alen (v := 200) g dX5_write_29 (rd_A B _ _ (by decide)) rfl rfl ?_
        refine v_icmp_lt (tgt := 36) g dX5_write_30 (by decide) (fun h30 => ?_) (fun h30 => ?_)
        · skip
          refine v_aload_n g dX5_write_36 0 rfl ?_
          refine v_get g dX5_write_37 fl_RX5_9 (rd_W B _ _) rfl ?_
          refine v_aload_n g dX5_write_40 0 rfl ?_
          refine v_get g dX5_write_41 fl_RX5_90 (rd_W B _ _) rfl ?_
          refine v_iload_n g dX5_write_44 1 rfl ?_
          refine v_i2c g dX5_write_45 ?_
          refine v_cast g dX5_write_46 (rd_A B _ _ (by decide)) (vin_o (o := 0) (m := 200) rfl (Int32.not_lt.mp h18) h30) ?_
          refine v_meq (st_A B _ _ (k := 0) (by decide) (upd (cA C 0) ((cW C).1).toNatClampNeg (vp_nar .char ((x.toUInt32 % 65536).toInt32)))) ?_
          refine v_aload_n g dX5_write_47 0 rfl ?_
          refine v_dup g dX5_write_48 rfl ?_
          refine v_get g dX5_write_49 fl_RX5_90 (rd_W B _ _) rfl ?_
          refine v_iconst (v := 1) g dX5_write_52 (by decide) ?_
          refine v_iadd g dX5_write_53 ?_
          refine v_put g dX5_write_54 fl_RX5_90 (rd_W B _ _) ⟨rfl, rfl⟩ rfl ?_
          refine v_meq (st_W B _ _ ((cW C).1 + 1) ((cW C).2)) ?_
          refine v_aload_n g dX5_write_57 0 rfl ?_
          refine v_get g dX5_write_58 fl_RX5_90 (rd_W B _ _) rfl ?_
          exact v_iret g E dX5_write_61 rfl ⟨by first | (simp only [writeC, *, ↓reduceIte, Bool.true_eq_false, Bool.false_eq_true, if_true, if_false]; done) | (simp [writeC, *]; done) | (simp only [writeC, *, ↓reduceIte, Bool.true_eq_false, Bool.false_eq_true, if_true, if_false]; rfl), rfl, by first | (simp only [writeC, *, ↓reduceIte, Bool.true_eq_false, Bool.false_eq_true, if_true, if_false]; done) | (simp [writeC, *]; done) | (simp only [writeC, *, ↓reduceIte, Bool.true_eq_false, Bool.false_eq_true, if_true, if_false]; rfl)⟩
        · skip
          refine v_bipush (v := (-3)) g dX5_write_33 (by decide) ?_
          exact v_iret g E dX5_write_35 rfl ⟨by first | (simp only [writeC, *, ↓reduceIte, Bool.true_eq_false, Bool.false_eq_true, if_true, if_false]; done) | (simp [writeC, *]; done) | (simp only [writeC, *, ↓reduceIte, Bool.true_eq_false, Bool.false_eq_true, if_true, if_false]; rfl), rfl, by first | (simp only [writeC, *, ↓reduceIte, Bool.true_eq_false, Bool.false_eq_true, if_true, if_false]; done) | (simp [writeC, *]; done) | (simp only [writeC, *, ↓reduceIte, Bool.true_eq_false, Bool.false_eq_true, if_true, if_false]; rfl)⟩
    · skip
      refine v_iconst (v := (-1)) g dX5_write_12 (by decide) ?_
      exact v_iret g E dX5_write_13 rfl ⟨by first | (simp only [writeC, *, ↓reduceIte, Bool.true_eq_false, Bool.false_eq_true, if_true, if_false]; done) | (simp [writeC, *]; done) | (simp only [writeC, *, ↓reduceIte, Bool.true_eq_false, Bool.false_eq_true, if_true, if_false]; rfl), rfl, by first | (simp only [writeC, *, ↓reduceIte, Bool.true_eq_false, Bool.false_eq_true, if_true, if_false]; done) | (simp [writeC, *]; done) | (simp only [writeC, *, ↓reduceIte, Bool.true_eq_false, Bool.false_eq_true, if_true, if_false]; rfl)⟩
theorem k_X5_wipe  : Ctr l G 0 0 0 0 mX5_wipe [.ref B] n (ren B C ρ) (some (.int ((cW C).1))) n (ren B (sW C (0, (cW C).2)) ρ) := by
  refine Ctr.of (by decide +kernel) rfl (fun X g E => ?_)
  refine v_sub (ls' := [(0, .ref B)]) [0] rfl ?_
  refine v_aload_n g dX5_wipe_0 0 rfl ?_
  refine v_get g dX5_wipe_1 fl_RX5_90 (rd_W B _ _) rfl ?_
  refine v_istore_n (ls' := [(1, .int ((cW C).1)), (0, .ref B)]) g dX5_wipe_4 rfl rfl ?_
  refine v_aload_n g dX5_wipe_5 1 rfl ?_
  refine v_iconst (v := 0) g dX5_wipe_6 (by decide) ?_
  refine v_put g dX5_wipe_7 fl_RX5_90 (rd_W B _ _) ⟨rfl, rfl⟩ rfl ?_
  refine v_meq (st_W B _ _ 0 ((cW C).2)) ?_
  refine v_iload_n g dX5_wipe_10 0 rfl ?_
  exact v_iret g E dX5_wipe_11 rfl ⟨by rfl, rfl, rfl⟩
theorem k_X5_forget  : Ctr l G 0 0 0 0 mX5_forget [.ref B] n (ren B C ρ) (some (.int ((cW C).2))) n (ren B (sW C ((cW C).1, 0)) ρ) := by
  refine Ctr.of (by decide +kernel) rfl (fun X g E => ?_)
  refine v_sub (ls' := [(0, .ref B)]) [0] rfl ?_
  refine v_aload_n g dX5_forget_0 0 rfl ?_
  refine v_get g dX5_forget_1 fl_RX5_97 (rd_W B _ _) rfl ?_
  refine v_istore_n (ls' := [(1, .int ((cW C).2)), (0, .ref B)]) g dX5_forget_4 rfl rfl ?_
  refine v_aload_n g dX5_forget_5 1 rfl ?_
  refine v_iconst (v := 0) g dX5_forget_6 (by decide) ?_
  refine v_put g dX5_forget_7 fl_RX5_97 (rd_W B _ _) ⟨rfl, rfl⟩ rfl ?_
  refine v_meq (st_W B _ _ ((cW C).1) 0) ?_
  refine v_iload_n g dX5_forget_10 0 rfl ?_
  exact v_iret g E dX5_forget_11 rfl ⟨by rfl, rfl, rfl⟩
theorem k_X5_fault (hch : ∀ q, narrow .char (.int (cA C 0 q)) = .int (cA C 0 q)) : Ctr l G 6 135 0 0 mX5_fault [.ref B] n (ren B C ρ) (some (.int ((rtRun 200 (cA C 0) (cW C).1 C).1))) n (ren B (faultS C) ρ) := by
  refine Ctr.of (by decide +kernel) rfl (fun X g E => ?_)
  refine v_sub (ls' := [(0, .ref B)]) [0] rfl ?_
  refine v_aload_n g dX5_fault_0 0 rfl ?_
  refine v_get g dX5_fault_1 fl_RX5_35 (rd_W B _ _) rfl ?_
  refine v_aload_n g dX5_fault_4 0 rfl ?_
  refine v_get g dX5_fault_5 fl_RX5_9 (rd_W B _ _) rfl ?_
  refine v_aload_n g dX5_fault_8 0 rfl ?_
  refine v_get g dX5_fault_9 fl_RX5_90 (rd_W B _ _) rfl ?_
  refine v_callV (As := [.ref (adA B 0), .int ((cW C).1)]) (r := some (.int ((rtRun 200 (cA C 0) (cW C).1 C).1))) g dX5_fault_12 (k_readText (k := 0) (Or.inl rfl) hch (cW C).1) cl_X3_readText ml_RX5_76 im_X3_readText (rd_Re B _ _) rfl rfl ⟨rfl, rfl, rfl⟩ ?_
  refine v_meq (μ' := ren B (faultS C) ρ) rfl ?_
  exact v_iret g E dX5_fault_15 rfl ⟨by rfl, rfl, rfl⟩
theorem k_X5_cell (x wh : Int32) : Ctr l G 3 65 0 0 mX5_cell [.ref B, .int x, .int wh] n (ren B C ρ) (some (.int (cellR C x wh))) n (ren B (C) ρ) := by
  refine Ctr.of (by decide +kernel) rfl (fun X g E => ?_)
  refine v_sub (ls' := [(0, .ref B), (1, .int x), (2, .int wh)]) [0, 1, 2] rfl ?_
  refine v_aload_n g dX5_cell_0 0 rfl ?_
  refine v_get g dX5_cell_1 fl_RX5_16 (rd_W B _ _) rfl ?_
  refine v_iload_n g dX5_cell_4 1 rfl ?_
  refine v_callV (As := [.int x]) (r := some (.int (zB (holdsC (cL C 0).2.2.2.1 (cL C 0).2.2.2.2.1 x)))) g dX5_cell_5 (k_X0_holds (rd_L B _ _ (by decide)) x) cl_X0_holds ml_RX5_103 im_X0_holds (rd_L B _ _ (by decide)) rfl rfl ⟨rfl, rfl, rfl⟩ ?_
  refine v_if_ne (tgt := 13) g dX5_cell_8 (by decide) (fun h8 => ?_) (fun h8 => ?_)
  · skip
    have h8 := zB_t0 h8
    refine v_iload_n g dX5_cell_13 2 rfl ?_
    by_cases h14_0 : wh = 0
    · skip
      refine v_tableIn (tgt := 44) (off := 30) g dX5_cell_14 (by rw [h14_0]; decide) (by rw [h14_0]; rfl) (by decide) ?_
      refine v_aload_n g dX5_cell_44 0 rfl ?_
      refine v_get g dX5_cell_45 fl_RX5_16 (rd_W B _ _) rfl ?_
      refine v_iload_n g dX5_cell_48 1 rfl ?_
      refine v_callV (As := [.int x]) (r := some (.int (groundC (cL C 0).1 (cL C 0).2.1 (cL C 0).2.2.1 x))) g dX5_cell_49 (k_X0_groundOf (rd_L B _ _ (by decide)) x) cl_X0_groundOf ml_RX5_107 im_X0_groundOf (rd_L B _ _ (by decide)) rfl rfl ⟨rfl, rfl, rfl⟩ ?_
      exact v_iret g E dX5_cell_52 rfl ⟨by first | (simp only [cellR, hC, *, ↓reduceIte, Bool.true_eq_false, Bool.false_eq_true, if_true, if_false]; done) | (simp [cellR, hC, *]; done) | (simp only [cellR, hC, *, ↓reduceIte, Bool.true_eq_false, Bool.false_eq_true, if_true, if_false]; rfl), rfl, rfl⟩
    by_cases h14_1 : wh = 1
    · skip
      refine v_tableIn (tgt := 53) (off := 39) g dX5_cell_14 (by rw [h14_1]; decide) (by rw [h14_1]; rfl) (by decide) ?_
      refine v_aload_n g dX5_cell_53 0 rfl ?_
      refine v_get g dX5_cell_54 fl_RX5_16 (rd_W B _ _) rfl ?_
      refine v_iload_n g dX5_cell_57 1 rfl ?_
      refine v_callV (As := [.int x]) (r := some (.int (ownerC (cL C 0).2.2.2.2.2 x))) g dX5_cell_58 (k_X0_ownerOf (rd_L B _ _ (by decide)) (rd_Lo B _ _ (by decide)) x) cl_X0_ownerOf ml_RX5_111 im_X0_ownerOf (rd_L B _ _ (by decide)) rfl rfl ⟨rfl, rfl, rfl⟩ ?_
      exact v_iret g E dX5_cell_61 rfl ⟨by first | (simp only [cellR, hC, *, ↓reduceIte, Bool.true_eq_false, Bool.false_eq_true, if_true, if_false]; done) | (simp [cellR, hC, *]; done) | (simp only [cellR, hC, *, ↓reduceIte, Bool.true_eq_false, Bool.false_eq_true, if_true, if_false]; rfl), rfl, rfl⟩
    by_cases h14_2 : wh = 2
    · skip
      refine v_tableIn (tgt := 62) (off := 48) g dX5_cell_14 (by rw [h14_2]; decide) (by rw [h14_2]; rfl) (by decide) ?_
      refine v_aload_n g dX5_cell_62 0 rfl ?_
      refine v_get g dX5_cell_63 fl_RX5_25 (rd_W B _ _) rfl ?_
      refine v_get g dX5_cell_66 fl_RX5_114 (rd_O B _ _ (by decide)) rfl ?_
      refine v_iload_n g dX5_cell_69 1 rfl ?_
      refine v_callS (As := [.long ((cO C 0).2.2.1), .int x]) (r := some (.int (zB (ctn ((cO C 0).2.2.1) x)))) g dX5_cell_70 (k_X5_contains ((cO C 0).2.2.1) x) cl_X5_contains ml_RX5_118 sm_X5_contains rfl ⟨rfl, rfl, rfl⟩ ?_
      refine v_if_eq (tgt := 80) g dX5_cell_73 (by decide) (fun h73 => ?_) (fun h73 => ?_)
      · skip
        have h73 := zB_f0 h73
        refine v_iconst (v := 0) g dX5_cell_80 (by decide) ?_
        exact v_iret g E dX5_cell_81 rfl ⟨by first | (simp only [cellR, hC, *, ↓reduceIte, Bool.true_eq_false, Bool.false_eq_true, if_true, if_false]; done) | (simp [cellR, hC, *]; done) | (simp only [cellR, hC, *, ↓reduceIte, Bool.true_eq_false, Bool.false_eq_true, if_true, if_false]; rfl), rfl, rfl⟩
      · skip
        have h73 := zB_t0 h73
        refine v_iconst (v := 1) g dX5_cell_76 (by decide) ?_
        refine v_goto (tgt := 81) g dX5_cell_77 (by decide) ?_
        exact v_iret g E dX5_cell_81 rfl ⟨by first | (simp only [cellR, hC, *, ↓reduceIte, Bool.true_eq_false, Bool.false_eq_true, if_true, if_false]; done) | (simp [cellR, hC, *]; done) | (simp only [cellR, hC, *, ↓reduceIte, Bool.true_eq_false, Bool.false_eq_true, if_true, if_false]; rfl), rfl, rfl⟩
    by_cases h14_3 : wh = 3
    · skip
      refine v_tableIn (tgt := 82) (off := 68) g dX5_cell_14 (by rw [h14_3]; decide) (by rw [h14_3]; rfl) (by decide) ?_
      refine v_aload_n g dX5_cell_82 0 rfl ?_
      refine v_get g dX5_cell_83 fl_RX5_25 (rd_W B _ _) rfl ?_
      refine v_iload_n g dX5_cell_86 1 rfl ?_
      refine v_callV (As := [.int x]) (r := some (.int (standInC (cO C 0).1 (cO C 0).2.2.2.1 (cO C 0).2.2.2.2.2.2.2 x))) g dX5_cell_87 (k_standsInC (i := 0) (by decide) x) cl_X1_standsIn ml_RX5_122 im_X1_standsIn (rd_O B _ _ (by decide)) rfl rfl ⟨rfl, rfl, rfl⟩ ?_
      exact v_iret g E dX5_cell_90 rfl ⟨by first | (simp only [cellR, hC, *, ↓reduceIte, Bool.true_eq_false, Bool.false_eq_true, if_true, if_false]; done) | (simp [cellR, hC, *]; done) | (simp only [cellR, hC, *, ↓reduceIte, Bool.true_eq_false, Bool.false_eq_true, if_true, if_false]; rfl), rfl, rfl⟩
    refine v_tableOut (tgt := 91) g dX5_cell_14 (by have q0 := lv_neT (a := 0) h14_0 rfl; have q1 := lv_neT (a := 1) h14_1 rfl; have q2 := lv_neT (a := 2) h14_2 rfl; have q3 := lv_neT (a := 3) h14_3 rfl; omega) (by decide) ?_
    refine v_iconst (v := (-1)) g dX5_cell_91 (by decide) ?_
    exact v_iret g E dX5_cell_92 rfl ⟨by first | (simp only [cellR, hC, *, ↓reduceIte, Bool.true_eq_false, Bool.false_eq_true, if_true, if_false]; done) | (simp [cellR, hC, *]; done) | (simp only [cellR, hC, *, ↓reduceIte, Bool.true_eq_false, Bool.false_eq_true, if_true, if_false]; rfl), rfl, rfl⟩
  · skip
    have h8 := zB_f0 h8
    refine v_iconst (v := (-1)) g dX5_cell_11 (by decide) ?_
    exact v_iret g E dX5_cell_12 rfl ⟨by first | (simp only [cellR, hC, *, ↓reduceIte, Bool.true_eq_false, Bool.false_eq_true, if_true, if_false]; done) | (simp [cellR, hC, *]; done) | (simp only [cellR, hC, *, ↓reduceIte, Bool.true_eq_false, Bool.false_eq_true, if_true, if_false]; rfl), rfl, rfl⟩
theorem k_X5_row (r wh : Int32) : Ctr l G 2 52 0 0 mX5_row [.ref B, .int r, .int wh] n (ren B C ρ) (some (.int (rowR C r wh))) n (ren B (C) ρ) := by
  refine Ctr.of (by decide +kernel) rfl (fun X g E => ?_)
  refine v_sub (ls' := [(0, .ref B), (1, .int r), (2, .int wh)]) [0, 1, 2] rfl ?_
  refine v_aload_n g dX5_row_0 0 rfl ?_
  refine v_get g dX5_row_1 fl_RX5_25 (rd_W B _ _) rfl ?_
  refine v_iload_n g dX5_row_4 1 rfl ?_
  refine v_callV (As := [.int r]) (r := some (.int (zB (orHoldsC (cO C 0).1 r)))) g dX5_row_5 (k_X1_holds (rd_O B _ _ (by decide)) r) cl_X1_holds ml_RX5_125 im_X1_holds (rd_O B _ _ (by decide)) rfl rfl ⟨rfl, rfl, rfl⟩ ?_
  refine v_if_ne (tgt := 13) g dX5_row_8 (by decide) (fun h8 => ?_) (fun h8 => ?_)
  · skip
    have h8 := zB_t0 h8
    obtain ⟨r0, hr0, er⟩ := orHolds_nI h8
    subst er
    refine v_aload_n g dX5_row_13 0 rfl ?_
    refine v_get g dX5_row_14 fl_RX5_25 (rd_W B _ _) rfl ?_
    refine v_get g dX5_row_17 fl_RX5_126 (rd_O B _ _ (by decide)) rfl ?_
    refine v_iload_n g dX5_row_20 1 rfl ?_
    refine v_aaldR (v := .ref (adR B 0 r0)) g dX5_row_21 (rd_Rs B _ _ (by decide)) (vp_in_nI (by omega) (by decide)) (by rw [nI_clamp (by omega)]; rfl) ?_
    refine v_astore_n (ls' := [(3, .ref (adR B 0 r0)), (0, .ref B), (1, .int (nI r0)), (2, .int wh)]) g dX5_row_22 rfl rfl ?_
    refine v_iload_n g dX5_row_23 3 rfl ?_
    by_cases h24_0 : wh = 0
    · skip
      refine v_tableIn (tgt := 60) (off := 36) g dX5_row_24 (by rw [h24_0]; decide) (by rw [h24_0]; rfl) (by decide) ?_
      refine v_aload_n g dX5_row_60 0 rfl ?_
      refine v_get g dX5_row_61 fl_RX5_130 (rd_R B _ _ (by decide) hr0) rfl ?_
      exact v_iret g E dX5_row_64 rfl ⟨by first | (simp only [rowR, rC, rowX, *, nI_clamp (show r0 < 2 ^ 31 by omega), ↓reduceIte, Bool.true_eq_false, Bool.false_eq_true]; done) | (simp [rowR, rC, rowX, *, nI_clamp (show r0 < 2 ^ 31 by omega)]; done) | (simp [rowR, rC, rowX, *]; done), rfl, rfl⟩
    by_cases h24_1 : wh = 1
    · skip
      refine v_tableIn (tgt := 65) (off := 41) g dX5_row_24 (by rw [h24_1]; decide) (by rw [h24_1]; rfl) (by decide) ?_
      refine v_aload_n g dX5_row_65 0 rfl ?_
      refine v_get g dX5_row_66 fl_RX5_135 (rd_R B _ _ (by decide) hr0) rfl ?_
      exact v_iret g E dX5_row_69 rfl ⟨by first | (simp only [rowR, rC, rowX, *, nI_clamp (show r0 < 2 ^ 31 by omega), ↓reduceIte, Bool.true_eq_false, Bool.false_eq_true]; done) | (simp [rowR, rC, rowX, *, nI_clamp (show r0 < 2 ^ 31 by omega)]; done) | (simp [rowR, rC, rowX, *]; done), rfl, rfl⟩
    by_cases h24_2 : wh = 2
    · skip
      refine v_tableIn (tgt := 70) (off := 46) g dX5_row_24 (by rw [h24_2]; decide) (by rw [h24_2]; rfl) (by decide) ?_
      refine v_aload_n g dX5_row_70 0 rfl ?_
      refine v_get g dX5_row_71 fl_RX5_138 (rd_R B _ _ (by decide) hr0) rfl ?_
      exact v_iret g E dX5_row_74 rfl ⟨by first | (simp only [rowR, rC, rowX, *, nI_clamp (show r0 < 2 ^ 31 by omega), ↓reduceIte, Bool.true_eq_false, Bool.false_eq_true]; done) | (simp [rowR, rC, rowX, *, nI_clamp (show r0 < 2 ^ 31 by omega)]; done) | (simp [rowR, rC, rowX, *]; done), rfl, rfl⟩
    by_cases h24_3 : wh = 3
    · skip
      refine v_tableIn (tgt := 75) (off := 51) g dX5_row_24 (by rw [h24_3]; decide) (by rw [h24_3]; rfl) (by decide) ?_
      refine v_aload_n g dX5_row_75 0 rfl ?_
      refine v_get g dX5_row_76 fl_RX5_141 (rd_R B _ _ (by decide) hr0) rfl ?_
      exact v_iret g E dX5_row_79 rfl ⟨by first | (simp only [rowR, rC, rowX, *, nI_clamp (show r0 < 2 ^ 31 by omega), ↓reduceIte, Bool.true_eq_false, Bool.false_eq_true]; done) | (simp [rowR, rC, rowX, *, nI_clamp (show r0 < 2 ^ 31 by omega)]; done) | (simp [rowR, rC, rowX, *]; done), rfl, rfl⟩
    by_cases h24_4 : wh = 4
    · skip
      refine v_tableIn (tgt := 80) (off := 56) g dX5_row_24 (by rw [h24_4]; decide) (by rw [h24_4]; rfl) (by decide) ?_
      refine v_aload_n g dX5_row_80 1 rfl ?_
      refine v_get g dX5_row_81 fl_RX5_16 (rd_W B _ _) rfl ?_
      refine v_aload_n g dX5_row_84 0 rfl ?_
      refine v_callV (As := []) (r := some (.int (((cO C 0).2.2.2.2.2.2.2 r0).2.2.2.2 0))) g dX5_row_85 (k_X4_first (rd_R B _ _ (by decide) hr0) (rd_T B _ _ (by decide) hr0)) cl_X4_first ml_RX5_144 im_X4_first (rd_R B _ _ (by decide) hr0) rfl rfl ⟨rfl, rfl, rfl⟩ ?_
      refine v_aload_n g dX5_row_88 1 rfl ?_
      refine v_get g dX5_row_89 fl_RX5_25 (rd_W B _ _) rfl ?_
      refine v_aload_n g dX5_row_92 0 rfl ?_
      refine v_callV (As := [.ref (adR B 0 r0)]) (r := some (.int (wayC (cL C 0).1 (cL C 0).2.1 (cL C 0).2.2.1 (cL C 0).2.2.2.1 (cL C 0).2.2.2.2.1 (cO C 0).2.2.1 (cO C 0).2.2.2.2.1 (cO C 0).2.1 ((cO C 0).2.2.2.2.2.2.2 r0).2.1 ((cO C 0).2.2.2.2.2.2.2 r0).2.2.1 (((cO C 0).2.2.2.2.2.2.2 r0).2.2.2.2 0)))) g dX5_row_93 (k_wayOfC (i := 0) (by decide) hr0) cl_X1_wayOf ml_RX5_148 im_X1_wayOf (rd_O B _ _ (by decide)) rfl rfl ⟨rfl, rfl, rfl⟩ ?_
      refine v_callV (As := [.int (((cO C 0).2.2.2.2.2.2.2 r0).2.2.2.2 0), .int (wayC (cL C 0).1 (cL C 0).2.1 (cL C 0).2.2.1 (cL C 0).2.2.2.1 (cL C 0).2.2.2.2.1 (cO C 0).2.2.1 (cO C 0).2.2.2.2.1 (cO C 0).2.1 ((cO C 0).2.2.2.2.2.2.2 r0).2.1 ((cO C 0).2.2.2.2.2.2.2 r0).2.2.1 (((cO C 0).2.2.2.2.2.2.2 r0).2.2.2.2 0))]) (r := some (.int (nextC (cL C 0).2.2.2.1 (cL C 0).2.2.2.2.1 (((cO C 0).2.2.2.2.2.2.2 r0).2.2.2.2 0) (wayC (cL C 0).1 (cL C 0).2.1 (cL C 0).2.2.1 (cL C 0).2.2.2.1 (cL C 0).2.2.2.2.1 (cO C 0).2.2.1 (cO C 0).2.2.2.2.1 (cO C 0).2.1 ((cO C 0).2.2.2.2.2.2.2 r0).2.1 ((cO C 0).2.2.2.2.2.2.2 r0).2.2.1 (((cO C 0).2.2.2.2.2.2.2 r0).2.2.2.2 0))))) g dX5_row_96 (k_X0_nextBy (rd_L B _ _ (by decide)) (((cO C 0).2.2.2.2.2.2.2 r0).2.2.2.2 0) (wayC (cL C 0).1 (cL C 0).2.1 (cL C 0).2.2.1 (cL C 0).2.2.2.1 (cL C 0).2.2.2.2.1 (cO C 0).2.2.1 (cO C 0).2.2.2.2.1 (cO C 0).2.1 ((cO C 0).2.2.2.2.2.2.2 r0).2.1 ((cO C 0).2.2.2.2.2.2.2 r0).2.2.1 (((cO C 0).2.2.2.2.2.2.2 r0).2.2.2.2 0))) cl_X0_nextBy ml_RX5_152 im_X0_nextBy (rd_L B _ _ (by decide)) rfl rfl ⟨rfl, rfl, rfl⟩ ?_
      exact v_iret g E dX5_row_99 rfl ⟨by first | (simp only [rowR, rC, rowX, *, nI_clamp (show r0 < 2 ^ 31 by omega), ↓reduceIte, Bool.true_eq_false, Bool.false_eq_true]; done) | (simp [rowR, rC, rowX, *, nI_clamp (show r0 < 2 ^ 31 by omega)]; done) | (simp [rowR, rC, rowX, *]; done), rfl, rfl⟩
    refine v_tableOut (tgt := 100) g dX5_row_24 (by have q0 := lv_neT (a := 0) h24_0 rfl; have q1 := lv_neT (a := 1) h24_1 rfl; have q2 := lv_neT (a := 2) h24_2 rfl; have q3 := lv_neT (a := 3) h24_3 rfl; have q4 := lv_neT (a := 4) h24_4 rfl; omega) (by decide) ?_
    refine v_iconst (v := (-1)) g dX5_row_100 (by decide) ?_
    exact v_iret g E dX5_row_101 rfl ⟨by first | (simp only [rowR, rC, rowX, *, nI_clamp (show r0 < 2 ^ 31 by omega), ↓reduceIte, Bool.true_eq_false, Bool.false_eq_true]; done) | (simp [rowR, rC, rowX, *, nI_clamp (show r0 < 2 ^ 31 by omega)]; done) | (simp [rowR, rC, rowX, *]; done), rfl, rfl⟩
  · skip
    have h8 := zB_f0 h8
    refine v_iconst (v := (-1)) g dX5_row_11 (by decide) ?_
    exact v_iret g E dX5_row_12 rfl ⟨by first | (simp only [rowR, rC, rowX, *, nI_clamp (show r0 < 2 ^ 31 by omega), ↓reduceIte, Bool.true_eq_false, Bool.false_eq_true]; done) | (simp [rowR, rC, rowX, *, nI_clamp (show r0 < 2 ^ 31 by omega)]; done) | (simp [rowR, rC, rowX, *]; done), rfl, rfl⟩
theorem k_X5_tree (r k : Int32) : Ctr l G 1 21 0 0 mX5_tree [.ref B, .int r, .int k] n (ren B C ρ) (some (.int (treeR C r k))) n (ren B (C) ρ) := by
  refine Ctr.of (by decide +kernel) rfl (fun X g E => ?_)
  refine v_sub (ls' := [(0, .ref B), (1, .int r), (2, .int k)]) [0, 1, 2] rfl ?_
  refine v_aload_n g dX5_tree_0 0 rfl ?_
  refine v_get g dX5_tree_1 fl_RX5_25 (rd_W B _ _) rfl ?_
  refine v_iload_n g dX5_tree_4 1 rfl ?_
  refine v_callV (As := [.int r]) (r := some (.int (zB (orHoldsC (cO C 0).1 r)))) g dX5_tree_5 (k_X1_holds (rd_O B _ _ (by decide)) r) cl_X1_holds ml_RX5_125 im_X1_holds (rd_O B _ _ (by decide)) rfl rfl ⟨rfl, rfl, rfl⟩ ?_
  refine v_if_eq (tgt := 20) g dX5_tree_8 (by decide) (fun h8 => ?_) (fun h8 => ?_)
  · skip
    have h8 := zB_f0 h8
    refine v_iconst (v := (-1)) g dX5_tree_20 (by decide) ?_
    exact v_iret g E dX5_tree_21 rfl ⟨by first | (simp only [treeR, rC, nI_clamp (show r0 < 2 ^ 31 by omega), if_neg, *, ↓reduceIte, Bool.true_eq_false]; done) | (simp only [treeR, rC, h8, if_neg h12, if_neg (Int32.not_le.mpr h17), nI_clamp (show r0 < 2 ^ 31 by omega), ↓reduceIte, Bool.true_eq_false]; done) | (simp [treeR, rC, *]; done) | (simp [treeR, rC, *, Int32.not_le.mp]; done), rfl, rfl⟩
  · skip
    have h8 := zB_t0 h8
    refine v_iload_n g dX5_tree_11 2 rfl ?_
    refine v_if_lt (tgt := 20) g dX5_tree_12 (by decide) (fun h12 => ?_) (fun h12 => ?_)
    · skip
      refine v_iconst (v := (-1)) g dX5_tree_20 (by decide) ?_
      exact v_iret g E dX5_tree_21 rfl ⟨by first | (simp only [treeR, rC, nI_clamp (show r0 < 2 ^ 31 by omega), if_neg, *, ↓reduceIte, Bool.true_eq_false]; done) | (simp only [treeR, rC, h8, if_neg h12, if_neg (Int32.not_le.mpr h17), nI_clamp (show r0 < 2 ^ 31 by omega), ↓reduceIte, Bool.true_eq_false]; done) | (simp [treeR, rC, *]; done) | (simp [treeR, rC, *, Int32.not_le.mp]; done), rfl, rfl⟩
    · skip
      refine v_iload_n g dX5_tree_15 2 rfl ?_
      refine v_iconst (v := 4) g dX5_tree_16 (by decide) ?_
      refine v_icmp_lt (tgt := 22) g dX5_tree_17 (by decide) (fun h17 => ?_) (fun h17 => ?_)
      · skip
        obtain ⟨r0, hr0, er⟩ := orHolds_nI h8
        subst er
        refine v_aload_n g dX5_tree_22 0 rfl ?_
        refine v_get g dX5_tree_23 fl_RX5_25 (rd_W B _ _) rfl ?_
        refine v_get g dX5_tree_26 fl_RX5_126 (rd_O B _ _ (by decide)) rfl ?_
        refine v_iload_n g dX5_tree_29 1 rfl ?_
        refine v_aaldR (v := .ref (adR B 0 r0)) g dX5_tree_30 (rd_Rs B _ _ (by decide)) (vp_in_nI (by omega) (by decide)) (by rw [nI_clamp (by omega)]; rfl) ?_
        refine v_iload_n g dX5_tree_31 2 rfl ?_
        refine v_callV (As := [.int k]) (r := some (.int (treeAtC (((cO C 0).2.2.2.2.2.2.2 r0).1) (((cO C 0).2.2.2.2.2.2.2 r0).2.2.2.2) k))) g dX5_tree_32 (k_X4_treeAt (rd_R B _ _ (by decide) hr0) (rd_T B _ _ (by decide) hr0) k) cl_X4_treeAt ml_RX5_156 im_X4_treeAt (rd_R B _ _ (by decide) hr0) rfl rfl ⟨rfl, rfl, rfl⟩ ?_
        exact v_iret g E dX5_tree_35 rfl ⟨by first | (simp only [treeR, rC, nI_clamp (show r0 < 2 ^ 31 by omega), if_neg, *, ↓reduceIte, Bool.true_eq_false]; done) | (simp only [treeR, rC, h8, if_neg h12, if_neg (Int32.not_le.mpr h17), nI_clamp (show r0 < 2 ^ 31 by omega), ↓reduceIte, Bool.true_eq_false]; done) | (simp [treeR, rC, *]; done) | (simp [treeR, rC, *, Int32.not_le.mp]; done), rfl, rfl⟩
      · skip
        refine v_iconst (v := (-1)) g dX5_tree_20 (by decide) ?_
        exact v_iret g E dX5_tree_21 rfl ⟨by first | (simp only [treeR, rC, nI_clamp (show r0 < 2 ^ 31 by omega), if_neg, *, ↓reduceIte, Bool.true_eq_false]; done) | (simp only [treeR, rC, h8, if_neg h12, if_neg (Int32.not_le.mpr h17), nI_clamp (show r0 < 2 ^ 31 by omega), ↓reduceIte, Bool.true_eq_false]; done) | (simp [treeR, rC, *]; done) | (simp [treeR, rC, *, Int32.not_le.mp]; done), rfl, rfl⟩
theorem own_in {p : Int32} (h : isOwnC p = true) : vp_in p 4 := by obtain ⟨j, hj, rfl⟩ := own_nI h; exact vp_in_nI hj (by decide)
theorem k_X5_has (p : Int32) : Ctr l G 1 20 0 0 mX5_has [.ref B, .int p] n (ren B C ρ) (some (.int (hasR C p))) n (ren B (C) ρ) := by
  refine Ctr.of (by decide +kernel) rfl (fun X g E => ?_)
  refine v_sub (ls' := [(0, .ref B), (1, .int p)]) [0, 1] rfl ?_
  refine v_iload_n g dX5_has_0 1 rfl ?_
  refine v_callS (As := [.int p]) (r := some (.int (zB (isOwnC p)))) g dX5_has_1 (k_X5_isOwner p) cl_X5_isOwner ml_RX5_159 sm_X5_isOwner rfl ⟨rfl, rfl, rfl⟩ ?_
  refine v_if_ne (tgt := 9) g dX5_has_4 (by decide) (fun h4 => ?_) (fun h4 => ?_)
  · skip
    have h4 := zB_t0 h4
    refine v_aload_n g dX5_has_9 0 rfl ?_
    refine v_get g dX5_has_10 fl_RX5_25 (rd_W B _ _) rfl ?_
    refine v_get g dX5_has_13 fl_RX5_162 (rd_O B _ _ (by decide)) rfl ?_
    refine v_iload_n g dX5_has_16 1 rfl ?_
    refine v_iald g dX5_has_17 (rd_Ow B _ _ (by decide)) (own_in h4) ?_
    exact v_iret g E dX5_has_18 rfl ⟨by first | (simp only [hasR, *, ↓reduceIte, Bool.true_eq_false, Bool.false_eq_true, if_true, if_false]; done) | (simp [hasR, *]; done) | (simp only [hasR, *, ↓reduceIte, Bool.true_eq_false, Bool.false_eq_true, if_true, if_false]; rfl), rfl, rfl⟩
  · skip
    have h4 := zB_f0 h4
    refine v_iconst (v := (-1)) g dX5_has_7 (by decide) ?_
    exact v_iret g E dX5_has_8 rfl ⟨by first | (simp only [hasR, *, ↓reduceIte, Bool.true_eq_false, Bool.false_eq_true, if_true, if_false]; done) | (simp [hasR, *]; done) | (simp only [hasR, *, ↓reduceIte, Bool.true_eq_false, Bool.false_eq_true, if_true, if_false]; rfl), rfl, rfl⟩
theorem k_X5_pass {c : Nat} {pm : Nat → Nat} (hP : okP C 0 8 c pm) (x : Int32) : Ctr l G 5 121 0 0 mX5_pass [.ref B, .int x] n (ren B C ρ) (some (.int ((passC C c pm x).1))) n (ren B ((passC C c pm x).2) ρ) := by
  refine Ctr.of (by decide +kernel) rfl (fun X g E => ?_)
  refine v_sub (ls' := [(0, .ref B), (1, .int x)]) [0, 1] rfl ?_
  refine v_iload_n g dX5_pass_0 1 rfl ?_
  refine v_iconst (v := 1) g dX5_pass_1 (by decide) ?_
  refine v_bipush (v := 20) g dX5_pass_2 (by decide) ?_
  refine v_callS (As := [.int x, .int 1, .int 20]) (r := some (.int (zB (withinC x 1 20)))) g dX5_pass_4 (k_X5_isWithin x 1 20) cl_X5_isWithin ml_RX5_165 sm_X5_isWithin rfl ⟨rfl, rfl, rfl⟩ ?_
  refine v_if_ne (tgt := 12) g dX5_pass_7 (by decide) (fun h7 => ?_) (fun h7 => ?_)
  · skip
    have h7 := zB_t0 h7
    obtain ⟨m, hm1_m, hm2_m, em_m⟩ := within_nI (a := 1) (b := 20) rfl rfl h7
    subst em_m
    refine v_aload_n g dX5_pass_12 0 rfl ?_
    refine v_get g dX5_pass_13 fl_RX5_44 (rd_W B _ _) rfl ?_
    refine v_aload_n g dX5_pass_16 0 rfl ?_
    refine v_get g dX5_pass_17 fl_RX5_25 (rd_W B _ _) rfl ?_
    refine v_callV (As := [.ref (adO B 0)]) (r := none) g dX5_pass_20 (k_pushU hP) cl_X2_push ml_RX5_169 im_X2_push (rd_P B _ _ (by decide)) rfl rfl ⟨rfl, rfl, rfl⟩ ?_
    refine v_aload_n g dX5_pass_23 0 rfl ?_
    refine v_get g dX5_pass_24 fl_RX5_25 (rd_W B _ _) rfl ?_
    refine v_iload_n g dX5_pass_27 1 rfl ?_
    refine v_callV (As := [.int (nI m)]) (r := none) g dX5_pass_28 (k_yearsC (i := 0) (m := m) (by decide) (by omega)) cl_X1_passYears ml_RX5_172 im_X1_passYears (rd_O B _ _ (by decide)) rfl rfl ⟨rfl, rfl, rfl⟩ ?_
    refine v_meq (μ' := ren B (passS C c pm m) ρ) rfl ?_
    refine v_aload_n g dX5_pass_31 0 rfl ?_
    refine v_get g dX5_pass_32 fl_RX5_25 (rd_W B _ _) rfl ?_
    refine v_get g dX5_pass_35 fl_RX5_176 (rd_O B _ _ (by decide)) rfl ?_
    exact v_iret g E dX5_pass_38 rfl ⟨by first | (simp only [passC, *, nI_clamp (show m < 2 ^ 31 by omega), ↓reduceIte, Bool.true_eq_false, Bool.false_eq_true]; done) | (simp [passC, *]; done), rfl, by first | (simp only [passC, *, nI_clamp (show m < 2 ^ 31 by omega), ↓reduceIte, Bool.true_eq_false, Bool.false_eq_true]; done) | (simp [passC, *]; done)⟩
  · skip
    have h7 := zB_f0 h7
    refine v_iconst (v := (-1)) g dX5_pass_10 (by decide) ?_
    exact v_iret g E dX5_pass_11 rfl ⟨by first | (simp only [passC, *, nI_clamp (show m < 2 ^ 31 by omega), ↓reduceIte, Bool.true_eq_false, Bool.false_eq_true]; done) | (simp [passC, *]; done), rfl, by first | (simp only [passC, *, nI_clamp (show m < 2 ^ 31 by omega), ↓reduceIte, Bool.true_eq_false, Bool.false_eq_true]; done) | (simp [passC, *]; done)⟩
theorem k_X5_dig {c : Nat} {pm : Nat → Nat} (hP : okP C 0 8 c pm) (x : Int32) : Ctr l G 3 65 0 0 mX5_dig [.ref B, .int x] n (ren B C ρ) (some (.int ((digW C c pm x).1))) n (ren B ((digW C c pm x).2) ρ) := by
  refine Ctr.of (by decide +kernel) rfl (fun X g E => ?_)
  refine v_sub (ls' := [(0, .ref B), (1, .int x)]) [0, 1] rfl ?_
  refine v_aload_n g dX5_dig_0 0 rfl ?_
  refine v_get g dX5_dig_1 fl_RX5_16 (rd_W B _ _) rfl ?_
  refine v_iload_n g dX5_dig_4 1 rfl ?_
  refine v_callV (As := [.int x]) (r := some (.int (zB (holdsC (cL C 0).2.2.2.1 (cL C 0).2.2.2.2.1 x)))) g dX5_dig_5 (k_X0_holds (rd_L B _ _ (by decide)) x) cl_X0_holds ml_RX5_103 im_X0_holds (rd_L B _ _ (by decide)) rfl rfl ⟨rfl, rfl, rfl⟩ ?_
  refine v_if_ne (tgt := 13) g dX5_dig_8 (by decide) (fun h8 => ?_) (fun h8 => ?_)
  · skip
    have h8 := zB_t0 h8
    refine v_aload_n g dX5_dig_13 0 rfl ?_
    refine v_get g dX5_dig_14 fl_RX5_25 (rd_W B _ _) rfl ?_
    refine v_iload_n g dX5_dig_17 1 rfl ?_
    refine v_callV (As := [.int x]) (r := some (.int (zB (digC (cL C 0).1 (cO C 0).2.2.1 (cO C 0).2.2.2.2.1 x)))) g dX5_dig_18 (k_canDigC (i := 0) (by decide) x) cl_X1_canDig ml_RX5_179 im_X1_canDig (rd_O B _ _ (by decide)) rfl rfl ⟨rfl, rfl, rfl⟩ ?_
    refine v_if_ne (tgt := 27) g dX5_dig_21 (by decide) (fun h21 => ?_) (fun h21 => ?_)
    · skip
      have h21 := zB_t0 h21
      refine v_aload_n g dX5_dig_27 0 rfl ?_
      refine v_get g dX5_dig_28 fl_RX5_44 (rd_W B _ _) rfl ?_
      refine v_aload_n g dX5_dig_31 0 rfl ?_
      refine v_get g dX5_dig_32 fl_RX5_25 (rd_W B _ _) rfl ?_
      refine v_callV (As := [.ref (adO B 0)]) (r := none) g dX5_dig_35 (k_pushU hP) cl_X2_push ml_RX5_169 im_X2_push (rd_P B _ _ (by decide)) rfl rfl ⟨rfl, rfl, rfl⟩ ?_
      refine v_aload_n g dX5_dig_38 0 rfl ?_
      refine v_get g dX5_dig_39 fl_RX5_25 (rd_W B _ _) rfl ?_
      refine v_iload_n g dX5_dig_42 1 rfl ?_
      refine v_callV (As := [.int x]) (r := none) g dX5_dig_43 (k_digInC (i := 0) (by decide) x) cl_X1_digIn ml_RX5_182 im_X1_digIn (rd_O B _ _ (by decide)) rfl rfl ⟨rfl, rfl, rfl⟩ ?_
      refine v_meq (μ' := ren B (digS C c pm x) ρ) rfl ?_
      refine v_aload_n g dX5_dig_46 0 rfl ?_
      refine v_get g dX5_dig_47 fl_RX5_25 (rd_W B _ _) rfl ?_
      refine v_get g dX5_dig_50 fl_RX5_114 (rd_O B _ _ (by decide)) rfl ?_
      refine v_callS (As := [.long ((cO (digS C c pm x) 0).2.2.1)]) (r := some (.int (bcC ((cO (digS C c pm x) 0).2.2.1)))) g dX5_dig_53 (k_J13_bitCount ((cO (digS C c pm x) 0).2.2.1)) cl_J13_bitCount_95d88 ml_RX5_185 sm_J13_bitCount_95d88 rfl ⟨rfl, rfl, rfl⟩ ?_
      exact v_iret g E dX5_dig_56 rfl ⟨by first | (simp only [digW, hC, dC0, *, ↓reduceIte, Bool.true_eq_false, Bool.false_eq_true, if_true, if_false]; done) | (simp [digW, hC, dC0, *]; done) | (simp only [digW, hC, dC0, *, ↓reduceIte, Bool.true_eq_false, Bool.false_eq_true, if_true, if_false]; rfl), rfl, by first | (simp only [digW, hC, dC0, *, ↓reduceIte, Bool.true_eq_false, Bool.false_eq_true, if_true, if_false]; done) | (simp [digW, hC, dC0, *]; done) | (simp only [digW, hC, dC0, *, ↓reduceIte, Bool.true_eq_false, Bool.false_eq_true, if_true, if_false]; rfl)⟩
    · skip
      have h21 := zB_f0 h21
      refine v_bipush (v := (-2)) g dX5_dig_24 (by decide) ?_
      exact v_iret g E dX5_dig_26 rfl ⟨by first | (simp only [digW, hC, dC0, *, ↓reduceIte, Bool.true_eq_false, Bool.false_eq_true, if_true, if_false]; done) | (simp [digW, hC, dC0, *]; done) | (simp only [digW, hC, dC0, *, ↓reduceIte, Bool.true_eq_false, Bool.false_eq_true, if_true, if_false]; rfl), rfl, by first | (simp only [digW, hC, dC0, *, ↓reduceIte, Bool.true_eq_false, Bool.false_eq_true, if_true, if_false]; done) | (simp [digW, hC, dC0, *]; done) | (simp only [digW, hC, dC0, *, ↓reduceIte, Bool.true_eq_false, Bool.false_eq_true, if_true, if_false]; rfl)⟩
  · skip
    have h8 := zB_f0 h8
    refine v_iconst (v := (-1)) g dX5_dig_11 (by decide) ?_
    exact v_iret g E dX5_dig_12 rfl ⟨by first | (simp only [digW, hC, dC0, *, ↓reduceIte, Bool.true_eq_false, Bool.false_eq_true, if_true, if_false]; done) | (simp [digW, hC, dC0, *]; done) | (simp only [digW, hC, dC0, *, ↓reduceIte, Bool.true_eq_false, Bool.false_eq_true, if_true, if_false]; rfl), rfl, by first | (simp only [digW, hC, dC0, *, ↓reduceIte, Bool.true_eq_false, Bool.false_eq_true, if_true, if_false]; done) | (simp [digW, hC, dC0, *]; done) | (simp only [digW, hC, dC0, *, ↓reduceIte, Bool.true_eq_false, Bool.false_eq_true, if_true, if_false]; rfl)⟩
theorem k_X5_fill {c : Nat} {pm : Nat → Nat} (hP : okP C 0 8 c pm) (x : Int32) : Ctr l G 3 65 0 0 mX5_fill [.ref B, .int x] n (ren B C ρ) (some (.int ((fillW C c pm x).1))) n (ren B ((fillW C c pm x).2) ρ) := by
  refine Ctr.of (by decide +kernel) rfl (fun X g E => ?_)
  refine v_sub (ls' := [(0, .ref B), (1, .int x)]) [0, 1] rfl ?_
  refine v_aload_n g dX5_fill_0 0 rfl ?_
  refine v_get g dX5_fill_1 fl_RX5_16 (rd_W B _ _) rfl ?_
  refine v_iload_n g dX5_fill_4 1 rfl ?_
  refine v_callV (As := [.int x]) (r := some (.int (zB (holdsC (cL C 0).2.2.2.1 (cL C 0).2.2.2.2.1 x)))) g dX5_fill_5 (k_X0_holds (rd_L B _ _ (by decide)) x) cl_X0_holds ml_RX5_103 im_X0_holds (rd_L B _ _ (by decide)) rfl rfl ⟨rfl, rfl, rfl⟩ ?_
  refine v_if_ne (tgt := 13) g dX5_fill_8 (by decide) (fun h8 => ?_) (fun h8 => ?_)
  · skip
    have h8 := zB_t0 h8
    refine v_aload_n g dX5_fill_13 0 rfl ?_
    refine v_get g dX5_fill_14 fl_RX5_25 (rd_W B _ _) rfl ?_
    refine v_get g dX5_fill_17 fl_RX5_114 (rd_O B _ _ (by decide)) rfl ?_
    refine v_iload_n g dX5_fill_20 1 rfl ?_
    refine v_callS (As := [.long ((cO C 0).2.2.1), .int x]) (r := some (.int (zB (ctn ((cO C 0).2.2.1) x)))) g dX5_fill_21 (k_X5_contains ((cO C 0).2.2.1) x) cl_X5_contains ml_RX5_118 sm_X5_contains rfl ⟨rfl, rfl, rfl⟩ ?_
    refine v_if_ne (tgt := 30) g dX5_fill_24 (by decide) (fun h24 => ?_) (fun h24 => ?_)
    · skip
      have h24 := zB_t0 h24
      refine v_aload_n g dX5_fill_30 0 rfl ?_
      refine v_get g dX5_fill_31 fl_RX5_44 (rd_W B _ _) rfl ?_
      refine v_aload_n g dX5_fill_34 0 rfl ?_
      refine v_get g dX5_fill_35 fl_RX5_25 (rd_W B _ _) rfl ?_
      refine v_callV (As := [.ref (adO B 0)]) (r := none) g dX5_fill_38 (k_pushU hP) cl_X2_push ml_RX5_169 im_X2_push (rd_P B _ _ (by decide)) rfl rfl ⟨rfl, rfl, rfl⟩ ?_
      refine v_aload_n g dX5_fill_41 0 rfl ?_
      refine v_get g dX5_fill_42 fl_RX5_25 (rd_W B _ _) rfl ?_
      refine v_iload_n g dX5_fill_45 1 rfl ?_
      refine v_callV (As := [.int x]) (r := none) g dX5_fill_46 (k_fillInC (i := 0) (by decide) x) cl_X1_fillIn ml_RX5_191 im_X1_fillIn (rd_O B _ _ (by decide)) rfl rfl ⟨rfl, rfl, rfl⟩ ?_
      refine v_meq (μ' := ren B (fillS C c pm x) ρ) rfl ?_
      refine v_aload_n g dX5_fill_49 0 rfl ?_
      refine v_get g dX5_fill_50 fl_RX5_25 (rd_W B _ _) rfl ?_
      refine v_get g dX5_fill_53 fl_RX5_114 (rd_O B _ _ (by decide)) rfl ?_
      refine v_callS (As := [.long ((cO (fillS C c pm x) 0).2.2.1)]) (r := some (.int (bcC ((cO (fillS C c pm x) 0).2.2.1)))) g dX5_fill_56 (k_J13_bitCount ((cO (fillS C c pm x) 0).2.2.1)) cl_J13_bitCount_95d88 ml_RX5_185 sm_J13_bitCount_95d88 rfl ⟨rfl, rfl, rfl⟩ ?_
      exact v_iret g E dX5_fill_59 rfl ⟨by first | (simp only [fillW, hC, *, ↓reduceIte, Bool.true_eq_false, Bool.false_eq_true, if_true, if_false]; done) | (simp [fillW, hC, *]; done) | (simp only [fillW, hC, *, ↓reduceIte, Bool.true_eq_false, Bool.false_eq_true, if_true, if_false]; rfl), rfl, by first | (simp only [fillW, hC, *, ↓reduceIte, Bool.true_eq_false, Bool.false_eq_true, if_true, if_false]; done) | (simp [fillW, hC, *]; done) | (simp only [fillW, hC, *, ↓reduceIte, Bool.true_eq_false, Bool.false_eq_true, if_true, if_false]; rfl)⟩
    · skip
      have h24 := zB_f0 h24
      refine v_bipush (v := (-2)) g dX5_fill_27 (by decide) ?_
      exact v_iret g E dX5_fill_29 rfl ⟨by first | (simp only [fillW, hC, *, ↓reduceIte, Bool.true_eq_false, Bool.false_eq_true, if_true, if_false]; done) | (simp [fillW, hC, *]; done) | (simp only [fillW, hC, *, ↓reduceIte, Bool.true_eq_false, Bool.false_eq_true, if_true, if_false]; rfl), rfl, by first | (simp only [fillW, hC, *, ↓reduceIte, Bool.true_eq_false, Bool.false_eq_true, if_true, if_false]; done) | (simp [fillW, hC, *]; done) | (simp only [fillW, hC, *, ↓reduceIte, Bool.true_eq_false, Bool.false_eq_true, if_true, if_false]; rfl)⟩
  · skip
    have h8 := zB_f0 h8
    refine v_iconst (v := (-1)) g dX5_fill_11 (by decide) ?_
    exact v_iret g E dX5_fill_12 rfl ⟨by first | (simp only [fillW, hC, *, ↓reduceIte, Bool.true_eq_false, Bool.false_eq_true, if_true, if_false]; done) | (simp [fillW, hC, *]; done) | (simp only [fillW, hC, *, ↓reduceIte, Bool.true_eq_false, Bool.false_eq_true, if_true, if_false]; rfl), rfl, by first | (simp only [fillW, hC, *, ↓reduceIte, Bool.true_eq_false, Bool.false_eq_true, if_true, if_false]; done) | (simp [fillW, hC, *]; done) | (simp only [fillW, hC, *, ↓reduceIte, Bool.true_eq_false, Bool.false_eq_true, if_true, if_false]; rfl)⟩
theorem k_X5_leave {c : Nat} {pm : Nat → Nat} (hP : okP C 0 8 c pm) (r : Int32) : Ctr l G 3 65 0 0 mX5_leave [.ref B, .int r] n (ren B C ρ) (some (.int ((leaveW C c pm r).1))) n (ren B ((leaveW C c pm r).2) ρ) := by
  refine Ctr.of (by decide +kernel) rfl (fun X g E => ?_)
  refine v_sub (ls' := [(0, .ref B), (1, .int r)]) [0, 1] rfl ?_
  refine v_aload_n g dX5_leave_0 0 rfl ?_
  refine v_get g dX5_leave_1 fl_RX5_25 (rd_W B _ _) rfl ?_
  refine v_iload_n g dX5_leave_4 1 rfl ?_
  refine v_callV (As := [.int r]) (r := some (.int (zB (orHoldsC (cO C 0).1 r)))) g dX5_leave_5 (k_X1_holds (rd_O B _ _ (by decide)) r) cl_X1_holds ml_RX5_125 im_X1_holds (rd_O B _ _ (by decide)) rfl rfl ⟨rfl, rfl, rfl⟩ ?_
  refine v_if_ne (tgt := 13) g dX5_leave_8 (by decide) (fun h8 => ?_) (fun h8 => ?_)
  · skip
    have h8 := zB_t0 h8
    obtain ⟨r0, hr0, er⟩ := orHolds_nI h8
    subst er
    refine v_aload_n g dX5_leave_13 0 rfl ?_
    refine v_get g dX5_leave_14 fl_RX5_25 (rd_W B _ _) rfl ?_
    refine v_get g dX5_leave_17 fl_RX5_126 (rd_O B _ _ (by decide)) rfl ?_
    refine v_iload_n g dX5_leave_20 1 rfl ?_
    refine v_aaldR (v := .ref (adR B 0 r0)) g dX5_leave_21 (rd_Rs B _ _ (by decide)) (vp_in_nI (by omega) (by decide)) (by rw [nI_clamp (by omega)]; rfl) ?_
    refine v_get g dX5_leave_22 fl_RX5_141 (rd_R B _ _ (by decide) hr0) rfl ?_
    refine v_iconst (v := 2) g dX5_leave_25 (by decide) ?_
    refine v_icmp_ge (tgt := 32) g dX5_leave_26 (by decide) (fun h26 => ?_) (fun h26 => ?_)
    · skip
      refine v_aload_n g dX5_leave_32 0 rfl ?_
      refine v_get g dX5_leave_33 fl_RX5_44 (rd_W B _ _) rfl ?_
      refine v_aload_n g dX5_leave_36 0 rfl ?_
      refine v_get g dX5_leave_37 fl_RX5_25 (rd_W B _ _) rfl ?_
      refine v_callV (As := [.ref (adO B 0)]) (r := none) g dX5_leave_40 (k_pushU hP) cl_X2_push ml_RX5_169 im_X2_push (rd_P B _ _ (by decide)) rfl rfl ⟨rfl, rfl, rfl⟩ ?_
      refine v_aload_n g dX5_leave_43 0 rfl ?_
      refine v_get g dX5_leave_44 fl_RX5_25 (rd_W B _ _) rfl ?_
      refine v_aload_n g dX5_leave_47 0 rfl ?_
      refine v_get g dX5_leave_48 fl_RX5_25 (rd_W B _ _) rfl ?_
      refine v_get g dX5_leave_51 fl_RX5_126 (rd_O B _ _ (by decide)) rfl ?_
      refine v_iload_n g dX5_leave_54 1 rfl ?_
      refine v_aaldR (v := .ref (adR B 0 r0)) g dX5_leave_55 (rd_Rs B _ _ (by decide)) (vp_in_nI (by omega) (by decide)) (by rw [nI_clamp (by omega)]; rfl) ?_
      refine v_callV (As := [.ref (adR B 0 r0)]) (r := some (.int (leaveR ((cO (pushU C c pm) 0).2.2.2.2.2.2.2 r0).1 ((cO (pushU C c pm) 0).2.2.2.2.2.2.2 r0).2.2.2.2))) g dX5_leave_56 (k_leaveC (i := 0) (by decide) hr0) cl_X1_leaveLast ml_RX5_194 im_X1_leaveLast (rd_O B _ _ (by decide)) rfl rfl ⟨rfl, rfl, rfl⟩ ?_
      refine v_meq (μ' := ren B (leaveS C c pm r0) ρ) rfl ?_
      exact v_iret g E dX5_leave_59 rfl ⟨by first | (simp only [leaveW, rC, *, nI_clamp (show r0 < 2 ^ 31 by omega), ↓reduceIte, Bool.true_eq_false, Bool.false_eq_true]; done) | (simp [leaveW, rC, *, nI_clamp (show r0 < 2 ^ 31 by omega)]; done) | (simp [leaveW, rC, *]; done), rfl, by first | (simp only [leaveW, rC, *, nI_clamp (show r0 < 2 ^ 31 by omega), ↓reduceIte, Bool.true_eq_false, Bool.false_eq_true]; done) | (simp [leaveW, rC, *, nI_clamp (show r0 < 2 ^ 31 by omega)]; done) | (simp [leaveW, rC, *]; done)⟩
    · skip
      refine v_bipush (v := (-2)) g dX5_leave_29 (by decide) ?_
      exact v_iret g E dX5_leave_31 rfl ⟨by first | (simp only [leaveW, rC, *, nI_clamp (show r0 < 2 ^ 31 by omega), ↓reduceIte, Bool.true_eq_false, Bool.false_eq_true]; done) | (simp [leaveW, rC, *, nI_clamp (show r0 < 2 ^ 31 by omega)]; done) | (simp [leaveW, rC, *]; done), rfl, by first | (simp only [leaveW, rC, *, nI_clamp (show r0 < 2 ^ 31 by omega), ↓reduceIte, Bool.true_eq_false, Bool.false_eq_true]; done) | (simp [leaveW, rC, *, nI_clamp (show r0 < 2 ^ 31 by omega)]; done) | (simp [leaveW, rC, *]; done)⟩
  · skip
    have h8 := zB_f0 h8
    refine v_iconst (v := (-1)) g dX5_leave_11 (by decide) ?_
    exact v_iret g E dX5_leave_12 rfl ⟨by first | (simp only [leaveW, rC, *, nI_clamp (show r0 < 2 ^ 31 by omega), ↓reduceIte, Bool.true_eq_false, Bool.false_eq_true]; done) | (simp [leaveW, rC, *, nI_clamp (show r0 < 2 ^ 31 by omega)]; done) | (simp [leaveW, rC, *]; done), rfl, by first | (simp only [leaveW, rC, *, nI_clamp (show r0 < 2 ^ 31 by omega), ↓reduceIte, Bool.true_eq_false, Bool.false_eq_true]; done) | (simp [leaveW, rC, *, nI_clamp (show r0 < 2 ^ 31 by omega)]; done) | (simp [leaveW, rC, *]; done)⟩
theorem k_X5_see (r x t : Int32) : Ctr l G 1 22 0 0 mX5_see [.ref B, .int r, .int x, .int t] n (ren B C ρ) (some (.int ((seeC C r x t).1))) n (ren B ((seeC C r x t).2) ρ) := by
  refine Ctr.of (by decide +kernel) rfl (fun X g E => ?_)
  refine v_sub (ls' := [(0, .ref B), (1, .int r), (2, .int x), (3, .int t)]) [0, 1, 2, 3] rfl ?_
  refine v_aload_n g dX5_see_0 0 rfl ?_
  refine v_get g dX5_see_1 fl_RX5_25 (rd_W B _ _) rfl ?_
  refine v_iload_n g dX5_see_4 1 rfl ?_
  refine v_callV (As := [.int r]) (r := some (.int (zB (orHoldsC (cO C 0).1 r)))) g dX5_see_5 (k_X1_holds (rd_O B _ _ (by decide)) r) cl_X1_holds ml_RX5_125 im_X1_holds (rd_O B _ _ (by decide)) rfl rfl ⟨rfl, rfl, rfl⟩ ?_
  refine v_if_eq (tgt := 32) g dX5_see_8 (by decide) (fun h8 => ?_) (fun h8 => ?_)
  · skip
    have h8 := zB_f0 h8
    refine v_iconst (v := (-1)) g dX5_see_32 (by decide) ?_
    exact v_iret g E dX5_see_33 rfl ⟨by first | (simp only [seeC, rC, hC, *, ↓reduceIte, Bool.true_eq_false, Bool.false_eq_true, if_true, if_false]; done) | (simp [seeC, rC, hC, *]; done) | (simp only [seeC, rC, hC, *, ↓reduceIte, Bool.true_eq_false, Bool.false_eq_true, if_true, if_false]; rfl), rfl, by first | (simp only [seeC, rC, hC, *, ↓reduceIte, Bool.true_eq_false, Bool.false_eq_true, if_true, if_false]; done) | (simp [seeC, rC, hC, *]; done) | (simp only [seeC, rC, hC, *, ↓reduceIte, Bool.true_eq_false, Bool.false_eq_true, if_true, if_false]; rfl)⟩
  · skip
    have h8 := zB_t0 h8
    refine v_aload_n g dX5_see_11 0 rfl ?_
    refine v_get g dX5_see_12 fl_RX5_16 (rd_W B _ _) rfl ?_
    refine v_iload_n g dX5_see_15 2 rfl ?_
    refine v_callV (As := [.int x]) (r := some (.int (zB (holdsC (cL C 0).2.2.2.1 (cL C 0).2.2.2.2.1 x)))) g dX5_see_16 (k_X0_holds (rd_L B _ _ (by decide)) x) cl_X0_holds ml_RX5_103 im_X0_holds (rd_L B _ _ (by decide)) rfl rfl ⟨rfl, rfl, rfl⟩ ?_
    refine v_if_eq (tgt := 32) g dX5_see_19 (by decide) (fun h19 => ?_) (fun h19 => ?_)
    · skip
      have h19 := zB_f0 h19
      refine v_iconst (v := (-1)) g dX5_see_32 (by decide) ?_
      exact v_iret g E dX5_see_33 rfl ⟨by first | (simp only [seeC, rC, hC, *, ↓reduceIte, Bool.true_eq_false, Bool.false_eq_true, if_true, if_false]; done) | (simp [seeC, rC, hC, *]; done) | (simp only [seeC, rC, hC, *, ↓reduceIte, Bool.true_eq_false, Bool.false_eq_true, if_true, if_false]; rfl), rfl, by first | (simp only [seeC, rC, hC, *, ↓reduceIte, Bool.true_eq_false, Bool.false_eq_true, if_true, if_false]; done) | (simp [seeC, rC, hC, *]; done) | (simp only [seeC, rC, hC, *, ↓reduceIte, Bool.true_eq_false, Bool.false_eq_true, if_true, if_false]; rfl)⟩
    · skip
      have h19 := zB_t0 h19
      refine v_iload_n g dX5_see_22 3 rfl ?_
      refine v_iconst (v := 0) g dX5_see_23 (by decide) ?_
      refine v_bipush (v := 20) g dX5_see_24 (by decide) ?_
      refine v_callS (As := [.int t, .int 0, .int 20]) (r := some (.int (zB (withinC t 0 20)))) g dX5_see_26 (k_X5_isWithin t 0 20) cl_X5_isWithin ml_RX5_165 sm_X5_isWithin rfl ⟨rfl, rfl, rfl⟩ ?_
      refine v_if_ne (tgt := 34) g dX5_see_29 (by decide) (fun h29 => ?_) (fun h29 => ?_)
      · skip
        have h29 := zB_t0 h29
        refine v_aload_n g dX5_see_34 0 rfl ?_
        refine v_get g dX5_see_35 fl_RX5_97 (rd_W B _ _) rfl ?_
        refine v_if_lt (tgt := 50) g dX5_see_38 (by decide) (fun h38 => ?_) (fun h38 => ?_)
        · skip
          refine v_bipush (v := (-3)) g dX5_see_50 (by decide) ?_
          exact v_iret g E dX5_see_52 rfl ⟨by first | (simp only [seeC, rC, hC, *, ↓reduceIte, Bool.true_eq_false, Bool.false_eq_true, if_true, if_false]; done) | (simp [seeC, rC, hC, *]; done) | (simp only [seeC, rC, hC, *, ↓reduceIte, Bool.true_eq_false, Bool.false_eq_true, if_true, if_false]; rfl), rfl, by first | (simp only [seeC, rC, hC, *, ↓reduceIte, Bool.true_eq_false, Bool.false_eq_true, if_true, if_false]; done) | (simp [seeC, rC, hC, *]; done) | (simp only [seeC, rC, hC, *, ↓reduceIte, Bool.true_eq_false, Bool.false_eq_true, if_true, if_false]; rfl)⟩
        · skip
          refine v_aload_n g dX5_see_41 0 rfl ?_
          refine v_get g dX5_see_42 fl_RX5_97 (rd_W B _ _) rfl ?_
          refine v_bipush (v := 6) g dX5_see_45 (by decide) ?_
          refine v_icmp_lt (tgt := 53) g dX5_see_47 (by decide) (fun h47 => ?_) (fun h47 => ?_)
          · skip
            refine v_aload_n g dX5_see_53 0 rfl ?_
            refine v_get g dX5_see_54 fl_RX5_51 (rd_W B _ _) rfl ?_
            refine v_aload_n g dX5_see_57 0 rfl ?_
            refine v_get g dX5_see_58 fl_RX5_97 (rd_W B _ _) rfl ?_
            refine v_iload_n g dX5_see_61 1 rfl ?_
            refine v_iast g dX5_see_62 (rd_A B _ _ (by decide)) (vin_o (o := 0) (m := 6) rfl (Int32.not_lt.mp h38) h47) ?_
            refine v_meq (st_A B _ _ (k := 1) (by decide) (upd (cA C 1) ((cW C).2).toNatClampNeg r)) ?_
            refine v_aload_n g dX5_see_63 0 rfl ?_
            refine v_get g dX5_see_64 fl_RX5_55 (rd_W B _ _) rfl ?_
            refine v_aload_n g dX5_see_67 0 rfl ?_
            refine v_get g dX5_see_68 fl_RX5_97 (rd_W B _ _) rfl ?_
            refine v_iload_n g dX5_see_71 2 rfl ?_
            refine v_iast g dX5_see_72 (rd_A B _ _ (by decide)) (vin_o (o := 0) (m := 6) rfl (Int32.not_lt.mp h38) h47) ?_
            refine v_meq (st_A B _ _ (k := 2) (by decide) (upd (cA C 2) ((cW C).2).toNatClampNeg x)) ?_
            refine v_aload_n g dX5_see_73 0 rfl ?_
            refine v_get g dX5_see_74 fl_RX5_58 (rd_W B _ _) rfl ?_
            refine v_aload_n g dX5_see_77 0 rfl ?_
            refine v_get g dX5_see_78 fl_RX5_97 (rd_W B _ _) rfl ?_
            refine v_iload_n g dX5_see_81 3 rfl ?_
            refine v_iast g dX5_see_82 (rd_A B _ _ (by decide)) (vin_o (o := 0) (m := 6) rfl (Int32.not_lt.mp h38) h47) ?_
            refine v_meq (st_A B _ _ (k := 3) (by decide) (upd (cA C 3) ((cW C).2).toNatClampNeg t)) ?_
            refine v_aload_n g dX5_see_83 0 rfl ?_
            refine v_dup g dX5_see_84 rfl ?_
            refine v_get g dX5_see_85 fl_RX5_97 (rd_W B _ _) rfl ?_
            refine v_iconst (v := 1) g dX5_see_88 (by decide) ?_
            refine v_iadd g dX5_see_89 ?_
            refine v_put g dX5_see_90 fl_RX5_97 (rd_W B _ _) ⟨rfl, rfl⟩ rfl ?_
            refine v_meq (st_W B _ _ ((cW C).1) ((cW C).2 + 1)) ?_
            refine v_aload_n g dX5_see_93 0 rfl ?_
            refine v_get g dX5_see_94 fl_RX5_97 (rd_W B _ _) rfl ?_
            exact v_iret g E dX5_see_97 rfl ⟨by first | (simp only [seeC, rC, hC, *, ↓reduceIte, Bool.true_eq_false, Bool.false_eq_true, if_true, if_false]; done) | (simp [seeC, rC, hC, *]; done) | (simp only [seeC, rC, hC, *, ↓reduceIte, Bool.true_eq_false, Bool.false_eq_true, if_true, if_false]; rfl), rfl, by first | (simp only [seeC, rC, hC, *, ↓reduceIte, Bool.true_eq_false, Bool.false_eq_true, if_true, if_false]; done) | (simp [seeC, rC, hC, *]; done) | (simp only [seeC, rC, hC, *, ↓reduceIte, Bool.true_eq_false, Bool.false_eq_true, if_true, if_false]; rfl)⟩
          · skip
            refine v_bipush (v := (-3)) g dX5_see_50 (by decide) ?_
            exact v_iret g E dX5_see_52 rfl ⟨by first | (simp only [seeC, rC, hC, *, ↓reduceIte, Bool.true_eq_false, Bool.false_eq_true, if_true, if_false]; done) | (simp [seeC, rC, hC, *]; done) | (simp only [seeC, rC, hC, *, ↓reduceIte, Bool.true_eq_false, Bool.false_eq_true, if_true, if_false]; rfl), rfl, by first | (simp only [seeC, rC, hC, *, ↓reduceIte, Bool.true_eq_false, Bool.false_eq_true, if_true, if_false]; done) | (simp [seeC, rC, hC, *]; done) | (simp only [seeC, rC, hC, *, ↓reduceIte, Bool.true_eq_false, Bool.false_eq_true, if_true, if_false]; rfl)⟩
      · skip
        have h29 := zB_f0 h29
        refine v_iconst (v := (-1)) g dX5_see_32 (by decide) ?_
        exact v_iret g E dX5_see_33 rfl ⟨by first | (simp only [seeC, rC, hC, *, ↓reduceIte, Bool.true_eq_false, Bool.false_eq_true, if_true, if_false]; done) | (simp [seeC, rC, hC, *]; done) | (simp only [seeC, rC, hC, *, ↓reduceIte, Bool.true_eq_false, Bool.false_eq_true, if_true, if_false]; rfl), rfl, by first | (simp only [seeC, rC, hC, *, ↓reduceIte, Bool.true_eq_false, Bool.false_eq_true, if_true, if_false]; done) | (simp [seeC, rC, hC, *]; done) | (simp only [seeC, rC, hC, *, ↓reduceIte, Bool.true_eq_false, Bool.false_eq_true, if_true, if_false]; rfl)⟩
theorem k_X5_count (wh : Int32) : Ctr l G 1 22 0 0 mX5_count [.ref B, .int wh] n (ren B C ρ) (some (.int (countR C wh))) n (ren B (C) ρ) := by
  refine Ctr.of (by decide +kernel) rfl (fun X g E => ?_)
  refine v_sub (ls' := [(0, .ref B), (1, .int wh)]) [0, 1] rfl ?_
  refine v_iload_n g dX5_count_0 1 rfl ?_
  by_cases h1_0 : wh = 0
  · skip
    refine v_tableIn (tgt := 64) (off := 63) g dX5_count_1 (by rw [h1_0]; decide) (by rw [h1_0]; rfl) (by decide) ?_
    refine v_aload_n g dX5_count_64 0 rfl ?_
    refine v_get g dX5_count_65 fl_RX5_16 (rd_W B _ _) rfl ?_
    refine v_callV (As := []) (r := some (.int ((cL C 0).2.2.2.1 * (cL C 0).2.2.2.2.1))) g dX5_count_68 (k_X0_cells (rd_L B _ _ (by decide))) cl_X0_cells ml_RX5_228 im_X0_cells (rd_L B _ _ (by decide)) rfl rfl ⟨rfl, rfl, rfl⟩ ?_
    exact v_iret g E dX5_count_71 rfl ⟨by first | (simp only [countR, *, ↓reduceIte, Bool.true_eq_false, Bool.false_eq_true, if_true, if_false]; done) | (simp [countR, *]; done) | (simp only [countR, *, ↓reduceIte, Bool.true_eq_false, Bool.false_eq_true, if_true, if_false]; rfl), rfl, rfl⟩
  by_cases h1_1 : wh = 1
  · skip
    refine v_tableIn (tgt := 72) (off := 71) g dX5_count_1 (by rw [h1_1]; decide) (by rw [h1_1]; rfl) (by decide) ?_
    refine v_aload_n g dX5_count_72 0 rfl ?_
    refine v_get g dX5_count_73 fl_RX5_16 (rd_W B _ _) rfl ?_
    refine v_get g dX5_count_76 fl_RX5_257 (rd_L B _ _ (by decide)) rfl ?_
    exact v_iret g E dX5_count_79 rfl ⟨by first | (simp only [countR, *, ↓reduceIte, Bool.true_eq_false, Bool.false_eq_true, if_true, if_false]; done) | (simp [countR, *]; done) | (simp only [countR, *, ↓reduceIte, Bool.true_eq_false, Bool.false_eq_true, if_true, if_false]; rfl), rfl, rfl⟩
  by_cases h1_2 : wh = 2
  · skip
    refine v_tableIn (tgt := 80) (off := 79) g dX5_count_1 (by rw [h1_2]; decide) (by rw [h1_2]; rfl) (by decide) ?_
    refine v_aload_n g dX5_count_80 0 rfl ?_
    refine v_get g dX5_count_81 fl_RX5_25 (rd_W B _ _) rfl ?_
    refine v_get g dX5_count_84 fl_RX5_94 (rd_O B _ _ (by decide)) rfl ?_
    exact v_iret g E dX5_count_87 rfl ⟨by first | (simp only [countR, *, ↓reduceIte, Bool.true_eq_false, Bool.false_eq_true, if_true, if_false]; done) | (simp [countR, *]; done) | (simp only [countR, *, ↓reduceIte, Bool.true_eq_false, Bool.false_eq_true, if_true, if_false]; rfl), rfl, rfl⟩
  by_cases h1_3 : wh = 3
  · skip
    refine v_tableIn (tgt := 88) (off := 87) g dX5_count_1 (by rw [h1_3]; decide) (by rw [h1_3]; rfl) (by decide) ?_
    refine v_aload_n g dX5_count_88 0 rfl ?_
    refine v_get g dX5_count_89 fl_RX5_25 (rd_W B _ _) rfl ?_
    refine v_get g dX5_count_92 fl_RX5_176 (rd_O B _ _ (by decide)) rfl ?_
    exact v_iret g E dX5_count_95 rfl ⟨by first | (simp only [countR, *, ↓reduceIte, Bool.true_eq_false, Bool.false_eq_true, if_true, if_false]; done) | (simp [countR, *]; done) | (simp only [countR, *, ↓reduceIte, Bool.true_eq_false, Bool.false_eq_true, if_true, if_false]; rfl), rfl, rfl⟩
  by_cases h1_4 : wh = 4
  · skip
    refine v_tableIn (tgt := 96) (off := 95) g dX5_count_1 (by rw [h1_4]; decide) (by rw [h1_4]; rfl) (by decide) ?_
    refine v_aload_n g dX5_count_96 0 rfl ?_
    refine v_get g dX5_count_97 fl_RX5_25 (rd_W B _ _) rfl ?_
    refine v_get g dX5_count_100 fl_RX5_260 (rd_O B _ _ (by decide)) rfl ?_
    refine v_aload_n g dX5_count_103 0 rfl ?_
    refine v_get g dX5_count_104 fl_RX5_25 (rd_W B _ _) rfl ?_
    refine v_get g dX5_count_107 fl_RX5_263 (rd_O B _ _ (by decide)) rfl ?_
    refine v_ldc2 (v := (-1)) g dX5_count_110 kl_RX5_266 ?_
    refine v_lxor g dX5_count_113 ?_
    refine v_land g dX5_count_114 ?_
    refine v_callS (As := [.long ((cO C 0).2.2.2.2.1 &&& ((cO C 0).2.2.2.1 ^^^ (-1)))]) (r := some (.int (bcC ((cO C 0).2.2.2.2.1 &&& ((cO C 0).2.2.2.1 ^^^ (-1)))))) g dX5_count_115 (k_J13_bitCount ((cO C 0).2.2.2.2.1 &&& ((cO C 0).2.2.2.1 ^^^ (-1)))) cl_J13_bitCount_95d88 ml_RX5_185 sm_J13_bitCount_95d88 rfl ⟨rfl, rfl, rfl⟩ ?_
    exact v_iret g E dX5_count_118 rfl ⟨by first | (simp only [countR, *, ↓reduceIte, Bool.true_eq_false, Bool.false_eq_true, if_true, if_false]; done) | (simp [countR, *]; done) | (simp only [countR, *, ↓reduceIte, Bool.true_eq_false, Bool.false_eq_true, if_true, if_false]; rfl), rfl, rfl⟩
  by_cases h1_5 : wh = 5
  · skip
    refine v_tableIn (tgt := 119) (off := 118) g dX5_count_1 (by rw [h1_5]; decide) (by rw [h1_5]; rfl) (by decide) ?_
    refine v_aload_n g dX5_count_119 0 rfl ?_
    refine v_get g dX5_count_120 fl_RX5_25 (rd_W B _ _) rfl ?_
    refine v_get g dX5_count_123 fl_RX5_263 (rd_O B _ _ (by decide)) rfl ?_
    refine v_callS (As := [.long ((cO C 0).2.2.2.1)]) (r := some (.int (bcC ((cO C 0).2.2.2.1)))) g dX5_count_126 (k_J13_bitCount ((cO C 0).2.2.2.1)) cl_J13_bitCount_95d88 ml_RX5_185 sm_J13_bitCount_95d88 rfl ⟨rfl, rfl, rfl⟩ ?_
    exact v_iret g E dX5_count_129 rfl ⟨by first | (simp only [countR, *, ↓reduceIte, Bool.true_eq_false, Bool.false_eq_true, if_true, if_false]; done) | (simp [countR, *]; done) | (simp only [countR, *, ↓reduceIte, Bool.true_eq_false, Bool.false_eq_true, if_true, if_false]; rfl), rfl, rfl⟩
  by_cases h1_6 : wh = 6
  · skip
    refine v_tableIn (tgt := 130) (off := 129) g dX5_count_1 (by rw [h1_6]; decide) (by rw [h1_6]; rfl) (by decide) ?_
    refine v_aload_n g dX5_count_130 0 rfl ?_
    refine v_get g dX5_count_131 fl_RX5_25 (rd_W B _ _) rfl ?_
    refine v_get g dX5_count_134 fl_RX5_114 (rd_O B _ _ (by decide)) rfl ?_
    refine v_callS (As := [.long ((cO C 0).2.2.1)]) (r := some (.int (bcC ((cO C 0).2.2.1)))) g dX5_count_137 (k_J13_bitCount ((cO C 0).2.2.1)) cl_J13_bitCount_95d88 ml_RX5_185 sm_J13_bitCount_95d88 rfl ⟨rfl, rfl, rfl⟩ ?_
    exact v_iret g E dX5_count_140 rfl ⟨by first | (simp only [countR, *, ↓reduceIte, Bool.true_eq_false, Bool.false_eq_true, if_true, if_false]; done) | (simp [countR, *]; done) | (simp only [countR, *, ↓reduceIte, Bool.true_eq_false, Bool.false_eq_true, if_true, if_false]; rfl), rfl, rfl⟩
  by_cases h1_7 : wh = 7
  · skip
    refine v_tableIn (tgt := 141) (off := 140) g dX5_count_1 (by rw [h1_7]; decide) (by rw [h1_7]; rfl) (by decide) ?_
    refine v_aload_n g dX5_count_141 0 rfl ?_
    refine v_get g dX5_count_142 fl_RX5_25 (rd_W B _ _) rfl ?_
    refine v_callV (As := []) (r := some (.int (allHaveC (cO C 0).2.2.2.2.2.2.1))) g dX5_count_145 (k_X1_ownedByAll (rd_O B _ _ (by decide)) (rd_Ow B _ _ (by decide))) cl_X1_ownedByAll ml_RX5_254 im_X1_ownedByAll (rd_O B _ _ (by decide)) rfl rfl ⟨rfl, rfl, rfl⟩ ?_
    exact v_iret g E dX5_count_148 rfl ⟨by first | (simp only [countR, *, ↓reduceIte, Bool.true_eq_false, Bool.false_eq_true, if_true, if_false]; done) | (simp [countR, *]; done) | (simp only [countR, *, ↓reduceIte, Bool.true_eq_false, Bool.false_eq_true, if_true, if_false]; rfl), rfl, rfl⟩
  by_cases h1_8 : wh = 8
  · skip
    refine v_tableIn (tgt := 149) (off := 148) g dX5_count_1 (by rw [h1_8]; decide) (by rw [h1_8]; rfl) (by decide) ?_
    refine v_aload_n g dX5_count_149 0 rfl ?_
    refine v_get g dX5_count_150 fl_RX5_97 (rd_W B _ _) rfl ?_
    exact v_iret g E dX5_count_153 rfl ⟨by first | (simp only [countR, *, ↓reduceIte, Bool.true_eq_false, Bool.false_eq_true, if_true, if_false]; done) | (simp [countR, *]; done) | (simp only [countR, *, ↓reduceIte, Bool.true_eq_false, Bool.false_eq_true, if_true, if_false]; rfl), rfl, rfl⟩
  by_cases h1_9 : wh = 9
  · skip
    refine v_tableIn (tgt := 154) (off := 153) g dX5_count_1 (by rw [h1_9]; decide) (by rw [h1_9]; rfl) (by decide) ?_
    refine v_aload_n g dX5_count_154 0 rfl ?_
    refine v_get g dX5_count_155 fl_RX5_44 (rd_W B _ _) rfl ?_
    refine v_get g dX5_count_158 fl_RX5_197 (rd_P B _ _ (by decide)) rfl ?_
    exact v_iret g E dX5_count_161 rfl ⟨by first | (simp only [countR, *, ↓reduceIte, Bool.true_eq_false, Bool.false_eq_true, if_true, if_false]; done) | (simp [countR, *]; done) | (simp only [countR, *, ↓reduceIte, Bool.true_eq_false, Bool.false_eq_true, if_true, if_false]; rfl), rfl, rfl⟩
  by_cases h1_10 : wh = 10
  · skip
    refine v_tableIn (tgt := 162) (off := 161) g dX5_count_1 (by rw [h1_10]; decide) (by rw [h1_10]; rfl) (by decide) ?_
    refine v_aload_n g dX5_count_162 0 rfl ?_
    refine v_get g dX5_count_163 fl_RX5_48 (rd_W B _ _) rfl ?_
    refine v_get g dX5_count_166 fl_RX5_197 (rd_P B _ _ (by decide)) rfl ?_
    exact v_iret g E dX5_count_169 rfl ⟨by first | (simp only [countR, *, ↓reduceIte, Bool.true_eq_false, Bool.false_eq_true, if_true, if_false]; done) | (simp [countR, *]; done) | (simp only [countR, *, ↓reduceIte, Bool.true_eq_false, Bool.false_eq_true, if_true, if_false]; rfl), rfl, rfl⟩
  by_cases h1_11 : wh = 11
  · skip
    refine v_tableIn (tgt := 170) (off := 169) g dX5_count_1 (by rw [h1_11]; decide) (by rw [h1_11]; rfl) (by decide) ?_
    refine v_aload_n g dX5_count_170 0 rfl ?_
    refine v_get g dX5_count_171 fl_RX5_90 (rd_W B _ _) rfl ?_
    exact v_iret g E dX5_count_174 rfl ⟨by first | (simp only [countR, *, ↓reduceIte, Bool.true_eq_false, Bool.false_eq_true, if_true, if_false]; done) | (simp [countR, *]; done) | (simp only [countR, *, ↓reduceIte, Bool.true_eq_false, Bool.false_eq_true, if_true, if_false]; rfl), rfl, rfl⟩
  refine v_tableOut (tgt := 175) g dX5_count_1 (by have q0 := lv_neT (a := 0) h1_0 rfl; have q1 := lv_neT (a := 1) h1_1 rfl; have q2 := lv_neT (a := 2) h1_2 rfl; have q3 := lv_neT (a := 3) h1_3 rfl; have q4 := lv_neT (a := 4) h1_4 rfl; have q5 := lv_neT (a := 5) h1_5 rfl; have q6 := lv_neT (a := 6) h1_6 rfl; have q7 := lv_neT (a := 7) h1_7 rfl; have q8 := lv_neT (a := 8) h1_8 rfl; have q9 := lv_neT (a := 9) h1_9 rfl; have q10 := lv_neT (a := 10) h1_10 rfl; have q11 := lv_neT (a := 11) h1_11 rfl; omega) (by decide) ?_
  refine v_iconst (v := (-1)) g dX5_count_175 (by decide) ?_
  exact v_iret g E dX5_count_176 rfl ⟨by first | (simp only [countR, *, ↓reduceIte, Bool.true_eq_false, Bool.false_eq_true, if_true, if_false]; done) | (simp [countR, *]; done) | (simp only [countR, *, ↓reduceIte, Bool.true_eq_false, Bool.false_eq_true, if_true, if_false]; rfl), rfl, rfl⟩
theorem k_X5_lay (hch : ∀ q, narrow .char (.int (cA C 0 q)) = .int (cA C 0 q)) : Ctr l G 6 135 0 0 mX5_lay [.ref B] n (ren B C ρ) (some (.int ((layC C).1))) n (ren B ((layC C).2) ρ) := by
  refine Ctr.of (by decide +kernel) rfl (fun X g E => ?_)
  refine v_sub (ls' := [(0, .ref B)]) [0] rfl ?_
  refine v_aload_n g dX5_lay_0 0 rfl ?_
  refine v_get g dX5_lay_1 fl_RX5_35 (rd_W B _ _) rfl ?_
  refine v_aload_n g dX5_lay_4 0 rfl ?_
  refine v_get g dX5_lay_5 fl_RX5_9 (rd_W B _ _) rfl ?_
  refine v_aload_n g dX5_lay_8 0 rfl ?_
  refine v_get g dX5_lay_9 fl_RX5_90 (rd_W B _ _) rfl ?_
  refine v_callV (As := [.ref (adA B 0), .int ((cW C).1)]) (r := some (.int ((rtRun 200 (cA C 0) (cW C).1 C).1))) g dX5_lay_12 (k_readText (k := 0) (Or.inl rfl) hch (cW C).1) cl_X3_readText ml_RX5_76 im_X3_readText (rd_Re B _ _) rfl rfl ⟨rfl, rfl, rfl⟩ ?_
  refine v_meq (μ' := ren B (faultS C) ρ) rfl ?_
  refine v_bipush (v := (-4)) g dX5_lay_15 (by decide) ?_
  refine v_icmp_ne (tgt := 33) g dX5_lay_17 (by decide) (fun h17 => ?_) (fun h17 => ?_)
  · skip
    refine v_bipush (v := (-2)) g dX5_lay_33 (by decide) ?_
    exact v_iret g E dX5_lay_35 rfl ⟨by first | (simp only [layC, *, ↓reduceIte, Bool.true_eq_false, Bool.false_eq_true, if_true, if_false]; done) | (simp [layC, *]; done) | (simp only [layC, *, ↓reduceIte, Bool.true_eq_false, Bool.false_eq_true, if_true, if_false]; rfl), rfl, by first | (simp only [layC, *, ↓reduceIte, Bool.true_eq_false, Bool.false_eq_true, if_true, if_false]; done) | (simp [layC, *]; done) | (simp only [layC, *, ↓reduceIte, Bool.true_eq_false, Bool.false_eq_true, if_true, if_false]; rfl)⟩
  · skip
    refine v_aload_n g dX5_lay_20 0 rfl ?_
    refine v_get g dX5_lay_21 fl_RX5_35 (rd_W B _ _) rfl ?_
    refine v_get g dX5_lay_24 fl_RX5_84 (rd_Re B _ _) rfl ?_
    refine v_get g dX5_lay_27 fl_RX5_94 (rd_O B _ _ (by decide)) rfl ?_
    refine v_if_ne (tgt := 36) g dX5_lay_30 (by decide) (fun h30 => ?_) (fun h30 => ?_)
    · skip
      refine v_aload_n g dX5_lay_36 0 rfl ?_
      refine v_get g dX5_lay_37 fl_RX5_16 (rd_W B _ _) rfl ?_
      refine v_aload_n g dX5_lay_40 0 rfl ?_
      refine v_get g dX5_lay_41 fl_RX5_35 (rd_W B _ _) rfl ?_
      refine v_get g dX5_lay_44 fl_RX5_80 (rd_Re B _ _) rfl ?_
      refine v_callV (As := [.ref (adL B 1)]) (r := none) g dX5_lay_47 (k_landCopy (i := 0) (j := 1) (by decide) (by decide) (by decide)) cl_X0_copyFrom ml_RX5_81 im_X0_copyFrom (rd_L B _ _ (by decide)) rfl rfl ⟨rfl, rfl, rfl⟩ ?_
      refine v_meq (μ' := ren B (layS1 C) ρ) rfl ?_
      refine v_aload_n g dX5_lay_50 0 rfl ?_
      refine v_get g dX5_lay_51 fl_RX5_25 (rd_W B _ _) rfl ?_
      refine v_aload_n g dX5_lay_54 0 rfl ?_
      refine v_get g dX5_lay_55 fl_RX5_35 (rd_W B _ _) rfl ?_
      refine v_get g dX5_lay_58 fl_RX5_84 (rd_Re B _ _) rfl ?_
      refine v_callV (As := [.ref (adO B 2)]) (r := none) g dX5_lay_61 (k_orCopyC (i := 0) (j := 2) (by decide) (by decide) (by decide)) cl_X1_copyFrom ml_RX5_87 im_X1_copyFrom (rd_O B _ _ (by decide)) rfl rfl ⟨rfl, rfl, rfl⟩ ?_
      refine v_meq (μ' := ren B (layS2 C) ρ) rfl ?_
      refine v_aload_n g dX5_lay_64 0 rfl ?_
      refine v_iconst (v := 0) g dX5_lay_65 (by decide) ?_
      refine v_put g dX5_lay_66 fl_RX5_97 (rd_W B _ _) ⟨rfl, rfl⟩ rfl ?_
      refine v_meq (st_W B _ _ ((cW (layS2 C)).1) 0) ?_
      refine v_aload_n g dX5_lay_69 0 rfl ?_
      refine v_get g dX5_lay_70 fl_RX5_44 (rd_W B _ _) rfl ?_
      refine v_callV (As := []) (r := none) g dX5_lay_73 (k_X2_clear (j := 0) (by decide)) cl_X2_clear ml_RX5_100 im_X2_clear (rd_P B _ _ (by decide)) rfl rfl ⟨rfl, rfl, rfl⟩ ?_
      refine v_meq (μ' := ren B (layS3 C) ρ) rfl ?_
      refine v_aload_n g dX5_lay_76 0 rfl ?_
      refine v_get g dX5_lay_77 fl_RX5_48 (rd_W B _ _) rfl ?_
      refine v_callV (As := []) (r := none) g dX5_lay_80 (k_X2_clear (j := 1) (by decide)) cl_X2_clear ml_RX5_100 im_X2_clear (rd_P B _ _ (by decide)) rfl rfl ⟨rfl, rfl, rfl⟩ ?_
      refine v_meq (μ' := ren B (layS C) ρ) rfl ?_
      refine v_aload_n g dX5_lay_83 0 rfl ?_
      refine v_get g dX5_lay_84 fl_RX5_25 (rd_W B _ _) rfl ?_
      refine v_get g dX5_lay_87 fl_RX5_94 (rd_O B _ _ (by decide)) rfl ?_
      exact v_iret g E dX5_lay_90 rfl ⟨by first | (simp only [layC, *, ↓reduceIte, Bool.true_eq_false, Bool.false_eq_true, if_true, if_false]; done) | (simp [layC, *]; done) | (simp only [layC, *, ↓reduceIte, Bool.true_eq_false, Bool.false_eq_true, if_true, if_false]; rfl), rfl, by first | (simp only [layC, *, ↓reduceIte, Bool.true_eq_false, Bool.false_eq_true, if_true, if_false]; done) | (simp [layC, *]; done) | (simp only [layC, *, ↓reduceIte, Bool.true_eq_false, Bool.false_eq_true, if_true, if_false]; rfl)⟩
    · skip
      refine v_bipush (v := (-2)) g dX5_lay_33 (by decide) ?_
      exact v_iret g E dX5_lay_35 rfl ⟨by first | (simp only [layC, *, ↓reduceIte, Bool.true_eq_false, Bool.false_eq_true, if_true, if_false]; done) | (simp [layC, *]; done) | (simp only [layC, *, ↓reduceIte, Bool.true_eq_false, Bool.false_eq_true, if_true, if_false]; rfl), rfl, by first | (simp only [layC, *, ↓reduceIte, Bool.true_eq_false, Bool.false_eq_true, if_true, if_false]; done) | (simp [layC, *]; done) | (simp only [layC, *, ↓reduceIte, Bool.true_eq_false, Bool.false_eq_true, if_true, if_false]; rfl)⟩
def keepC (C : CS) (c : Nat) (pm : Nat → Nat) : Int32 × CS := if c < 2 then (nI (c + 1), pushK C c pm) else (-3, C)
def undoC (C : CS) (c : Nat) (pm : Nat → Nat) : Int32 × CS := match c with
  | 0 => (-2, C)
  | c + 1 => (nI c, popP C 0 c pm)
def backS (C : CS) (c : Nat) (pm : Nat → Nat) : CS := sP (popP C 1 c pm) 0 (0, (cP C 0).2)
def backC (C : CS) (c : Nat) (pm : Nat → Nat) : Int32 × CS := match c with
  | 0 => (-2, C)
  | c + 1 => (nI c, backS C c pm)
theorem rd_Pc {j len c : Nat} {pm : Nat → Nat} (hP : okP C j len c pm) (hj : j < 2 := by decide) : ren B C ρ (adP B j) = some (.inr (2, [.ref (adPa B j), .int (nI c)])) := by
  rw [rd_P B C ρ hj]; simp only [cellC, hP.1]
theorem k_X5_keep {c : Nat} {pm : Nat → Nat} (hP : okP C 1 2 c pm) : Ctr l G 3 65 0 0 mX5_keep [.ref B] n (ren B C ρ) (some (.int ((keepC C c pm).1))) n (ren B ((keepC C c pm).2) ρ) := by
  refine Ctr.of (by decide +kernel) rfl (fun X g E => ?_)
  refine v_sub (ls' := [(0, .ref B)]) [0] rfl ?_
  by_cases hc : c < 2
  · skip
    refine v_aload_n g dX5_keep_0 0 rfl ?_
    refine v_get g dX5_keep_1 fl_RX5_48 (rd_W B _ _) rfl ?_
    refine v_get g dX5_keep_4 fl_RX5_197 (rd_Pc hP) rfl ?_
    refine v_iconst (v := 2) g dX5_keep_7 (by decide) ?_
    refine v_icmp_lt (tgt := 14) g dX5_keep_8 (by decide) (fun h8 => ?_) (fun h8 => absurd (nI_lt (a := c) (b := 2) hc (by decide)) h8)
    refine v_aload_n g dX5_keep_14 0 rfl ?_
    refine v_get g dX5_keep_15 fl_RX5_48 (rd_W B _ _) rfl ?_
    refine v_aload_n g dX5_keep_18 0 rfl ?_
    refine v_get g dX5_keep_19 fl_RX5_25 (rd_W B _ _) rfl ?_
    refine v_callV (As := [.ref (adO B 0)]) (r := none) g dX5_keep_22 (k_pushK hP hc) cl_X2_push ml_RX5_169 im_X2_push (rd_Pc hP) rfl rfl ⟨rfl, rfl, rfl⟩ ?_
    refine v_aload_n g dX5_keep_25 0 rfl ?_
    refine v_get g dX5_keep_26 fl_RX5_48 (rd_W B _ _) rfl ?_
    refine v_get g dX5_keep_29 fl_RX5_197 (rd_P B _ _ (by decide)) rfl ?_
    exact v_iret g E dX5_keep_32 rfl ⟨by simp only [keepC, hc, ↓reduceIte]; rfl, rfl, by simp only [keepC, hc, ↓reduceIte]⟩
  · skip
    refine v_aload_n g dX5_keep_0 0 rfl ?_
    refine v_get g dX5_keep_1 fl_RX5_48 (rd_W B _ _) rfl ?_
    refine v_get g dX5_keep_4 fl_RX5_197 (rd_Pc hP) rfl ?_
    refine v_iconst (v := 2) g dX5_keep_7 (by decide) ?_
    refine v_icmp_lt (tgt := 14) g dX5_keep_8 (by decide) (fun h8 => absurd h8 (nI_nlt (a := c) (b := 2) (by omega) (by have := hP.2.1; omega))) (fun h8 => ?_)
    refine v_bipush (v := (-3)) g dX5_keep_11 (by decide) ?_
    exact v_iret g E dX5_keep_13 rfl ⟨by simp only [keepC, hc, ↓reduceIte], rfl, by simp only [keepC, hc, ↓reduceIte]⟩
theorem k_X5_undo {c : Nat} {pm : Nat → Nat} (hP : okP C 0 8 c pm) : Ctr l G 3 65 0 0 mX5_undo [.ref B] n (ren B C ρ) (some (.int ((undoC C c pm).1))) n (ren B ((undoC C c pm).2) ρ) := by
  refine Ctr.of (by decide +kernel) rfl (fun X g E => ?_)
  refine v_sub (ls' := [(0, .ref B)]) [0] rfl ?_
  cases c with
  | zero =>
    refine v_aload_n g dX5_undo_0 0 rfl ?_
    refine v_get g dX5_undo_1 fl_RX5_44 (rd_W B _ _) rfl ?_
    refine v_get g dX5_undo_4 fl_RX5_197 (rd_Pc hP) rfl ?_
    refine v_if_ne (tgt := 13) g dX5_undo_7 (by decide) (fun h7 => absurd h7 (by decide)) (fun h7 => ?_)
    refine v_bipush (v := (-2)) g dX5_undo_10 (by decide) ?_
    exact v_iret g E dX5_undo_12 rfl ⟨by rfl, rfl, rfl⟩
  | succ c =>
    refine v_aload_n g dX5_undo_0 0 rfl ?_
    refine v_get g dX5_undo_1 fl_RX5_44 (rd_W B _ _) rfl ?_
    refine v_get g dX5_undo_4 fl_RX5_197 (rd_Pc hP) rfl ?_
    refine v_if_ne (tgt := 13) g dX5_undo_7 (by decide) (fun h7 => ?_) (fun h7 => absurd h7 (nI_ne0 (n := c + 1) (by omega) (by have := hP.2.1; omega)))
    refine v_aload_n g dX5_undo_13 0 rfl ?_
    refine v_get g dX5_undo_14 fl_RX5_44 (rd_W B _ _) rfl ?_
    refine v_aload_n g dX5_undo_17 0 rfl ?_
    refine v_get g dX5_undo_18 fl_RX5_25 (rd_W B _ _) rfl ?_
    refine v_callV (As := [.ref (adO B 0)]) (r := none) g dX5_undo_21 (k_popU hP) cl_X2_pop ml_RX5_200 im_X2_pop (rd_Pc hP) rfl rfl ⟨rfl, rfl, rfl⟩ ?_
    refine v_aload_n g dX5_undo_24 0 rfl ?_
    refine v_get g dX5_undo_25 fl_RX5_44 (rd_W B _ _) rfl ?_
    refine v_get g dX5_undo_28 fl_RX5_197 (rd_P B _ _ (by decide)) rfl ?_
    exact v_iret g E dX5_undo_31 rfl ⟨by rfl, rfl, rfl⟩
theorem k_X5_back {c : Nat} {pm : Nat → Nat} (hP : okP C 1 2 c pm) : Ctr l G 3 65 0 0 mX5_back [.ref B] n (ren B C ρ) (some (.int ((backC C c pm).1))) n (ren B ((backC C c pm).2) ρ) := by
  refine Ctr.of (by decide +kernel) rfl (fun X g E => ?_)
  refine v_sub (ls' := [(0, .ref B)]) [0] rfl ?_
  cases c with
  | zero =>
    refine v_aload_n g dX5_back_0 0 rfl ?_
    refine v_get g dX5_back_1 fl_RX5_48 (rd_W B _ _) rfl ?_
    refine v_get g dX5_back_4 fl_RX5_197 (rd_Pc hP) rfl ?_
    refine v_if_ne (tgt := 13) g dX5_back_7 (by decide) (fun h7 => absurd h7 (by decide)) (fun h7 => ?_)
    refine v_bipush (v := (-2)) g dX5_back_10 (by decide) ?_
    exact v_iret g E dX5_back_12 rfl ⟨by rfl, rfl, rfl⟩
  | succ c =>
    refine v_aload_n g dX5_back_0 0 rfl ?_
    refine v_get g dX5_back_1 fl_RX5_48 (rd_W B _ _) rfl ?_
    refine v_get g dX5_back_4 fl_RX5_197 (rd_Pc hP) rfl ?_
    refine v_if_ne (tgt := 13) g dX5_back_7 (by decide) (fun h7 => ?_) (fun h7 => absurd h7 (nI_ne0 (n := c + 1) (by omega) (by have := hP.2.1; omega)))
    refine v_aload_n g dX5_back_13 0 rfl ?_
    refine v_get g dX5_back_14 fl_RX5_48 (rd_W B _ _) rfl ?_
    refine v_aload_n g dX5_back_17 0 rfl ?_
    refine v_get g dX5_back_18 fl_RX5_25 (rd_W B _ _) rfl ?_
    refine v_callV (As := [.ref (adO B 0)]) (r := none) g dX5_back_21 (k_popK hP) cl_X2_pop ml_RX5_200 im_X2_pop (rd_Pc hP) rfl rfl ⟨rfl, rfl, rfl⟩ ?_
    refine v_aload_n g dX5_back_24 0 rfl ?_
    refine v_get g dX5_back_25 fl_RX5_44 (rd_W B _ _) rfl ?_
    refine v_callV (As := []) (r := none) g dX5_back_28 (k_X2_clear (j := 0) (by decide)) cl_X2_clear ml_RX5_100 im_X2_clear (rd_P B _ _ (by decide)) rfl rfl ⟨rfl, rfl, rfl⟩ ?_
    refine v_meq (μ' := ren B (backS C c pm) ρ) rfl ?_
    refine v_aload_n g dX5_back_31 0 rfl ?_
    refine v_get g dX5_back_32 fl_RX5_48 (rd_W B _ _) rfl ?_
    refine v_get g dX5_back_35 fl_RX5_197 (rd_P B _ _ (by decide)) rfl ?_
    exact v_iret g E dX5_back_38 rfl ⟨by rfl, rfl, rfl⟩
end C7b
section C7c
variable {l : Launch} {G : GG} {n : Nat} {μ : Mu}
def drawC (z k : Int32) : Int32 := ((((7919 * z.toInt64) + (6151 * k.toInt64)) + 1) * (((7919 * z.toInt64) + (6151 * k.toInt64)) + 1) % 65521).toInt32
theorem k_X5_drawOf (z k : Int32) : Ctr l G 0 0 0 0 mX5_drawOf [.int z, .int k] n μ (some (.int (drawC z k))) n μ := by
  refine Ctr.of (by decide +kernel) rfl (fun X g E => ?_)
  refine v_sub (ls' := [(0, .int z), (1, .int k)]) [0, 1] rfl ?_
  refine v_ldc2 (v := 7919) g dX5_drawOf_0 kl_RX5_274 ?_
  refine v_iload_n g dX5_drawOf_3 0 rfl ?_
  refine v_i2l g dX5_drawOf_4 ?_
  refine v_lmul g dX5_drawOf_5 ?_
  refine v_ldc2 (v := 6151) g dX5_drawOf_6 kl_RX5_276 ?_
  refine v_iload_n g dX5_drawOf_9 1 rfl ?_
  refine v_i2l g dX5_drawOf_10 ?_
  refine v_lmul g dX5_drawOf_11 ?_
  refine v_ladd g dX5_drawOf_12 ?_
  refine v_lconst (v := 1) g dX5_drawOf_13 (by decide) ?_
  refine v_ladd g dX5_drawOf_14 ?_
  refine v_lstore_n (ls' := [(2, .long (((7919 * z.toInt64) + (6151 * k.toInt64)) + 1)), (0, .int z), (1, .int k)]) g dX5_drawOf_15 rfl rfl ?_
  refine v_lload_n g dX5_drawOf_16 0 rfl ?_
  refine v_lload_n g dX5_drawOf_17 0 rfl ?_
  refine v_lmul g dX5_drawOf_18 ?_
  refine v_ldc2 (v := 65521) g dX5_drawOf_19 kl_RX5_278 ?_
  refine v_lrem g dX5_drawOf_22 (by decide) ?_
  refine v_l2i g dX5_drawOf_23 ?_
  exact v_iret g E dX5_drawOf_24 rfl ⟨by rfl, rfl, rfl⟩
end C7c
