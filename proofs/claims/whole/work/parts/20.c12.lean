/-! CLASS: its constructor -/
def ttx (j : Nat) : Int32 := if j < 101 then stx j else 0
def ccA (f : Nat → Int32) : Ce := .inl (2, 101, .inl f)
theorem mset_mset (μ : Mu) (a : Nat) (e e' : Ce) : mset (mset μ a e) a e' = mset μ a e' := by
  funext j; unfold mset; split <;> rfl
theorem ifl_0 {μ : Mu} {q : Nat} (h : μ q = some (ccA (fun _ => 0))) : μ = mset μ q (ccA (fun i => if i < 0 then stx i else 0)) := by
  funext a
  by_cases ha : a = q
  · subst ha; rw [mset_self, h]; rfl
  · rw [mset_ne _ _ ha]
theorem ifl_up (μ : Mu) (q j : Nat) : mset (mset μ q (ccA (fun i => if i < j then stx i else 0))) q (.inl (2, 101, .inl (upd (fun i => if i < j then stx i else 0) j (stx j)))) = mset μ q (ccA (fun i => if i < j + 1 then stx i else 0)) := by
  rw [mset_mset]
  unfold ccA
  congr 5
  funext i
  show (if i = j then stx j else (if i < j then stx i else 0)) = _
  by_cases h1 : i = j
  · subst h1; simp
  · by_cases h2 : i < j
    · rw [if_neg h1, if_pos h2, if_pos (by omega)]
    · rw [if_neg h1, if_neg h2, if_neg (by omega)]
section STR
variable {l : Launch} {G : GG} {z : SG} {n : Nat} {μ : Mu}
theorem k_J0_isLatin1_aae02  : CtrS l G z 0 0 0 0 mJ0_isLatin1_aae02 [.ref z.1] n μ (some (.int 1)) (n) (μ) := by
  refine CtrS.of (by decide +kernel) rfl (fun X g S E => ?_)
  refine v_sub (ls' := [(0, .ref z.1)]) [0] rfl ?_
  refine v_gets38 g S dJ0_isLatin1_aae02_0 rfl ?_
  refine v_if_eq (tgt := 17) g dJ0_isLatin1_aae02_3 (by decide) (fun h => absurd h (by decide)) (fun _ => ?_)
  refine v_aload_n g dJ0_isLatin1_aae02_6 0 rfl ?_
  refine v_coder g S dJ0_isLatin1_aae02_7 rfl ?_
  refine v_if_ne (tgt := 17) g dJ0_isLatin1_aae02_10 (by decide) (fun h => absurd (by decide) h) (fun _ => ?_)
  refine v_iconst (v := 1) g dJ0_isLatin1_aae02_13 (by decide) ?_
  refine v_goto (tgt := 18) g dJ0_isLatin1_aae02_14 (by decide) ?_
  exact v_zret g E dJ0_isLatin1_aae02_18 rfl rfl ⟨by rfl, rfl, rfl⟩
theorem k_J1_inflate_03870 {q : Nat} (hq : μ q = some (ccA (fun _ => 0))) : CtrS l G z 0 0 0 0 mJ1_inflate_03870 [.ref z.2, .int 0, .ref q, .int 0, .int 101] n μ none (n) (mset μ q (ccA ttx)) := by
  refine CtrS.of (by decide +kernel) rfl (fun X g S E => ?_)
  refine v_sub (ls' := [(0, .ref z.2), (1, .int 0), (2, .ref q), (3, .int 0), (4, .int 101)]) [0, 1, 2, 3, 4] rfl ?_
  have loop : ∀ (k j : Nat), j + k = 101 → V X 0 0 n (mset μ q (ccA (fun i => if i < j then stx i else 0))) 3 [(5, .int (nI j)), (3, .int (nI j)), (1, .int (nI j)), (0, .ref z.2), (2, .ref q), (4, .int 101)] [] := by
    intro k
    induction k with
    | zero =>
      intro j hj
      refine v_iload g dJ1_inflate_03870_3 0 rfl ?_
      refine v_iload g dJ1_inflate_03870_5 5 rfl ?_
      refine v_icmp_ge (tgt := 33) g dJ1_inflate_03870_7 (by decide) (fun h7 => ?_) (fun h7 => absurd (nI_le (a := 101) (b := j) (by omega) (by omega)) h7)
      obtain rfl : j = 101 := by omega
      exact v_vret g E dJ1_inflate_03870_33 rfl ⟨rfl, rfl, rfl⟩
    | succ k ih =>
      intro j hj
      refine v_iload g dJ1_inflate_03870_3 0 rfl ?_
      refine v_iload g dJ1_inflate_03870_5 5 rfl ?_
      refine v_icmp_ge (tgt := 33) g dJ1_inflate_03870_7 (by decide) (fun h7 => absurd h7 (nI_ge (a := j) (b := 101) (by omega) (by decide))) (fun h7 => ?_)
      refine v_aload_n g dJ1_inflate_03870_10 4 rfl ?_
      refine v_iload_n g dJ1_inflate_03870_11 1 rfl ?_
      refine v_iinc (v := nI (j + 1)) (ls' := [(3, .int (nI (j + 1))), (5, .int (nI j)), (1, .int (nI j)), (0, .ref z.2), (2, .ref q), (4, .int 101)]) g dJ1_inflate_03870_12 1 rfl (nI_1 j) rfl rfl ?_
      refine v_aload_n g dJ1_inflate_03870_15 3 rfl ?_
      refine v_iload_n g dJ1_inflate_03870_16 2 rfl ?_
      refine v_iinc (v := nI (j + 1)) (ls' := [(1, .int (nI (j + 1))), (3, .int (nI (j + 1))), (5, .int (nI j)), (0, .ref z.2), (2, .ref q), (4, .int 101)]) g dJ1_inflate_03870_17 2 rfl (nI_1 j) rfl rfl ?_
      refine v_sbyte g S (vp_in_nI (show j < 101 by omega) (by decide)) dJ1_inflate_03870_20 (v_eqi (y := stx j) (by rw [nI_clamp (by omega)]) ?_)
      refine v_sipush (v := 255) g dJ1_inflate_03870_21 (by decide) ?_
      refine v_iand g dJ1_inflate_03870_24 ?_
      refine v_i2c g dJ1_inflate_03870_25 ?_
      refine v_cast g dJ1_inflate_03870_26 (mset_self _ _ _) (vp_in_nI (show j < 101 by omega) (by decide)) ?_
      rw [nI_clamp (n := j) (by omega), (stx_b j (by omega)).1, (stx_b j (by omega)).2]
      refine v_meq (μ' := mset μ q (ccA (fun i => if i < j + 1 then stx i else 0))) (ifl_up μ q j) ?_
      refine v_iinc (v := nI (j + 1)) (ls' := [(5, .int (nI (j + 1))), (1, .int (nI (j + 1))), (3, .int (nI (j + 1))), (0, .ref z.2), (2, .ref q), (4, .int 101)]) g dJ1_inflate_03870_27 2 rfl (nI_1 j) rfl rfl ?_
      refine v_goto (tgt := 3) g dJ1_inflate_03870_30 (by decide) ?_
      refine v_sub (ls' := [(5, .int (nI (j + 1))), (3, .int (nI (j + 1))), (1, .int (nI (j + 1))), (0, .ref z.2), (2, .ref q), (4, .int 101)]) [0, 2, 1, 3, 4, 5] rfl ?_
      exact ih (j + 1) (by omega)
  refine v_sub (ls' := [(0, .ref z.2), (1, .int 0), (2, .ref q), (3, .int 0), (4, .int 101)]) [0, 1, 2, 3, 4] rfl ?_
  refine v_iconst (v := 0) g dJ1_inflate_03870_0 (by decide) ?_
  refine v_istore (ls' := [(5, .int 0), (0, .ref z.2), (1, .int 0), (2, .ref q), (3, .int 0), (4, .int 101)]) g dJ1_inflate_03870_1 rfl rfl ?_
  refine v_meq (μ' := mset μ q (ccA (fun i => if i < 0 then stx i else 0))) (ifl_0 hq) ?_
  refine v_sub (ls' := [(5, .int 0), (3, .int 0), (1, .int 0), (0, .ref z.2), (2, .ref q), (4, .int 101)]) [0, 4, 2, 1, 3, 5] rfl ?_
  exact loop 101 0 rfl
theorem k_J1_toChars_9d188  : CtrS l G z 1 25 1 101 mJ1_toChars_9d188 [.ref z.2] n μ (some (.ref n)) (n + 1) (mset μ n (ccA ttx)) := by
  refine CtrS.of (by decide +kernel) rfl (fun X g S E => ?_)
  refine v_sub (ls' := [(0, .ref z.2)]) [0] rfl ?_
  refine v_aload_n g dJ1_toChars_9d188_0 0 rfl ?_
  refine v_slen g S dJ1_toChars_9d188_1 ?_
  refine v_newaC (a := 0) (b := 0) (N := 101) g dJ1_toChars_9d188_2 ac_char (by decide) rfl (by decide) ?_
  refine v_astore_n (ls' := [(1, .ref n), (0, .ref z.2)]) g dJ1_toChars_9d188_4 rfl rfl ?_
  refine v_aload_n g dJ1_toChars_9d188_5 1 rfl ?_
  refine v_iconst (v := 0) g dJ1_toChars_9d188_6 (by decide) ?_
  refine v_aload_n g dJ1_toChars_9d188_7 0 rfl ?_
  refine v_iconst (v := 0) g dJ1_toChars_9d188_8 (by decide) ?_
  refine v_aload_n g dJ1_toChars_9d188_9 1 rfl ?_
  refine v_slen g S dJ1_toChars_9d188_10 ?_
  refine v_callSS (As := [.ref z.2, .int 0, .ref n, .int 0, .int 101]) (r := none) g dJ1_toChars_9d188_11 S (k_J1_inflate_03870 (q := n) (mset_self _ _ _)) cl_J1_inflate_03870 ml_RJ1_13 sm_J1_inflate_03870 rfl ⟨rfl, rfl, rfl⟩ ?_
  refine v_meq (μ' := mset μ n (ccA ttx)) (mset_mset _ _ _ _) ?_
  refine v_aload_n g dJ1_toChars_9d188_14 0 rfl ?_
  exact v_aret g E dJ1_toChars_9d188_15 rfl ⟨rfl, rfl, rfl⟩
theorem k_J0_toCharArray_70df3  : CtrS l G z 2 46 1 101 mJ0_toCharArray_70df3 [.ref z.1] n μ (some (.ref n)) (n + 1) (mset μ n (ccA ttx)) := by
  refine CtrS.of (by decide +kernel) rfl (fun X g S E => ?_)
  refine v_sub (ls' := [(0, .ref z.1)]) [0] rfl ?_
  refine v_aload_n g dJ0_toCharArray_70df3_0 0 rfl ?_
  refine v_callVS (As := []) (r := some (.int 1)) g dJ0_toCharArray_70df3_1 S k_J0_isLatin1_aae02 cl_J0_isLatin1_aae02 ml_RJ0_492 im_J0_isLatin1_aae02 rfl ⟨rfl, rfl, rfl⟩ ?_
  refine v_if_eq (tgt := 17) g dJ0_toCharArray_70df3_4 (by decide) (fun h => absurd h (by decide)) (fun _ => ?_)
  refine v_aload_n g dJ0_toCharArray_70df3_7 0 rfl ?_
  refine v_value g S dJ0_toCharArray_70df3_8 rfl ?_
  refine v_callSS (As := [.ref z.2]) (r := some (.ref n)) g dJ0_toCharArray_70df3_11 S k_J1_toChars_9d188 cl_J1_toChars_9d188 ml_RJ0_299 sm_J1_toChars_9d188 rfl ⟨rfl, rfl, rfl⟩ ?_
  refine v_goto (tgt := 24) g dJ0_toCharArray_70df3_14 (by decide) ?_
  exact v_aret g E dJ0_toCharArray_70df3_24 rfl ⟨rfl, rfl, rfl⟩
end STR
