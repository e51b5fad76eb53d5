/-! BOTH SIDES: the start -/
def D0 : MS := ((101, 0, 0, 0, 0), fun k => if k = 0 then fun j => (stx j).toNatClampNeg else fun _ => 0)
theorem first_4 : (raR D0).1 = -4 := by decide +kernel
theorem first_t : ∀ k, k < 81 → (raR D0).2.2.1 k = dI3 k := by decide +kernel
theorem first_s : ∀ k, k < 59 → (raR D0).2.2.2 k = bI3 k := by decide +kernel
theorem first_2 : 0 < (raR D0).2.2.1 2 := by decide +kernel
theorem first_b0 : bI3 0 = 0 := by decide +kernel
theorem first_ch : ∀ k, k < 101 → ttx k = nI (stx k).toNatClampNeg ∧ (stx k).toNatClampNeg ≤ 126 := by decide +kernel
theorem first_K : TxK 101 ttx D0 := ⟨Nat.le_refl _, by decide, fun k hk => first_ch k hk⟩
theorem first_m : minC 101 (nI 101) = nI D0.1.1 := by decide +kernel
theorem first_X : DRX (rtRun 101 (cA zC 6) 101 zC).2.2.2.2.1 (rtRun 101 (cA zC 6) 101 zC).2.2.2.2.2 (raR D0).2.2.1 (raR D0).2.2.2 := by
  have e : cA zC 6 = ttx := rfl
  unfold rtRun
  rw [first_m, e]
  exact (rt_eq first_K 200 0 ((cR zC).1, 0, cA zC 5, clrLand (cL zC 1), clearOC (cO zC 2)) _ _ (by decide) (by omega) rfl (start_DR _ _ _ _)).2 first_4
theorem start_gen (C : CS) (len : Int32) (X : RS) (t s dI bI : Nat → Nat) (hX : DR X.2.2.2.1 X.2.2.2.2 t s) (h2 : 0 < t 2) (et : ∀ j, j < 81 → dI j = t j) (es : ∀ j, j < 59 → bI j = s j) (hW : cW C = (0, 0)) (hA : cA C 0 = fun _ => 0) (hP0 : cP C 0 = (0, fun k => 3 + k)) (hP1 : cP C 1 = (0, fun k => 11 + k)) : Inv (ini2 (ini1 (rdS1 C len 6 X))) (layU (dS zM 0 dI bI)) 0 := by
  obtain ⟨told, att, nums, L, O⟩ := X
  have e0 : cO (ini2 (ini1 (rdS1 C len 6 (told, att, nums, L, O)))) 0 = copyC (cO (ini1 (rdS1 C len 6 (told, att, nums, L, O))) 0) O := by
    show va_up (cO (ini1 (rdS1 C len 6 (told, att, nums, L, O)))) 0 (copyC (cO (ini1 (rdS1 C len 6 (told, att, nums, L, O))) 0) (cO (ini1 (rdS1 C len 6 (told, att, nums, L, O))) 2)) 0 = _
    rw [va_up_self]
    show copyC _ (va_up (cO C) 2 O 2) = _
    rw [va_up_self]
  have eL0 : cL (ini2 (ini1 (rdS1 C len 6 (told, att, nums, L, O)))) 0 = cpLand (cL (rdS1 C len 6 (told, att, nums, L, O)) 0) L := by
    show va_up (cL (rdS1 C len 6 (told, att, nums, L, O))) 0 (cpLand (cL (rdS1 C len 6 (told, att, nums, L, O)) 0) (cL (rdS1 C len 6 (told, att, nums, L, O)) 1)) 0 = _
    rw [va_up_self]
    show cpLand _ (va_up (cL C) 1 L 1) = _
    rw [va_up_self]
  have d0 := hX.1.1.2.2.2.2.2.2.2.2.2.1 0 (by omega)
  obtain ⟨q1, q2, q3, q4, q5, q6, q7⟩ := DR_RQ hX h2
  obtain ⟨k1, k2⟩ := copy_P q1 q3 (cO (ini1 (rdS1 C len 6 (told, att, nums, L, O))) 0)
  have hR : RQ (cL (ini2 (ini1 (rdS1 C len 6 (told, att, nums, L, O)))) 0) (cO (ini2 (ini1 (rdS1 C len 6 (told, att, nums, L, O)))) 0) t s := by
    rw [e0, eL0]
    exact ⟨q1, RLd_cp q2 _, k1, k2 q4, q5, q6, q7⟩
  have hT : RQ (cL (ini2 (ini1 (rdS1 C len 6 (told, att, nums, L, O)))) 0) (cO (ini2 (ini1 (rdS1 C len 6 (told, att, nums, L, O)))) 0) (cpN (zM.2 1) dI 81) (cpN (zM.2 4) bI 59) := RQ_59 (s := s) (fun j hj => by unfold cpN; rw [if_pos hj]; exact es j hj) (RQ_81 (t := t) (fun j hj => by unfold cpN; rw [if_pos hj]; exact et j hj) hR)
  have eW : cW (ini2 (ini1 (rdS1 C len 6 (told, att, nums, L, O)))) = (0, 0) := hW
  have eA : cA (ini2 (ini1 (rdS1 C len 6 (told, att, nums, L, O)))) 0 = fun _ => 0 := by
    show va_up (cA C) 5 nums 0 = _
    rw [va_up_ne _ _ (by decide)]
    exact hA
  have eP0 : cP (ini2 (ini1 (rdS1 C len 6 (told, att, nums, L, O)))) 0 = (0, fun k => 3 + k) := hP0
  have eP1 : cP (ini2 (ini1 (rdS1 C len 6 (told, att, nums, L, O)))) 1 = (0, fun k => 11 + k) := hP1
  refine ⟨⟨hT, ?_⟩, ⟨by rw [eW]; rfl, by show (0 : Nat) ≤ 6; omega, fun i hi => absurd hi (Nat.not_lt_zero _)⟩, ⟨by rw [eW]; rfl, by show (0 : Nat) ≤ 200; omega, fun k hk => absurd hk (Nat.not_lt_zero _), fun q => by rw [eA]; rfl⟩, ⟨fun k => 3 + k, ⟨⟨eP0, Nat.zero_le _, fun k hk => by show 3 + k < 13; omega, fun k hk => by show 3 ≤ 3 + k; omega⟩, fun k hk => by show 3 + k < 11; omega, fun i j h1 h2 h3 => by have h4 : 3 + i = 3 + j := h3; omega, fun i hi => absurd hi (Nat.not_lt_zero _)⟩⟩, ⟨⟨eP1, Nat.zero_le _, fun k hk => by show 11 + k < 13; omega, fun k hk => by show 3 ≤ 11 + k; omega⟩, fun i hi => absurd hi (Nat.not_lt_zero _)⟩⟩
  show cpN (zM.2 4) bI 59 0 ≤ 20 * 0
  unfold cpN
  rw [if_pos (by omega), es 0 (by omega), d0]
  omega
theorem start_Inv : Inv begC begM 0 := start_gen zC (minC 101 (nI 101)) (rtRun 101 (cA zC 6) 101 zC).2 (raR D0).2.2.1 (raR D0).2.2.2 dI3 bI3 first_X.1 first_2 (fun j hj => (first_t j hj).symm) (fun j hj => (first_s j hj).symm) rfl rfl rfl rfl
