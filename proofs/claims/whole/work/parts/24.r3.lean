/-! THE REFERENCE: a year passes -/
theorem okS_of {t s s' : Nat → Nat} (h : OkS t s) (e : ∀ j, 5 ≤ j → j < 23 → s' j = s j) : OkS t s' := by
  obtain ⟨o1, o2, o3, o4, o5, o6, o7, o8, o9, o10, o11⟩ := h
  refine ⟨o1, o2, o3, o4, fun r hr => ?_, fun r hr k hk => ?_, o7, fun r hr => ?_, fun r hr => ?_, fun r hr k hk => ?_, o11⟩
  · rw [e _ (by omega) (by omega)]; exact o5 r hr
  · rw [e _ (by omega) (by omega)]; exact o6 r hr k hk
  · rw [e _ (by omega) (by omega)]; exact o8 r hr
  · rw [e _ (by omega) (by omega)]; exact o9 r hr
  · rw [e (8 + r) (by omega) (by omega)] at hk
    have h5 := o5 r (by omega)
    rw [e _ (by omega) (by omega)]
    exact o10 r hr k hk
theorem open_no (t s : Nat → Nat) (r : Nat) : openM t s r (-4) = false := by simp [openM, mayM, sortM]
theorem nI_mod4 : ∀ x, x < 12 → nI x % 4 = nI (x % 4) := by decide +kernel
theorem nI_no4 : ∀ x, x < 40 → ¬ nI x = -4 := by decide +kernel
def dirM (t s : Nat → Nat) (fr : Int32) (r : Nat) : Int32 := if nI r = fr then -4 else headM t s r
theorem headM_ok {t s : Nat → Nat} (h : OkS t s) {r : Nat} (hr : r < t 2) : headM t s r = -4 ∨ ∃ d0 c0 : Nat, d0 < 4 ∧ headM t s r = nI d0 ∧ c0 < t 0 ∧ besM t (s (11 + 4 * r)) (headM t s r) = nI c0 := by
  obtain ⟨o1, o2, o3, o4, o5, o6, o7, o8, o9, o10, o11⟩ := id h
  have h9 := o9 r hr
  have hf : s (11 + 4 * r) < t 0 := o10 r hr 0 (by omega)
  have h8 := o8 r (by omega)
  have ht := turnM_le t r
  by_cases h1 : (nI (t (75 + r)) = 2 ∧ nI (s 0) % 2 = 1)
  · left; unfold headM; rw [if_pos h1]
  · by_cases h2 : openM t s r (besM t (s (11 + 4 * r)) (nI (s (5 + r)))) = true
    · right
      have e : headM t s r = nI (s (5 + r)) := by unfold headM; rw [if_neg h1, if_pos h2]
      rw [e]
      obtain ⟨c0, q1, q2⟩ := (bes_ok h hf (nI (s (5 + r)))).resolve_left (fun z => by rw [z, open_no] at h2; cases h2)
      exact ⟨s (5 + r), c0, h8, rfl, q1, q2⟩
    · by_cases h3 : openM t s r (besM t (s (11 + 4 * r)) (nI (s (5 + r) + turnM t r) % 4)) = true
      · right
        have e : headM t s r = nI (s (5 + r) + turnM t r) % 4 := by unfold headM; rw [if_neg h1, if_neg h2, if_pos h3]
        rw [e]
        obtain ⟨c0, q1, q2⟩ := (bes_ok h hf (nI (s (5 + r) + turnM t r) % 4)).resolve_left (fun z => by rw [z, open_no] at h3; cases h3)
        exact ⟨(s (5 + r) + turnM t r) % 4, c0, by omega, nI_mod4 _ (by omega), q1, q2⟩
      · by_cases h4 : openM t s r (besM t (s (11 + 4 * r)) (nI (s (5 + r) + 4 - turnM t r) % 4)) = true
        · right
          have e : headM t s r = nI (s (5 + r) + 4 - turnM t r) % 4 := by unfold headM; rw [if_neg h1, if_neg h2, if_neg h3, if_pos h4]
          rw [e]
          obtain ⟨c0, q1, q2⟩ := (bes_ok h hf (nI (s (5 + r) + 4 - turnM t r) % 4)).resolve_left (fun z => by rw [z, open_no] at h4; cases h4)
          exact ⟨(s (5 + r) + 4 - turnM t r) % 4, c0, by omega, nI_mod4 _ (by omega), q1, q2⟩
        · left; unfold headM; rw [if_neg h1, if_neg h2, if_neg h3, if_neg h4]
theorem dirM_ok {t s : Nat → Nat} (h : OkS t s) (fr : Int32) {r : Nat} (hr : r < t 2) (hn : ¬ dirM t s fr r = -4) : ∃ d0 c0 : Nat, d0 < 4 ∧ dirM t s fr r = nI d0 ∧ c0 < t 0 ∧ besM t (s (11 + 4 * r)) (dirM t s fr r) = nI c0 := by
  unfold dirM at hn ⊢
  by_cases hf : nI r = fr
  · rw [if_pos hf] at hn; exact absurd rfl hn
  · rw [if_neg hf] at hn ⊢
    exact (headM_ok h hr).resolve_left hn
/-- the trees of a row from place k on have moved by one -/
def shP (s : Nat → Nat) (a m k : Nat) : Nat → Nat := fun j => if a + k < j ∧ j ≤ a + m then s (j - 1) else s j
theorem shP_m (s : Nat → Nat) (a m : Nat) : s = shP s a m m := by
  funext j; unfold shP; rw [if_neg (by omega)]
theorem shP_at (s : Nat → Nat) (a m k : Nat) : shP s a m (k + 1) (a + k) = s (a + k) := by unfold shP; rw [if_neg (by omega)]
theorem shP_step (s : Nat → Nat) (a m k : Nat) (h : k + 1 ≤ m) : va_up (shP s a m (k + 1)) (a + (k + 1)) (s (a + k)) = shP s a m k := by
  funext j
  unfold va_up shP
  by_cases h1 : j = a + (k + 1)
  · subst h1
    rw [if_pos rfl, if_pos ⟨by omega, by omega⟩, show a + (k + 1) - 1 = a + k by omega]
  · rw [if_neg h1]
    by_cases h2 : a + k < j ∧ j ≤ a + m
    · rw [if_pos h2, if_pos ⟨by omega, h2.2⟩]
    · rw [if_neg h2, if_neg (by omega)]
/-- row r heads for d, to cell c -/
def mvE (t s : Nat → Nat) (r d c : Nat) : Nat → Nat :=
  va_up (va_up (va_up (shP s (11 + 4 * r) (s (8 + r) - 1) 0) (11 + 4 * r) c) (5 + r) d) (1 + t (39 + c)) (va_up (va_up (shP s (11 + 4 * r) (s (8 + r) - 1) 0) (11 + 4 * r) c) (5 + r) d (1 + t (39 + c)) + (if nI (t (3 + c)) = 1 then 1 else 0))
def mvS (t s : Nat → Nat) (fr : Int32) (r : Nat) : Nat → Nat := mvE t s r (dirM t s fr r).toNatClampNeg (besM t (s (11 + 4 * r)) (dirM t s fr r)).toNatClampNeg
def mvFrom (t : Nat → Nat) (fr : Int32) : Nat → Nat → (Nat → Nat) → (Nat → Nat)
  | 0, _, s => s
  | q + 1, r, s => mvFrom t fr q (r + 1) (if dirM t s fr r = -4 then s else mvS t s fr r)
def brS (t s : Nat → Nat) (r k : Nat) : Nat → Nat := va_up s (1 + t (39 + s (11 + 4 * r + k))) (s (1 + t (39 + s (11 + 4 * r + k))) + (t (78 + r) + (if mateM t s r (s (11 + 4 * r + k)) = true then 1 else 0)))
def brIn (t : Nat → Nat) (r : Nat) : Nat → Nat → (Nat → Nat) → (Nat → Nat)
  | 0, _, s => s
  | q + 1, k, s => brIn t r q (k + 1) (brS t s r k)
def brOut (t : Nat → Nat) : Nat → Nat → (Nat → Nat) → (Nat → Nat)
  | 0, _, s => s
  | q + 1, r, s => brOut t q (r + 1) (brIn t r (s (8 + r)) 0 s)
def passM (t s : Nat → Nat) (fr : Int32) : Nat → Nat := va_up (brOut t (t 2) 0 (mvFrom t fr (t 2) 0 s)) 0 (brOut t (t 2) 0 (mvFrom t fr (t 2) 0 s) 0 + 1)
theorem brS_ok {t s : Nat → Nat} (h : OkS t s) {r k : Nat} (hr : r < 3) (hk : k < 4) : OkS t (brS t s r k) ∧ brS t s r k (8 + r) = s (8 + r) := by
  have h6 := h.2.2.2.2.2.1 r hr k hk
  have h7 := h.2.2.2.2.2.2.1 _ h6
  exact ⟨okS_of h (fun j h1 h2 => va_up_ne _ _ (by omega)), va_up_ne _ _ (by omega)⟩
theorem mvE_ok {t s : Nat → Nat} (h : OkS t s) {r d c : Nat} (hr : r < t 2) (hd : d < 4) (hc : c < t 0) : OkS t (mvE t s r d c) := by
  obtain ⟨o1, o2, o3, o4, o5, o6, o7, o8, o9, o10, o11⟩ := id h
  have h7 := o7 c (by omega)
  have h5 := o5 r (by omega)
  have h9 := o9 r hr
  have e : ∀ j, 5 ≤ j → mvE t s r d c j = if j = 5 + r then d else if j = 11 + 4 * r then c else if 11 + 4 * r < j ∧ j ≤ 11 + 4 * r + (s (8 + r) - 1) then s (j - 1) else s j := by
    intro j hj
    unfold mvE
    rw [va_up_ne _ _ (by omega)]
    unfold va_up shP
    rfl
  have eR : ∀ q, q < 3 → mvE t s r d c (8 + q) = s (8 + q) := fun q hq => by
    rw [e _ (by omega), if_neg (by omega), if_neg (by omega), if_neg (by omega)]
  refine ⟨o1, o2, o3, o4, fun q hq => by rw [eR q hq]; exact o5 q hq, fun q hq k hk => ?_, o7, fun q hq => ?_, fun q hq => by rw [eR q (by omega)]; exact o9 q hq, fun q hq k hk => ?_, o11⟩
  · rw [e _ (by omega), if_neg (by omega)]
    split
    · omega
    · split
      · rename_i z1 z2
        obtain rfl : q = r := by omega
        have := o6 q hq (k - 1) (by omega)
        rw [show 11 + 4 * q + k - 1 = 11 + 4 * q + (k - 1) by omega]
        exact this
      · exact o6 q hq k hk
  · rw [e _ (by omega)]
    split
    · exact hd
    · rw [if_neg (by omega), if_neg (by omega)]
      exact o8 q hq
  · rw [eR q (by omega)] at hk
    have hq5 := o5 q (by omega)
    rw [e _ (by omega), if_neg (by omega)]
    split
    · exact hc
    · split
      · rename_i z1 z2
        obtain rfl : q = r := by omega
        have := o10 q hq (k - 1) (by omega)
        rw [show 11 + 4 * q + k - 1 = 11 + 4 * q + (k - 1) by omega]
        exact this
      · exact o10 q hq k hk
