/-! THE REFERENCE: a year keeps what is sound -/
theorem mvS_ok {t s : Nat → Nat} (h : OkS t s) {fr : Int32} {r : Nat} (hr : r < t 2) (hn : ¬ dirM t s fr r = -4) : OkS t (mvS t s fr r) := by
  obtain ⟨d0, c0, hd, ed, hc, ec⟩ := dirM_ok h fr hr hn
  have o2 := h.2.1
  unfold mvS
  rw [ec, ed, nI_clamp (by omega), nI_clamp (by omega)]
  exact mvE_ok h hr hd hc
theorem mvFrom_ok {t : Nat → Nat} {fr : Int32} : ∀ (q r : Nat) (s : Nat → Nat), r + q = t 2 → OkS t s → OkS t (mvFrom t fr q r s) := by
  intro q
  induction q with
  | zero => intro r s _ h; exact h
  | succ q ih =>
    intro r s hq h
    rw [mvFrom]
    refine ih (r + 1) _ (by omega) ?_
    split
    · exact h
    · exact mvS_ok h (by omega) (by assumption)
theorem brIn_ok {t : Nat → Nat} {r : Nat} (hr : r < 3) : ∀ (q k : Nat) (s : Nat → Nat), k + q ≤ 4 → OkS t s → OkS t (brIn t r q k s) := by
  intro q
  induction q with
  | zero => intro k s _ h; exact h
  | succ q ih =>
    intro k s hq h
    rw [brIn]
    exact ih (k + 1) _ (by omega) (brS_ok h hr (by omega)).1
theorem brOut_ok {t : Nat → Nat} : ∀ (q r : Nat) (s : Nat → Nat), r + q ≤ 3 → OkS t s → OkS t (brOut t q r s) := by
  intro q
  induction q with
  | zero => intro r s _ h; exact h
  | succ q ih =>
    intro r s hq h
    rw [brOut]
    have h5 := h.2.2.2.2.1 r (by omega)
    exact ih (r + 1) _ (by omega) (brIn_ok (by omega) _ _ _ (by omega) h)
theorem passM_ok {t s : Nat → Nat} (h : OkS t s) (fr : Int32) : OkS t (passM t s fr) := by
  have h1 : OkS t (mvFrom t fr (t 2) 0 s) := mvFrom_ok _ _ _ (by omega) h
  have h2 : OkS t (brOut t (t 2) 0 (mvFrom t fr (t 2) 0 s)) := brOut_ok _ _ _ (by have := h.1; omega) h1
  exact okS_of h2 (fun j h3 h4 => va_up_ne _ _ (by omega))
