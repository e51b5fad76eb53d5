/-! BOTH SIDES: sets of cells as bits, the cells beside -/
theorem ts_bit {w : Int64} {s : UInt64} {j : Nat} (hj : j < 64) (hs : s.toNat = j) : ((w.toUInt64 >>> s).toInt64 &&& 1) = 0 ↔ w.toBitVec.getLsbD j = false := by
  have e : (w.toUInt64 >>> s).toInt64.toBitVec = w.toBitVec >>> j := by
    apply BitVec.eq_of_toNat_eq
    show (w.toUInt64 >>> s).toNat = _
    rw [UInt64.toNat_shiftRight, hs, Nat.mod_eq_of_lt hj, BitVec.toNat_ushiftRight]
    rfl
  rw [← Int64.toBitVec_inj, Int64.toBitVec_and, e]
  show w.toBitVec >>> j &&& 1#64 = 0#64 ↔ _
  constructor
  · intro h
    have t := congrArg (fun x => x.getLsbD 0) h
    simpa using t
  · intro h
    apply BitVec.eq_of_getLsbD_eq
    intro i hi
    cases i with
    | zero => simp [h]
    | succ i => simp
theorem wb_tb (n : Nat) : (lN n).toBitVec = BitVec.ofNat 64 n := rfl
theorem wb_inj {a b : Int64} (h : a.toBitVec = b.toBitVec) : a = b := Int64.toBitVec_inj.mp h
theorem wb_tn {n : Nat} (h : n < 2 ^ 64) : (lN n).toBitVec.toNat = n := by rw [wb_tb, BitVec.toNat_ofNat, Nat.mod_eq_of_lt h]
theorem wb_of (x : Int64) : ∃ n, n < 2 ^ 64 ∧ x = lN n := ⟨x.toBitVec.toNat, x.toBitVec.isLt, wb_inj (by rw [wb_tb]; simp)⟩
theorem wb_cu : ∀ k, k < 64 → ((nI k).toInt64.toUInt64 &&& Int64.toUInt64 63) = UInt64.ofNat k := by decide +kernel
theorem wb_shr {n k : Nat} (hn : n < 2 ^ 64) (hk : k < 64) : ((lN n).toUInt64 >>> ((nI k).toInt64.toUInt64 &&& Int64.toUInt64 63)).toInt64 = lN (n / 2 ^ k) := by
  rw [wb_cu k hk]
  apply wb_inj
  apply BitVec.eq_of_toNat_eq
  show ((lN n).toUInt64 >>> UInt64.ofNat k).toNat = (BitVec.ofNat 64 _).toNat
  have h1 : (UInt64.ofNat k).toNat = k := by
    show (BitVec.ofNat 64 k).toNat = k
    rw [BitVec.toNat_ofNat, Nat.mod_eq_of_lt (by omega)]
  have h2 : (lN n).toUInt64.toNat = n := wb_tn hn
  rw [UInt64.toNat_shiftRight, h1, h2, Nat.mod_eq_of_lt hk, Nat.shiftRight_eq_div_pow, BitVec.toNat_ofNat, Nat.mod_eq_of_lt (Nat.lt_of_le_of_lt (Nat.div_le_self _ _) hn)]
theorem fb_andL (a b : Nat) : lN a &&& lN b = lN (a &&& b) := by
  apply Int64.toBitVec_inj.1
  show BitVec.ofNat 64 a &&& BitVec.ofNat 64 b = BitVec.ofNat 64 (a &&& b)
  apply BitVec.eq_of_getLsbD_eq
  intro i hi
  simp [hi]
def fb_ct (p : Nat → Bool) : Nat → Nat
  | 0 => 0
  | n + 1 => fb_ct p n + (if p n then 1 else 0)
theorem fb_ct_succ (p : Nat → Bool) (n : Nat) : fb_ct p (n + 1) = fb_ct p n + (if p n then 1 else 0) := rfl
theorem fb_ct_cong {p q : Nat → Bool} : ∀ {n : Nat}, (∀ k, k < n → p k = q k) → fb_ct p n = fb_ct q n
  | 0, _ => rfl
  | n + 1, h => by
    rw [fb_ct_succ, fb_ct_succ, fb_ct_cong (fun k hk => h k (by omega)), h n (by omega)]
/-- one place changed -/
theorem fb_ct_split (p : Nat → Bool) (m : Nat) : ∀ n, fb_ct p (m + n) = fb_ct p m + fb_ct (fun k => p (m + k)) n
  | 0 => rfl
  | n + 1 => by
    have h := fb_ct_split p m n
    show fb_ct p (m + n + 1) = _
    rw [fb_ct_succ, fb_ct_succ, h, Nat.add_assoc]
theorem fb_ct_or {p q : Nat → Bool} : ∀ {n : Nat}, (∀ k, k < n → ¬ (p k = true ∧ q k = true)) → fb_ct (fun k => p k || q k) n = fb_ct p n + fb_ct q n
  | 0, _ => rfl
  | n + 1, h => by
    have h1 := fb_ct_or (n := n) (p := p) (q := q) (fun k hk => h k (by omega))
    have h2 := h n (by omega)
    rw [fb_ct_succ, fb_ct_succ, fb_ct_succ, h1]
    cases hp : p n <;> cases hq : q n <;> simp_all <;> omega
theorem fb_ct_out (p : Nat → Bool) (b : Bool) {i n : Nat} (h : n ≤ i) : fb_ct (fun k => if k = i then b else p k) n = fb_ct p n :=
  fb_ct_cong fun k hk => if_neg (by omega)
theorem fb_ct_upd (p : Nat → Bool) (b : Bool) {i : Nat} : ∀ {n : Nat}, i < n → fb_ct (fun k => if k = i then b else p k) n + (if p i then 1 else 0) = fb_ct p n + (if b then 1 else 0)
  | 0, h => absurd h (Nat.not_lt_zero i)
  | n + 1, h => by
    rw [fb_ct_succ, fb_ct_succ]
    rcases Nat.lt_or_ge i n with q | q
    · have := fb_ct_upd p b q
      have e : (if n = i then b else p n) = p n := if_neg (by omega)
      rw [e]
      omega
    · have e : i = n := by omega
      subst e
      rw [fb_ct_out p b (Nat.le_refl _)]
      simp only [if_true]
      omega
theorem fb_ct_zero {p : Nat → Bool} : ∀ {n : Nat}, fb_ct p n = 0 ↔ ∀ k, k < n → p k = false
  | 0 => ⟨fun _ k hk => absurd hk (Nat.not_lt_zero k), fun _ => rfl⟩
  | n + 1 => by
    have h := fb_ct_zero (p := p) (n := n)
    rw [fb_ct_succ]
    constructor
    · intro e k hk
      have e1 : fb_ct p n = 0 := by omega
      rcases Nat.lt_or_ge k n with q | q
      · exact h.mp e1 k q
      · have ek : k = n := by omega
        subst ek
        cases hp : p k
        · rfl
        · simp [hp] at e
    · intro a
      rw [h.mpr (fun k hk => a k (by omega)), a n (by omega)]
      rfl
def gb (F : Int64) (j : Nat) : Bool := F.toBitVec.getLsbD j
theorem gb_or (a b : Int64) (j : Nat) : gb (a ||| b) j = (gb a j || gb b j) := by unfold gb; rw [Int64.toBitVec_or, BitVec.getLsbD_or]
theorem gb_and (a b : Int64) (j : Nat) : gb (a &&& b) j = (gb a j && gb b j) := by unfold gb; rw [Int64.toBitVec_and, BitVec.getLsbD_and]
theorem gb_not (a : Int64) {j : Nat} (h : j < 64) : gb (a ^^^ (-1)) j = !gb a j := by
  unfold gb
  rw [Int64.toBitVec_xor, BitVec.getLsbD_xor]
  have e : ((-1 : Int64).toBitVec).getLsbD j = true := by
    show (BitVec.allOnes 64).getLsbD j = true
    rw [BitVec.getLsbD_allOnes]; simp [h]
  rw [e]
  simp
theorem gb_0 (j : Nat) : gb 0 j = false := BitVec.getLsbD_zero
theorem gb_hi (F : Int64) {j : Nat} (h : 64 ≤ j) : gb F j = false := BitVec.getLsbD_of_ge _ _ h
theorem bit_tp : ∀ c, c < 36 → (bitC (nI c)).toBitVec = BitVec.twoPow 64 c := by decide +kernel
theorem gb_bit {c : Nat} (hc : c < 36) (j : Nat) : gb (bitC (nI c)) j = decide (j = c) := by
  unfold gb
  rw [bit_tp c hc, BitVec.getLsbD_twoPow]
  by_cases h : c = j
  · subst h; simp; omega
  · have : ¬ j = c := fun q => h q.symm
    simp [h, this]
theorem bit_no : bitC (-4) = 0 := by decide
theorem ctn_no (F : Int64) : ctn F (-4) = false := by
  unfold ctn
  rw [if_pos (by decide)]
theorem wb_cu36 : ∀ k, k < 36 → (((nI k).toInt64.toUInt64 &&& Int64.toUInt64 63)).toNat = k := by decide +kernel
theorem ctn_gb (F : Int64) {c : Nat} (hc : c < 36) : ctn F (nI c) = gb F c := by
  have h0 : ¬ nI c < 0 := nI_pos (by omega)
  have h1 : ¬ 36 ≤ nI c := nI_ge (a := c) (b := 36) hc (by decide)
  have h2 := ts_bit (w := F) (s := ((nI c).toInt64.toUInt64 &&& Int64.toUInt64 63)) (j := c) (by omega) (wb_cu36 c hc)
  unfold ctn
  rw [if_neg h0, if_neg h1]
  by_cases h3 : lg_cmp ((F.toUInt64 >>> ((nI c).toInt64.toUInt64 &&& Int64.toUInt64 63)).toInt64 &&& 1) 0 = 0
  · rw [if_pos h3]
    exact (h2.mp ((lg_cmp_eq _ _).mp h3)).symm
  · rw [if_neg h3]
    unfold gb
    cases h4 : F.toBitVec.getLsbD c
    · exact absurd ((lg_cmp_eq _ _).mpr (h2.mpr h4)) h3
    · rfl
theorem gb_or1 (a : Int64) {c : Nat} (hc : c < 36) (j : Nat) : gb (a ||| bitC (nI c)) j = (gb a j || decide (j = c)) := by rw [gb_or, gb_bit hc]
theorem gb_rm1 (a : Int64) {c : Nat} (hc : c < 36) (j : Nat) : gb (a &&& (bitC (nI c) ^^^ (-1))) j = (gb a j && !decide (j = c)) := by
  rw [gb_and]
  rcases Nat.lt_or_ge j 64 with h | h
  · rw [gb_not _ h, gb_bit hc]
  · rw [gb_hi a h, Bool.false_and, Bool.false_and]
theorem gb_mi (a b : Int64) (j : Nat) : gb (a &&& (b ^^^ (-1))) j = (gb a j && !gb b j) := by
  rw [gb_and]
  rcases Nat.lt_or_ge j 64 with h | h
  · rw [gb_not _ h]
  · rw [gb_hi a h, Bool.false_and, Bool.false_and]
theorem gb_ext {a b : Int64} (h : ∀ j, gb a j = gb b j) : a = b := Int64.toBitVec_inj.mp (BitVec.eq_of_getLsbD_eq (fun i _ => h i))
/-- what lies beside, by numbers alone -/
def bsN1 (T w c : Nat) (d : Int32) : Int32 := if d = 0 then (if nI c - nI w < 0 then -4 else nI c - nI w) else if d = 1 then (if nI w - 1 ≤ nI c % nI w then -4 else nI (c + 1)) else if d = 2 then (if nI T ≤ nI (c + w) then -4 else nI (c + w)) else (if nI c % nI w ≤ 0 then -4 else nI c - 1)
theorem besM_eq (t : Nat → Nat) (c : Nat) (d : Int32) : besM t c d = bsN1 (t 0) (t 1) c d := rfl
theorem nx_all : ∀ ln, ln < 7 → ∀ w, w < 7 → 1 ≤ w → ∀ c, c < ln * w → ∀ d, d < 4 → nextC (nI ln) (nI w) (nI c) (nI d) = bsN1 (ln * w) w c (nI d) := by decide +kernel
theorem nx_no : ∀ ln, ln < 7 → ∀ w, w < 7 → 1 ≤ w → ∀ c, c < ln * w → nextC (nI ln) (nI w) (nI c) (-4) = -4 := by decide +kernel
theorem nI_inj {a b : Nat} (ha : a < 2 ^ 31) (hb : b < 2 ^ 31) (h : nI a = nI b) : a = b := (nI_eq ha hb).mp h
theorem nI_not4 {a : Nat} (ha : a < 2 ^ 31) : ¬ nI a = -4 := fun h => by
  have h1 := congrArg Int32.toInt h
  rw [nI_toInt ha] at h1
  have e : (-4 : Int32).toInt = -4 := by decide
  rw [e] at h1
  omega
