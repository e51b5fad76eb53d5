/-! BOTH SIDES: how many bits a long has -/
/-- f made of each byte of v, n bytes -/
def cwB (f : Nat → Nat) : Nat → Nat → Nat
  | 0, _ => 0
  | n + 1, v => f (v % 256) + 256 * cwB f n (v / 256)
def mkB (b : Nat) : Nat → Nat
  | 0 => 0
  | n + 1 => b + 256 * mkB b n
theorem and256 (v n : Nat) {a m : Nat} (ha : a < 256) (hm : m < 256) : (a + 256 * v) &&& (m + 256 * n) = (a &&& m) + 256 * (v &&& n) := by
  have h1 : ((a + 256 * v) &&& (m + 256 * n)) / 2 ^ 8 = v &&& n := by
    rw [Nat.and_div_two_pow]
    congr 1 <;> omega
  have h2 : ((a + 256 * v) &&& (m + 256 * n)) % 2 ^ 8 = a &&& m := by
    rw [Nat.and_mod_two_pow]
    congr 1 <;> omega
  omega
theorem cwB_id : ∀ (n v : Nat), v < 256 ^ n → cwB (fun a => a) n v = v := by
  intro n
  induction n with
  | zero => intro v h; simp at h; subst h; rfl
  | succ n ih =>
    intro v h
    rw [cwB, ih (v / 256) (by rw [Nat.pow_succ] at h; omega)]
    omega
theorem cwB_add (f g : Nat → Nat) : ∀ (n v : Nat), cwB f n v + cwB g n v = cwB (fun a => f a + g a) n v := by
  intro n
  induction n with
  | zero => intro v; rfl
  | succ n ih => intro v; rw [cwB, cwB, cwB, ← ih (v / 256)]; omega
theorem cwB_cong {f g : Nat → Nat} (h : ∀ a, a < 256 → f a = g a) : ∀ (n v : Nat), cwB f n v = cwB g n v := by
  intro n
  induction n with
  | zero => intro v; rfl
  | succ n ih => intro v; rw [cwB, cwB, ih, h _ (Nat.mod_lt _ (by decide))]
theorem cwB_sub {f g : Nat → Nat} (h : ∀ a, a < 256 → g a ≤ f a) : ∀ (n v : Nat), cwB f n v - cwB g n v = cwB (fun a => f a - g a) n v ∧ cwB g n v ≤ cwB f n v := by
  intro n
  induction n with
  | zero => intro v; exact ⟨rfl, Nat.le_refl _⟩
  | succ n ih =>
    intro v
    have h1 := h (v % 256) (Nat.mod_lt _ (by decide))
    obtain ⟨h2, h3⟩ := ih (v / 256)
    refine ⟨?_, ?_⟩
    · rw [cwB, cwB, cwB, ← h2]; omega
    · rw [cwB, cwB]; omega
theorem cwB_cw {f : Nat → Nat} (hf : ∀ a, a < 256 → f a < 256) (g : Nat → Nat) : ∀ (n v : Nat), cwB g n (cwB f n v) = cwB (fun a => g (f a)) n v := by
  intro n
  induction n with
  | zero => intro v; rfl
  | succ n ih =>
    intro v
    have h1 := hf (v % 256) (Nat.mod_lt _ (by decide))
    rw [cwB, cwB, cwB, ← ih (v / 256)]
    congr 1
    · congr 1; omega
    · congr 2; omega
theorem cwB_and {m : Nat} (hm : m < 256) : ∀ (n v : Nat), v < 256 ^ n → v &&& mkB m n = cwB (fun a => a &&& m) n v := by
  intro n
  induction n with
  | zero => intro v h; exact Nat.and_zero _
  | succ n ih =>
    intro v h
    have e : v = v % 256 + 256 * (v / 256) := by omega
    rw [cwB, mkB, ← ih (v / 256) (by rw [Nat.pow_succ] at h; omega), ← and256 _ _ (Nat.mod_lt v (by decide)) hm, ← e]
theorem b1_fact : ∀ a, a < 256 → ∀ b, b < 2 → (a / 2 + 128 * b) &&& 85 = (a / 2) &&& 85 := by decide +kernel
theorem b2_fact : ∀ a, a < 256 → ∀ b, b < 4 → (a / 4 + 64 * b) &&& 51 = (a / 4) &&& 51 := by decide +kernel
theorem cwB_h1 : ∀ (n v : Nat), v < 256 ^ n → (v / 2) &&& mkB 85 n = cwB (fun a => (a / 2) &&& 85) n v := by
  intro n
  induction n with
  | zero => intro v h; simp at h; subst h; rfl
  | succ n ih =>
    intro v h
    have e : v / 2 = (v % 256 / 2 + 128 * (v / 256 % 2)) + 256 * (v / 256 / 2) := by omega
    have h1 : v % 256 < 256 := Nat.mod_lt _ (by decide)
    rw [cwB, mkB, ← ih (v / 256) (by rw [Nat.pow_succ] at h; omega), e, and256 _ _ (by omega) (by decide), b1_fact _ h1 _ (Nat.mod_lt _ (by decide))]
theorem cwB_h2 : ∀ (n v : Nat), v < 256 ^ n → (v / 4) &&& mkB 51 n = cwB (fun a => (a / 4) &&& 51) n v := by
  intro n
  induction n with
  | zero => intro v h; simp at h; subst h; rfl
  | succ n ih =>
    intro v h
    have e : v / 4 = (v % 256 / 4 + 64 * (v / 256 % 4)) + 256 * (v / 256 / 4) := by omega
    have h1 : v % 256 < 256 := Nat.mod_lt _ (by decide)
    rw [cwB, mkB, ← ih (v / 256) (by rw [Nat.pow_succ] at h; omega), e, and256 _ _ (by omega) (by decide), b2_fact _ h1 _ (Nat.mod_lt _ (by decide))]
theorem cwB_lt {f : Nat → Nat} (hf : ∀ a, a < 256 → f a < 256) : ∀ (n v : Nat), cwB f n v < 256 ^ n := by
  intro n
  induction n with
  | zero => intro v; exact Nat.one_pos
  | succ n ih =>
    intro v
    have h1 := hf (v % 256) (Nat.mod_lt _ (by decide))
    have h2 := ih (v / 256)
    rw [cwB, Nat.pow_succ]
    omega
/-- two half bytes of at most four each -/
def okN (f : Nat → Nat) : Prop := ∀ a, a < 256 → f a % 16 ≤ 4 ∧ f a / 16 ≤ 4
theorem b3_fact : ∀ p, p < 5 → ∀ q, q < 5 → ∀ z, z < 5 → ((16 * p + q) + (16 * p + q) / 16 + 16 * z) &&& 15 = p + q := by decide +kernel
theorem cwB_h3 {f : Nat → Nat} (hf : okN f) : ∀ (n v : Nat), (cwB f n v + cwB f n v / 16) &&& mkB 15 n = cwB (fun a => f a / 16 + f a % 16) n v := by
  intro n
  induction n with
  | zero => intro v; exact Nat.and_zero _
  | succ n ih =>
    intro v
    obtain ⟨h1, h2⟩ := hf (v % 256) (Nat.mod_lt _ (by decide))
    have h3 : cwB f n (v / 256) % 16 ≤ 4 := by
      cases n with
      | zero => exact Nat.zero_le _
      | succ n =>
        obtain ⟨g1, g2⟩ := hf (v / 256 % 256) (Nat.mod_lt _ (by decide))
        rw [cwB]; omega
    have ef : f (v % 256) = 16 * (f (v % 256) / 16) + f (v % 256) % 16 := by omega
    rw [cwB, cwB, mkB]
    generalize hw : cwB f n (v / 256) = w at *
    generalize hp : f (v % 256) / 16 = p at *
    generalize hq : f (v % 256) % 16 = q at *
    rw [ef]
    have e : (16 * p + q + 256 * w) + (16 * p + q + 256 * w) / 16 = ((16 * p + q) + (16 * p + q) / 16 + 16 * (w % 16)) + 256 * (w + w / 16) := by omega
    rw [e, and256 _ _ (by omega) (by decide), b3_fact p (by omega) q (by omega) _ (by omega), ← hw, ih (v / 256)]
def pc8 (a : Nat) : Nat := a % 2 + a / 2 % 2 + a / 4 % 2 + a / 8 % 2 + a / 16 % 2 + a / 32 % 2 + a / 64 % 2 + a / 128 % 2
def f1 (a : Nat) : Nat := a - ((a / 2) &&& 85)
def f2 (a : Nat) : Nat := (f1 a &&& 51) + ((f1 a / 4) &&& 51)
theorem pc_facts : ∀ a, a < 256 → ((a / 2) &&& 85) ≤ a ∧ f1 a < 256 ∧ f2 a < 256 ∧ f2 a % 16 ≤ 4 ∧ f2 a / 16 ≤ 4 ∧ f2 a / 16 + f2 a % 16 = pc8 a ∧ pc8 a ≤ 8 := by decide +kernel
/-- what Long.bitCount makes of a number -/
def pn1 (v : Nat) : Nat := v - ((v / 2) &&& 6148914691236517205)
def pn2 (b : Nat) : Nat := (b &&& 3689348814741910323) + ((b / 4) &&& 3689348814741910323)
def pn3 (c : Nat) : Nat := (c + c / 16) &&& 1085102592571150095
def pn4 (d k : Nat) : Nat := d + d / k
def popN (v : Nat) : Nat := pn4 (pn4 (pn4 (pn3 (pn2 (pn1 v))) 256) 65536) 4294967296 % 128
theorem sum_fact (p0 p1 p2 p3 p4 p5 p6 p7 w1 w2 w3 w4 w5 w6 w7 S : Nat) (h0 : p0 ≤ 8) (h1 : p1 ≤ 8) (h2 : p2 ≤ 8) (h3 : p3 ≤ 8) (h4 : p4 ≤ 8) (h5 : p5 ≤ 8) (h6 : p6 ≤ 8) (h7 : p7 ≤ 8) (e0 : S = p0 + 256 * w1) (e1 : w1 = p1 + 256 * w2) (e2 : w2 = p2 + 256 * w3) (e3 : w3 = p3 + 256 * w4) (e4 : w4 = p4 + 256 * w5) (e5 : w5 = p5 + 256 * w6) (e6 : w6 = p6 + 256 * w7) (e7 : w7 = p7) : pn4 (pn4 (pn4 S 256) 65536) 4294967296 % 128 = p0 + (p1 + (p2 + (p3 + (p4 + (p5 + (p6 + p7)))))) := by
  have a1 : S / 256 = w1 := by rw [e0, Nat.add_mul_div_left _ _ (by decide), Nat.div_eq_of_lt (by omega), Nat.zero_add]
  have b2 : S + w1 = (p0 + p1 + 256 * (p1 + p2)) + 65536 * (w2 + w3) := by clear h0 h1 h2 h3 h4 h5 h6 h7 a1 e3 e4 e5 e6 e7; omega
  have l2 : p0 + p1 + 256 * (p1 + p2) < 65536 := by clear e0 e1 e2 e3 e4 e5 e6 e7 a1 b2 h3 h4 h5 h6 h7; omega
  have a2 : (S + w1) / 65536 = w2 + w3 := by rw [b2, Nat.add_mul_div_left _ _ (by decide), Nat.div_eq_of_lt l2, Nat.zero_add]
  have b3 : S + w1 + (w2 + w3) = ((p0 + p1 + p2 + p3) + 256 * (p1 + p2 + p3 + p4) + 65536 * (p2 + p3 + p4 + p5) + 16777216 * (p3 + p4 + p5 + p6)) + 4294967296 * (w4 + w5 + w6 + w7) := by
    clear h0 h1 h2 h3 h4 h5 h6 h7 a1 a2 b2 l2
    subst e0 e1 e2 e3 e4 e5 e6
    omega
  have l3 : (p0 + p1 + p2 + p3) + 256 * (p1 + p2 + p3 + p4) + 65536 * (p2 + p3 + p4 + p5) + 16777216 * (p3 + p4 + p5 + p6) < 4294967296 := by clear e0 e1 e2 e3 e4 e5 e6 e7 a1 a2 b2 b3 l2; omega
  have a3 : (S + w1 + (w2 + w3)) / 4294967296 = w4 + w5 + w6 + w7 := by rw [b3, Nat.add_mul_div_left _ _ (by decide), Nat.div_eq_of_lt l3, Nat.zero_add]
  have b4 : S + w1 + (w2 + w3) + (w4 + w5 + w6 + w7) = (p0 + (p1 + (p2 + (p3 + (p4 + (p5 + (p6 + p7))))))) + 128 * (2 * (w1 + w2 + w3 + w4 + w5 + w6 + w7)) := by
    clear h0 h1 h2 h3 h4 h5 h6 h7 a1 a2 a3 b2 b3 l2 l3
    subst e0 e1 e2 e3 e4 e5 e6
    omega
  have l4 : p0 + (p1 + (p2 + (p3 + (p4 + (p5 + (p6 + p7)))))) < 128 := by clear e0 e1 e2 e3 e4 e5 e6 e7 a1 a2 a3 b2 b3 b4 l2 l3; omega
  unfold pn4
  rw [a1, a2, a3, b4, Nat.add_mul_mod_self_left, Nat.mod_eq_of_lt l4]
theorem pn1_eq {v : Nat} (h8 : v < 256 ^ 8) : pn1 v = cwB f1 8 v := by
  have m1 : (6148914691236517205 : Nat) = mkB 85 8 := by decide
  have hs := (cwB_sub (f := fun a => a) (g := fun a => (a / 2) &&& 85) (fun a ha => (pc_facts a ha).1) 8 v).1
  rw [cwB_id 8 v h8] at hs
  unfold pn1
  rw [m1, cwB_h1 8 v h8, hs]
  exact cwB_cong (fun _ _ => rfl) 8 v
theorem pn2_eq {v : Nat} : pn2 (cwB f1 8 v) = cwB f2 8 v := by
  have m2 : (3689348814741910323 : Nat) = mkB 51 8 := by decide
  have l1 : cwB f1 8 v < 256 ^ 8 := cwB_lt (fun a ha => (pc_facts a ha).2.1) 8 v
  unfold pn2
  rw [m2, cwB_and (by decide) 8 _ l1, cwB_h2 8 _ l1, cwB_cw (fun a ha => (pc_facts a ha).2.1), cwB_cw (fun a ha => (pc_facts a ha).2.1), cwB_add]
  exact cwB_cong (fun _ _ => rfl) 8 v
theorem pn3_eq {v : Nat} : pn3 (cwB f2 8 v) = cwB pc8 8 v := by
  have m3 : (1085102592571150095 : Nat) = mkB 15 8 := by decide
  unfold pn3
  rw [m3, cwB_h3 (fun a ha => ⟨(pc_facts a ha).2.2.2.1, (pc_facts a ha).2.2.2.2.1⟩) 8 v]
  exact cwB_cong (fun a ha => (pc_facts a ha).2.2.2.2.2.1) 8 v
theorem popN_eq {v : Nat} (h : v < 2 ^ 64) : popN v = pc8 (v % 256) + (pc8 (v / 256 % 256) + (pc8 (v / 256 / 256 % 256) + (pc8 (v / 256 / 256 / 256 % 256) + (pc8 (v / 256 / 256 / 256 / 256 % 256) + (pc8 (v / 256 / 256 / 256 / 256 / 256 % 256) + (pc8 (v / 256 / 256 / 256 / 256 / 256 / 256 % 256) + pc8 (v / 256 / 256 / 256 / 256 / 256 / 256 / 256 % 256))))))) := by
  have h8 : v < 256 ^ 8 := Nat.lt_of_lt_of_le h (by decide)
  have b : ∀ a, pc8 (a % 256) ≤ 8 := fun a => (pc_facts _ (Nat.mod_lt _ (by decide))).2.2.2.2.2.2
  unfold popN
  rw [pn1_eq h8, pn2_eq, pn3_eq]
  exact sum_fact _ _ _ _ _ _ _ _ (cwB pc8 7 (v / 256)) (cwB pc8 6 (v / 256 / 256)) (cwB pc8 5 (v / 256 / 256 / 256)) (cwB pc8 4 (v / 256 / 256 / 256 / 256)) (cwB pc8 3 (v / 256 / 256 / 256 / 256 / 256)) (cwB pc8 2 (v / 256 / 256 / 256 / 256 / 256 / 256)) (cwB pc8 1 (v / 256 / 256 / 256 / 256 / 256 / 256 / 256)) _ (b _) (b _) (b _) (b _) (b _) (b _) (b _) (b _) (by rw [cwB]) (by rw [cwB]) (by rw [cwB]) (by rw [cwB]) (by rw [cwB]) (by rw [cwB]) (by rw [cwB]) (by rw [cwB, cwB]; rfl)
theorem tb_lo (v j : Nat) : v.testBit j = decide (v / 2 ^ j % 2 = 1) := Nat.testBit_eq_decide_div_mod_eq
theorem pc8_ct (v : Nat) : fb_ct (fun j => v.testBit j) 8 = pc8 (v % 256) := by
  have e : ∀ a, (if a % 2 = 1 then 1 else 0) = a % 2 := fun a => by split <;> omega
  simp only [fb_ct, tb_lo, decide_eq_true_eq, e, pc8]
  omega
theorem ct_step (v n : Nat) : fb_ct (fun j => v.testBit j) (8 + n) = pc8 (v % 256) + fb_ct (fun j => (v / 256).testBit j) n := by
  rw [fb_ct_split, pc8_ct]
  congr 2
  funext j
  rw [tb_lo, tb_lo, Nat.pow_add, ← Nat.div_div_eq_div_mul]
theorem pop_ct {v : Nat} (h : v < 2 ^ 64) : popN v = fb_ct (fun j => v.testBit j) 64 := by
  rw [popN_eq h, show 64 = 8 + (8 + (8 + (8 + (8 + (8 + (8 + 8)))))) from rfl, ct_step, ct_step, ct_step, ct_step, ct_step, ct_step, ct_step, pc8_ct]
theorem le_and (a m : Nat) : a &&& m ≤ a := Nat.and_le_left
theorem popN_lt {v : Nat} : popN v < 128 := Nat.mod_lt _ (by decide)
theorem nI_and127 (n : Nat) : nI n &&& 127 = nI (n % 128) := by
  apply Int32.toBitVec_inj.1
  show BitVec.ofNat 32 n &&& BitVec.ofNat 32 127 = BitVec.ofNat 32 (n % 128)
  apply BitVec.eq_of_toNat_eq
  rw [BitVec.toNat_and, BitVec.toNat_ofNat, BitVec.toNat_ofNat, BitVec.toNat_ofNat, show 127 % 2 ^ 32 = 2 ^ 7 - 1 from rfl, Nat.and_two_pow_sub_one_eq_mod]
  show n % 4294967296 % 128 = n % 128 % 4294967296
  omega
theorem sh_c (v : Nat) (h : v < 2 ^ 64) (k : Nat) (hk : k < 64) (K : Int32) (hK : K = nI k) : ((lN v).toUInt64 >>> (K.toInt64.toUInt64 &&& Int64.toUInt64 63)).toInt64 = lN (v / 2 ^ k) := by subst hK; exact wb_shr h hk
theorem bc1_N {v : Nat} (h : v < 2 ^ 36) : bc1 (lN v) = lN (pn1 v) ∧ pn1 v < 2 ^ 36 := by
  have hq : ((v / 2) &&& 6148914691236517205) ≤ v := Nat.le_trans Nat.and_le_left (Nat.div_le_self _ _)
  unfold bc1 pn1
  rw [sh_c v (by omega) 1 (by decide) 1 rfl, show (6148914691236517205 : Int64) = lN 6148914691236517205 from rfl, fb_andL, Nat.pow_one, lN_sub hq]
  exact ⟨rfl, by omega⟩
theorem bc2_N {b : Nat} (h : b < 2 ^ 36) : bc2 (lN b) = lN (pn2 b) ∧ pn2 b < 2 ^ 38 := by
  have hc1 : (b &&& 3689348814741910323) ≤ b := Nat.and_le_left
  have hc2 : ((b / 4) &&& 3689348814741910323) ≤ b / 4 := Nat.and_le_left
  unfold bc2 pn2
  rw [sh_c b (by omega) 2 (by decide) 2 rfl, show (3689348814741910323 : Int64) = lN 3689348814741910323 from rfl, fb_andL, fb_andL, lN_adL]
  exact ⟨rfl, by omega⟩
theorem bc3_N {c : Nat} (h : c < 2 ^ 38) : bc3 (lN c) = lN (pn3 c) ∧ pn3 c < 2 ^ 40 := by
  have hc1 : ((c + c / 16) &&& 1085102592571150095) ≤ c + c / 16 := Nat.and_le_left
  unfold bc3 pn3
  rw [sh_c c (by omega) 4 (by decide) 4 rfl, show (1085102592571150095 : Int64) = lN 1085102592571150095 from rfl, lN_adL, fb_andL]
  exact ⟨rfl, by omega⟩
theorem bcS_N {d k p : Nat} {K : Int32} (h : d < 2 ^ 50) (hk : k < 64) (hK : K = nI k) (hp : 2 ^ k = p) : bcS (lN d) K = lN (pn4 d p) ∧ pn4 d p ≤ d + d := by
  have h1 : d / 2 ^ k ≤ d := Nat.div_le_self _ _
  unfold bcS pn4
  rw [sh_c d (by omega) k hk K hK, lN_adL, hp]
  rw [hp] at h1
  exact ⟨rfl, by omega⟩
theorem bcC_N {v : Nat} (h : v < 2 ^ 36) : bcC (lN v) = nI (popN v) := by
  obtain ⟨e1, l1⟩ := bc1_N h
  obtain ⟨e2, l2⟩ := bc2_N l1
  obtain ⟨e3, l3⟩ := bc3_N l2
  obtain ⟨e4, l4⟩ := bcS_N (d := pn3 (pn2 (pn1 v))) (k := 8) (p := 256) (K := 8) (by omega) (by decide) rfl rfl
  obtain ⟨e5, l5⟩ := bcS_N (d := pn4 (pn3 (pn2 (pn1 v))) 256) (k := 16) (p := 65536) (K := 16) (by omega) (by decide) rfl rfl
  obtain ⟨e6, l6⟩ := bcS_N (d := pn4 (pn4 (pn3 (pn2 (pn1 v))) 256) 65536) (k := 32) (p := 4294967296) (K := 32) (by omega) (by decide) rfl rfl
  unfold bcC
  rw [e1, e2, e3, e4, e5, e6, lN_i, nI_and127]
  rfl
/-- the number of bits, told by the bits of the first 36 -/
theorem bcC_ct {x : Int64} (h : ∀ j, 36 ≤ j → gb x j = false) : bcC x = nI (fb_ct (fun j => gb x j) 36) := by
  obtain ⟨v, hv, rfl⟩ := wb_of x
  have hg : ∀ j, j < 64 → gb (lN v) j = v.testBit j := by
    intro j hj
    unfold gb
    rw [wb_tb, BitVec.getLsbD_ofNat]
    simp [hj]
  have hv36 : v < 2 ^ 36 := by
    apply Nat.lt_pow_two_of_testBit
    intro j hj
    rcases Nat.lt_or_ge j 64 with q | q
    · rw [← hg j q]; exact h j hj
    · exact Nat.testBit_lt_two_pow (Nat.lt_of_lt_of_le hv (Nat.pow_le_pow_right (by decide) q))
  rw [bcC_N hv36, pop_ct hv]
  congr 1
  rw [show 64 = 36 + 28 from rfl, fb_ct_split]
  have z : fb_ct (fun k => v.testBit (36 + k)) 28 = 0 := fb_ct_zero.mpr (fun k hk => by rw [← hg _ (by omega)]; exact h _ (by omega))
  rw [z, Nat.add_zero]
  exact fb_ct_cong (fun k hk => (hg k (by omega)).symm)
