/-! THE REFERENCE: ditches, best; what is told of things -/
def dB (b : Bool) : Bool := b
def eqB (x y : Int32) : Bool := if x = y then true else false
def br0 (t s : Nat → Nat) (r : Nat) (x : Int32) (m : Nat) : Bool := eqB (nI (passN t m s (11 + 4 * r))) x
def br1 (t s : Nat → Nat) (r : Nat) (x : Int32) (m p : Nat) : Bool := if mayDigM t s p = true then eqB (nI (passN t m (va_up s (23 + p) 1) (11 + 4 * r))) x else false
def br2 (t s : Nat → Nat) (r : Nat) (x : Int32) (m p q : Nat) : Bool := if mayDigM t s p = true then (if mayDigM t s q = true then eqB (nI (passN t m (va_up (va_up s (23 + p) 1) (23 + q) 1) (11 + 4 * r))) x else false) else false
def d2In (t s : Nat → Nat) (r : Nat) (x : Int32) (m : Nat) (k : Int32) (p : Nat) : Nat → Nat → Option Int32
  | 0, _ => none
  | u + 1, q => if br2 t s r x m p q = true then some (if k = -1 then 2 else if k = 0 then nI p else nI q) else d2In t s r x m k p u (q + 1)
def d2Out (t s : Nat → Nat) (r : Nat) (x : Int32) (m : Nat) (k : Int32) : Nat → Nat → Int32
  | 0, _ => -4
  | u + 1, p => match d2In t s r x m k p u (p + 1) with
    | some v => v
    | none => d2Out t s r x m k u (p + 1)
def d1M (t s : Nat → Nat) (r : Nat) (x : Int32) (m : Nat) (k : Int32) : Nat → Nat → Int32
  | 0, _ => d2Out t s r x m k (t 0) 0
  | u + 1, p => if br1 t s r x m p = true then (if k = -1 then 1 else if k = 0 then nI p else -4) else d1M t s r x m k u (p + 1)
def d0M (t s : Nat → Nat) (r : Nat) (x : Int32) (m : Nat) (k : Int32) : Int32 := if br0 t s r x m = true then (if k = -1 then 0 else -4) else d1M t s r x m k (t 0) 0
def ditQ (t s a : Nat → Nat) (r x y k : Int32) : Int32 × (Nat → Nat) := if rowQ t r = false then (-1, a) else if cellQ t x = false then (-1, a) else if withinC y 1 20 = false then (-1, a) else if withinC k (-1) 1 = false then (-1, a) else (d0M t s r.toNatClampNeg x y.toNatClampNeg k, cpN a s 59)
def bsN (t s : Nat → Nat) (m p : Nat) : Nat → Nat → Int32 → Int32 → (Nat → Nat) → Int32 × Int32 × (Nat → Nat)
  | 0, _, mo, fo, a => (mo, fo, a)
  | u + 1, c, mo, fo, a => if mayDigM t s c = true then bsN t s m p u (c + 1) (if nI (passN t m (va_up s (23 + c) 1) (1 + p)) ≤ mo then mo else nI (passN t m (va_up s (23 + c) 1) (1 + p))) (if nI (passN t m (va_up s (23 + c) 1) (1 + p)) ≤ mo then fo else nI c) (cpN a (va_up s (23 + c) 1) 59) else bsN t s m p u (c + 1) mo fo a
def besQ (t s a : Nat → Nat) (p y w : Int32) : Int32 × (Nat → Nat) := if withinC p 0 3 = false then (-1, a) else if withinC y 1 20 = false then (-1, a) else if withinC w 0 1 = false then (-1, a) else ((if w = 0 then (bsN t s y.toNatClampNeg p.toNatClampNeg (t 0) 0 (-4) (-4) a).2.1 else (bsN t s y.toNatClampNeg p.toNatClampNeg (t 0) 0 (-4) (-4) a).1), (bsN t s y.toNatClampNeg p.toNatClampNeg (t 0) 0 (-4) (-4) a).2.2)
theorem mayDig_0 {t s : Nat → Nat} {c : Nat} (h : mayDigM t s c = true) (hl : s (23 + c) ≤ 2) : s (23 + c) = 0 := by
  unfold mayDigM at h
  split at h
  · split at h
    · rename_i h2
      exact (nI_eq (b := 0) (by omega) (by decide)).mp h2
    · cases h
  · cases h
def haveM (s : Nat → Nat) : Int32 := nI (s 1 + s 2 + s 3 + s 4)
def cellR' (t s : Nat → Nat) (x w : Int32) : Int32 := if cellQ t x = false then -1 else if w = 0 then nI (t (3 + x.toNatClampNeg)) else if w = 1 then nI (t (39 + x.toNatClampNeg)) else if w = 2 then (if nI (s (23 + x.toNatClampNeg)) = 1 then 1 else 0) else if w = 3 then (if nI (s (23 + x.toNatClampNeg)) = 2 then 9 else treeM t s x.toNatClampNeg) else -1
def rowR' (t s : Nat → Nat) (r w : Int32) : Int32 := if rowQ t r = false then -1 else if withinC w 0 4 = false then -1 else if w = 0 then nI (t (75 + r.toNatClampNeg)) else if w = 1 then nI (s (5 + r.toNatClampNeg)) else if w = 2 then nI (t (78 + r.toNatClampNeg)) else if w = 3 then nI (s (8 + r.toNatClampNeg)) else if headM t s r.toNatClampNeg = -4 then -4 else besM t (s (11 + 4 * r.toNatClampNeg)) (headM t s r.toNatClampNeg)
def treeR' (t s : Nat → Nat) (r k : Int32) : Int32 := if rowQ t r = false then -1 else if withinC k 0 3 = false then -1 else if nI (s (8 + r.toNatClampNeg)) ≤ k then -4 else nI (s (11 + 4 * r.toNatClampNeg + k.toNatClampNeg))
def hasR' (s : Nat → Nat) (p : Int32) : Int32 := if withinC p 0 3 = false then -1 else nI (s (1 + p.toNatClampNeg))
def countR' (D : MS) (t s : Nat → Nat) (w : Int32) : Int32 := if w = 0 then nI (t 0) else if w = 1 then nI (t 1) else if w = 2 then nI (t 2) else if w = 3 then nI (s 0) else if w = 4 then nI (s 8 + s 9 + s 10) else if w = 5 then countM t s 2 else if w = 6 then countM t s 1 else if w = 7 then haveM s else if w = 8 then nI D.1.2.2.2.1 else if w = 9 then nI D.1.2.1 else if w = 10 then nI D.1.2.2.1 else if w = 11 then nI D.1.1 else -1
def seeQ (D : MS) (t : Nat → Nat) (r x y : Int32) : Int32 × MS := if rowQ t r = false then (-1, D) else if cellQ t x = false then (-1, D) else if withinC y 0 20 = false then (-1, D) else if D.1.2.2.2.1 = 6 then (-3, D) else (nI (D.1.2.2.2.1 + 1), uS D (D.1.1, D.1.2.1, D.1.2.2.1, D.1.2.2.2.1 + 1, D.1.2.2.2.2) (D.2 5) (D.2 6) (va_up (va_up (va_up (D.2 7) (3 * D.1.2.2.2.1) r.toNatClampNeg) (3 * D.1.2.2.2.1 + 1) x.toNatClampNeg) (3 * D.1.2.2.2.1 + 2) y.toNatClampNeg))
def forgetQ (D : MS) : Int32 × MS := (nI D.1.2.2.2.1, uS D (D.1.1, D.1.2.1, D.1.2.2.1, 0, D.1.2.2.2.2) (D.2 5) (D.2 6) (D.2 7))
section R10
variable {l : Launch} {G : GG} {n : Nat} {R : Nat} {D : MS} {t s a : Nat → Nat} {ρ : Mu}
theorem q_brings0 (hs : OkS t s) (ha : ∀ j, j < 59 → a j = s j) {r : Nat} (hr : r < t 2) (x : Int32) {m : Nat} (hm : m < 2 ^ 31) : Ctr l G 4 99 0 0 mX6_brings [.ref R, .int (nI r), .int x, .int (nI m), .int (-1), .int (-1)] n (rem R (qS D t s a) ρ) (some (.int (zB (br0 t s r x m)))) n (rem R (qS D t s a) ρ) := by
  have o1 := hs.1
  have o2 := hs.2.1
  refine Ctr.of (by decide +kernel) rfl (fun X g E => ?_)
  have loop : ∀ (hz : br0 t s r x m = eqB (nI (passN t m s (11 + 4 * r))) x) (u k : Nat) (s1 : Nat → Nat), k + u = m → OkS t s1 → (∀ j, 59 ≤ j → s1 j = s j) → passN t m s = passN t u s1 → V X 0 0 n (rem R (qS D t s1 a) ρ) 99 [(6, .int (nI k)), (0, .ref R), (1, .int (nI r)), (2, .int x), (3, .int (nI m)), (4, .int (-1)), (5, .int (-1))] [] := by
    intro hz u
    induction u with
    | zero =>
      intro k s1 hq hs hi he
      refine v_iload g dX6_brings_99 0 rfl ?_
      refine v_iload_n g dX6_brings_101 4 rfl ?_
      refine v_icmp_ge (tgt := 116) g dX6_brings_102 (by decide) (fun h102 => ?_) (fun h102 => absurd (nI_le (a := m) (b := k) (by omega) (by omega)) h102)
      refine v_aload_n g dX6_brings_116 1 rfl ?_
      refine v_get g dX6_brings_117 fl_RX6_22 (rd_M R _ _) rfl ?_
      refine v_bipush (v := 11) g dX6_brings_120 (by decide) ?_
      refine v_iconst (v := 4) g dX6_brings_122 (by decide) ?_
      refine v_iload_n g dX6_brings_123 2 rfl ?_
      refine v_imul g dX6_brings_124 (v_eqi (y := nI (4 * r)) (nI_mulE rfl rfl) ?_)
      refine v_iadd g dX6_brings_125 (v_eqi (y := nI (11 + (4 * r))) (nI_addE rfl rfl) ?_)
      refine v_iald g dX6_brings_126 (rd_MA4 R _ _) (vp_in_nI (by omega) (by decide)) (v_eqi (y := (nI (s1 (11 + (4 * r))))) (by first | (rw [nI_clamp (by omega)]; done) | (rw [nI_clamp (by omega)]; rfl)) ?_)
      refine v_iload_n g dX6_brings_127 3 rfl ?_
      refine v_icmp_ne (tgt := 135) g dX6_brings_128 (by decide) (fun h128 => ?_) (fun h128 => ?_)
      · skip
        refine v_iconst (v := 0) g dX6_brings_135 (by decide) ?_
        refine v_istore (ls' := [(6, .int 0), (0, .ref R), (1, .int (nI r)), (2, .int x), (3, .int (nI m)), (4, .int (-1)), (5, .int (-1))]) g dX6_brings_136 rfl rfl ?_
        refine v_aload_n g dX6_brings_138 1 rfl ?_
        refine v_callV (As := []) (r := none) g dX6_brings_139 (q_lets (D := D) (t := t) (s := s1) (a := a)) cl_X6_lets ml_RX6_153 im_X6_lets (rd_M R _ _) rfl rfl ⟨rfl, rfl, rfl⟩ ?_
        refine v_meq (μ' := rem R (qS D t s a) ρ) (by rw [cpN_bk2 ha (fun j hj => hi j (by omega))]) ?_
        refine v_iload g dX6_brings_142 0 rfl ?_
        exact v_zret g E dX6_brings_144 rfl rfl ⟨by rw [hz, he]; simp [eqB, zB, passN, *], rfl, rfl⟩
      · skip
        refine v_iconst (v := 1) g dX6_brings_131 (by decide) ?_
        refine v_goto (tgt := 136) g dX6_brings_132 (by decide) ?_
        refine v_istore (ls' := [(6, .int 1), (0, .ref R), (1, .int (nI r)), (2, .int x), (3, .int (nI m)), (4, .int (-1)), (5, .int (-1))]) g dX6_brings_136 rfl rfl ?_
        refine v_aload_n g dX6_brings_138 1 rfl ?_
        refine v_callV (As := []) (r := none) g dX6_brings_139 (q_lets (D := D) (t := t) (s := s1) (a := a)) cl_X6_lets ml_RX6_153 im_X6_lets (rd_M R _ _) rfl rfl ⟨rfl, rfl, rfl⟩ ?_
        refine v_meq (μ' := rem R (qS D t s a) ρ) (by rw [cpN_bk2 ha (fun j hj => hi j (by omega))]) ?_
        refine v_iload g dX6_brings_142 0 rfl ?_
        exact v_zret g E dX6_brings_144 rfl rfl ⟨by rw [hz, he]; simp [eqB, zB, passN, *], rfl, rfl⟩
    | succ u ih =>
      intro k s1 hq hs hi he
      refine v_iload g dX6_brings_99 0 rfl ?_
      refine v_iload_n g dX6_brings_101 4 rfl ?_
      refine v_icmp_ge (tgt := 116) g dX6_brings_102 (by decide) (fun h102 => absurd h102 (nI_ge (a := k) (b := m) (by omega) (by omega))) (fun h102 => ?_)
      refine v_aload_n g dX6_brings_105 1 rfl ?_
      refine v_iconst (v := (-1)) g dX6_brings_106 (by decide) ?_
      refine v_callV (As := [.int (-1)]) (r := none) g dX6_brings_107 (q_passes (D := D) (t := t) (s := s1) (a := a) hs (-1)) cl_X6_passes ml_RX6_138 im_X6_passes (rd_M R _ _) rfl rfl ⟨rfl, rfl, rfl⟩ ?_
      refine v_iinc (v := (nI (k + 1))) (ls' := [(6, .int (nI (k + 1))), (0, .ref R), (1, .int (nI r)), (2, .int x), (3, .int (nI m)), (4, .int (-1)), (5, .int (-1))]) g dX6_brings_110 0 rfl (nI_addE rfl rfl) rfl rfl ?_
      refine v_goto (tgt := 99) g dX6_brings_113 (by decide) ?_
      refine v_sub (ls' := [(6, .int (nI (k + 1))), (0, .ref R), (1, .int (nI r)), (2, .int x), (3, .int (nI m)), (4, .int (-1)), (5, .int (-1))]) [0, 1, 2, 3, 4, 5, 6] rfl ?_
      exact ih (k + 1) _ (by omega) (passM_ok hs (-1)) (fun j hj => (passM_hi hs (-1) j (by omega)).trans (hi j hj)) (by rw [he, passN])
  refine v_sub (ls' := [(0, .ref R), (1, .int (nI r)), (2, .int x), (3, .int (nI m)), (4, .int (-1)), (5, .int (-1))]) [0, 1, 2, 3, 4, 5] rfl ?_
  refine v_iload g dX6_brings_0 4 rfl ?_
  refine v_if_lt (tgt := 14) g dX6_brings_2 (by decide) (fun _ => ?_) (fun h => absurd (by decide) h)
  refine v_iload g dX6_brings_14 5 rfl ?_
  refine v_if_lt (tgt := 30) g dX6_brings_16 (by decide) (fun _ => ?_) (fun h => absurd (by decide) h)
  refine v_aload_n g dX6_brings_30 0 rfl ?_
  refine v_get g dX6_brings_31 fl_RX6_22 (rd_M R _ _) rfl ?_
  refine v_bipush (v := 23) g dX6_brings_34 (by decide) ?_
  refine v_iload g dX6_brings_36 4 rfl ?_
  refine v_if_ge (tgt := 45) g dX6_brings_38 (by decide) (fun h => absurd h (by decide)) (fun _ => ?_)
  refine v_iconst (v := 0) g dX6_brings_41 (by decide) ?_
  refine v_goto (tgt := 47) g dX6_brings_42 (by decide) ?_
  refine v_iadd g dX6_brings_47 (v_eqi (y := 23) (by first | decide | rfl) ?_)
  refine v_iload g dX6_brings_48 4 rfl ?_
  refine v_if_ge (tgt := 61) g dX6_brings_50 (by decide) (fun h => absurd h (by decide)) (fun _ => ?_)
  refine v_aload_n g dX6_brings_53 0 rfl ?_
  refine v_iconst (v := 0) g dX6_brings_54 (by decide) ?_
  refine v_callV (As := [.int 0]) (r := some (.int (nI (s (23 + 0))))) g dX6_brings_55 (k_X6_lies (D := (qS D t s a)) (c := 0) (show 0 < 36 by omega)) cl_X6_lies ml_RX6_113 im_X6_lies (rd_M R _ _) rfl rfl ⟨rfl, rfl, rfl⟩ ?_
  refine v_goto (tgt := 62) g dX6_brings_58 (by decide) ?_
  refine v_iast g dX6_brings_62 (rd_MA4 R _ _) (by unfold vp_in; decide) ?_
  refine v_meq (μ' := rem R (qS D t (va_up s 23 (s (23 + 0))) a) ρ) (st_GA R (qS D t s a) (qS D t (va_up s 23 (s (23 + 0))) a) ρ 4 (by decide) s 23 (s (23 + 0)) rfl rfl rfl (fun j hj => by simp only [qS, uS, tA, va_up, if_neg hj])) ?_
  refine v_meq (μ' := rem R (qS D t s a) ρ) (by rw [va_up_id]) ?_
  refine v_aload_n g dX6_brings_63 0 rfl ?_
  refine v_get g dX6_brings_64 fl_RX6_22 (rd_M R _ _) rfl ?_
  refine v_bipush (v := 23) g dX6_brings_67 (by decide) ?_
  refine v_iload g dX6_brings_69 5 rfl ?_
  refine v_if_ge (tgt := 78) g dX6_brings_71 (by decide) (fun h => absurd h (by decide)) (fun _ => ?_)
  refine v_iconst (v := 0) g dX6_brings_74 (by decide) ?_
  refine v_goto (tgt := 80) g dX6_brings_75 (by decide) ?_
  refine v_iadd g dX6_brings_80 (v_eqi (y := 23) (by first | decide | rfl) ?_)
  refine v_iload g dX6_brings_81 5 rfl ?_
  refine v_if_ge (tgt := 94) g dX6_brings_83 (by decide) (fun h => absurd h (by decide)) (fun _ => ?_)
  refine v_aload_n g dX6_brings_86 0 rfl ?_
  refine v_iconst (v := 0) g dX6_brings_87 (by decide) ?_
  refine v_callV (As := [.int 0]) (r := some (.int (nI (s (23 + 0))))) g dX6_brings_88 (k_X6_lies (D := (qS D t s a)) (c := 0) (show 0 < 36 by omega)) cl_X6_lies ml_RX6_113 im_X6_lies (rd_M R _ _) rfl rfl ⟨rfl, rfl, rfl⟩ ?_
  refine v_goto (tgt := 95) g dX6_brings_91 (by decide) ?_
  refine v_iast g dX6_brings_95 (rd_MA4 R _ _) (by unfold vp_in; decide) ?_
  refine v_meq (μ' := rem R (qS D t (va_up s 23 (s (23 + 0))) a) ρ) (st_GA R (qS D t s a) (qS D t (va_up s 23 (s (23 + 0))) a) ρ 4 (by decide) s 23 (s (23 + 0)) rfl rfl rfl (fun j hj => by simp only [qS, uS, tA, va_up, if_neg hj])) ?_
  refine v_meq (μ' := rem R (qS D t s a) ρ) (by rw [va_up_id]) ?_
  refine v_iconst (v := 0) g dX6_brings_96 (by decide) ?_
  refine v_istore (ls' := [(6, .int 0), (0, .ref R), (1, .int (nI r)), (2, .int x), (3, .int (nI m)), (4, .int (-1)), (5, .int (-1))]) g dX6_brings_97 rfl rfl ?_
  refine v_sub (ls' := [(6, .int 0), (0, .ref R), (1, .int (nI r)), (2, .int x), (3, .int (nI m)), (4, .int (-1)), (5, .int (-1))]) [0, 1, 2, 3, 4, 5, 6] rfl ?_
  exact loop rfl m 0 _ (by omega) hs (fun j hj => rfl) rfl
theorem q_brings1 (hs : OkS t s) (ha : ∀ j, j < 59 → a j = s j) {r : Nat} (hr : r < t 2) (x : Int32) {m : Nat} (hm : m < 2 ^ 31) {p : Nat} (hp : p < t 0) : Ctr l G 4 99 0 0 mX6_brings [.ref R, .int (nI r), .int x, .int (nI m), .int (nI p), .int (-1)] n (rem R (qS D t s a) ρ) (some (.int (zB (br1 t s r x m p)))) n (rem R (qS D t s a) ρ) := by
  have o1 := hs.1
  have o2 := hs.2.1
  refine Ctr.of (by decide +kernel) rfl (fun X g E => ?_)
  have loop : ∀ (hz : br1 t s r x m p = eqB (nI (passN t m (va_up s (23 + p) 1) (11 + 4 * r))) x) (u k : Nat) (s1 : Nat → Nat), k + u = m → OkS t s1 → (∀ j, 59 ≤ j → s1 j = s j) → passN t m (va_up s (23 + p) 1) = passN t u s1 → V X 0 0 n (rem R (qS D t s1 a) ρ) 99 [(6, .int (nI k)), (0, .ref R), (1, .int (nI r)), (2, .int x), (3, .int (nI m)), (4, .int (nI p)), (5, .int (-1))] [] := by
    intro hz u
    induction u with
    | zero =>
      intro k s1 hq hs hi he
      refine v_iload g dX6_brings_99 0 rfl ?_
      refine v_iload_n g dX6_brings_101 4 rfl ?_
      refine v_icmp_ge (tgt := 116) g dX6_brings_102 (by decide) (fun h102 => ?_) (fun h102 => absurd (nI_le (a := m) (b := k) (by omega) (by omega)) h102)
      refine v_aload_n g dX6_brings_116 1 rfl ?_
      refine v_get g dX6_brings_117 fl_RX6_22 (rd_M R _ _) rfl ?_
      refine v_bipush (v := 11) g dX6_brings_120 (by decide) ?_
      refine v_iconst (v := 4) g dX6_brings_122 (by decide) ?_
      refine v_iload_n g dX6_brings_123 2 rfl ?_
      refine v_imul g dX6_brings_124 (v_eqi (y := nI (4 * r)) (nI_mulE rfl rfl) ?_)
      refine v_iadd g dX6_brings_125 (v_eqi (y := nI (11 + (4 * r))) (nI_addE rfl rfl) ?_)
      refine v_iald g dX6_brings_126 (rd_MA4 R _ _) (vp_in_nI (by omega) (by decide)) (v_eqi (y := (nI (s1 (11 + (4 * r))))) (by first | (rw [nI_clamp (by omega)]; done) | (rw [nI_clamp (by omega)]; rfl)) ?_)
      refine v_iload_n g dX6_brings_127 3 rfl ?_
      refine v_icmp_ne (tgt := 135) g dX6_brings_128 (by decide) (fun h128 => ?_) (fun h128 => ?_)
      · skip
        refine v_iconst (v := 0) g dX6_brings_135 (by decide) ?_
        refine v_istore (ls' := [(6, .int 0), (0, .ref R), (1, .int (nI r)), (2, .int x), (3, .int (nI m)), (4, .int (nI p)), (5, .int (-1))]) g dX6_brings_136 rfl rfl ?_
        refine v_aload_n g dX6_brings_138 1 rfl ?_
        refine v_callV (As := []) (r := none) g dX6_brings_139 (q_lets (D := D) (t := t) (s := s1) (a := a)) cl_X6_lets ml_RX6_153 im_X6_lets (rd_M R _ _) rfl rfl ⟨rfl, rfl, rfl⟩ ?_
        refine v_meq (μ' := rem R (qS D t s a) ρ) (by rw [cpN_bk2 ha (fun j hj => hi j (by omega))]) ?_
        refine v_iload g dX6_brings_142 0 rfl ?_
        exact v_zret g E dX6_brings_144 rfl rfl ⟨by rw [hz, he]; simp [eqB, zB, passN, *], rfl, rfl⟩
      · skip
        refine v_iconst (v := 1) g dX6_brings_131 (by decide) ?_
        refine v_goto (tgt := 136) g dX6_brings_132 (by decide) ?_
        refine v_istore (ls' := [(6, .int 1), (0, .ref R), (1, .int (nI r)), (2, .int x), (3, .int (nI m)), (4, .int (nI p)), (5, .int (-1))]) g dX6_brings_136 rfl rfl ?_
        refine v_aload_n g dX6_brings_138 1 rfl ?_
        refine v_callV (As := []) (r := none) g dX6_brings_139 (q_lets (D := D) (t := t) (s := s1) (a := a)) cl_X6_lets ml_RX6_153 im_X6_lets (rd_M R _ _) rfl rfl ⟨rfl, rfl, rfl⟩ ?_
        refine v_meq (μ' := rem R (qS D t s a) ρ) (by rw [cpN_bk2 ha (fun j hj => hi j (by omega))]) ?_
        refine v_iload g dX6_brings_142 0 rfl ?_
        exact v_zret g E dX6_brings_144 rfl rfl ⟨by rw [hz, he]; simp [eqB, zB, passN, *], rfl, rfl⟩
    | succ u ih =>
      intro k s1 hq hs hi he
      refine v_iload g dX6_brings_99 0 rfl ?_
      refine v_iload_n g dX6_brings_101 4 rfl ?_
      refine v_icmp_ge (tgt := 116) g dX6_brings_102 (by decide) (fun h102 => absurd h102 (nI_ge (a := k) (b := m) (by omega) (by omega))) (fun h102 => ?_)
      refine v_aload_n g dX6_brings_105 1 rfl ?_
      refine v_iconst (v := (-1)) g dX6_brings_106 (by decide) ?_
      refine v_callV (As := [.int (-1)]) (r := none) g dX6_brings_107 (q_passes (D := D) (t := t) (s := s1) (a := a) hs (-1)) cl_X6_passes ml_RX6_138 im_X6_passes (rd_M R _ _) rfl rfl ⟨rfl, rfl, rfl⟩ ?_
      refine v_iinc (v := (nI (k + 1))) (ls' := [(6, .int (nI (k + 1))), (0, .ref R), (1, .int (nI r)), (2, .int x), (3, .int (nI m)), (4, .int (nI p)), (5, .int (-1))]) g dX6_brings_110 0 rfl (nI_addE rfl rfl) rfl rfl ?_
      refine v_goto (tgt := 99) g dX6_brings_113 (by decide) ?_
      refine v_sub (ls' := [(6, .int (nI (k + 1))), (0, .ref R), (1, .int (nI r)), (2, .int x), (3, .int (nI m)), (4, .int (nI p)), (5, .int (-1))]) [0, 1, 2, 3, 4, 5, 6] rfl ?_
      exact ih (k + 1) _ (by omega) (passM_ok hs (-1)) (fun j hj => (passM_hi hs (-1) j (by omega)).trans (hi j hj)) (by rw [he, passN])
  refine v_sub (ls' := [(0, .ref R), (1, .int (nI r)), (2, .int x), (3, .int (nI m)), (4, .int (nI p)), (5, .int (-1))]) [0, 1, 2, 3, 4, 5] rfl ?_
  refine v_iload g dX6_brings_0 4 rfl ?_
  refine v_if_lt (tgt := 14) g dX6_brings_2 (by decide) (fun h2 => absurd h2 (nI_pos (by omega))) (fun h2 => ?_)
  refine v_aload_n g dX6_brings_5 0 rfl ?_
  refine v_iload g dX6_brings_6 4 rfl ?_
  refine v_callV (As := [.int (nI p)]) (r := some (.int (zB (mayDigM t s p)))) g dX6_brings_8 (k_X6_mayDig (D := (qS D t s a)) hs (c := p) (show p < 36 by omega)) cl_X6_mayDig ml_RX6_141 im_X6_mayDig (rd_M R _ _) rfl rfl ⟨rfl, rfl, rfl⟩ ?_
  refine v_if_eq (tgt := 28) g dX6_brings_11 (by decide) (fun h11 => ?_) (fun h11 => ?_)
  · skip
    have h11 := zB_f0 h11
    refine v_iconst (v := 0) g dX6_brings_28 (by decide) ?_
    exact v_zret g E dX6_brings_29 rfl rfl ⟨by simp [br1, zB, *], rfl, rfl⟩
  · skip
    have h11 := zB_t0 h11
    refine v_iload g dX6_brings_14 5 rfl ?_
    refine v_if_lt (tgt := 30) g dX6_brings_16 (by decide) (fun _ => ?_) (fun h => absurd (by decide) h)
    refine v_aload_n g dX6_brings_30 0 rfl ?_
    refine v_get g dX6_brings_31 fl_RX6_22 (rd_M R _ _) rfl ?_
    refine v_bipush (v := 23) g dX6_brings_34 (by decide) ?_
    refine v_iload g dX6_brings_36 4 rfl ?_
    refine v_if_ge (tgt := 45) g dX6_brings_38 (by decide) (fun h38 => ?_) (fun h38 => absurd (nI_pos' (by omega)) h38)
    refine v_iload g dX6_brings_45 4 rfl ?_
    refine v_iadd g dX6_brings_47 (v_eqi (y := nI (23 + p)) (nI_addE rfl rfl) ?_)
    refine v_iload g dX6_brings_48 4 rfl ?_
    refine v_if_ge (tgt := 61) g dX6_brings_50 (by decide) (fun h50 => ?_) (fun h50 => absurd (nI_pos' (by omega)) h50)
    refine v_iconst (v := 1) g dX6_brings_61 (by decide) ?_
    refine v_iast g dX6_brings_62 (rd_MA4 R _ _) (vp_in_nI (by omega) (by decide)) ?_
    rw [nI_clamp (n := (23 + p)) (by omega)]
    refine v_meq (μ' := rem R (qS D t (va_up s (23 + p) 1) a) ρ) (st_GA R (qS D t s a) (qS D t (va_up s (23 + p) 1) a) ρ 4 (by decide) s (23 + p) 1 rfl rfl rfl (fun j hj => by simp only [qS, uS, tA, va_up, if_neg hj])) ?_
    refine v_aload_n g dX6_brings_63 0 rfl ?_
    refine v_get g dX6_brings_64 fl_RX6_22 (rd_M R _ _) rfl ?_
    refine v_bipush (v := 23) g dX6_brings_67 (by decide) ?_
    refine v_iload g dX6_brings_69 5 rfl ?_
    refine v_if_ge (tgt := 78) g dX6_brings_71 (by decide) (fun h => absurd h (by decide)) (fun _ => ?_)
    refine v_iconst (v := 0) g dX6_brings_74 (by decide) ?_
    refine v_goto (tgt := 80) g dX6_brings_75 (by decide) ?_
    refine v_iadd g dX6_brings_80 (v_eqi (y := 23) (by first | decide | rfl) ?_)
    refine v_iload g dX6_brings_81 5 rfl ?_
    refine v_if_ge (tgt := 94) g dX6_brings_83 (by decide) (fun h => absurd h (by decide)) (fun _ => ?_)
    refine v_aload_n g dX6_brings_86 0 rfl ?_
    refine v_iconst (v := 0) g dX6_brings_87 (by decide) ?_
    refine v_callV (As := [.int 0]) (r := some (.int (nI ((va_up s (23 + p) 1) (23 + 0))))) g dX6_brings_88 (k_X6_lies (D := (qS D t (va_up s (23 + p) 1) a)) (c := 0) (show 0 < 36 by omega)) cl_X6_lies ml_RX6_113 im_X6_lies (rd_M R _ _) rfl rfl ⟨rfl, rfl, rfl⟩ ?_
    refine v_goto (tgt := 95) g dX6_brings_91 (by decide) ?_
    refine v_iast g dX6_brings_95 (rd_MA4 R _ _) (by unfold vp_in; decide) ?_
    refine v_meq (μ' := rem R (qS D t (va_up (va_up s (23 + p) 1) 23 ((va_up s (23 + p) 1) (23 + 0))) a) ρ) (st_GA R (qS D t (va_up s (23 + p) 1) a) (qS D t (va_up (va_up s (23 + p) 1) 23 ((va_up s (23 + p) 1) (23 + 0))) a) ρ 4 (by decide) (va_up s (23 + p) 1) 23 ((va_up s (23 + p) 1) (23 + 0)) rfl rfl rfl (fun j hj => by simp only [qS, uS, tA, va_up, if_neg hj])) ?_
    refine v_meq (μ' := rem R (qS D t (va_up s (23 + p) 1) a) ρ) (by rw [va_up_id]) ?_
    refine v_iconst (v := 0) g dX6_brings_96 (by decide) ?_
    refine v_istore (ls' := [(6, .int 0), (0, .ref R), (1, .int (nI r)), (2, .int x), (3, .int (nI m)), (4, .int (nI p)), (5, .int (-1))]) g dX6_brings_97 rfl rfl ?_
    refine v_sub (ls' := [(6, .int 0), (0, .ref R), (1, .int (nI r)), (2, .int x), (3, .int (nI m)), (4, .int (nI p)), (5, .int (-1))]) [0, 1, 2, 3, 4, 5, 6] rfl ?_
    exact loop (by unfold br1; rw [if_pos h11]) m 0 _ (by omega) (okS_of hs (fun j h1 h2 => va_up_ne _ _ (by omega))) (fun j hj => va_up_ne _ _ (by omega)) rfl
theorem q_brings2 (hs : OkS t s) (ha : ∀ j, j < 59 → a j = s j) {r : Nat} (hr : r < t 2) (x : Int32) {m : Nat} (hm : m < 2 ^ 31) {p : Nat} (hp : p < t 0) {q : Nat} (hq0 : q < t 0) : Ctr l G 4 99 0 0 mX6_brings [.ref R, .int (nI r), .int x, .int (nI m), .int (nI p), .int (nI q)] n (rem R (qS D t s a) ρ) (some (.int (zB (br2 t s r x m p q)))) n (rem R (qS D t s a) ρ) := by
  have o1 := hs.1
  have o2 := hs.2.1
  refine Ctr.of (by decide +kernel) rfl (fun X g E => ?_)
  have loop : ∀ (hz : br2 t s r x m p q = eqB (nI (passN t m (va_up (va_up s (23 + p) 1) (23 + q) 1) (11 + 4 * r))) x) (u k : Nat) (s1 : Nat → Nat), k + u = m → OkS t s1 → (∀ j, 59 ≤ j → s1 j = s j) → passN t m (va_up (va_up s (23 + p) 1) (23 + q) 1) = passN t u s1 → V X 0 0 n (rem R (qS D t s1 a) ρ) 99 [(6, .int (nI k)), (0, .ref R), (1, .int (nI r)), (2, .int x), (3, .int (nI m)), (4, .int (nI p)), (5, .int (nI q))] [] := by
    intro hz u
    induction u with
    | zero =>
      intro k s1 hq hs hi he
      refine v_iload g dX6_brings_99 0 rfl ?_
      refine v_iload_n g dX6_brings_101 4 rfl ?_
      refine v_icmp_ge (tgt := 116) g dX6_brings_102 (by decide) (fun h102 => ?_) (fun h102 => absurd (nI_le (a := m) (b := k) (by omega) (by omega)) h102)
      refine v_aload_n g dX6_brings_116 1 rfl ?_
      refine v_get g dX6_brings_117 fl_RX6_22 (rd_M R _ _) rfl ?_
      refine v_bipush (v := 11) g dX6_brings_120 (by decide) ?_
      refine v_iconst (v := 4) g dX6_brings_122 (by decide) ?_
      refine v_iload_n g dX6_brings_123 2 rfl ?_
      refine v_imul g dX6_brings_124 (v_eqi (y := nI (4 * r)) (nI_mulE rfl rfl) ?_)
      refine v_iadd g dX6_brings_125 (v_eqi (y := nI (11 + (4 * r))) (nI_addE rfl rfl) ?_)
      refine v_iald g dX6_brings_126 (rd_MA4 R _ _) (vp_in_nI (by omega) (by decide)) (v_eqi (y := (nI (s1 (11 + (4 * r))))) (by first | (rw [nI_clamp (by omega)]; done) | (rw [nI_clamp (by omega)]; rfl)) ?_)
      refine v_iload_n g dX6_brings_127 3 rfl ?_
      refine v_icmp_ne (tgt := 135) g dX6_brings_128 (by decide) (fun h128 => ?_) (fun h128 => ?_)
      · skip
        refine v_iconst (v := 0) g dX6_brings_135 (by decide) ?_
        refine v_istore (ls' := [(6, .int 0), (0, .ref R), (1, .int (nI r)), (2, .int x), (3, .int (nI m)), (4, .int (nI p)), (5, .int (nI q))]) g dX6_brings_136 rfl rfl ?_
        refine v_aload_n g dX6_brings_138 1 rfl ?_
        refine v_callV (As := []) (r := none) g dX6_brings_139 (q_lets (D := D) (t := t) (s := s1) (a := a)) cl_X6_lets ml_RX6_153 im_X6_lets (rd_M R _ _) rfl rfl ⟨rfl, rfl, rfl⟩ ?_
        refine v_meq (μ' := rem R (qS D t s a) ρ) (by rw [cpN_bk2 ha (fun j hj => hi j (by omega))]) ?_
        refine v_iload g dX6_brings_142 0 rfl ?_
        exact v_zret g E dX6_brings_144 rfl rfl ⟨by rw [hz, he]; simp [eqB, zB, passN, *], rfl, rfl⟩
      · skip
        refine v_iconst (v := 1) g dX6_brings_131 (by decide) ?_
        refine v_goto (tgt := 136) g dX6_brings_132 (by decide) ?_
        refine v_istore (ls' := [(6, .int 1), (0, .ref R), (1, .int (nI r)), (2, .int x), (3, .int (nI m)), (4, .int (nI p)), (5, .int (nI q))]) g dX6_brings_136 rfl rfl ?_
        refine v_aload_n g dX6_brings_138 1 rfl ?_
        refine v_callV (As := []) (r := none) g dX6_brings_139 (q_lets (D := D) (t := t) (s := s1) (a := a)) cl_X6_lets ml_RX6_153 im_X6_lets (rd_M R _ _) rfl rfl ⟨rfl, rfl, rfl⟩ ?_
        refine v_meq (μ' := rem R (qS D t s a) ρ) (by rw [cpN_bk2 ha (fun j hj => hi j (by omega))]) ?_
        refine v_iload g dX6_brings_142 0 rfl ?_
        exact v_zret g E dX6_brings_144 rfl rfl ⟨by rw [hz, he]; simp [eqB, zB, passN, *], rfl, rfl⟩
    | succ u ih =>
      intro k s1 hq hs hi he
      refine v_iload g dX6_brings_99 0 rfl ?_
      refine v_iload_n g dX6_brings_101 4 rfl ?_
      refine v_icmp_ge (tgt := 116) g dX6_brings_102 (by decide) (fun h102 => absurd h102 (nI_ge (a := k) (b := m) (by omega) (by omega))) (fun h102 => ?_)
      refine v_aload_n g dX6_brings_105 1 rfl ?_
      refine v_iconst (v := (-1)) g dX6_brings_106 (by decide) ?_
      refine v_callV (As := [.int (-1)]) (r := none) g dX6_brings_107 (q_passes (D := D) (t := t) (s := s1) (a := a) hs (-1)) cl_X6_passes ml_RX6_138 im_X6_passes (rd_M R _ _) rfl rfl ⟨rfl, rfl, rfl⟩ ?_
      refine v_iinc (v := (nI (k + 1))) (ls' := [(6, .int (nI (k + 1))), (0, .ref R), (1, .int (nI r)), (2, .int x), (3, .int (nI m)), (4, .int (nI p)), (5, .int (nI q))]) g dX6_brings_110 0 rfl (nI_addE rfl rfl) rfl rfl ?_
      refine v_goto (tgt := 99) g dX6_brings_113 (by decide) ?_
      refine v_sub (ls' := [(6, .int (nI (k + 1))), (0, .ref R), (1, .int (nI r)), (2, .int x), (3, .int (nI m)), (4, .int (nI p)), (5, .int (nI q))]) [0, 1, 2, 3, 4, 5, 6] rfl ?_
      exact ih (k + 1) _ (by omega) (passM_ok hs (-1)) (fun j hj => (passM_hi hs (-1) j (by omega)).trans (hi j hj)) (by rw [he, passN])
  refine v_sub (ls' := [(0, .ref R), (1, .int (nI r)), (2, .int x), (3, .int (nI m)), (4, .int (nI p)), (5, .int (nI q))]) [0, 1, 2, 3, 4, 5] rfl ?_
  refine v_iload g dX6_brings_0 4 rfl ?_
  refine v_if_lt (tgt := 14) g dX6_brings_2 (by decide) (fun h2 => absurd h2 (nI_pos (by omega))) (fun h2 => ?_)
  refine v_aload_n g dX6_brings_5 0 rfl ?_
  refine v_iload g dX6_brings_6 4 rfl ?_
  refine v_callV (As := [.int (nI p)]) (r := some (.int (zB (mayDigM t s p)))) g dX6_brings_8 (k_X6_mayDig (D := (qS D t s a)) hs (c := p) (show p < 36 by omega)) cl_X6_mayDig ml_RX6_141 im_X6_mayDig (rd_M R _ _) rfl rfl ⟨rfl, rfl, rfl⟩ ?_
  refine v_if_eq (tgt := 28) g dX6_brings_11 (by decide) (fun h11 => ?_) (fun h11 => ?_)
  · skip
    have h11 := zB_f0 h11
    refine v_iconst (v := 0) g dX6_brings_28 (by decide) ?_
    exact v_zret g E dX6_brings_29 rfl rfl ⟨by simp [br2, zB, *], rfl, rfl⟩
  · skip
    have h11 := zB_t0 h11
    refine v_iload g dX6_brings_14 5 rfl ?_
    refine v_if_lt (tgt := 30) g dX6_brings_16 (by decide) (fun h16 => absurd h16 (nI_pos (by omega))) (fun h16 => ?_)
    refine v_aload_n g dX6_brings_19 0 rfl ?_
    refine v_iload g dX6_brings_20 5 rfl ?_
    refine v_callV (As := [.int (nI q)]) (r := some (.int (zB (mayDigM t s q)))) g dX6_brings_22 (k_X6_mayDig (D := (qS D t s a)) hs (c := q) (show q < 36 by omega)) cl_X6_mayDig ml_RX6_141 im_X6_mayDig (rd_M R _ _) rfl rfl ⟨rfl, rfl, rfl⟩ ?_
    refine v_if_ne (tgt := 30) g dX6_brings_25 (by decide) (fun h25 => ?_) (fun h25 => ?_)
    · skip
      have h25 := zB_t0 h25
      refine v_aload_n g dX6_brings_30 0 rfl ?_
      refine v_get g dX6_brings_31 fl_RX6_22 (rd_M R _ _) rfl ?_
      refine v_bipush (v := 23) g dX6_brings_34 (by decide) ?_
      refine v_iload g dX6_brings_36 4 rfl ?_
      refine v_if_ge (tgt := 45) g dX6_brings_38 (by decide) (fun h38 => ?_) (fun h38 => absurd (nI_pos' (by omega)) h38)
      refine v_iload g dX6_brings_45 4 rfl ?_
      refine v_iadd g dX6_brings_47 (v_eqi (y := nI (23 + p)) (nI_addE rfl rfl) ?_)
      refine v_iload g dX6_brings_48 4 rfl ?_
      refine v_if_ge (tgt := 61) g dX6_brings_50 (by decide) (fun h50 => ?_) (fun h50 => absurd (nI_pos' (by omega)) h50)
      refine v_iconst (v := 1) g dX6_brings_61 (by decide) ?_
      refine v_iast g dX6_brings_62 (rd_MA4 R _ _) (vp_in_nI (by omega) (by decide)) ?_
      rw [nI_clamp (n := (23 + p)) (by omega)]
      refine v_meq (μ' := rem R (qS D t (va_up s (23 + p) 1) a) ρ) (st_GA R (qS D t s a) (qS D t (va_up s (23 + p) 1) a) ρ 4 (by decide) s (23 + p) 1 rfl rfl rfl (fun j hj => by simp only [qS, uS, tA, va_up, if_neg hj])) ?_
      refine v_aload_n g dX6_brings_63 0 rfl ?_
      refine v_get g dX6_brings_64 fl_RX6_22 (rd_M R _ _) rfl ?_
      refine v_bipush (v := 23) g dX6_brings_67 (by decide) ?_
      refine v_iload g dX6_brings_69 5 rfl ?_
      refine v_if_ge (tgt := 78) g dX6_brings_71 (by decide) (fun h71 => ?_) (fun h71 => absurd (nI_pos' (by omega)) h71)
      refine v_iload g dX6_brings_78 5 rfl ?_
      refine v_iadd g dX6_brings_80 (v_eqi (y := nI (23 + q)) (nI_addE rfl rfl) ?_)
      refine v_iload g dX6_brings_81 5 rfl ?_
      refine v_if_ge (tgt := 94) g dX6_brings_83 (by decide) (fun h83 => ?_) (fun h83 => absurd (nI_pos' (by omega)) h83)
      refine v_iconst (v := 1) g dX6_brings_94 (by decide) ?_
      refine v_iast g dX6_brings_95 (rd_MA4 R _ _) (vp_in_nI (by omega) (by decide)) ?_
      rw [nI_clamp (n := (23 + q)) (by omega)]
      refine v_meq (μ' := rem R (qS D t (va_up (va_up s (23 + p) 1) (23 + q) 1) a) ρ) (st_GA R (qS D t (va_up s (23 + p) 1) a) (qS D t (va_up (va_up s (23 + p) 1) (23 + q) 1) a) ρ 4 (by decide) (va_up s (23 + p) 1) (23 + q) 1 rfl rfl rfl (fun j hj => by simp only [qS, uS, tA, va_up, if_neg hj])) ?_
      refine v_iconst (v := 0) g dX6_brings_96 (by decide) ?_
      refine v_istore (ls' := [(6, .int 0), (0, .ref R), (1, .int (nI r)), (2, .int x), (3, .int (nI m)), (4, .int (nI p)), (5, .int (nI q))]) g dX6_brings_97 rfl rfl ?_
      refine v_sub (ls' := [(6, .int 0), (0, .ref R), (1, .int (nI r)), (2, .int x), (3, .int (nI m)), (4, .int (nI p)), (5, .int (nI q))]) [0, 1, 2, 3, 4, 5, 6] rfl ?_
      exact loop (by unfold br2; rw [if_pos h11, if_pos h25]) m 0 _ (by omega) (okS_of hs (fun j h1 h2 => (va_up_ne _ _ (by omega)).trans (va_up_ne _ _ (by omega)))) (fun j hj => (va_up_ne _ _ (by omega)).trans (va_up_ne _ _ (by omega))) rfl
    · skip
      have h25 := zB_f0 h25
      refine v_iconst (v := 0) g dX6_brings_28 (by decide) ?_
      exact v_zret g E dX6_brings_29 rfl rfl ⟨by simp [br2, zB, *], rfl, rfl⟩
theorem q_ditches (hs : OkS t s) (r x y k : Int32) : Ctr l G 5 125 0 0 mX6_ditches [.ref R, .int r, .int x, .int y, .int k] n (rem R (qS D t s a) ρ) (some (.int (ditQ t s a r x y k).1)) n (rem R (qS D t s (ditQ t s a r x y k).2) ρ) := by
  refine Ctr.of (by decide +kernel) rfl (fun X g E => ?_)
  have o1 := hs.1
  have o2 := hs.2.1
  have two : ∀ (c m : Nat), c < t 2 → m < 21 → ditQ t s a r x y k = (d0M t s c x m k, (cpN a s 59)) → ∀ (u p : Nat), p + u = t 0 → d0M t s c x m k = d2Out t s c x m k u p → V X 0 0 n (rem R (qS D t s (cpN a s 59)) ρ) 126 [(5, .int (nI p)), (0, .ref R), (1, .int (nI c)), (2, .int x), (3, .int (nI m)), (4, .int k)] [] := by
    intro c m hc hm e0 u
    induction u with
    | zero =>
      intro p hu he
      refine v_iload g dX6_ditches_126 0 rfl ?_
      refine v_aload_n g dX6_ditches_128 1 rfl ?_
      refine v_get g dX6_ditches_129 fl_RX6_13 (rd_M R _ _) rfl ?_
      refine v_iconst (v := 0) g dX6_ditches_132 (by decide) ?_
      refine v_iald g dX6_ditches_133 (rd_MA1 R _ _) (by unfold vp_in; decide) (v_eqi (y := (nI (t 0))) rfl ?_)
      refine v_icmp_ge (tgt := 203) g dX6_ditches_134 (by decide) (fun h134 => ?_) (fun h134 => absurd (nI_le (a := t 0) (b := p) (by omega) (by omega)) h134)
      refine v_bipush (v := (-4)) g dX6_ditches_203 (by decide) ?_
      exact v_iret g E dX6_ditches_205 rfl ⟨by rw [e0, he]; rfl, rfl, by rw [e0]⟩
    | succ u ih =>
      intro p hu he
      have inner : ∀ (v q : Nat), q + v = t 0 → d0M t s c x m k = (match d2In t s c x m k p v q with | some v => v | none => d2Out t s c x m k u (p + 1)) → V X 0 0 n (rem R (qS D t s (cpN a s 59)) ρ) 143 [(6, .int (nI q)), (5, .int (nI p)), (0, .ref R), (1, .int (nI c)), (2, .int x), (3, .int (nI m)), (4, .int k)] [] := by
        intro v
        induction v with
        | zero =>
          intro q hv h2
          refine v_iload g dX6_ditches_143 0 rfl ?_
          refine v_aload_n g dX6_ditches_145 2 rfl ?_
          refine v_get g dX6_ditches_146 fl_RX6_13 (rd_M R _ _) rfl ?_
          refine v_iconst (v := 0) g dX6_ditches_149 (by decide) ?_
          refine v_iald g dX6_ditches_150 (rd_MA1 R _ _) (by unfold vp_in; decide) (v_eqi (y := (nI (t 0))) rfl ?_)
          refine v_icmp_ge (tgt := 197) g dX6_ditches_151 (by decide) (fun h151 => ?_) (fun h151 => absurd (nI_le (a := t 0) (b := q) (by omega) (by omega)) h151)
          refine v_iinc (v := (nI (p + 1))) (ls' := [(5, .int (nI (p + 1))), (6, .int (nI q)), (0, .ref R), (1, .int (nI c)), (2, .int x), (3, .int (nI m)), (4, .int k)]) g dX6_ditches_197 1 rfl (nI_addE rfl rfl) rfl rfl ?_
          refine v_goto (tgt := 126) g dX6_ditches_200 (by decide) ?_
          refine v_sub (ls' := [(5, .int (nI (p + 1))), (0, .ref R), (1, .int (nI c)), (2, .int x), (3, .int (nI m)), (4, .int k)]) [0, 2, 3, 4, 5, 6] rfl ?_
          exact ih (p + 1) (by omega) (by rw [h2, d2In])
        | succ v ihv =>
          intro q hv h2
          refine v_iload g dX6_ditches_143 0 rfl ?_
          refine v_aload_n g dX6_ditches_145 2 rfl ?_
          refine v_get g dX6_ditches_146 fl_RX6_13 (rd_M R _ _) rfl ?_
          refine v_iconst (v := 0) g dX6_ditches_149 (by decide) ?_
          refine v_iald g dX6_ditches_150 (rd_MA1 R _ _) (by unfold vp_in; decide) (v_eqi (y := (nI (t 0))) rfl ?_)
          refine v_icmp_ge (tgt := 197) g dX6_ditches_151 (by decide) (fun h151 => absurd h151 (nI_ge (a := q) (b := t 0) (by omega) (by omega))) (fun h151 => ?_)
          refine v_aload_n g dX6_ditches_154 2 rfl ?_
          refine v_iload_n g dX6_ditches_155 3 rfl ?_
          refine v_iload_n g dX6_ditches_156 4 rfl ?_
          refine v_iload_n g dX6_ditches_157 5 rfl ?_
          refine v_iload g dX6_ditches_158 1 rfl ?_
          refine v_iload g dX6_ditches_160 0 rfl ?_
          refine v_callV (As := [.int (nI c), .int x, .int (nI m), .int (nI p), .int (nI q)]) (r := some (.int (zB (br2 t s c x m p q)))) g dX6_ditches_162 (q_brings2 (D := D) (t := t) (s := s) (a := (cpN a s 59)) hs (cpN_at _ _) (r := c) (by omega) x (m := m) (by omega) (p := p) (by omega) (q := q) (by omega)) cl_X6_brings ml_RX6_165 im_X6_brings (rd_M R _ _) rfl rfl ⟨rfl, rfl, rfl⟩ ?_
          refine v_if_eq (tgt := 191) g dX6_ditches_165 (by decide) (fun h165 => ?_) (fun h165 => ?_)
          · skip
            have h165 := zB_f0 h165
            refine v_iinc (v := (nI (q + 1))) (ls' := [(6, .int (nI (q + 1))), (5, .int (nI p)), (0, .ref R), (1, .int (nI c)), (2, .int x), (3, .int (nI m)), (4, .int k)]) g dX6_ditches_191 0 rfl (nI_addE rfl rfl) rfl rfl ?_
            refine v_goto (tgt := 143) g dX6_ditches_194 (by decide) ?_
            refine v_sub (ls' := [(6, .int (nI (q + 1))), (5, .int (nI p)), (0, .ref R), (1, .int (nI c)), (2, .int x), (3, .int (nI m)), (4, .int k)]) [0, 1, 2, 3, 4, 5, 6] rfl ?_
            exact ihv (q + 1) (by omega) (by rw [h2, d2In, if_neg (by rw [h165]; decide)])
          · skip
            have h165 := zB_t0 h165
            refine v_iload g dX6_ditches_168 6 rfl ?_
            refine v_iconst (v := (-1)) g dX6_ditches_170 (by decide) ?_
            refine v_icmp_ne (tgt := 178) g dX6_ditches_171 (by decide) (fun h171 => ?_) (fun h171 => ?_)
            · skip
              refine v_iload g dX6_ditches_178 6 rfl ?_
              refine v_if_ne (tgt := 188) g dX6_ditches_180 (by decide) (fun h180 => ?_) (fun h180 => ?_)
              · skip
                refine v_iload g dX6_ditches_188 0 rfl ?_
                exact v_iret g E dX6_ditches_190 rfl ⟨by rw [e0, h2]; simp [d2In, *], rfl, by rw [e0]⟩
              · skip
                refine v_iload g dX6_ditches_183 1 rfl ?_
                refine v_goto (tgt := 190) g dX6_ditches_185 (by decide) ?_
                exact v_iret g E dX6_ditches_190 rfl ⟨by rw [e0, h2]; simp [d2In, *], rfl, by rw [e0]⟩
            · skip
              refine v_iconst (v := 2) g dX6_ditches_174 (by decide) ?_
              refine v_goto (tgt := 190) g dX6_ditches_175 (by decide) ?_
              exact v_iret g E dX6_ditches_190 rfl ⟨by rw [e0, h2]; simp [d2In, *], rfl, by rw [e0]⟩
      refine v_iload g dX6_ditches_126 0 rfl ?_
      refine v_aload_n g dX6_ditches_128 1 rfl ?_
      refine v_get g dX6_ditches_129 fl_RX6_13 (rd_M R _ _) rfl ?_
      refine v_iconst (v := 0) g dX6_ditches_132 (by decide) ?_
      refine v_iald g dX6_ditches_133 (rd_MA1 R _ _) (by unfold vp_in; decide) (v_eqi (y := (nI (t 0))) rfl ?_)
      refine v_icmp_ge (tgt := 203) g dX6_ditches_134 (by decide) (fun h134 => absurd h134 (nI_ge (a := p) (b := t 0) (by omega) (by omega))) (fun h134 => ?_)
      refine v_iload g dX6_ditches_137 0 rfl ?_
      refine v_iconst (v := 1) g dX6_ditches_139 (by decide) ?_
      refine v_iadd g dX6_ditches_140 (v_eqi (y := nI (p + 1)) (nI_addE rfl rfl) ?_)
      refine v_istore (ls' := [(6, .int (nI (p + 1))), (5, .int (nI p)), (0, .ref R), (1, .int (nI c)), (2, .int x), (3, .int (nI m)), (4, .int k)]) g dX6_ditches_141 rfl rfl ?_
      refine v_sub (ls' := [(6, .int (nI (p + 1))), (5, .int (nI p)), (0, .ref R), (1, .int (nI c)), (2, .int x), (3, .int (nI m)), (4, .int k)]) [0, 1, 2, 3, 4, 5, 6] rfl ?_
      exact inner u (p + 1) (by omega) (by rw [he, d2Out])
  have one : ∀ (c m : Nat), c < t 2 → m < 21 → ditQ t s a r x y k = (d0M t s c x m k, (cpN a s 59)) → ∀ (u p : Nat), p + u = t 0 → d0M t s c x m k = d1M t s c x m k u p → V X 0 0 n (rem R (qS D t s (cpN a s 59)) ρ) 70 [(5, .int (nI p)), (0, .ref R), (1, .int (nI c)), (2, .int x), (3, .int (nI m)), (4, .int k)] [] := by
    intro c m hc hm e0 u
    induction u with
    | zero =>
      intro p hu he
      refine v_iload g dX6_ditches_70 0 rfl ?_
      refine v_aload_n g dX6_ditches_72 1 rfl ?_
      refine v_get g dX6_ditches_73 fl_RX6_13 (rd_M R _ _) rfl ?_
      refine v_iconst (v := 0) g dX6_ditches_76 (by decide) ?_
      refine v_iald g dX6_ditches_77 (rd_MA1 R _ _) (by unfold vp_in; decide) (v_eqi (y := (nI (t 0))) rfl ?_)
      refine v_icmp_ge (tgt := 123) g dX6_ditches_78 (by decide) (fun h78 => ?_) (fun h78 => absurd (nI_le (a := t 0) (b := p) (by omega) (by omega)) h78)
      refine v_iconst (v := 0) g dX6_ditches_123 (by decide) ?_
      refine v_istore (ls' := [(5, .int 0), (0, .ref R), (1, .int (nI c)), (2, .int x), (3, .int (nI m)), (4, .int k)]) g dX6_ditches_124 rfl rfl ?_
      refine v_sub (ls' := [(5, .int 0), (0, .ref R), (1, .int (nI c)), (2, .int x), (3, .int (nI m)), (4, .int k)]) [0, 1, 2, 3, 4, 5] rfl ?_
      exact two c m hc hm e0 (t 0) 0 (by omega) (by rw [he, d1M])
    | succ u ih =>
      intro p hu he
      refine v_iload g dX6_ditches_70 0 rfl ?_
      refine v_aload_n g dX6_ditches_72 1 rfl ?_
      refine v_get g dX6_ditches_73 fl_RX6_13 (rd_M R _ _) rfl ?_
      refine v_iconst (v := 0) g dX6_ditches_76 (by decide) ?_
      refine v_iald g dX6_ditches_77 (rd_MA1 R _ _) (by unfold vp_in; decide) (v_eqi (y := (nI (t 0))) rfl ?_)
      refine v_icmp_ge (tgt := 123) g dX6_ditches_78 (by decide) (fun h78 => absurd h78 (nI_ge (a := p) (b := t 0) (by omega) (by omega))) (fun h78 => ?_)
      refine v_aload_n g dX6_ditches_81 1 rfl ?_
      refine v_iload_n g dX6_ditches_82 2 rfl ?_
      refine v_iload_n g dX6_ditches_83 3 rfl ?_
      refine v_iload_n g dX6_ditches_84 4 rfl ?_
      refine v_iload g dX6_ditches_85 0 rfl ?_
      refine v_iconst (v := (-1)) g dX6_ditches_87 (by decide) ?_
      refine v_callV (As := [.int (nI c), .int x, .int (nI m), .int (nI p), .int (-1)]) (r := some (.int (zB (br1 t s c x m p)))) g dX6_ditches_88 (q_brings1 (D := D) (t := t) (s := s) (a := (cpN a s 59)) hs (cpN_at _ _) (r := c) (by omega) x (m := m) (by omega) (p := p) (by omega)) cl_X6_brings ml_RX6_165 im_X6_brings (rd_M R _ _) rfl rfl ⟨rfl, rfl, rfl⟩ ?_
      refine v_if_eq (tgt := 117) g dX6_ditches_91 (by decide) (fun h91 => ?_) (fun h91 => ?_)
      · skip
        have h91 := zB_f0 h91
        refine v_iinc (v := (nI (p + 1))) (ls' := [(5, .int (nI (p + 1))), (0, .ref R), (1, .int (nI c)), (2, .int x), (3, .int (nI m)), (4, .int k)]) g dX6_ditches_117 0 rfl (nI_addE rfl rfl) rfl rfl ?_
        refine v_goto (tgt := 70) g dX6_ditches_120 (by decide) ?_
        refine v_sub (ls' := [(5, .int (nI (p + 1))), (0, .ref R), (1, .int (nI c)), (2, .int x), (3, .int (nI m)), (4, .int k)]) [0, 1, 2, 3, 4, 5] rfl ?_
        exact ih (p + 1) (by omega) (by rw [he, d1M, if_neg (by rw [h91]; decide)])
      · skip
        have h91 := zB_t0 h91
        refine v_iload g dX6_ditches_94 5 rfl ?_
        refine v_iconst (v := (-1)) g dX6_ditches_96 (by decide) ?_
        refine v_icmp_ne (tgt := 104) g dX6_ditches_97 (by decide) (fun h97 => ?_) (fun h97 => ?_)
        · skip
          refine v_iload g dX6_ditches_104 5 rfl ?_
          refine v_if_ne (tgt := 114) g dX6_ditches_106 (by decide) (fun h106 => ?_) (fun h106 => ?_)
          · skip
            refine v_bipush (v := (-4)) g dX6_ditches_114 (by decide) ?_
            exact v_iret g E dX6_ditches_116 rfl ⟨by rw [e0, he]; simp [d1M, *], rfl, by rw [e0]⟩
          · skip
            refine v_iload g dX6_ditches_109 0 rfl ?_
            refine v_goto (tgt := 116) g dX6_ditches_111 (by decide) ?_
            exact v_iret g E dX6_ditches_116 rfl ⟨by rw [e0, he]; simp [d1M, *], rfl, by rw [e0]⟩
        · skip
          refine v_iconst (v := 1) g dX6_ditches_100 (by decide) ?_
          refine v_goto (tgt := 116) g dX6_ditches_101 (by decide) ?_
          exact v_iret g E dX6_ditches_116 rfl ⟨by rw [e0, he]; simp [d1M, *], rfl, by rw [e0]⟩
  refine v_sub (ls' := [(0, .ref R), (1, .int r), (2, .int x), (3, .int y), (4, .int k)]) [0, 1, 2, 3, 4] rfl ?_
  refine v_aload_n g dX6_ditches_0 0 rfl ?_
  refine v_iload_n g dX6_ditches_1 1 rfl ?_
  refine v_callV (As := [.int r]) (r := some (.int (zB (rowQ t r)))) g dX6_ditches_2 (q_isRow (D := D) (t := t) r) cl_X6_isRow ml_RX6_126 im_X6_isRow (rd_M R _ _) rfl rfl ⟨rfl, rfl, rfl⟩ ?_
  refine v_if_eq (tgt := 36) g dX6_ditches_5 (by decide) (fun h5 => ?_) (fun h5 => ?_)
  · skip
    have h5 := zB_f0 h5
    refine v_iconst (v := (-1)) g dX6_ditches_36 (by decide) ?_
    exact v_iret g E dX6_ditches_37 rfl ⟨by first | (simp [ditQ, *]; done) | (rw [e0]; simp [d0M, *]; done), rfl, by first | (simp [ditQ, *]; done) | (rw [e0])⟩
  · skip
    have h5 := zB_t0 h5
    refine v_aload_n g dX6_ditches_8 0 rfl ?_
    refine v_iload_n g dX6_ditches_9 2 rfl ?_
    refine v_callV (As := [.int x]) (r := some (.int (zB (cellQ t x)))) g dX6_ditches_10 (q_isCell (D := D) (t := t) x) cl_X6_isCell ml_RX6_110 im_X6_isCell (rd_M R _ _) rfl rfl ⟨rfl, rfl, rfl⟩ ?_
    refine v_if_eq (tgt := 36) g dX6_ditches_13 (by decide) (fun h13 => ?_) (fun h13 => ?_)
    · skip
      have h13 := zB_f0 h13
      refine v_iconst (v := (-1)) g dX6_ditches_36 (by decide) ?_
      exact v_iret g E dX6_ditches_37 rfl ⟨by first | (simp [ditQ, *]; done) | (rw [e0]; simp [d0M, *]; done), rfl, by first | (simp [ditQ, *]; done) | (rw [e0])⟩
    · skip
      have h13 := zB_t0 h13
      refine v_iload_n g dX6_ditches_16 3 rfl ?_
      refine v_iconst (v := 1) g dX6_ditches_17 (by decide) ?_
      refine v_bipush (v := 20) g dX6_ditches_18 (by decide) ?_
      refine v_callS (As := [.int y, .int 1, .int 20]) (r := some (.int (zB (withinC y 1 20)))) g dX6_ditches_20 (k_X6_in y 1 20) cl_X6_in ml_RX6_54 sm_X6_in rfl ⟨rfl, rfl, rfl⟩ ?_
      refine v_if_eq (tgt := 36) g dX6_ditches_23 (by decide) (fun h23 => ?_) (fun h23 => ?_)
      · skip
        have h23 := zB_f0 h23
        refine v_iconst (v := (-1)) g dX6_ditches_36 (by decide) ?_
        exact v_iret g E dX6_ditches_37 rfl ⟨by first | (simp [ditQ, *]; done) | (rw [e0]; simp [d0M, *]; done), rfl, by first | (simp [ditQ, *]; done) | (rw [e0])⟩
      · skip
        have h23 := zB_t0 h23
        refine v_iload g dX6_ditches_26 4 rfl ?_
        refine v_iconst (v := (-1)) g dX6_ditches_28 (by decide) ?_
        refine v_iconst (v := 1) g dX6_ditches_29 (by decide) ?_
        refine v_callS (As := [.int k, .int (-1), .int 1]) (r := some (.int (zB (withinC k (-1) 1)))) g dX6_ditches_30 (k_X6_in k (-1) 1) cl_X6_in ml_RX6_54 sm_X6_in rfl ⟨rfl, rfl, rfl⟩ ?_
        refine v_if_ne (tgt := 38) g dX6_ditches_33 (by decide) (fun h33 => ?_) (fun h33 => ?_)
        · skip
          have h33 := zB_t0 h33
          obtain ⟨c, hc, ec⟩ := rowQ_ok hs h5
          obtain ⟨m, -, hm, em⟩ := within_nI (a := 1) (b := 20) rfl rfl h23
          subst ec
          subst em
          have e0 : ditQ t s a (nI c) x (nI m) k = (d0M t s c x m k, (cpN a s 59)) := by unfold ditQ; rw [if_neg (by rw [h5]; decide), if_neg (by rw [h13]; decide), if_neg (by rw [h23]; decide), if_neg (by rw [h33]; decide), nI_clamp (by omega), nI_clamp (by omega)]
          refine v_aload_n g dX6_ditches_38 0 rfl ?_
          refine v_callV (As := []) (r := none) g dX6_ditches_39 (q_holds (D := D) (t := t) (s := s) (a := a)) cl_X6_holds ml_RX6_150 im_X6_holds (rd_M R _ _) rfl rfl ⟨rfl, rfl, rfl⟩ ?_
          refine v_aload_n g dX6_ditches_42 0 rfl ?_
          refine v_iload_n g dX6_ditches_43 1 rfl ?_
          refine v_iload_n g dX6_ditches_44 2 rfl ?_
          refine v_iload_n g dX6_ditches_45 3 rfl ?_
          refine v_iconst (v := (-1)) g dX6_ditches_46 (by decide) ?_
          refine v_iconst (v := (-1)) g dX6_ditches_47 (by decide) ?_
          refine v_callV (As := [.int (nI c), .int x, .int (nI m), .int (-1), .int (-1)]) (r := some (.int (zB (br0 t s c x m)))) g dX6_ditches_48 (q_brings0 (D := D) (t := t) (s := s) (a := (cpN a s 59)) hs (cpN_at _ _) (r := c) (by omega) x (m := m) (by omega)) cl_X6_brings ml_RX6_165 im_X6_brings (rd_M R _ _) rfl rfl ⟨rfl, rfl, rfl⟩ ?_
          refine v_if_eq (tgt := 67) g dX6_ditches_51 (by decide) (fun h51 => ?_) (fun h51 => ?_)
          · skip
            have h51 := zB_f0 h51
            refine v_iconst (v := 0) g dX6_ditches_67 (by decide) ?_
            refine v_istore (ls' := [(5, .int 0), (0, .ref R), (1, .int (nI c)), (2, .int x), (3, .int (nI m)), (4, .int k)]) g dX6_ditches_68 rfl rfl ?_
            refine v_sub (ls' := [(5, .int 0), (0, .ref R), (1, .int (nI c)), (2, .int x), (3, .int (nI m)), (4, .int k)]) [0, 1, 2, 3, 4, 5] rfl ?_
            exact one c m hc (by omega) e0 (t 0) 0 (by omega) (by unfold d0M; rw [if_neg (by rw [h51]; decide)])
          · skip
            have h51 := zB_t0 h51
            refine v_iload g dX6_ditches_54 4 rfl ?_
            refine v_iconst (v := (-1)) g dX6_ditches_56 (by decide) ?_
            refine v_icmp_ne (tgt := 64) g dX6_ditches_57 (by decide) (fun h57 => ?_) (fun h57 => ?_)
            · skip
              refine v_bipush (v := (-4)) g dX6_ditches_64 (by decide) ?_
              exact v_iret g E dX6_ditches_66 rfl ⟨by first | (simp [ditQ, *]; done) | (rw [e0]; simp [d0M, *]; done), rfl, by first | (simp [ditQ, *]; done) | (rw [e0])⟩
            · skip
              refine v_iconst (v := 0) g dX6_ditches_60 (by decide) ?_
              refine v_goto (tgt := 66) g dX6_ditches_61 (by decide) ?_
              exact v_iret g E dX6_ditches_66 rfl ⟨by first | (simp [ditQ, *]; done) | (rw [e0]; simp [d0M, *]; done), rfl, by first | (simp [ditQ, *]; done) | (rw [e0])⟩
        · skip
          have h33 := zB_f0 h33
          refine v_iconst (v := (-1)) g dX6_ditches_36 (by decide) ?_
          exact v_iret g E dX6_ditches_37 rfl ⟨by first | (simp [ditQ, *]; done) | (rw [e0]; simp [d0M, *]; done), rfl, by first | (simp [ditQ, *]; done) | (rw [e0])⟩
theorem q_best (hs : OkS t s) (hl : ∀ c, c < 36 → s (23 + c) ≤ 2) (p y w : Int32) : Ctr l G 5 122 0 0 mX6_best [.ref R, .int p, .int y, .int w] n (rem R (qS D t s a) ρ) (some (.int (besQ t s a p y w).1)) n (rem R (qS D t s (besQ t s a p y w).2) ρ) := by
  refine Ctr.of (by decide +kernel) rfl (fun X g E => ?_)
  have o2 := hs.2.1
  have loop : ∀ (e m : Nat), e < 4 → m < 21 → besQ t s a p y w = ((if w = 0 then (bsN t s m e (t 0) 0 (-4) (-4) a).2.1 else (bsN t s m e (t 0) 0 (-4) (-4) a).1), (bsN t s m e (t 0) 0 (-4) (-4) a).2.2) → ∀ (u c : Nat) (mo fo : Int32) (a1 : Nat → Nat), c + u = t 0 → bsN t s m e (t 0) 0 (-4) (-4) a = bsN t s m e u c mo fo a1 → V X 0 0 n (rem R (qS D t s a1) ρ) 41 [(6, .int (nI c)), (5, .int fo), (4, .int mo), (0, .ref R), (1, .int (nI e)), (2, .int (nI m)), (3, .int w)] [] := by
    intro e m he0 hm e0 u
    induction u with
    | zero =>
      intro c mo fo a1 hu he
      refine v_iload g dX6_best_41 0 rfl ?_
      refine v_aload_n g dX6_best_43 3 rfl ?_
      refine v_get g dX6_best_44 fl_RX6_13 (rd_M R _ _) rfl ?_
      refine v_iconst (v := 0) g dX6_best_47 (by decide) ?_
      refine v_iald g dX6_best_48 (rd_MA1 R _ _) (by unfold vp_in; decide) (v_eqi (y := (nI (t 0))) rfl ?_)
      refine v_icmp_ge (tgt := 131) g dX6_best_49 (by decide) (fun h49 => ?_) (fun h49 => absurd (nI_le (a := t 0) (b := c) (by omega) (by omega)) h49)
      refine v_iload_n g dX6_best_131 6 rfl ?_
      refine v_if_ne (tgt := 140) g dX6_best_132 (by decide) (fun h132 => ?_) (fun h132 => ?_)
      · skip
        refine v_iload g dX6_best_140 2 rfl ?_
        exact v_iret g E dX6_best_142 rfl ⟨by rw [e0, he]; simp [bsN, *], rfl, by rw [e0, he]; rfl⟩
      · skip
        refine v_iload g dX6_best_135 1 rfl ?_
        refine v_goto (tgt := 142) g dX6_best_137 (by decide) ?_
        exact v_iret g E dX6_best_142 rfl ⟨by rw [e0, he]; simp [bsN, *], rfl, by rw [e0, he]; rfl⟩
    | succ u ih =>
      intro c mo fo a1 hu he
      refine v_iload g dX6_best_41 0 rfl ?_
      refine v_aload_n g dX6_best_43 3 rfl ?_
      refine v_get g dX6_best_44 fl_RX6_13 (rd_M R _ _) rfl ?_
      refine v_iconst (v := 0) g dX6_best_47 (by decide) ?_
      refine v_iald g dX6_best_48 (rd_MA1 R _ _) (by unfold vp_in; decide) (v_eqi (y := (nI (t 0))) rfl ?_)
      refine v_icmp_ge (tgt := 131) g dX6_best_49 (by decide) (fun h49 => absurd h49 (nI_ge (a := c) (b := t 0) (by omega) (by omega))) (fun h49 => ?_)
      refine v_aload_n g dX6_best_52 3 rfl ?_
      refine v_iload g dX6_best_53 0 rfl ?_
      refine v_callV (As := [.int (nI c)]) (r := some (.int (zB (mayDigM t s c)))) g dX6_best_55 (k_X6_mayDig (D := (qS D t s a1)) hs (c := c) (show c < 36 by omega)) cl_X6_mayDig ml_RX6_141 im_X6_mayDig (rd_M R _ _) rfl rfl ⟨rfl, rfl, rfl⟩ ?_
      refine v_if_eq (tgt := 125) g dX6_best_58 (by decide) (fun h58 => ?_) (fun h58 => ?_)
      · skip
        have h58 := zB_f0 h58
        refine v_iinc (v := (nI (c + 1))) (ls' := [(6, .int (nI (c + 1))), (5, .int fo), (4, .int mo), (0, .ref R), (1, .int (nI e)), (2, .int (nI m)), (3, .int w)]) g dX6_best_125 0 rfl (nI_addE rfl rfl) rfl rfl ?_
        refine v_goto (tgt := 41) g dX6_best_128 (by decide) ?_
        refine v_sub (ls' := [(6, .int (nI (c + 1))), (5, .int fo), (4, .int mo), (0, .ref R), (1, .int (nI e)), (2, .int (nI m)), (3, .int w)]) [0, 1, 2, 3, 4, 5, 6] rfl ?_
        exact ih (c + 1) _ _ _ (by omega) (by rw [he, bsN, if_neg (by rw [h58]; decide)])
      · skip
        have h58 := zB_t0 h58
        refine v_aload_n g dX6_best_61 3 rfl ?_
        refine v_get g dX6_best_62 fl_RX6_22 (rd_M R _ _) rfl ?_
        refine v_bipush (v := 23) g dX6_best_65 (by decide) ?_
        refine v_iload g dX6_best_67 0 rfl ?_
        refine v_iadd g dX6_best_69 (v_eqi (y := nI (23 + c)) (nI_addE rfl rfl) ?_)
        refine v_iconst (v := 1) g dX6_best_70 (by decide) ?_
        refine v_iast g dX6_best_71 (rd_MA4 R _ _) (vp_in_nI (by omega) (by decide)) ?_
        rw [nI_clamp (n := (23 + c)) (by omega)]
        refine v_meq (μ' := rem R (qS D t (va_up s (23 + c) 1) a1) ρ) (st_GA R (qS D t s a1) (qS D t (va_up s (23 + c) 1) a1) ρ 4 (by decide) s (23 + c) 1 rfl rfl rfl (fun j hj => by simp only [qS, uS, tA, va_up, if_neg hj])) ?_
        have hs' := okS_of hs (s' := va_up s (23 + c) 1) (fun j h1 h2 => va_up_ne _ _ (by omega))
        refine v_aload_n g dX6_best_72 3 rfl ?_
        refine v_iload_n g dX6_best_73 5 rfl ?_
        refine v_iconst (v := 1) g dX6_best_74 (by decide) ?_
        refine v_iload_n g dX6_best_75 4 rfl ?_
        refine v_iadd g dX6_best_76 (v_eqi (y := nI (1 + e)) (nI_addE rfl rfl) ?_)
        refine v_callV (As := [.int (nI m), .int (nI (1 + e))]) (r := some (.int (nI (passN t m (va_up s (23 + c) 1) (1 + e))))) g dX6_best_77 (q_behindOf (D := D) (t := t) (s := (va_up s (23 + c) 1)) (a := a1) hs' (m := m) (by omega) (pl := (1 + e)) (by omega)) cl_X6_behindOf ml_RX6_156 im_X6_behindOf (rd_M R _ _) rfl rfl ⟨rfl, rfl, rfl⟩ ?_
        refine v_istore (ls' := [(7, .int (nI (passN t m (va_up s (23 + c) 1) (1 + e)))), (6, .int (nI c)), (5, .int fo), (4, .int mo), (0, .ref R), (1, .int (nI e)), (2, .int (nI m)), (3, .int w)]) g dX6_best_80 rfl rfl ?_
        refine v_aload_n g dX6_best_82 4 rfl ?_
        refine v_get g dX6_best_83 fl_RX6_22 (rd_M R _ _) rfl ?_
        refine v_bipush (v := 23) g dX6_best_86 (by decide) ?_
        refine v_iload g dX6_best_88 1 rfl ?_
        refine v_iadd g dX6_best_90 (v_eqi (y := nI (23 + c)) (nI_addE rfl rfl) ?_)
        refine v_iconst (v := 0) g dX6_best_91 (by decide) ?_
        refine v_iast g dX6_best_92 (rd_MA4 R _ _) (vp_in_nI (by omega) (by decide)) ?_
        rw [nI_clamp (n := (23 + c)) (by omega)]
        refine v_meq (μ' := rem R (qS D t (va_up (va_up s (23 + c) 1) (23 + c) 0) (cpN a1 (va_up s (23 + c) 1) 59)) ρ) (st_GA R (qS D t (va_up s (23 + c) 1) (cpN a1 (va_up s (23 + c) 1) 59)) (qS D t (va_up (va_up s (23 + c) 1) (23 + c) 0) (cpN a1 (va_up s (23 + c) 1) 59)) ρ 4 (by decide) (va_up s (23 + c) 1) (23 + c) 0 rfl rfl rfl (fun j hj => by simp only [qS, uS, tA, va_up, if_neg hj])) ?_
        refine v_meq (μ' := rem R (qS D t s (cpN a1 (va_up s (23 + c) 1) 59)) ρ) (by rw [va_up_up]; exact congrArg (fun z => rem R (qS D t z (cpN a1 (va_up s (23 + c) 1) 59)) ρ) ((congrArg (va_up s (23 + c)) (mayDig_0 h58 (hl c (by omega))).symm).trans (va_up_id s (23 + c)))) ?_
        refine v_iload g dX6_best_93 0 rfl ?_
        refine v_iload g dX6_best_95 3 rfl ?_
        refine v_icmp_le_d (tgt := 105) (u := fo) (v := (nI c)) 107 g dX6_best_97 (by decide) (fun h97 K => ?_) (fun h97 K => ?_) ?_
        · skip
          refine v_iload g dX6_best_105 2 rfl ?_
          exact K
        · skip
          refine v_iload g dX6_best_100 1 rfl ?_
          refine v_goto (tgt := 107) g dX6_best_102 (by decide) ?_
          exact K
        refine v_istore (ls' := [(5, .int (if (nI (passN t m (va_up s (23 + c) 1) (1 + e))) ≤ mo then fo else (nI c))), (7, .int (nI (passN t m (va_up s (23 + c) 1) (1 + e)))), (6, .int (nI c)), (4, .int mo), (0, .ref R), (1, .int (nI e)), (2, .int (nI m)), (3, .int w)]) g dX6_best_107 rfl rfl ?_
        refine v_iload g dX6_best_109 1 rfl ?_
        refine v_iload g dX6_best_111 3 rfl ?_
        refine v_icmp_le_d (tgt := 121) (u := mo) (v := (nI (passN t m (va_up s (23 + c) 1) (1 + e)))) 123 g dX6_best_113 (by decide) (fun h113 K => ?_) (fun h113 K => ?_) ?_
        · skip
          refine v_iload g dX6_best_121 3 rfl ?_
          exact K
        · skip
          refine v_iload g dX6_best_116 1 rfl ?_
          refine v_goto (tgt := 123) g dX6_best_118 (by decide) ?_
          exact K
        refine v_istore (ls' := [(4, .int (if (nI (passN t m (va_up s (23 + c) 1) (1 + e))) ≤ mo then mo else (nI (passN t m (va_up s (23 + c) 1) (1 + e))))), (5, .int (if (nI (passN t m (va_up s (23 + c) 1) (1 + e))) ≤ mo then fo else (nI c))), (7, .int (nI (passN t m (va_up s (23 + c) 1) (1 + e)))), (6, .int (nI c)), (0, .ref R), (1, .int (nI e)), (2, .int (nI m)), (3, .int w)]) g dX6_best_123 rfl rfl ?_
        refine v_iinc (v := (nI (c + 1))) (ls' := [(6, .int (nI (c + 1))), (4, .int (if (nI (passN t m (va_up s (23 + c) 1) (1 + e))) ≤ mo then mo else (nI (passN t m (va_up s (23 + c) 1) (1 + e))))), (5, .int (if (nI (passN t m (va_up s (23 + c) 1) (1 + e))) ≤ mo then fo else (nI c))), (7, .int (nI (passN t m (va_up s (23 + c) 1) (1 + e)))), (0, .ref R), (1, .int (nI e)), (2, .int (nI m)), (3, .int w)]) g dX6_best_125 3 rfl (nI_addE rfl rfl) rfl rfl ?_
        refine v_goto (tgt := 41) g dX6_best_128 (by decide) ?_
        refine v_sub (ls' := [(6, .int (nI (c + 1))), (5, .int (if (nI (passN t m (va_up s (23 + c) 1) (1 + e))) ≤ mo then fo else (nI c))), (4, .int (if (nI (passN t m (va_up s (23 + c) 1) (1 + e))) ≤ mo then mo else (nI (passN t m (va_up s (23 + c) 1) (1 + e))))), (0, .ref R), (1, .int (nI e)), (2, .int (nI m)), (3, .int w)]) [0, 2, 1, 4, 5, 6, 7] rfl ?_
        exact ih (c + 1) _ _ _ (by omega) (by rw [he, bsN, if_pos h58])
  refine v_sub (ls' := [(0, .ref R), (1, .int p), (2, .int y), (3, .int w)]) [0, 1, 2, 3] rfl ?_
  refine v_iload_n g dX6_best_0 1 rfl ?_
  refine v_iconst (v := 0) g dX6_best_1 (by decide) ?_
  refine v_iconst (v := 3) g dX6_best_2 (by decide) ?_
  refine v_callS (As := [.int p, .int 0, .int 3]) (r := some (.int (zB (withinC p 0 3)))) g dX6_best_3 (k_X6_in p 0 3) cl_X6_in ml_RX6_54 sm_X6_in rfl ⟨rfl, rfl, rfl⟩ ?_
  refine v_if_eq (tgt := 28) g dX6_best_6 (by decide) (fun h6 => ?_) (fun h6 => ?_)
  · skip
    have h6 := zB_f0 h6
    refine v_iconst (v := (-1)) g dX6_best_28 (by decide) ?_
    exact v_iret g E dX6_best_29 rfl ⟨by simp [besQ, *], rfl, by simp [besQ, *]⟩
  · skip
    have h6 := zB_t0 h6
    refine v_iload_n g dX6_best_9 2 rfl ?_
    refine v_iconst (v := 1) g dX6_best_10 (by decide) ?_
    refine v_bipush (v := 20) g dX6_best_11 (by decide) ?_
    refine v_callS (As := [.int y, .int 1, .int 20]) (r := some (.int (zB (withinC y 1 20)))) g dX6_best_13 (k_X6_in y 1 20) cl_X6_in ml_RX6_54 sm_X6_in rfl ⟨rfl, rfl, rfl⟩ ?_
    refine v_if_eq (tgt := 28) g dX6_best_16 (by decide) (fun h16 => ?_) (fun h16 => ?_)
    · skip
      have h16 := zB_f0 h16
      refine v_iconst (v := (-1)) g dX6_best_28 (by decide) ?_
      exact v_iret g E dX6_best_29 rfl ⟨by simp [besQ, *], rfl, by simp [besQ, *]⟩
    · skip
      have h16 := zB_t0 h16
      refine v_iload_n g dX6_best_19 3 rfl ?_
      refine v_iconst (v := 0) g dX6_best_20 (by decide) ?_
      refine v_iconst (v := 1) g dX6_best_21 (by decide) ?_
      refine v_callS (As := [.int w, .int 0, .int 1]) (r := some (.int (zB (withinC w 0 1)))) g dX6_best_22 (k_X6_in w 0 1) cl_X6_in ml_RX6_54 sm_X6_in rfl ⟨rfl, rfl, rfl⟩ ?_
      refine v_if_ne (tgt := 30) g dX6_best_25 (by decide) (fun h25 => ?_) (fun h25 => ?_)
      · skip
        have h25 := zB_t0 h25
        obtain ⟨e, -, he, ee⟩ := within_nI (a := 0) (b := 3) rfl rfl h6
        obtain ⟨m, -, hm, em⟩ := within_nI (a := 1) (b := 20) rfl rfl h16
        subst ee
        subst em
        refine v_bipush (v := (-4)) g dX6_best_30 (by decide) ?_
        refine v_istore (ls' := [(4, .int (-4)), (0, .ref R), (1, .int (nI e)), (2, .int (nI m)), (3, .int w)]) g dX6_best_32 rfl rfl ?_
        refine v_bipush (v := (-4)) g dX6_best_34 (by decide) ?_
        refine v_istore (ls' := [(5, .int (-4)), (4, .int (-4)), (0, .ref R), (1, .int (nI e)), (2, .int (nI m)), (3, .int w)]) g dX6_best_36 rfl rfl ?_
        refine v_iconst (v := 0) g dX6_best_38 (by decide) ?_
        refine v_istore (ls' := [(6, .int 0), (5, .int (-4)), (4, .int (-4)), (0, .ref R), (1, .int (nI e)), (2, .int (nI m)), (3, .int w)]) g dX6_best_39 rfl rfl ?_
        refine v_sub (ls' := [(6, .int 0), (5, .int (-4)), (4, .int (-4)), (0, .ref R), (1, .int (nI e)), (2, .int (nI m)), (3, .int w)]) [0, 1, 2, 3, 4, 5, 6] rfl ?_
        exact loop e m (by omega) (by omega) (by unfold besQ; rw [if_neg (by rw [h6]; decide), if_neg (by rw [h16]; decide), if_neg (by rw [h25]; decide), nI_clamp (by omega), nI_clamp (by omega)]) (t 0) 0 _ _ _ (by omega) rfl
      · skip
        have h25 := zB_f0 h25
        refine v_iconst (v := (-1)) g dX6_best_28 (by decide) ?_
        exact v_iret g E dX6_best_29 rfl ⟨by simp [besQ, *], rfl, by simp [besQ, *]⟩
theorem q_allHave  : Ctr l G 0 0 0 0 mX6_allHave [.ref R] n (rem R (qS D t s a) ρ) (some (.int (haveM s))) n (rem R (qS D t s a) ρ) := by
  refine Ctr.of (by decide +kernel) rfl (fun X g E => ?_)
  refine v_sub (ls' := [(0, .ref R)]) [0] rfl ?_
  refine v_aload_n g dX6_allHave_0 0 rfl ?_
  refine v_get g dX6_allHave_1 fl_RX6_22 (rd_M R _ _) rfl ?_
  refine v_iconst (v := 1) g dX6_allHave_4 (by decide) ?_
  refine v_iald g dX6_allHave_5 (rd_MA4 R _ _) (by unfold vp_in; decide) (v_eqi (y := (nI (s 1))) rfl ?_)
  refine v_aload_n g dX6_allHave_6 0 rfl ?_
  refine v_get g dX6_allHave_7 fl_RX6_22 (rd_M R _ _) rfl ?_
  refine v_iconst (v := 2) g dX6_allHave_10 (by decide) ?_
  refine v_iald g dX6_allHave_11 (rd_MA4 R _ _) (by unfold vp_in; decide) (v_eqi (y := (nI (s 2))) rfl ?_)
  refine v_iadd g dX6_allHave_12 (v_eqi (y := nI ((s 1) + (s 2))) (nI_addE rfl rfl) ?_)
  refine v_aload_n g dX6_allHave_13 0 rfl ?_
  refine v_get g dX6_allHave_14 fl_RX6_22 (rd_M R _ _) rfl ?_
  refine v_iconst (v := 3) g dX6_allHave_17 (by decide) ?_
  refine v_iald g dX6_allHave_18 (rd_MA4 R _ _) (by unfold vp_in; decide) (v_eqi (y := (nI (s 3))) rfl ?_)
  refine v_iadd g dX6_allHave_19 (v_eqi (y := nI (((s 1) + (s 2)) + (s 3))) (nI_addE rfl rfl) ?_)
  refine v_aload_n g dX6_allHave_20 0 rfl ?_
  refine v_get g dX6_allHave_21 fl_RX6_22 (rd_M R _ _) rfl ?_
  refine v_iconst (v := 4) g dX6_allHave_24 (by decide) ?_
  refine v_iald g dX6_allHave_25 (rd_MA4 R _ _) (by unfold vp_in; decide) (v_eqi (y := (nI (s 4))) rfl ?_)
  refine v_iadd g dX6_allHave_26 (v_eqi (y := nI ((((s 1) + (s 2)) + (s 3)) + (s 4))) (nI_addE rfl rfl) ?_)
  exact v_iret g E dX6_allHave_27 rfl ⟨by rfl, rfl, rfl⟩
theorem q_cell (hs : OkS t s) (x w : Int32) : Ctr l G 2 43 0 0 mX6_cell [.ref R, .int x, .int w] n (rem R (qS D t s a) ρ) (some (.int (cellR' t s x w))) n (rem R (qS D t s a) ρ) := by
  refine Ctr.of (by decide +kernel) rfl (fun X g E => ?_)
  have o2 := hs.2.1
  refine v_sub (ls' := [(0, .ref R), (1, .int x), (2, .int w)]) [0, 1, 2] rfl ?_
  refine v_aload_n g dX6_cell_0 0 rfl ?_
  refine v_iload_n g dX6_cell_1 1 rfl ?_
  refine v_callV (As := [.int x]) (r := some (.int (zB (cellQ t x)))) g dX6_cell_2 (q_isCell (D := D) (t := t) x) cl_X6_isCell ml_RX6_110 im_X6_isCell (rd_M R _ _) rfl rfl ⟨rfl, rfl, rfl⟩ ?_
  refine v_if_ne (tgt := 10) g dX6_cell_5 (by decide) (fun h5 => ?_) (fun h5 => ?_)
  · skip
    have h5 := zB_t0 h5
    obtain ⟨c, hc, ec⟩ := cellQ_ok hs h5
    subst ec
    refine v_iload_n g dX6_cell_10 2 rfl ?_
    by_cases h11_0 : w = 0
    · skip
      refine v_tableIn (tgt := 40) (off := 29) g dX6_cell_11 (by rw [h11_0]; decide) (by rw [h11_0]; rfl) (by decide) ?_
      refine v_aload_n g dX6_cell_40 0 rfl ?_
      refine v_get g dX6_cell_41 fl_RX6_13 (rd_M R _ _) rfl ?_
      refine v_iconst (v := 3) g dX6_cell_44 (by decide) ?_
      refine v_iload_n g dX6_cell_45 1 rfl ?_
      refine v_iadd g dX6_cell_46 (v_eqi (y := nI (3 + c)) (nI_addE rfl rfl) ?_)
      refine v_iald g dX6_cell_47 (rd_MA1 R _ _) (vp_in_nI (by omega) (by decide)) (v_eqi (y := (nI (t (3 + c)))) (by first | (rw [nI_clamp (by omega)]; done) | (rw [nI_clamp (by omega)]; rfl)) ?_)
      exact v_iret g E dX6_cell_48 rfl ⟨by first | (simp [cellR', *]; done) | (simp [cellR', *, nI_clamp (show c < 2 ^ 31 by omega)]; done), rfl, rfl⟩
    by_cases h11_1 : w = 1
    · skip
      refine v_tableIn (tgt := 49) (off := 38) g dX6_cell_11 (by rw [h11_1]; decide) (by rw [h11_1]; rfl) (by decide) ?_
      refine v_aload_n g dX6_cell_49 0 rfl ?_
      refine v_get g dX6_cell_50 fl_RX6_13 (rd_M R _ _) rfl ?_
      refine v_bipush (v := 39) g dX6_cell_53 (by decide) ?_
      refine v_iload_n g dX6_cell_55 1 rfl ?_
      refine v_iadd g dX6_cell_56 (v_eqi (y := nI (39 + c)) (nI_addE rfl rfl) ?_)
      refine v_iald g dX6_cell_57 (rd_MA1 R _ _) (vp_in_nI (by omega) (by decide)) (v_eqi (y := (nI (t (39 + c)))) (by first | (rw [nI_clamp (by omega)]; done) | (rw [nI_clamp (by omega)]; rfl)) ?_)
      exact v_iret g E dX6_cell_58 rfl ⟨by first | (simp [cellR', *]; done) | (simp [cellR', *, nI_clamp (show c < 2 ^ 31 by omega)]; done), rfl, rfl⟩
    by_cases h11_2 : w = 2
    · skip
      refine v_tableIn (tgt := 59) (off := 48) g dX6_cell_11 (by rw [h11_2]; decide) (by rw [h11_2]; rfl) (by decide) ?_
      refine v_aload_n g dX6_cell_59 0 rfl ?_
      refine v_iload_n g dX6_cell_60 1 rfl ?_
      refine v_callV (As := [.int (nI c)]) (r := some (.int (nI (s (23 + c))))) g dX6_cell_61 (k_X6_lies (D := (qS D t s a)) (c := c) (show c < 36 by omega)) cl_X6_lies ml_RX6_113 im_X6_lies (rd_M R _ _) rfl rfl ⟨rfl, rfl, rfl⟩ ?_
      refine v_iconst (v := 1) g dX6_cell_64 (by decide) ?_
      refine v_icmp_ne (tgt := 72) g dX6_cell_65 (by decide) (fun h65 => ?_) (fun h65 => ?_)
      · skip
        refine v_iconst (v := 0) g dX6_cell_72 (by decide) ?_
        exact v_iret g E dX6_cell_73 rfl ⟨by first | (simp [cellR', *]; done) | (simp [cellR', *, nI_clamp (show c < 2 ^ 31 by omega)]; done), rfl, rfl⟩
      · skip
        refine v_iconst (v := 1) g dX6_cell_68 (by decide) ?_
        refine v_goto (tgt := 73) g dX6_cell_69 (by decide) ?_
        exact v_iret g E dX6_cell_73 rfl ⟨by first | (simp [cellR', *]; done) | (simp [cellR', *, nI_clamp (show c < 2 ^ 31 by omega)]; done), rfl, rfl⟩
    by_cases h11_3 : w = 3
    · skip
      refine v_tableIn (tgt := 74) (off := 63) g dX6_cell_11 (by rw [h11_3]; decide) (by rw [h11_3]; rfl) (by decide) ?_
      refine v_aload_n g dX6_cell_74 0 rfl ?_
      refine v_iload_n g dX6_cell_75 1 rfl ?_
      refine v_callV (As := [.int (nI c)]) (r := some (.int (nI (s (23 + c))))) g dX6_cell_76 (k_X6_lies (D := (qS D t s a)) (c := c) (show c < 36 by omega)) cl_X6_lies ml_RX6_113 im_X6_lies (rd_M R _ _) rfl rfl ⟨rfl, rfl, rfl⟩ ?_
      refine v_iconst (v := 2) g dX6_cell_79 (by decide) ?_
      refine v_icmp_ne (tgt := 88) g dX6_cell_80 (by decide) (fun h80 => ?_) (fun h80 => ?_)
      · skip
        refine v_aload_n g dX6_cell_88 0 rfl ?_
        refine v_iload_n g dX6_cell_89 1 rfl ?_
        refine v_callV (As := [.int (nI c)]) (r := some (.int (treeM t s c))) g dX6_cell_90 (k_X6_treeIn (D := (qS D t s a)) hs (c := c)) cl_X6_treeIn ml_RX6_116 im_X6_treeIn (rd_M R _ _) rfl rfl ⟨rfl, rfl, rfl⟩ ?_
        exact v_iret g E dX6_cell_93 rfl ⟨by first | (simp [cellR', *]; done) | (simp [cellR', *, nI_clamp (show c < 2 ^ 31 by omega)]; done), rfl, rfl⟩
      · skip
        refine v_bipush (v := 9) g dX6_cell_83 (by decide) ?_
        refine v_goto (tgt := 93) g dX6_cell_85 (by decide) ?_
        exact v_iret g E dX6_cell_93 rfl ⟨by first | (simp [cellR', *]; done) | (simp [cellR', *, nI_clamp (show c < 2 ^ 31 by omega)]; done), rfl, rfl⟩
    refine v_tableOut (tgt := 94) g dX6_cell_11 (by have q0 := lv_neT (a := 0) h11_0 rfl; have q1 := lv_neT (a := 1) h11_1 rfl; have q2 := lv_neT (a := 2) h11_2 rfl; have q3 := lv_neT (a := 3) h11_3 rfl; omega) (by decide) ?_
    refine v_iconst (v := (-1)) g dX6_cell_94 (by decide) ?_
    exact v_iret g E dX6_cell_95 rfl ⟨by first | (simp [cellR', *]; done) | (simp [cellR', *, nI_clamp (show c < 2 ^ 31 by omega)]; done), rfl, rfl⟩
  · skip
    have h5 := zB_f0 h5
    refine v_iconst (v := (-1)) g dX6_cell_8 (by decide) ?_
    exact v_iret g E dX6_cell_9 rfl ⟨by first | (simp [cellR', *]; done) | (simp [cellR', *, nI_clamp (show c < 2 ^ 31 by omega)]; done), rfl, rfl⟩
theorem q_row (hs : OkS t s) (r w : Int32) : Ctr l G 3 74 0 0 mX6_row [.ref R, .int r, .int w] n (rem R (qS D t s a) ρ) (some (.int (rowR' t s r w))) n (rem R (qS D t s a) ρ) := by
  obtain ⟨o1, o2, o3, o4, o5, o6, o7, o8, o9, o10, o11⟩ := id hs
  refine Ctr.of (by decide +kernel) rfl (fun X g E => ?_)
  refine v_sub (ls' := [(0, .ref R), (1, .int r), (2, .int w)]) [0, 1, 2] rfl ?_
  refine v_aload_n g dX6_row_0 0 rfl ?_
  refine v_iload_n g dX6_row_1 1 rfl ?_
  refine v_callV (As := [.int r]) (r := some (.int (zB (rowQ t r)))) g dX6_row_2 (q_isRow (D := D) (t := t) r) cl_X6_isRow ml_RX6_126 im_X6_isRow (rd_M R _ _) rfl rfl ⟨rfl, rfl, rfl⟩ ?_
  refine v_if_eq (tgt := 17) g dX6_row_5 (by decide) (fun h5 => ?_) (fun h5 => ?_)
  · skip
    have h5 := zB_f0 h5
    refine v_iconst (v := (-1)) g dX6_row_17 (by decide) ?_
    exact v_iret g E dX6_row_18 rfl ⟨by first | (unfold rowR'; rw [if_neg (by rw [h5]; decide), if_neg (by rw [h14]; decide), nI_clamp (show c < 2 ^ 31 by omega)]; simp [*]; done) | (simp [rowR', *]; done) | (simp [rowR', *, nI_clamp (show c < 2 ^ 31 by omega)]; done), rfl, rfl⟩
  · skip
    have h5 := zB_t0 h5
    refine v_iload_n g dX6_row_8 2 rfl ?_
    refine v_iconst (v := 0) g dX6_row_9 (by decide) ?_
    refine v_iconst (v := 4) g dX6_row_10 (by decide) ?_
    refine v_callS (As := [.int w, .int 0, .int 4]) (r := some (.int (zB (withinC w 0 4)))) g dX6_row_11 (k_X6_in w 0 4) cl_X6_in ml_RX6_54 sm_X6_in rfl ⟨rfl, rfl, rfl⟩ ?_
    refine v_if_ne (tgt := 19) g dX6_row_14 (by decide) (fun h14 => ?_) (fun h14 => ?_)
    · skip
      have h14 := zB_t0 h14
      obtain ⟨c, hc, ec⟩ := rowQ_ok hs h5
      subst ec
      have o10c : s (11 + 4 * c) < t 0 := o10 c hc 0 (by have := o9 c hc; omega)
      refine v_iload_n g dX6_row_19 2 rfl ?_
      by_cases h20_0 : w = 0
      · skip
        refine v_tableIn (tgt := 52) (off := 32) g dX6_row_20 (by rw [h20_0]; decide) (by rw [h20_0]; rfl) (by decide) ?_
        refine v_aload_n g dX6_row_52 0 rfl ?_
        refine v_get g dX6_row_53 fl_RX6_13 (rd_M R _ _) rfl ?_
        refine v_bipush (v := 75) g dX6_row_56 (by decide) ?_
        refine v_iload_n g dX6_row_58 1 rfl ?_
        refine v_iadd g dX6_row_59 (v_eqi (y := nI (75 + c)) (nI_addE rfl rfl) ?_)
        refine v_iald g dX6_row_60 (rd_MA1 R _ _) (vp_in_nI (by omega) (by decide)) (v_eqi (y := (nI (t (75 + c)))) (by first | (rw [nI_clamp (by omega)]; done) | (rw [nI_clamp (by omega)]; rfl)) ?_)
        exact v_iret g E dX6_row_61 rfl ⟨by first | (unfold rowR'; rw [if_neg (by rw [h5]; decide), if_neg (by rw [h14]; decide), nI_clamp (show c < 2 ^ 31 by omega)]; simp [*]; done) | (simp [rowR', *]; done) | (simp [rowR', *, nI_clamp (show c < 2 ^ 31 by omega)]; done), rfl, rfl⟩
      by_cases h20_1 : w = 1
      · skip
        refine v_tableIn (tgt := 62) (off := 42) g dX6_row_20 (by rw [h20_1]; decide) (by rw [h20_1]; rfl) (by decide) ?_
        refine v_aload_n g dX6_row_62 0 rfl ?_
        refine v_get g dX6_row_63 fl_RX6_22 (rd_M R _ _) rfl ?_
        refine v_iconst (v := 5) g dX6_row_66 (by decide) ?_
        refine v_iload_n g dX6_row_67 1 rfl ?_
        refine v_iadd g dX6_row_68 (v_eqi (y := nI (5 + c)) (nI_addE rfl rfl) ?_)
        refine v_iald g dX6_row_69 (rd_MA4 R _ _) (vp_in_nI (by omega) (by decide)) (v_eqi (y := (nI (s (5 + c)))) (by first | (rw [nI_clamp (by omega)]; done) | (rw [nI_clamp (by omega)]; rfl)) ?_)
        exact v_iret g E dX6_row_70 rfl ⟨by first | (unfold rowR'; rw [if_neg (by rw [h5]; decide), if_neg (by rw [h14]; decide), nI_clamp (show c < 2 ^ 31 by omega)]; simp [*]; done) | (simp [rowR', *]; done) | (simp [rowR', *, nI_clamp (show c < 2 ^ 31 by omega)]; done), rfl, rfl⟩
      by_cases h20_2 : w = 2
      · skip
        refine v_tableIn (tgt := 71) (off := 51) g dX6_row_20 (by rw [h20_2]; decide) (by rw [h20_2]; rfl) (by decide) ?_
        refine v_aload_n g dX6_row_71 0 rfl ?_
        refine v_get g dX6_row_72 fl_RX6_13 (rd_M R _ _) rfl ?_
        refine v_bipush (v := 78) g dX6_row_75 (by decide) ?_
        refine v_iload_n g dX6_row_77 1 rfl ?_
        refine v_iadd g dX6_row_78 (v_eqi (y := nI (78 + c)) (nI_addE rfl rfl) ?_)
        refine v_iald g dX6_row_79 (rd_MA1 R _ _) (vp_in_nI (by omega) (by decide)) (v_eqi (y := (nI (t (78 + c)))) (by first | (rw [nI_clamp (by omega)]; done) | (rw [nI_clamp (by omega)]; rfl)) ?_)
        exact v_iret g E dX6_row_80 rfl ⟨by first | (unfold rowR'; rw [if_neg (by rw [h5]; decide), if_neg (by rw [h14]; decide), nI_clamp (show c < 2 ^ 31 by omega)]; simp [*]; done) | (simp [rowR', *]; done) | (simp [rowR', *, nI_clamp (show c < 2 ^ 31 by omega)]; done), rfl, rfl⟩
      by_cases h20_3 : w = 3
      · skip
        refine v_tableIn (tgt := 81) (off := 61) g dX6_row_20 (by rw [h20_3]; decide) (by rw [h20_3]; rfl) (by decide) ?_
        refine v_aload_n g dX6_row_81 0 rfl ?_
        refine v_get g dX6_row_82 fl_RX6_22 (rd_M R _ _) rfl ?_
        refine v_bipush (v := 8) g dX6_row_85 (by decide) ?_
        refine v_iload_n g dX6_row_87 1 rfl ?_
        refine v_iadd g dX6_row_88 (v_eqi (y := nI (8 + c)) (nI_addE rfl rfl) ?_)
        refine v_iald g dX6_row_89 (rd_MA4 R _ _) (vp_in_nI (by omega) (by decide)) (v_eqi (y := (nI (s (8 + c)))) (by first | (rw [nI_clamp (by omega)]; done) | (rw [nI_clamp (by omega)]; rfl)) ?_)
        exact v_iret g E dX6_row_90 rfl ⟨by first | (unfold rowR'; rw [if_neg (by rw [h5]; decide), if_neg (by rw [h14]; decide), nI_clamp (show c < 2 ^ 31 by omega)]; simp [*]; done) | (simp [rowR', *]; done) | (simp [rowR', *, nI_clamp (show c < 2 ^ 31 by omega)]; done), rfl, rfl⟩
      refine v_tableOut (tgt := 91) g dX6_row_20 (by have q0 := lv_neT (a := 0) h20_0 rfl; have q1 := lv_neT (a := 1) h20_1 rfl; have q2 := lv_neT (a := 2) h20_2 rfl; have q3 := lv_neT (a := 3) h20_3 rfl; omega) (by decide) ?_
      refine v_aload_n g dX6_row_91 0 rfl ?_
      refine v_iload_n g dX6_row_92 1 rfl ?_
      refine v_callV (As := [.int (nI c)]) (r := some (.int (headM t s c))) g dX6_row_93 (k_X6_headsFor (D := (qS D t s a)) hs (r := c) (show c < t 2 by omega)) cl_X6_headsFor ml_RX6_129 im_X6_headsFor (rd_M R _ _) rfl rfl ⟨rfl, rfl, rfl⟩ ?_
      refine v_bipush (v := (-4)) g dX6_row_96 (by decide) ?_
      refine v_icmp_ne (tgt := 106) g dX6_row_98 (by decide) (fun h98 => ?_) (fun h98 => ?_)
      · skip
        refine v_aload_n g dX6_row_106 0 rfl ?_
        refine v_aload_n g dX6_row_107 0 rfl ?_
        refine v_get g dX6_row_108 fl_RX6_22 (rd_M R _ _) rfl ?_
        refine v_bipush (v := 11) g dX6_row_111 (by decide) ?_
        refine v_iconst (v := 4) g dX6_row_113 (by decide) ?_
        refine v_iload_n g dX6_row_114 1 rfl ?_
        refine v_imul g dX6_row_115 (v_eqi (y := nI (4 * c)) (nI_mulE rfl rfl) ?_)
        refine v_iadd g dX6_row_116 (v_eqi (y := nI (11 + (4 * c))) (nI_addE rfl rfl) ?_)
        refine v_iald g dX6_row_117 (rd_MA4 R _ _) (vp_in_nI (by omega) (by decide)) (v_eqi (y := (nI (s (11 + (4 * c))))) (by first | (rw [nI_clamp (by omega)]; done) | (rw [nI_clamp (by omega)]; rfl)) ?_)
        refine v_aload_n g dX6_row_118 0 rfl ?_
        refine v_iload_n g dX6_row_119 1 rfl ?_
        refine v_callV (As := [.int (nI c)]) (r := some (.int (headM t s c))) g dX6_row_120 (k_X6_headsFor (D := (qS D t s a)) hs (r := c) (show c < t 2 by omega)) cl_X6_headsFor ml_RX6_129 im_X6_headsFor (rd_M R _ _) rfl rfl ⟨rfl, rfl, rfl⟩ ?_
        refine v_callV (As := [.int (nI (s (11 + (4 * c)))), .int (headM t s c)]) (r := some (.int (besM t (s (11 + (4 * c))) (headM t s c)))) g dX6_row_123 (k_X6_beside (D := (qS D t s a)) hs (c := (s (11 + (4 * c)))) (show (s (11 + (4 * c))) < 36 by omega) (headM t s c)) cl_X6_beside ml_RX6_119 im_X6_beside (rd_M R _ _) rfl rfl ⟨rfl, rfl, rfl⟩ ?_
        exact v_iret g E dX6_row_126 rfl ⟨by first | (unfold rowR'; rw [if_neg (by rw [h5]; decide), if_neg (by rw [h14]; decide), nI_clamp (show c < 2 ^ 31 by omega)]; simp [*]; done) | (simp [rowR', *]; done) | (simp [rowR', *, nI_clamp (show c < 2 ^ 31 by omega)]; done), rfl, rfl⟩
      · skip
        refine v_bipush (v := (-4)) g dX6_row_101 (by decide) ?_
        refine v_goto (tgt := 126) g dX6_row_103 (by decide) ?_
        exact v_iret g E dX6_row_126 rfl ⟨by first | (unfold rowR'; rw [if_neg (by rw [h5]; decide), if_neg (by rw [h14]; decide), nI_clamp (show c < 2 ^ 31 by omega)]; simp [*]; done) | (simp [rowR', *]; done) | (simp [rowR', *, nI_clamp (show c < 2 ^ 31 by omega)]; done), rfl, rfl⟩
    · skip
      have h14 := zB_f0 h14
      refine v_iconst (v := (-1)) g dX6_row_17 (by decide) ?_
      exact v_iret g E dX6_row_18 rfl ⟨by first | (unfold rowR'; rw [if_neg (by rw [h5]; decide), if_neg (by rw [h14]; decide), nI_clamp (show c < 2 ^ 31 by omega)]; simp [*]; done) | (simp [rowR', *]; done) | (simp [rowR', *, nI_clamp (show c < 2 ^ 31 by omega)]; done), rfl, rfl⟩
theorem q_tree (hs : OkS t s) (r w : Int32) : Ctr l G 2 43 0 0 mX6_tree [.ref R, .int r, .int w] n (rem R (qS D t s a) ρ) (some (.int (treeR' t s r w))) n (rem R (qS D t s a) ρ) := by
  obtain ⟨o1, o2, o3, o4, o5, o6, o7, o8, o9, o10, o11⟩ := id hs
  refine Ctr.of (by decide +kernel) rfl (fun X g E => ?_)
  refine v_sub (ls' := [(0, .ref R), (1, .int r), (2, .int w)]) [0, 1, 2] rfl ?_
  refine v_aload_n g dX6_tree_0 0 rfl ?_
  refine v_iload_n g dX6_tree_1 1 rfl ?_
  refine v_callV (As := [.int r]) (r := some (.int (zB (rowQ t r)))) g dX6_tree_2 (q_isRow (D := D) (t := t) r) cl_X6_isRow ml_RX6_126 im_X6_isRow (rd_M R _ _) rfl rfl ⟨rfl, rfl, rfl⟩ ?_
  refine v_if_eq (tgt := 17) g dX6_tree_5 (by decide) (fun h5 => ?_) (fun h5 => ?_)
  · skip
    have h5 := zB_f0 h5
    refine v_iconst (v := (-1)) g dX6_tree_17 (by decide) ?_
    exact v_iret g E dX6_tree_18 rfl ⟨by first | (simp [treeR', *]; done) | (simp [treeR', *, nI_clamp (show c < 2 ^ 31 by omega), nI_clamp (show k < 2 ^ 31 by omega)]; done), rfl, rfl⟩
  · skip
    have h5 := zB_t0 h5
    refine v_iload_n g dX6_tree_8 2 rfl ?_
    refine v_iconst (v := 0) g dX6_tree_9 (by decide) ?_
    refine v_iconst (v := 3) g dX6_tree_10 (by decide) ?_
    refine v_callS (As := [.int w, .int 0, .int 3]) (r := some (.int (zB (withinC w 0 3)))) g dX6_tree_11 (k_X6_in w 0 3) cl_X6_in ml_RX6_54 sm_X6_in rfl ⟨rfl, rfl, rfl⟩ ?_
    refine v_if_ne (tgt := 19) g dX6_tree_14 (by decide) (fun h14 => ?_) (fun h14 => ?_)
    · skip
      have h14 := zB_t0 h14
      obtain ⟨c, hc, ec⟩ := rowQ_ok hs h5
      obtain ⟨k, -, hk, ek⟩ := within_nI (a := 0) (b := 3) rfl rfl h14
      subst ec
      subst ek
      refine v_iload_n g dX6_tree_19 2 rfl ?_
      refine v_aload_n g dX6_tree_20 0 rfl ?_
      refine v_get g dX6_tree_21 fl_RX6_22 (rd_M R _ _) rfl ?_
      refine v_bipush (v := 8) g dX6_tree_24 (by decide) ?_
      refine v_iload_n g dX6_tree_26 1 rfl ?_
      refine v_iadd g dX6_tree_27 (v_eqi (y := nI (8 + c)) (nI_addE rfl rfl) ?_)
      refine v_iald g dX6_tree_28 (rd_MA4 R _ _) (vp_in_nI (by omega) (by decide)) (v_eqi (y := (nI (s (8 + c)))) (by first | (rw [nI_clamp (by omega)]; done) | (rw [nI_clamp (by omega)]; rfl)) ?_)
      refine v_icmp_ge (tgt := 48) g dX6_tree_29 (by decide) (fun h29 => ?_) (fun h29 => ?_)
      · skip
        refine v_bipush (v := (-4)) g dX6_tree_48 (by decide) ?_
        exact v_iret g E dX6_tree_50 rfl ⟨by first | (simp [treeR', *]; done) | (simp [treeR', *, nI_clamp (show c < 2 ^ 31 by omega), nI_clamp (show k < 2 ^ 31 by omega)]; done), rfl, rfl⟩
      · skip
        refine v_aload_n g dX6_tree_32 0 rfl ?_
        refine v_get g dX6_tree_33 fl_RX6_22 (rd_M R _ _) rfl ?_
        refine v_bipush (v := 11) g dX6_tree_36 (by decide) ?_
        refine v_iconst (v := 4) g dX6_tree_38 (by decide) ?_
        refine v_iload_n g dX6_tree_39 1 rfl ?_
        refine v_imul g dX6_tree_40 (v_eqi (y := nI (4 * c)) (nI_mulE rfl rfl) ?_)
        refine v_iadd g dX6_tree_41 (v_eqi (y := nI (11 + (4 * c))) (nI_addE rfl rfl) ?_)
        refine v_iload_n g dX6_tree_42 2 rfl ?_
        refine v_iadd g dX6_tree_43 (v_eqi (y := nI ((11 + (4 * c)) + k)) (nI_addE rfl rfl) ?_)
        refine v_iald g dX6_tree_44 (rd_MA4 R _ _) (vp_in_nI (by omega) (by decide)) (v_eqi (y := (nI (s ((11 + (4 * c)) + k)))) (by first | (rw [nI_clamp (by omega)]; done) | (rw [nI_clamp (by omega)]; rfl)) ?_)
        refine v_goto (tgt := 50) g dX6_tree_45 (by decide) ?_
        exact v_iret g E dX6_tree_50 rfl ⟨by first | (simp [treeR', *]; done) | (simp [treeR', *, nI_clamp (show c < 2 ^ 31 by omega), nI_clamp (show k < 2 ^ 31 by omega)]; done), rfl, rfl⟩
    · skip
      have h14 := zB_f0 h14
      refine v_iconst (v := (-1)) g dX6_tree_17 (by decide) ?_
      exact v_iret g E dX6_tree_18 rfl ⟨by first | (simp [treeR', *]; done) | (simp [treeR', *, nI_clamp (show c < 2 ^ 31 by omega), nI_clamp (show k < 2 ^ 31 by omega)]; done), rfl, rfl⟩
theorem q_has (p : Int32) : Ctr l G 1 22 0 0 mX6_has [.ref R, .int p] n (rem R (qS D t s a) ρ) (some (.int (hasR' s p))) n (rem R (qS D t s a) ρ) := by
  refine Ctr.of (by decide +kernel) rfl (fun X g E => ?_)
  refine v_sub (ls' := [(0, .ref R), (1, .int p)]) [0, 1] rfl ?_
  refine v_iload_n g dX6_has_0 1 rfl ?_
  refine v_iconst (v := 0) g dX6_has_1 (by decide) ?_
  refine v_iconst (v := 3) g dX6_has_2 (by decide) ?_
  refine v_callS (As := [.int p, .int 0, .int 3]) (r := some (.int (zB (withinC p 0 3)))) g dX6_has_3 (k_X6_in p 0 3) cl_X6_in ml_RX6_54 sm_X6_in rfl ⟨rfl, rfl, rfl⟩ ?_
  refine v_if_eq (tgt := 20) g dX6_has_6 (by decide) (fun h6 => ?_) (fun h6 => ?_)
  · skip
    have h6 := zB_f0 h6
    refine v_iconst (v := (-1)) g dX6_has_20 (by decide) ?_
    exact v_iret g E dX6_has_21 rfl ⟨by first | (simp [hasR', *]; done) | (simp [hasR', *, nI_clamp (show c < 2 ^ 31 by omega)]; done), rfl, rfl⟩
  · skip
    have h6 := zB_t0 h6
    obtain ⟨c, -, hc, ec⟩ := within_nI (a := 0) (b := 3) rfl rfl h6
    subst ec
    refine v_aload_n g dX6_has_9 0 rfl ?_
    refine v_get g dX6_has_10 fl_RX6_22 (rd_M R _ _) rfl ?_
    refine v_iconst (v := 1) g dX6_has_13 (by decide) ?_
    refine v_iload_n g dX6_has_14 1 rfl ?_
    refine v_iadd g dX6_has_15 (v_eqi (y := nI (1 + c)) (nI_addE rfl rfl) ?_)
    refine v_iald g dX6_has_16 (rd_MA4 R _ _) (vp_in_nI (by omega) (by decide)) (v_eqi (y := (nI (s (1 + c)))) (by first | (rw [nI_clamp (by omega)]; done) | (rw [nI_clamp (by omega)]; rfl)) ?_)
    refine v_goto (tgt := 21) g dX6_has_17 (by decide) ?_
    exact v_iret g E dX6_has_21 rfl ⟨by first | (simp [hasR', *]; done) | (simp [hasR', *, nI_clamp (show c < 2 ^ 31 by omega)]; done), rfl, rfl⟩
theorem q_count (hs : OkS t s) (w : Int32) : Ctr l G 2 44 0 0 mX6_count [.ref R, .int w] n (rem R (qS D t s a) ρ) (some (.int (countR' D t s w))) n (rem R (qS D t s a) ρ) := by
  refine Ctr.of (by decide +kernel) rfl (fun X g E => ?_)
  refine v_sub (ls' := [(0, .ref R), (1, .int w)]) [0, 1] rfl ?_
  refine v_iload_n g dX6_count_0 1 rfl ?_
  by_cases h1_0 : w = 0
  · skip
    refine v_tableIn (tgt := 64) (off := 63) g dX6_count_1 (by rw [h1_0]; decide) (by rw [h1_0]; rfl) (by decide) ?_
    refine v_aload_n g dX6_count_64 0 rfl ?_
    refine v_get g dX6_count_65 fl_RX6_13 (rd_M R _ _) rfl ?_
    refine v_iconst (v := 0) g dX6_count_68 (by decide) ?_
    refine v_iald g dX6_count_69 (rd_MA1 R _ _) (by unfold vp_in; decide) (v_eqi (y := (nI (t 0))) rfl ?_)
    exact v_iret g E dX6_count_70 rfl ⟨by simp [countR', *], rfl, rfl⟩
  by_cases h1_1 : w = 1
  · skip
    refine v_tableIn (tgt := 71) (off := 70) g dX6_count_1 (by rw [h1_1]; decide) (by rw [h1_1]; rfl) (by decide) ?_
    refine v_aload_n g dX6_count_71 0 rfl ?_
    refine v_get g dX6_count_72 fl_RX6_13 (rd_M R _ _) rfl ?_
    refine v_iconst (v := 1) g dX6_count_75 (by decide) ?_
    refine v_iald g dX6_count_76 (rd_MA1 R _ _) (by unfold vp_in; decide) (v_eqi (y := (nI (t 1))) rfl ?_)
    exact v_iret g E dX6_count_77 rfl ⟨by simp [countR', *], rfl, rfl⟩
  by_cases h1_2 : w = 2
  · skip
    refine v_tableIn (tgt := 78) (off := 77) g dX6_count_1 (by rw [h1_2]; decide) (by rw [h1_2]; rfl) (by decide) ?_
    refine v_aload_n g dX6_count_78 0 rfl ?_
    refine v_get g dX6_count_79 fl_RX6_13 (rd_M R _ _) rfl ?_
    refine v_iconst (v := 2) g dX6_count_82 (by decide) ?_
    refine v_iald g dX6_count_83 (rd_MA1 R _ _) (by unfold vp_in; decide) (v_eqi (y := (nI (t 2))) rfl ?_)
    exact v_iret g E dX6_count_84 rfl ⟨by simp [countR', *], rfl, rfl⟩
  by_cases h1_3 : w = 3
  · skip
    refine v_tableIn (tgt := 85) (off := 84) g dX6_count_1 (by rw [h1_3]; decide) (by rw [h1_3]; rfl) (by decide) ?_
    refine v_aload_n g dX6_count_85 0 rfl ?_
    refine v_get g dX6_count_86 fl_RX6_22 (rd_M R _ _) rfl ?_
    refine v_iconst (v := 0) g dX6_count_89 (by decide) ?_
    refine v_iald g dX6_count_90 (rd_MA4 R _ _) (by unfold vp_in; decide) (v_eqi (y := (nI (s 0))) rfl ?_)
    exact v_iret g E dX6_count_91 rfl ⟨by simp [countR', *], rfl, rfl⟩
  by_cases h1_4 : w = 4
  · skip
    refine v_tableIn (tgt := 92) (off := 91) g dX6_count_1 (by rw [h1_4]; decide) (by rw [h1_4]; rfl) (by decide) ?_
    refine v_aload_n g dX6_count_92 0 rfl ?_
    refine v_get g dX6_count_93 fl_RX6_22 (rd_M R _ _) rfl ?_
    refine v_bipush (v := 8) g dX6_count_96 (by decide) ?_
    refine v_iald g dX6_count_98 (rd_MA4 R _ _) (by unfold vp_in; decide) (v_eqi (y := (nI (s 8))) rfl ?_)
    refine v_aload_n g dX6_count_99 0 rfl ?_
    refine v_get g dX6_count_100 fl_RX6_22 (rd_M R _ _) rfl ?_
    refine v_bipush (v := 9) g dX6_count_103 (by decide) ?_
    refine v_iald g dX6_count_105 (rd_MA4 R _ _) (by unfold vp_in; decide) (v_eqi (y := (nI (s 9))) rfl ?_)
    refine v_iadd g dX6_count_106 (v_eqi (y := nI ((s 8) + (s 9))) (nI_addE rfl rfl) ?_)
    refine v_aload_n g dX6_count_107 0 rfl ?_
    refine v_get g dX6_count_108 fl_RX6_22 (rd_M R _ _) rfl ?_
    refine v_bipush (v := 10) g dX6_count_111 (by decide) ?_
    refine v_iald g dX6_count_113 (rd_MA4 R _ _) (by unfold vp_in; decide) (v_eqi (y := (nI (s 10))) rfl ?_)
    refine v_iadd g dX6_count_114 (v_eqi (y := nI (((s 8) + (s 9)) + (s 10))) (nI_addE rfl rfl) ?_)
    exact v_iret g E dX6_count_115 rfl ⟨by simp [countR', *], rfl, rfl⟩
  by_cases h1_5 : w = 5
  · skip
    refine v_tableIn (tgt := 116) (off := 115) g dX6_count_1 (by rw [h1_5]; decide) (by rw [h1_5]; rfl) (by decide) ?_
    refine v_aload_n g dX6_count_116 0 rfl ?_
    refine v_iconst (v := 2) g dX6_count_117 (by decide) ?_
    refine v_callV (As := [.int 2]) (r := some (.int (countM t s 2))) g dX6_count_118 (k_X6_countOf (D := (qS D t s a)) hs 2) cl_X6_countOf ml_RX6_144 im_X6_countOf (rd_M R _ _) rfl rfl ⟨rfl, rfl, rfl⟩ ?_
    exact v_iret g E dX6_count_121 rfl ⟨by simp [countR', *], rfl, rfl⟩
  by_cases h1_6 : w = 6
  · skip
    refine v_tableIn (tgt := 122) (off := 121) g dX6_count_1 (by rw [h1_6]; decide) (by rw [h1_6]; rfl) (by decide) ?_
    refine v_aload_n g dX6_count_122 0 rfl ?_
    refine v_iconst (v := 1) g dX6_count_123 (by decide) ?_
    refine v_callV (As := [.int 1]) (r := some (.int (countM t s 1))) g dX6_count_124 (k_X6_countOf (D := (qS D t s a)) hs 1) cl_X6_countOf ml_RX6_144 im_X6_countOf (rd_M R _ _) rfl rfl ⟨rfl, rfl, rfl⟩ ?_
    exact v_iret g E dX6_count_127 rfl ⟨by simp [countR', *], rfl, rfl⟩
  by_cases h1_7 : w = 7
  · skip
    refine v_tableIn (tgt := 128) (off := 127) g dX6_count_1 (by rw [h1_7]; decide) (by rw [h1_7]; rfl) (by decide) ?_
    refine v_aload_n g dX6_count_128 0 rfl ?_
    refine v_callV (As := []) (r := some (.int (haveM s))) g dX6_count_129 (q_allHave (D := D) (t := t) (s := s) (a := a)) cl_X6_allHave ml_RX6_181 im_X6_allHave (rd_M R _ _) rfl rfl ⟨rfl, rfl, rfl⟩ ?_
    exact v_iret g E dX6_count_132 rfl ⟨by simp [countR', *], rfl, rfl⟩
  by_cases h1_8 : w = 8
  · skip
    refine v_tableIn (tgt := 133) (off := 132) g dX6_count_1 (by rw [h1_8]; decide) (by rw [h1_8]; rfl) (by decide) ?_
    refine v_aload_n g dX6_count_133 0 rfl ?_
    refine v_get g dX6_count_134 fl_RX6_107 (rd_M R _ _) rfl ?_
    refine v_eqi (y := nI D.1.2.2.2.1) rfl ?_
    exact v_iret g E dX6_count_137 rfl ⟨by simp [countR', *], rfl, rfl⟩
  by_cases h1_9 : w = 9
  · skip
    refine v_tableIn (tgt := 138) (off := 137) g dX6_count_1 (by rw [h1_9]; decide) (by rw [h1_9]; rfl) (by decide) ?_
    refine v_aload_n g dX6_count_138 0 rfl ?_
    refine v_get g dX6_count_139 fl_RX6_101 (rd_M R _ _) rfl ?_
    refine v_eqi (y := nI D.1.2.1) rfl ?_
    exact v_iret g E dX6_count_142 rfl ⟨by simp [countR', *], rfl, rfl⟩
  by_cases h1_10 : w = 10
  · skip
    refine v_tableIn (tgt := 143) (off := 142) g dX6_count_1 (by rw [h1_10]; decide) (by rw [h1_10]; rfl) (by decide) ?_
    refine v_aload_n g dX6_count_143 0 rfl ?_
    refine v_get g dX6_count_144 fl_RX6_104 (rd_M R _ _) rfl ?_
    refine v_eqi (y := nI D.1.2.2.1) rfl ?_
    exact v_iret g E dX6_count_147 rfl ⟨by simp [countR', *], rfl, rfl⟩
  by_cases h1_11 : w = 11
  · skip
    refine v_tableIn (tgt := 148) (off := 147) g dX6_count_1 (by rw [h1_11]; decide) (by rw [h1_11]; rfl) (by decide) ?_
    refine v_aload_n g dX6_count_148 0 rfl ?_
    refine v_get g dX6_count_149 fl_RX6_58 (rd_M R _ _) rfl ?_
    refine v_eqi (y := nI D.1.1) rfl ?_
    exact v_iret g E dX6_count_152 rfl ⟨by simp [countR', *], rfl, rfl⟩
  refine v_tableOut (tgt := 153) g dX6_count_1 (by have q0 := lv_neT (a := 0) h1_0 rfl; have q1 := lv_neT (a := 1) h1_1 rfl; have q2 := lv_neT (a := 2) h1_2 rfl; have q3 := lv_neT (a := 3) h1_3 rfl; have q4 := lv_neT (a := 4) h1_4 rfl; have q5 := lv_neT (a := 5) h1_5 rfl; have q6 := lv_neT (a := 6) h1_6 rfl; have q7 := lv_neT (a := 7) h1_7 rfl; have q8 := lv_neT (a := 8) h1_8 rfl; have q9 := lv_neT (a := 9) h1_9 rfl; have q10 := lv_neT (a := 10) h1_10 rfl; have q11 := lv_neT (a := 11) h1_11 rfl; omega) (by decide) ?_
  refine v_iconst (v := (-1)) g dX6_count_153 (by decide) ?_
  exact v_iret g E dX6_count_154 rfl ⟨by simp [countR', *], rfl, rfl⟩
theorem q_see (hs : OkS t s) (hno : D.1.2.2.2.1 ≤ 6) (r x y : Int32) : Ctr l G 2 43 0 0 mX6_see [.ref R, .int r, .int x, .int y] n (rem R (qS D t s a) ρ) (some (.int (seeQ D t r x y).1)) n (rem R (qS (seeQ D t r x y).2 t s a) ρ) := by
  refine Ctr.of (by decide +kernel) rfl (fun X g E => ?_)
  have o1 := hs.1
  have o2 := hs.2.1
  refine v_sub (ls' := [(0, .ref R), (1, .int r), (2, .int x), (3, .int y)]) [0, 1, 2, 3] rfl ?_
  refine v_aload_n g dX6_see_0 0 rfl ?_
  refine v_iload_n g dX6_see_1 1 rfl ?_
  refine v_callV (As := [.int r]) (r := some (.int (zB (rowQ t r)))) g dX6_see_2 (q_isRow (D := D) (t := t) r) cl_X6_isRow ml_RX6_126 im_X6_isRow (rd_M R _ _) rfl rfl ⟨rfl, rfl, rfl⟩ ?_
  refine v_if_eq (tgt := 26) g dX6_see_5 (by decide) (fun h5 => ?_) (fun h5 => ?_)
  · skip
    have h5 := zB_f0 h5
    refine v_iconst (v := (-1)) g dX6_see_26 (by decide) ?_
    exact v_iret g E dX6_see_27 rfl ⟨by first | (simp [seeQ, *]; done) | (simp [seeQ, *, nI_clamp (show c < 2 ^ 31 by omega), nI_clamp (show e < 2 ^ 31 by omega), nI_clamp (show m < 2 ^ 31 by omega)]; done), rfl, by first | (simp [seeQ, *]; done) | (simp [seeQ, *, nI_clamp (show c < 2 ^ 31 by omega), nI_clamp (show e < 2 ^ 31 by omega), nI_clamp (show m < 2 ^ 31 by omega)]; done)⟩
  · skip
    have h5 := zB_t0 h5
    refine v_aload_n g dX6_see_8 0 rfl ?_
    refine v_iload_n g dX6_see_9 2 rfl ?_
    refine v_callV (As := [.int x]) (r := some (.int (zB (cellQ t x)))) g dX6_see_10 (q_isCell (D := D) (t := t) x) cl_X6_isCell ml_RX6_110 im_X6_isCell (rd_M R _ _) rfl rfl ⟨rfl, rfl, rfl⟩ ?_
    refine v_if_eq (tgt := 26) g dX6_see_13 (by decide) (fun h13 => ?_) (fun h13 => ?_)
    · skip
      have h13 := zB_f0 h13
      refine v_iconst (v := (-1)) g dX6_see_26 (by decide) ?_
      exact v_iret g E dX6_see_27 rfl ⟨by first | (simp [seeQ, *]; done) | (simp [seeQ, *, nI_clamp (show c < 2 ^ 31 by omega), nI_clamp (show e < 2 ^ 31 by omega), nI_clamp (show m < 2 ^ 31 by omega)]; done), rfl, by first | (simp [seeQ, *]; done) | (simp [seeQ, *, nI_clamp (show c < 2 ^ 31 by omega), nI_clamp (show e < 2 ^ 31 by omega), nI_clamp (show m < 2 ^ 31 by omega)]; done)⟩
    · skip
      have h13 := zB_t0 h13
      refine v_iload_n g dX6_see_16 3 rfl ?_
      refine v_iconst (v := 0) g dX6_see_17 (by decide) ?_
      refine v_bipush (v := 20) g dX6_see_18 (by decide) ?_
      refine v_callS (As := [.int y, .int 0, .int 20]) (r := some (.int (zB (withinC y 0 20)))) g dX6_see_20 (k_X6_in y 0 20) cl_X6_in ml_RX6_54 sm_X6_in rfl ⟨rfl, rfl, rfl⟩ ?_
      refine v_if_ne (tgt := 28) g dX6_see_23 (by decide) (fun h23 => ?_) (fun h23 => ?_)
      · skip
        have h23 := zB_t0 h23
        obtain ⟨c, hc, ec⟩ := rowQ_ok hs h5
        obtain ⟨e, he, ee⟩ := cellQ_ok hs h13
        obtain ⟨m, -, hm, em⟩ := within_nI (a := 0) (b := 20) rfl rfl h23
        subst ec
        subst ee
        subst em
        refine v_aload_n g dX6_see_28 0 rfl ?_
        refine v_get g dX6_see_29 fl_RX6_107 (rd_M R _ _) rfl ?_
        refine v_eqi (y := nI D.1.2.2.2.1) rfl ?_
        refine v_bipush (v := 6) g dX6_see_32 (by decide) ?_
        refine v_icmp_ne (tgt := 40) g dX6_see_34 (by decide) (fun h34 => ?_) (fun h34 => ?_)
        · skip
          have h34n : ¬ D.1.2.2.2.1 = 6 := fun q => h34 (by rw [q]; rfl)
          refine v_meq (μ' := rem R (qS (uS D (D.1.1, D.1.2.1, D.1.2.2.1, D.1.2.2.2.1, D.1.2.2.2.2) (D.2 5) (D.2 6) (D.2 7)) t s a) ρ) (congrArg (fun z => rem R (qS z t s a) ρ) (uS_id D).symm) ?_
          refine v_aload_n g dX6_see_40 0 rfl ?_
          refine v_get g dX6_see_41 fl_RX6_31 (rd_M R _ _) rfl ?_
          refine v_iconst (v := 3) g dX6_see_44 (by decide) ?_
          refine v_aload_n g dX6_see_45 0 rfl ?_
          refine v_get g dX6_see_46 fl_RX6_107 (rd_M R _ _) rfl ?_
          refine v_eqi (y := nI D.1.2.2.2.1) rfl ?_
          refine v_imul g dX6_see_49 (v_eqi (y := nI (3 * D.1.2.2.2.1)) (nI_mulE rfl rfl) ?_)
          refine v_iload_n g dX6_see_50 1 rfl ?_
          refine v_iast g dX6_see_51 (rd_MA7 R _ _) (vp_in_nI (by omega) (by decide)) ?_
          rw [nI_clamp (n := (3 * D.1.2.2.2.1)) (by omega)]
          refine v_meq (μ' := rem R (qS (uS D (D.1.1, D.1.2.1, D.1.2.2.1, D.1.2.2.2.1, D.1.2.2.2.2) (D.2 5) (D.2 6) (va_up (D.2 7) (3 * D.1.2.2.2.1) c)) t s a) ρ) (st_GA R (qS (uS D (D.1.1, D.1.2.1, D.1.2.2.1, D.1.2.2.2.1, D.1.2.2.2.2) (D.2 5) (D.2 6) (D.2 7)) t s a) (qS (uS D (D.1.1, D.1.2.1, D.1.2.2.1, D.1.2.2.2.1, D.1.2.2.2.2) (D.2 5) (D.2 6) (va_up (D.2 7) (3 * D.1.2.2.2.1) c)) t s a) ρ 7 (by decide) (D.2 7) (3 * D.1.2.2.2.1) c rfl rfl rfl (fun j hj => by simp only [qS, uS, tA, va_up, if_neg hj])) ?_
          refine v_aload_n g dX6_see_52 0 rfl ?_
          refine v_get g dX6_see_53 fl_RX6_31 (rd_M R _ _) rfl ?_
          refine v_iconst (v := 3) g dX6_see_56 (by decide) ?_
          refine v_aload_n g dX6_see_57 0 rfl ?_
          refine v_get g dX6_see_58 fl_RX6_107 (rd_M R _ _) rfl ?_
          refine v_eqi (y := nI D.1.2.2.2.1) rfl ?_
          refine v_imul g dX6_see_61 (v_eqi (y := nI (3 * D.1.2.2.2.1)) (nI_mulE rfl rfl) ?_)
          refine v_iconst (v := 1) g dX6_see_62 (by decide) ?_
          refine v_iadd g dX6_see_63 (v_eqi (y := nI ((3 * D.1.2.2.2.1) + 1)) (nI_addE rfl rfl) ?_)
          refine v_iload_n g dX6_see_64 2 rfl ?_
          refine v_iast g dX6_see_65 (rd_MA7 R _ _) (vp_in_nI (by omega) (by decide)) ?_
          rw [nI_clamp (n := ((3 * D.1.2.2.2.1) + 1)) (by omega)]
          refine v_meq (μ' := rem R (qS (uS D (D.1.1, D.1.2.1, D.1.2.2.1, D.1.2.2.2.1, D.1.2.2.2.2) (D.2 5) (D.2 6) (va_up (va_up (D.2 7) (3 * D.1.2.2.2.1) c) ((3 * D.1.2.2.2.1) + 1) e)) t s a) ρ) (st_GA R (qS (uS D (D.1.1, D.1.2.1, D.1.2.2.1, D.1.2.2.2.1, D.1.2.2.2.2) (D.2 5) (D.2 6) (va_up (D.2 7) (3 * D.1.2.2.2.1) c)) t s a) (qS (uS D (D.1.1, D.1.2.1, D.1.2.2.1, D.1.2.2.2.1, D.1.2.2.2.2) (D.2 5) (D.2 6) (va_up (va_up (D.2 7) (3 * D.1.2.2.2.1) c) ((3 * D.1.2.2.2.1) + 1) e)) t s a) ρ 7 (by decide) (va_up (D.2 7) (3 * D.1.2.2.2.1) c) ((3 * D.1.2.2.2.1) + 1) e rfl rfl rfl (fun j hj => by simp only [qS, uS, tA, va_up, if_neg hj])) ?_
          refine v_aload_n g dX6_see_66 0 rfl ?_
          refine v_get g dX6_see_67 fl_RX6_31 (rd_M R _ _) rfl ?_
          refine v_iconst (v := 3) g dX6_see_70 (by decide) ?_
          refine v_aload_n g dX6_see_71 0 rfl ?_
          refine v_get g dX6_see_72 fl_RX6_107 (rd_M R _ _) rfl ?_
          refine v_eqi (y := nI D.1.2.2.2.1) rfl ?_
          refine v_imul g dX6_see_75 (v_eqi (y := nI (3 * D.1.2.2.2.1)) (nI_mulE rfl rfl) ?_)
          refine v_iconst (v := 2) g dX6_see_76 (by decide) ?_
          refine v_iadd g dX6_see_77 (v_eqi (y := nI ((3 * D.1.2.2.2.1) + 2)) (nI_addE rfl rfl) ?_)
          refine v_iload_n g dX6_see_78 3 rfl ?_
          refine v_iast g dX6_see_79 (rd_MA7 R _ _) (vp_in_nI (by omega) (by decide)) ?_
          rw [nI_clamp (n := ((3 * D.1.2.2.2.1) + 2)) (by omega)]
          refine v_meq (μ' := rem R (qS (uS D (D.1.1, D.1.2.1, D.1.2.2.1, D.1.2.2.2.1, D.1.2.2.2.2) (D.2 5) (D.2 6) (va_up (va_up (va_up (D.2 7) (3 * D.1.2.2.2.1) c) ((3 * D.1.2.2.2.1) + 1) e) ((3 * D.1.2.2.2.1) + 2) m)) t s a) ρ) (st_GA R (qS (uS D (D.1.1, D.1.2.1, D.1.2.2.1, D.1.2.2.2.1, D.1.2.2.2.2) (D.2 5) (D.2 6) (va_up (va_up (D.2 7) (3 * D.1.2.2.2.1) c) ((3 * D.1.2.2.2.1) + 1) e)) t s a) (qS (uS D (D.1.1, D.1.2.1, D.1.2.2.1, D.1.2.2.2.1, D.1.2.2.2.2) (D.2 5) (D.2 6) (va_up (va_up (va_up (D.2 7) (3 * D.1.2.2.2.1) c) ((3 * D.1.2.2.2.1) + 1) e) ((3 * D.1.2.2.2.1) + 2) m)) t s a) ρ 7 (by decide) (va_up (va_up (D.2 7) (3 * D.1.2.2.2.1) c) ((3 * D.1.2.2.2.1) + 1) e) ((3 * D.1.2.2.2.1) + 2) m rfl rfl rfl (fun j hj => by simp only [qS, uS, tA, va_up, if_neg hj])) ?_
          refine v_aload_n g dX6_see_80 0 rfl ?_
          refine v_dup g dX6_see_81 rfl ?_
          refine v_get g dX6_see_82 fl_RX6_107 (rd_M R _ _) rfl ?_
          refine v_eqi (y := nI D.1.2.2.2.1) rfl ?_
          refine v_iconst (v := 1) g dX6_see_85 (by decide) ?_
          refine v_iadd g dX6_see_86 (v_eqi (y := nI (D.1.2.2.2.1 + 1)) (nI_addE rfl rfl) ?_)
          refine v_put g dX6_see_87 fl_RX6_107 (rd_M R _ _) ⟨rfl, rfl⟩ rfl ?_
          refine v_meq (μ' := rem R (qS (uS D (D.1.1, D.1.2.1, D.1.2.2.1, (D.1.2.2.2.1 + 1), D.1.2.2.2.2) (D.2 5) (D.2 6) (va_up (va_up (va_up (D.2 7) (3 * D.1.2.2.2.1) c) ((3 * D.1.2.2.2.1) + 1) e) ((3 * D.1.2.2.2.1) + 2) m)) t s a) ρ) (st_GW R (qS (uS D (D.1.1, D.1.2.1, D.1.2.2.1, D.1.2.2.2.1, D.1.2.2.2.2) (D.2 5) (D.2 6) (va_up (va_up (va_up (D.2 7) (3 * D.1.2.2.2.1) c) ((3 * D.1.2.2.2.1) + 1) e) ((3 * D.1.2.2.2.1) + 2) m)) t s a) (qS (uS D (D.1.1, D.1.2.1, D.1.2.2.1, (D.1.2.2.2.1 + 1), D.1.2.2.2.2) (D.2 5) (D.2 6) (va_up (va_up (va_up (D.2 7) (3 * D.1.2.2.2.1) c) ((3 * D.1.2.2.2.1) + 1) e) ((3 * D.1.2.2.2.1) + 2) m)) t s a) ρ (D.1.1, D.1.2.1, D.1.2.2.1, (D.1.2.2.2.1 + 1), D.1.2.2.2.2) rfl rfl) ?_
          refine v_aload_n g dX6_see_90 0 rfl ?_
          refine v_get g dX6_see_91 fl_RX6_107 (rd_M R _ _) rfl ?_
          refine v_eqi (y := nI (D.1.2.2.2.1 + 1)) rfl ?_
          exact v_iret g E dX6_see_94 rfl ⟨by first | (simp [seeQ, *]; done) | (simp [seeQ, *, nI_clamp (show c < 2 ^ 31 by omega), nI_clamp (show e < 2 ^ 31 by omega), nI_clamp (show m < 2 ^ 31 by omega)]; done), rfl, by first | (simp [seeQ, *]; done) | (simp [seeQ, *, nI_clamp (show c < 2 ^ 31 by omega), nI_clamp (show e < 2 ^ 31 by omega), nI_clamp (show m < 2 ^ 31 by omega)]; done)⟩
        · skip
          have h34n : D.1.2.2.2.1 = 6 := (nI_eq (b := 6) (by omega) (by decide)).mp h34
          refine v_bipush (v := (-3)) g dX6_see_37 (by decide) ?_
          exact v_iret g E dX6_see_39 rfl ⟨by first | (simp [seeQ, *]; done) | (simp [seeQ, *, nI_clamp (show c < 2 ^ 31 by omega), nI_clamp (show e < 2 ^ 31 by omega), nI_clamp (show m < 2 ^ 31 by omega)]; done), rfl, by first | (simp [seeQ, *]; done) | (simp [seeQ, *, nI_clamp (show c < 2 ^ 31 by omega), nI_clamp (show e < 2 ^ 31 by omega), nI_clamp (show m < 2 ^ 31 by omega)]; done)⟩
      · skip
        have h23 := zB_f0 h23
        refine v_iconst (v := (-1)) g dX6_see_26 (by decide) ?_
        exact v_iret g E dX6_see_27 rfl ⟨by first | (simp [seeQ, *]; done) | (simp [seeQ, *, nI_clamp (show c < 2 ^ 31 by omega), nI_clamp (show e < 2 ^ 31 by omega), nI_clamp (show m < 2 ^ 31 by omega)]; done), rfl, by first | (simp [seeQ, *]; done) | (simp [seeQ, *, nI_clamp (show c < 2 ^ 31 by omega), nI_clamp (show e < 2 ^ 31 by omega), nI_clamp (show m < 2 ^ 31 by omega)]; done)⟩
theorem q_forget  : Ctr l G 0 0 0 0 mX6_forget [.ref R] n (rem R (qS D t s a) ρ) (some (.int (forgetQ D).1)) n (rem R (qS (forgetQ D).2 t s a) ρ) := by
  refine Ctr.of (by decide +kernel) rfl (fun X g E => ?_)
  refine v_sub (ls' := [(0, .ref R)]) [0] rfl ?_
  refine v_aload_n g dX6_forget_0 0 rfl ?_
  refine v_get g dX6_forget_1 fl_RX6_107 (rd_M R _ _) rfl ?_
  refine v_eqi (y := nI D.1.2.2.2.1) rfl ?_
  refine v_istore_n (ls' := [(1, .int (nI D.1.2.2.2.1)), (0, .ref R)]) g dX6_forget_4 rfl rfl ?_
  refine v_aload_n g dX6_forget_5 1 rfl ?_
  refine v_iconst (v := 0) g dX6_forget_6 (by decide) ?_
  refine v_put g dX6_forget_7 fl_RX6_107 (rd_M R _ _) ⟨rfl, rfl⟩ rfl ?_
  refine v_meq (μ' := rem R (qS (uS D (D.1.1, D.1.2.1, D.1.2.2.1, 0, D.1.2.2.2.2) (D.2 5) (D.2 6) (D.2 7)) t s a) ρ) (st_GW R (qS D t s a) (qS (uS D (D.1.1, D.1.2.1, D.1.2.2.1, 0, D.1.2.2.2.2) (D.2 5) (D.2 6) (D.2 7)) t s a) ρ (D.1.1, D.1.2.1, D.1.2.2.1, 0, D.1.2.2.2.2) rfl (congrArg (fun z => va_up (va_up (va_up z 1 t) 4 s) 8 a) (uS_2 D _))) ?_
  refine v_iload_n g dX6_forget_10 0 rfl ?_
  exact v_iret g E dX6_forget_11 rfl ⟨by rfl, rfl, rfl⟩
end R10
