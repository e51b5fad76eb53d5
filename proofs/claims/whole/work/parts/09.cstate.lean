/-! THE CLASS'S STATE: plain data; `ren` lays it out as memory, from the address B on -/
abbrev LV : Type := Int64 × Int64 × Int64 × Int32 × Int32 × (Nat → Int32)
abbrev RV : Type := Int32 × Int32 × Int32 × Int32 × (Nat → Int32)
abbrev OV : Type := Int32 × Int32 × Int64 × Int64 × Int64 × Int64 × (Nat → Int32) × (Nat → RV)
/-- (text's length, how many seen); int arrays (0 text, 1 2 3 seen, 4 found, 5 numbers, 6 the first text); lands; orchards; pasts (count, which orchard); reader (told, length, at, where its letters are); entered by -/
abbrev CS : Type := (Int32 × Int32) × (Nat → Nat → Int32) × (Nat → LV) × (Nat → OV) × (Nat → Int32 × (Nat → Nat)) × (Int32 × Int32 × Int32 × Nat) × (Nat → Int64)
def cW (C : CS) : Int32 × Int32 := C.1
def cA (C : CS) : Nat → Nat → Int32 := C.2.1
def cL (C : CS) : Nat → LV := C.2.2.1
def cO (C : CS) : Nat → OV := C.2.2.2.1
def cP (C : CS) : Nat → Int32 × (Nat → Nat) := C.2.2.2.2.1
def cR (C : CS) : Int32 × Int32 × Int32 × Nat := C.2.2.2.2.2.1
def cE (C : CS) : Nat → Int64 := C.2.2.2.2.2.2
def sW (C : CS) (v : Int32 × Int32) : CS := (v, C.2)
def sA (C : CS) (k : Nat) (f : Nat → Int32) : CS := (C.1, va_up C.2.1 k f, C.2.2)
def sL (C : CS) (i : Nat) (v : LV) : CS := (C.1, C.2.1, va_up C.2.2.1 i v, C.2.2.2)
def sO (C : CS) (i : Nat) (v : OV) : CS := (C.1, C.2.1, C.2.2.1, va_up C.2.2.2.1 i v, C.2.2.2.2)
def sP (C : CS) (j : Nat) (v : Int32 × (Nat → Nat)) : CS := (C.1, C.2.1, C.2.2.1, C.2.2.2.1, va_up C.2.2.2.2.1 j v, C.2.2.2.2.2)
def sR (C : CS) (v : Int32 × Int32 × Int32 × Nat) : CS := (C.1, C.2.1, C.2.2.1, C.2.2.2.1, C.2.2.2.2.1, v, C.2.2.2.2.2.2)
def sE (C : CS) (f : Nat → Int64) : CS := (C.1, C.2.1, C.2.2.1, C.2.2.2.1, C.2.2.2.2.1, C.2.2.2.2.2.1, f)
theorem va_up_up {α : Type} (f : Nat → α) (k : Nat) (v w : α) : va_up (va_up f k v) k w = va_up f k w := by funext j; simp only [va_up]; split <;> rfl
theorem va_up_id {α : Type} (f : Nat → α) (k : Nat) : va_up f k (f k) = f := by funext j; simp only [va_up]; split; (next h => rw [h]); rfl
theorem sA_sA (C : CS) (k : Nat) (v w : Nat → Int32) : sA (sA C k v) k w = sA C k w := by simp only [sA, va_up_up]
theorem sA_id (C : CS) (k : Nat) : sA C k (cA C k) = C := by simp only [sA, cA, va_up_id]
theorem cA_sA (C : CS) (k : Nat) (v : Nat → Int32) : cA (sA C k v) k = v := va_up_self _ _ _
theorem cA_sA_ne (C : CS) {k j : Nat} (v : Nat → Int32) (h : j ≠ k) : cA (sA C k v) j = cA C j := va_up_ne _ _ h
theorem sL_sL (C : CS) (k : Nat) (v w : LV) : sL (sL C k v) k w = sL C k w := by simp only [sL, va_up_up]
theorem sL_id (C : CS) (k : Nat) : sL C k (cL C k) = C := by simp only [sL, cL, va_up_id]
theorem cL_sL (C : CS) (k : Nat) (v : LV) : cL (sL C k v) k = v := va_up_self _ _ _
theorem cL_sL_ne (C : CS) {k j : Nat} (v : LV) (h : j ≠ k) : cL (sL C k v) j = cL C j := va_up_ne _ _ h
theorem sO_sO (C : CS) (k : Nat) (v w : OV) : sO (sO C k v) k w = sO C k w := by simp only [sO, va_up_up]
theorem sO_id (C : CS) (k : Nat) : sO C k (cO C k) = C := by simp only [sO, cO, va_up_id]
theorem cO_sO (C : CS) (k : Nat) (v : OV) : cO (sO C k v) k = v := va_up_self _ _ _
theorem cO_sO_ne (C : CS) {k j : Nat} (v : OV) (h : j ≠ k) : cO (sO C k v) j = cO C j := va_up_ne _ _ h
theorem sP_sP (C : CS) (k : Nat) (v w : Int32 × (Nat → Nat)) : sP (sP C k v) k w = sP C k w := by simp only [sP, va_up_up]
theorem sP_id (C : CS) (k : Nat) : sP C k (cP C k) = C := by simp only [sP, cP, va_up_id]
theorem cP_sP (C : CS) (k : Nat) (v : Int32 × (Nat → Nat)) : cP (sP C k v) k = v := va_up_self _ _ _
theorem cP_sP_ne (C : CS) {k j : Nat} (v : Int32 × (Nat → Nat)) (h : j ≠ k) : cP (sP C k v) j = cP C j := va_up_ne _ _ h
-- where things lie
def oB (i : Nat) : Nat := if i = 0 then 4 else if i = 1 then 13 else if i = 2 then 25 else if i < 11 then 38 + 9 * (i - 3) else 112 + 9 * (i - 11)
def lB (i : Nat) : Nat := if i = 0 then 2 else 23
def pB (j : Nat) : Nat := if j = 0 then 36 else 110
def aB (k : Nat) : Nat := if k = 0 then 1 else if k = 1 then 130 else if k = 2 then 131 else if k = 3 then 132 else if k = 4 then 133 else if k = 5 then 34 else 135
def aLen (k : Nat) : Nat := if k = 0 then 200 else if k = 4 then 2 else if k = 5 then 7 else if k = 6 then 101 else 6
def aTy (k : Nat) : Nat := if k = 0 then 2 else if k = 6 then 2 else 0
def pLen (j : Nat) : Nat := if j = 0 then 8 else 2
def adL (B i : Nat) : Nat := B + lB i
def adLo (B i : Nat) : Nat := B + (lB i + 1)
def adO (B i : Nat) : Nat := B + oB i
def adRs (B i : Nat) : Nat := B + (oB i + 1)
def adOw (B i : Nat) : Nat := B + (oB i + 2)
def adR (B i r : Nat) : Nat := B + (oB i + 3 + 2 * r)
def adT (B i r : Nat) : Nat := B + (oB i + 4 + 2 * r)
def adP (B j : Nat) : Nat := B + pB j
def adPa (B j : Nat) : Nat := B + (pB j + 1)
def adA (B k : Nat) : Nat := B + aB k
def landOf (i : Nat) : Nat := if i = 2 then 1 else 0
-- which cell lies where: kind, number, row
def dec (k : Nat) : Nat × Nat × Nat :=
  let o := fun (i d : Nat) => if d = 0 then (4, i, 0) else if d = 1 then (5, i, 0) else if d = 2 then (6, i, 0) else if d % 2 = 1 then (7, i, (d - 3) / 2) else (8, i, (d - 4) / 2)
  if k = 0 then (0, 0, 0) else if k = 1 then (1, 0, 0) else if k = 2 then (2, 0, 0) else if k = 3 then (3, 0, 0) else if k < 13 then o 0 (k - 4) else if k < 22 then o 1 (k - 13) else if k = 22 then (11, 0, 0) else if k = 23 then (2, 1, 0) else if k = 24 then (3, 1, 0)
  else if k < 34 then o 2 (k - 25) else if k = 34 then (1, 5, 0) else if k = 35 then (13, 0, 0) else if k = 36 then (9, 0, 0) else if k = 37 then (10, 0, 0) else if k < 110 then o (3 + (k - 38) / 9) ((k - 38) % 9) else if k = 110 then (9, 1, 0) else if k = 111 then (10, 1, 0)
  else if k < 130 then o (11 + (k - 112) / 9) ((k - 112) % 9) else if k = 130 then (1, 1, 0) else if k = 131 then (1, 2, 0) else if k = 132 then (1, 3, 0) else if k = 133 then (1, 4, 0) else if k = 134 then (12, 0, 0) else (1, 6, 0)
def enc (q : Nat × Nat × Nat) : Nat := match q with
  | (0, _, _) => 0
  | (1, i, _) => aB i
  | (2, i, _) => lB i
  | (3, i, _) => lB i + 1
  | (4, i, _) => oB i
  | (5, i, _) => oB i + 1
  | (6, i, _) => oB i + 2
  | (7, i, r) => oB i + 3 + 2 * r
  | (8, i, r) => oB i + 4 + 2 * r
  | (9, j, _) => pB j
  | (10, j, _) => pB j + 1
  | (11, _, _) => 22
  | (12, _, _) => 134
  | _ => 35
theorem enc_dec : ∀ k, k < 136 → enc (dec k) = k := by decide +kernel
/-- the keys in use have no junk -/
def keyOk (q : Nat × Nat × Nat) : Bool := ((q.1 == 7) || (q.1 == 8) || (q.2.2 == 0)) && ((!(q.1 == 0) && !(q.1 == 11) && !(q.1 == 12) && !(q.1 == 13)) || (q.2.1 == 0))
theorem dec_ok : ∀ k, k < 136 → keyOk (dec k) = true := by decide +kernel
def cellC (B : Nat) (C : CS) (q : Nat × Nat × Nat) : Ce := match q with
  | (0, _, _) => .inr (5, [.ref (adA B 0), .int (cW C).1, .ref (adL B 0), .ref (adO B 0), .ref (adO B 1), .ref (B + 22), .ref (adP B 0), .ref (adP B 1), .ref (adA B 1), .ref (adA B 2), .ref (adA B 3), .int (cW C).2, .ref (adA B 4), .ref (B + 134)])
  | (1, k, _) => .inl (aTy k, aLen k, .inl (cA C k))
  | (2, i, _) => .inr (0, [.ref (adLo B i), .long (cL C i).1, .long (cL C i).2.1, .long (cL C i).2.2.1, .int (cL C i).2.2.2.1, .int (cL C i).2.2.2.2.1])
  | (3, i, _) => .inl (0, 36, .inl (cL C i).2.2.2.2.2)
  | (4, i, _) => .inr (1, [.ref (adL B (landOf i)), .ref (adRs B i), .ref (adOw B i), .int (cO C i).1, .int (cO C i).2.1, .long (cO C i).2.2.1, .long (cO C i).2.2.2.1, .long (cO C i).2.2.2.2.1, .long (cO C i).2.2.2.2.2.1])
  | (5, i, _) => .inl (3, 3, .inr (.inr (.inr (.inr (fun r => some (adR B i r))))))
  | (6, i, _) => .inl (0, 4, .inl (cO C i).2.2.2.2.2.2.1)
  | (7, i, r) => .inr (4, [.ref (adT B i r), .int ((cO C i).2.2.2.2.2.2.2 r).1, .int ((cO C i).2.2.2.2.2.2.2 r).2.1, .int ((cO C i).2.2.2.2.2.2.2 r).2.2.1, .int ((cO C i).2.2.2.2.2.2.2 r).2.2.2.1])
  | (8, i, r) => .inl (0, 4, .inl ((cO C i).2.2.2.2.2.2.2 r).2.2.2.2)
  | (9, j, _) => .inr (2, [.ref (adPa B j), .int (cP C j).1])
  | (10, j, _) => .inl (4, pLen j, .inr (.inr (.inr (.inr (fun k => some (adO B ((cP C j).2 k)))))))
  | (11, _, _) => .inr (3, [.ref (adL B 1), .ref (adO B 2), .ref (adA B 5), .int (cR C).1, .ref (B + (cR C).2.2.2), .int (cR C).2.1, .int (cR C).2.2.1])
  | (12, _, _) => .inl (1, 36, .inr (.inl (cE C)))
  | _ => .inl (2, 0, .inl (fun _ => 0))
def ren (B : Nat) (C : CS) (ρ : Mu) : Mu := fun a => if B ≤ a ∧ a < B + 136 then some (cellC B C (dec (a - B))) else ρ a
theorem ren_at (B : Nat) (C : CS) (ρ : Mu) {k : Nat} (hk : k < 136) : ren B C ρ (B + k) = some (cellC B C (dec k)) := by
  unfold ren
  rw [if_pos ⟨by omega, by omega⟩, Nat.add_sub_cancel_left]
theorem ren_set (B : Nat) {C C' : CS} (ρ : Mu) {k : Nat} (hk : k < 136) {e : Ce} (he : cellC B C' (dec k) = e) (hne : ∀ q, keyOk q = true → q ≠ dec k → cellC B C' q = cellC B C q) : mset (ren B C ρ) (B + k) e = ren B C' ρ := by
  funext a
  by_cases ha : a = B + k
  · subst ha
    rw [mset_self, ren_at B C' ρ hk, he]
  · rw [mset_ne _ _ ha]
    unfold ren
    by_cases hb : B ≤ a ∧ a < B + 136
    · rw [if_pos hb, if_pos hb, hne _ (dec_ok _ (by omega))]
      intro h
      have h2 := congrArg enc h
      rw [enc_dec _ (by omega), enc_dec _ hk] at h2
      omega
    · rw [if_neg hb, if_neg hb]
theorem dec_L : ∀ i, i < 2 → dec (lB i) = (2, i, 0) ∧ lB i < 136 := by decide +kernel
theorem dec_Lo : ∀ i, i < 2 → dec (lB i + 1) = (3, i, 0) ∧ lB i + 1 < 136 := by decide +kernel
theorem dec_O : ∀ i, i < 13 → dec (oB i) = (4, i, 0) ∧ oB i < 136 := by decide +kernel
theorem dec_Rs : ∀ i, i < 13 → dec (oB i + 1) = (5, i, 0) ∧ oB i + 1 < 136 := by decide +kernel
theorem dec_Ow : ∀ i, i < 13 → dec (oB i + 2) = (6, i, 0) ∧ oB i + 2 < 136 := by decide +kernel
theorem dec_R : ∀ i, i < 13 → ∀ r, r < 3 → dec (oB i + 3 + 2 * r) = (7, i, r) ∧ oB i + 3 + 2 * r < 136 := by decide +kernel
theorem dec_T : ∀ i, i < 13 → ∀ r, r < 3 → dec (oB i + 4 + 2 * r) = (8, i, r) ∧ oB i + 4 + 2 * r < 136 := by decide +kernel
theorem dec_P : ∀ j, j < 2 → dec (pB j) = (9, j, 0) ∧ pB j < 136 := by decide +kernel
theorem dec_Pa : ∀ j, j < 2 → dec (pB j + 1) = (10, j, 0) ∧ pB j + 1 < 136 := by decide +kernel
theorem dec_A : ∀ k, k < 7 → dec (aB k) = (1, k, 0) ∧ aB k < 136 := by decide +kernel
theorem landOf_lt (i : Nat) : landOf i < 2 := by unfold landOf; split <;> decide
theorem rd_L (B : Nat) (C : CS) (ρ : Mu) {i : Nat} (hi : i < 2) : ren B C ρ (adL B i) = some (cellC B C (2, i, 0)) := by
  have h := dec_L i hi
  unfold adL
  rw [ren_at B C ρ h.2, h.1]
theorem rd_Lo (B : Nat) (C : CS) (ρ : Mu) {i : Nat} (hi : i < 2) : ren B C ρ (adLo B i) = some (cellC B C (3, i, 0)) := by
  have h := dec_Lo i hi
  unfold adLo
  rw [ren_at B C ρ h.2, h.1]
theorem rd_O (B : Nat) (C : CS) (ρ : Mu) {i : Nat} (hi : i < 13) : ren B C ρ (adO B i) = some (cellC B C (4, i, 0)) := by
  have h := dec_O i hi
  unfold adO
  rw [ren_at B C ρ h.2, h.1]
theorem rd_Rs (B : Nat) (C : CS) (ρ : Mu) {i : Nat} (hi : i < 13) : ren B C ρ (adRs B i) = some (cellC B C (5, i, 0)) := by
  have h := dec_Rs i hi
  unfold adRs
  rw [ren_at B C ρ h.2, h.1]
theorem rd_Ow (B : Nat) (C : CS) (ρ : Mu) {i : Nat} (hi : i < 13) : ren B C ρ (adOw B i) = some (cellC B C (6, i, 0)) := by
  have h := dec_Ow i hi
  unfold adOw
  rw [ren_at B C ρ h.2, h.1]
theorem rd_R (B : Nat) (C : CS) (ρ : Mu) {i r : Nat} (hi : i < 13) (hr : r < 3) : ren B C ρ (adR B i r) = some (cellC B C (7, i, r)) := by
  have h := dec_R i hi r hr
  unfold adR
  rw [ren_at B C ρ h.2, h.1]
theorem rd_T (B : Nat) (C : CS) (ρ : Mu) {i r : Nat} (hi : i < 13) (hr : r < 3) : ren B C ρ (adT B i r) = some (cellC B C (8, i, r)) := by
  have h := dec_T i hi r hr
  unfold adT
  rw [ren_at B C ρ h.2, h.1]
theorem rd_P (B : Nat) (C : CS) (ρ : Mu) {j : Nat} (hj : j < 2) : ren B C ρ (adP B j) = some (cellC B C (9, j, 0)) := by
  have h := dec_P j hj
  unfold adP
  rw [ren_at B C ρ h.2, h.1]
theorem rd_Pa (B : Nat) (C : CS) (ρ : Mu) {j : Nat} (hj : j < 2) : ren B C ρ (adPa B j) = some (cellC B C (10, j, 0)) := by
  have h := dec_Pa j hj
  unfold adPa
  rw [ren_at B C ρ h.2, h.1]
theorem rd_A (B : Nat) (C : CS) (ρ : Mu) {k : Nat} (hk : k < 7) : ren B C ρ (adA B k) = some (cellC B C (1, k, 0)) := by
  have h := dec_A k hk
  unfold adA
  rw [ren_at B C ρ h.2, h.1]
theorem rd_W (B : Nat) (C : CS) (ρ : Mu) : ren B C ρ B = some (cellC B C (0, 0, 0)) := ren_at B C ρ (k := 0) (by decide)
theorem rd_Re (B : Nat) (C : CS) (ρ : Mu) : ren B C ρ (B + 22) = some (cellC B C (11, 0, 0)) := ren_at B C ρ (k := 22) (by decide)
theorem rd_E (B : Nat) (C : CS) (ρ : Mu) : ren B C ρ (B + 134) = some (cellC B C (12, 0, 0)) := ren_at B C ρ (k := 134) (by decide)
theorem rd_0 (B : Nat) (C : CS) (ρ : Mu) : ren B C ρ (B + 35) = some (.inl (2, 0, .inl (fun _ => 0))) := ren_at B C ρ (k := 35) (by decide)
section FO
variable (B : Nat) (C : CS) (ρ : Mu) {i : Nat} (rc yr : Int32) (di le ta en : Int64) (ow : Nat → Int32) (rw : Nat → RV)
theorem fo_O (hi : i < 13) : ren B (sO C i (rc, yr, di, le, ta, en, ow, rw)) ρ (adO B i) = some (orCe (adL B (landOf i)) (adRs B i) (adOw B i) rc yr di le ta en) := by
  rw [rd_O B _ ρ hi]; simp only [cellC, cO_sO]
theorem fo_Rs (hi : i < 13) : ren B (sO C i (rc, yr, di, le, ta, en, ow, rw)) ρ (adRs B i) = some (rA 3 (fun r => some (adR B i r))) := by
  rw [rd_Rs B _ ρ hi]; rfl
theorem fo_Ow (hi : i < 13) : ren B (sO C i (rc, yr, di, le, ta, en, ow, rw)) ρ (adOw B i) = some (iA 4 ow) := by
  rw [rd_Ow B _ ρ hi]; simp only [cellC, cO_sO]
theorem fo_R (hi : i < 13) {r : Nat} (hr : r < 3) : ren B (sO C i (rc, yr, di, le, ta, en, ow, rw)) ρ (adR B i r) = some (rowCe (adT B i r) (rw r).1 (rw r).2.1 (rw r).2.2.1 (rw r).2.2.2.1) := by
  rw [rd_R B _ ρ hi hr]; simp only [cellC, cO_sO]
theorem fo_T (hi : i < 13) {r : Nat} (hr : r < 3) : ren B (sO C i (rc, yr, di, le, ta, en, ow, rw)) ρ (adT B i r) = some (iA 4 (rw r).2.2.2.2) := by
  rw [rd_T B _ ρ hi hr]; simp only [cellC, cO_sO]
theorem fo_Rf (hi : i < 13) {r : Nat} (hr : r < 3) (sz kd hd be : Int32) (t : Nat → Int32) : ren B (sO C i (rc, yr, di, le, ta, en, ow, va_up rw r (sz, kd, hd, be, t))) ρ (adR B i r) = some (rowCe (adT B i r) sz kd hd be) := by
  rw [fo_R B C ρ rc yr di le ta en ow _ hi hr, va_up_self]
theorem fo_Tf (hi : i < 13) {r : Nat} (hr : r < 3) (sz kd hd be : Int32) (t : Nat → Int32) : ren B (sO C i (rc, yr, di, le, ta, en, ow, va_up rw r (sz, kd, hd, be, t))) ρ (adT B i r) = some (iA 4 t) := by
  rw [fo_T B C ρ rc yr di le ta en ow _ hi hr, va_up_self]
theorem fo_L (hi : i < 13) : ren B (sO C i (rc, yr, di, le, ta, en, ow, rw)) ρ (adL B (landOf i)) = some (landCe (adLo B (landOf i)) (cL C (landOf i)).1 (cL C (landOf i)).2.1 (cL C (landOf i)).2.2.1 (cL C (landOf i)).2.2.2.1 (cL C (landOf i)).2.2.2.2.1) := by
  rw [rd_L B _ ρ (landOf_lt i)]; rfl
theorem fo_Lo (hi : i < 13) : ren B (sO C i (rc, yr, di, le, ta, en, ow, rw)) ρ (adLo B (landOf i)) = some (iA 36 (cL C (landOf i)).2.2.2.2.2) := by
  rw [rd_Lo B _ ρ (landOf_lt i)]; rfl
theorem cs_O (B : Nat) (C : CS) (i : Nat) (v v' : OV) (t j r : Nat) (h : t ≠ 4 ∧ t ≠ 6 ∧ t ≠ 7 ∧ t ≠ 8) : cellC B (sO C i v) (t, j, r) = cellC B (sO C i v') (t, j, r) := by
  have key : ∀ v : OV, cellC B (sO C i v) (t, j, r) = cellC B C (t, j, r) := by
    intro v
    match t, h with
    | 0, _ | 1, _ | 2, _ | 3, _ | 5, _ | 9, _ | 10, _ | 11, _ | 12, _ => rfl
    | 4, h | 6, h | 7, h | 8, h => exfalso; omega
    | t + 13, _ => rfl
  rw [key v, key v']
theorem key_ne {t i r : Nat} {q : Nat × Nat × Nat} (hk : keyOk q = true) (h : q ≠ (t, i, r)) (ht : q.1 = t) (hr : q.2.2 = r) : q.2.1 ≠ i := by
  obtain ⟨a, b, c⟩ := q
  intro hb
  dsimp only at ht hr hb
  subst ht; subst hr; subst hb
  exact h rfl
theorem st_O (hi : i < 13) (rc' yr' : Int32) (di' le' ta' en' : Int64) : mset (ren B (sO C i (rc, yr, di, le, ta, en, ow, rw)) ρ) (adO B i) (orCe (adL B (landOf i)) (adRs B i) (adOw B i) rc' yr' di' le' ta' en') = ren B (sO C i (rc', yr', di', le', ta', en', ow, rw)) ρ := by
  have hd := dec_O i hi
  refine ren_set B ρ hd.2 ?_ ?_
  · rw [hd.1]; simp only [cellC, cO_sO]
  · rw [hd.1]
    rintro ⟨t, j, r⟩ hk hq
    match t with
    | 4 =>
      have hr : r = 0 := by simpa [keyOk] using hk
      have hj : j ≠ i := fun h => hq (by rw [h, hr])
      simp only [cellC, cO_sO_ne C _ hj]
    | 6 | 7 | 8 =>
      by_cases hj : j = i
      · subst hj; simp only [cellC, cO_sO]
      · simp only [cellC, cO_sO_ne C _ hj]
    | 0 | 1 | 2 | 3 | 5 | 9 | 10 | 11 | 12 => exact cs_O _ _ _ _ _ _ _ _ (by decide)
    | t + 13 => exact cs_O _ _ _ _ _ _ _ _ ⟨by omega, by omega, by omega, by omega⟩
theorem st_Ow (hi : i < 13) (ow' : Nat → Int32) : mset (ren B (sO C i (rc, yr, di, le, ta, en, ow, rw)) ρ) (adOw B i) (iA 4 ow') = ren B (sO C i (rc, yr, di, le, ta, en, ow', rw)) ρ := by
  have hd := dec_Ow i hi
  refine ren_set B ρ hd.2 ?_ ?_
  · rw [hd.1]; simp only [cellC, cO_sO]
  · rw [hd.1]
    rintro ⟨t, j, r⟩ hk hq
    match t with
    | 6 =>
      have hr : r = 0 := by simpa [keyOk] using hk
      have hj : j ≠ i := fun h => hq (by rw [h, hr])
      simp only [cellC, cO_sO_ne C _ hj]
    | 4 | 7 | 8 =>
      by_cases hj : j = i
      · subst hj; simp only [cellC, cO_sO]
      · simp only [cellC, cO_sO_ne C _ hj]
    | 0 | 1 | 2 | 3 | 5 | 9 | 10 | 11 | 12 => exact cs_O _ _ _ _ _ _ _ _ (by decide)
    | t + 13 => exact cs_O _ _ _ _ _ _ _ _ ⟨by omega, by omega, by omega, by omega⟩
theorem st_Rf (hi : i < 13) {r : Nat} (hr : r < 3) (sz kd hd be sz' kd' hd' be' : Int32) (t : Nat → Int32) : mset (ren B (sO C i (rc, yr, di, le, ta, en, ow, va_up rw r (sz, kd, hd, be, t))) ρ) (adR B i r) (rowCe (adT B i r) sz' kd' hd' be') = ren B (sO C i (rc, yr, di, le, ta, en, ow, va_up rw r (sz', kd', hd', be', t))) ρ := by
  have hd := dec_R i hi r hr
  refine ren_set B ρ hd.2 ?_ ?_
  · rw [hd.1]; simp only [cellC, cO_sO, va_up_self]
  · rw [hd.1]
    rintro ⟨t1, j, r1⟩ hk hq
    match t1 with
    | 7 =>
      by_cases hj : j = i
      · subst hj
        have hr1 : r1 ≠ r := fun h => hq (by rw [h])
        simp only [cellC, cO_sO, va_up_ne _ _ hr1]
      · simp only [cellC, cO_sO_ne C _ hj]
    | 8 =>
      by_cases hj : j = i
      · subst hj
        by_cases hr1 : r1 = r
        · subst hr1; simp only [cellC, cO_sO, va_up_self]
        · simp only [cellC, cO_sO, va_up_ne _ _ hr1]
      · simp only [cellC, cO_sO_ne C _ hj]
    | 4 | 6 =>
      by_cases hj : j = i
      · subst hj; simp only [cellC, cO_sO]
      · simp only [cellC, cO_sO_ne C _ hj]
    | 0 | 1 | 2 | 3 | 5 | 9 | 10 | 11 | 12 => exact cs_O _ _ _ _ _ _ _ _ (by decide)
    | t1 + 13 => exact cs_O _ _ _ _ _ _ _ _ ⟨by omega, by omega, by omega, by omega⟩
theorem st_Tf (hi : i < 13) {r : Nat} (hr : r < 3) (sz kd hd be : Int32) (t t' : Nat → Int32) : mset (ren B (sO C i (rc, yr, di, le, ta, en, ow, va_up rw r (sz, kd, hd, be, t))) ρ) (adT B i r) (iA 4 t') = ren B (sO C i (rc, yr, di, le, ta, en, ow, va_up rw r (sz, kd, hd, be, t'))) ρ := by
  have hd := dec_T i hi r hr
  refine ren_set B ρ hd.2 ?_ ?_
  · rw [hd.1]; simp only [cellC, cO_sO, va_up_self]
  · rw [hd.1]
    rintro ⟨t1, j, r1⟩ hk hq
    match t1 with
    | 8 =>
      by_cases hj : j = i
      · subst hj
        have hr1 : r1 ≠ r := fun h => hq (by rw [h])
        simp only [cellC, cO_sO, va_up_ne _ _ hr1]
      · simp only [cellC, cO_sO_ne C _ hj]
    | 7 =>
      by_cases hj : j = i
      · subst hj
        by_cases hr1 : r1 = r
        · subst hr1; simp only [cellC, cO_sO, va_up_self]
        · simp only [cellC, cO_sO, va_up_ne _ _ hr1]
      · simp only [cellC, cO_sO_ne C _ hj]
    | 4 | 6 =>
      by_cases hj : j = i
      · subst hj; simp only [cellC, cO_sO]
      · simp only [cellC, cO_sO_ne C _ hj]
    | 0 | 1 | 2 | 3 | 5 | 9 | 10 | 11 | 12 => exact cs_O _ _ _ _ _ _ _ _ (by decide)
    | t1 + 13 => exact cs_O _ _ _ _ _ _ _ _ ⟨by omega, by omega, by omega, by omega⟩
end FO
section FL2
variable (B : Nat) (C : CS) (ρ : Mu) {i : Nat} (F H Br : Int64) (li wi : Int32) (ow : Nat → Int32)
theorem fl_L (hi : i < 2) : ren B (sL C i (F, H, Br, li, wi, ow)) ρ (adL B i) = some (landCe (adLo B i) F H Br li wi) := by
  rw [rd_L B _ ρ hi]; simp only [cellC, cL_sL]
theorem fl_Lo (hi : i < 2) : ren B (sL C i (F, H, Br, li, wi, ow)) ρ (adLo B i) = some (iA 36 ow) := by
  rw [rd_Lo B _ ρ hi]; simp only [cellC, cL_sL]
theorem st_L (hi : i < 2) (F' H' Br' : Int64) (li' wi' : Int32) : mset (ren B (sL C i (F, H, Br, li, wi, ow)) ρ) (adL B i) (landCe (adLo B i) F' H' Br' li' wi') = ren B (sL C i (F', H', Br', li', wi', ow)) ρ := by
  have hd := dec_L i hi
  refine ren_set B ρ hd.2 ?_ ?_
  · rw [hd.1]; simp only [cellC, cL_sL]
  · rw [hd.1]
    rintro ⟨t, j, r⟩ hk hq
    match t with
    | 2 =>
      have hr : r = 0 := by simpa [keyOk] using hk
      have hj : j ≠ i := fun h => hq (by rw [h, hr])
      simp only [cellC, cL_sL_ne C _ hj]
    | 3 =>
      by_cases hj : j = i
      · subst hj; simp only [cellC, cL_sL]
      · simp only [cellC, cL_sL_ne C _ hj]
    | 0 | 1 | 4 | 5 | 6 | 7 | 8 | 9 | 10 | 11 | 12 => rfl
    | t + 13 => rfl
theorem st_Lo (hi : i < 2) (ow' : Nat → Int32) : mset (ren B (sL C i (F, H, Br, li, wi, ow)) ρ) (adLo B i) (iA 36 ow') = ren B (sL C i (F, H, Br, li, wi, ow')) ρ := by
  have hd := dec_Lo i hi
  refine ren_set B ρ hd.2 ?_ ?_
  · rw [hd.1]; simp only [cellC, cL_sL]
  · rw [hd.1]
    rintro ⟨t, j, r⟩ hk hq
    match t with
    | 3 =>
      have hr : r = 0 := by simpa [keyOk] using hk
      have hj : j ≠ i := fun h => hq (by rw [h, hr])
      simp only [cellC, cL_sL_ne C _ hj]
    | 2 =>
      by_cases hj : j = i
      · subst hj; simp only [cellC, cL_sL]
      · simp only [cellC, cL_sL_ne C _ hj]
    | 0 | 1 | 4 | 5 | 6 | 7 | 8 | 9 | 10 | 11 | 12 => rfl
    | t + 13 => rfl
end FL2
theorem st_W (B : Nat) (C : CS) (ρ : Mu) (a b : Int32) : mset (ren B C ρ) B (cellC B (sW C (a, b)) (0, 0, 0)) = ren B (sW C (a, b)) ρ := by
  refine ren_set B ρ (k := 0) (by decide) rfl ?_
  rintro ⟨t, j, r⟩ hk hq
  match t with
  | 0 =>
    have h0 : r = 0 ∧ j = 0 := by simpa [keyOk] using hk
    exact absurd (by rw [h0.1, h0.2]; rfl) hq
  | 1 | 2 | 3 | 4 | 5 | 6 | 7 | 8 | 9 | 10 | 11 | 12 => rfl
  | t + 13 => rfl
theorem st_A (B : Nat) (C : CS) (ρ : Mu) {k : Nat} (hk7 : k < 7) (f : Nat → Int32) : mset (ren B C ρ) (adA B k) (.inl (aTy k, aLen k, .inl f)) = ren B (sA C k f) ρ := by
  have hd := dec_A k hk7
  refine ren_set B ρ hd.2 ?_ ?_
  · rw [hd.1]; simp only [cellC, cA_sA]
  · rw [hd.1]
    rintro ⟨t, j, r⟩ hk hq
    match t with
    | 1 =>
      have hr : r = 0 := by simpa [keyOk] using hk
      have hj : j ≠ k := fun h => hq (by rw [h, hr])
      simp only [cellC, cA_sA_ne C _ hj]
    | 0 | 2 | 3 | 4 | 5 | 6 | 7 | 8 | 9 | 10 | 11 | 12 => rfl
    | t + 13 => rfl
theorem st_P (B : Nat) (C : CS) (ρ : Mu) {i : Nat} (hi : i < 2) (v : Int32) : mset (ren B C ρ) (adP B i) (.inr (2, [.ref (adPa B i), .int v])) = ren B (sP C i (v, (cP C i).2)) ρ := by
  have hd := dec_P i hi
  refine ren_set B ρ hd.2 ?_ ?_
  · rw [hd.1]; simp only [cellC, cP_sP]
  · rw [hd.1]
    rintro ⟨t, j, r⟩ hk hq
    match t with
    | 9 =>
      have hr : r = 0 := by simpa [keyOk] using hk
      have hj : j ≠ i := fun h => hq (by rw [h, hr])
      simp only [cellC, cP_sP_ne C _ hj]
    | 10 =>
      by_cases hj : j = i
      · subst hj; simp only [cellC, cP_sP]
      · simp only [cellC, cP_sP_ne C _ hj]
    | 0 | 1 | 2 | 3 | 4 | 5 | 6 | 7 | 8 | 11 | 12 => rfl
    | t + 13 => rfl
theorem st_Pa (B : Nat) (C : CS) (ρ : Mu) {i : Nat} (hi : i < 2) (v : Nat → Nat) : mset (ren B C ρ) (adPa B i) (.inl (4, pLen i, .inr (.inr (.inr (.inr (fun k => some (adO B (v k)))))))) = ren B (sP C i ((cP C i).1, v)) ρ := by
  have hd := dec_Pa i hi
  refine ren_set B ρ hd.2 ?_ ?_
  · rw [hd.1]; simp only [cellC, cP_sP]
  · rw [hd.1]
    rintro ⟨t, j, r⟩ hk hq
    match t with
    | 10 =>
      have hr : r = 0 := by simpa [keyOk] using hk
      have hj : j ≠ i := fun h => hq (by rw [h, hr])
      simp only [cellC, cP_sP_ne C _ hj]
    | 9 =>
      by_cases hj : j = i
      · subst hj; simp only [cellC, cP_sP]
      · simp only [cellC, cP_sP_ne C _ hj]
    | 0 | 1 | 2 | 3 | 4 | 5 | 6 | 7 | 8 | 11 | 12 => rfl
    | t + 13 => rfl
theorem st_Re (B : Nat) (C : CS) (ρ : Mu) (a b c : Int32) (d : Nat) : mset (ren B C ρ) (B + 22) (cellC B (sR C (a, b, c, d)) (11, 0, 0)) = ren B (sR C (a, b, c, d)) ρ := by
  refine ren_set B ρ (k := 22) (by decide) rfl ?_
  rintro ⟨t, j, r⟩ hk hq
  match t with
  | 11 =>
    have h0 : r = 0 ∧ j = 0 := by simpa [keyOk] using hk
    exact absurd (by rw [h0.1, h0.2]; rfl) hq
  | 0 | 1 | 2 | 3 | 4 | 5 | 6 | 7 | 8 | 9 | 10 | 12 => rfl
  | t + 13 => rfl
theorem st_E (B : Nat) (C : CS) (ρ : Mu) (f : Nat → Int64) : mset (ren B C ρ) (B + 134) (.inl (1, 36, .inr (.inl f))) = ren B (sE C f) ρ := by
  refine ren_set B ρ (k := 134) (by decide) rfl ?_
  rintro ⟨t, j, r⟩ hk hq
  match t with
  | 12 =>
    have h0 : r = 0 ∧ j = 0 := by simpa [keyOk] using hk
    exact absurd (by rw [h0.1, h0.2]; rfl) hq
  | 0 | 1 | 2 | 3 | 4 | 5 | 6 | 7 | 8 | 9 | 10 | 11 => rfl
  | t + 13 => rfl
