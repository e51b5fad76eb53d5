/-! THE CLAIM OUT OF ONE WALK OF THE LAW'S BODY. Your part is whole_start (and what it stands on); all else here is the same for every law, but numbers. -/
def R_law : String := "WalkingOrchardLaw"
def lw_P (b : Addr) (xs : List Int32) (args : Array Value) (s : State) : Prop := args = #[.ref b] ∧ s.IntsAt b xs ∧ xs.length ≤ 384 ∧ (Jvm.Cond.and given_1 narrow_1).before args s = true
def lw_Q (_ : Array Value) (s : State) (o : Outcome) (t : State) : Prop := o = .returned (some (.int 1)) ∧ Framed s o t [] 600000 7302250
def lw_Z (below : List Frame) (a : Array Value) (s : State) : State → Prop := fun t => ∃ o, t.status = .running ∧ Ended t below o ∧ lw_Q a s o t
/-- the law's own end, with 1 on the stack, nothing written that was there before, its room as the claim has it -/
theorem lw_ret {p : Program} {l : Launch} {e : Env} {s : State} {m : MethodId} {below : List Frame} {meth : Method} {c : Code} {b : Nat} (hx : p.tables.exec = Jvm.exec) (hb : c.code = code) (hr : meth.sig.returnType = ret) (hlocks : meth.locks = false) {pc : Nat} {H : Heap} {ls : Array Slot} (hdg : decode code pc = .ok (.ireturn, 1)) : W p l e room_1 s m #[Value.ref b] below meth c H [] 600000 7302250 (lw_Z below #[Value.ref b] s) (F0 m pc ls [.int 1]) := by
  intro T hT X
  obtain ⟨fs, hret, hrun, hended, hW, hframe⟩ := X.leave (v := some (.int 1)) (hlocks := hlocks) (fun h => by rw [hr] at h; cases h)
  have hmeth' : T.vm.method? m = some meth := X.method'
  refine ⟨T.setFrames fs, ?_, .returned (some (.int 1)), hrun, hended, rfl, ⟨_, rfl⟩, hW, hframe⟩
  jvm_step X.here [X.here.top, hx, hb, hdg, hmeth', hr, ret, narrow_b1]
  (try refine ⟨rfl, ?_⟩); (try refine ⟨rfl, ?_⟩)
  first | (intro acts; rw [hret _ acts rfl rfl rfl]) | rw [hret _ _ rfl rfl rfl]
  exact Steps.refl _
/-- what holds at the law's entry: the machine, the code, the tables' words (any of lw_tbl by 'hts w (by decide +kernel)'), the script of L ints xs at the cell b, what the Statement gives of the start (any of its parts by flat_of_before) -/
def lw_At (p : Program) (s : State) (m : MethodId) (meth : Method) (c : Code) (b L : Nat) (xs : Nat → Int32) : Prop :=
  p.tables.exec = Jvm.exec ∧ c.code = code ∧ meth.sig.returnType = ret ∧ c.maxLocals = 4 ∧ s.vm.findClass R_law = some m.cls ∧ (∀ w ∈ lw_tbl, w.before #[Value.ref b] s = true) ∧ va_X b L xs s s.heap ∧ b < s.heap.size ∧ meth.locks = false ∧ (Jvm.Cond.and given_1 narrow_1).before #[Value.ref b] s = true
/-! THE LAW: its loop -/
abbrev mL_law (nm : String) : MD := (⟨RL, nm, "([I)Z"⟩, cL_law, 4, ret)
/-- the law's own frame: the script at bb, the law's end -/
def LX (X : CX) (bb L : Nat) (xs : Nat → Int32) : Prop := match X with
  | (_, _, _, R, s, _, args, below, _, _, Z, G) => va_X bb L xs s s.heap ∧ bb < s.heap.size ∧ G.2.2 = s.heap.size ∧ R = room_1 ∧ args = #[Value.ref bb] ∧ Z = lw_Z below #[Value.ref bb] s
theorem swapM (B : Nat) (C : CS) (D : MS) (ρ : Mu) : ren B C (rem (B + 136) D ρ) = rem (B + 136) D (ren B C ρ) := by
  funext q
  unfold ren rem
  dsimp only
  by_cases h : B ≤ q ∧ q < B + 136
  · rw [if_pos h, if_neg (by omega), if_neg (by omega), if_pos h]
  · rw [if_neg h, if_neg h]
section L2
variable {X : CX} {l0 : Launch} {G0 : GG} {f w a b n : Nat} {μ : Mu} {pc : Nat} {ls : List (Nat × Value)} {st : List Value} {bb L : Nat} {xs : Nat → Int32} {nm : String}
theorem v_xlen (g : GX X l0 G0 (mL_law nm) f w) (x : LX X bb L xs) (hd : decode cL_law pc = .ok (.arraylength, 1)) (k : V X a b n μ (pc + 1) ls (.int (nI L) :: st)) : V X a b n μ pc ls (.ref bb :: st) := by
  obtain ⟨p, l, e, R, s, m, args, below, meth, c, Z, G⟩ := X
  obtain ⟨x1, x2, x3, x4, x5, x6⟩ := x
  obtain ⟨rfl, rfl, hx, hb, hr, hml, hown, hts, hlk, hnm, hK, hB, hf, hw⟩ := g
  intro H locs cells slots L' h1 h2 h3 h4 h5
  exact va_slen hx hb x1 x2 (Nat.not_le.mpr (by rw [x3]; exact x2)) h4 hd (k H locs cells slots L' h1 h2 h3 h4 h5)
theorem v_xald {i : Nat} (g : GX X l0 G0 (mL_law nm) f w) (x : LX X bb L xs) (hi : i < L) (hL : L ≤ 384) (hd : decode cL_law pc = .ok (.iaload, 1)) (k : V X a b n μ (pc + 1) ls (.int (xs i) :: st)) : V X a b n μ pc ls (.int (nI i) :: .ref bb :: st) := by
  obtain ⟨p, l, e, R, s, m, args, below, meth, c, Z, G⟩ := X
  obtain ⟨x1, x2, x3, x4, x5, x6⟩ := x
  obtain ⟨rfl, rfl, hx, hb, hr, hml, hown, hts, hlk, hnm, hK, hB, hf, hw⟩ := g
  intro H locs cells slots L' h1 h2 h3 h4 h5
  have e9 : xs (nI i).toNatClampNeg = xs i := by rw [nI_clamp (by omega)]
  exact va_sld hx hb x1 x2 (Nat.not_le.mpr (by rw [x3]; exact x2)) h4 (vp_in_nI hi (by omega)) hd (by rw [e9]; exact k H locs cells slots L' h1 h2 h3 h4 h5)
theorem v_end1 (g : GX X l0 G0 (mL_law nm) f w) (x : LX X bb L xs) (hd : decode cL_law pc = .ok (.ireturn, 1)) : V X a b n μ pc ls [.int 1] := by
  obtain ⟨p, l, e, R, s, m, args, below, meth, c, Z, G⟩ := X
  obtain ⟨x1, x2, x3, rfl, rfl, rfl⟩ := x
  obtain ⟨rfl, rfl, hx, hb, hr, hml, hown, hts, hlk, hnm, hK, hB, hf, hw⟩ := g
  intro H locs cells slots L' h1 h2 h3 h4 h5
  refine va_forget (fun q hq => by have h6 := h4.2.2 q hq; rw [x3] at h6; exact h6) ?_
  have c1 : cells + a ≤ 600000 := h1
  have c2 : slots + b ≤ 7302250 := h2
  refine W.widen (k := 600000) (n := 7302250) (by omega) (by omega) ?_
  exact lw_ret hx hb hr hlk hd
variable {B : Nat} {C : CS} {D : MS} {ρ : Mu} {j : Nat}
theorem sub6 (h : L ≤ 384) : (nI L - 6).toInt = (L : Int) - 6 := by
  revert h
  have key : ∀ k, k < 385 → (nI k - 6).toInt = (k : Int) - 6 := by decide +kernel
  exact fun h => key L (by omega)
theorem law_next (g : GX X l0 G0 (mL_law nm) f w) (k : V X 0 0 n μ 18 [(3, .int (nI (6 * (j + 1)))), (2, .ref (B + 136)), (1, .ref B), (0, .ref bb)] []) : V X 0 0 n μ 934 [(3, .int (nI (6 * j))), (2, .ref (B + 136)), (1, .ref B), (0, .ref bb)] [] := by
  refine v_iinc (v := nI (6 * (j + 1))) (ls' := [(3, .int (nI (6 * (j + 1)))), (2, .ref (B + 136)), (1, .ref B), (0, .ref bb)]) g dL_law_934 0 rfl (nI_add (6 * j) 6) rfl rfl ?_
  refine v_goto (tgt := 18) g dL_law_937 (by decide) ?_
  exact k
theorem law_0 (g : GX X l0 G0 (mL_law nm) 9 366) (x : LX X bb L xs) (hL : L ≤ 384) (hj6 : 6 * j + 6 ≤ L) (hI : Inv C D j) (ih : ∀ C' D', Inv C' D' (j + 1) → V X 0 0 n (ren B C' (rem (B + 136) D' ρ)) 18 [(3, .int (nI (6 * (j + 1)))), (2, .ref (B + 136)), (1, .ref B), (0, .ref bb)] []) : V X 0 0 n (ren B C (rem (B + 136) D ρ)) 160 [(3, .int (nI (6 * j))), (2, .ref (B + 136)), (1, .ref B), (0, .ref bb)] [] := by
  have hj : j < 64 := by omega
  obtain ⟨v, C', D', kc, kr, hI'⟩ := op_write (l := l0) (G := G0) (n := n) (B := B) hI (xs (6 * j + 1))
  refine v_aload_n g dL_law_160 2 rfl ?_
  refine v_aload_n g dL_law_161 3 rfl ?_
  refine v_iload_n g dL_law_162 0 rfl ?_
  refine v_iconst (v := 1) g dL_law_163 (by decide) ?_
  refine v_iadd g dL_law_164 (v_eqi (y := nI (6 * j + 1)) (nI_addE rfl rfl) ?_)
  refine v_xald (i := 6 * j + 1) g x (by omega) hL dL_law_165 ?_
  refine v_callV (As := [.int (xs (6 * j + 1))]) (r := some (.int v)) g dL_law_166 (kc _) cl_X5_write ml_RL_13 im_X5_write (rd_W B _ _) rfl rfl ⟨rfl, rfl, rfl⟩ ?_
  refine v_meq (swapM B C' D ρ) ?_
  refine v_aload_n g dL_law_169 1 rfl ?_
  refine v_aload_n g dL_law_170 3 rfl ?_
  refine v_iload_n g dL_law_171 0 rfl ?_
  refine v_iconst (v := 1) g dL_law_172 (by decide) ?_
  refine v_iadd g dL_law_173 (v_eqi (y := nI (6 * j + 1)) (nI_addE rfl rfl) ?_)
  refine v_xald (i := 6 * j + 1) g x (by omega) hL dL_law_174 ?_
  refine v_callV (As := [.int (xs (6 * j + 1))]) (r := some (.int v)) g dL_law_175 (kr _) cl_X6_write ml_RL_17 im_X6_write (rd_M _ _ _) rfl rfl ⟨rfl, rfl, rfl⟩ ?_
  refine v_meq (swapM B C' D' ρ).symm ?_
  refine v_icmp_eq (tgt := 934) g dL_law_178 (by decide) (fun _ => ?_) (fun hh => absurd rfl hh)
  exact law_next g (ih C' D' hI')
theorem law_1 (g : GX X l0 G0 (mL_law nm) 9 366) (x : LX X bb L xs) (hL : L ≤ 384) (hj6 : 6 * j + 6 ≤ L) (hI : Inv C D j) (ih : ∀ C' D', Inv C' D' (j + 1) → V X 0 0 n (ren B C' (rem (B + 136) D' ρ)) 18 [(3, .int (nI (6 * (j + 1)))), (2, .ref (B + 136)), (1, .ref B), (0, .ref bb)] []) : V X 0 0 n (ren B C (rem (B + 136) D ρ)) 183 [(3, .int (nI (6 * j))), (2, .ref (B + 136)), (1, .ref B), (0, .ref bb)] [] := by
  have hj : j < 64 := by omega
  obtain ⟨v, C', D', kc, kr, hI'⟩ := op_wipe (l := l0) (G := G0) (n := n) (B := B) hI 
  refine v_aload_n g dL_law_183 2 rfl ?_
  refine v_callV (As := []) (r := some (.int v)) g dL_law_184 (kc _) cl_X5_wipe ml_RL_18 im_X5_wipe (rd_W B _ _) rfl rfl ⟨rfl, rfl, rfl⟩ ?_
  refine v_meq (swapM B C' D ρ) ?_
  refine v_aload_n g dL_law_187 1 rfl ?_
  refine v_callV (As := []) (r := some (.int v)) g dL_law_188 (kr _) cl_X6_wipe ml_RL_22 im_X6_wipe (rd_M _ _ _) rfl rfl ⟨rfl, rfl, rfl⟩ ?_
  refine v_meq (swapM B C' D' ρ).symm ?_
  refine v_icmp_eq (tgt := 934) g dL_law_191 (by decide) (fun _ => ?_) (fun hh => absurd rfl hh)
  exact law_next g (ih C' D' hI')
theorem law_2 (g : GX X l0 G0 (mL_law nm) 9 366) (x : LX X bb L xs) (hL : L ≤ 384) (hj6 : 6 * j + 6 ≤ L) (hI : Inv C D j) (ih : ∀ C' D', Inv C' D' (j + 1) → V X 0 0 n (ren B C' (rem (B + 136) D' ρ)) 18 [(3, .int (nI (6 * (j + 1)))), (2, .ref (B + 136)), (1, .ref B), (0, .ref bb)] []) : V X 0 0 n (ren B C (rem (B + 136) D ρ)) 196 [(3, .int (nI (6 * j))), (2, .ref (B + 136)), (1, .ref B), (0, .ref bb)] [] := by
  have hj : j < 64 := by omega
  obtain ⟨v, C', D', kc, kr, hI'⟩ := op_fault (l := l0) (G := G0) (n := n) (B := B) hI 
  refine v_aload_n g dL_law_196 2 rfl ?_
  refine v_callV (As := []) (r := some (.int v)) g dL_law_197 (kc _) cl_X5_fault ml_RL_23 im_X5_fault (rd_W B _ _) rfl rfl ⟨rfl, rfl, rfl⟩ ?_
  refine v_meq (swapM B C' D ρ) ?_
  refine v_aload_n g dL_law_200 1 rfl ?_
  refine v_callV (As := []) (r := some (.int v)) g dL_law_201 (kr _) cl_X6_fault ml_RL_26 im_X6_fault (rd_M _ _ _) rfl rfl ⟨rfl, rfl, rfl⟩ ?_
  refine v_meq (swapM B C' D' ρ).symm ?_
  refine v_icmp_eq (tgt := 934) g dL_law_204 (by decide) (fun _ => ?_) (fun hh => absurd rfl hh)
  exact law_next g (ih C' D' hI')
theorem law_3 (g : GX X l0 G0 (mL_law nm) 9 366) (x : LX X bb L xs) (hL : L ≤ 384) (hj6 : 6 * j + 6 ≤ L) (hI : Inv C D j) (ih : ∀ C' D', Inv C' D' (j + 1) → V X 0 0 n (ren B C' (rem (B + 136) D' ρ)) 18 [(3, .int (nI (6 * (j + 1)))), (2, .ref (B + 136)), (1, .ref B), (0, .ref bb)] []) : V X 0 0 n (ren B C (rem (B + 136) D ρ)) 209 [(3, .int (nI (6 * j))), (2, .ref (B + 136)), (1, .ref B), (0, .ref bb)] [] := by
  have hj : j < 64 := by omega
  obtain ⟨v, C', D', kc, kr, hI'⟩ := op_lay (l := l0) (G := G0) (n := n) (B := B) hI 
  refine v_aload_n g dL_law_209 2 rfl ?_
  refine v_callV (As := []) (r := some (.int v)) g dL_law_210 (kc _) cl_X5_lay ml_RL_27 im_X5_lay (rd_W B _ _) rfl rfl ⟨rfl, rfl, rfl⟩ ?_
  refine v_meq (swapM B C' D ρ) ?_
  refine v_aload_n g dL_law_213 1 rfl ?_
  refine v_callV (As := []) (r := some (.int v)) g dL_law_214 (kr _) cl_X6_lay ml_RL_30 im_X6_lay (rd_M _ _ _) rfl rfl ⟨rfl, rfl, rfl⟩ ?_
  refine v_meq (swapM B C' D' ρ).symm ?_
  refine v_icmp_eq (tgt := 934) g dL_law_217 (by decide) (fun _ => ?_) (fun hh => absurd rfl hh)
  exact law_next g (ih C' D' hI')
theorem law_4 (g : GX X l0 G0 (mL_law nm) 9 366) (x : LX X bb L xs) (hL : L ≤ 384) (hj6 : 6 * j + 6 ≤ L) (hI : Inv C D j) (ih : ∀ C' D', Inv C' D' (j + 1) → V X 0 0 n (ren B C' (rem (B + 136) D' ρ)) 18 [(3, .int (nI (6 * (j + 1)))), (2, .ref (B + 136)), (1, .ref B), (0, .ref bb)] []) : V X 0 0 n (ren B C (rem (B + 136) D ρ)) 222 [(3, .int (nI (6 * j))), (2, .ref (B + 136)), (1, .ref B), (0, .ref bb)] [] := by
  have hj : j < 64 := by omega
  obtain ⟨v, C', D', kc, kr, hI'⟩ := op_cell (l := l0) (G := G0) (n := n) (B := B) hI (xs (6 * j + 1)) (xs (6 * j + 2))
  refine v_aload_n g dL_law_222 2 rfl ?_
  refine v_aload_n g dL_law_223 3 rfl ?_
  refine v_iload_n g dL_law_224 0 rfl ?_
  refine v_iconst (v := 1) g dL_law_225 (by decide) ?_
  refine v_iadd g dL_law_226 (v_eqi (y := nI (6 * j + 1)) (nI_addE rfl rfl) ?_)
  refine v_xald (i := 6 * j + 1) g x (by omega) hL dL_law_227 ?_
  refine v_aload_n g dL_law_228 3 rfl ?_
  refine v_iload_n g dL_law_229 0 rfl ?_
  refine v_iconst (v := 2) g dL_law_230 (by decide) ?_
  refine v_iadd g dL_law_231 (v_eqi (y := nI (6 * j + 2)) (nI_addE rfl rfl) ?_)
  refine v_xald (i := 6 * j + 2) g x (by omega) hL dL_law_232 ?_
  refine v_callV (As := [.int (xs (6 * j + 1)), .int (xs (6 * j + 2))]) (r := some (.int v)) g dL_law_233 (kc _) cl_X5_cell ml_RL_31 im_X5_cell (rd_W B _ _) rfl rfl ⟨rfl, rfl, rfl⟩ ?_
  refine v_meq (swapM B C' D ρ) ?_
  refine v_aload_n g dL_law_236 1 rfl ?_
  refine v_aload_n g dL_law_237 3 rfl ?_
  refine v_iload_n g dL_law_238 0 rfl ?_
  refine v_iconst (v := 1) g dL_law_239 (by decide) ?_
  refine v_iadd g dL_law_240 (v_eqi (y := nI (6 * j + 1)) (nI_addE rfl rfl) ?_)
  refine v_xald (i := 6 * j + 1) g x (by omega) hL dL_law_241 ?_
  refine v_aload_n g dL_law_242 3 rfl ?_
  refine v_iload_n g dL_law_243 0 rfl ?_
  refine v_iconst (v := 2) g dL_law_244 (by decide) ?_
  refine v_iadd g dL_law_245 (v_eqi (y := nI (6 * j + 2)) (nI_addE rfl rfl) ?_)
  refine v_xald (i := 6 * j + 2) g x (by omega) hL dL_law_246 ?_
  refine v_callV (As := [.int (xs (6 * j + 1)), .int (xs (6 * j + 2))]) (r := some (.int v)) g dL_law_247 (kr _) cl_X6_cell ml_RL_35 im_X6_cell (rd_M _ _ _) rfl rfl ⟨rfl, rfl, rfl⟩ ?_
  refine v_meq (swapM B C' D' ρ).symm ?_
  refine v_icmp_eq (tgt := 934) g dL_law_250 (by decide) (fun _ => ?_) (fun hh => absurd rfl hh)
  exact law_next g (ih C' D' hI')
theorem law_5 (g : GX X l0 G0 (mL_law nm) 9 366) (x : LX X bb L xs) (hL : L ≤ 384) (hj6 : 6 * j + 6 ≤ L) (hI : Inv C D j) (ih : ∀ C' D', Inv C' D' (j + 1) → V X 0 0 n (ren B C' (rem (B + 136) D' ρ)) 18 [(3, .int (nI (6 * (j + 1)))), (2, .ref (B + 136)), (1, .ref B), (0, .ref bb)] []) : V X 0 0 n (ren B C (rem (B + 136) D ρ)) 255 [(3, .int (nI (6 * j))), (2, .ref (B + 136)), (1, .ref B), (0, .ref bb)] [] := by
  have hj : j < 64 := by omega
  obtain ⟨v, C', D', kc, kr, hI'⟩ := op_row (l := l0) (G := G0) (n := n) (B := B) hI (xs (6 * j + 1)) (xs (6 * j + 2))
  refine v_aload_n g dL_law_255 2 rfl ?_
  refine v_aload_n g dL_law_256 3 rfl ?_
  refine v_iload_n g dL_law_257 0 rfl ?_
  refine v_iconst (v := 1) g dL_law_258 (by decide) ?_
  refine v_iadd g dL_law_259 (v_eqi (y := nI (6 * j + 1)) (nI_addE rfl rfl) ?_)
  refine v_xald (i := 6 * j + 1) g x (by omega) hL dL_law_260 ?_
  refine v_aload_n g dL_law_261 3 rfl ?_
  refine v_iload_n g dL_law_262 0 rfl ?_
  refine v_iconst (v := 2) g dL_law_263 (by decide) ?_
  refine v_iadd g dL_law_264 (v_eqi (y := nI (6 * j + 2)) (nI_addE rfl rfl) ?_)
  refine v_xald (i := 6 * j + 2) g x (by omega) hL dL_law_265 ?_
  refine v_callV (As := [.int (xs (6 * j + 1)), .int (xs (6 * j + 2))]) (r := some (.int v)) g dL_law_266 (kc _) cl_X5_row ml_RL_36 im_X5_row (rd_W B _ _) rfl rfl ⟨rfl, rfl, rfl⟩ ?_
  refine v_meq (swapM B C' D ρ) ?_
  refine v_aload_n g dL_law_269 1 rfl ?_
  refine v_aload_n g dL_law_270 3 rfl ?_
  refine v_iload_n g dL_law_271 0 rfl ?_
  refine v_iconst (v := 1) g dL_law_272 (by decide) ?_
  refine v_iadd g dL_law_273 (v_eqi (y := nI (6 * j + 1)) (nI_addE rfl rfl) ?_)
  refine v_xald (i := 6 * j + 1) g x (by omega) hL dL_law_274 ?_
  refine v_aload_n g dL_law_275 3 rfl ?_
  refine v_iload_n g dL_law_276 0 rfl ?_
  refine v_iconst (v := 2) g dL_law_277 (by decide) ?_
  refine v_iadd g dL_law_278 (v_eqi (y := nI (6 * j + 2)) (nI_addE rfl rfl) ?_)
  refine v_xald (i := 6 * j + 2) g x (by omega) hL dL_law_279 ?_
  refine v_callV (As := [.int (xs (6 * j + 1)), .int (xs (6 * j + 2))]) (r := some (.int v)) g dL_law_280 (kr _) cl_X6_row ml_RL_39 im_X6_row (rd_M _ _ _) rfl rfl ⟨rfl, rfl, rfl⟩ ?_
  refine v_meq (swapM B C' D' ρ).symm ?_
  refine v_icmp_eq (tgt := 934) g dL_law_283 (by decide) (fun _ => ?_) (fun hh => absurd rfl hh)
  exact law_next g (ih C' D' hI')
theorem law_6 (g : GX X l0 G0 (mL_law nm) 9 366) (x : LX X bb L xs) (hL : L ≤ 384) (hj6 : 6 * j + 6 ≤ L) (hI : Inv C D j) (ih : ∀ C' D', Inv C' D' (j + 1) → V X 0 0 n (ren B C' (rem (B + 136) D' ρ)) 18 [(3, .int (nI (6 * (j + 1)))), (2, .ref (B + 136)), (1, .ref B), (0, .ref bb)] []) : V X 0 0 n (ren B C (rem (B + 136) D ρ)) 288 [(3, .int (nI (6 * j))), (2, .ref (B + 136)), (1, .ref B), (0, .ref bb)] [] := by
  have hj : j < 64 := by omega
  obtain ⟨v, C', D', kc, kr, hI'⟩ := op_tree (l := l0) (G := G0) (n := n) (B := B) hI (xs (6 * j + 1)) (xs (6 * j + 2))
  refine v_aload_n g dL_law_288 2 rfl ?_
  refine v_aload_n g dL_law_289 3 rfl ?_
  refine v_iload_n g dL_law_290 0 rfl ?_
  refine v_iconst (v := 1) g dL_law_291 (by decide) ?_
  refine v_iadd g dL_law_292 (v_eqi (y := nI (6 * j + 1)) (nI_addE rfl rfl) ?_)
  refine v_xald (i := 6 * j + 1) g x (by omega) hL dL_law_293 ?_
  refine v_aload_n g dL_law_294 3 rfl ?_
  refine v_iload_n g dL_law_295 0 rfl ?_
  refine v_iconst (v := 2) g dL_law_296 (by decide) ?_
  refine v_iadd g dL_law_297 (v_eqi (y := nI (6 * j + 2)) (nI_addE rfl rfl) ?_)
  refine v_xald (i := 6 * j + 2) g x (by omega) hL dL_law_298 ?_
  refine v_callV (As := [.int (xs (6 * j + 1)), .int (xs (6 * j + 2))]) (r := some (.int v)) g dL_law_299 (kc _) cl_X5_tree ml_RL_40 im_X5_tree (rd_W B _ _) rfl rfl ⟨rfl, rfl, rfl⟩ ?_
  refine v_meq (swapM B C' D ρ) ?_
  refine v_aload_n g dL_law_302 1 rfl ?_
  refine v_aload_n g dL_law_303 3 rfl ?_
  refine v_iload_n g dL_law_304 0 rfl ?_
  refine v_iconst (v := 1) g dL_law_305 (by decide) ?_
  refine v_iadd g dL_law_306 (v_eqi (y := nI (6 * j + 1)) (nI_addE rfl rfl) ?_)
  refine v_xald (i := 6 * j + 1) g x (by omega) hL dL_law_307 ?_
  refine v_aload_n g dL_law_308 3 rfl ?_
  refine v_iload_n g dL_law_309 0 rfl ?_
  refine v_iconst (v := 2) g dL_law_310 (by decide) ?_
  refine v_iadd g dL_law_311 (v_eqi (y := nI (6 * j + 2)) (nI_addE rfl rfl) ?_)
  refine v_xald (i := 6 * j + 2) g x (by omega) hL dL_law_312 ?_
  refine v_callV (As := [.int (xs (6 * j + 1)), .int (xs (6 * j + 2))]) (r := some (.int v)) g dL_law_313 (kr _) cl_X6_tree ml_RL_43 im_X6_tree (rd_M _ _ _) rfl rfl ⟨rfl, rfl, rfl⟩ ?_
  refine v_meq (swapM B C' D' ρ).symm ?_
  refine v_icmp_eq (tgt := 934) g dL_law_316 (by decide) (fun _ => ?_) (fun hh => absurd rfl hh)
  exact law_next g (ih C' D' hI')
theorem law_7 (g : GX X l0 G0 (mL_law nm) 9 366) (x : LX X bb L xs) (hL : L ≤ 384) (hj6 : 6 * j + 6 ≤ L) (hI : Inv C D j) (ih : ∀ C' D', Inv C' D' (j + 1) → V X 0 0 n (ren B C' (rem (B + 136) D' ρ)) 18 [(3, .int (nI (6 * (j + 1)))), (2, .ref (B + 136)), (1, .ref B), (0, .ref bb)] []) : V X 0 0 n (ren B C (rem (B + 136) D ρ)) 321 [(3, .int (nI (6 * j))), (2, .ref (B + 136)), (1, .ref B), (0, .ref bb)] [] := by
  have hj : j < 64 := by omega
  obtain ⟨v, C', D', kc, kr, hI'⟩ := op_has (l := l0) (G := G0) (n := n) (B := B) hI (xs (6 * j + 1))
  refine v_aload_n g dL_law_321 2 rfl ?_
  refine v_aload_n g dL_law_322 3 rfl ?_
  refine v_iload_n g dL_law_323 0 rfl ?_
  refine v_iconst (v := 1) g dL_law_324 (by decide) ?_
  refine v_iadd g dL_law_325 (v_eqi (y := nI (6 * j + 1)) (nI_addE rfl rfl) ?_)
  refine v_xald (i := 6 * j + 1) g x (by omega) hL dL_law_326 ?_
  refine v_callV (As := [.int (xs (6 * j + 1))]) (r := some (.int v)) g dL_law_327 (kc _) cl_X5_has ml_RL_44 im_X5_has (rd_W B _ _) rfl rfl ⟨rfl, rfl, rfl⟩ ?_
  refine v_meq (swapM B C' D ρ) ?_
  refine v_aload_n g dL_law_330 1 rfl ?_
  refine v_aload_n g dL_law_331 3 rfl ?_
  refine v_iload_n g dL_law_332 0 rfl ?_
  refine v_iconst (v := 1) g dL_law_333 (by decide) ?_
  refine v_iadd g dL_law_334 (v_eqi (y := nI (6 * j + 1)) (nI_addE rfl rfl) ?_)
  refine v_xald (i := 6 * j + 1) g x (by omega) hL dL_law_335 ?_
  refine v_callV (As := [.int (xs (6 * j + 1))]) (r := some (.int v)) g dL_law_336 (kr _) cl_X6_has ml_RL_47 im_X6_has (rd_M _ _ _) rfl rfl ⟨rfl, rfl, rfl⟩ ?_
  refine v_meq (swapM B C' D' ρ).symm ?_
  refine v_icmp_eq (tgt := 934) g dL_law_339 (by decide) (fun _ => ?_) (fun hh => absurd rfl hh)
  exact law_next g (ih C' D' hI')
theorem law_8 (g : GX X l0 G0 (mL_law nm) 9 366) (x : LX X bb L xs) (hL : L ≤ 384) (hj6 : 6 * j + 6 ≤ L) (hI : Inv C D j) (ih : ∀ C' D', Inv C' D' (j + 1) → V X 0 0 n (ren B C' (rem (B + 136) D' ρ)) 18 [(3, .int (nI (6 * (j + 1)))), (2, .ref (B + 136)), (1, .ref B), (0, .ref bb)] []) : V X 0 0 n (ren B C (rem (B + 136) D ρ)) 344 [(3, .int (nI (6 * j))), (2, .ref (B + 136)), (1, .ref B), (0, .ref bb)] [] := by
  have hj : j < 64 := by omega
  obtain ⟨v, C', D', kc, kr, hI'⟩ := op_pass (l := l0) (G := G0) (n := n) (B := B) hI hj (xs (6 * j + 1))
  refine v_aload_n g dL_law_344 2 rfl ?_
  refine v_aload_n g dL_law_345 3 rfl ?_
  refine v_iload_n g dL_law_346 0 rfl ?_
  refine v_iconst (v := 1) g dL_law_347 (by decide) ?_
  refine v_iadd g dL_law_348 (v_eqi (y := nI (6 * j + 1)) (nI_addE rfl rfl) ?_)
  refine v_xald (i := 6 * j + 1) g x (by omega) hL dL_law_349 ?_
  refine v_callV (As := [.int (xs (6 * j + 1))]) (r := some (.int v)) g dL_law_350 (kc _) cl_X5_pass ml_RL_48 im_X5_pass (rd_W B _ _) rfl rfl ⟨rfl, rfl, rfl⟩ ?_
  refine v_meq (swapM B C' D ρ) ?_
  refine v_aload_n g dL_law_353 1 rfl ?_
  refine v_aload_n g dL_law_354 3 rfl ?_
  refine v_iload_n g dL_law_355 0 rfl ?_
  refine v_iconst (v := 1) g dL_law_356 (by decide) ?_
  refine v_iadd g dL_law_357 (v_eqi (y := nI (6 * j + 1)) (nI_addE rfl rfl) ?_)
  refine v_xald (i := 6 * j + 1) g x (by omega) hL dL_law_358 ?_
  refine v_callV (As := [.int (xs (6 * j + 1))]) (r := some (.int v)) g dL_law_359 (kr _) cl_X6_pass ml_RL_51 im_X6_pass (rd_M _ _ _) rfl rfl ⟨rfl, rfl, rfl⟩ ?_
  refine v_meq (swapM B C' D' ρ).symm ?_
  refine v_icmp_eq (tgt := 934) g dL_law_362 (by decide) (fun _ => ?_) (fun hh => absurd rfl hh)
  exact law_next g (ih C' D' hI')
theorem law_9 (g : GX X l0 G0 (mL_law nm) 9 366) (x : LX X bb L xs) (hL : L ≤ 384) (hj6 : 6 * j + 6 ≤ L) (hI : Inv C D j) (ih : ∀ C' D', Inv C' D' (j + 1) → V X 0 0 n (ren B C' (rem (B + 136) D' ρ)) 18 [(3, .int (nI (6 * (j + 1)))), (2, .ref (B + 136)), (1, .ref B), (0, .ref bb)] []) : V X 0 0 n (ren B C (rem (B + 136) D ρ)) 367 [(3, .int (nI (6 * j))), (2, .ref (B + 136)), (1, .ref B), (0, .ref bb)] [] := by
  have hj : j < 64 := by omega
  obtain ⟨v, C', D', kc, kr, hI'⟩ := op_dig (l := l0) (G := G0) (n := n) (B := B) hI (xs (6 * j + 1))
  refine v_aload_n g dL_law_367 2 rfl ?_
  refine v_aload_n g dL_law_368 3 rfl ?_
  refine v_iload_n g dL_law_369 0 rfl ?_
  refine v_iconst (v := 1) g dL_law_370 (by decide) ?_
  refine v_iadd g dL_law_371 (v_eqi (y := nI (6 * j + 1)) (nI_addE rfl rfl) ?_)
  refine v_xald (i := 6 * j + 1) g x (by omega) hL dL_law_372 ?_
  refine v_callV (As := [.int (xs (6 * j + 1))]) (r := some (.int v)) g dL_law_373 (kc _) cl_X5_dig ml_RL_52 im_X5_dig (rd_W B _ _) rfl rfl ⟨rfl, rfl, rfl⟩ ?_
  refine v_meq (swapM B C' D ρ) ?_
  refine v_aload_n g dL_law_376 1 rfl ?_
  refine v_aload_n g dL_law_377 3 rfl ?_
  refine v_iload_n g dL_law_378 0 rfl ?_
  refine v_iconst (v := 1) g dL_law_379 (by decide) ?_
  refine v_iadd g dL_law_380 (v_eqi (y := nI (6 * j + 1)) (nI_addE rfl rfl) ?_)
  refine v_xald (i := 6 * j + 1) g x (by omega) hL dL_law_381 ?_
  refine v_callV (As := [.int (xs (6 * j + 1))]) (r := some (.int v)) g dL_law_382 (kr _) cl_X6_dig ml_RL_55 im_X6_dig (rd_M _ _ _) rfl rfl ⟨rfl, rfl, rfl⟩ ?_
  refine v_meq (swapM B C' D' ρ).symm ?_
  refine v_icmp_eq (tgt := 934) g dL_law_385 (by decide) (fun _ => ?_) (fun hh => absurd rfl hh)
  exact law_next g (ih C' D' hI')
theorem law_10 (g : GX X l0 G0 (mL_law nm) 9 366) (x : LX X bb L xs) (hL : L ≤ 384) (hj6 : 6 * j + 6 ≤ L) (hI : Inv C D j) (ih : ∀ C' D', Inv C' D' (j + 1) → V X 0 0 n (ren B C' (rem (B + 136) D' ρ)) 18 [(3, .int (nI (6 * (j + 1)))), (2, .ref (B + 136)), (1, .ref B), (0, .ref bb)] []) : V X 0 0 n (ren B C (rem (B + 136) D ρ)) 390 [(3, .int (nI (6 * j))), (2, .ref (B + 136)), (1, .ref B), (0, .ref bb)] [] := by
  have hj : j < 64 := by omega
  obtain ⟨v, C', D', kc, kr, hI'⟩ := op_fill (l := l0) (G := G0) (n := n) (B := B) hI (xs (6 * j + 1))
  refine v_aload_n g dL_law_390 2 rfl ?_
  refine v_aload_n g dL_law_391 3 rfl ?_
  refine v_iload_n g dL_law_392 0 rfl ?_
  refine v_iconst (v := 1) g dL_law_393 (by decide) ?_
  refine v_iadd g dL_law_394 (v_eqi (y := nI (6 * j + 1)) (nI_addE rfl rfl) ?_)
  refine v_xald (i := 6 * j + 1) g x (by omega) hL dL_law_395 ?_
  refine v_callV (As := [.int (xs (6 * j + 1))]) (r := some (.int v)) g dL_law_396 (kc _) cl_X5_fill ml_RL_56 im_X5_fill (rd_W B _ _) rfl rfl ⟨rfl, rfl, rfl⟩ ?_
  refine v_meq (swapM B C' D ρ) ?_
  refine v_aload_n g dL_law_399 1 rfl ?_
  refine v_aload_n g dL_law_400 3 rfl ?_
  refine v_iload_n g dL_law_401 0 rfl ?_
  refine v_iconst (v := 1) g dL_law_402 (by decide) ?_
  refine v_iadd g dL_law_403 (v_eqi (y := nI (6 * j + 1)) (nI_addE rfl rfl) ?_)
  refine v_xald (i := 6 * j + 1) g x (by omega) hL dL_law_404 ?_
  refine v_callV (As := [.int (xs (6 * j + 1))]) (r := some (.int v)) g dL_law_405 (kr _) cl_X6_fill ml_RL_59 im_X6_fill (rd_M _ _ _) rfl rfl ⟨rfl, rfl, rfl⟩ ?_
  refine v_meq (swapM B C' D' ρ).symm ?_
  refine v_icmp_eq (tgt := 934) g dL_law_408 (by decide) (fun _ => ?_) (fun hh => absurd rfl hh)
  exact law_next g (ih C' D' hI')
theorem law_11 (g : GX X l0 G0 (mL_law nm) 9 366) (x : LX X bb L xs) (hL : L ≤ 384) (hj6 : 6 * j + 6 ≤ L) (hI : Inv C D j) (ih : ∀ C' D', Inv C' D' (j + 1) → V X 0 0 n (ren B C' (rem (B + 136) D' ρ)) 18 [(3, .int (nI (6 * (j + 1)))), (2, .ref (B + 136)), (1, .ref B), (0, .ref bb)] []) : V X 0 0 n (ren B C (rem (B + 136) D ρ)) 413 [(3, .int (nI (6 * j))), (2, .ref (B + 136)), (1, .ref B), (0, .ref bb)] [] := by
  have hj : j < 64 := by omega
  obtain ⟨v, C', D', kc, kr, hI'⟩ := op_leave (l := l0) (G := G0) (n := n) (B := B) hI (xs (6 * j + 1))
  refine v_aload_n g dL_law_413 2 rfl ?_
  refine v_aload_n g dL_law_414 3 rfl ?_
  refine v_iload_n g dL_law_415 0 rfl ?_
  refine v_iconst (v := 1) g dL_law_416 (by decide) ?_
  refine v_iadd g dL_law_417 (v_eqi (y := nI (6 * j + 1)) (nI_addE rfl rfl) ?_)
  refine v_xald (i := 6 * j + 1) g x (by omega) hL dL_law_418 ?_
  refine v_callV (As := [.int (xs (6 * j + 1))]) (r := some (.int v)) g dL_law_419 (kc _) cl_X5_leave ml_RL_60 im_X5_leave (rd_W B _ _) rfl rfl ⟨rfl, rfl, rfl⟩ ?_
  refine v_meq (swapM B C' D ρ) ?_
  refine v_aload_n g dL_law_422 1 rfl ?_
  refine v_aload_n g dL_law_423 3 rfl ?_
  refine v_iload_n g dL_law_424 0 rfl ?_
  refine v_iconst (v := 1) g dL_law_425 (by decide) ?_
  refine v_iadd g dL_law_426 (v_eqi (y := nI (6 * j + 1)) (nI_addE rfl rfl) ?_)
  refine v_xald (i := 6 * j + 1) g x (by omega) hL dL_law_427 ?_
  refine v_callV (As := [.int (xs (6 * j + 1))]) (r := some (.int v)) g dL_law_428 (kr _) cl_X6_leave ml_RL_63 im_X6_leave (rd_M _ _ _) rfl rfl ⟨rfl, rfl, rfl⟩ ?_
  refine v_meq (swapM B C' D' ρ).symm ?_
  refine v_icmp_eq (tgt := 934) g dL_law_431 (by decide) (fun _ => ?_) (fun hh => absurd rfl hh)
  exact law_next g (ih C' D' hI')
theorem law_12 (g : GX X l0 G0 (mL_law nm) 9 366) (x : LX X bb L xs) (hL : L ≤ 384) (hj6 : 6 * j + 6 ≤ L) (hI : Inv C D j) (ih : ∀ C' D', Inv C' D' (j + 1) → V X 0 0 n (ren B C' (rem (B + 136) D' ρ)) 18 [(3, .int (nI (6 * (j + 1)))), (2, .ref (B + 136)), (1, .ref B), (0, .ref bb)] []) : V X 0 0 n (ren B C (rem (B + 136) D ρ)) 436 [(3, .int (nI (6 * j))), (2, .ref (B + 136)), (1, .ref B), (0, .ref bb)] [] := by
  have hj : j < 64 := by omega
  obtain ⟨v, C', D', kc, kr, hI'⟩ := op_undo (l := l0) (G := G0) (n := n) (B := B) hI 
  refine v_aload_n g dL_law_436 2 rfl ?_
  refine v_callV (As := []) (r := some (.int v)) g dL_law_437 (kc _) cl_X5_undo ml_RL_64 im_X5_undo (rd_W B _ _) rfl rfl ⟨rfl, rfl, rfl⟩ ?_
  refine v_meq (swapM B C' D ρ) ?_
  refine v_aload_n g dL_law_440 1 rfl ?_
  refine v_callV (As := []) (r := some (.int v)) g dL_law_441 (kr _) cl_X6_undo ml_RL_67 im_X6_undo (rd_M _ _ _) rfl rfl ⟨rfl, rfl, rfl⟩ ?_
  refine v_meq (swapM B C' D' ρ).symm ?_
  refine v_icmp_eq (tgt := 934) g dL_law_444 (by decide) (fun _ => ?_) (fun hh => absurd rfl hh)
  exact law_next g (ih C' D' hI')
theorem law_13 (g : GX X l0 G0 (mL_law nm) 9 366) (x : LX X bb L xs) (hL : L ≤ 384) (hj6 : 6 * j + 6 ≤ L) (hI : Inv C D j) (ih : ∀ C' D', Inv C' D' (j + 1) → V X 0 0 n (ren B C' (rem (B + 136) D' ρ)) 18 [(3, .int (nI (6 * (j + 1)))), (2, .ref (B + 136)), (1, .ref B), (0, .ref bb)] []) : V X 0 0 n (ren B C (rem (B + 136) D ρ)) 449 [(3, .int (nI (6 * j))), (2, .ref (B + 136)), (1, .ref B), (0, .ref bb)] [] := by
  have hj : j < 64 := by omega
  obtain ⟨v, C', D', kc, kr, hI'⟩ := op_behind (l := l0) (G := G0) (n := n) (B := B) hI (xs (6 * j + 1)) (xs (6 * j + 2))
  refine v_aload_n g dL_law_449 2 rfl ?_
  refine v_aload_n g dL_law_450 3 rfl ?_
  refine v_iload_n g dL_law_451 0 rfl ?_
  refine v_iconst (v := 1) g dL_law_452 (by decide) ?_
  refine v_iadd g dL_law_453 (v_eqi (y := nI (6 * j + 1)) (nI_addE rfl rfl) ?_)
  refine v_xald (i := 6 * j + 1) g x (by omega) hL dL_law_454 ?_
  refine v_aload_n g dL_law_455 3 rfl ?_
  refine v_iload_n g dL_law_456 0 rfl ?_
  refine v_iconst (v := 2) g dL_law_457 (by decide) ?_
  refine v_iadd g dL_law_458 (v_eqi (y := nI (6 * j + 2)) (nI_addE rfl rfl) ?_)
  refine v_xald (i := 6 * j + 2) g x (by omega) hL dL_law_459 ?_
  refine v_callV (As := [.int (xs (6 * j + 1)), .int (xs (6 * j + 2))]) (r := some (.int v)) g dL_law_460 (kc _) cl_X5_behind ml_RL_68 im_X5_behind (rd_W B _ _) rfl rfl ⟨rfl, rfl, rfl⟩ ?_
  refine v_meq (swapM B C' D ρ) ?_
  refine v_aload_n g dL_law_463 1 rfl ?_
  refine v_aload_n g dL_law_464 3 rfl ?_
  refine v_iload_n g dL_law_465 0 rfl ?_
  refine v_iconst (v := 1) g dL_law_466 (by decide) ?_
  refine v_iadd g dL_law_467 (v_eqi (y := nI (6 * j + 1)) (nI_addE rfl rfl) ?_)
  refine v_xald (i := 6 * j + 1) g x (by omega) hL dL_law_468 ?_
  refine v_aload_n g dL_law_469 3 rfl ?_
  refine v_iload_n g dL_law_470 0 rfl ?_
  refine v_iconst (v := 2) g dL_law_471 (by decide) ?_
  refine v_iadd g dL_law_472 (v_eqi (y := nI (6 * j + 2)) (nI_addE rfl rfl) ?_)
  refine v_xald (i := 6 * j + 2) g x (by omega) hL dL_law_473 ?_
  refine v_callV (As := [.int (xs (6 * j + 1)), .int (xs (6 * j + 2))]) (r := some (.int v)) g dL_law_474 (kr _) cl_X6_behind ml_RL_71 im_X6_behind (rd_M _ _ _) rfl rfl ⟨rfl, rfl, rfl⟩ ?_
  refine v_meq (swapM B C' D' ρ).symm ?_
  refine v_icmp_eq (tgt := 934) g dL_law_477 (by decide) (fun _ => ?_) (fun hh => absurd rfl hh)
  exact law_next g (ih C' D' hI')
theorem law_14 (g : GX X l0 G0 (mL_law nm) 9 366) (x : LX X bb L xs) (hL : L ≤ 384) (hj6 : 6 * j + 6 ≤ L) (hI : Inv C D j) (ih : ∀ C' D', Inv C' D' (j + 1) → V X 0 0 n (ren B C' (rem (B + 136) D' ρ)) 18 [(3, .int (nI (6 * (j + 1)))), (2, .ref (B + 136)), (1, .ref B), (0, .ref bb)] []) : V X 0 0 n (ren B C (rem (B + 136) D ρ)) 482 [(3, .int (nI (6 * j))), (2, .ref (B + 136)), (1, .ref B), (0, .ref bb)] [] := by
  have hj : j < 64 := by omega
  obtain ⟨v, C', D', kc, kr, hI'⟩ := op_wealth (l := l0) (G := G0) (n := n) (B := B) hI (xs (6 * j + 1)) (xs (6 * j + 2))
  refine v_aload_n g dL_law_482 2 rfl ?_
  refine v_aload_n g dL_law_483 3 rfl ?_
  refine v_iload_n g dL_law_484 0 rfl ?_
  refine v_iconst (v := 1) g dL_law_485 (by decide) ?_
  refine v_iadd g dL_law_486 (v_eqi (y := nI (6 * j + 1)) (nI_addE rfl rfl) ?_)
  refine v_xald (i := 6 * j + 1) g x (by omega) hL dL_law_487 ?_
  refine v_aload_n g dL_law_488 3 rfl ?_
  refine v_iload_n g dL_law_489 0 rfl ?_
  refine v_iconst (v := 2) g dL_law_490 (by decide) ?_
  refine v_iadd g dL_law_491 (v_eqi (y := nI (6 * j + 2)) (nI_addE rfl rfl) ?_)
  refine v_xald (i := 6 * j + 2) g x (by omega) hL dL_law_492 ?_
  refine v_callV (As := [.int (xs (6 * j + 1)), .int (xs (6 * j + 2))]) (r := some (.int v)) g dL_law_493 (kc _) cl_X5_wealth ml_RL_72 im_X5_wealth (rd_W B _ _) rfl rfl ⟨rfl, rfl, rfl⟩ ?_
  refine v_meq (swapM B C' D ρ) ?_
  refine v_aload_n g dL_law_496 1 rfl ?_
  refine v_aload_n g dL_law_497 3 rfl ?_
  refine v_iload_n g dL_law_498 0 rfl ?_
  refine v_iconst (v := 1) g dL_law_499 (by decide) ?_
  refine v_iadd g dL_law_500 (v_eqi (y := nI (6 * j + 1)) (nI_addE rfl rfl) ?_)
  refine v_xald (i := 6 * j + 1) g x (by omega) hL dL_law_501 ?_
  refine v_aload_n g dL_law_502 3 rfl ?_
  refine v_iload_n g dL_law_503 0 rfl ?_
  refine v_iconst (v := 2) g dL_law_504 (by decide) ?_
  refine v_iadd g dL_law_505 (v_eqi (y := nI (6 * j + 2)) (nI_addE rfl rfl) ?_)
  refine v_xald (i := 6 * j + 2) g x (by omega) hL dL_law_506 ?_
  refine v_callV (As := [.int (xs (6 * j + 1)), .int (xs (6 * j + 2))]) (r := some (.int v)) g dL_law_507 (kr _) cl_X6_wealth ml_RL_75 im_X6_wealth (rd_M _ _ _) rfl rfl ⟨rfl, rfl, rfl⟩ ?_
  refine v_meq (swapM B C' D' ρ).symm ?_
  refine v_icmp_eq (tgt := 934) g dL_law_510 (by decide) (fun _ => ?_) (fun hh => absurd rfl hh)
  exact law_next g (ih C' D' hI')
theorem law_15 (g : GX X l0 G0 (mL_law nm) 9 366) (x : LX X bb L xs) (hL : L ≤ 384) (hj6 : 6 * j + 6 ≤ L) (hI : Inv C D j) (ih : ∀ C' D', Inv C' D' (j + 1) → V X 0 0 n (ren B C' (rem (B + 136) D' ρ)) 18 [(3, .int (nI (6 * (j + 1)))), (2, .ref (B + 136)), (1, .ref B), (0, .ref bb)] []) : V X 0 0 n (ren B C (rem (B + 136) D ρ)) 515 [(3, .int (nI (6 * j))), (2, .ref (B + 136)), (1, .ref B), (0, .ref bb)] [] := by
  have hj : j < 64 := by omega
  obtain ⟨v, C', D', kc, kr, hI'⟩ := op_comes (l := l0) (G := G0) (n := n) (B := B) hI (xs (6 * j + 1)) (xs (6 * j + 2))
  refine v_aload_n g dL_law_515 2 rfl ?_
  refine v_aload_n g dL_law_516 3 rfl ?_
  refine v_iload_n g dL_law_517 0 rfl ?_
  refine v_iconst (v := 1) g dL_law_518 (by decide) ?_
  refine v_iadd g dL_law_519 (v_eqi (y := nI (6 * j + 1)) (nI_addE rfl rfl) ?_)
  refine v_xald (i := 6 * j + 1) g x (by omega) hL dL_law_520 ?_
  refine v_aload_n g dL_law_521 3 rfl ?_
  refine v_iload_n g dL_law_522 0 rfl ?_
  refine v_iconst (v := 2) g dL_law_523 (by decide) ?_
  refine v_iadd g dL_law_524 (v_eqi (y := nI (6 * j + 2)) (nI_addE rfl rfl) ?_)
  refine v_xald (i := 6 * j + 2) g x (by omega) hL dL_law_525 ?_
  refine v_callV (As := [.int (xs (6 * j + 1)), .int (xs (6 * j + 2))]) (r := some (.int v)) g dL_law_526 (kc _) cl_X5_comes ml_RL_76 im_X5_comes (rd_W B _ _) rfl rfl ⟨rfl, rfl, rfl⟩ ?_
  refine v_meq (swapM B C' D ρ) ?_
  refine v_aload_n g dL_law_529 1 rfl ?_
  refine v_aload_n g dL_law_530 3 rfl ?_
  refine v_iload_n g dL_law_531 0 rfl ?_
  refine v_iconst (v := 1) g dL_law_532 (by decide) ?_
  refine v_iadd g dL_law_533 (v_eqi (y := nI (6 * j + 1)) (nI_addE rfl rfl) ?_)
  refine v_xald (i := 6 * j + 1) g x (by omega) hL dL_law_534 ?_
  refine v_aload_n g dL_law_535 3 rfl ?_
  refine v_iload_n g dL_law_536 0 rfl ?_
  refine v_iconst (v := 2) g dL_law_537 (by decide) ?_
  refine v_iadd g dL_law_538 (v_eqi (y := nI (6 * j + 2)) (nI_addE rfl rfl) ?_)
  refine v_xald (i := 6 * j + 2) g x (by omega) hL dL_law_539 ?_
  refine v_callV (As := [.int (xs (6 * j + 1)), .int (xs (6 * j + 2))]) (r := some (.int v)) g dL_law_540 (kr _) cl_X6_comes ml_RL_79 im_X6_comes (rd_M _ _ _) rfl rfl ⟨rfl, rfl, rfl⟩ ?_
  refine v_meq (swapM B C' D' ρ).symm ?_
  refine v_icmp_eq (tgt := 934) g dL_law_543 (by decide) (fun _ => ?_) (fun hh => absurd rfl hh)
  exact law_next g (ih C' D' hI')
theorem law_16 (g : GX X l0 G0 (mL_law nm) 9 366) (x : LX X bb L xs) (hL : L ≤ 384) (hj6 : 6 * j + 6 ≤ L) (hI : Inv C D j) (ih : ∀ C' D', Inv C' D' (j + 1) → V X 0 0 n (ren B C' (rem (B + 136) D' ρ)) 18 [(3, .int (nI (6 * (j + 1)))), (2, .ref (B + 136)), (1, .ref B), (0, .ref bb)] []) : V X 0 0 n (ren B C (rem (B + 136) D ρ)) 548 [(3, .int (nI (6 * j))), (2, .ref (B + 136)), (1, .ref B), (0, .ref bb)] [] := by
  have hj : j < 64 := by omega
  obtain ⟨v, C', D', kc, kr, hI'⟩ := op_meet (l := l0) (G := G0) (n := n) (B := B) hI (xs (6 * j + 1)) (xs (6 * j + 2))
  refine v_aload_n g dL_law_548 2 rfl ?_
  refine v_aload_n g dL_law_549 3 rfl ?_
  refine v_iload_n g dL_law_550 0 rfl ?_
  refine v_iconst (v := 1) g dL_law_551 (by decide) ?_
  refine v_iadd g dL_law_552 (v_eqi (y := nI (6 * j + 1)) (nI_addE rfl rfl) ?_)
  refine v_xald (i := 6 * j + 1) g x (by omega) hL dL_law_553 ?_
  refine v_aload_n g dL_law_554 3 rfl ?_
  refine v_iload_n g dL_law_555 0 rfl ?_
  refine v_iconst (v := 2) g dL_law_556 (by decide) ?_
  refine v_iadd g dL_law_557 (v_eqi (y := nI (6 * j + 2)) (nI_addE rfl rfl) ?_)
  refine v_xald (i := 6 * j + 2) g x (by omega) hL dL_law_558 ?_
  refine v_callV (As := [.int (xs (6 * j + 1)), .int (xs (6 * j + 2))]) (r := some (.int v)) g dL_law_559 (kc _) cl_X5_meet ml_RL_80 im_X5_meet (rd_W B _ _) rfl rfl ⟨rfl, rfl, rfl⟩ ?_
  refine v_meq (swapM B C' D ρ) ?_
  refine v_aload_n g dL_law_562 1 rfl ?_
  refine v_aload_n g dL_law_563 3 rfl ?_
  refine v_iload_n g dL_law_564 0 rfl ?_
  refine v_iconst (v := 1) g dL_law_565 (by decide) ?_
  refine v_iadd g dL_law_566 (v_eqi (y := nI (6 * j + 1)) (nI_addE rfl rfl) ?_)
  refine v_xald (i := 6 * j + 1) g x (by omega) hL dL_law_567 ?_
  refine v_aload_n g dL_law_568 3 rfl ?_
  refine v_iload_n g dL_law_569 0 rfl ?_
  refine v_iconst (v := 2) g dL_law_570 (by decide) ?_
  refine v_iadd g dL_law_571 (v_eqi (y := nI (6 * j + 2)) (nI_addE rfl rfl) ?_)
  refine v_xald (i := 6 * j + 2) g x (by omega) hL dL_law_572 ?_
  refine v_callV (As := [.int (xs (6 * j + 1)), .int (xs (6 * j + 2))]) (r := some (.int v)) g dL_law_573 (kr _) cl_X6_meet ml_RL_83 im_X6_meet (rd_M _ _ _) rfl rfl ⟨rfl, rfl, rfl⟩ ?_
  refine v_meq (swapM B C' D' ρ).symm ?_
  refine v_icmp_eq (tgt := 934) g dL_law_576 (by decide) (fun _ => ?_) (fun hh => absurd rfl hh)
  exact law_next g (ih C' D' hI')
theorem law_17 (g : GX X l0 G0 (mL_law nm) 9 366) (x : LX X bb L xs) (hL : L ≤ 384) (hj6 : 6 * j + 6 ≤ L) (hI : Inv C D j) (ih : ∀ C' D', Inv C' D' (j + 1) → V X 0 0 n (ren B C' (rem (B + 136) D' ρ)) 18 [(3, .int (nI (6 * (j + 1)))), (2, .ref (B + 136)), (1, .ref B), (0, .ref bb)] []) : V X 0 0 n (ren B C (rem (B + 136) D ρ)) 581 [(3, .int (nI (6 * j))), (2, .ref (B + 136)), (1, .ref B), (0, .ref bb)] [] := by
  have hj : j < 64 := by omega
  obtain ⟨v, C', D', kc, kr, hI'⟩ := op_again (l := l0) (G := G0) (n := n) (B := B) hI 
  refine v_aload_n g dL_law_581 2 rfl ?_
  refine v_callV (As := []) (r := some (.int v)) g dL_law_582 (kc _) cl_X5_again ml_RL_84 im_X5_again (rd_W B _ _) rfl rfl ⟨rfl, rfl, rfl⟩ ?_
  refine v_meq (swapM B C' D ρ) ?_
  refine v_aload_n g dL_law_585 1 rfl ?_
  refine v_callV (As := []) (r := some (.int v)) g dL_law_586 (kr _) cl_X6_again ml_RL_87 im_X6_again (rd_M _ _ _) rfl rfl ⟨rfl, rfl, rfl⟩ ?_
  refine v_meq (swapM B C' D' ρ).symm ?_
  refine v_icmp_eq (tgt := 934) g dL_law_589 (by decide) (fun _ => ?_) (fun hh => absurd rfl hh)
  exact law_next g (ih C' D' hI')
theorem law_18 (g : GX X l0 G0 (mL_law nm) 9 366) (x : LX X bb L xs) (hL : L ≤ 384) (hj6 : 6 * j + 6 ≤ L) (hI : Inv C D j) (ih : ∀ C' D', Inv C' D' (j + 1) → V X 0 0 n (ren B C' (rem (B + 136) D' ρ)) 18 [(3, .int (nI (6 * (j + 1)))), (2, .ref (B + 136)), (1, .ref B), (0, .ref bb)] []) : V X 0 0 n (ren B C (rem (B + 136) D ρ)) 594 [(3, .int (nI (6 * j))), (2, .ref (B + 136)), (1, .ref B), (0, .ref bb)] [] := by
  have hj : j < 64 := by omega
  obtain ⟨v, C', D', kc, kr, hI'⟩ := op_ditches (l := l0) (G := G0) (n := n) (B := B) hI (xs (6 * j + 1)) (xs (6 * j + 2)) (xs (6 * j + 3)) (xs (6 * j + 4))
  refine v_aload_n g dL_law_594 2 rfl ?_
  refine v_aload_n g dL_law_595 3 rfl ?_
  refine v_iload_n g dL_law_596 0 rfl ?_
  refine v_iconst (v := 1) g dL_law_597 (by decide) ?_
  refine v_iadd g dL_law_598 (v_eqi (y := nI (6 * j + 1)) (nI_addE rfl rfl) ?_)
  refine v_xald (i := 6 * j + 1) g x (by omega) hL dL_law_599 ?_
  refine v_aload_n g dL_law_600 3 rfl ?_
  refine v_iload_n g dL_law_601 0 rfl ?_
  refine v_iconst (v := 2) g dL_law_602 (by decide) ?_
  refine v_iadd g dL_law_603 (v_eqi (y := nI (6 * j + 2)) (nI_addE rfl rfl) ?_)
  refine v_xald (i := 6 * j + 2) g x (by omega) hL dL_law_604 ?_
  refine v_aload_n g dL_law_605 3 rfl ?_
  refine v_iload_n g dL_law_606 0 rfl ?_
  refine v_iconst (v := 3) g dL_law_607 (by decide) ?_
  refine v_iadd g dL_law_608 (v_eqi (y := nI (6 * j + 3)) (nI_addE rfl rfl) ?_)
  refine v_xald (i := 6 * j + 3) g x (by omega) hL dL_law_609 ?_
  refine v_aload_n g dL_law_610 3 rfl ?_
  refine v_iload_n g dL_law_611 0 rfl ?_
  refine v_iconst (v := 4) g dL_law_612 (by decide) ?_
  refine v_iadd g dL_law_613 (v_eqi (y := nI (6 * j + 4)) (nI_addE rfl rfl) ?_)
  refine v_xald (i := 6 * j + 4) g x (by omega) hL dL_law_614 ?_
  refine v_callV (As := [.int (xs (6 * j + 1)), .int (xs (6 * j + 2)), .int (xs (6 * j + 3)), .int (xs (6 * j + 4))]) (r := some (.int v)) g dL_law_615 (kc _) cl_X5_ditches ml_RL_88 im_X5_ditches (rd_W B _ _) rfl rfl ⟨rfl, rfl, rfl⟩ ?_
  refine v_meq (swapM B C' D ρ) ?_
  refine v_aload_n g dL_law_618 1 rfl ?_
  refine v_aload_n g dL_law_619 3 rfl ?_
  refine v_iload_n g dL_law_620 0 rfl ?_
  refine v_iconst (v := 1) g dL_law_621 (by decide) ?_
  refine v_iadd g dL_law_622 (v_eqi (y := nI (6 * j + 1)) (nI_addE rfl rfl) ?_)
  refine v_xald (i := 6 * j + 1) g x (by omega) hL dL_law_623 ?_
  refine v_aload_n g dL_law_624 3 rfl ?_
  refine v_iload_n g dL_law_625 0 rfl ?_
  refine v_iconst (v := 2) g dL_law_626 (by decide) ?_
  refine v_iadd g dL_law_627 (v_eqi (y := nI (6 * j + 2)) (nI_addE rfl rfl) ?_)
  refine v_xald (i := 6 * j + 2) g x (by omega) hL dL_law_628 ?_
  refine v_aload_n g dL_law_629 3 rfl ?_
  refine v_iload_n g dL_law_630 0 rfl ?_
  refine v_iconst (v := 3) g dL_law_631 (by decide) ?_
  refine v_iadd g dL_law_632 (v_eqi (y := nI (6 * j + 3)) (nI_addE rfl rfl) ?_)
  refine v_xald (i := 6 * j + 3) g x (by omega) hL dL_law_633 ?_
  refine v_aload_n g dL_law_634 3 rfl ?_
  refine v_iload_n g dL_law_635 0 rfl ?_
  refine v_iconst (v := 4) g dL_law_636 (by decide) ?_
  refine v_iadd g dL_law_637 (v_eqi (y := nI (6 * j + 4)) (nI_addE rfl rfl) ?_)
  refine v_xald (i := 6 * j + 4) g x (by omega) hL dL_law_638 ?_
  refine v_callV (As := [.int (xs (6 * j + 1)), .int (xs (6 * j + 2)), .int (xs (6 * j + 3)), .int (xs (6 * j + 4))]) (r := some (.int v)) g dL_law_639 (kr _) cl_X6_ditches ml_RL_92 im_X6_ditches (rd_M _ _ _) rfl rfl ⟨rfl, rfl, rfl⟩ ?_
  refine v_meq (swapM B C' D' ρ).symm ?_
  refine v_icmp_eq (tgt := 934) g dL_law_642 (by decide) (fun _ => ?_) (fun hh => absurd rfl hh)
  exact law_next g (ih C' D' hI')
theorem law_19 (g : GX X l0 G0 (mL_law nm) 9 366) (x : LX X bb L xs) (hL : L ≤ 384) (hj6 : 6 * j + 6 ≤ L) (hI : Inv C D j) (ih : ∀ C' D', Inv C' D' (j + 1) → V X 0 0 n (ren B C' (rem (B + 136) D' ρ)) 18 [(3, .int (nI (6 * (j + 1)))), (2, .ref (B + 136)), (1, .ref B), (0, .ref bb)] []) : V X 0 0 n (ren B C (rem (B + 136) D ρ)) 647 [(3, .int (nI (6 * j))), (2, .ref (B + 136)), (1, .ref B), (0, .ref bb)] [] := by
  have hj : j < 64 := by omega
  obtain ⟨v, C', D', kc, kr, hI'⟩ := op_best (l := l0) (G := G0) (n := n) (B := B) hI (xs (6 * j + 1)) (xs (6 * j + 2)) (xs (6 * j + 3))
  refine v_aload_n g dL_law_647 2 rfl ?_
  refine v_aload_n g dL_law_648 3 rfl ?_
  refine v_iload_n g dL_law_649 0 rfl ?_
  refine v_iconst (v := 1) g dL_law_650 (by decide) ?_
  refine v_iadd g dL_law_651 (v_eqi (y := nI (6 * j + 1)) (nI_addE rfl rfl) ?_)
  refine v_xald (i := 6 * j + 1) g x (by omega) hL dL_law_652 ?_
  refine v_aload_n g dL_law_653 3 rfl ?_
  refine v_iload_n g dL_law_654 0 rfl ?_
  refine v_iconst (v := 2) g dL_law_655 (by decide) ?_
  refine v_iadd g dL_law_656 (v_eqi (y := nI (6 * j + 2)) (nI_addE rfl rfl) ?_)
  refine v_xald (i := 6 * j + 2) g x (by omega) hL dL_law_657 ?_
  refine v_aload_n g dL_law_658 3 rfl ?_
  refine v_iload_n g dL_law_659 0 rfl ?_
  refine v_iconst (v := 3) g dL_law_660 (by decide) ?_
  refine v_iadd g dL_law_661 (v_eqi (y := nI (6 * j + 3)) (nI_addE rfl rfl) ?_)
  refine v_xald (i := 6 * j + 3) g x (by omega) hL dL_law_662 ?_
  refine v_callV (As := [.int (xs (6 * j + 1)), .int (xs (6 * j + 2)), .int (xs (6 * j + 3))]) (r := some (.int v)) g dL_law_663 (kc _) cl_X5_best ml_RL_93 im_X5_best (rd_W B _ _) rfl rfl ⟨rfl, rfl, rfl⟩ ?_
  refine v_meq (swapM B C' D ρ) ?_
  refine v_aload_n g dL_law_666 1 rfl ?_
  refine v_aload_n g dL_law_667 3 rfl ?_
  refine v_iload_n g dL_law_668 0 rfl ?_
  refine v_iconst (v := 1) g dL_law_669 (by decide) ?_
  refine v_iadd g dL_law_670 (v_eqi (y := nI (6 * j + 1)) (nI_addE rfl rfl) ?_)
  refine v_xald (i := 6 * j + 1) g x (by omega) hL dL_law_671 ?_
  refine v_aload_n g dL_law_672 3 rfl ?_
  refine v_iload_n g dL_law_673 0 rfl ?_
  refine v_iconst (v := 2) g dL_law_674 (by decide) ?_
  refine v_iadd g dL_law_675 (v_eqi (y := nI (6 * j + 2)) (nI_addE rfl rfl) ?_)
  refine v_xald (i := 6 * j + 2) g x (by omega) hL dL_law_676 ?_
  refine v_aload_n g dL_law_677 3 rfl ?_
  refine v_iload_n g dL_law_678 0 rfl ?_
  refine v_iconst (v := 3) g dL_law_679 (by decide) ?_
  refine v_iadd g dL_law_680 (v_eqi (y := nI (6 * j + 3)) (nI_addE rfl rfl) ?_)
  refine v_xald (i := 6 * j + 3) g x (by omega) hL dL_law_681 ?_
  refine v_callV (As := [.int (xs (6 * j + 1)), .int (xs (6 * j + 2)), .int (xs (6 * j + 3))]) (r := some (.int v)) g dL_law_682 (kr _) cl_X6_best ml_RL_97 im_X6_best (rd_M _ _ _) rfl rfl ⟨rfl, rfl, rfl⟩ ?_
  refine v_meq (swapM B C' D' ρ).symm ?_
  refine v_icmp_eq (tgt := 934) g dL_law_685 (by decide) (fun _ => ?_) (fun hh => absurd rfl hh)
  exact law_next g (ih C' D' hI')
theorem law_20 (g : GX X l0 G0 (mL_law nm) 9 366) (x : LX X bb L xs) (hL : L ≤ 384) (hj6 : 6 * j + 6 ≤ L) (hI : Inv C D j) (ih : ∀ C' D', Inv C' D' (j + 1) → V X 0 0 n (ren B C' (rem (B + 136) D' ρ)) 18 [(3, .int (nI (6 * (j + 1)))), (2, .ref (B + 136)), (1, .ref B), (0, .ref bb)] []) : V X 0 0 n (ren B C (rem (B + 136) D ρ)) 690 [(3, .int (nI (6 * j))), (2, .ref (B + 136)), (1, .ref B), (0, .ref bb)] [] := by
  have hj : j < 64 := by omega
  obtain ⟨v, C', D', kc, kr, hI'⟩ := op_see (l := l0) (G := G0) (n := n) (B := B) hI (xs (6 * j + 1)) (xs (6 * j + 2)) (xs (6 * j + 3))
  refine v_aload_n g dL_law_690 2 rfl ?_
  refine v_aload_n g dL_law_691 3 rfl ?_
  refine v_iload_n g dL_law_692 0 rfl ?_
  refine v_iconst (v := 1) g dL_law_693 (by decide) ?_
  refine v_iadd g dL_law_694 (v_eqi (y := nI (6 * j + 1)) (nI_addE rfl rfl) ?_)
  refine v_xald (i := 6 * j + 1) g x (by omega) hL dL_law_695 ?_
  refine v_aload_n g dL_law_696 3 rfl ?_
  refine v_iload_n g dL_law_697 0 rfl ?_
  refine v_iconst (v := 2) g dL_law_698 (by decide) ?_
  refine v_iadd g dL_law_699 (v_eqi (y := nI (6 * j + 2)) (nI_addE rfl rfl) ?_)
  refine v_xald (i := 6 * j + 2) g x (by omega) hL dL_law_700 ?_
  refine v_aload_n g dL_law_701 3 rfl ?_
  refine v_iload_n g dL_law_702 0 rfl ?_
  refine v_iconst (v := 3) g dL_law_703 (by decide) ?_
  refine v_iadd g dL_law_704 (v_eqi (y := nI (6 * j + 3)) (nI_addE rfl rfl) ?_)
  refine v_xald (i := 6 * j + 3) g x (by omega) hL dL_law_705 ?_
  refine v_callV (As := [.int (xs (6 * j + 1)), .int (xs (6 * j + 2)), .int (xs (6 * j + 3))]) (r := some (.int v)) g dL_law_706 (kc _) cl_X5_see ml_RL_98 im_X5_see (rd_W B _ _) rfl rfl ⟨rfl, rfl, rfl⟩ ?_
  refine v_meq (swapM B C' D ρ) ?_
  refine v_aload_n g dL_law_709 1 rfl ?_
  refine v_aload_n g dL_law_710 3 rfl ?_
  refine v_iload_n g dL_law_711 0 rfl ?_
  refine v_iconst (v := 1) g dL_law_712 (by decide) ?_
  refine v_iadd g dL_law_713 (v_eqi (y := nI (6 * j + 1)) (nI_addE rfl rfl) ?_)
  refine v_xald (i := 6 * j + 1) g x (by omega) hL dL_law_714 ?_
  refine v_aload_n g dL_law_715 3 rfl ?_
  refine v_iload_n g dL_law_716 0 rfl ?_
  refine v_iconst (v := 2) g dL_law_717 (by decide) ?_
  refine v_iadd g dL_law_718 (v_eqi (y := nI (6 * j + 2)) (nI_addE rfl rfl) ?_)
  refine v_xald (i := 6 * j + 2) g x (by omega) hL dL_law_719 ?_
  refine v_aload_n g dL_law_720 3 rfl ?_
  refine v_iload_n g dL_law_721 0 rfl ?_
  refine v_iconst (v := 3) g dL_law_722 (by decide) ?_
  refine v_iadd g dL_law_723 (v_eqi (y := nI (6 * j + 3)) (nI_addE rfl rfl) ?_)
  refine v_xald (i := 6 * j + 3) g x (by omega) hL dL_law_724 ?_
  refine v_callV (As := [.int (xs (6 * j + 1)), .int (xs (6 * j + 2)), .int (xs (6 * j + 3))]) (r := some (.int v)) g dL_law_725 (kr _) cl_X6_see ml_RL_101 im_X6_see (rd_M _ _ _) rfl rfl ⟨rfl, rfl, rfl⟩ ?_
  refine v_meq (swapM B C' D' ρ).symm ?_
  refine v_icmp_eq (tgt := 934) g dL_law_728 (by decide) (fun _ => ?_) (fun hh => absurd rfl hh)
  exact law_next g (ih C' D' hI')
theorem law_21 (g : GX X l0 G0 (mL_law nm) 9 366) (x : LX X bb L xs) (hL : L ≤ 384) (hj6 : 6 * j + 6 ≤ L) (hI : Inv C D j) (ih : ∀ C' D', Inv C' D' (j + 1) → V X 0 0 n (ren B C' (rem (B + 136) D' ρ)) 18 [(3, .int (nI (6 * (j + 1)))), (2, .ref (B + 136)), (1, .ref B), (0, .ref bb)] []) : V X 0 0 n (ren B C (rem (B + 136) D ρ)) 733 [(3, .int (nI (6 * j))), (2, .ref (B + 136)), (1, .ref B), (0, .ref bb)] [] := by
  have hj : j < 64 := by omega
  obtain ⟨v, C', D', kc, kr, hI'⟩ := op_forget (l := l0) (G := G0) (n := n) (B := B) hI 
  refine v_aload_n g dL_law_733 2 rfl ?_
  refine v_callV (As := []) (r := some (.int v)) g dL_law_734 (kc _) cl_X5_forget ml_RL_102 im_X5_forget (rd_W B _ _) rfl rfl ⟨rfl, rfl, rfl⟩ ?_
  refine v_meq (swapM B C' D ρ) ?_
  refine v_aload_n g dL_law_737 1 rfl ?_
  refine v_callV (As := []) (r := some (.int v)) g dL_law_738 (kr _) cl_X6_forget ml_RL_105 im_X6_forget (rd_M _ _ _) rfl rfl ⟨rfl, rfl, rfl⟩ ?_
  refine v_meq (swapM B C' D' ρ).symm ?_
  refine v_icmp_eq (tgt := 934) g dL_law_741 (by decide) (fun _ => ?_) (fun hh => absurd rfl hh)
  exact law_next g (ih C' D' hI')
theorem law_22 (g : GX X l0 G0 (mL_law nm) 9 366) (x : LX X bb L xs) (hL : L ≤ 384) (hj6 : 6 * j + 6 ≤ L) (hI : Inv C D j) (ih : ∀ C' D', Inv C' D' (j + 1) → V X 0 0 n (ren B C' (rem (B + 136) D' ρ)) 18 [(3, .int (nI (6 * (j + 1)))), (2, .ref (B + 136)), (1, .ref B), (0, .ref bb)] []) : V X 0 0 n (ren B C (rem (B + 136) D ρ)) 746 [(3, .int (nI (6 * j))), (2, .ref (B + 136)), (1, .ref B), (0, .ref bb)] [] := by
  have hj : j < 64 := by omega
  obtain ⟨v, C', D', kc, kr, hI'⟩ := op_fits (l := l0) (G := G0) (n := n) (B := B) hI (xs (6 * j + 1)) (xs (6 * j + 2))
  refine v_aload_n g dL_law_746 2 rfl ?_
  refine v_aload_n g dL_law_747 3 rfl ?_
  refine v_iload_n g dL_law_748 0 rfl ?_
  refine v_iconst (v := 1) g dL_law_749 (by decide) ?_
  refine v_iadd g dL_law_750 (v_eqi (y := nI (6 * j + 1)) (nI_addE rfl rfl) ?_)
  refine v_xald (i := 6 * j + 1) g x (by omega) hL dL_law_751 ?_
  refine v_aload_n g dL_law_752 3 rfl ?_
  refine v_iload_n g dL_law_753 0 rfl ?_
  refine v_iconst (v := 2) g dL_law_754 (by decide) ?_
  refine v_iadd g dL_law_755 (v_eqi (y := nI (6 * j + 2)) (nI_addE rfl rfl) ?_)
  refine v_xald (i := 6 * j + 2) g x (by omega) hL dL_law_756 ?_
  refine v_callV (As := [.int (xs (6 * j + 1)), .int (xs (6 * j + 2))]) (r := some (.int v)) g dL_law_757 (kc _) cl_X5_fits ml_RL_106 im_X5_fits (rd_W B _ _) rfl rfl ⟨rfl, rfl, rfl⟩ ?_
  refine v_meq (swapM B C' D ρ) ?_
  refine v_aload_n g dL_law_760 1 rfl ?_
  refine v_aload_n g dL_law_761 3 rfl ?_
  refine v_iload_n g dL_law_762 0 rfl ?_
  refine v_iconst (v := 1) g dL_law_763 (by decide) ?_
  refine v_iadd g dL_law_764 (v_eqi (y := nI (6 * j + 1)) (nI_addE rfl rfl) ?_)
  refine v_xald (i := 6 * j + 1) g x (by omega) hL dL_law_765 ?_
  refine v_aload_n g dL_law_766 3 rfl ?_
  refine v_iload_n g dL_law_767 0 rfl ?_
  refine v_iconst (v := 2) g dL_law_768 (by decide) ?_
  refine v_iadd g dL_law_769 (v_eqi (y := nI (6 * j + 2)) (nI_addE rfl rfl) ?_)
  refine v_xald (i := 6 * j + 2) g x (by omega) hL dL_law_770 ?_
  refine v_callV (As := [.int (xs (6 * j + 1)), .int (xs (6 * j + 2))]) (r := some (.int v)) g dL_law_771 (kr _) cl_X6_fits ml_RL_109 im_X6_fits (rd_M _ _ _) rfl rfl ⟨rfl, rfl, rfl⟩ ?_
  refine v_meq (swapM B C' D' ρ).symm ?_
  refine v_icmp_eq (tgt := 934) g dL_law_774 (by decide) (fun _ => ?_) (fun hh => absurd rfl hh)
  exact law_next g (ih C' D' hI')
theorem law_23 (g : GX X l0 G0 (mL_law nm) 9 366) (x : LX X bb L xs) (hL : L ≤ 384) (hj6 : 6 * j + 6 ≤ L) (hI : Inv C D j) (ih : ∀ C' D', Inv C' D' (j + 1) → V X 0 0 n (ren B C' (rem (B + 136) D' ρ)) 18 [(3, .int (nI (6 * (j + 1)))), (2, .ref (B + 136)), (1, .ref B), (0, .ref bb)] []) : V X 0 0 n (ren B C (rem (B + 136) D ρ)) 779 [(3, .int (nI (6 * j))), (2, .ref (B + 136)), (1, .ref B), (0, .ref bb)] [] := by
  have hj : j < 64 := by omega
  obtain ⟨v, C', D', kc, kr, hI'⟩ := op_frost (l := l0) (G := G0) (n := n) (B := B) hI (xs (6 * j + 1)) (xs (6 * j + 2)) (xs (6 * j + 3)) (xs (6 * j + 4)) (xs (6 * j + 5))
  refine v_aload_n g dL_law_779 2 rfl ?_
  refine v_aload_n g dL_law_780 3 rfl ?_
  refine v_iload_n g dL_law_781 0 rfl ?_
  refine v_iconst (v := 1) g dL_law_782 (by decide) ?_
  refine v_iadd g dL_law_783 (v_eqi (y := nI (6 * j + 1)) (nI_addE rfl rfl) ?_)
  refine v_xald (i := 6 * j + 1) g x (by omega) hL dL_law_784 ?_
  refine v_aload_n g dL_law_785 3 rfl ?_
  refine v_iload_n g dL_law_786 0 rfl ?_
  refine v_iconst (v := 2) g dL_law_787 (by decide) ?_
  refine v_iadd g dL_law_788 (v_eqi (y := nI (6 * j + 2)) (nI_addE rfl rfl) ?_)
  refine v_xald (i := 6 * j + 2) g x (by omega) hL dL_law_789 ?_
  refine v_aload_n g dL_law_790 3 rfl ?_
  refine v_iload_n g dL_law_791 0 rfl ?_
  refine v_iconst (v := 3) g dL_law_792 (by decide) ?_
  refine v_iadd g dL_law_793 (v_eqi (y := nI (6 * j + 3)) (nI_addE rfl rfl) ?_)
  refine v_xald (i := 6 * j + 3) g x (by omega) hL dL_law_794 ?_
  refine v_aload_n g dL_law_795 3 rfl ?_
  refine v_iload_n g dL_law_796 0 rfl ?_
  refine v_iconst (v := 4) g dL_law_797 (by decide) ?_
  refine v_iadd g dL_law_798 (v_eqi (y := nI (6 * j + 4)) (nI_addE rfl rfl) ?_)
  refine v_xald (i := 6 * j + 4) g x (by omega) hL dL_law_799 ?_
  refine v_aload_n g dL_law_800 3 rfl ?_
  refine v_iload_n g dL_law_801 0 rfl ?_
  refine v_iconst (v := 5) g dL_law_802 (by decide) ?_
  refine v_iadd g dL_law_803 (v_eqi (y := nI (6 * j + 5)) (nI_addE rfl rfl) ?_)
  refine v_xald (i := 6 * j + 5) g x (by omega) hL dL_law_804 ?_
  refine v_callV (As := [.int (xs (6 * j + 1)), .int (xs (6 * j + 2)), .int (xs (6 * j + 3)), .int (xs (6 * j + 4)), .int (xs (6 * j + 5))]) (r := some (.int v)) g dL_law_805 (kc _) cl_X5_frost ml_RL_110 im_X5_frost (rd_W B _ _) rfl rfl ⟨rfl, rfl, rfl⟩ ?_
  refine v_meq (swapM B C' D ρ) ?_
  refine v_aload_n g dL_law_808 1 rfl ?_
  refine v_aload_n g dL_law_809 3 rfl ?_
  refine v_iload_n g dL_law_810 0 rfl ?_
  refine v_iconst (v := 1) g dL_law_811 (by decide) ?_
  refine v_iadd g dL_law_812 (v_eqi (y := nI (6 * j + 1)) (nI_addE rfl rfl) ?_)
  refine v_xald (i := 6 * j + 1) g x (by omega) hL dL_law_813 ?_
  refine v_aload_n g dL_law_814 3 rfl ?_
  refine v_iload_n g dL_law_815 0 rfl ?_
  refine v_iconst (v := 2) g dL_law_816 (by decide) ?_
  refine v_iadd g dL_law_817 (v_eqi (y := nI (6 * j + 2)) (nI_addE rfl rfl) ?_)
  refine v_xald (i := 6 * j + 2) g x (by omega) hL dL_law_818 ?_
  refine v_aload_n g dL_law_819 3 rfl ?_
  refine v_iload_n g dL_law_820 0 rfl ?_
  refine v_iconst (v := 3) g dL_law_821 (by decide) ?_
  refine v_iadd g dL_law_822 (v_eqi (y := nI (6 * j + 3)) (nI_addE rfl rfl) ?_)
  refine v_xald (i := 6 * j + 3) g x (by omega) hL dL_law_823 ?_
  refine v_aload_n g dL_law_824 3 rfl ?_
  refine v_iload_n g dL_law_825 0 rfl ?_
  refine v_iconst (v := 4) g dL_law_826 (by decide) ?_
  refine v_iadd g dL_law_827 (v_eqi (y := nI (6 * j + 4)) (nI_addE rfl rfl) ?_)
  refine v_xald (i := 6 * j + 4) g x (by omega) hL dL_law_828 ?_
  refine v_aload_n g dL_law_829 3 rfl ?_
  refine v_iload_n g dL_law_830 0 rfl ?_
  refine v_iconst (v := 5) g dL_law_831 (by decide) ?_
  refine v_iadd g dL_law_832 (v_eqi (y := nI (6 * j + 5)) (nI_addE rfl rfl) ?_)
  refine v_xald (i := 6 * j + 5) g x (by omega) hL dL_law_833 ?_
  refine v_callV (As := [.int (xs (6 * j + 1)), .int (xs (6 * j + 2)), .int (xs (6 * j + 3)), .int (xs (6 * j + 4)), .int (xs (6 * j + 5))]) (r := some (.int v)) g dL_law_834 (kr _) cl_X6_frost ml_RL_114 im_X6_frost (rd_M _ _ _) rfl rfl ⟨rfl, rfl, rfl⟩ ?_
  refine v_meq (swapM B C' D' ρ).symm ?_
  refine v_icmp_eq (tgt := 934) g dL_law_837 (by decide) (fun _ => ?_) (fun hh => absurd rfl hh)
  exact law_next g (ih C' D' hI')
theorem law_24 (g : GX X l0 G0 (mL_law nm) 9 366) (x : LX X bb L xs) (hL : L ≤ 384) (hj6 : 6 * j + 6 ≤ L) (hI : Inv C D j) (ih : ∀ C' D', Inv C' D' (j + 1) → V X 0 0 n (ren B C' (rem (B + 136) D' ρ)) 18 [(3, .int (nI (6 * (j + 1)))), (2, .ref (B + 136)), (1, .ref B), (0, .ref bb)] []) : V X 0 0 n (ren B C (rem (B + 136) D ρ)) 842 [(3, .int (nI (6 * j))), (2, .ref (B + 136)), (1, .ref B), (0, .ref bb)] [] := by
  have hj : j < 64 := by omega
  obtain ⟨v, C', D', kc, kr, hI'⟩ := op_century (l := l0) (G := G0) (n := n) (B := B) hI (xs (6 * j + 1)) (xs (6 * j + 2)) (xs (6 * j + 3))
  refine v_aload_n g dL_law_842 2 rfl ?_
  refine v_aload_n g dL_law_843 3 rfl ?_
  refine v_iload_n g dL_law_844 0 rfl ?_
  refine v_iconst (v := 1) g dL_law_845 (by decide) ?_
  refine v_iadd g dL_law_846 (v_eqi (y := nI (6 * j + 1)) (nI_addE rfl rfl) ?_)
  refine v_xald (i := 6 * j + 1) g x (by omega) hL dL_law_847 ?_
  refine v_aload_n g dL_law_848 3 rfl ?_
  refine v_iload_n g dL_law_849 0 rfl ?_
  refine v_iconst (v := 2) g dL_law_850 (by decide) ?_
  refine v_iadd g dL_law_851 (v_eqi (y := nI (6 * j + 2)) (nI_addE rfl rfl) ?_)
  refine v_xald (i := 6 * j + 2) g x (by omega) hL dL_law_852 ?_
  refine v_aload_n g dL_law_853 3 rfl ?_
  refine v_iload_n g dL_law_854 0 rfl ?_
  refine v_iconst (v := 3) g dL_law_855 (by decide) ?_
  refine v_iadd g dL_law_856 (v_eqi (y := nI (6 * j + 3)) (nI_addE rfl rfl) ?_)
  refine v_xald (i := 6 * j + 3) g x (by omega) hL dL_law_857 ?_
  refine v_callV (As := [.int (xs (6 * j + 1)), .int (xs (6 * j + 2)), .int (xs (6 * j + 3))]) (r := some (.int v)) g dL_law_858 (kc _) cl_X5_century ml_RL_115 im_X5_century (rd_W B _ _) rfl rfl ⟨rfl, rfl, rfl⟩ ?_
  refine v_meq (swapM B C' D ρ) ?_
  refine v_aload_n g dL_law_861 1 rfl ?_
  refine v_aload_n g dL_law_862 3 rfl ?_
  refine v_iload_n g dL_law_863 0 rfl ?_
  refine v_iconst (v := 1) g dL_law_864 (by decide) ?_
  refine v_iadd g dL_law_865 (v_eqi (y := nI (6 * j + 1)) (nI_addE rfl rfl) ?_)
  refine v_xald (i := 6 * j + 1) g x (by omega) hL dL_law_866 ?_
  refine v_aload_n g dL_law_867 3 rfl ?_
  refine v_iload_n g dL_law_868 0 rfl ?_
  refine v_iconst (v := 2) g dL_law_869 (by decide) ?_
  refine v_iadd g dL_law_870 (v_eqi (y := nI (6 * j + 2)) (nI_addE rfl rfl) ?_)
  refine v_xald (i := 6 * j + 2) g x (by omega) hL dL_law_871 ?_
  refine v_aload_n g dL_law_872 3 rfl ?_
  refine v_iload_n g dL_law_873 0 rfl ?_
  refine v_iconst (v := 3) g dL_law_874 (by decide) ?_
  refine v_iadd g dL_law_875 (v_eqi (y := nI (6 * j + 3)) (nI_addE rfl rfl) ?_)
  refine v_xald (i := 6 * j + 3) g x (by omega) hL dL_law_876 ?_
  refine v_callV (As := [.int (xs (6 * j + 1)), .int (xs (6 * j + 2)), .int (xs (6 * j + 3))]) (r := some (.int v)) g dL_law_877 (kr _) cl_X6_century ml_RL_118 im_X6_century (rd_M _ _ _) rfl rfl ⟨rfl, rfl, rfl⟩ ?_
  refine v_meq (swapM B C' D' ρ).symm ?_
  refine v_icmp_eq (tgt := 934) g dL_law_880 (by decide) (fun _ => ?_) (fun hh => absurd rfl hh)
  exact law_next g (ih C' D' hI')
theorem law_25 (g : GX X l0 G0 (mL_law nm) 9 366) (x : LX X bb L xs) (hL : L ≤ 384) (hj6 : 6 * j + 6 ≤ L) (hI : Inv C D j) (ih : ∀ C' D', Inv C' D' (j + 1) → V X 0 0 n (ren B C' (rem (B + 136) D' ρ)) 18 [(3, .int (nI (6 * (j + 1)))), (2, .ref (B + 136)), (1, .ref B), (0, .ref bb)] []) : V X 0 0 n (ren B C (rem (B + 136) D ρ)) 885 [(3, .int (nI (6 * j))), (2, .ref (B + 136)), (1, .ref B), (0, .ref bb)] [] := by
  have hj : j < 64 := by omega
  obtain ⟨v, C', D', kc, kr, hI'⟩ := op_keep (l := l0) (G := G0) (n := n) (B := B) hI 
  refine v_aload_n g dL_law_885 2 rfl ?_
  refine v_callV (As := []) (r := some (.int v)) g dL_law_886 (kc _) cl_X5_keep ml_RL_119 im_X5_keep (rd_W B _ _) rfl rfl ⟨rfl, rfl, rfl⟩ ?_
  refine v_meq (swapM B C' D ρ) ?_
  refine v_aload_n g dL_law_889 1 rfl ?_
  refine v_callV (As := []) (r := some (.int v)) g dL_law_890 (kr _) cl_X6_keep ml_RL_122 im_X6_keep (rd_M _ _ _) rfl rfl ⟨rfl, rfl, rfl⟩ ?_
  refine v_meq (swapM B C' D' ρ).symm ?_
  refine v_icmp_eq (tgt := 934) g dL_law_893 (by decide) (fun _ => ?_) (fun hh => absurd rfl hh)
  exact law_next g (ih C' D' hI')
theorem law_26 (g : GX X l0 G0 (mL_law nm) 9 366) (x : LX X bb L xs) (hL : L ≤ 384) (hj6 : 6 * j + 6 ≤ L) (hI : Inv C D j) (ih : ∀ C' D', Inv C' D' (j + 1) → V X 0 0 n (ren B C' (rem (B + 136) D' ρ)) 18 [(3, .int (nI (6 * (j + 1)))), (2, .ref (B + 136)), (1, .ref B), (0, .ref bb)] []) : V X 0 0 n (ren B C (rem (B + 136) D ρ)) 898 [(3, .int (nI (6 * j))), (2, .ref (B + 136)), (1, .ref B), (0, .ref bb)] [] := by
  have hj : j < 64 := by omega
  obtain ⟨v, C', D', kc, kr, hI'⟩ := op_back (l := l0) (G := G0) (n := n) (B := B) hI 
  refine v_aload_n g dL_law_898 2 rfl ?_
  refine v_callV (As := []) (r := some (.int v)) g dL_law_899 (kc _) cl_X5_back ml_RL_123 im_X5_back (rd_W B _ _) rfl rfl ⟨rfl, rfl, rfl⟩ ?_
  refine v_meq (swapM B C' D ρ) ?_
  refine v_aload_n g dL_law_902 1 rfl ?_
  refine v_callV (As := []) (r := some (.int v)) g dL_law_903 (kr _) cl_X6_back ml_RL_126 im_X6_back (rd_M _ _ _) rfl rfl ⟨rfl, rfl, rfl⟩ ?_
  refine v_meq (swapM B C' D' ρ).symm ?_
  refine v_icmp_eq (tgt := 934) g dL_law_906 (by decide) (fun _ => ?_) (fun hh => absurd rfl hh)
  exact law_next g (ih C' D' hI')
theorem law_27 (g : GX X l0 G0 (mL_law nm) 9 366) (x : LX X bb L xs) (hL : L ≤ 384) (hj6 : 6 * j + 6 ≤ L) (hI : Inv C D j) (ih : ∀ C' D', Inv C' D' (j + 1) → V X 0 0 n (ren B C' (rem (B + 136) D' ρ)) 18 [(3, .int (nI (6 * (j + 1)))), (2, .ref (B + 136)), (1, .ref B), (0, .ref bb)] []) : V X 0 0 n (ren B C (rem (B + 136) D ρ)) 911 [(3, .int (nI (6 * j))), (2, .ref (B + 136)), (1, .ref B), (0, .ref bb)] [] := by
  have hj : j < 64 := by omega
  obtain ⟨v, C', D', kc, kr, hI'⟩ := op_count (l := l0) (G := G0) (n := n) (B := B) hI (xs (6 * j + 1))
  refine v_aload_n g dL_law_911 2 rfl ?_
  refine v_aload_n g dL_law_912 3 rfl ?_
  refine v_iload_n g dL_law_913 0 rfl ?_
  refine v_iconst (v := 1) g dL_law_914 (by decide) ?_
  refine v_iadd g dL_law_915 (v_eqi (y := nI (6 * j + 1)) (nI_addE rfl rfl) ?_)
  refine v_xald (i := 6 * j + 1) g x (by omega) hL dL_law_916 ?_
  refine v_callV (As := [.int (xs (6 * j + 1))]) (r := some (.int v)) g dL_law_917 (kc _) cl_X5_count ml_RL_127 im_X5_count (rd_W B _ _) rfl rfl ⟨rfl, rfl, rfl⟩ ?_
  refine v_meq (swapM B C' D ρ) ?_
  refine v_aload_n g dL_law_920 1 rfl ?_
  refine v_aload_n g dL_law_921 3 rfl ?_
  refine v_iload_n g dL_law_922 0 rfl ?_
  refine v_iconst (v := 1) g dL_law_923 (by decide) ?_
  refine v_iadd g dL_law_924 (v_eqi (y := nI (6 * j + 1)) (nI_addE rfl rfl) ?_)
  refine v_xald (i := 6 * j + 1) g x (by omega) hL dL_law_925 ?_
  refine v_callV (As := [.int (xs (6 * j + 1))]) (r := some (.int v)) g dL_law_926 (kr _) cl_X6_count ml_RL_130 im_X6_count (rd_M _ _ _) rfl rfl ⟨rfl, rfl, rfl⟩ ?_
  refine v_meq (swapM B C' D' ρ).symm ?_
  refine v_icmp_eq (tgt := 934) g dL_law_929 (by decide) (fun _ => ?_) (fun hh => absurd rfl hh)
  exact law_next g (ih C' D' hI')
theorem law_loop (g : GX X l0 G0 (mL_law nm) 9 366) (x : LX X bb L xs) (hL : L ≤ 384) : ∀ (q j : Nat) (C : CS) (D : MS), L < 6 * (j + q) → j ≤ 64 → Inv C D j → V X 0 0 n (ren B C (rem (B + 136) D ρ)) 18 [(3, .int (nI (6 * j))), (2, .ref (B + 136)), (1, .ref B), (0, .ref bb)] [] := by
  intro q
  induction q with
  | zero =>
    intro j C D hq hj64 hI
    refine v_iload_n g dL_law_18 0 rfl ?_
    refine v_aload_n g dL_law_19 3 rfl ?_
    refine v_xlen g x dL_law_20 ?_
    refine v_bipush (v := 6) g dL_law_21 (by decide) ?_
    refine v_isub g dL_law_23 ?_
    refine v_icmp_gt (tgt := 940) g dL_law_24 (by decide) (fun _ => ?_) (fun hh => absurd (by rw [Int32.lt_iff_toInt_lt, sub6 hL, nI_toInt (by omega)]; omega) hh)
    refine v_iconst (v := 1) g dL_law_940 (by decide) ?_
    exact v_end1 g x dL_law_941
  | succ q ihq =>
    intro j C D hq hj64 hI
    refine v_iload_n g dL_law_18 0 rfl ?_
    refine v_aload_n g dL_law_19 3 rfl ?_
    refine v_xlen g x dL_law_20 ?_
    refine v_bipush (v := 6) g dL_law_21 (by decide) ?_
    refine v_isub g dL_law_23 ?_
    refine v_icmp_gt (tgt := 940) g dL_law_24 (by decide) (fun _ => ?_) (fun hh => ?_)
    · refine v_iconst (v := 1) g dL_law_940 (by decide) ?_
      exact v_end1 g x dL_law_941
    · have hj6 : 6 * j + 6 ≤ L := by
        rcases Nat.lt_or_ge L (6 * j + 6) with z | z
        · exfalso
          refine hh ?_
          rw [Int32.lt_iff_toInt_lt, sub6 hL, nI_toInt (by omega)]
          omega
        · exact z
      have ih : ∀ C' D', Inv C' D' (j + 1) → V X 0 0 n (ren B C' (rem (B + 136) D' ρ)) 18 [(3, .int (nI (6 * (j + 1)))), (2, .ref (B + 136)), (1, .ref B), (0, .ref bb)] [] := fun C' D' h => ihq (j + 1) C' D' (by omega) (by omega) h
      refine v_aload_n g dL_law_27 3 rfl ?_
      refine v_iload_n g dL_law_28 0 rfl ?_
      refine v_xald (i := 6 * j) g x (by omega) hL dL_law_29 ?_
      refine v_bipush (v := 31) g dL_law_30 (by decide) ?_
      refine v_iand g dL_law_32 ?_
      refine v_topi (fun y _ => ?_)
      by_cases ho : y.toInt < 0 ∨ 27 < y.toInt
      · refine v_tableOut (tgt := 934) g dL_law_33 ho (by decide) ?_
        exact law_next g (ih C D (Inv_up hI))
      · obtain ⟨i, hi, rfl⟩ := nI_of (x := y) (by rw [Int32.lt_iff_toInt_lt]; show ¬ y.toInt < 0; omega)
        rw [nI_toInt hi] at ho
        have hi28 : i < 28 := by omega
        rcases (show i = 0 ∨ i = 1 ∨ i = 2 ∨ i = 3 ∨ i = 4 ∨ i = 5 ∨ i = 6 ∨ i = 7 ∨ i = 8 ∨ i = 9 ∨ i = 10 ∨ i = 11 ∨ i = 12 ∨ i = 13 ∨ i = 14 ∨ i = 15 ∨ i = 16 ∨ i = 17 ∨ i = 18 ∨ i = 19 ∨ i = 20 ∨ i = 21 ∨ i = 22 ∨ i = 23 ∨ i = 24 ∨ i = 25 ∨ i = 26 ∨ i = 27 by omega) with z | z | z | z | z | z | z | z | z | z | z | z | z | z | z | z | z | z | z | z | z | z | z | z | z | z | z | z
        · subst z
          refine v_tableIn (tgt := 160) (off := 127) g dL_law_33 (by decide) (by rfl) (by decide) ?_
          exact law_0 g x hL hj6 hI ih
        · subst z
          refine v_tableIn (tgt := 183) (off := 150) g dL_law_33 (by decide) (by rfl) (by decide) ?_
          exact law_1 g x hL hj6 hI ih
        · subst z
          refine v_tableIn (tgt := 196) (off := 163) g dL_law_33 (by decide) (by rfl) (by decide) ?_
          exact law_2 g x hL hj6 hI ih
        · subst z
          refine v_tableIn (tgt := 209) (off := 176) g dL_law_33 (by decide) (by rfl) (by decide) ?_
          exact law_3 g x hL hj6 hI ih
        · subst z
          refine v_tableIn (tgt := 222) (off := 189) g dL_law_33 (by decide) (by rfl) (by decide) ?_
          exact law_4 g x hL hj6 hI ih
        · subst z
          refine v_tableIn (tgt := 255) (off := 222) g dL_law_33 (by decide) (by rfl) (by decide) ?_
          exact law_5 g x hL hj6 hI ih
        · subst z
          refine v_tableIn (tgt := 288) (off := 255) g dL_law_33 (by decide) (by rfl) (by decide) ?_
          exact law_6 g x hL hj6 hI ih
        · subst z
          refine v_tableIn (tgt := 321) (off := 288) g dL_law_33 (by decide) (by rfl) (by decide) ?_
          exact law_7 g x hL hj6 hI ih
        · subst z
          refine v_tableIn (tgt := 344) (off := 311) g dL_law_33 (by decide) (by rfl) (by decide) ?_
          exact law_8 g x hL hj6 hI ih
        · subst z
          refine v_tableIn (tgt := 367) (off := 334) g dL_law_33 (by decide) (by rfl) (by decide) ?_
          exact law_9 g x hL hj6 hI ih
        · subst z
          refine v_tableIn (tgt := 390) (off := 357) g dL_law_33 (by decide) (by rfl) (by decide) ?_
          exact law_10 g x hL hj6 hI ih
        · subst z
          refine v_tableIn (tgt := 413) (off := 380) g dL_law_33 (by decide) (by rfl) (by decide) ?_
          exact law_11 g x hL hj6 hI ih
        · subst z
          refine v_tableIn (tgt := 436) (off := 403) g dL_law_33 (by decide) (by rfl) (by decide) ?_
          exact law_12 g x hL hj6 hI ih
        · subst z
          refine v_tableIn (tgt := 449) (off := 416) g dL_law_33 (by decide) (by rfl) (by decide) ?_
          exact law_13 g x hL hj6 hI ih
        · subst z
          refine v_tableIn (tgt := 482) (off := 449) g dL_law_33 (by decide) (by rfl) (by decide) ?_
          exact law_14 g x hL hj6 hI ih
        · subst z
          refine v_tableIn (tgt := 515) (off := 482) g dL_law_33 (by decide) (by rfl) (by decide) ?_
          exact law_15 g x hL hj6 hI ih
        · subst z
          refine v_tableIn (tgt := 548) (off := 515) g dL_law_33 (by decide) (by rfl) (by decide) ?_
          exact law_16 g x hL hj6 hI ih
        · subst z
          refine v_tableIn (tgt := 581) (off := 548) g dL_law_33 (by decide) (by rfl) (by decide) ?_
          exact law_17 g x hL hj6 hI ih
        · subst z
          refine v_tableIn (tgt := 594) (off := 561) g dL_law_33 (by decide) (by rfl) (by decide) ?_
          exact law_18 g x hL hj6 hI ih
        · subst z
          refine v_tableIn (tgt := 647) (off := 614) g dL_law_33 (by decide) (by rfl) (by decide) ?_
          exact law_19 g x hL hj6 hI ih
        · subst z
          refine v_tableIn (tgt := 690) (off := 657) g dL_law_33 (by decide) (by rfl) (by decide) ?_
          exact law_20 g x hL hj6 hI ih
        · subst z
          refine v_tableIn (tgt := 733) (off := 700) g dL_law_33 (by decide) (by rfl) (by decide) ?_
          exact law_21 g x hL hj6 hI ih
        · subst z
          refine v_tableIn (tgt := 746) (off := 713) g dL_law_33 (by decide) (by rfl) (by decide) ?_
          exact law_22 g x hL hj6 hI ih
        · subst z
          refine v_tableIn (tgt := 779) (off := 746) g dL_law_33 (by decide) (by rfl) (by decide) ?_
          exact law_23 g x hL hj6 hI ih
        · subst z
          refine v_tableIn (tgt := 842) (off := 809) g dL_law_33 (by decide) (by rfl) (by decide) ?_
          exact law_24 g x hL hj6 hI ih
        · subst z
          refine v_tableIn (tgt := 885) (off := 852) g dL_law_33 (by decide) (by rfl) (by decide) ?_
          exact law_25 g x hL hj6 hI ih
        · subst z
          refine v_tableIn (tgt := 898) (off := 865) g dL_law_33 (by decide) (by rfl) (by decide) ?_
          exact law_26 g x hL hj6 hI ih
        · subst z
          refine v_tableIn (tgt := 911) (off := 878) g dL_law_33 (by decide) (by rfl) (by decide) ?_
          exact law_27 g x hL hj6 hI ih
end L2
