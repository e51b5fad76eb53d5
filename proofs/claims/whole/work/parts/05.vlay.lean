/-! THE V LAYER: a walk whose memory is a function from addresses to cells; a contract (Ctr) says what a method makes of it -/
/-- the words of the tables that every method may hand on -/
def TT : List Cond := lw_tbl.filter goodWord
theorem TT_tbl : ∀ w ∈ TT, w ∈ lw_tbl := fun w h => (List.mem_filter.mp h).1
theorem TT_good {ws : List Cond} (h : ∀ w ∈ ws, w ∈ TT) : GoodIn TT ws := fun w hw => ⟨h w hw, good_of_word (List.mem_filter.mp (h w hw)).2⟩
/-- a cell: an array (which type, how long, what is in it), or an object (which class, its fields) -/
abbrev Ce : Type := (Nat × vp_A) ⊕ (Nat × List Value)
abbrev Mu : Type := Nat → Option Ce
abbrev GG : Type := va_G × (Nat → ClassId) × Nat
abbrev MD : Type := MethodName × ByteArray × Nat × Option FieldType
def toE (ty : Nat → ClassId) (e : Ce) : va_E := match e with
  | .inl a => .inl (ty a.1, a.2)
  | .inr o => .inr o
def tysL (ty : Nat → ClassId) : List (ClassId × FieldType) := [(ty 0, .int), (ty 1, .long), (ty 2, .char), (ty 3, .object RX4), (ty 4, .object RX1), (ty 5, .byte)]
def nestW : List (String × Nat × MethodName × String) := [(RX5, 15, ⟨RX0, "<init>", "()V"⟩, "WalkingOrchard"), (RX1, 25, ⟨RX4, "<init>", "()V"⟩, "WalkingOrchard"), (RX5, 34, ⟨RX3, "<init>", "()V"⟩, "WalkingOrchard"), (RX3, 11, ⟨RX0, "<init>", "()V"⟩, "WalkingOrchard"), (RX3, 86, ⟨RX5, "bit", "(I)J"⟩, "WalkingOrchard"), (RX3, 143, ⟨RX5, "contains", "(JI)Z"⟩, "WalkingOrchard"), (RX0, 32, ⟨RX5, "contains", "(JI)Z"⟩, "WalkingOrchard"), (RX1, 50, ⟨RX5, "contains", "(JI)Z"⟩, "WalkingOrchard"), (RX4, 28, ⟨RX5, "bit", "(I)J"⟩, "WalkingOrchard"), (RX1, 69, ⟨RX5, "bit", "(I)J"⟩, "WalkingOrchard")]
def NW (U : State) : Prop := ∀ q ∈ nestW, va_Nw (.methodLinkNest q.1 q.2.1 q.2.2.1 q.2.2.2) U
def KK (G : GG) (U : State) : Prop := va_K G.1 vwCl (tysL G.2.1) U ∧ NW U ∧ va_AO RX4 U ∧ va_AO RX1 U
theorem KK.warm {G : GG} {s U : State} (hW : s.WarmedH U.vm) (h : KK G s) : KK G U :=
  ⟨va_K.moved hW.alike h.1, fun q hq => va_Nw.warmM hW (h.2.1 q hq), h.2.2.1.moved hW.alike, h.2.2.2.moved hW.alike⟩
theorem KK.same {G : GG} {s U : State} (hv : s.vm = U.vm) (h : KK G s) : KK G U :=
  ⟨va_K.moved (by rw [hv]; exact Vm.Alike.refl _) h.1, fun q hq => va_Nw.same rfl hv (h.2.1 q hq), h.2.2.1.moved (by rw [hv]; exact Vm.Alike.refl _), h.2.2.2.moved (by rw [hv]; exact Vm.Alike.refl _)⟩
/-- the heap has n cells, and holds what the memory says -/
def Rp (G : GG) (n : Nat) (μ : Mu) (H : Heap) : Prop := H.size = n ∧ G.2.2 ≤ n ∧ ∃ ws : va_W, va_P G.1 vwCl ws H ∧ va_D (fun q => G.2.2 ≤ q) ws ∧ ∀ (a : Nat) (e : Ce), μ a = some e → ∃ k : Nat, ws[k]? = some (a, toE G.2.1 e)
def mset (μ : Mu) (a : Nat) (e : Ce) : Mu := fun j => if j = a then some e else μ j
theorem mset_self (μ : Mu) (a : Nat) (e : Ce) : mset μ a e a = some e := if_pos rfl
theorem mset_ne (μ : Mu) {a b : Nat} (e : Ce) (h : b ≠ a) : mset μ a e b = μ b := if_neg h
theorem Rp.lt {G : GG} {n : Nat} {μ : Mu} {H : Heap} (h : Rp G n μ H) {a : Nat} {e : Ce} (ha : μ a = some e) : a < n := by
  obtain ⟨h1, -, ws, hP, -, hf⟩ := h
  obtain ⟨k, hk⟩ := hf a e ha
  rw [← h1]; exact (hP k _ hk).lt
/-- a memory that says less -/
theorem Rp.less {G : GG} {n : Nat} {μ μ' : Mu} {H : Heap} (h : Rp G n μ H) (hl : ∀ (a : Nat) (e : Ce), μ' a = some e → μ a = some e) : Rp G n μ' H := by
  obtain ⟨h1, h2, ws, hP, hD, hf⟩ := h
  exact ⟨h1, h2, ws, hP, hD, fun a e ha => hf a e (hl a e ha)⟩
theorem Rp.set {G : GG} {n : Nat} {μ : Mu} {H H1 : Heap} {ws : va_W} (h1 : H.size = n) (h2 : G.2.2 ≤ n) (hf : ∀ (a : Nat) (e : Ce), μ a = some e → ∃ k : Nat, ws[k]? = some (a, toE G.2.1 e)) {a k : Nat} {e0 e1 : va_E} {e : Ce} (hD0 : va_D (fun q => G.2.2 ≤ q) ws) (hk : ws[k]? = some (a, e0)) (he : toE G.2.1 e = e1)
    (hP : va_P G.1 vwCl (ws.set k (a, e1)) H1) (hD : va_D (fun q => G.2.2 ≤ q) (ws.set k (a, e1))) (hz : H1.size = H.size) : Rp G n (mset μ a e) H1 := by
  subst he
  refine ⟨hz.trans h1, h2, _, hP, hD, fun b e2 hb => ?_⟩
  have hl := (List.getElem?_eq_some_iff.mp hk).1
  by_cases hba : b = a
  · subst hba
    rw [mset_self] at hb
    cases hb
    exact ⟨k, by rw [List.getElem?_set_self hl]⟩
  · rw [mset_ne _ _ hba] at hb
    obtain ⟨j, hj⟩ := hf b e2 hb
    refine ⟨j, ?_⟩
    have hjk : k ≠ j := by
      intro h; subst h
      rw [hk] at hj
      cases hj
      exact hba rfl
    rw [List.getElem?_set_ne hjk]; exact hj
theorem Rp.push {G : GG} {n : Nat} {μ : Mu} {H H1 : Heap} {ws : va_W} (h1 : H.size = n) (h2 : G.2.2 ≤ n) (hf : ∀ (a : Nat) (e : Ce), μ a = some e → ∃ k : Nat, ws[k]? = some (a, toE G.2.1 e)) {e1 : va_E} {e : Ce} (he : toE G.2.1 e = e1)
    (hP : va_P G.1 vwCl (ws ++ [(n, e1)]) H1) (hD : va_D (fun q => G.2.2 ≤ q) (ws ++ [(n, e1)])) (hz : H1.size = H.size + 1) : Rp G (n + 1) (mset μ n e) H1 := by
  subst he
  refine ⟨by rw [hz, h1], by omega, _, hP, hD, fun b e2 hb => ?_⟩
  by_cases hba : b = n
  · subst hba
    rw [mset_self] at hb
    cases hb
    exact ⟨ws.length, by rw [List.getElem?_append_right (Nat.le_refl _), Nat.sub_self]; rfl⟩
  · rw [mset_ne _ _ hba] at hb
    obtain ⟨j, hj⟩ := hf b e2 hb
    exact ⟨j, by rw [List.getElem?_append_left (List.getElem?_eq_some_iff.mp hj).1]; exact hj⟩
abbrev CX : Type := Program × Launch × Env × Room × State × MethodId × Array Value × List Frame × Method × Code × (State → Prop) × GG
def V (X : CX) (a b n : Nat) (μ : Mu) (pc : Nat) (ls : List (Nat × Value)) (st : List Value) : Prop := match X with
  | (p, l, e, R, s, m, args, below, meth, c, Z, G) => ∀ (H : Heap) (locs : List Loc) (cells slots : Nat) (L : Array Slot), cells + a ≤ R.cells → slots + b ≤ R.slots → Rp G n μ H → va_S (fun q => G.2.2 ≤ q) s.heap H locs → lv_has L c.maxLocals ls → W p l e R s m args below meth c H locs cells slots Z (F0 m pc L st)
def GX (X : CX) (l0 : Launch) (G0 : GG) (M : MD) (f w : Nat) : Prop := match X with
  | (p, l, e, R, s, m, args, below, meth, c, Z, G) => l = l0 ∧ G = G0 ∧ p.tables.exec = Jvm.exec ∧ c.code = M.2.1 ∧ meth.sig.returnType = M.2.2.2 ∧ c.maxLocals = M.2.2.1 ∧ s.vm.findClass M.1.cls = some m.cls ∧ (∀ t ∈ TT, t.before args s = true) ∧ meth.locks = false ∧ meth.name = M.1.name ∧ KK G s ∧ G.2.2 ≤ s.heap.size ∧ R.frames = f ∧ R.locals = w
def EX (X : CX) (r : Option Value) (n' : Nat) (μ' : Mu) : Prop := match X with
  | (p, l, e, R, s, m, args, below, meth, c, Z, G) => Z = MQ below (fun _ st o t => o = .returned r ∧ Rp G n' μ' t.heap ∧ va_F (fun q => G.2.2 ≤ q) st t) args s R.cells R.slots (fun q => G.2.2 ≤ q)
def wd (M : MD) : List Cond := .code M.1 M.2.1 M.2.2.1 M.2.2.2 :: TT
/-- THE CONTRACT: called with As on a heap of n cells that holds μ, the method returns r, and the heap has n' cells and holds μ'; it nests f frames of w words, makes a cells of b slots at most -/
def Ctr (l : Launch) (G : GG) (f w a b : Nat) (M : MD) (As : List Value) (n : Nat) (μ : Mu) (r : Option Value) (n' : Nat) (μ' : Mu) : Prop :=
  Met l M.1 (wd M) { frames := f, cells := a, slots := b, locals := w } (va_Pc As (fun U => Rp G n μ U.heap ∧ KK G U)) (fun _ st o t => o = .returned r ∧ Rp G n' μ' t.heap ∧ va_F (fun q => G.2.2 ≤ q) st t) a b (fun q => G.2.2 ≤ q)
theorem Ctr.of {l : Launch} {G : GG} {f w a b : Nat} {M : MD} {As : List Value} {n n' : Nat} {μ μ' : Mu} {r : Option Value} (hy : plainName M.1.cls = true) (hn : Nat.ble (lg_sl As).length M.2.2.1 = true)
    (h : ∀ X : CX, GX X l G M f w → EX X r n' μ' → V X a b n μ 0 (lv_args 0 As) []) : Ctr l G f w a b M As n μ r n' μ' := by
  refine Met.ofW (cc := M.2.1) (maxL := M.2.2.1) (ret := M.2.2.2) hy rfl ?_
  intro p e s m args below meth c s₁ B hml hv
  obtain ⟨rfl, hR, hK⟩ := hv
  have hts := atoms_spec (ws := wd M) B.pre
  have k := h (p, l, e, { frames := f, cells := a, slots := b, locals := w }, s, m, As.toArray, below, meth, c, _, G)
    ⟨rfl, rfl, B.exec, B.bytes, B.returns, hml, findClass_of_methodNamed B.named, fun t ht => hts t (List.mem_cons_of_mem _ ht), B.notSynchronized, (name_of_methodNamed B.named B.method).1, hK, by rw [hR.1]; exact hR.2.1, rfl, rfl⟩ rfl
  rw [lg_entry_eq]
  exact k s.heap [] 0 0 _ (by simp) (by simp) hR va_S.rf (by rw [hml]; exact lv_entry As (Nat.le_of_ble_eq_true hn))
section VL
variable {X : CX} {l0 : Launch} {G0 : GG} {M : MD} {f w a b n : Nat} {μ : Mu} {pc : Nat} {ls : List (Nat × Value)} {st : List Value}
theorem v_sub {ls' : List (Nat × Value)} (ks : List Nat) (h : lv_pick ls ks = ls') (k : V X a b n μ pc ls' st) : V X a b n μ pc ls st := by
  obtain ⟨p, l, e, R, s, m, args, below, meth, c, Z, G⟩ := X
  intro H locs cells slots L h1 h2 h3 h4 h5
  exact k H locs cells slots L h1 h2 h3 h4 (lv_sub h5 ks h)
theorem v_mem {μ' : Mu} (h : ∀ (q : Nat) (e : Ce), μ' q = some e → μ q = some e) (k : V X a b n μ' pc ls st) : V X a b n μ pc ls st := by
  obtain ⟨p, l, e, R, s, m, args, below, meth, c, Z, G⟩ := X
  intro H locs cells slots L h1 h2 h3 h4 h5
  exact k H locs cells slots L h1 h2 (h3.less h) h4 h5
theorem v_meq {μ' : Mu} (h : μ = μ') (k : V X a b n μ' pc ls st) : V X a b n μ pc ls st := h ▸ k
theorem v_room {a' b' : Nat} (ha : a' ≤ a) (hb : b' ≤ b) (k : V X a' b' n μ pc ls st) : V X a b n μ pc ls st := by
  obtain ⟨p, l, e, R, s, m, args, below, meth, c, Z, G⟩ := X
  intro H locs cells slots L h1 h2 h3 h4 h5
  exact k H locs cells slots L (by omega) (by omega) h3 h4 h5
theorem v_topi {x : Int32} (k : ∀ y : Int32, y = x → V X a b n μ pc ls (.int y :: st)) : V X a b n μ pc ls (.int x :: st) := k x rfl
theorem v_topl {x : Int64} (k : ∀ y : Int64, y = x → V X a b n μ pc ls (.long y :: st)) : V X a b n μ pc ls (.long x :: st) := k x rfl
theorem v_eqi {x y : Int32} (h : x = y) (k : V X a b n μ pc ls (.int y :: st)) : V X a b n μ pc ls (.int x :: st) := h ▸ k
theorem v_eql {x y : Int64} (h : x = y) (k : V X a b n μ pc ls (.long y :: st)) : V X a b n μ pc ls (.long x :: st) := h ▸ k

theorem v_iconst {i : Int} {v : Int32} (g : GX X l0 G0 M f w) (hd : decode M.2.1 pc = .ok (.iconst i, 1)) (hv : Int32.ofInt i = v) (k : V X a b n μ (pc + 1) ls (.int v :: st)) : V X a b n μ pc ls st := by
  obtain ⟨p, l, e, R, s, m, args, below, meth, c, Z, G⟩ := X
  obtain ⟨rfl, rfl, hx, hb, hr, hml, hown, hts, hlk, hnm, hK, hB, hf, hw⟩ := g
  intro H locs cells slots L h1 h2 h3 h4 h5
  exact lv_iconst hx hb hd hv (k H locs cells slots L h1 h2 h3 h4 h5)
theorem v_bipush {i : Int} {v : Int32} (g : GX X l0 G0 M f w) (hd : decode M.2.1 pc = .ok (.bipush i, 2)) (hv : (Int8.ofInt i).toInt32 = v) (k : V X a b n μ (pc + 2) ls (.int v :: st)) : V X a b n μ pc ls st := by
  obtain ⟨p, l, e, R, s, m, args, below, meth, c, Z, G⟩ := X
  obtain ⟨rfl, rfl, hx, hb, hr, hml, hown, hts, hlk, hnm, hK, hB, hf, hw⟩ := g
  intro H locs cells slots L h1 h2 h3 h4 h5
  exact lv_bipush hx hb hd hv (k H locs cells slots L h1 h2 h3 h4 h5)
theorem v_sipush {i : Int} {v : Int32} (g : GX X l0 G0 M f w) (hd : decode M.2.1 pc = .ok (.sipush i, 3)) (hv : (Int16.ofInt i).toInt32 = v) (k : V X a b n μ (pc + 3) ls (.int v :: st)) : V X a b n μ pc ls st := by
  obtain ⟨p, l, e, R, s, m, args, below, meth, c, Z, G⟩ := X
  obtain ⟨rfl, rfl, hx, hb, hr, hml, hown, hts, hlk, hnm, hK, hB, hf, hw⟩ := g
  intro H locs cells slots L h1 h2 h3 h4 h5
  exact lv_sipush hx hb hd hv (k H locs cells slots L h1 h2 h3 h4 h5)
theorem v_lconst {i : Fin 2} {v : Int64} (g : GX X l0 G0 M f w) (hd : decode M.2.1 pc = .ok (.lconst i, 1)) (hv : Int64.ofNat (i : Nat) = v) (k : V X a b n μ (pc + 1) ls (.long v :: st)) : V X a b n μ pc ls st := by
  obtain ⟨p, l, e, R, s, m, args, below, meth, c, Z, G⟩ := X
  obtain ⟨rfl, rfl, hx, hb, hr, hml, hown, hts, hlk, hnm, hK, hB, hf, hw⟩ := g
  intro H locs cells slots L h1 h2 h3 h4 h5
  exact lv_lconst hx hb hd hv (k H locs cells slots L h1 h2 h3 h4 h5)
theorem v_iload_n {x : Int32} {k0 : Fin 4} (g : GX X l0 G0 M f w) (hd : decode M.2.1 pc = .ok (.iload_n k0, 1)) (j : Nat) (hj : ls[j]? = some ((k0 : Nat), .int x)) (k : V X a b n μ (pc + 1) ls (.int x :: st)) : V X a b n μ pc ls st := by
  obtain ⟨p, l, e, R, s, m, args, below, meth, c, Z, G⟩ := X
  obtain ⟨rfl, rfl, hx, hb, hr, hml, hown, hts, hlk, hnm, hK, hB, hf, hw⟩ := g
  intro H locs cells slots L h1 h2 h3 h4 h5
  exact lv_iload_n hx hb hd rfl (lv_at h5 j hj) (k H locs cells slots L h1 h2 h3 h4 h5)
theorem v_iload {x : Int32} {i : Nat} (g : GX X l0 G0 M f w) (hd : decode M.2.1 pc = .ok (.iload i, 2)) (j : Nat) (hj : ls[j]? = some (i, .int x)) (k : V X a b n μ (pc + 2) ls (.int x :: st)) : V X a b n μ pc ls st := by
  obtain ⟨p, l, e, R, s, m, args, below, meth, c, Z, G⟩ := X
  obtain ⟨rfl, rfl, hx, hb, hr, hml, hown, hts, hlk, hnm, hK, hB, hf, hw⟩ := g
  intro H locs cells slots L h1 h2 h3 h4 h5
  exact lv_iload hx hb hd (lv_at h5 j hj) (k H locs cells slots L h1 h2 h3 h4 h5)
theorem v_istore_n {x : Int32} {k0 : Fin 4} {ls' : List (Nat × Value)} (g : GX X l0 G0 M f w) (hd : decode M.2.1 pc = .ok (.istore_n k0, 1)) (hi : Nat.blt (k0 : Nat) M.2.2.1 = true) (hl : ((k0 : Nat), Value.int x) :: ls.filter (fun q => !(q.1 == (k0 : Nat)) && !(q.1 + 1 == (k0 : Nat) && q.2.category == 2)) = ls') (k : V X a b n μ (pc + 1) ls' st) : V X a b n μ pc ls (.int x :: st) := by
  obtain ⟨p, l, e, R, s, m, args, below, meth, c, Z, G⟩ := X
  obtain ⟨rfl, rfl, hx, hb, hr, hml, hown, hts, hlk, hnm, hK, hB, hf, hw⟩ := g
  intro H locs cells slots L h1 h2 h3 h4 h5
  exact lv_istore_n hx hb hd rfl h5 (by rw [hml]; exact Nat.le_of_ble_eq_true hi) hl (fun L h5 => k H locs cells slots L h1 h2 h3 h4 h5)
theorem v_istore {x : Int32} {i : Nat} {ls' : List (Nat × Value)} (g : GX X l0 G0 M f w) (hd : decode M.2.1 pc = .ok (.istore i, 2)) (hi : Nat.blt i M.2.2.1 = true) (hl : (i, Value.int x) :: ls.filter (fun q => !(q.1 == i) && !(q.1 + 1 == i && q.2.category == 2)) = ls') (k : V X a b n μ (pc + 2) ls' st) : V X a b n μ pc ls (.int x :: st) := by
  obtain ⟨p, l, e, R, s, m, args, below, meth, c, Z, G⟩ := X
  obtain ⟨rfl, rfl, hx, hb, hr, hml, hown, hts, hlk, hnm, hK, hB, hf, hw⟩ := g
  intro H locs cells slots L h1 h2 h3 h4 h5
  exact lv_istore hx hb hd h5 (by rw [hml]; exact Nat.le_of_ble_eq_true hi) hl (fun L h5 => k H locs cells slots L h1 h2 h3 h4 h5)
theorem v_lload_n {x : Int64} {k0 : Fin 4} (g : GX X l0 G0 M f w) (hd : decode M.2.1 pc = .ok (.lload_n k0, 1)) (j : Nat) (hj : ls[j]? = some ((k0 : Nat), .long x)) (k : V X a b n μ (pc + 1) ls (.long x :: st)) : V X a b n μ pc ls st := by
  obtain ⟨p, l, e, R, s, m, args, below, meth, c, Z, G⟩ := X
  obtain ⟨rfl, rfl, hx, hb, hr, hml, hown, hts, hlk, hnm, hK, hB, hf, hw⟩ := g
  intro H locs cells slots L h1 h2 h3 h4 h5
  exact lv_lload_n hx hb hd rfl (lv_at h5 j hj) (k H locs cells slots L h1 h2 h3 h4 h5)
theorem v_lload {x : Int64} {i : Nat} (g : GX X l0 G0 M f w) (hd : decode M.2.1 pc = .ok (.lload i, 2)) (j : Nat) (hj : ls[j]? = some (i, .long x)) (k : V X a b n μ (pc + 2) ls (.long x :: st)) : V X a b n μ pc ls st := by
  obtain ⟨p, l, e, R, s, m, args, below, meth, c, Z, G⟩ := X
  obtain ⟨rfl, rfl, hx, hb, hr, hml, hown, hts, hlk, hnm, hK, hB, hf, hw⟩ := g
  intro H locs cells slots L h1 h2 h3 h4 h5
  exact lv_lload hx hb hd (lv_at h5 j hj) (k H locs cells slots L h1 h2 h3 h4 h5)
theorem v_lstore_n {x : Int64} {k0 : Fin 4} {ls' : List (Nat × Value)} (g : GX X l0 G0 M f w) (hd : decode M.2.1 pc = .ok (.lstore_n k0, 1)) (hi : Nat.blt ((k0 : Nat) + 1) M.2.2.1 = true) (hl : ((k0 : Nat), Value.long x) :: ls.filter (fun q => !(q.1 == (k0 : Nat)) && (!(q.1 == (k0 : Nat) + 1) && !(q.1 + 1 == (k0 : Nat) && q.2.category == 2))) = ls') (k : V X a b n μ (pc + 1) ls' st) : V X a b n μ pc ls (.long x :: st) := by
  obtain ⟨p, l, e, R, s, m, args, below, meth, c, Z, G⟩ := X
  obtain ⟨rfl, rfl, hx, hb, hr, hml, hown, hts, hlk, hnm, hK, hB, hf, hw⟩ := g
  intro H locs cells slots L h1 h2 h3 h4 h5
  exact lv_lstore_n hx hb hd rfl h5 (by rw [hml]; exact Nat.le_of_ble_eq_true hi) hl (fun L h5 => k H locs cells slots L h1 h2 h3 h4 h5)
theorem v_lstore {x : Int64} {i : Nat} {ls' : List (Nat × Value)} (g : GX X l0 G0 M f w) (hd : decode M.2.1 pc = .ok (.lstore i, 2)) (hi : Nat.blt (i + 1) M.2.2.1 = true) (hl : (i, Value.long x) :: ls.filter (fun q => !(q.1 == i) && (!(q.1 == i + 1) && !(q.1 + 1 == i && q.2.category == 2))) = ls') (k : V X a b n μ (pc + 2) ls' st) : V X a b n μ pc ls (.long x :: st) := by
  obtain ⟨p, l, e, R, s, m, args, below, meth, c, Z, G⟩ := X
  obtain ⟨rfl, rfl, hx, hb, hr, hml, hown, hts, hlk, hnm, hK, hB, hf, hw⟩ := g
  intro H locs cells slots L h1 h2 h3 h4 h5
  exact lv_lstore hx hb hd h5 (by rw [hml]; exact Nat.le_of_ble_eq_true hi) hl (fun L h5 => k H locs cells slots L h1 h2 h3 h4 h5)
theorem v_aload_n {x : Nat} {k0 : Fin 4} (g : GX X l0 G0 M f w) (hd : decode M.2.1 pc = .ok (.aload_n k0, 1)) (j : Nat) (hj : ls[j]? = some ((k0 : Nat), .ref x)) (k : V X a b n μ (pc + 1) ls (.ref x :: st)) : V X a b n μ pc ls st := by
  obtain ⟨p, l, e, R, s, m, args, below, meth, c, Z, G⟩ := X
  obtain ⟨rfl, rfl, hx, hb, hr, hml, hown, hts, hlk, hnm, hK, hB, hf, hw⟩ := g
  intro H locs cells slots L h1 h2 h3 h4 h5
  exact lv_aload_n hx hb hd rfl (lv_at h5 j hj) (k H locs cells slots L h1 h2 h3 h4 h5)
theorem v_aload {x : Nat} {i : Nat} (g : GX X l0 G0 M f w) (hd : decode M.2.1 pc = .ok (.aload i, 2)) (j : Nat) (hj : ls[j]? = some (i, .ref x)) (k : V X a b n μ (pc + 2) ls (.ref x :: st)) : V X a b n μ pc ls st := by
  obtain ⟨p, l, e, R, s, m, args, below, meth, c, Z, G⟩ := X
  obtain ⟨rfl, rfl, hx, hb, hr, hml, hown, hts, hlk, hnm, hK, hB, hf, hw⟩ := g
  intro H locs cells slots L h1 h2 h3 h4 h5
  exact lv_aload hx hb hd (lv_at h5 j hj) (k H locs cells slots L h1 h2 h3 h4 h5)
theorem v_astore_n {x : Nat} {k0 : Fin 4} {ls' : List (Nat × Value)} (g : GX X l0 G0 M f w) (hd : decode M.2.1 pc = .ok (.astore_n k0, 1)) (hi : Nat.blt (k0 : Nat) M.2.2.1 = true) (hl : ((k0 : Nat), Value.ref x) :: ls.filter (fun q => !(q.1 == (k0 : Nat)) && !(q.1 + 1 == (k0 : Nat) && q.2.category == 2)) = ls') (k : V X a b n μ (pc + 1) ls' st) : V X a b n μ pc ls (.ref x :: st) := by
  obtain ⟨p, l, e, R, s, m, args, below, meth, c, Z, G⟩ := X
  obtain ⟨rfl, rfl, hx, hb, hr, hml, hown, hts, hlk, hnm, hK, hB, hf, hw⟩ := g
  intro H locs cells slots L h1 h2 h3 h4 h5
  exact lv_astore_n hx hb hd rfl h5 (by rw [hml]; exact Nat.le_of_ble_eq_true hi) hl (fun L h5 => k H locs cells slots L h1 h2 h3 h4 h5)
theorem v_astore {x : Nat} {i : Nat} {ls' : List (Nat × Value)} (g : GX X l0 G0 M f w) (hd : decode M.2.1 pc = .ok (.astore i, 2)) (hi : Nat.blt i M.2.2.1 = true) (hl : (i, Value.ref x) :: ls.filter (fun q => !(q.1 == i) && !(q.1 + 1 == i && q.2.category == 2)) = ls') (k : V X a b n μ (pc + 2) ls' st) : V X a b n μ pc ls (.ref x :: st) := by
  obtain ⟨p, l, e, R, s, m, args, below, meth, c, Z, G⟩ := X
  obtain ⟨rfl, rfl, hx, hb, hr, hml, hown, hts, hlk, hnm, hK, hB, hf, hw⟩ := g
  intro H locs cells slots L h1 h2 h3 h4 h5
  exact lv_astore hx hb hd h5 (by rw [hml]; exact Nat.le_of_ble_eq_true hi) hl (fun L h5 => k H locs cells slots L h1 h2 h3 h4 h5)
theorem v_iinc {i : Nat} {q : Int} {x v : Int32} {ls' : List (Nat × Value)} (g : GX X l0 G0 M f w) (hd : decode M.2.1 pc = .ok (.iinc i q, 3)) (j : Nat) (hj : ls[j]? = some (i, .int x)) (hv : x + Int32.ofInt q = v) (hi : Nat.blt i M.2.2.1 = true) (hl : (i, Value.int v) :: ls.filter (fun q => !(q.1 == i) && !(q.1 + 1 == i && q.2.category == 2)) = ls') (k : V X a b n μ (pc + 3) ls' st) : V X a b n μ pc ls st := by
  obtain ⟨p, l, e, R, s, m, args, below, meth, c, Z, G⟩ := X
  obtain ⟨rfl, rfl, hx, hb, hr, hml, hown, hts, hlk, hnm, hK, hB, hf, hw⟩ := g
  intro H locs cells slots L h1 h2 h3 h4 h5
  exact lv_iinc hx hb hd h5 hj hv (by rw [hml]; exact Nat.le_of_ble_eq_true hi) hl (fun L h5 => k H locs cells slots L h1 h2 h3 h4 h5)
theorem v_iadd {x y : Int32} (g : GX X l0 G0 M f w) (hd : decode M.2.1 pc = .ok (.iadd, 1))  (k : V X a b n μ (pc + 1) ls (.int (x + y) :: st)) : V X a b n μ pc ls (.int y :: .int x :: st) := by
  obtain ⟨p, l, e, R, s, m, args, below, meth, c, Z, G⟩ := X
  obtain ⟨rfl, rfl, hx, hb, hr, hml, hown, hts, hlk, hnm, hK, hB, hf, hw⟩ := g
  intro H locs cells slots L h1 h2 h3 h4 h5
  exact lv_iadd hx hb hd  (k H locs cells slots L h1 h2 h3 h4 h5)
theorem v_isub {x y : Int32} (g : GX X l0 G0 M f w) (hd : decode M.2.1 pc = .ok (.isub, 1))  (k : V X a b n μ (pc + 1) ls (.int (x - y) :: st)) : V X a b n μ pc ls (.int y :: .int x :: st) := by
  obtain ⟨p, l, e, R, s, m, args, below, meth, c, Z, G⟩ := X
  obtain ⟨rfl, rfl, hx, hb, hr, hml, hown, hts, hlk, hnm, hK, hB, hf, hw⟩ := g
  intro H locs cells slots L h1 h2 h3 h4 h5
  exact lv_isub hx hb hd  (k H locs cells slots L h1 h2 h3 h4 h5)
theorem v_imul {x y : Int32} (g : GX X l0 G0 M f w) (hd : decode M.2.1 pc = .ok (.imul, 1))  (k : V X a b n μ (pc + 1) ls (.int (x * y) :: st)) : V X a b n μ pc ls (.int y :: .int x :: st) := by
  obtain ⟨p, l, e, R, s, m, args, below, meth, c, Z, G⟩ := X
  obtain ⟨rfl, rfl, hx, hb, hr, hml, hown, hts, hlk, hnm, hK, hB, hf, hw⟩ := g
  intro H locs cells slots L h1 h2 h3 h4 h5
  exact lv_imul hx hb hd  (k H locs cells slots L h1 h2 h3 h4 h5)
theorem v_iand {x y : Int32} (g : GX X l0 G0 M f w) (hd : decode M.2.1 pc = .ok (.iand, 1))  (k : V X a b n μ (pc + 1) ls (.int (x &&& y) :: st)) : V X a b n μ pc ls (.int y :: .int x :: st) := by
  obtain ⟨p, l, e, R, s, m, args, below, meth, c, Z, G⟩ := X
  obtain ⟨rfl, rfl, hx, hb, hr, hml, hown, hts, hlk, hnm, hK, hB, hf, hw⟩ := g
  intro H locs cells slots L h1 h2 h3 h4 h5
  exact lv_iand hx hb hd  (k H locs cells slots L h1 h2 h3 h4 h5)
theorem v_ior {x y : Int32} (g : GX X l0 G0 M f w) (hd : decode M.2.1 pc = .ok (.ior, 1))  (k : V X a b n μ (pc + 1) ls (.int (x ||| y) :: st)) : V X a b n μ pc ls (.int y :: .int x :: st) := by
  obtain ⟨p, l, e, R, s, m, args, below, meth, c, Z, G⟩ := X
  obtain ⟨rfl, rfl, hx, hb, hr, hml, hown, hts, hlk, hnm, hK, hB, hf, hw⟩ := g
  intro H locs cells slots L h1 h2 h3 h4 h5
  exact lv_ior hx hb hd  (k H locs cells slots L h1 h2 h3 h4 h5)
theorem v_ixor {x y : Int32} (g : GX X l0 G0 M f w) (hd : decode M.2.1 pc = .ok (.ixor, 1))  (k : V X a b n μ (pc + 1) ls (.int (x ^^^ y) :: st)) : V X a b n μ pc ls (.int y :: .int x :: st) := by
  obtain ⟨p, l, e, R, s, m, args, below, meth, c, Z, G⟩ := X
  obtain ⟨rfl, rfl, hx, hb, hr, hml, hown, hts, hlk, hnm, hK, hB, hf, hw⟩ := g
  intro H locs cells slots L h1 h2 h3 h4 h5
  exact lv_ixor hx hb hd  (k H locs cells slots L h1 h2 h3 h4 h5)
theorem irem_eq (x y : Int32) : x - x / y * y = x % y := by
  apply Int32.toInt_inj.mp
  rw [Int32.toInt_sub, Int32.toInt_mul, Int32.toInt_div, Int.bmod_mul_bmod, Int.sub_bmod_bmod, Int.mul_comm, ← Int.tmod_def, ← Int32.toInt_mod]
  exact Int32.toInt_bmod (x % y)
theorem lrem_eq (x y : Int64) : x - x / y * y = x % y := by
  apply Int64.toInt_inj.mp
  rw [Int64.toInt_sub, Int64.toInt_mul, Int64.toInt_div, Int.bmod_mul_bmod, Int.sub_bmod_bmod, Int.mul_comm, ← Int.tmod_def, ← Int64.toInt_mod]
  exact Int64.toInt_bmod (x % y)
theorem v_idiv {x y : Int32} (g : GX X l0 G0 M f w) (hd : decode M.2.1 pc = .ok (.idiv, 1)) (hne : ¬ y = 0) (k : V X a b n μ (pc + 1) ls (.int (x / y) :: st)) : V X a b n μ pc ls (.int y :: .int x :: st) := by
  obtain ⟨p, l, e, R, s, m, args, below, meth, c, Z, G⟩ := X
  obtain ⟨rfl, rfl, hx, hb, hr, hml, hown, hts, hlk, hnm, hK, hB, hf, hw⟩ := g
  intro H locs cells slots L h1 h2 h3 h4 h5
  exact lv_idiv hx hb hd hne (k H locs cells slots L h1 h2 h3 h4 h5)
theorem v_irem {x y : Int32} (g : GX X l0 G0 M f w) (hd : decode M.2.1 pc = .ok (.irem, 1)) (hne : ¬ y = 0) (k : V X a b n μ (pc + 1) ls (.int (x % y) :: st)) : V X a b n μ pc ls (.int y :: .int x :: st) := by
  obtain ⟨p, l, e, R, s, m, args, below, meth, c, Z, G⟩ := X
  obtain ⟨rfl, rfl, hx, hb, hr, hml, hown, hts, hlk, hnm, hK, hB, hf, hw⟩ := g
  intro H locs cells slots L h1 h2 h3 h4 h5
  exact lv_irem hx hb hd hne (irem_eq x y ▸ k H locs cells slots L h1 h2 h3 h4 h5)
theorem v_ladd {x y : Int64} (g : GX X l0 G0 M f w) (hd : decode M.2.1 pc = .ok (.ladd, 1))  (k : V X a b n μ (pc + 1) ls (.long (x + y) :: st)) : V X a b n μ pc ls (.long y :: .long x :: st) := by
  obtain ⟨p, l, e, R, s, m, args, below, meth, c, Z, G⟩ := X
  obtain ⟨rfl, rfl, hx, hb, hr, hml, hown, hts, hlk, hnm, hK, hB, hf, hw⟩ := g
  intro H locs cells slots L h1 h2 h3 h4 h5
  exact lv_ladd hx hb hd  (k H locs cells slots L h1 h2 h3 h4 h5)
theorem v_lsub {x y : Int64} (g : GX X l0 G0 M f w) (hd : decode M.2.1 pc = .ok (.lsub, 1))  (k : V X a b n μ (pc + 1) ls (.long (x - y) :: st)) : V X a b n μ pc ls (.long y :: .long x :: st) := by
  obtain ⟨p, l, e, R, s, m, args, below, meth, c, Z, G⟩ := X
  obtain ⟨rfl, rfl, hx, hb, hr, hml, hown, hts, hlk, hnm, hK, hB, hf, hw⟩ := g
  intro H locs cells slots L h1 h2 h3 h4 h5
  exact lv_lsub hx hb hd  (k H locs cells slots L h1 h2 h3 h4 h5)
theorem v_lmul {x y : Int64} (g : GX X l0 G0 M f w) (hd : decode M.2.1 pc = .ok (.lmul, 1))  (k : V X a b n μ (pc + 1) ls (.long (x * y) :: st)) : V X a b n μ pc ls (.long y :: .long x :: st) := by
  obtain ⟨p, l, e, R, s, m, args, below, meth, c, Z, G⟩ := X
  obtain ⟨rfl, rfl, hx, hb, hr, hml, hown, hts, hlk, hnm, hK, hB, hf, hw⟩ := g
  intro H locs cells slots L h1 h2 h3 h4 h5
  exact lv_lmul hx hb hd  (k H locs cells slots L h1 h2 h3 h4 h5)
theorem v_land {x y : Int64} (g : GX X l0 G0 M f w) (hd : decode M.2.1 pc = .ok (.land, 1))  (k : V X a b n μ (pc + 1) ls (.long (x &&& y) :: st)) : V X a b n μ pc ls (.long y :: .long x :: st) := by
  obtain ⟨p, l, e, R, s, m, args, below, meth, c, Z, G⟩ := X
  obtain ⟨rfl, rfl, hx, hb, hr, hml, hown, hts, hlk, hnm, hK, hB, hf, hw⟩ := g
  intro H locs cells slots L h1 h2 h3 h4 h5
  exact lv_land hx hb hd  (k H locs cells slots L h1 h2 h3 h4 h5)
theorem v_lor {x y : Int64} (g : GX X l0 G0 M f w) (hd : decode M.2.1 pc = .ok (.lor, 1))  (k : V X a b n μ (pc + 1) ls (.long (x ||| y) :: st)) : V X a b n μ pc ls (.long y :: .long x :: st) := by
  obtain ⟨p, l, e, R, s, m, args, below, meth, c, Z, G⟩ := X
  obtain ⟨rfl, rfl, hx, hb, hr, hml, hown, hts, hlk, hnm, hK, hB, hf, hw⟩ := g
  intro H locs cells slots L h1 h2 h3 h4 h5
  exact lv_lor hx hb hd  (k H locs cells slots L h1 h2 h3 h4 h5)
theorem v_lxor {x y : Int64} (g : GX X l0 G0 M f w) (hd : decode M.2.1 pc = .ok (.lxor, 1))  (k : V X a b n μ (pc + 1) ls (.long (x ^^^ y) :: st)) : V X a b n μ pc ls (.long y :: .long x :: st) := by
  obtain ⟨p, l, e, R, s, m, args, below, meth, c, Z, G⟩ := X
  obtain ⟨rfl, rfl, hx, hb, hr, hml, hown, hts, hlk, hnm, hK, hB, hf, hw⟩ := g
  intro H locs cells slots L h1 h2 h3 h4 h5
  exact lv_lxor hx hb hd  (k H locs cells slots L h1 h2 h3 h4 h5)
theorem v_ldiv {x y : Int64} (g : GX X l0 G0 M f w) (hd : decode M.2.1 pc = .ok (.ldiv, 1)) (hne : ¬ y = 0) (k : V X a b n μ (pc + 1) ls (.long (x / y) :: st)) : V X a b n μ pc ls (.long y :: .long x :: st) := by
  obtain ⟨p, l, e, R, s, m, args, below, meth, c, Z, G⟩ := X
  obtain ⟨rfl, rfl, hx, hb, hr, hml, hown, hts, hlk, hnm, hK, hB, hf, hw⟩ := g
  intro H locs cells slots L h1 h2 h3 h4 h5
  exact lv_ldiv hx hb hd hne (k H locs cells slots L h1 h2 h3 h4 h5)
theorem v_lrem {x y : Int64} (g : GX X l0 G0 M f w) (hd : decode M.2.1 pc = .ok (.lrem, 1)) (hne : ¬ y = 0) (k : V X a b n μ (pc + 1) ls (.long (x % y) :: st)) : V X a b n μ pc ls (.long y :: .long x :: st) := by
  obtain ⟨p, l, e, R, s, m, args, below, meth, c, Z, G⟩ := X
  obtain ⟨rfl, rfl, hx, hb, hr, hml, hown, hts, hlk, hnm, hK, hB, hf, hw⟩ := g
  intro H locs cells slots L h1 h2 h3 h4 h5
  exact lv_lrem hx hb hd hne (lrem_eq x y ▸ k H locs cells slots L h1 h2 h3 h4 h5)
theorem v_ishl {x y : Int32} (g : GX X l0 G0 M f w) (hd : decode M.2.1 pc = .ok (.ishl, 1))  (k : V X a b n μ (pc + 1) ls (.int (x <<< (y &&& 31)) :: st)) : V X a b n μ pc ls (.int y :: .int x :: st) := by
  obtain ⟨p, l, e, R, s, m, args, below, meth, c, Z, G⟩ := X
  obtain ⟨rfl, rfl, hx, hb, hr, hml, hown, hts, hlk, hnm, hK, hB, hf, hw⟩ := g
  intro H locs cells slots L h1 h2 h3 h4 h5
  exact lv_ishl hx hb hd  (k H locs cells slots L h1 h2 h3 h4 h5)
theorem v_ishr {x y : Int32} (g : GX X l0 G0 M f w) (hd : decode M.2.1 pc = .ok (.ishr, 1))  (k : V X a b n μ (pc + 1) ls (.int (x >>> (y &&& 31)) :: st)) : V X a b n μ pc ls (.int y :: .int x :: st) := by
  obtain ⟨p, l, e, R, s, m, args, below, meth, c, Z, G⟩ := X
  obtain ⟨rfl, rfl, hx, hb, hr, hml, hown, hts, hlk, hnm, hK, hB, hf, hw⟩ := g
  intro H locs cells slots L h1 h2 h3 h4 h5
  exact lv_ishr hx hb hd  (k H locs cells slots L h1 h2 h3 h4 h5)
theorem v_i2l {x : Int32} (g : GX X l0 G0 M f w) (hd : decode M.2.1 pc = .ok (.i2l, 1))  (k : V X a b n μ (pc + 1) ls (.long x.toInt64 :: st)) : V X a b n μ pc ls (.int x :: st) := by
  obtain ⟨p, l, e, R, s, m, args, below, meth, c, Z, G⟩ := X
  obtain ⟨rfl, rfl, hx, hb, hr, hml, hown, hts, hlk, hnm, hK, hB, hf, hw⟩ := g
  intro H locs cells slots L h1 h2 h3 h4 h5
  exact lv_i2l hx hb hd rfl (k H locs cells slots L h1 h2 h3 h4 h5)
theorem v_l2i {x : Int64} (g : GX X l0 G0 M f w) (hd : decode M.2.1 pc = .ok (.l2i, 1))  (k : V X a b n μ (pc + 1) ls (.int x.toInt32 :: st)) : V X a b n μ pc ls (.long x :: st) := by
  obtain ⟨p, l, e, R, s, m, args, below, meth, c, Z, G⟩ := X
  obtain ⟨rfl, rfl, hx, hb, hr, hml, hown, hts, hlk, hnm, hK, hB, hf, hw⟩ := g
  intro H locs cells slots L h1 h2 h3 h4 h5
  exact lv_l2i hx hb hd rfl (k H locs cells slots L h1 h2 h3 h4 h5)
theorem v_i2c {x : Int32} (g : GX X l0 G0 M f w) (hd : decode M.2.1 pc = .ok (.i2c, 1))  (k : V X a b n μ (pc + 1) ls (.int (x.toUInt32 % 65536).toInt32 :: st)) : V X a b n μ pc ls (.int x :: st) := by
  obtain ⟨p, l, e, R, s, m, args, below, meth, c, Z, G⟩ := X
  obtain ⟨rfl, rfl, hx, hb, hr, hml, hown, hts, hlk, hnm, hK, hB, hf, hw⟩ := g
  intro H locs cells slots L h1 h2 h3 h4 h5
  exact lv_i2c hx hb hd rfl (k H locs cells slots L h1 h2 h3 h4 h5)
theorem v_lushr {x : Int64} {y : Int32} (g : GX X l0 G0 M f w) (hd : decode M.2.1 pc = .ok (.lushr, 1))  (k : V X a b n μ (pc + 1) ls (.long (x.toUInt64 >>> (y.toInt64.toUInt64 &&& Int64.toUInt64 63)).toInt64 :: st)) : V X a b n μ pc ls (.int y :: .long x :: st) := by
  obtain ⟨p, l, e, R, s, m, args, below, meth, c, Z, G⟩ := X
  obtain ⟨rfl, rfl, hx, hb, hr, hml, hown, hts, hlk, hnm, hK, hB, hf, hw⟩ := g
  intro H locs cells slots L h1 h2 h3 h4 h5
  exact lv_lushr hx hb hd rfl (k H locs cells slots L h1 h2 h3 h4 h5)
theorem v_lshl {x : Int64} {y : Int32} (g : GX X l0 G0 M f w) (hd : decode M.2.1 pc = .ok (.lshl, 1))  (k : V X a b n μ (pc + 1) ls (.long (x <<< (y.toInt64 &&& 63)) :: st)) : V X a b n μ pc ls (.int y :: .long x :: st) := by
  obtain ⟨p, l, e, R, s, m, args, below, meth, c, Z, G⟩ := X
  obtain ⟨rfl, rfl, hx, hb, hr, hml, hown, hts, hlk, hnm, hK, hB, hf, hw⟩ := g
  intro H locs cells slots L h1 h2 h3 h4 h5
  exact lv_lshl hx hb hd rfl (k H locs cells slots L h1 h2 h3 h4 h5)
theorem v_lcmp {x y : Int64} (g : GX X l0 G0 M f w) (hd : decode M.2.1 pc = .ok (.lcmp, 1))  (k : V X a b n μ (pc + 1) ls (.int (lg_cmp x y) :: st)) : V X a b n μ pc ls (.long y :: .long x :: st) := by
  obtain ⟨p, l, e, R, s, m, args, below, meth, c, Z, G⟩ := X
  obtain ⟨rfl, rfl, hx, hb, hr, hml, hown, hts, hlk, hnm, hK, hB, hf, hw⟩ := g
  intro H locs cells slots L h1 h2 h3 h4 h5
  exact W.lcmp hx hb hd  (k H locs cells slots L h1 h2 h3 h4 h5)
theorem v_dup {v : Value} (g : GX X l0 G0 M f w) (hd : decode M.2.1 pc = .ok (.dup, 1)) (hv : v.category = 1) (k : V X a b n μ (pc + 1) ls (v :: v :: st)) : V X a b n μ pc ls (v :: st) := by
  obtain ⟨p, l, e, R, s, m, args, below, meth, c, Z, G⟩ := X
  obtain ⟨rfl, rfl, hx, hb, hr, hml, hown, hts, hlk, hnm, hK, hB, hf, hw⟩ := g
  intro H locs cells slots L h1 h2 h3 h4 h5
  exact lv_dup hx hb hd hv (k H locs cells slots L h1 h2 h3 h4 h5)
theorem v_pop {v : Value} (g : GX X l0 G0 M f w) (hd : decode M.2.1 pc = .ok (.pop, 1)) (hv : v.category = 1) (k : V X a b n μ (pc + 1) ls st) : V X a b n μ pc ls (v :: st) := by
  obtain ⟨p, l, e, R, s, m, args, below, meth, c, Z, G⟩ := X
  obtain ⟨rfl, rfl, hx, hb, hr, hml, hown, hts, hlk, hnm, hK, hB, hf, hw⟩ := g
  intro H locs cells slots L h1 h2 h3 h4 h5
  exact lv_pop hx hb hd hv (k H locs cells slots L h1 h2 h3 h4 h5)
theorem v_dup2 {v u : Value} (g : GX X l0 G0 M f w) (hd : decode M.2.1 pc = .ok (.dup2, 1)) (hv : v.category = 1) (hu : u.category = 1) (k : V X a b n μ (pc + 1) ls (v :: u :: v :: u :: st)) : V X a b n μ pc ls (v :: u :: st) := by
  obtain ⟨p, l, e, R, s, m, args, below, meth, c, Z, G⟩ := X
  obtain ⟨rfl, rfl, hx, hb, hr, hml, hown, hts, hlk, hnm, hK, hB, hf, hw⟩ := g
  intro H locs cells slots L h1 h2 h3 h4 h5
  exact lv_dup2_11 hx hb hd hv hu (k H locs cells slots L h1 h2 h3 h4 h5)
theorem v_if_eq {x : Int32} {off : Int} {tgt : Nat} (g : GX X l0 G0 M f w) (hd : decode M.2.1 pc = .ok (.ifCond .eq off, 3)) (ht : (pc : Int) + off = (tgt : Int)) (kt : x = 0 → V X a b n μ tgt ls st) (kf : ¬ (x = 0) → V X a b n μ (pc + 3) ls st) : V X a b n μ pc ls (.int x :: st) := by
  obtain ⟨p, l, e, R, s, m, args, below, meth, c, Z, G⟩ := X
  obtain ⟨rfl, rfl, hx, hb, hr, hml, hown, hts, hlk, hnm, hK, hB, hf, hw⟩ := g
  intro H locs cells slots L h1 h2 h3 h4 h5
  exact lv_if_eq hx hb hd ht (fun q => kt q H locs cells slots L h1 h2 h3 h4 h5) (fun q => kf q H locs cells slots L h1 h2 h3 h4 h5)
theorem v_icmp_eq {x y : Int32} {off : Int} {tgt : Nat} (g : GX X l0 G0 M f w) (hd : decode M.2.1 pc = .ok (.if_icmp .eq off, 3)) (ht : (pc : Int) + off = (tgt : Int)) (kt : x = y → V X a b n μ tgt ls st) (kf : ¬ (x = y) → V X a b n μ (pc + 3) ls st) : V X a b n μ pc ls (.int y :: .int x :: st) := by
  obtain ⟨p, l, e, R, s, m, args, below, meth, c, Z, G⟩ := X
  obtain ⟨rfl, rfl, hx, hb, hr, hml, hown, hts, hlk, hnm, hK, hB, hf, hw⟩ := g
  intro H locs cells slots L h1 h2 h3 h4 h5
  exact lv_icmp_eq hx hb hd ht (fun q => kt q H locs cells slots L h1 h2 h3 h4 h5) (fun q => kf q H locs cells slots L h1 h2 h3 h4 h5)
theorem v_if_ne {x : Int32} {off : Int} {tgt : Nat} (g : GX X l0 G0 M f w) (hd : decode M.2.1 pc = .ok (.ifCond .ne off, 3)) (ht : (pc : Int) + off = (tgt : Int)) (kt : ¬ x = 0 → V X a b n μ tgt ls st) (kf : x = 0 → V X a b n μ (pc + 3) ls st) : V X a b n μ pc ls (.int x :: st) := by
  obtain ⟨p, l, e, R, s, m, args, below, meth, c, Z, G⟩ := X
  obtain ⟨rfl, rfl, hx, hb, hr, hml, hown, hts, hlk, hnm, hK, hB, hf, hw⟩ := g
  intro H locs cells slots L h1 h2 h3 h4 h5
  exact lv_if_ne hx hb hd ht (fun q => kt q H locs cells slots L h1 h2 h3 h4 h5) (fun q => kf q H locs cells slots L h1 h2 h3 h4 h5)
theorem v_icmp_ne {x y : Int32} {off : Int} {tgt : Nat} (g : GX X l0 G0 M f w) (hd : decode M.2.1 pc = .ok (.if_icmp .ne off, 3)) (ht : (pc : Int) + off = (tgt : Int)) (kt : ¬ x = y → V X a b n μ tgt ls st) (kf : x = y → V X a b n μ (pc + 3) ls st) : V X a b n μ pc ls (.int y :: .int x :: st) := by
  obtain ⟨p, l, e, R, s, m, args, below, meth, c, Z, G⟩ := X
  obtain ⟨rfl, rfl, hx, hb, hr, hml, hown, hts, hlk, hnm, hK, hB, hf, hw⟩ := g
  intro H locs cells slots L h1 h2 h3 h4 h5
  exact lv_icmp_ne hx hb hd ht (fun q => kt q H locs cells slots L h1 h2 h3 h4 h5) (fun q => kf q H locs cells slots L h1 h2 h3 h4 h5)
theorem v_if_lt {x : Int32} {off : Int} {tgt : Nat} (g : GX X l0 G0 M f w) (hd : decode M.2.1 pc = .ok (.ifCond .lt off, 3)) (ht : (pc : Int) + off = (tgt : Int)) (kt : x < 0 → V X a b n μ tgt ls st) (kf : ¬ (x < 0) → V X a b n μ (pc + 3) ls st) : V X a b n μ pc ls (.int x :: st) := by
  obtain ⟨p, l, e, R, s, m, args, below, meth, c, Z, G⟩ := X
  obtain ⟨rfl, rfl, hx, hb, hr, hml, hown, hts, hlk, hnm, hK, hB, hf, hw⟩ := g
  intro H locs cells slots L h1 h2 h3 h4 h5
  exact lv_if_lt hx hb hd ht (fun q => kt q H locs cells slots L h1 h2 h3 h4 h5) (fun q => kf q H locs cells slots L h1 h2 h3 h4 h5)
theorem v_icmp_lt {x y : Int32} {off : Int} {tgt : Nat} (g : GX X l0 G0 M f w) (hd : decode M.2.1 pc = .ok (.if_icmp .lt off, 3)) (ht : (pc : Int) + off = (tgt : Int)) (kt : x < y → V X a b n μ tgt ls st) (kf : ¬ (x < y) → V X a b n μ (pc + 3) ls st) : V X a b n μ pc ls (.int y :: .int x :: st) := by
  obtain ⟨p, l, e, R, s, m, args, below, meth, c, Z, G⟩ := X
  obtain ⟨rfl, rfl, hx, hb, hr, hml, hown, hts, hlk, hnm, hK, hB, hf, hw⟩ := g
  intro H locs cells slots L h1 h2 h3 h4 h5
  exact lv_icmp_lt hx hb hd ht (fun q => kt q H locs cells slots L h1 h2 h3 h4 h5) (fun q => kf q H locs cells slots L h1 h2 h3 h4 h5)
theorem v_if_ge {x : Int32} {off : Int} {tgt : Nat} (g : GX X l0 G0 M f w) (hd : decode M.2.1 pc = .ok (.ifCond .ge off, 3)) (ht : (pc : Int) + off = (tgt : Int)) (kt : 0 ≤ x → V X a b n μ tgt ls st) (kf : ¬ (0 ≤ x) → V X a b n μ (pc + 3) ls st) : V X a b n μ pc ls (.int x :: st) := by
  obtain ⟨p, l, e, R, s, m, args, below, meth, c, Z, G⟩ := X
  obtain ⟨rfl, rfl, hx, hb, hr, hml, hown, hts, hlk, hnm, hK, hB, hf, hw⟩ := g
  intro H locs cells slots L h1 h2 h3 h4 h5
  exact lv_if_ge hx hb hd ht (fun q => kt q H locs cells slots L h1 h2 h3 h4 h5) (fun q => kf q H locs cells slots L h1 h2 h3 h4 h5)
theorem v_icmp_ge {x y : Int32} {off : Int} {tgt : Nat} (g : GX X l0 G0 M f w) (hd : decode M.2.1 pc = .ok (.if_icmp .ge off, 3)) (ht : (pc : Int) + off = (tgt : Int)) (kt : y ≤ x → V X a b n μ tgt ls st) (kf : ¬ (y ≤ x) → V X a b n μ (pc + 3) ls st) : V X a b n μ pc ls (.int y :: .int x :: st) := by
  obtain ⟨p, l, e, R, s, m, args, below, meth, c, Z, G⟩ := X
  obtain ⟨rfl, rfl, hx, hb, hr, hml, hown, hts, hlk, hnm, hK, hB, hf, hw⟩ := g
  intro H locs cells slots L h1 h2 h3 h4 h5
  exact lv_icmp_ge hx hb hd ht (fun q => kt q H locs cells slots L h1 h2 h3 h4 h5) (fun q => kf q H locs cells slots L h1 h2 h3 h4 h5)
theorem v_if_gt {x : Int32} {off : Int} {tgt : Nat} (g : GX X l0 G0 M f w) (hd : decode M.2.1 pc = .ok (.ifCond .gt off, 3)) (ht : (pc : Int) + off = (tgt : Int)) (kt : 0 < x → V X a b n μ tgt ls st) (kf : ¬ (0 < x) → V X a b n μ (pc + 3) ls st) : V X a b n μ pc ls (.int x :: st) := by
  obtain ⟨p, l, e, R, s, m, args, below, meth, c, Z, G⟩ := X
  obtain ⟨rfl, rfl, hx, hb, hr, hml, hown, hts, hlk, hnm, hK, hB, hf, hw⟩ := g
  intro H locs cells slots L h1 h2 h3 h4 h5
  exact lv_if_gt hx hb hd ht (fun q => kt q H locs cells slots L h1 h2 h3 h4 h5) (fun q => kf q H locs cells slots L h1 h2 h3 h4 h5)
theorem v_icmp_gt {x y : Int32} {off : Int} {tgt : Nat} (g : GX X l0 G0 M f w) (hd : decode M.2.1 pc = .ok (.if_icmp .gt off, 3)) (ht : (pc : Int) + off = (tgt : Int)) (kt : y < x → V X a b n μ tgt ls st) (kf : ¬ (y < x) → V X a b n μ (pc + 3) ls st) : V X a b n μ pc ls (.int y :: .int x :: st) := by
  obtain ⟨p, l, e, R, s, m, args, below, meth, c, Z, G⟩ := X
  obtain ⟨rfl, rfl, hx, hb, hr, hml, hown, hts, hlk, hnm, hK, hB, hf, hw⟩ := g
  intro H locs cells slots L h1 h2 h3 h4 h5
  exact lv_icmp_gt hx hb hd ht (fun q => kt q H locs cells slots L h1 h2 h3 h4 h5) (fun q => kf q H locs cells slots L h1 h2 h3 h4 h5)
theorem v_if_le {x : Int32} {off : Int} {tgt : Nat} (g : GX X l0 G0 M f w) (hd : decode M.2.1 pc = .ok (.ifCond .le off, 3)) (ht : (pc : Int) + off = (tgt : Int)) (kt : x ≤ 0 → V X a b n μ tgt ls st) (kf : ¬ (x ≤ 0) → V X a b n μ (pc + 3) ls st) : V X a b n μ pc ls (.int x :: st) := by
  obtain ⟨p, l, e, R, s, m, args, below, meth, c, Z, G⟩ := X
  obtain ⟨rfl, rfl, hx, hb, hr, hml, hown, hts, hlk, hnm, hK, hB, hf, hw⟩ := g
  intro H locs cells slots L h1 h2 h3 h4 h5
  exact lv_if_le hx hb hd ht (fun q => kt q H locs cells slots L h1 h2 h3 h4 h5) (fun q => kf q H locs cells slots L h1 h2 h3 h4 h5)
theorem v_icmp_le {x y : Int32} {off : Int} {tgt : Nat} (g : GX X l0 G0 M f w) (hd : decode M.2.1 pc = .ok (.if_icmp .le off, 3)) (ht : (pc : Int) + off = (tgt : Int)) (kt : x ≤ y → V X a b n μ tgt ls st) (kf : ¬ (x ≤ y) → V X a b n μ (pc + 3) ls st) : V X a b n μ pc ls (.int y :: .int x :: st) := by
  obtain ⟨p, l, e, R, s, m, args, below, meth, c, Z, G⟩ := X
  obtain ⟨rfl, rfl, hx, hb, hr, hml, hown, hts, hlk, hnm, hK, hB, hf, hw⟩ := g
  intro H locs cells slots L h1 h2 h3 h4 h5
  exact lv_icmp_le hx hb hd ht (fun q => kt q H locs cells slots L h1 h2 h3 h4 h5) (fun q => kf q H locs cells slots L h1 h2 h3 h4 h5)
theorem v_goto {off : Int} {tgt : Nat} (g : GX X l0 G0 M f w) (hd : decode M.2.1 pc = .ok (.goto off, 3)) (ht : (pc : Int) + off = (tgt : Int)) (k : V X a b n μ tgt ls st) : V X a b n μ pc ls st := by
  obtain ⟨p, l, e, R, s, m, args, below, meth, c, Z, G⟩ := X
  obtain ⟨rfl, rfl, hx, hb, hr, hml, hown, hts, hlk, hnm, hK, hB, hf, hw⟩ := g
  intro H locs cells slots L h1 h2 h3 h4 h5
  exact lv_goto hx hb hd ht (k H locs cells slots L h1 h2 h3 h4 h5)
theorem v_tableOut {dflt lo hi : Int} {offs : Array Int} {len : Nat} {x : Int32} {tgt : Nat} (g : GX X l0 G0 M f w) (hd : decode M.2.1 pc = .ok (.tableswitch dflt lo hi offs, len)) (h : x.toInt < lo ∨ hi < x.toInt) (ht : (pc : Int) + dflt = (tgt : Int)) (k : V X a b n μ tgt ls st) : V X a b n μ pc ls (.int x :: st) := by
  obtain ⟨p, l, e, R, s, m, args, below, meth, c, Z, G⟩ := X
  obtain ⟨rfl, rfl, hx, hb, hr, hml, hown, hts, hlk, hnm, hK, hB, hf, hw⟩ := g
  intro H locs cells slots L h1 h2 h3 h4 h5
  exact lv_tableOut hx hb hd h ht (k H locs cells slots L h1 h2 h3 h4 h5)
theorem v_tableIn {dflt lo hi : Int} {offs : Array Int} {len : Nat} {x : Int32} {off : Int} {tgt : Nat} (g : GX X l0 G0 M f w) (hd : decode M.2.1 pc = .ok (.tableswitch dflt lo hi offs, len)) (hh : ¬ x.toInt < lo ∧ ¬ hi < x.toInt) (ho : offs[(x.toInt - lo).toNat]? = some off) (ht : (pc : Int) + off = (tgt : Int)) (k : V X a b n μ tgt ls st) : V X a b n μ pc ls (.int x :: st) := by
  obtain ⟨p, l, e, R, s, m, args, below, meth, c, Z, G⟩ := X
  obtain ⟨rfl, rfl, hx, hb, hr, hml, hown, hts, hlk, hnm, hK, hB, hf, hw⟩ := g
  intro H locs cells slots L h1 h2 h3 h4 h5
  exact lv_tableIn hx hb hd hh.1 hh.2 ho ht (k H locs cells slots L h1 h2 h3 h4 h5)
theorem v_lookup {dflt : Int} {ps : Array (Int × Int)} {len : Nat} {x : Int32} {off : Int} {tgt : Nat} (g : GX X l0 G0 M f w) (hd : decode M.2.1 pc = .ok (.lookupswitch dflt ps, len)) (hp : (ps.toList.zip (ps.toList.drop 1)).all (fun (a, next) => a.1 < next.1) = true) (ho : Op.lookupswitch.offset ps.toList dflt x.toInt = off) (ht : (pc : Int) + off = (tgt : Int)) (k : V X a b n μ tgt ls st) : V X a b n μ pc ls (.int x :: st) := by
  obtain ⟨p, l, e, R, s, m, args, below, meth, c, Z, G⟩ := X
  obtain ⟨rfl, rfl, hx, hb, hr, hml, hown, hts, hlk, hnm, hK, hB, hf, hw⟩ := g
  intro H locs cells slots L h1 h2 h3 h4 h5
  exact lv_lookup hx hb hd hp ho ht (k H locs cells slots L h1 h2 h3 h4 h5)
theorem v_ldc2 {idx : Nat} {v : Int64} (g : GX X l0 G0 M f w) (hd : decode M.2.1 pc = .ok (.ldc2_w idx, 3)) (hc : Cond.constantLong M.1.cls idx v ∈ TT) (k : V X a b n μ (pc + 3) ls (.long v :: st)) : V X a b n μ pc ls st := by
  obtain ⟨p, l, e, R, s, m, args, below, meth, c, Z, G⟩ := X
  obtain ⟨rfl, rfl, hx, hb, hr, hml, hown, hts, hlk, hnm, hK, hB, hf, hw⟩ := g
  intro H locs cells slots L h1 h2 h3 h4 h5
  exact lv_ldc2 hx hb hown (hts _ hc) hd (k H locs cells slots L h1 h2 h3 h4 h5)
/-- what one field instruction stands on: class number ci, field k, named by own's constant idx -/
def FL (own : String) (idx ci k : Nat) (fin : Bool) (ty : FieldType) : Prop := ∃ (C : String) (T : u_T) (N : Nat) (ty0 : Nat → FieldType), vwCl[ci]? = some (C, T, N) ∧ k < N ∧ (∀ w ∈ u_ws C T N, w ∈ lw_tbl) ∧ (∀ w ∈ u_ws C T N, w ∈ TT) ∧ Cond.fieldLink own idx C (T k).2.1 (T k).2.2.1 ∈ TT ∧ (T k).1 = C ∧
  (∀ k, k < N → parseFieldDescriptor (T k).2.2.1 = some (ty0 k)) ∧ (∀ a, a < N → ∀ b, b < N → a ≠ b → (T a).2.1 ≠ (T b).2.1) ∧ (T k).2.2.2 = fin ∧ parseFieldDescriptor (T k).2.2.1 = some ty
theorem v_get {idx ci i o : Nat} {fin : Bool} {ty : FieldType} {fs : List Value} {v : Value} (g : GX X l0 G0 M f w) (hd : decode M.2.1 pc = .ok (.getfield idx, 3)) (fl : FL M.1.cls idx ci i fin ty) (hμ : μ o = some (.inr (ci, fs))) (hv : fs[i]? = some v) (k : V X a b n μ (pc + 3) ls (v :: st)) : V X a b n μ pc ls (.ref o :: st) := by
  obtain ⟨p, l, e, R, s, m, args, below, meth, c, Z, G⟩ := X
  obtain ⟨rfl, rfl, hx, hb, hr, hml, hown, hts, hlk, hnm, hK, hB, hf, hw⟩ := g
  intro H locs cells slots L h1 h2 h3 h4 h5
  have h3' := h3
  obtain ⟨z1, z2, ws, hP, hD, hF⟩ := h3
  obtain ⟨q0, hq⟩ := hF _ _ hμ
  obtain ⟨C, T, N, ty0, e1, e2, -, e3, e4, e5, -⟩ := fl
  exact va_get hx hb hts e3 hown hK.1 hP q0 hq e1 i e2 (hts _ e4) (fun _ h => e5 ▸ h) hv hd (k H locs cells slots L h1 h2 h3' h4 h5)
theorem v_put {idx ci i o : Nat} {ty : FieldType} {fs : List Value} {v : Value} (g : GX X l0 G0 M f w) (hd : decode M.2.1 pc = .ok (.putfield idx, 3)) (fl : FL M.1.cls idx ci i false ty) (hμ : μ o = some (.inr (ci, fs))) (hn : narrow ty v = v ∧ fits ty v = true) (hl : Nat.blt i fs.length = true) (k : V X a b n (mset μ o (.inr (ci, fs.set i v))) (pc + 3) ls st) : V X a b n μ pc ls (v :: .ref o :: st) := by
  obtain ⟨p, l, e, R, s, m, args, below, meth, c, Z, G⟩ := X
  obtain ⟨rfl, rfl, hx, hb, hr, hml, hown, hts, hlk, hnm, hK, hB, hf, hw⟩ := g
  intro H locs cells slots L h1 h2 h3 h4 h5
  obtain ⟨z1, z2, ws, hP, hD, hF⟩ := h3
  obtain ⟨q0, hq⟩ := hF _ _ hμ
  obtain ⟨C, T, N, ty0, e1, e20, -, e3, e4, e5, e6, e7, e8, e9⟩ := fl
  have hap := va_apart (own := M.1.cls) hts e3 ty0 e6 e7 hK.1 e1
  have hl' := Nat.le_of_ble_eq_true hl
  obtain ⟨r0, hr0, cell, q1, q2, q3, q4⟩ := hP q0 _ hq
  have hrr : r0 = (C, T, N) := Option.some.inj (hr0.symm.trans e1)
  subst hrr
  obtain ⟨hSl, hfc, kC, hkC, hkind⟩ := hK.1.1 ci _ e1
  obtain ⟨cf, kf, fi, fd, hi, hsl⟩ := hSl i e20
  have hlay := hts _ (e3 _ (u_in_lay e20))
  unfold u_lay at hlay
  have hst := (u_facts hfc hkC (u_lays hts e3 e20) hi).1
  rw [if_neg (by rw [e8]; decide)] at hlay
  have h6 := u_store hfc hkC hkind hlay hi e9 hn.1 hn.2
  refine W.putK hx hb (f := fd) ⟨hown, hts _ e4, ⟨_, _, _, e5 ▸ hi⟩, hst⟩ (by rw [q2]; exact h6) q1 q3 (by rw [hsl]; exact k2_hasslot (q4 i e20)) rfl rfl hd fun H1 c1 c2 c3 => ?_
  rw [hsl] at c1 ⊢
  exact k H1 _ cells slots L h1 h2 (Rp.set z1 z2 hF hD hq rfl (hP.set hD hq ⟨_, e1, t_OB.to (V := updV (vp_V fs) i v) ⟨_, c1, q2, q3, t_set q4 hap e20 v⟩ (fun j _ => vp_updV_set hl' v j)⟩ c3) (hD.set hq) c2) (h4.put c2 c3 (hD.2 q0 _ hq)) h5
theorem v_putF {idx ci i o : Nat} {ty : FieldType} {fs : List Value} {v : Value} (g : GX X l0 G0 M f w) (hd : decode M.2.1 pc = .ok (.putfield idx, 3)) (hini : M.1.name = "<init>") (hdecl : ∀ (C : String) (T : u_T) (N : Nat), vwCl[ci]? = some (C, T, N) → C = M.1.cls) (fl : FL M.1.cls idx ci i true ty) (hμ : μ o = some (.inr (ci, fs))) (hn : narrow ty v = v ∧ fits ty v = true) (hl : Nat.blt i fs.length = true) (k : V X a b n (mset μ o (.inr (ci, fs.set i v))) (pc + 3) ls st) : V X a b n μ pc ls (v :: .ref o :: st) := by
  obtain ⟨p, l, e, R, s, m, args, below, meth, c, Z, G⟩ := X
  obtain ⟨rfl, rfl, hx, hb, hr, hml, hown, hts, hlk, hnm, hK, hB, hf, hw⟩ := g
  intro H locs cells slots L h1 h2 h3 h4 h5
  obtain ⟨z1, z2, ws, hP, hD, hF⟩ := h3
  obtain ⟨q0, hq⟩ := hF _ _ hμ
  obtain ⟨C, T, N, ty0, e1, e20, -, e3, e4, e5, e6, e7, e8, e9⟩ := fl
  have hap := va_apart (own := M.1.cls) hts e3 ty0 e6 e7 hK.1 e1
  have hl' := Nat.le_of_ble_eq_true hl
  obtain ⟨r0, hr0, cell, q1, q2, q3, q4⟩ := hP q0 _ hq
  have hrr : r0 = (C, T, N) := Option.some.inj (hr0.symm.trans e1)
  subst hrr
  obtain ⟨hSl, hfc, kC, hkC, hkind⟩ := hK.1.1 ci _ e1
  obtain ⟨cf, kf, fi, fd, hi, hsl⟩ := hSl i e20
  have hlay := hts _ (e3 _ (u_in_lay e20))
  unfold u_lay at hlay
  have hst := (u_facts hfc hkC (u_lays hts e3 e20) hi).1
  rw [if_pos e8] at hlay
  have hcf : m.cls = cf := by
    obtain ⟨_, _, c', _, _, _, -, -, hf', -, -, -, hown2, -⟩ := Cond.laysFinal_spec hlay
    have e1' : c' = cf := by have := hi.symm.trans hf'; simp at this; exact this.1.symm
    rw [e5, hdecl C T N e1] at hown2
    rw [← e1']; exact Option.some.inj (hown.symm.trans hown2)
  have h6 := u_fits hfc hkC hkind (Or.inr hlay) hi e9 hn.1 hn.2
  refine W.putFinK hx hb hown (hts _ e4) (e5 ▸ hi) hst hcf (hnm.trans hini) (by rw [q2]; exact h6) q1 q3 (by rw [hsl]; exact k2_hasslot (q4 i e20)) rfl rfl hd fun H1 c1 c2 c3 => ?_
  rw [hsl] at c1 ⊢
  exact k H1 _ cells slots L h1 h2 (Rp.set z1 z2 hF hD hq rfl (hP.set hD hq ⟨_, e1, t_OB.to (V := updV (vp_V fs) i v) ⟨_, c1, q2, q3, t_set q4 hap e20 v⟩ (fun j _ => vp_updV_set hl' v j)⟩ c3) (hD.set hq) c2) (h4.put c2 c3 (hD.2 q0 _ hq)) h5
theorem tysL_at (ty : Nat → ClassId) : ∀ t : Nat, Nat.blt t 6 = true → ∃ T : FieldType, (tysL ty)[t]? = some (ty t, T)
  | 0, _ => ⟨_, rfl⟩
  | 1, _ => ⟨_, rfl⟩
  | 2, _ => ⟨_, rfl⟩
  | 3, _ => ⟨_, rfl⟩
  | 4, _ => ⟨_, rfl⟩
  | 5, _ => ⟨_, rfl⟩
  | t + 6, h => absurd (Nat.le_of_ble_eq_true h) (by omega)
theorem v_alen {t o : Nat} {x : vp_A} {v : Int32} (g : GX X l0 G0 M f w) (hd : decode M.2.1 pc = .ok (.arraylength, 1)) (hμ : μ o = some (.inl (t, x))) (ht : Nat.blt t 6 = true) (hv : Int32.ofNat x.1 = v) (k : V X a b n μ (pc + 1) ls (.int v :: st)) : V X a b n μ pc ls (.ref o :: st) := by
  obtain ⟨p, l, e, R, s, m, args, below, meth, c, Z, G⟩ := X
  obtain ⟨rfl, rfl, hx, hb, hr, hml, hown, hts, hlk, hnm, hK, hB, hf, hw⟩ := g
  intro H locs cells slots L h1 h2 h3 h4 h5
  have h3' := h3
  obtain ⟨z1, z2, ws, hP, hD, hF⟩ := h3
  obtain ⟨q0, hq⟩ := hF _ _ hμ
  obtain ⟨T, hT⟩ := tysL_at G.2.1 t ht
  exact va_alen hx hb hK.1 hP q0 t hq hT hv hd (k H locs cells slots L h1 h2 h3' h4 h5)
theorem v_iald {o len : Nat} {f1 : Nat → Int32} {i : Int32} (g : GX X l0 G0 M f w) (hd : decode M.2.1 pc = .ok (.iaload, 1)) (hμ : μ o = some (.inl (0, len, .inl f1))) (hin : vp_in i len) (k : V X a b n μ (pc + 1) ls (.int (f1 i.toNatClampNeg) :: st)) : V X a b n μ pc ls (.int i :: .ref o :: st) := by
  obtain ⟨p, l, e, R, s, m, args, below, meth, c, Z, G⟩ := X
  obtain ⟨rfl, rfl, hx, hb, hr, hml, hown, hts, hlk, hnm, hK, hB, hf, hw⟩ := g
  intro H locs cells slots L h1 h2 h3 h4 h5
  have h3' := h3
  obtain ⟨z1, z2, ws, hP, hD, hF⟩ := h3
  obtain ⟨q0, hq⟩ := hF _ _ hμ
  exact va_iald hx hb hK.1 hP q0 0 hq rfl hin hd (k H locs cells slots L h1 h2 h3' h4 h5)
theorem v_cald {o len : Nat} {f1 : Nat → Int32} {i : Int32} (g : GX X l0 G0 M f w) (hd : decode M.2.1 pc = .ok (.caload, 1)) (hμ : μ o = some (.inl (2, len, .inl f1))) (hin : vp_in i len) (k : V X a b n μ (pc + 1) ls (.int (f1 i.toNatClampNeg) :: st)) : V X a b n μ pc ls (.int i :: .ref o :: st) := by
  obtain ⟨p, l, e, R, s, m, args, below, meth, c, Z, G⟩ := X
  obtain ⟨rfl, rfl, hx, hb, hr, hml, hown, hts, hlk, hnm, hK, hB, hf, hw⟩ := g
  intro H locs cells slots L h1 h2 h3 h4 h5
  have h3' := h3
  obtain ⟨z1, z2, ws, hP, hD, hF⟩ := h3
  obtain ⟨q0, hq⟩ := hF _ _ hμ
  exact va_cald hx hb hK.1 hP q0 2 hq rfl hin hd (k H locs cells slots L h1 h2 h3' h4 h5)
theorem v_bald {o len : Nat} {f1 : Nat → Int32} {i : Int32} (g : GX X l0 G0 M f w) (hd : decode M.2.1 pc = .ok (.baload, 1)) (hμ : μ o = some (.inl (5, len, .inl f1))) (hin : vp_in i len) (k : V X a b n μ (pc + 1) ls (.int (f1 i.toNatClampNeg) :: st)) : V X a b n μ pc ls (.int i :: .ref o :: st) := by
  obtain ⟨p, l, e, R, s, m, args, below, meth, c, Z, G⟩ := X
  obtain ⟨rfl, rfl, hx, hb, hr, hml, hown, hts, hlk, hnm, hK, hB, hf, hw⟩ := g
  intro H locs cells slots L h1 h2 h3 h4 h5
  have h3' := h3
  obtain ⟨z1, z2, ws, hP, hD, hF⟩ := h3
  obtain ⟨q0, hq⟩ := hF _ _ hμ
  exact va_bald hx hb hK.1 hP q0 5 hq rfl hin hd (k H locs cells slots L h1 h2 h3' h4 h5)
theorem v_lald {o len : Nat} {f1 : Nat → Int64} {i : Int32} (g : GX X l0 G0 M f w) (hd : decode M.2.1 pc = .ok (.laload, 1)) (hμ : μ o = some (.inl (1, len, .inr (.inl f1)))) (hin : vp_in i len) (k : V X a b n μ (pc + 1) ls (.long (f1 i.toNatClampNeg) :: st)) : V X a b n μ pc ls (.int i :: .ref o :: st) := by
  obtain ⟨p, l, e, R, s, m, args, below, meth, c, Z, G⟩ := X
  obtain ⟨rfl, rfl, hx, hb, hr, hml, hown, hts, hlk, hnm, hK, hB, hf, hw⟩ := g
  intro H locs cells slots L h1 h2 h3 h4 h5
  have h3' := h3
  obtain ⟨z1, z2, ws, hP, hD, hF⟩ := h3
  obtain ⟨q0, hq⟩ := hF _ _ hμ
  exact va_lald hx hb hK.1 hP q0 1 hq rfl hin hd (k H locs cells slots L h1 h2 h3' h4 h5)
theorem v_aaldR {o len : Nat} {f1 : Nat → Option Nat} {i : Int32} {v : Value} (g : GX X l0 G0 M f w) (hd : decode M.2.1 pc = .ok (.aaload, 1)) (hμ : μ o = some (.inl (3, len, .inr (.inr (.inr (.inr f1)))))) (hin : vp_in i len) (hv : va_rf (f1 i.toNatClampNeg) = v) (k : V X a b n μ (pc + 1) ls (v :: st)) : V X a b n μ pc ls (.int i :: .ref o :: st) := by
  obtain ⟨p, l, e, R, s, m, args, below, meth, c, Z, G⟩ := X
  obtain ⟨rfl, rfl, hx, hb, hr, hml, hown, hts, hlk, hnm, hK, hB, hf, hw⟩ := g
  intro H locs cells slots L h1 h2 h3 h4 h5
  have h3' := h3
  obtain ⟨z1, z2, ws, hP, hD, hF⟩ := h3
  obtain ⟨q0, hq⟩ := hF _ _ hμ
  subst hv
  exact va_aldq hx hb hK.1 hP q0 3 hq rfl hin hd (k H locs cells slots L h1 h2 h3' h4 h5)
theorem v_aaldO {o len : Nat} {f1 : Nat → Option Nat} {i : Int32} {v : Value} (g : GX X l0 G0 M f w) (hd : decode M.2.1 pc = .ok (.aaload, 1)) (hμ : μ o = some (.inl (4, len, .inr (.inr (.inr (.inr f1)))))) (hin : vp_in i len) (hv : va_rf (f1 i.toNatClampNeg) = v) (k : V X a b n μ (pc + 1) ls (v :: st)) : V X a b n μ pc ls (.int i :: .ref o :: st) := by
  obtain ⟨p, l, e, R, s, m, args, below, meth, c, Z, G⟩ := X
  obtain ⟨rfl, rfl, hx, hb, hr, hml, hown, hts, hlk, hnm, hK, hB, hf, hw⟩ := g
  intro H locs cells slots L h1 h2 h3 h4 h5
  have h3' := h3
  obtain ⟨z1, z2, ws, hP, hD, hF⟩ := h3
  obtain ⟨q0, hq⟩ := hF _ _ hμ
  subst hv
  exact va_aldq hx hb hK.1 hP q0 4 hq rfl hin hd (k H locs cells slots L h1 h2 h3' h4 h5)
theorem v_iast {o len : Nat} {f1 : Nat → Int32} {i : Int32} {x : Int32} (g : GX X l0 G0 M f w) (hd : decode M.2.1 pc = .ok (.iastore, 1)) (hμ : μ o = some (.inl (0, len, .inl f1))) (hin : vp_in i len) (k : V X a b n (mset μ o (.inl (0, len, .inl (upd f1 i.toNatClampNeg x)))) (pc + 1) ls st) : V X a b n μ pc ls (.int x :: .int i :: .ref o :: st) := by
  obtain ⟨p, l, e, R, s, m, args, below, meth, c, Z, G⟩ := X
  obtain ⟨rfl, rfl, hx, hb, hr, hml, hown, hts, hlk, hnm, hK, hB, hf, hw⟩ := g
  intro H locs cells slots L h1 h2 h3 h4 h5
  obtain ⟨z1, z2, ws, hP, hD, hF⟩ := h3
  obtain ⟨q0, hq⟩ := hF _ _ hμ
  refine W.iast hx hb (hP q0 _ hq) ((hK.1.2 0 _ rfl).1 len (fun j => .int (f1 j))) (fun q => by cases q) (by show ¬ (i < 0 ∨ (arrV _ _ _).slots.size ≤ _); rw [arrV_size]; exact hin) rfl rfl hd fun H1 e1 z oq => ?_
  refine k H1 _ cells slots L h1 h2 (Rp.set z1 z2 hF hD hq rfl (hP.set hD hq ?_ oq) (hD.set hq) z) (h4.put z oq (hD.2 q0 _ hq)) h5
  show H1[o]? = some (vp_cell _ _)
  rw [e1]
  show some ((vp_cell _ _).setSlot _ _) = some (vp_cell _ _)
  rw [vp_cell_i, vp_cell_i, arrV_store]
  congr 2
  funext q
  by_cases hq1 : q = i.toNatClampNeg
  · subst hq1
    simp [updV, upd]
    try rfl
  · simp [updV, upd, hq1]
theorem v_cast {o len : Nat} {f1 : Nat → Int32} {i : Int32} {x : Int32} (g : GX X l0 G0 M f w) (hd : decode M.2.1 pc = .ok (.castore, 1)) (hμ : μ o = some (.inl (2, len, .inl f1))) (hin : vp_in i len) (k : V X a b n (mset μ o (.inl (2, len, .inl (upd f1 i.toNatClampNeg (vp_nar .char x))))) (pc + 1) ls st) : V X a b n μ pc ls (.int x :: .int i :: .ref o :: st) := by
  obtain ⟨p, l, e, R, s, m, args, below, meth, c, Z, G⟩ := X
  obtain ⟨rfl, rfl, hx, hb, hr, hml, hown, hts, hlk, hnm, hK, hB, hf, hw⟩ := g
  intro H locs cells slots L h1 h2 h3 h4 h5
  obtain ⟨z1, z2, ws, hP, hD, hF⟩ := h3
  obtain ⟨q0, hq⟩ := hF _ _ hμ
  refine W.cast hx hb (hP q0 _ hq) ((hK.1.2 2 _ rfl).1 len (fun j => .int (f1 j))) (fun q => by cases q) (by show ¬ (i < 0 ∨ (arrV _ _ _).slots.size ≤ _); rw [arrV_size]; exact hin) rfl rfl hd fun H1 e1 z oq => ?_
  refine k H1 _ cells slots L h1 h2 (Rp.set z1 z2 hF hD hq rfl (hP.set hD hq ?_ oq) (hD.set hq) z) (h4.put z oq (hD.2 q0 _ hq)) h5
  show H1[o]? = some (vp_cell _ _)
  rw [e1]
  show some ((vp_cell _ _).setSlot _ _) = some (vp_cell _ _)
  rw [vp_cell_i, vp_cell_i, arrV_store]
  congr 2
  funext q
  by_cases hq1 : q = i.toNatClampNeg
  · subst hq1
    simp [updV, upd, vp_nar]
    try rfl
  · simp [updV, upd, vp_nar, hq1]
theorem v_last {o len : Nat} {f1 : Nat → Int64} {i : Int32} {x : Int64} (g : GX X l0 G0 M f w) (hd : decode M.2.1 pc = .ok (.lastore, 1)) (hμ : μ o = some (.inl (1, len, .inr (.inl f1)))) (hin : vp_in i len) (k : V X a b n (mset μ o (.inl (1, len, .inr (.inl (vp_updL f1 i.toNatClampNeg x))))) (pc + 1) ls st) : V X a b n μ pc ls (.long x :: .int i :: .ref o :: st) := by
  obtain ⟨p, l, e, R, s, m, args, below, meth, c, Z, G⟩ := X
  obtain ⟨rfl, rfl, hx, hb, hr, hml, hown, hts, hlk, hnm, hK, hB, hf, hw⟩ := g
  intro H locs cells slots L h1 h2 h3 h4 h5
  obtain ⟨z1, z2, ws, hP, hD, hF⟩ := h3
  obtain ⟨q0, hq⟩ := hF _ _ hμ
  refine W.last hx hb (hP q0 _ hq) ((hK.1.2 1 _ rfl).1 len (fun j => .long (f1 j))) (fun q => by cases q) (by show ¬ (i < 0 ∨ (arrV _ _ _).slots.size ≤ _); rw [arrV_size]; exact hin) rfl rfl hd fun H1 e1 z oq => ?_
  refine k H1 _ cells slots L h1 h2 (Rp.set z1 z2 hF hD hq rfl (hP.set hD hq ?_ oq) (hD.set hq) z) (h4.put z oq (hD.2 q0 _ hq)) h5
  show H1[o]? = some (vp_cell _ _)
  rw [e1]
  show some ((vp_cell _ _).setSlot _ _) = some (vp_cell _ _)
  rw [vp_cell_l, vp_cell_l, arrV_store]
  congr 2
  funext q
  by_cases hq1 : q = i.toNatClampNeg
  · subst hq1
    simp [updV, vp_updL]
    try rfl
  · simp [updV, vp_updL, hq1]
theorem v_aastR {o len : Nat} {f1 : Nat → Option Nat} {i : Int32} {x : Nat} {vs : List Value} (g : GX X l0 G0 M f w) (hd : decode M.2.1 pc = .ok (.aastore, 1)) (hμ : μ o = some (.inl (3, len, .inr (.inr (.inr (.inr f1)))))) (hin : vp_in i len) (hx1 : μ x = some (.inr (4, vs))) (k : V X a b n (mset μ o (.inl (3, len, .inr (.inr (.inr (.inr (va_up f1 i.toNatClampNeg (some x)))))))) (pc + 1) ls st) : V X a b n μ pc ls (.ref x :: .int i :: .ref o :: st) := by
  obtain ⟨p, l, e, R, s, m, args, below, meth, c, Z, G⟩ := X
  obtain ⟨rfl, rfl, hx, hb, hr, hml, hown, hts, hlk, hnm, hK, hB, hf, hw⟩ := g
  intro H locs cells slots L h1 h2 h3 h4 h5
  obtain ⟨z1, z2, ws, hP, hD, hF⟩ := h3
  obtain ⟨q0, hq⟩ := hF _ _ hμ
  obtain ⟨qk, hqk⟩ := hF _ _ hx1
  have hlt : i.toNatClampNeg < len := Nat.not_le.mp fun q => hin (Or.inr q)
  have hi0 : ¬ i < 0 := fun q => hin (Or.inl q)
  obtain ⟨r', hr', cellV, g1, g2, g3, -⟩ := hP qk _ hqk
  have hcls := (hK.1.1 4 _ rfl).2
  obtain ⟨kA, comp, k1, k2, k3, -⟩ := (hK.1.2 3 _ rfl).2
  have hcomp : comp = G.1.1 4 := Option.some.inj (k3.symm.trans hcls.1)
  subst hcomp
  obtain ⟨kC, hkC, -⟩ := id hcls.2
  refine W.aast hx hb (hP q0 _ hq) (fun q h => by cases h) (fun h => by cases h) k1 k2 rfl hkC ⟨hi0, by show _ < (arrV _ _ _).slots.size; rw [arrV_size]; exact hlt⟩ g1 (fun q h => by rw [g3] at h; cases h) (by rw [g2]; exact hkC) (by rw [g2]; exact va_assign hcls) rfl rfl hd fun H1 e1 z oq => ?_
  refine k H1 _ cells slots L h1 h2 (Rp.set z1 z2 hF hD hq rfl (hP.set hD hq ?_ oq) (hD.set hq) z) (h4.put z oq (hD.2 q0 _ hq)) h5
  show H1[o]? = some (vp_cell _ _)
  rw [e1]
  show some ((vp_cell _ _).setSlot _ _) = some (vp_cell _ _)
  rw [vp_cell_q, vp_cell_q, arrV_store]
  congr 2
  funext q
  by_cases hq1 : q = i.toNatClampNeg
  · subst hq1
    simp [updV, va_up, va_rf]
  · simp [updV, va_up, hq1]
theorem v_aastO {o len : Nat} {f1 : Nat → Option Nat} {i : Int32} {x : Nat} {vs : List Value} (g : GX X l0 G0 M f w) (hd : decode M.2.1 pc = .ok (.aastore, 1)) (hμ : μ o = some (.inl (4, len, .inr (.inr (.inr (.inr f1)))))) (hin : vp_in i len) (hx1 : μ x = some (.inr (1, vs))) (k : V X a b n (mset μ o (.inl (4, len, .inr (.inr (.inr (.inr (va_up f1 i.toNatClampNeg (some x)))))))) (pc + 1) ls st) : V X a b n μ pc ls (.ref x :: .int i :: .ref o :: st) := by
  obtain ⟨p, l, e, R, s, m, args, below, meth, c, Z, G⟩ := X
  obtain ⟨rfl, rfl, hx, hb, hr, hml, hown, hts, hlk, hnm, hK, hB, hf, hw⟩ := g
  intro H locs cells slots L h1 h2 h3 h4 h5
  obtain ⟨z1, z2, ws, hP, hD, hF⟩ := h3
  obtain ⟨q0, hq⟩ := hF _ _ hμ
  obtain ⟨qk, hqk⟩ := hF _ _ hx1
  have hlt : i.toNatClampNeg < len := Nat.not_le.mp fun q => hin (Or.inr q)
  have hi0 : ¬ i < 0 := fun q => hin (Or.inl q)
  obtain ⟨r', hr', cellV, g1, g2, g3, -⟩ := hP qk _ hqk
  have hcls := (hK.1.1 1 _ rfl).2
  obtain ⟨kA, comp, k1, k2, k3, -⟩ := (hK.1.2 4 _ rfl).2
  have hcomp : comp = G.1.1 1 := Option.some.inj (k3.symm.trans hcls.1)
  subst hcomp
  obtain ⟨kC, hkC, -⟩ := id hcls.2
  refine W.aast hx hb (hP q0 _ hq) (fun q h => by cases h) (fun h => by cases h) k1 k2 rfl hkC ⟨hi0, by show _ < (arrV _ _ _).slots.size; rw [arrV_size]; exact hlt⟩ g1 (fun q h => by rw [g3] at h; cases h) (by rw [g2]; exact hkC) (by rw [g2]; exact va_assign hcls) rfl rfl hd fun H1 e1 z oq => ?_
  refine k H1 _ cells slots L h1 h2 (Rp.set z1 z2 hF hD hq rfl (hP.set hD hq ?_ oq) (hD.set hq) z) (h4.put z oq (hD.2 q0 _ hq)) h5
  show H1[o]? = some (vp_cell _ _)
  rw [e1]
  show some ((vp_cell _ _).setSlot _ _) = some (vp_cell _ _)
  rw [vp_cell_q, vp_cell_q, arrV_store]
  congr 2
  funext q
  by_cases hq1 : q = i.toNatClampNeg
  · subst hq1
    simp [updV, va_up, va_rf]
  · simp [updV, va_up, hq1]
theorem v_S_push {A : Nat → Prop} {H0 H H1 : Heap} {locs : List Loc} (h : va_S A H0 H locs) (z : H1.size = H.size + 1) (o1 : ∀ q : Nat, q < H.size → H1[q]? = H[q]?) : va_S A H0 H1 locs := ⟨Nat.le_trans h.1 (by omega), fun x h1 h2 => (o1 x (Nat.lt_of_lt_of_le h1 h.1)).trans (h.2.1 x h1 h2), h.2.2⟩
theorem v_new {idx ci N : Nat} {C : String} {T : u_T} {fs : List Value} (g : GX X l0 G0 M f w) (ty0 : Nat → FieldType) (hd : decode M.2.1 pc = .ok (.new idx, 3)) (hc : vwCl[ci]? = some (C, T, N)) (hin : ∀ w ∈ u_ws C T N, w ∈ TT) (hty : ∀ k, k < N → parseFieldDescriptor (T k).2.2.1 = some (ty0 k)) (hw3 : Cond.classLink M.1.cls idx C ∈ TT ∧ Cond.instantiable C N ∈ TT ∧ Cond.initialized C ∈ TT) (hfs : ∀ j, j < N → defaultValue (ty0 j) = vp_V fs j) (k : V X a b (n + 1) (mset μ n (.inr (ci, fs))) (pc + 3) ls (.ref n :: st)) : V X (a + 1) (b + N) n μ pc ls st := by
  obtain ⟨p, l, e, R, s, m, args, below, meth, c, Z, G⟩ := X
  obtain ⟨rfl, rfl, hx, hb, hr, hml, hown, hts, hlk, hnm, hK, hB, hf, hw⟩ := g
  intro H locs cells slots L h1 h2 h3 h4 h5
  obtain ⟨z1, z2, ws, hP, hD, hF⟩ := h3
  have hAA : ∀ q : Nat, s.heap.size ≤ q → G.2.2 ≤ q := fun q h => Nat.le_trans hB h
  have hKn := hK.1.1 ci _ hc
  refine W.newcK hx hb hown (hts _ hw3.1) (hts _ hw3.2.1) (hts _ hw3.2.2) rfl hd (by omega) (by omega) hKn.2.1 z1 fun H1 kC hkC e1 y1 o1 => ?_
  have y1' : H1.size = H.size + 1 := by omega
  have o1' : ∀ q : Nat, q < H.size → H1[q]? = H[q]? := fun q hq => o1 q (by omega)
  refine k H1 locs (cells + 1) (slots + N) L (by omega) (by omega) (Rp.push (e1 := .inr (ci, fs)) z1 z2 hF rfl ((hP.kept (fun k x hx => o1' x.1 ((hP k x hx).lt))).app (fun k x hx => ?_)) (hD.push hP z1.symm z2) y1') (v_S_push h4 y1' o1') h5
  have hz : k < 1 := (List.getElem?_eq_some_iff.mp hx).1
  rw [show k = 0 by omega] at hx
  cases hx
  exact ⟨_, hc, (u_born ty0 hts hin hKn hkC e1 hty).to hfs⟩
theorem v_newaI {i : Int32} {N : Nat} (g : GX X l0 G0 M f w) (hd : decode M.2.1 pc = .ok (.newarray .int, 2)) (hw3 : Cond.arrayClass .int ∈ TT) (hi : ¬ i < 0) (hN : i.toNatClampNeg = N) (hbig : Nat.ble (N * 8) 536870912 = true) (k : V X a b (n + 1) (mset μ n (.inl (0, N, .inl (fun _ => 0)))) (pc + 2) ls (.ref n :: st)) : V X (a + 1) (b + N) n μ pc ls (.int i :: st) := by
  obtain ⟨p, l, e, R, s, m, args, below, meth, c, Z, G⟩ := X
  obtain ⟨rfl, rfl, hx, hb, hr, hml, hown, hts, hlk, hnm, hK, hB, hf, hw⟩ := g
  intro H locs cells slots L h1 h2 h3 h4 h5
  obtain ⟨z1, z2, ws, hP, hD, hF⟩ := h3
  have hAA : ∀ q : Nat, s.heap.size ≤ q → G.2.2 ≤ q := fun q h => Nat.le_trans hB h
  have hbig' : N * 8 ≤ 536870912 := Nat.le_of_ble_eq_true hbig
  refine va_newaK (atype := .int) hx hb (hts _ hw3) rfl hd rfl hi hN (by show N * _ ≤ _; exact Nat.le_trans (Nat.mul_le_mul_left N (by decide)) hbig') (by omega) (by omega) z1 fun H1 cA e1 y1 o1 hAr hNm => ?_
  have y1' : H1.size = H.size + 1 := by omega
  have o1' : ∀ q : Nat, q < H.size → H1[q]? = H[q]? := fun q hq => o1 q (by omega)
  have hcA : cA = G.2.1 0 := Option.some.inj (hNm.symm.trans (hK.1.2 0 _ rfl).2)
  refine k H1 locs (cells + 1) (slots + N) L (by omega) (by omega) (Rp.push (e1 := .inl (G.2.1 0, N, .inl (fun _ => 0))) z1 z2 hF rfl ((hP.kept (fun k x hx => o1' x.1 ((hP k x hx).lt))).app (fun k x hx => ?_)) (hD.push hP z1.symm z2) y1') (v_S_push h4 y1' o1') h5
  have hz : k < 1 := (List.getElem?_eq_some_iff.mp hx).1
  rw [show k = 0 by omega] at hx
  cases hx
  show H1[n]? = some (vp_cell _ _)
  rw [e1, hcA]
  rfl
theorem v_newaC {i : Int32} {N : Nat} (g : GX X l0 G0 M f w) (hd : decode M.2.1 pc = .ok (.newarray .char, 2)) (hw3 : Cond.arrayClass .char ∈ TT) (hi : ¬ i < 0) (hN : i.toNatClampNeg = N) (hbig : Nat.ble (N * 8) 536870912 = true) (k : V X a b (n + 1) (mset μ n (.inl (2, N, .inl (fun _ => 0)))) (pc + 2) ls (.ref n :: st)) : V X (a + 1) (b + N) n μ pc ls (.int i :: st) := by
  obtain ⟨p, l, e, R, s, m, args, below, meth, c, Z, G⟩ := X
  obtain ⟨rfl, rfl, hx, hb, hr, hml, hown, hts, hlk, hnm, hK, hB, hf, hw⟩ := g
  intro H locs cells slots L h1 h2 h3 h4 h5
  obtain ⟨z1, z2, ws, hP, hD, hF⟩ := h3
  have hAA : ∀ q : Nat, s.heap.size ≤ q → G.2.2 ≤ q := fun q h => Nat.le_trans hB h
  have hbig' : N * 8 ≤ 536870912 := Nat.le_of_ble_eq_true hbig
  refine va_newaK (atype := .char) hx hb (hts _ hw3) rfl hd rfl hi hN (by show N * _ ≤ _; exact Nat.le_trans (Nat.mul_le_mul_left N (by decide)) hbig') (by omega) (by omega) z1 fun H1 cA e1 y1 o1 hAr hNm => ?_
  have y1' : H1.size = H.size + 1 := by omega
  have o1' : ∀ q : Nat, q < H.size → H1[q]? = H[q]? := fun q hq => o1 q (by omega)
  have hcA : cA = G.2.1 2 := Option.some.inj (hNm.symm.trans (hK.1.2 2 _ rfl).2)
  refine k H1 locs (cells + 1) (slots + N) L (by omega) (by omega) (Rp.push (e1 := .inl (G.2.1 2, N, .inl (fun _ => 0))) z1 z2 hF rfl ((hP.kept (fun k x hx => o1' x.1 ((hP k x hx).lt))).app (fun k x hx => ?_)) (hD.push hP z1.symm z2) y1') (v_S_push h4 y1' o1') h5
  have hz : k < 1 := (List.getElem?_eq_some_iff.mp hx).1
  rw [show k = 0 by omega] at hx
  cases hx
  show H1[n]? = some (vp_cell _ _)
  rw [e1, hcA]
  rfl
theorem v_newaL {i : Int32} {N : Nat} (g : GX X l0 G0 M f w) (hd : decode M.2.1 pc = .ok (.newarray .long, 2)) (hw3 : Cond.arrayClass .long ∈ TT) (hi : ¬ i < 0) (hN : i.toNatClampNeg = N) (hbig : Nat.ble (N * 8) 536870912 = true) (k : V X a b (n + 1) (mset μ n (.inl (1, N, .inr (.inl (fun _ => 0))))) (pc + 2) ls (.ref n :: st)) : V X (a + 1) (b + N) n μ pc ls (.int i :: st) := by
  obtain ⟨p, l, e, R, s, m, args, below, meth, c, Z, G⟩ := X
  obtain ⟨rfl, rfl, hx, hb, hr, hml, hown, hts, hlk, hnm, hK, hB, hf, hw⟩ := g
  intro H locs cells slots L h1 h2 h3 h4 h5
  obtain ⟨z1, z2, ws, hP, hD, hF⟩ := h3
  have hAA : ∀ q : Nat, s.heap.size ≤ q → G.2.2 ≤ q := fun q h => Nat.le_trans hB h
  have hbig' : N * 8 ≤ 536870912 := Nat.le_of_ble_eq_true hbig
  refine va_newaK (atype := .long) hx hb (hts _ hw3) rfl hd rfl hi hN (by show N * _ ≤ _; exact Nat.le_trans (Nat.mul_le_mul_left N (by decide)) hbig') (by omega) (by omega) z1 fun H1 cA e1 y1 o1 hAr hNm => ?_
  have y1' : H1.size = H.size + 1 := by omega
  have o1' : ∀ q : Nat, q < H.size → H1[q]? = H[q]? := fun q hq => o1 q (by omega)
  have hcA : cA = G.2.1 1 := Option.some.inj (hNm.symm.trans (hK.1.2 1 _ rfl).2)
  refine k H1 locs (cells + 1) (slots + N) L (by omega) (by omega) (Rp.push (e1 := .inl (G.2.1 1, N, .inr (.inl (fun _ => 0)))) z1 z2 hF rfl ((hP.kept (fun k x hx => o1' x.1 ((hP k x hx).lt))).app (fun k x hx => ?_)) (hD.push hP z1.symm z2) y1') (v_S_push h4 y1' o1') h5
  have hz : k < 1 := (List.getElem?_eq_some_iff.mp hx).1
  rw [show k = 0 by omega] at hx
  cases hx
  show H1[n]? = some (vp_cell _ _)
  rw [e1, hcA]
  rfl
theorem v_newqR {idx N : Nat} {i : Int32} (g : GX X l0 G0 M f w) (hd : decode M.2.1 pc = .ok (.anewarray idx, 3)) (hw3 : Cond.classLink M.1.cls idx RX4 ∈ TT) (hi : ¬ i < 0) (hN : i.toNatClampNeg = N) (hbig : Nat.ble (N * 4) 536870912 = true) (k : V X a b (n + 1) (mset μ n (.inl (3, N, .inr (.inr (.inr (.inr (fun _ => none))))))) (pc + 3) ls (.ref n :: st)) : V X (a + 1) (b + N) n μ pc ls (.int i :: st) := by
  obtain ⟨p, l, e, R, s, m, args, below, meth, c, Z, G⟩ := X
  obtain ⟨rfl, rfl, hx, hb, hr, hml, hown, hts, hlk, hnm, hK, hB, hf, hw⟩ := g
  intro H locs cells slots L h1 h2 h3 h4 h5
  obtain ⟨z1, z2, ws, hP, hD, hF⟩ := h3
  have hAA : ∀ q : Nat, s.heap.size ≤ q → G.2.2 ≤ q := fun q h => Nat.le_trans hB h
  subst hN
  refine W.anew hx hb hown (hts _ hw3) (va_AO.use hK.2.2.1) rfl hd rfl hi (Nat.le_of_ble_eq_true hbig) (by omega) (by omega) fun cA kA comp f1 f2 f3 f4 => ?_
  generalize hH1 : H.push ({ cls := cA, slots := Array.replicate i.toNatClampNeg .null, vm := .none } : Cell) = H1
  have y1' : H1.size = H.size + 1 := by rw [← hH1, Array.size_push]
  have e1 : H1[H.size]? = some (arrV cA i.toNatClampNeg (fun _ => .null)) := by rw [← hH1, Array.getElem?_push_size, ← arrV_new]
  have o1' : ∀ q : Nat, q < H.size → H1[q]? = H[q]? := fun q hq => by rw [← hH1, Array.getElem?_push, if_neg (Nat.ne_of_lt hq)]
  obtain ⟨kB, compB, b1, b2, b3, b4⟩ := (hK.1.2 3 _ rfl).2
  have hcA : cA = G.2.1 3 := Option.some.inj (f1.symm.trans b4)
  refine z1 ▸ (k H1 locs (cells + 1) (slots + i.toNatClampNeg) L (by omega) (by omega) (Rp.push (e1 := .inl (G.2.1 3, i.toNatClampNeg, .inr (.inr (.inr (.inr (fun _ => none)))))) z1 z2 hF rfl ((hP.kept (fun k x hx => o1' x.1 ((hP k x hx).lt))).app (fun k x hx => ?_)) (hD.push hP z1.symm z2) y1') (v_S_push h4 y1' o1') h5)
  have hz : k < 1 := (List.getElem?_eq_some_iff.mp hx).1
  rw [show k = 0 by omega] at hx
  cases hx
  show H1[n]? = some (vp_cell _ _)
  rw [vp_cell_q, ← z1, e1, hcA]
  rfl
theorem v_newqO {idx N : Nat} {i : Int32} (g : GX X l0 G0 M f w) (hd : decode M.2.1 pc = .ok (.anewarray idx, 3)) (hw3 : Cond.classLink M.1.cls idx RX1 ∈ TT) (hi : ¬ i < 0) (hN : i.toNatClampNeg = N) (hbig : Nat.ble (N * 4) 536870912 = true) (k : V X a b (n + 1) (mset μ n (.inl (4, N, .inr (.inr (.inr (.inr (fun _ => none))))))) (pc + 3) ls (.ref n :: st)) : V X (a + 1) (b + N) n μ pc ls (.int i :: st) := by
  obtain ⟨p, l, e, R, s, m, args, below, meth, c, Z, G⟩ := X
  obtain ⟨rfl, rfl, hx, hb, hr, hml, hown, hts, hlk, hnm, hK, hB, hf, hw⟩ := g
  intro H locs cells slots L h1 h2 h3 h4 h5
  obtain ⟨z1, z2, ws, hP, hD, hF⟩ := h3
  have hAA : ∀ q : Nat, s.heap.size ≤ q → G.2.2 ≤ q := fun q h => Nat.le_trans hB h
  subst hN
  refine W.anew hx hb hown (hts _ hw3) (va_AO.use hK.2.2.2) rfl hd rfl hi (Nat.le_of_ble_eq_true hbig) (by omega) (by omega) fun cA kA comp f1 f2 f3 f4 => ?_
  generalize hH1 : H.push ({ cls := cA, slots := Array.replicate i.toNatClampNeg .null, vm := .none } : Cell) = H1
  have y1' : H1.size = H.size + 1 := by rw [← hH1, Array.size_push]
  have e1 : H1[H.size]? = some (arrV cA i.toNatClampNeg (fun _ => .null)) := by rw [← hH1, Array.getElem?_push_size, ← arrV_new]
  have o1' : ∀ q : Nat, q < H.size → H1[q]? = H[q]? := fun q hq => by rw [← hH1, Array.getElem?_push, if_neg (Nat.ne_of_lt hq)]
  obtain ⟨kB, compB, b1, b2, b3, b4⟩ := (hK.1.2 4 _ rfl).2
  have hcA : cA = G.2.1 4 := Option.some.inj (f1.symm.trans b4)
  refine z1 ▸ (k H1 locs (cells + 1) (slots + i.toNatClampNeg) L (by omega) (by omega) (Rp.push (e1 := .inl (G.2.1 4, i.toNatClampNeg, .inr (.inr (.inr (.inr (fun _ => none)))))) z1 z2 hF rfl ((hP.kept (fun k x hx => o1' x.1 ((hP k x hx).lt))).app (fun k x hx => ?_)) (hD.push hP z1.symm z2) y1') (v_S_push h4 y1' o1') h5)
  have hz : k < 1 := (List.getElem?_eq_some_iff.mp hx).1
  rw [show k = 0 by omega] at hx
  cases hx
  show H1[n]? = some (vp_cell _ _)
  rw [vp_cell_q, ← z1, e1, hcA]
  rfl
theorem v_objInit {idx o : Nat} (g : GX X l0 G0 M f w) (hd : decode M.2.1 pc = .ok (.invokespecial idx, 3)) (hw3 : Cond.methodLink M.1.cls idx objectInit ∈ TT ∧ Cond.instanceMethod objectInit ∈ TT ∧ Cond.code objectInit ⟨#[0xb1]⟩ 1 none ∈ TT) (hroom : Nat.ble 1 f = true ∧ Nat.ble ((st.map fun v => v.category).sum + 12) w = true) (k : V X a b n μ (pc + 3) ls st) : V X a b n μ pc ls (.ref o :: st) := by
  obtain ⟨p, l, e, R, s, m, args, below, meth, c, Z, G⟩ := X
  obtain ⟨rfl, rfl, hx, hb, hr, hml, hown, hts, hlk, hnm, hK, hB, hf, hw⟩ := g
  intro H locs cells slots L h1 h2 h3 h4 h5
  refine W.objInit hx hb hown (hts _ hw3.1) (hts _ hw3.2.1) (hts _ hw3.2.2) rfl h5.1 rfl hd (by rw [hf]; exact Nat.le_of_ble_eq_true hroom.1) (by rw [hw]; show 2 * 0 + _ + 12 ≤ w; have := Nat.le_of_ble_eq_true hroom.2; omega) ?_
  exact k H locs cells slots L h1 h2 h3 h4 h5
theorem v_blind {G : GG} {n : Nat} {μ : Mu} {As : List Value} : FrameBlind (va_Pc As (fun U => Rp G n μ U.heap ∧ KK G U)) := fun a U g mk h => ⟨h.1, h.2.1, KK.same rfl h.2.2⟩
theorem TT_pay {s : State} {args : Array Value} (hts : ∀ t ∈ TT, t.before args s = true) {ws : List Cond} (h : ∀ w ∈ ws, w ∈ TT) : ∀ w ∈ ws, ∀ (a' : Array Value) (U : State), s.WarmedH U.vm → w.before a' U = true := pay_in hts (TT_good h)
theorem wd_in {M : MD} (h : Cond.code M.1 M.2.1 M.2.2.1 M.2.2.2 ∈ TT) : ∀ w ∈ wd M, w ∈ TT := fun w hw => (List.mem_cons.mp hw).elim (fun e => e ▸ h) id
/-- what a call stands on, but its link: the callee's code among the words, its class, how many arguments -/
def CL (M : MD) (k : Nat) : Prop := Cond.code M.1 M.2.1 M.2.2.1 M.2.2.2 ∈ TT ∧ Cond.initialized M.1.cls ∈ TT ∧ (M.1.cls ≠ "java/lang/invoke/MethodHandle" ∧ M.1.cls ≠ "java/lang/invoke/VarHandle") ∧ (parseMethodDescriptor M.1.desc).map (fun d => d.parameters.length) = some k
theorem v_callend {p : Program} {l : Launch} {e : Env} {R : Room} {s : State} {m : MethodId} {args : Array Value} {below : List Frame} {meth : Method} {c : Code} {Z : State → Prop} {G : GG} {H : Heap} {locs : List Loc} {cells slots mc ms a b n' : Nat} {μ' : Mu} {pc : Nat} {L : Array Slot} {ls : List (Nat × Value)} {st0 rest : List Value} {r : Option Value}
    (hr : va_Run p l e R s m args below meth c H locs cells slots mc ms (F0 m pc L st0) rest (fun st o t => o = .returned r ∧ Rp G n' μ' t.heap ∧ va_F (fun q => G.2.2 ≤ q) st t) (fun q => G.2.2 ≤ q))
    (h1 : cells + (a + mc) ≤ R.cells) (h2 : slots + (b + ms) ≤ R.slots) (h4 : va_S (fun q => G.2.2 ≤ q) s.heap H locs) (h5 : lv_has L c.maxLocals ls)
    (k : V (p, l, e, R, s, m, args, below, meth, c, Z, G) a b n' μ' (pc + 3) ls (r.toList ++ rest)) : W p l e R s m args below meth c H locs cells slots Z (F0 m pc L st0) := by
  intro T hT X
  obtain ⟨v, st₀, t, T', L1, g0, X', hL, e1, e2, ⟨hv, hR, hz, hk⟩, stp⟩ := hr T hT X
  cases hv
  rw [g0] at hz hk
  obtain ⟨t2, a1, b1⟩ := k T'.heap (locs ++ L1) (cells + mc) (slots + ms) L (by omega) (by omega) (by rw [e1]; exact hR)
    ⟨Nat.le_trans h4.1 (by rw [e1]; exact hz), fun q q1 q2 => by rw [e1, hk q (Nat.lt_of_lt_of_le q1 h4.1) q2]; exact h4.2.1 q q1 q2, fun q hq => by
      rcases List.mem_append.mp hq with h | h
      · exact h4.2.2 q h
      · exact hL q h⟩ h5 T' rfl X'
  exact ⟨t2, stp t2 a1, b1⟩
theorem v_callV {o ci : Nat} {q : vw_C} {fs : List Value} {f' w' mc ms n' idx j : Nat} {M' : MD} {As : List Value} {r : Option Value} {μ' : Mu} (g : GX X l0 G0 M f w) (hd : decode M.2.1 pc = .ok (.invokevirtual idx, 3)) (C : Ctr l0 G0 f' w' mc ms M' (.ref o :: As) n μ r n' μ') (cl : CL M' j) (hl : Cond.methodLink M.1.cls idx M'.1 ∈ TT) (hs : Cond.instanceMethod M'.1 ∈ TT ∧ Cond.selects q.1 M'.1 M'.1 ∈ TT) (hμ : μ o = some (.inr (ci, fs))) (hC : vwCl[ci]? = some q) (hj : As.length = j) (hroom : Nat.ble (f' + 1) f = true ∧ Nat.ble (8 + (M'.2.2.1 + 11) + w') w = true ∧ Nat.ble (st.map fun v => v.category).sum 8 = true)
    (k : V X a b n' μ' (pc + 3) ls (r.toList ++ st)) : V X (a + mc) (b + ms) n μ pc ls (As.reverse ++ .ref o :: st) := by
  obtain ⟨p, l, e, R, s, m, args, below, meth, c, Z, G⟩ := X
  obtain ⟨rfl, rfl, hx, hb, hr, hml, hown, hts, hlk, hnm, hK, hB, hf, hw⟩ := g
  intro H locs cells slots L h1 h2 h3 h4 h5
  have hR : f' + 1 ≤ R.frames ∧ 8 + (M'.2.2.1 + 11) + w' ≤ R.locals := ⟨by rw [hf]; exact Nat.le_of_ble_eq_true hroom.1, by rw [hw]; exact Nat.le_of_ble_eq_true hroom.2.1⟩
  have hW8 : 2 * (F0 m pc L (As.reverse ++ .ref o :: st)).monitorRoom + (st.map fun v => v.category).sum ≤ 8 := lv_room (Nat.le_of_ble_eq_true hroom.2.2)
  have hlen : ∀ sig, parseMethodDescriptor M'.1.desc = some sig → j = sig.parameters.length := fun sig h => by
    have h2 := cl.2.2.2
    rw [h] at h2
    exact (Option.some.inj h2).symm
  have hpre : ∀ U : State, U.heap = H → s.WarmedH U.vm → va_Pc (.ref o :: As) (fun U => Rp G n μ U.heap ∧ KK G U) ((.ref o :: As)).toArray U := fun U hU hW => ⟨rfl, by rw [hU]; exact h3, hK.warm hW⟩
  have hbase : ∀ w ∈ wd M', ∀ (a' : Array Value) (U : State), s.WarmedH U.vm → w.before a' U = true := TT_pay hts (wd_in cl.1)
  obtain ⟨z1, z2, ws, hP, hD, hF⟩ := id h3
  obtain ⟨q0, hq⟩ := hF _ _ hμ
  have hrecv := va_recv hK.1 hP hC hq
  exact v_callend (n' := n') (r := r) (μ' := μ') (va_runV (C := q.1) ⟨hx, hb, hml, hown, hts⟩ C ⟨⟨rfl, rfl, hR.1, hR.2, hbase, List.mem_cons_self, hts _ cl.1, hts _ cl.2.1, cl.2.2.1, hlen, hts _ hl⟩, hts _ hs.1, hts _ hs.2⟩ ⟨v_blind, hrecv, hpre⟩ rfl hj (h5.1.trans hml) rfl hW8 hd ⟨by omega, by omega⟩) h1 h2 h4 h5 k
theorem v_callS {f' w' mc ms n' idx j : Nat} {M' : MD} {As : List Value} {r : Option Value} {μ' : Mu} (g : GX X l0 G0 M f w) (hd : decode M.2.1 pc = .ok (.invokestatic idx, 3)) (C : Ctr l0 G0 f' w' mc ms M' As n μ r n' μ') (cl : CL M' j) (hl : Cond.methodLink M.1.cls idx M'.1 ∈ TT) (hs : Cond.static M'.1 ∈ TT) (hj : As.length = j) (hroom : Nat.ble (f' + 1) f = true ∧ Nat.ble (8 + (M'.2.2.1 + 11) + w') w = true ∧ Nat.ble (st.map fun v => v.category).sum 8 = true)
    (k : V X a b n' μ' (pc + 3) ls (r.toList ++ st)) : V X (a + mc) (b + ms) n μ pc ls (As.reverse ++ st) := by
  obtain ⟨p, l, e, R, s, m, args, below, meth, c, Z, G⟩ := X
  obtain ⟨rfl, rfl, hx, hb, hr, hml, hown, hts, hlk, hnm, hK, hB, hf, hw⟩ := g
  intro H locs cells slots L h1 h2 h3 h4 h5
  have hR : f' + 1 ≤ R.frames ∧ 8 + (M'.2.2.1 + 11) + w' ≤ R.locals := ⟨by rw [hf]; exact Nat.le_of_ble_eq_true hroom.1, by rw [hw]; exact Nat.le_of_ble_eq_true hroom.2.1⟩
  have hW8 : 2 * (F0 m pc L (As.reverse ++ st)).monitorRoom + (st.map fun v => v.category).sum ≤ 8 := lv_room (Nat.le_of_ble_eq_true hroom.2.2)
  have hlen : ∀ sig, parseMethodDescriptor M'.1.desc = some sig → j = sig.parameters.length := fun sig h => by
    have h2 := cl.2.2.2
    rw [h] at h2
    exact (Option.some.inj h2).symm
  have hpre : ∀ U : State, U.heap = H → s.WarmedH U.vm → va_Pc As (fun U => Rp G n μ U.heap ∧ KK G U) (As).toArray U := fun U hU hW => ⟨rfl, by rw [hU]; exact h3, hK.warm hW⟩
  have hbase : ∀ w ∈ wd M', ∀ (a' : Array Value) (U : State), s.WarmedH U.vm → w.before a' U = true := TT_pay hts (wd_in cl.1)
  exact v_callend (n' := n') (r := r) (μ' := μ') (va_runS ⟨hx, hb, hml, hown, hts⟩ C ⟨⟨rfl, rfl, hR.1, hR.2, hbase, List.mem_cons_self, hts _ cl.1, hts _ cl.2.1, cl.2.2.1, hlen, hts _ hl⟩, hts _ hs⟩ ⟨v_blind, hpre⟩ rfl hj (h5.1.trans hml) rfl hW8 hd ⟨by omega, by omega⟩) h1 h2 h4 h5 k
theorem v_callI {o : Nat} {f' w' mc ms n' idx j : Nat} {M' : MD} {As : List Value} {r : Option Value} {μ' : Mu} (g : GX X l0 G0 M f w) (hd : decode M.2.1 pc = .ok (.invokespecial idx, 3)) (C : Ctr l0 G0 f' w' mc ms M' (.ref o :: As) n μ r n' μ') (cl : CL M' j) (hl : Cond.methodLink M.1.cls idx M'.1 ∈ TT) (hs : Cond.instanceMethod M'.1 ∈ TT ∧ M'.1.name = "<init>" ∧ M'.2.2.2 = none) (hj : As.length = j) (hroom : Nat.ble (f' + 1) f = true ∧ Nat.ble (8 + (M'.2.2.1 + 11) + w') w = true ∧ Nat.ble (st.map fun v => v.category).sum 8 = true)
    (k : V X a b n' μ' (pc + 3) ls (r.toList ++ st)) : V X (a + mc) (b + ms) n μ pc ls (As.reverse ++ .ref o :: st) := by
  obtain ⟨p, l, e, R, s, m, args, below, meth, c, Z, G⟩ := X
  obtain ⟨rfl, rfl, hx, hb, hr, hml, hown, hts, hlk, hnm, hK, hB, hf, hw⟩ := g
  intro H locs cells slots L h1 h2 h3 h4 h5
  have hR : f' + 1 ≤ R.frames ∧ 8 + (M'.2.2.1 + 11) + w' ≤ R.locals := ⟨by rw [hf]; exact Nat.le_of_ble_eq_true hroom.1, by rw [hw]; exact Nat.le_of_ble_eq_true hroom.2.1⟩
  have hW8 : 2 * (F0 m pc L (As.reverse ++ .ref o :: st)).monitorRoom + (st.map fun v => v.category).sum ≤ 8 := lv_room (Nat.le_of_ble_eq_true hroom.2.2)
  have hlen : ∀ sig, parseMethodDescriptor M'.1.desc = some sig → j = sig.parameters.length := fun sig h => by
    have h2 := cl.2.2.2
    rw [h] at h2
    exact (Option.some.inj h2).symm
  have hpre : ∀ U : State, U.heap = H → s.WarmedH U.vm → va_Pc (.ref o :: As) (fun U => Rp G n μ U.heap ∧ KK G U) ((.ref o :: As)).toArray U := fun U hU hW => ⟨rfl, by rw [hU]; exact h3, hK.warm hW⟩
  have hbase : ∀ w ∈ wd M', ∀ (a' : Array Value) (U : State), s.WarmedH U.vm → w.before a' U = true := TT_pay hts (wd_in cl.1)
  obtain ⟨hs1, hs2, hs3⟩ := hs
  exact v_callend (n' := n') (r := r) (μ' := μ') (va_runI (bytes := M'.2.1) (maxL := M'.2.2.1) ⟨hx, hb, hml, hown, hts⟩ C ⟨hs3 ▸ ⟨rfl, rfl, hR.1, hR.2, hbase, List.mem_cons_self, hts _ cl.1, hts _ cl.2.1, cl.2.2.1, hlen, hts _ hl⟩, hs2, hts _ hs1⟩ ⟨v_blind, hpre⟩ rfl hj (h5.1.trans hml) rfl hW8 hd ⟨by omega, by omega⟩) h1 h2 h4 h5 k
theorem v_callSN {host : String} {f' w' mc ms n' idx j : Nat} {M' : MD} {As : List Value} {r : Option Value} {μ' : Mu} (g : GX X l0 G0 M f w) (hd : decode M.2.1 pc = .ok (.invokestatic idx, 3)) (C : Ctr l0 G0 f' w' mc ms M' As n μ r n' μ') (cl : CL M' j) (hl : (M.1.cls, idx, M'.1, host) ∈ nestW) (hs : Cond.static M'.1 ∈ TT) (hj : As.length = j) (hroom : Nat.ble (f' + 1) f = true ∧ Nat.ble (8 + (M'.2.2.1 + 11) + w') w = true ∧ Nat.ble (st.map fun v => v.category).sum 8 = true)
    (k : V X a b n' μ' (pc + 3) ls (r.toList ++ st)) : V X (a + mc) (b + ms) n μ pc ls (As.reverse ++ st) := by
  obtain ⟨p, l, e, R, s, m, args, below, meth, c, Z, G⟩ := X
  obtain ⟨rfl, rfl, hx, hb, hr, hml, hown, hts, hlk, hnm, hK, hB, hf, hw⟩ := g
  intro H locs cells slots L h1 h2 h3 h4 h5
  have hR : f' + 1 ≤ R.frames ∧ 8 + (M'.2.2.1 + 11) + w' ≤ R.locals := ⟨by rw [hf]; exact Nat.le_of_ble_eq_true hroom.1, by rw [hw]; exact Nat.le_of_ble_eq_true hroom.2.1⟩
  have hW8 : 2 * (F0 m pc L (As.reverse ++ st)).monitorRoom + (st.map fun v => v.category).sum ≤ 8 := lv_room (Nat.le_of_ble_eq_true hroom.2.2)
  have hlen : ∀ sig, parseMethodDescriptor M'.1.desc = some sig → j = sig.parameters.length := fun sig h => by
    have h2 := cl.2.2.2
    rw [h] at h2
    exact (Option.some.inj h2).symm
  have hpre : ∀ U : State, U.heap = H → s.WarmedH U.vm → va_Pc As (fun U => Rp G n μ U.heap ∧ KK G U) (As).toArray U := fun U hU hW => ⟨rfl, by rw [hU]; exact h3, hK.warm hW⟩
  have hbase : ∀ w ∈ wd M', ∀ (a' : Array Value) (U : State), s.WarmedH U.vm → w.before a' U = true := TT_pay hts (wd_in cl.1)
  exact v_callend (n' := n') (r := r) (μ' := μ') (va_runSN (host := host) ⟨hx, hb, hml, hown, hts⟩ C ⟨⟨⟨rfl, rfl, hR.1, hR.2, hbase, List.mem_cons_self⟩, hts _ cl.1, hts _ cl.2.1, cl.2.2.1, hlen, va_Nw.use rfl (hK.2.1 _ hl)⟩, hts _ hs, trivial⟩ ⟨v_blind, hpre⟩ rfl hj (h5.1.trans hml) rfl hW8 hd ⟨by omega, by omega⟩) h1 h2 h4 h5 k
theorem v_callIN {o : Nat} {host : String} {f' w' mc ms n' idx j : Nat} {M' : MD} {As : List Value} {r : Option Value} {μ' : Mu} (g : GX X l0 G0 M f w) (hd : decode M.2.1 pc = .ok (.invokespecial idx, 3)) (C : Ctr l0 G0 f' w' mc ms M' (.ref o :: As) n μ r n' μ') (cl : CL M' j) (hl : (M.1.cls, idx, M'.1, host) ∈ nestW) (hs : Cond.instanceMethod M'.1 ∈ TT ∧ M'.1.name = "<init>" ∧ M'.2.2.2 = none) (hj : As.length = j) (hroom : Nat.ble (f' + 1) f = true ∧ Nat.ble (8 + (M'.2.2.1 + 11) + w') w = true ∧ Nat.ble (st.map fun v => v.category).sum 8 = true)
    (k : V X a b n' μ' (pc + 3) ls (r.toList ++ st)) : V X (a + mc) (b + ms) n μ pc ls (As.reverse ++ .ref o :: st) := by
  obtain ⟨p, l, e, R, s, m, args, below, meth, c, Z, G⟩ := X
  obtain ⟨rfl, rfl, hx, hb, hr, hml, hown, hts, hlk, hnm, hK, hB, hf, hw⟩ := g
  intro H locs cells slots L h1 h2 h3 h4 h5
  have hR : f' + 1 ≤ R.frames ∧ 8 + (M'.2.2.1 + 11) + w' ≤ R.locals := ⟨by rw [hf]; exact Nat.le_of_ble_eq_true hroom.1, by rw [hw]; exact Nat.le_of_ble_eq_true hroom.2.1⟩
  have hW8 : 2 * (F0 m pc L (As.reverse ++ .ref o :: st)).monitorRoom + (st.map fun v => v.category).sum ≤ 8 := lv_room (Nat.le_of_ble_eq_true hroom.2.2)
  have hlen : ∀ sig, parseMethodDescriptor M'.1.desc = some sig → j = sig.parameters.length := fun sig h => by
    have h2 := cl.2.2.2
    rw [h] at h2
    exact (Option.some.inj h2).symm
  have hpre : ∀ U : State, U.heap = H → s.WarmedH U.vm → va_Pc (.ref o :: As) (fun U => Rp G n μ U.heap ∧ KK G U) ((.ref o :: As)).toArray U := fun U hU hW => ⟨rfl, by rw [hU]; exact h3, hK.warm hW⟩
  have hbase : ∀ w ∈ wd M', ∀ (a' : Array Value) (U : State), s.WarmedH U.vm → w.before a' U = true := TT_pay hts (wd_in cl.1)
  obtain ⟨hs1, hs2, hs3⟩ := hs
  exact v_callend (n' := n') (r := r) (μ' := μ') (va_runIN (host := host) (bytes := M'.2.1) (maxL := M'.2.2.1) ⟨hx, hb, hml, hown, hts⟩ C ⟨hs3 ▸ ⟨⟨rfl, rfl, hR.1, hR.2, hbase, List.mem_cons_self⟩, hts _ cl.1, hts _ cl.2.1, cl.2.2.1, hlen, va_Nw.use rfl (hK.2.1 _ hl)⟩, hs2, hts _ hs1⟩ ⟨v_blind, hpre⟩ rfl hj (h5.1.trans hml) rfl hW8 hd ⟨by omega, by omega⟩) h1 h2 h4 h5 k
theorem v_iret {v : Int32} {r : Option Value} {n' : Nat} {μ' : Mu} (g : GX X l0 G0 M f w) (E : EX X r n' μ') (hd : decode M.2.1 pc = .ok (.ireturn, 1)) (hret : M.2.2.2 = some .int) (hq : r = some (.int v) ∧ n' = n ∧ μ' = μ) : V X a b n μ pc ls [.int v] := by
  obtain ⟨p, l, e, R, s, m, args, below, meth, c, Z, G⟩ := X
  obtain ⟨rfl, rfl, hx, hb, hr, hml, hown, hts, hlk, hnm, hK, hB, hf, hw⟩ := g
  obtain ⟨rfl, rfl, rfl⟩ := hq
  intro H locs cells slots L h1 h2 h3 h4 h5
  obtain rfl : Z = _ := E
  refine W.widen (k := R.cells) (n := R.slots) (by omega) (by omega) ?_
  exact W.iret hx hb (hr.trans hret) (fun t ht hW => ⟨rfl, by rw [ht]; exact h3, h4.F ht⟩) h4.2.2 hd (hlocks := hlk)
theorem v_zret {v : Int32} {r : Option Value} {n' : Nat} {μ' : Mu} (g : GX X l0 G0 M f w) (E : EX X r n' μ') (hd : decode M.2.1 pc = .ok (.ireturn, 1)) (hret : M.2.2.2 = some .boolean) (hv : narrow .boolean (.int v) = .int v) (hq : r = some (.int v) ∧ n' = n ∧ μ' = μ) : V X a b n μ pc ls [.int v] := by
  obtain ⟨p, l, e, R, s, m, args, below, meth, c, Z, G⟩ := X
  obtain ⟨rfl, rfl, hx, hb, hr, hml, hown, hts, hlk, hnm, hK, hB, hf, hw⟩ := g
  obtain ⟨rfl, rfl, rfl⟩ := hq
  intro H locs cells slots L h1 h2 h3 h4 h5
  obtain rfl : Z = _ := E
  refine W.widen (k := R.cells) (n := R.slots) (by omega) (by omega) ?_
  exact W.zret hx hb (hr.trans hret) hv (fun t ht hW => ⟨rfl, by rw [ht]; exact h3, h4.F ht⟩) h4.2.2 hd (hlocks := hlk)
theorem v_lret {v : Int64} {r : Option Value} {n' : Nat} {μ' : Mu} (g : GX X l0 G0 M f w) (E : EX X r n' μ') (hd : decode M.2.1 pc = .ok (.lreturn, 1)) (hret : M.2.2.2 = some .long) (hq : r = some (.long v) ∧ n' = n ∧ μ' = μ) : V X a b n μ pc ls [.long v] := by
  obtain ⟨p, l, e, R, s, m, args, below, meth, c, Z, G⟩ := X
  obtain ⟨rfl, rfl, hx, hb, hr, hml, hown, hts, hlk, hnm, hK, hB, hf, hw⟩ := g
  obtain ⟨rfl, rfl, rfl⟩ := hq
  intro H locs cells slots L h1 h2 h3 h4 h5
  obtain rfl : Z = _ := E
  refine W.widen (k := R.cells) (n := R.slots) (by omega) (by omega) ?_
  exact W.lret hx hb (hr.trans hret) (fun t ht hW => ⟨rfl, by rw [ht]; exact h3, h4.F ht⟩) h4.2.2 hd (hlocks := hlk)
theorem v_vret {r : Option Value} {n' : Nat} {μ' : Mu} (g : GX X l0 G0 M f w) (E : EX X r n' μ') (hd : decode M.2.1 pc = .ok (.return_, 1)) (hret : M.2.2.2 = none) (hq : r = none ∧ n' = n ∧ μ' = μ) : V X a b n μ pc ls [] := by
  obtain ⟨p, l, e, R, s, m, args, below, meth, c, Z, G⟩ := X
  obtain ⟨rfl, rfl, hx, hb, hr, hml, hown, hts, hlk, hnm, hK, hB, hf, hw⟩ := g
  obtain ⟨rfl, rfl, rfl⟩ := hq
  intro H locs cells slots L h1 h2 h3 h4 h5
  obtain rfl : Z = _ := E
  refine W.widen (k := R.cells) (n := R.slots) (by omega) (by omega) ?_
  exact W.vret hx hb (hr.trans hret) (fun t ht hW => ⟨rfl, by rw [ht]; exact h3, h4.F ht⟩) h4.2.2 hd (hlocks := hlk)
theorem v_aret {o : Nat} {T : FieldType} {r : Option Value} {n' : Nat} {μ' : Mu} (g : GX X l0 G0 M f w) (E : EX X r n' μ') (hd : decode M.2.1 pc = .ok (.areturn, 1)) (hret : M.2.2.2 = some (.array T)) (hq : r = some (.ref o) ∧ n' = n ∧ μ' = μ) : V X a b n μ pc ls [.ref o] := by
  obtain ⟨p, l, e, R, s, m, args, below, meth, c, Z, G⟩ := X
  obtain ⟨rfl, rfl, hx, hb, hr, hml, hown, hts, hlk, hnm, hK, hB, hf, hw⟩ := g
  obtain ⟨rfl, rfl, rfl⟩ := hq
  intro H locs cells slots L h1 h2 h3 h4 h5
  obtain rfl : Z = _ := E
  refine W.widen (k := R.cells) (n := R.slots) (by omega) (by omega) ?_
  exact W.aret hx hb (hr.trans hret) (Or.inr ⟨_, rfl⟩) (Or.inr ⟨_, rfl⟩) (fun t ht hW => ⟨rfl, by rw [ht]; exact h3, h4.F ht⟩) h4.2.2 hd (hlocks := hlk)
end VL
