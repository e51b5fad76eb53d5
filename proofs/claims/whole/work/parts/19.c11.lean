/-! THE STRING CONSTANT: the text of the beginning, and what the JDK makes of it -/
def stxt : String := "l000100;l000100;l020110;l000000;l030000;o0,2,1;o18,23,2;o24,29,3;t0,1,3,7,6;t1,0,2,28,27,26;t3,2,5,5;"
def sbyt : List Int32 := [108, 48, 48, 48, 49, 48, 48, 59, 108, 48, 48, 48, 49, 48, 48, 59, 108, 48, 50, 48, 49, 49, 48, 59, 108, 48, 48, 48, 48, 48, 48, 59, 108, 48, 51, 48, 48, 48, 48, 59, 111, 48, 44, 50, 44, 49, 59, 111, 49, 56, 44, 50, 51, 44, 50, 59, 111, 50, 52, 44, 50, 57, 44, 51, 59, 116, 48, 44, 49, 44, 51, 44, 55, 44, 54, 59, 116, 49, 44, 48, 44, 50, 44, 50, 56, 44, 50, 55, 44, 50, 54, 59, 116, 51, 44, 50, 44, 53, 44, 53, 59]
def stx (j : Nat) : Int32 := sbyt.getD j 0
theorem stx_b : ∀ j, j < 101 → (((stx j) &&& 255).toUInt32 % 65536).toInt32 = stx j ∧ vp_nar .char (stx j) = stx j := by decide +kernel
/-- where the constant lies, and where its bytes lie -/
abbrev SG : Type := Nat × Nat
def AB (G : GG) : Nat → Prop := fun q => G.2.2 ≤ q
def SS (G : GG) (z : SG) (U : State) (H : Heap) : Prop := vk_R RX5 68 stxt z.1 U ∧ va_Z RJ0 "COMPACT_STRINGS" "Z" (.int 1) (AB G) U H ∧ va_O RJ0 z.1 (AB G) U H ∧ va_OF RJ0 "coder" "B" (.int 0) z.1 (AB G) U H ∧ va_OF RJ0 "value" "[B" (.ref z.2) z.1 (AB G) U H ∧ va_T .byte z.2 101 (fun j => .int (stx j)) (AB G) U H
theorem SS.kept {G : GG} {z : SG} {U : State} {H H1 : Heap} (h : SS G z U H) (hq : ∀ a : Nat, a < H.size → ¬ AB G a → H1[a]? = H[a]?) : SS G z U H1 := ⟨h.1, h.2.1.kept hq, h.2.2.1.kept hq, h.2.2.2.1.kept hq, h.2.2.2.2.1.kept hq, h.2.2.2.2.2.kept hq⟩
theorem SS.warm {G : GG} {z : SG} {s U : State} {H : Heap} (hW : s.WarmedH U.vm) (h : SS G z s H) : SS G z U H := ⟨h.1.warm hW, va_Z.moved hW.alike h.2.1, va_O.moved hW.alike h.2.2.1, va_OF.moved hW.alike h.2.2.2.1, va_OF.moved hW.alike h.2.2.2.2.1, va_T.moved hW.alike h.2.2.2.2.2⟩
theorem SS.same {G : GG} {z : SG} {s U : State} {H : Heap} (hv : s.vm = U.vm) (h : SS G z s H) : SS G z U H := by
  have ha : s.vm.Alike U.vm := by rw [hv]; exact Vm.Alike.refl _
  exact ⟨vk_R.same hv.symm h.1, va_Z.moved ha h.2.1, va_O.moved ha h.2.2.1, va_OF.moved ha h.2.2.2.1, va_OF.moved ha h.2.2.2.2.1, va_T.moved ha h.2.2.2.2.2⟩
/-- a contract of a method that may lean on the constant -/
def CtrS (l : Launch) (G : GG) (z : SG) (f w a b : Nat) (M : MD) (As : List Value) (n : Nat) (μ : Mu) (r : Option Value) (n' : Nat) (μ' : Mu) : Prop :=
  Met l M.1 (wd M) { frames := f, cells := a, slots := b, locals := w } (va_Pc As (fun U => Rp G n μ U.heap ∧ KK G U ∧ SS G z U U.heap)) (fun _ st o t => o = .returned r ∧ Rp G n' μ' t.heap ∧ va_F (fun q => G.2.2 ≤ q) st t) a b (fun q => G.2.2 ≤ q)
theorem v_blindS {G : GG} {z : SG} {n : Nat} {μ : Mu} {As : List Value} : FrameBlind (va_Pc As (fun U => Rp G n μ U.heap ∧ KK G U ∧ SS G z U U.heap)) := fun a U g mk h => ⟨h.1, h.2.1, KK.same rfl h.2.2.1, SS.same rfl h.2.2.2⟩
def SX (X : CX) (G0 : GG) (z : SG) : Prop := match X with
  | (_, _, _, _, s, _, _, _, _, _, _, _) => SS G0 z s s.heap
theorem CtrS.of {l : Launch} {G : GG} {z : SG} {f w a b : Nat} {M : MD} {As : List Value} {n n' : Nat} {μ μ' : Mu} {r : Option Value} (hy : plainName M.1.cls = true) (hn : Nat.ble (lg_sl As).length M.2.2.1 = true)
    (h : ∀ X : CX, GX X l G M f w → SX X G z → EX X r n' μ' → V X a b n μ 0 (lv_args 0 As) []) : CtrS l G z f w a b M As n μ r n' μ' := by
  refine Met.ofW (cc := M.2.1) (maxL := M.2.2.1) (ret := M.2.2.2) hy rfl ?_
  intro p e s m args below meth c s₁ B hml hv
  obtain ⟨rfl, hR, hK, hS⟩ := hv
  have hts := atoms_spec (ws := wd M) B.pre
  have k := h (p, l, e, { frames := f, cells := a, slots := b, locals := w }, s, m, As.toArray, below, meth, c, _, G)
    ⟨rfl, rfl, B.exec, B.bytes, B.returns, hml, findClass_of_methodNamed B.named, fun t ht => hts t (List.mem_cons_of_mem _ ht), B.notSynchronized, (name_of_methodNamed B.named B.method).1, hK, by rw [hR.1]; exact hR.2.1, rfl, rfl⟩ hS rfl
  rw [lg_entry_eq]
  exact k s.heap [] 0 0 _ (by simp) (by simp) hR va_S.rf (by rw [hml]; exact lv_entry As (Nat.le_of_ble_eq_true hn))
section VS
variable {X : CX} {l0 : Launch} {G0 : GG} {M : MD} {f w a b n : Nat} {μ : Mu} {pc : Nat} {ls : List (Nat × Value)} {st : List Value} {z : SG}
theorem v_callSS {f' w' mc ms n' idx j : Nat} {M' : MD} {As : List Value} {r : Option Value} {μ' : Mu} (g : GX X l0 G0 M f w) (hd : decode M.2.1 pc = .ok (.invokestatic idx, 3)) (S : SX X G0 z) (C : CtrS l0 G0 z f' w' mc ms M' As n μ r n' μ') (cl : CL M' j) (hl : Cond.methodLink M.1.cls idx M'.1 ∈ TT) (hs : Cond.static M'.1 ∈ TT) (hj : As.length = j) (hroom : Nat.ble (f' + 1) f = true ∧ Nat.ble (8 + (M'.2.2.1 + 11) + w') w = true ∧ Nat.ble (st.map fun v => v.category).sum 8 = true)
    (k : V X a b n' μ' (pc + 3) ls (r.toList ++ st)) : V X (a + mc) (b + ms) n μ pc ls (As.reverse ++ st) := by
  obtain ⟨p, l, e, R, s, m, args, below, meth, c, Z, G⟩ := X
  have hSS : SS G0 z s s.heap := S
  obtain ⟨rfl, rfl, hx, hb, hr, hml, hown, hts, hlk, hnm, hK, hB, hf, hw⟩ := g
  intro H locs cells slots L h1 h2 h3 h4 h5
  have hR : f' + 1 ≤ R.frames ∧ 8 + (M'.2.2.1 + 11) + w' ≤ R.locals := ⟨by rw [hf]; exact Nat.le_of_ble_eq_true hroom.1, by rw [hw]; exact Nat.le_of_ble_eq_true hroom.2.1⟩
  have hW8 : 2 * (F0 m pc L (As.reverse ++ st)).monitorRoom + (st.map fun v => v.category).sum ≤ 8 := lv_room (Nat.le_of_ble_eq_true hroom.2.2)
  have hlen : ∀ sig, parseMethodDescriptor M'.1.desc = some sig → j = sig.parameters.length := fun sig h => by
    have h2 := cl.2.2.2
    rw [h] at h2
    exact (Option.some.inj h2).symm
  have hpre : ∀ U : State, U.heap = H → s.WarmedH U.vm → va_Pc As (fun U => Rp G n μ U.heap ∧ KK G U ∧ SS G z U U.heap) (As).toArray U := fun U hU hW => ⟨rfl, by rw [hU]; exact h3, hK.warm hW, by rw [hU]; exact (hSS.kept (fun a ha hA => h4.2.1 a ha hA)).warm hW⟩
  have hbase : ∀ w ∈ wd M', ∀ (a' : Array Value) (U : State), s.WarmedH U.vm → w.before a' U = true := TT_pay hts (wd_in cl.1)
  exact v_callend (n' := n') (r := r) (μ' := μ') (va_runS ⟨hx, hb, hml, hown, hts⟩ C ⟨⟨rfl, rfl, hR.1, hR.2, hbase, List.mem_cons_self, hts _ cl.1, hts _ cl.2.1, cl.2.2.1, hlen, hts _ hl⟩, hts _ hs⟩ ⟨v_blindS, hpre⟩ rfl hj (h5.1.trans hml) rfl hW8 hd ⟨by omega, by omega⟩) h1 h2 h4 h5 k
theorem v_callIS {o : Nat} {f' w' mc ms n' idx j : Nat} {M' : MD} {As : List Value} {r : Option Value} {μ' : Mu} (g : GX X l0 G0 M f w) (hd : decode M.2.1 pc = .ok (.invokespecial idx, 3)) (S : SX X G0 z) (C : CtrS l0 G0 z f' w' mc ms M' (.ref o :: As) n μ r n' μ') (cl : CL M' j) (hl : Cond.methodLink M.1.cls idx M'.1 ∈ TT) (hs : Cond.instanceMethod M'.1 ∈ TT ∧ M'.1.name = "<init>" ∧ M'.2.2.2 = none) (hj : As.length = j) (hroom : Nat.ble (f' + 1) f = true ∧ Nat.ble (8 + (M'.2.2.1 + 11) + w') w = true ∧ Nat.ble (st.map fun v => v.category).sum 8 = true)
    (k : V X a b n' μ' (pc + 3) ls (r.toList ++ st)) : V X (a + mc) (b + ms) n μ pc ls (As.reverse ++ .ref o :: st) := by
  obtain ⟨p, l, e, R, s, m, args, below, meth, c, Z, G⟩ := X
  have hSS : SS G0 z s s.heap := S
  obtain ⟨rfl, rfl, hx, hb, hr, hml, hown, hts, hlk, hnm, hK, hB, hf, hw⟩ := g
  intro H locs cells slots L h1 h2 h3 h4 h5
  have hR : f' + 1 ≤ R.frames ∧ 8 + (M'.2.2.1 + 11) + w' ≤ R.locals := ⟨by rw [hf]; exact Nat.le_of_ble_eq_true hroom.1, by rw [hw]; exact Nat.le_of_ble_eq_true hroom.2.1⟩
  have hW8 : 2 * (F0 m pc L (As.reverse ++ .ref o :: st)).monitorRoom + (st.map fun v => v.category).sum ≤ 8 := lv_room (Nat.le_of_ble_eq_true hroom.2.2)
  have hlen : ∀ sig, parseMethodDescriptor M'.1.desc = some sig → j = sig.parameters.length := fun sig h => by
    have h2 := cl.2.2.2
    rw [h] at h2
    exact (Option.some.inj h2).symm
  have hpre : ∀ U : State, U.heap = H → s.WarmedH U.vm → va_Pc (.ref o :: As) (fun U => Rp G n μ U.heap ∧ KK G U ∧ SS G z U U.heap) ((.ref o :: As)).toArray U := fun U hU hW => ⟨rfl, by rw [hU]; exact h3, hK.warm hW, by rw [hU]; exact (hSS.kept (fun a ha hA => h4.2.1 a ha hA)).warm hW⟩
  have hbase : ∀ w ∈ wd M', ∀ (a' : Array Value) (U : State), s.WarmedH U.vm → w.before a' U = true := TT_pay hts (wd_in cl.1)
  obtain ⟨hs1, hs2, hs3⟩ := hs
  exact v_callend (n' := n') (r := r) (μ' := μ') (va_runI (bytes := M'.2.1) (maxL := M'.2.2.1) ⟨hx, hb, hml, hown, hts⟩ C ⟨hs3 ▸ ⟨rfl, rfl, hR.1, hR.2, hbase, List.mem_cons_self, hts _ cl.1, hts _ cl.2.1, cl.2.2.1, hlen, hts _ hl⟩, hs2, hts _ hs1⟩ ⟨v_blindS, hpre⟩ rfl hj (h5.1.trans hml) rfl hW8 hd ⟨by omega, by omega⟩) h1 h2 h4 h5 k
theorem v_callVS {f' w' mc ms n' idx j : Nat} {M' : MD} {As : List Value} {r : Option Value} {μ' : Mu} (g : GX X l0 G0 M f w) (hd : decode M.2.1 pc = .ok (.invokevirtual idx, 3)) (S : SX X G0 z) (C : CtrS l0 G0 z f' w' mc ms M' (.ref z.1 :: As) n μ r n' μ') (cl : CL M' j) (hl : Cond.methodLink M.1.cls idx M'.1 ∈ TT) (hs : Cond.instanceMethod M'.1 ∈ TT ∧ Cond.selects RJ0 M'.1 M'.1 ∈ TT) (hj : As.length = j) (hroom : Nat.ble (f' + 1) f = true ∧ Nat.ble (8 + (M'.2.2.1 + 11) + w') w = true ∧ Nat.ble (st.map fun v => v.category).sum 8 = true)
    (k : V X a b n' μ' (pc + 3) ls (r.toList ++ st)) : V X (a + mc) (b + ms) n μ pc ls (As.reverse ++ .ref z.1 :: st) := by
  obtain ⟨p, l, e, R, s, m, args, below, meth, c, Z, G⟩ := X
  have hSS : SS G0 z s s.heap := S
  obtain ⟨rfl, rfl, hx, hb, hr, hml, hown, hts, hlk, hnm, hK, hB, hf, hw⟩ := g
  intro H locs cells slots L h1 h2 h3 h4 h5
  have hR : f' + 1 ≤ R.frames ∧ 8 + (M'.2.2.1 + 11) + w' ≤ R.locals := ⟨by rw [hf]; exact Nat.le_of_ble_eq_true hroom.1, by rw [hw]; exact Nat.le_of_ble_eq_true hroom.2.1⟩
  have hW8 : 2 * (F0 m pc L (As.reverse ++ .ref z.1 :: st)).monitorRoom + (st.map fun v => v.category).sum ≤ 8 := lv_room (Nat.le_of_ble_eq_true hroom.2.2)
  have hlen : ∀ sig, parseMethodDescriptor M'.1.desc = some sig → j = sig.parameters.length := fun sig h => by
    have h2 := cl.2.2.2
    rw [h] at h2
    exact (Option.some.inj h2).symm
  have hpre : ∀ U : State, U.heap = H → s.WarmedH U.vm → va_Pc (.ref z.1 :: As) (fun U => Rp G n μ U.heap ∧ KK G U ∧ SS G z U U.heap) ((.ref z.1 :: As)).toArray U := fun U hU hW => ⟨rfl, by rw [hU]; exact h3, hK.warm hW, by rw [hU]; exact (hSS.kept (fun a ha hA => h4.2.1 a ha hA)).warm hW⟩
  have hbase : ∀ w ∈ wd M', ∀ (a' : Array Value) (U : State), s.WarmedH U.vm → w.before a' U = true := TT_pay hts (wd_in cl.1)
  have hrecv : ∃ cell : Cell, H[z.1]? = some cell ∧ cell.vm.isStatics = false ∧ s.vm.findClass RJ0 = some cell.cls := by
    obtain ⟨cell, q1, q2, q3, -⟩ := (hSS.kept (fun a ha hA => h4.2.1 a ha hA)).2.2.1
    exact ⟨cell, q1, q2, q3⟩
  exact v_callend (n' := n') (r := r) (μ' := μ') (va_runV (C := RJ0) ⟨hx, hb, hml, hown, hts⟩ C ⟨⟨rfl, rfl, hR.1, hR.2, hbase, List.mem_cons_self, hts _ cl.1, hts _ cl.2.1, cl.2.2.1, hlen, hts _ hl⟩, hts _ hs.1, hts _ hs.2⟩ ⟨v_blindS, hrecv, hpre⟩ rfl hj (h5.1.trans hml) rfl hW8 hd ⟨by omega, by omega⟩) h1 h2 h4 h5 k
theorem fls_38 : Cond.fieldLink RJ0 38 RJ0 "COMPACT_STRINGS" "Z" ∈ TT := tt_at (i := 243) (by decide +kernel) rfl
theorem fls_15 : Cond.fieldLink RJ0 15 RJ0 "coder" "B" ∈ TT := tt_at (i := 1018) (by decide +kernel) rfl
theorem fls_9 : Cond.fieldLink RJ0 9 RJ0 "value" "[B" ∈ TT := tt_at (i := 1019) (by decide +kernel) rfl
theorem v_ldcS (g : GX X l0 G0 M f w) (S : SX X G0 z) (hd : decode M.2.1 pc = .ok (.ldc 68, 2)) (ho : M.1.cls = RX5) (k : V X a b n μ (pc + 2) ls (.ref z.1 :: st)) : V X a b n μ pc ls st := by
  obtain ⟨p, l, e, R, s, m, args, below, meth, c, Z, G⟩ := X
  have hSS : SS G0 z s s.heap := S
  obtain ⟨rfl, rfl, hx, hb, hr, hml, hown, hts, hlk, hnm, hK, hB, hf, hw⟩ := g
  intro H locs cells slots L h1 h2 h3 h4 h5
  exact va_ldcS hx hb (own := RX5) (tx := stxt) (by rw [← ho]; exact hown) hSS.1 hd (k H locs cells slots L h1 h2 h3 h4 h5)
theorem v_gets38 (g : GX X l0 G0 M f w) (S : SX X G0 z) (hd : decode M.2.1 pc = .ok (.getstatic 38, 3)) (ho : M.1.cls = RJ0) (k : V X a b n μ (pc + 3) ls (.int 1 :: st)) : V X a b n μ pc ls st := by
  obtain ⟨p, l, e, R, s, m, args, below, meth, c, Z, G⟩ := X
  have hSS : SS G0 z s s.heap := S
  obtain ⟨rfl, rfl, hx, hb, hr, hml, hown, hts, hlk, hnm, hK, hB, hf, hw⟩ := g
  intro H locs cells slots L h1 h2 h3 h4 h5
  exact va_gets hx hb hSS.2.1 h4 (own := RJ0) (by rw [← ho]; exact hown) (hts _ fls_38) (fun _ h => h) hd (k H locs cells slots L h1 h2 h3 h4 h5)
theorem v_coder (g : GX X l0 G0 M f w) (S : SX X G0 z) (hd : decode M.2.1 pc = .ok (.getfield 15, 3)) (ho : M.1.cls = RJ0) (k : V X a b n μ (pc + 3) ls (.int 0 :: st)) : V X a b n μ pc ls (.ref z.1 :: st) := by
  obtain ⟨p, l, e, R, s, m, args, below, meth, c, Z, G⟩ := X
  have hSS : SS G0 z s s.heap := S
  obtain ⟨rfl, rfl, hx, hb, hr, hml, hown, hts, hlk, hnm, hK, hB, hf, hw⟩ := g
  intro H locs cells slots L h1 h2 h3 h4 h5
  exact vk_getf hx hb hSS.2.2.2.1 h4 (own := RJ0) (by rw [← ho]; exact hown) (hts _ fls_15) (fun _ h => h) hd (k H locs cells slots L h1 h2 h3 h4 h5)
theorem v_value (g : GX X l0 G0 M f w) (S : SX X G0 z) (hd : decode M.2.1 pc = .ok (.getfield 9, 3)) (ho : M.1.cls = RJ0) (k : V X a b n μ (pc + 3) ls (.ref z.2 :: st)) : V X a b n μ pc ls (.ref z.1 :: st) := by
  obtain ⟨p, l, e, R, s, m, args, below, meth, c, Z, G⟩ := X
  have hSS : SS G0 z s s.heap := S
  obtain ⟨rfl, rfl, hx, hb, hr, hml, hown, hts, hlk, hnm, hK, hB, hf, hw⟩ := g
  intro H locs cells slots L h1 h2 h3 h4 h5
  exact vk_getf hx hb hSS.2.2.2.2.1 h4 (own := RJ0) (by rw [← ho]; exact hown) (hts _ fls_9) (fun _ h => h) hd (k H locs cells slots L h1 h2 h3 h4 h5)
theorem v_slen (g : GX X l0 G0 M f w) (S : SX X G0 z) (hd : decode M.2.1 pc = .ok (.arraylength, 1)) (k : V X a b n μ (pc + 1) ls (.int 101 :: st)) : V X a b n μ pc ls (.ref z.2 :: st) := by
  obtain ⟨p, l, e, R, s, m, args, below, meth, c, Z, G⟩ := X
  have hSS : SS G0 z s s.heap := S
  obtain ⟨rfl, rfl, hx, hb, hr, hml, hown, hts, hlk, hnm, hK, hB, hf, hw⟩ := g
  intro H locs cells slots L h1 h2 h3 h4 h5
  exact va_tlen hx hb hSS.2.2.2.2.2 h4 (v := 101) rfl hd (k H locs cells slots L h1 h2 h3 h4 h5)
theorem v_sbyte {i : Int32} (g : GX X l0 G0 M f w) (S : SX X G0 z) (hin : vp_in i 101) (hd : decode M.2.1 pc = .ok (.baload, 1)) (k : V X a b n μ (pc + 1) ls (.int (stx i.toNatClampNeg) :: st)) : V X a b n μ pc ls (.int i :: .ref z.2 :: st) := by
  obtain ⟨p, l, e, R, s, m, args, below, meth, c, Z, G⟩ := X
  have hSS : SS G0 z s s.heap := S
  obtain ⟨rfl, rfl, hx, hb, hr, hml, hown, hts, hlk, hnm, hK, hB, hf, hw⟩ := g
  intro H locs cells slots L h1 h2 h3 h4 h5
  exact va_tb hx hb hSS.2.2.2.2.2 h4 hin rfl hd (k H locs cells slots L h1 h2 h3 h4 h5)
end VS
