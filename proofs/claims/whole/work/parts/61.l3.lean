/-! THE LAW: from its entry -/
theorem lb_at {i : Nat} {u : Cond} (h : lw_tbl[i]? = some u) : u ∈ lw_tbl := List.mem_of_getElem? h
theorem sc_el : ∀ j, j < 101 → (flatC (Jvm.Cond.and given_1 narrow_1))[13 + j]? = some (Cond.eq (.elem (.field (.string "WalkingOrchard" 68) "java/lang/String" "value" "[B") (.int (Int32.ofNat j))) (.int (sbyt.getD j 0))) := by decide +kernel
theorem law_arr {s : State} {ty : FieldType} {args : Array Value} (h : (Cond.arrayClass ty).before args s = true) (hp : ∀ (c : ClassId), s.vm.findClass ("[" ++ ty.toString) = some c → va_RA s c ty) (hr : refKind ty = false) : ∃ cA : ClassId, ArrOfT s cA ty ∧ va_RA s cA ty := by
  obtain ⟨cA, kA, comp, h1, h2, h3⟩ := Cond.arrayClass_spec h
  exact ⟨cA, fun n z => ⟨fun k h => (by cases h), kA, h2, comp, h3⟩, hp cA h1⟩
theorem law_obj {s : State} {C : String} (h : va_AO C s) : ∃ cA : ClassId, ArrOfT s cA (.object C) ∧ va_RA s cA (.object C) := by
  obtain ⟨comp, cA, kA, h1, h2, h3, h4, h5⟩ := Cond.arrayOver_spec (va_AO.use h (A := #[]))
  exact ⟨cA, fun n z => ⟨fun k h => (by cases h), kA, h3, comp, h4⟩, kA, comp, h3, h4, h1, h5⟩
theorem law_world {p : Program} {s : State} {m : MethodId} {meth : Method} {c : Code} {b L : Nat} {xs : Nat → Int32} (C0 : lw_At p s m meth c b L xs) : ∃ (G : GG) (z : SG), G.2.2 = s.heap.size ∧ KK G s ∧ SS G z s s.heap := by
  obtain ⟨hx, hb, hr, hml, hown, hts, hX, hbl, hlocks, hgv⟩ := C0
  have hs := flat_of_before _ hgv
  obtain ⟨c0, i0, k0⟩ := u_known (C := RX0) (T := TX0) (N := 6) (n := 6) hts (fun w hw => TT_tbl w (uw_X0 w hw)) (hts _ (TT_tbl _ it_RX0))
  obtain ⟨c1, i1, k1⟩ := u_known (C := RX1) (T := TX1) (N := 9) (n := 9) hts (fun w hw => TT_tbl w (uw_X1 w hw)) (hts _ (TT_tbl _ it_RX1))
  obtain ⟨c2, i2, k2⟩ := u_known (C := RX2) (T := TX2) (N := 2) (n := 2) hts (fun w hw => TT_tbl w (uw_X2 w hw)) (hts _ (TT_tbl _ it_RX2))
  obtain ⟨c3, i3, k3⟩ := u_known (C := RX3) (T := TX3) (N := 7) (n := 7) hts (fun w hw => TT_tbl w (uw_X3 w hw)) (hts _ (TT_tbl _ it_RX3))
  obtain ⟨c4, i4, k4⟩ := u_known (C := RX4) (T := TX4) (N := 5) (n := 5) hts (fun w hw => TT_tbl w (uw_X4 w hw)) (hts _ (TT_tbl _ it_RX4))
  obtain ⟨c5, i5, k5⟩ := u_known (C := RX5) (T := TX5) (N := 14) (n := 14) hts (fun w hw => TT_tbl w (uw_X5 w hw)) (hts _ (TT_tbl _ it_RX5))
  obtain ⟨c6, i6, k6⟩ := u_known (C := RX6) (T := TX6) (N := 14) (n := 14) hts (fun w hw => TT_tbl w (uw_X6 w hw)) (hts _ (TT_tbl _ it_RX6))
  have o4 : va_AO RX4 s := va_AO.of (hts (Cond.arrayOver (.object RX4)) (lb_at (i := 109) (by decide +kernel)))
  have o1 : va_AO RX1 s := va_AO.of (hts (Cond.arrayOver (.object RX1)) (lb_at (i := 224) (by decide +kernel)))
  obtain ⟨a0, g0⟩ := law_arr (ty := .int) (hts _ (TT_tbl _ ac_int)) (fun _ h => h) rfl
  obtain ⟨a1, g1⟩ := law_arr (ty := .long) (hts _ (TT_tbl _ ac_long)) (fun _ h => h) rfl
  obtain ⟨a2, g2⟩ := law_arr (ty := .char) (hts _ (TT_tbl _ ac_char)) (fun _ h => h) rfl
  obtain ⟨a5, g5⟩ := law_arr (ty := .byte) (hts _ (TT_tbl _ ac_byte)) (fun _ h => h) rfl
  obtain ⟨a3, g3⟩ := law_obj o4
  obtain ⟨a4, g4⟩ := law_obj o1
  have hA : ∀ q : Nat, q < s.heap.size → ¬ (fun q : Nat => s.heap.size ≤ q) q := fun q h => Nat.not_le.mpr h
  have one : ∀ i, i < 1 → i = 0 := fun i h => by omega
  obtain ⟨adK, adV, ⟨hS, -⟩, he⟩ := vk_Sof (args := #[Value.ref b]) (s := s) (N := 1) (tm := fun _ => .string "WalkingOrchard" 68) (len := [101]) (byt := [sbyt]) (A := fun q : Nat => s.heap.size ≤ q)
    (fun i h => by rw [one i h]; decide) (fun i h => hs _ (List.mem_of_getElem? (i := 9) (by decide +kernel))) (fun i h => hs _ (List.mem_of_getElem? (i := 10) (by decide +kernel)))
    (fun i h => hs _ (List.mem_of_getElem? (i := 11) (by decide +kernel))) (fun i h => by rw [one i h]; exact hs _ (List.mem_of_getElem? (i := 12) (by decide +kernel)))
    (fun i h j hj => by rw [one i h] at hj ⊢; exact hs _ (List.mem_of_getElem? (sc_el j hj))) (fun i j hi hj hij => absurd ((one i hi).trans (one j hj).symm) hij) hA
  obtain ⟨h1, h2, h3, h4⟩ := hS 0 (by omega)
  refine ⟨((fun k => if k = 0 then c0 else if k = 1 then c1 else if k = 2 then c2 else if k = 3 then c3 else if k = 4 then c4 else if k = 5 then c5 else c6, fun k => if k = 0 then i0 else if k = 1 then i1 else if k = 2 then i2 else if k = 3 then i3 else if k = 4 then i4 else if k = 5 then i5 else i6), (fun k => if k = 0 then a0 else if k = 1 then a1 else if k = 2 then a2 else if k = 3 then a3 else if k = 4 then a4 else a5), s.heap.size), (adK 0, adV 0), rfl, ⟨⟨fun k q hq => ?_, fun k q hq => ?_⟩, fun q hq => ?_, o4, o1⟩, ⟨vk_R.of (A := #[]) ?_ ?_, ?_, h1, h2, h3, h4⟩⟩
  · match k, hq with
    | 0, hq => cases hq; exact k0
    | 1, hq => cases hq; exact k1
    | 2, hq => cases hq; exact k2
    | 3, hq => cases hq; exact k3
    | 4, hq => cases hq; exact k4
    | 5, hq => cases hq; exact k5
    | 6, hq => cases hq; exact k6
    | k + 7, hq => cases hq
  · match k, hq with
    | 0, hq => cases hq; exact g0
    | 1, hq => cases hq; exact g1
    | 2, hq => cases hq; exact g2
    | 3, hq => cases hq; exact g3
    | 4, hq => cases hq; exact g4
    | 5, hq => cases hq; exact g5
    | k + 6, hq => cases hq
  · obtain ⟨k, hk⟩ := List.getElem?_of_mem hq
    match k, hk with
    | 0, hk => cases hk; exact va_Nw.of rfl (hts _ (lb_at (i := 67) (by decide +kernel)))
    | 1, hk => cases hk; exact va_Nw.of rfl (hts _ (lb_at (i := 111) (by decide +kernel)))
    | 2, hk => cases hk; exact va_Nw.of rfl (hts _ (lb_at (i := 185) (by decide +kernel)))
    | 3, hk => cases hk; exact va_Nw.of rfl (hts _ (lb_at (i := 190) (by decide +kernel)))
    | 4, hk => cases hk; exact va_Nw.of rfl (hts _ (lb_at (i := 311) (by decide +kernel)))
    | 5, hk => cases hk; exact va_Nw.of rfl (hts _ (lb_at (i := 343) (by decide +kernel)))
    | 6, hk => cases hk; exact va_Nw.of rfl (hts _ (lb_at (i := 358) (by decide +kernel)))
    | 7, hk => cases hk; exact va_Nw.of rfl (hts _ (lb_at (i := 458) (by decide +kernel)))
    | 8, hk => cases hk; exact va_Nw.of rfl (hts _ (lb_at (i := 463) (by decide +kernel)))
    | 9, hk => cases hk; exact va_Nw.of rfl (hts _ (lb_at (i := 526) (by decide +kernel)))
    | k + 10, hk => cases hk
  · exact hts (Cond.stringRef RX5 68 stxt) (lb_at (i := 234) (by decide +kernel))
  · exact he 0 (by omega)
  · exact va_Zof (args := #[Value.ref b]) (hts _ (lb_at (i := 244) (by decide +kernel))) (hts _ (lb_at (i := 50) (by decide +kernel))) (va_eqt (hs _ (List.mem_of_getElem? (i := 4) (by decide +kernel)))) hA
theorem ren_mset (B : Nat) (C : CS) (ρ : Mu) (e : Ce) : ren B C (mset ρ B e) = ren B C ρ := by
  funext q
  unfold ren mset
  by_cases h : B ≤ q ∧ q < B + 136
  · rw [if_pos h, if_pos h]
  · rw [if_neg h, if_neg h, if_neg (by omega)]
theorem rem_mset (R : Nat) (D : MS) (ρ : Mu) (e : Ce) : rem R D (mset ρ R e) = rem R D ρ := by
  funext q
  unfold rem mset
  by_cases h : q = R
  · rw [if_pos h, if_pos h]
  · rw [if_neg h, if_neg h, if_neg h]
theorem law_V {X : CX} {l0 : Launch} {G0 : GG} {n bb L : Nat} {xs : Nat → Int32} {nm : String} {z : SG} (g : GX X l0 G0 (mL_law nm) 9 366) (x : LX X bb L xs) (S : SX X G0 z) (hL : L ≤ 384) : V X (0 + 9 + 1 + 135 + 1) (0 + 1147 + 14 + 1028 + 14) n (fun _ => none) 0 [(0, .ref bb)] [] := by
  refine v_new (ci := 5) (C := RX5) (T := TX5) (fs := [.null, .int 0, .null, .null, .null, .null, .null, .null, .null, .null, .null, .int 0, .null, .null]) (a := 0 + 9 + 1 + 135) (b := 0 + 1147 + 14 + 1028) (N := 14) g tyX5 dL_law_0 rfl uw_X5 tyX5_ok ⟨kc_RL_7, it_RX5, ini_RX5⟩ dfX5 ?_
  refine v_dup g dL_law_3 rfl ?_
  refine v_callIS (o := n) (As := []) (r := none) (a := 0 + 9 + 1) (b := 0 + 1147 + 14) g dL_law_4 S (k_X5_init (mset_self _ _ _)) cl_X5_init ml_RL_9 ii_X5_init rfl ⟨rfl, rfl, rfl⟩ ?_
  refine v_meq (ren_mset _ _ _ _) ?_
  refine v_astore_n (ls' := [(1, .ref n), (0, .ref bb)]) g dL_law_7 rfl rfl ?_
  refine v_new (ci := 6) (C := RX6) (T := TX6) (fs := [.null, .int 0, .null, .null, .null, .null, .null, .int 0, .null, .int 0, .null, .int 0, .int 0, .null]) (a := 0 + 9) (b := 0 + 1147) (N := 14) g tyX6 dL_law_8 rfl uw_X6 tyX6_ok ⟨kc_RL_10, it_RX6, ini_RX6⟩ dfX6 ?_
  refine v_dup g dL_law_11 rfl ?_
  refine v_callI (o := n + 136) (As := []) (r := none) (a := 0) (b := 0) g dL_law_12 (k_X6_init (mset_self _ _ _)) cl_X6_init ml_RL_12 ii_X6_init rfl ⟨rfl, rfl, rfl⟩ ?_
  refine v_meq ((rem_mset _ _ _ _).trans (swapM n begC begM (fun _ => none)).symm) ?_
  refine v_astore_n (ls' := [(2, .ref (n + 136)), (1, .ref n), (0, .ref bb)]) g dL_law_15 rfl rfl ?_
  refine v_iconst (v := nI (6 * 0)) g dL_law_16 (by decide) ?_
  refine v_istore_n (ls' := [(3, .int (nI (6 * 0))), (2, .ref (n + 136)), (1, .ref n), (0, .ref bb)]) g dL_law_17 rfl rfl ?_
  exact law_loop g x hL 65 0 begC begM (by omega) (by omega) start_Inv
/-- YOUR PART: from the entry, for every script of at most 384 ints, the law comes to its end with true ('hflags': the launch's flags, for a law that throws: no stack traces) -/
theorem whole_start {p : Program} {e : Env} {s : State} {m : MethodId} {below : List Frame} {meth : Method} {c : Code} (l : Launch) (hflags : l.flags = flags0) {b L : Nat} {xs : Nat → Int32} (hL : L ≤ 384) (C0 : lw_At p s m meth c b L xs) : W p l e room_1 s m #[Value.ref b] below meth c s.heap [] 0 0 (lw_Z below #[Value.ref b] s) (entryFrame m ([Value.ref b] : List Value).toArray 4) := by
  obtain ⟨G, z, hG, hK, hS⟩ := law_world C0
  obtain ⟨hx, hb, hr, hml, hown, hts, hX, hbl, hlocks, hgv⟩ := id C0
  have g : GX (p, l, e, room_1, s, m, #[Value.ref b], below, meth, c, lw_Z below #[Value.ref b] s, G) l G (mL_law meth.name) 9 366 := ⟨rfl, rfl, hx, hb, hr, hml, hown, fun t ht => hts t (TT_tbl t ht), hlocks, rfl, hK, Nat.le_of_eq hG, rfl, rfl⟩
  have x : LX (p, l, e, room_1, s, m, #[Value.ref b], below, meth, c, lw_Z below #[Value.ref b] s, G) b L xs := ⟨hX, hbl, hG, rfl, rfl, rfl⟩
  have k := law_V (n := G.2.2) g x hS hL
  rw [lg_entry_eq]
  exact k s.heap [] 0 0 _ (Nat.le_of_ble_eq_true rfl) (Nat.le_of_ble_eq_true rfl) ⟨hG.symm, Nat.le_refl _, [], fun k q h => (by cases h), ⟨fun i j p q h => (by cases h), fun k q h => (by cases h)⟩, fun a e h => (by cases h)⟩ va_S.rf (by rw [hml]; exact lv_entry [.ref b] (Nat.le_of_ble_eq_true rfl))
set_option maxHeartbeats 4000000 in
theorem lw_walk (l : Launch) (hflags : l.flags = flags0) (b : Addr) (xs : List Int32) : MetFree l x (headSpec (Jvm.Cond.code x code maxLocals ret :: tables_1) room_1) (lw_P b xs) (fun _ _ _ _ _ => True) lw_Q := by
  refine MetFree.of_bodyS (code := code) (maxLocals := maxLocals) (ret := ret) (by decide) ?_ ?_
  · intro args s m h hn
    obtain ⟨meth, c, h1, h2, h3, h4, h5, h6, -, -⟩ := Cond.code_spec hn (atoms_spec (ws := Jvm.Cond.code x code maxLocals ret :: tables_1) h _ List.mem_cons_self)
    exact ⟨meth, c, h1, h2, h3, h4, h5, h6⟩
  · intro p e s m args below meth c s₁ B hml0 hP _
    obtain ⟨rfl, hx, hbd, hgv⟩ := hP
    obtain ⟨scr, harrAt, hlist, hof, hsmall⟩ := hx
    obtain ⟨hcb, hkn, -, -⟩ := State.arrayAt?_spec harrAt
    have hown : s.vm.findClass R_law = some m.cls := findClass_of_methodNamed B.named
    have hts0 : ∀ c ∈ (Jvm.Cond.code x code maxLocals ret :: tables_1), c.before #[Value.ref b] s = true := atoms_spec (ws := Jvm.Cond.code x code maxLocals ret :: tables_1) B.pre
    have hts : ∀ w ∈ lw_tbl, w.before #[Value.ref b] s = true := k2_hts_sels lw_privs (fun w hw => hts0 w (List.mem_cons_of_mem _ hw)) lw_privs_ok
    have hml : c.maxLocals = 4 := B.maxLocals_eq (hts0 _ List.mem_cons_self)
    have X₀ : Stand p l e room_1 s m #[Value.ref b] below meth c s₁ [] 0 0 := Stand.of_body B
    have hh0 : s₁.heap = s.heap := by rw [B.state]; rfl
    have hsz : scr.slots.size = xs.length := by rw [← Array.length_toList, hlist, List.length_map]
    have hval : ∀ j : Nat, j < xs.length → scr.slots[j]? = some (.int (xs.getD j 0)) := fun j hj => by
      rw [← Array.getElem?_toList, hlist]
      simp [hj]
    have hbl : b < s.heap.size := (Array.getElem?_eq_some_iff.mp hcb).1
    have hX : va_X b xs.length (fun j => xs.getD j 0) s s.heap := ⟨scr, hcb, hof, hkn, hsz, hval⟩
    have K : W p l e room_1 s m #[Value.ref b] below meth c s₁.heap [] 0 0 (lw_Z below #[Value.ref b] s) (entryFrame m ([Value.ref b] : List Value).toArray 4) := by
      rw [hh0]
      exact whole_start l hflags hbd ⟨B.exec, B.bytes, B.returns, hml, hown, hts, hX, hbl, B.notSynchronized, hgv⟩
    obtain ⟨t, a1, o, b1, b2, b3⟩ := K s₁ rfl X₀
    exact ⟨t, o, a1, b1, b2, b3⟩
theorem lw_pre_spec {args : Array Value} {s : State} (h : (Jvm.Cond.and given_1 narrow_1).before args s = true) (hr : rest_1_c.before args s = true) : ∃ (b : Addr) (xs : List Int32), lw_P b xs args s := by
  have hs := flat_of_before _ h
  have hq := flat_of_before _ hr
  have hc : (Cond.count 1).before args s = true := hs _ (by decide +kernel)
  have harr : (Cond.arrayOf (.arg 0) .int).before args s = true := hs _ (by decide +kernel)
  have hle : (Cond.le (.length (.arg 0)) (.int 384)).before args s = true := hs _ (by decide +kernel)
  have hlen : (Cond.isInt (.length (.arg 0))).before args s = true := hq _ (by decide +kernel)
  have hall : (Cond.all (.arg 0) (.isInt (.elem (.arg 0) (.index 0)))).before args s = true := hq _ (by decide +kernel)
  obtain ⟨b, xs, hb, hx⟩ := State.ints_of_pre rfl harr hlen hall
  have hsm : xs.length < 2 ^ 31 := hx.choose_spec.2.2.2
  have hev : (Term.length (.arg 0)).eval args s none [] s = some (.int xs.length.toInt32) := hx.length_eval hb
  have hv := Cond.le_ints hev (show (Term.int 384).eval args s none [] s = some (.int 384) from rfl)
  have hd : xs.length.toInt32 ≤ 384 := by
    simpa [Cond.before, Cond.holds, hv] using hle
  have hN : xs.length ≤ 384 := (Int32.ofNat_le_ofNat hsm (by decide)).mp (show Int32.ofNat xs.length ≤ Int32.ofNat 384 from hd)
  exact ⟨b, xs, Cond.one_arg hc (show args[0]? = some (.ref b) from hb), hx, hN, h⟩
theorem lw_comes (l : Launch) (hflags : l.flags = flags0) : Comes l x (Jvm.Cond.code x code maxLocals ret :: tables_1) room_1 (fun tb e args s => Calls_1 tb e args s ∧ rest_1 tb e args s ∧ Pre_1 tb e args s)
    (fun _ _ args s o t => lw_Q args s o t) := by
  intro p e ha hc hk s m args below hf hfit hheap happ hpre
  obtain ⟨b, xs, hP⟩ := lw_pre_spec hpre.2.2 hpre.2.1
  obtain ⟨k, o, h1, h2, h3, hQ⟩ := lw_walk l hflags b xs p e ha hc hk s m args below hf ((Spec.applies_iff_loose hf).mp happ).1 hP trivial
  exact ⟨k, o, h1, h2, h3, hQ⟩
theorem lw_frame {s t : State} {o : Outcome} {args : Array Value} (h : Framed s o t [] 600000 7302250) :
    Framed s o t (fieldLocs frame_1_writes args s ++ arrayLocs frame_1_arrays args s ++ staticLocs frame_1_statics s) 600000 7302250 := h
theorem lw_limb (L : Cond) (hL : ∀ (args : Array Value) (s t : State), L.after args s (.returned (some (.int 1))) t = true) :
    ArmFor flags0 classFile x code maxLocals ret World_1 tables_1 room_1 Calls_1 rest_1 Pre_1
      (fun tb e a s o t => postC L tb e a s o t ∧ Framed s o t (fieldLocs frame_1_writes a s ++ arrayLocs frame_1_arrays a s ++ staticLocs frame_1_statics s) 600000 7302250) := by
  intro l hflags _ _ p e ha hc hk s m args below hf hfit hheap happ hpre
  obtain ⟨k, o, h1, h2, h3, rfl, hF⟩ := lw_comes l hflags p e ha hc hk s m args below hf hfit hheap happ hpre
  exact ⟨k, _, h1, h2, h3, hL args s _, lw_frame hF⟩
theorem i_vc : Claimed_1_1 ∧ Claimed_1_2 := ⟨lw_limb limb_1_1 (fun args s t => by simp [limb_1_1, Cond.after, Cond.holds, Cond.value]), lw_limb limb_1_2 (fun args s t => Cond.after_iff.mpr (by
  first | (rw [show limb_1_2 = Cond.eq .result (.int 1) from rfl, Cond.eq_ints (x := 1) (y := 1) rfl rfl]; simp; done) | (simp [limb_1_2, Cond.value, Term.eval]; done)))⟩
