/-! THE REFERENCE: a year passes (2) -/
theorem tA_tA (D : MS) (k : Nat) (f f' : Nat → Nat) : tA (tA D k f) k f' = tA D k f' := by unfold tA; rw [va_up_up]
theorem tA_id (D : MS) (k : Nat) : tA D k (D.2 k) = D := by unfold tA; rw [va_up_id]
theorem st_MA4 (R : Nat) (D : MS) (ρ : Mu) (s : Nat → Nat) (i x : Nat) : mset (rem R (tA D 4 s) ρ) (R + 5) (.inl (0, 59, .inl (upd (nA s) i (nI x)))) = rem R (tA D 4 (va_up s i x)) ρ := by
  have h := st_MA R (tA D 4 s) ρ 4 (by decide) i x
  have e : (tA D 4 s).2 4 = s := va_up_self D.2 4 s
  rw [e, tA_tA] at h
  exact h
theorem nI_dn (k : Nat) : nI (k + 1) + (-1) = nI k := by
  have h := nI_pred k
  rw [Int32.sub_eq_add_neg] at h
  exact h
section R4
variable {l : Launch} {G : GG} {n : Nat} {R : Nat} {D : MS} {ρ : Mu}
theorem k_X6_passes (hO : OkS (D.2 1) (D.2 4)) (fr : Int32) : Ctr l G 3 74 0 0 mX6_passes [.ref R, .int fr] n (rem R D ρ) none n (rem R (tA D 4 (passM (D.2 1) (D.2 4) fr)) ρ) := by
  refine Ctr.of (by decide +kernel) rfl (fun X g E => ?_)
  obtain ⟨o1, o2, o3, o4, -⟩ := id hO
  have bear : ∀ (q r : Nat) (s1 : Nat → Nat), r + q = (D.2 1) 2 → OkS (D.2 1) s1 → passM (D.2 1) (D.2 4) fr = va_up (brOut (D.2 1) q r s1) 0 (brOut (D.2 1) q r s1 0 + 1) → V X 0 0 n (rem R (tA D 4 s1) ρ) 174 [(2, .int (nI r)), (0, .ref R), (1, .int fr)] [] := by
    intro q
    induction q with
    | zero =>
      intro r s1 hq hs he
      refine v_iload_n g dX6_passes_174 0 rfl ?_
      refine v_aload_n g dX6_passes_175 1 rfl ?_
      refine v_get g dX6_passes_176 fl_RX6_13 (rd_M R _ _) rfl ?_
      refine v_iconst (v := 2) g dX6_passes_179 (by decide) ?_
      refine v_iald g dX6_passes_180 (rd_MA1 R _ _) (by unfold vp_in; decide) (v_eqi (y := (nI ((D.2 1) 2))) rfl ?_)
      refine v_icmp_ge (tgt := 271) g dX6_passes_181 (by decide) (fun h181 => ?_) (fun h181 => absurd (nI_le (a := (D.2 1) 2) (b := r) (by omega) (by omega)) h181)
      refine v_aload_n g dX6_passes_271 1 rfl ?_
      refine v_get g dX6_passes_272 fl_RX6_22 (rd_M R _ _) rfl ?_
      refine v_iconst (v := 0) g dX6_passes_275 (by decide) ?_
      refine v_dup2 g dX6_passes_276 rfl rfl ?_
      refine v_iald g dX6_passes_277 (rd_MA4 R _ _) (by unfold vp_in; decide) (v_eqi (y := (nI (s1 0))) rfl ?_)
      refine v_iconst (v := 1) g dX6_passes_278 (by decide) ?_
      refine v_iadd g dX6_passes_279 (v_eqi (y := nI ((s1 0) + 1)) (nI_addE rfl rfl) ?_)
      refine v_iast g dX6_passes_280 (rd_MA4 R _ _) (by unfold vp_in; decide) ?_
      refine v_meq (μ' := rem R (tA D 4 (va_up s1 0 ((s1 0) + 1))) ρ) (st_MA4 R D ρ s1 0 ((s1 0) + 1)) ?_
      rw [brOut] at he
      exact v_vret g E dX6_passes_281 rfl ⟨rfl, rfl, by rw [he]⟩
    | succ q ih =>
      intro r s1 hq hs he
      have inner : ∀ (u k : Nat) (s2 : Nat → Nat), k + u = s1 (8 + r) → OkS (D.2 1) s2 → s2 (8 + r) = s1 (8 + r) → passM (D.2 1) (D.2 4) fr = va_up (brOut (D.2 1) q (r + 1) (brIn (D.2 1) r u k s2)) 0 (brOut (D.2 1) q (r + 1) (brIn (D.2 1) r u k s2) 0 + 1) → V X 0 0 n (rem R (tA D 4 s2) ρ) 186 [(3, .int (nI k)), (2, .int (nI r)), (0, .ref R), (1, .int fr)] [] := by
        intro u
        induction u with
        | zero =>
          intro k s2 hu hs h8 h2
          obtain ⟨-, -, -, -, s5, s6, s7, s8, s9, s10, -⟩ := id hs
          have b5 := s5 r (by omega)
          refine v_iload_n g dX6_passes_186 0 rfl ?_
          refine v_aload_n g dX6_passes_187 2 rfl ?_
          refine v_get g dX6_passes_188 fl_RX6_22 (rd_M R _ _) rfl ?_
          refine v_bipush (v := 8) g dX6_passes_191 (by decide) ?_
          refine v_iload_n g dX6_passes_193 1 rfl ?_
          refine v_iadd g dX6_passes_194 (v_eqi (y := nI (8 + r)) (nI_addE rfl rfl) ?_)
          refine v_iald g dX6_passes_195 (rd_MA4 R _ _) (vp_in_nI (by omega) (by decide)) (v_eqi (y := (nI (s2 (8 + r)))) (by first | (rw [nI_clamp (by omega)]; done) | (rw [nI_clamp (by omega)]; rfl)) ?_)
          refine v_icmp_ge (tgt := 265) g dX6_passes_196 (by decide) (fun h196 => ?_) (fun h196 => absurd (nI_le (a := s2 (8 + r)) (b := k) (by omega) (by omega)) h196)
          refine v_iinc (v := (nI (r + 1))) (ls' := [(2, .int (nI (r + 1))), (3, .int (nI k)), (0, .ref R), (1, .int fr)]) g dX6_passes_265 1 rfl (nI_addE rfl rfl) rfl rfl ?_
          refine v_goto (tgt := 174) g dX6_passes_268 (by decide) ?_
          refine v_sub (ls' := [(2, .int (nI (r + 1))), (0, .ref R), (1, .int fr)]) [0, 2, 3] rfl ?_
          exact ih (r + 1) s2 (by omega) hs (by rw [h2, brIn])
        | succ u ihu =>
          intro k s2 hu hs h8 h2
          obtain ⟨-, -, -, -, s5, s6, s7, s8, s9, s10, -⟩ := id hs
          have b5 := s5 r (by omega)
          have b6 : s2 (11 + 4 * r + k) < 36 := s6 r (by omega) k (by omega)
          have b7 := s7 _ b6
          have b10 : s2 (11 + 4 * r + k) < (D.2 1) 0 := s10 r (by omega) k (by omega)
          have bok := brS_ok hs (r := r) (k := k) (by omega) (by omega)
          refine v_iload_n g dX6_passes_186 0 rfl ?_
          refine v_aload_n g dX6_passes_187 2 rfl ?_
          refine v_get g dX6_passes_188 fl_RX6_22 (rd_M R _ _) rfl ?_
          refine v_bipush (v := 8) g dX6_passes_191 (by decide) ?_
          refine v_iload_n g dX6_passes_193 1 rfl ?_
          refine v_iadd g dX6_passes_194 (v_eqi (y := nI (8 + r)) (nI_addE rfl rfl) ?_)
          refine v_iald g dX6_passes_195 (rd_MA4 R _ _) (vp_in_nI (by omega) (by decide)) (v_eqi (y := (nI (s2 (8 + r)))) (by first | (rw [nI_clamp (by omega)]; done) | (rw [nI_clamp (by omega)]; rfl)) ?_)
          refine v_icmp_ge (tgt := 265) g dX6_passes_196 (by decide) (fun h196 => absurd h196 (nI_ge (a := k) (b := s2 (8 + r)) (by omega) (by omega))) (fun h196 => ?_)
          refine v_aload_n g dX6_passes_199 2 rfl ?_
          refine v_get g dX6_passes_200 fl_RX6_22 (rd_M R _ _) rfl ?_
          refine v_bipush (v := 11) g dX6_passes_203 (by decide) ?_
          refine v_iconst (v := 4) g dX6_passes_205 (by decide) ?_
          refine v_iload_n g dX6_passes_206 1 rfl ?_
          refine v_imul g dX6_passes_207 (v_eqi (y := nI (4 * r)) (nI_mulE rfl rfl) ?_)
          refine v_iadd g dX6_passes_208 (v_eqi (y := nI (11 + (4 * r))) (nI_addE rfl rfl) ?_)
          refine v_iload_n g dX6_passes_209 0 rfl ?_
          refine v_iadd g dX6_passes_210 (v_eqi (y := nI ((11 + (4 * r)) + k)) (nI_addE rfl rfl) ?_)
          refine v_iald g dX6_passes_211 (rd_MA4 R _ _) (vp_in_nI (by omega) (by decide)) (v_eqi (y := (nI (s2 ((11 + (4 * r)) + k)))) (by first | (rw [nI_clamp (by omega)]; done) | (rw [nI_clamp (by omega)]; rfl)) ?_)
          refine v_istore (ls' := [(4, .int (nI (s2 ((11 + (4 * r)) + k)))), (3, .int (nI k)), (2, .int (nI r)), (0, .ref R), (1, .int fr)]) g dX6_passes_212 rfl rfl ?_
          refine v_aload_n g dX6_passes_214 3 rfl ?_
          refine v_get g dX6_passes_215 fl_RX6_22 (rd_M R _ _) rfl ?_
          refine v_iconst (v := 1) g dX6_passes_218 (by decide) ?_
          refine v_aload_n g dX6_passes_219 3 rfl ?_
          refine v_get g dX6_passes_220 fl_RX6_13 (rd_M R _ _) rfl ?_
          refine v_bipush (v := 39) g dX6_passes_223 (by decide) ?_
          refine v_iload g dX6_passes_225 0 rfl ?_
          refine v_iadd g dX6_passes_227 (v_eqi (y := nI (39 + (s2 ((11 + (4 * r)) + k)))) (nI_addE rfl rfl) ?_)
          refine v_iald g dX6_passes_228 (rd_MA1 R _ _) (vp_in_nI (by omega) (by decide)) (v_eqi (y := (nI ((D.2 1) (39 + (s2 ((11 + (4 * r)) + k)))))) (by first | (rw [nI_clamp (by omega)]; done) | (rw [nI_clamp (by omega)]; rfl)) ?_)
          refine v_iadd g dX6_passes_229 (v_eqi (y := nI (1 + ((D.2 1) (39 + (s2 ((11 + (4 * r)) + k)))))) (nI_addE rfl rfl) ?_)
          refine v_dup2 g dX6_passes_230 rfl rfl ?_
          refine v_iald g dX6_passes_231 (rd_MA4 R _ _) (vp_in_nI (by omega) (by decide)) (v_eqi (y := (nI (s2 (1 + ((D.2 1) (39 + (s2 ((11 + (4 * r)) + k)))))))) (by first | (rw [nI_clamp (by omega)]; done) | (rw [nI_clamp (by omega)]; rfl)) ?_)
          refine v_aload_n g dX6_passes_232 3 rfl ?_
          refine v_get g dX6_passes_233 fl_RX6_13 (rd_M R _ _) rfl ?_
          refine v_bipush (v := 78) g dX6_passes_236 (by decide) ?_
          refine v_iload_n g dX6_passes_238 2 rfl ?_
          refine v_iadd g dX6_passes_239 (v_eqi (y := nI (78 + r)) (nI_addE rfl rfl) ?_)
          refine v_iald g dX6_passes_240 (rd_MA1 R _ _) (vp_in_nI (by omega) (by decide)) (v_eqi (y := (nI ((D.2 1) (78 + r)))) (by first | (rw [nI_clamp (by omega)]; done) | (rw [nI_clamp (by omega)]; rfl)) ?_)
          refine v_aload_n g dX6_passes_241 3 rfl ?_
          refine v_iload_n g dX6_passes_242 2 rfl ?_
          refine v_iload g dX6_passes_243 0 rfl ?_
          refine v_callV (As := [.int (nI r), .int (nI (s2 ((11 + (4 * r)) + k)))]) (r := some (.int (zB (mateM (D.2 1) s2 r (s2 ((11 + (4 * r)) + k)))))) g dX6_passes_245 (k_X6_hasMate (D := (tA D 4 s2)) hs (r := r) (c := (s2 ((11 + (4 * r)) + k))) (show (s2 ((11 + (4 * r)) + k)) < (D.2 1) 0 by omega)) cl_X6_hasMate ml_RX6_132 im_X6_hasMate (rd_M R _ _) rfl rfl ⟨rfl, rfl, rfl⟩ ?_
          refine v_if_eq_d (tgt := 255) (u := 0) (v := 1) 256 g dX6_passes_248 (by decide) (fun h248 K => ?_) (fun h248 K => ?_) ?_
          · skip
            have h248 := zB_f0 h248
            refine v_iconst (v := 0) g dX6_passes_255 (by decide) ?_
            exact K
          · skip
            have h248 := zB_t0 h248
            refine v_iconst (v := 1) g dX6_passes_251 (by decide) ?_
            refine v_goto (tgt := 256) g dX6_passes_252 (by decide) ?_
            exact K
          refine v_eqi (y := nI (if mateM (D.2 1) s2 r (s2 (11 + 4 * r + k)) = true then 1 else 0)) (by cases mateM (D.2 1) s2 r (s2 (11 + 4 * r + k)) <;> rfl) ?_
          refine v_iadd g dX6_passes_256 (v_eqi (y := nI (((D.2 1) (78 + r)) + (if mateM (D.2 1) s2 r (s2 (11 + 4 * r + k)) = true then 1 else 0))) (nI_addE rfl rfl) ?_)
          refine v_iadd g dX6_passes_257 (v_eqi (y := nI ((s2 (1 + ((D.2 1) (39 + (s2 ((11 + (4 * r)) + k)))))) + (((D.2 1) (78 + r)) + (if mateM (D.2 1) s2 r (s2 (11 + 4 * r + k)) = true then 1 else 0)))) (nI_addE rfl rfl) ?_)
          refine v_iast g dX6_passes_258 (rd_MA4 R _ _) (vp_in_nI (by omega) (by decide)) ?_
          rw [nI_clamp (n := (1 + ((D.2 1) (39 + (s2 ((11 + (4 * r)) + k)))))) (by omega)]
          refine v_meq (μ' := rem R (tA D 4 (va_up s2 (1 + ((D.2 1) (39 + (s2 ((11 + (4 * r)) + k))))) ((s2 (1 + ((D.2 1) (39 + (s2 ((11 + (4 * r)) + k)))))) + (((D.2 1) (78 + r)) + (if mateM (D.2 1) s2 r (s2 (11 + 4 * r + k)) = true then 1 else 0))))) ρ) (st_MA4 R D ρ s2 (1 + ((D.2 1) (39 + (s2 ((11 + (4 * r)) + k))))) ((s2 (1 + ((D.2 1) (39 + (s2 ((11 + (4 * r)) + k)))))) + (((D.2 1) (78 + r)) + (if mateM (D.2 1) s2 r (s2 (11 + 4 * r + k)) = true then 1 else 0)))) ?_
          refine v_iinc (v := (nI (k + 1))) (ls' := [(3, .int (nI (k + 1))), (4, .int (nI (s2 ((11 + (4 * r)) + k)))), (2, .int (nI r)), (0, .ref R), (1, .int fr)]) g dX6_passes_259 1 rfl (nI_addE rfl rfl) rfl rfl ?_
          refine v_goto (tgt := 186) g dX6_passes_262 (by decide) ?_
          refine v_sub (ls' := [(3, .int (nI (k + 1))), (2, .int (nI r)), (0, .ref R), (1, .int fr)]) [0, 2, 3, 4] rfl ?_
          exact ihu (k + 1) (brS (D.2 1) s2 r k) (by omega) bok.1 (bok.2.trans h8) (by rw [h2, brIn])
      refine v_iload_n g dX6_passes_174 0 rfl ?_
      refine v_aload_n g dX6_passes_175 1 rfl ?_
      refine v_get g dX6_passes_176 fl_RX6_13 (rd_M R _ _) rfl ?_
      refine v_iconst (v := 2) g dX6_passes_179 (by decide) ?_
      refine v_iald g dX6_passes_180 (rd_MA1 R _ _) (by unfold vp_in; decide) (v_eqi (y := (nI ((D.2 1) 2))) rfl ?_)
      refine v_icmp_ge (tgt := 271) g dX6_passes_181 (by decide) (fun h181 => absurd h181 (nI_ge (a := r) (b := (D.2 1) 2) (by omega) (by omega))) (fun h181 => ?_)
      refine v_iconst (v := 0) g dX6_passes_184 (by decide) ?_
      refine v_istore_n (ls' := [(3, .int 0), (2, .int (nI r)), (0, .ref R), (1, .int fr)]) g dX6_passes_185 rfl rfl ?_
      refine v_sub (ls' := [(3, .int 0), (2, .int (nI r)), (0, .ref R), (1, .int fr)]) [0, 1, 2, 3] rfl ?_
      exact inner (s1 (8 + r)) 0 s1 (by omega) hs rfl (by rw [he, brOut])
  have move : ∀ (q r : Nat) (s1 : Nat → Nat), r + q = (D.2 1) 2 → OkS (D.2 1) s1 → passM (D.2 1) (D.2 4) fr = va_up (brOut (D.2 1) ((D.2 1) 2) 0 (mvFrom (D.2 1) fr q r s1)) 0 (brOut (D.2 1) ((D.2 1) 2) 0 (mvFrom (D.2 1) fr q r s1) 0 + 1) → V X 0 0 n (rem R (tA D 4 s1) ρ) 2 [(2, .int (nI r)), (0, .ref R), (1, .int fr)] [] := by
    intro q
    induction q with
    | zero =>
      intro r s1 hq hs he
      refine v_iload_n g dX6_passes_2 0 rfl ?_
      refine v_aload_n g dX6_passes_3 1 rfl ?_
      refine v_get g dX6_passes_4 fl_RX6_13 (rd_M R _ _) rfl ?_
      refine v_iconst (v := 2) g dX6_passes_7 (by decide) ?_
      refine v_iald g dX6_passes_8 (rd_MA1 R _ _) (by unfold vp_in; decide) (v_eqi (y := (nI ((D.2 1) 2))) rfl ?_)
      refine v_icmp_ge (tgt := 172) g dX6_passes_9 (by decide) (fun h9 => ?_) (fun h9 => absurd (nI_le (a := (D.2 1) 2) (b := r) (by omega) (by omega)) h9)
      refine v_iconst (v := 0) g dX6_passes_172 (by decide) ?_
      refine v_istore_n (ls' := [(2, .int 0), (0, .ref R), (1, .int fr)]) g dX6_passes_173 rfl rfl ?_
      refine v_sub (ls' := [(2, .int 0), (0, .ref R), (1, .int fr)]) [0, 1, 2] rfl ?_
      exact bear ((D.2 1) 2) 0 s1 (by omega) hs (by rw [he, mvFrom])
    | succ q ih =>
      intro r s1 hq hs he
      obtain ⟨-, -, -, -, s5, s6, s7, s8, s9, s10, -⟩ := id hs
      have b5 := s5 r (by omega)
      have b9 := s9 r (by omega)
      have b10 : s1 (11 + 4 * r) < (D.2 1) 0 := s10 r (by omega) 0 (by omega)
      have shift : ∀ (d0 c0 : Nat), d0 < 4 → dirM (D.2 1) s1 fr r = nI d0 → c0 < (D.2 1) 0 → besM (D.2 1) (s1 (11 + 4 * r)) (dirM (D.2 1) s1 fr r) = nI c0 → ¬ dirM (D.2 1) s1 fr r = -4 → ∀ k, k ≤ s1 (8 + r) - 1 → V X 0 0 n (rem R (tA D 4 (shP s1 (11 + 4 * r) (s1 (8 + r) - 1) k)) ρ) 65 [(5, .int (nI k)), (4, .int (nI c0)), (3, .int (dirM (D.2 1) s1 fr r)), (2, .int (nI r)), (0, .ref R), (1, .int fr)] [] := by
        intro d0 c0 hd ed hc ec hn k
        have b7 := s7 c0 (by omega)
        induction k with
        | zero =>
          intro hk
          refine v_iload g dX6_passes_65 0 rfl ?_
          refine v_if_le (tgt := 106) g dX6_passes_67 (by decide) (fun h67 => ?_) (fun h67 => absurd (by decide) h67)
          refine v_aload_n g dX6_passes_106 4 rfl ?_
          refine v_get g dX6_passes_107 fl_RX6_22 (rd_M R _ _) rfl ?_
          refine v_bipush (v := 11) g dX6_passes_110 (by decide) ?_
          refine v_iconst (v := 4) g dX6_passes_112 (by decide) ?_
          refine v_iload_n g dX6_passes_113 3 rfl ?_
          refine v_imul g dX6_passes_114 (v_eqi (y := nI (4 * r)) (nI_mulE rfl rfl) ?_)
          refine v_iadd g dX6_passes_115 (v_eqi (y := nI (11 + (4 * r))) (nI_addE rfl rfl) ?_)
          refine v_iload g dX6_passes_116 1 rfl ?_
          refine v_iast g dX6_passes_118 (rd_MA4 R _ _) (vp_in_nI (by omega) (by decide)) ?_
          rw [nI_clamp (n := (11 + (4 * r))) (by omega)]
          refine v_meq (μ' := rem R (tA D 4 (va_up (shP s1 (11 + 4 * r) (s1 (8 + r) - 1) 0) (11 + (4 * r)) c0)) ρ) (st_MA4 R D ρ (shP s1 (11 + 4 * r) (s1 (8 + r) - 1) 0) (11 + (4 * r)) c0) ?_
          refine v_aload_n g dX6_passes_119 4 rfl ?_
          refine v_get g dX6_passes_120 fl_RX6_22 (rd_M R _ _) rfl ?_
          refine v_iconst (v := 5) g dX6_passes_123 (by decide) ?_
          refine v_iload_n g dX6_passes_124 3 rfl ?_
          refine v_iadd g dX6_passes_125 (v_eqi (y := nI (5 + r)) (nI_addE rfl rfl) ?_)
          refine v_iload_n g dX6_passes_126 2 rfl ?_
          refine v_eqi ed ?_
          refine v_iast g dX6_passes_127 (rd_MA4 R _ _) (vp_in_nI (by omega) (by decide)) ?_
          rw [nI_clamp (n := (5 + r)) (by omega)]
          refine v_meq (μ' := rem R (tA D 4 (va_up (va_up (shP s1 (11 + 4 * r) (s1 (8 + r) - 1) 0) (11 + (4 * r)) c0) (5 + r) d0)) ρ) (st_MA4 R D ρ (va_up (shP s1 (11 + 4 * r) (s1 (8 + r) - 1) 0) (11 + (4 * r)) c0) (5 + r) d0) ?_
          refine v_aload_n g dX6_passes_128 4 rfl ?_
          refine v_get g dX6_passes_129 fl_RX6_22 (rd_M R _ _) rfl ?_
          refine v_iconst (v := 1) g dX6_passes_132 (by decide) ?_
          refine v_aload_n g dX6_passes_133 4 rfl ?_
          refine v_get g dX6_passes_134 fl_RX6_13 (rd_M R _ _) rfl ?_
          refine v_bipush (v := 39) g dX6_passes_137 (by decide) ?_
          refine v_iload g dX6_passes_139 1 rfl ?_
          refine v_iadd g dX6_passes_141 (v_eqi (y := nI (39 + c0)) (nI_addE rfl rfl) ?_)
          refine v_iald g dX6_passes_142 (rd_MA1 R _ _) (vp_in_nI (by omega) (by decide)) (v_eqi (y := (nI ((D.2 1) (39 + c0)))) (by first | (rw [nI_clamp (by omega)]; done) | (rw [nI_clamp (by omega)]; rfl)) ?_)
          refine v_iadd g dX6_passes_143 (v_eqi (y := nI (1 + ((D.2 1) (39 + c0)))) (nI_addE rfl rfl) ?_)
          refine v_dup2 g dX6_passes_144 rfl rfl ?_
          refine v_iald g dX6_passes_145 (rd_MA4 R _ _) (vp_in_nI (by omega) (by decide)) (v_eqi (y := (nI ((va_up (va_up (shP s1 (11 + 4 * r) (s1 (8 + r) - 1) 0) (11 + (4 * r)) c0) (5 + r) d0) (1 + ((D.2 1) (39 + c0)))))) (by first | (rw [nI_clamp (by omega)]; done) | (rw [nI_clamp (by omega)]; rfl)) ?_)
          refine v_aload_n g dX6_passes_146 4 rfl ?_
          refine v_get g dX6_passes_147 fl_RX6_13 (rd_M R _ _) rfl ?_
          refine v_iconst (v := 3) g dX6_passes_150 (by decide) ?_
          refine v_iload g dX6_passes_151 1 rfl ?_
          refine v_iadd g dX6_passes_153 (v_eqi (y := nI (3 + c0)) (nI_addE rfl rfl) ?_)
          refine v_iald g dX6_passes_154 (rd_MA1 R _ _) (vp_in_nI (by omega) (by decide)) (v_eqi (y := (nI ((D.2 1) (3 + c0)))) (by first | (rw [nI_clamp (by omega)]; done) | (rw [nI_clamp (by omega)]; rfl)) ?_)
          refine v_iconst (v := 1) g dX6_passes_155 (by decide) ?_
          refine v_icmp_ne_d (tgt := 163) (u := 0) (v := 1) 164 g dX6_passes_156 (by decide) (fun h156 K => ?_) (fun h156 K => ?_) ?_
          · skip
            refine v_iconst (v := 0) g dX6_passes_163 (by decide) ?_
            exact K
          · skip
            refine v_iconst (v := 1) g dX6_passes_159 (by decide) ?_
            refine v_goto (tgt := 164) g dX6_passes_160 (by decide) ?_
            exact K
          refine v_eqi (y := nI (if nI ((D.2 1) (3 + c0)) = 1 then 1 else 0)) (by split <;> rfl) ?_
          refine v_iadd g dX6_passes_164 (v_eqi (y := nI (((va_up (va_up (shP s1 (11 + 4 * r) (s1 (8 + r) - 1) 0) (11 + (4 * r)) c0) (5 + r) d0) (1 + ((D.2 1) (39 + c0)))) + (if nI ((D.2 1) (3 + c0)) = 1 then 1 else 0))) (nI_addE rfl rfl) ?_)
          refine v_iast g dX6_passes_165 (rd_MA4 R _ _) (vp_in_nI (by omega) (by decide)) ?_
          rw [nI_clamp (n := (1 + ((D.2 1) (39 + c0)))) (by omega)]
          refine v_meq (μ' := rem R (tA D 4 (va_up (va_up (va_up (shP s1 (11 + 4 * r) (s1 (8 + r) - 1) 0) (11 + (4 * r)) c0) (5 + r) d0) (1 + ((D.2 1) (39 + c0))) (((va_up (va_up (shP s1 (11 + 4 * r) (s1 (8 + r) - 1) 0) (11 + (4 * r)) c0) (5 + r) d0) (1 + ((D.2 1) (39 + c0)))) + (if nI ((D.2 1) (3 + c0)) = 1 then 1 else 0)))) ρ) (st_MA4 R D ρ (va_up (va_up (shP s1 (11 + 4 * r) (s1 (8 + r) - 1) 0) (11 + (4 * r)) c0) (5 + r) d0) (1 + ((D.2 1) (39 + c0))) (((va_up (va_up (shP s1 (11 + 4 * r) (s1 (8 + r) - 1) 0) (11 + (4 * r)) c0) (5 + r) d0) (1 + ((D.2 1) (39 + c0)))) + (if nI ((D.2 1) (3 + c0)) = 1 then 1 else 0))) ?_
          refine v_iinc (v := (nI (r + 1))) (ls' := [(2, .int (nI (r + 1))), (5, .int (nI 0)), (4, .int (nI c0)), (3, .int (dirM (D.2 1) s1 fr r)), (0, .ref R), (1, .int fr)]) g dX6_passes_166 3 rfl (nI_addE rfl rfl) rfl rfl ?_
          refine v_goto (tgt := 2) g dX6_passes_169 (by decide) ?_
          refine v_sub (ls' := [(2, .int (nI (r + 1))), (0, .ref R), (1, .int fr)]) [0, 4, 5] rfl ?_
          exact ih (r + 1) (mvE (D.2 1) s1 r d0 c0) (by omega) (mvE_ok hs (by omega) hd hc) (by rw [he, mvFrom, if_neg hn, mvS, ec, ed, nI_clamp (by omega), nI_clamp (by omega)])
        | succ k ihk =>
          intro hk
          refine v_iload g dX6_passes_65 0 rfl ?_
          refine v_if_le (tgt := 106) g dX6_passes_67 (by decide) (fun h67 => absurd h67 (nI_nle (by omega) (by omega))) (fun h67 => ?_)
          refine v_aload_n g dX6_passes_70 4 rfl ?_
          refine v_get g dX6_passes_71 fl_RX6_22 (rd_M R _ _) rfl ?_
          refine v_bipush (v := 11) g dX6_passes_74 (by decide) ?_
          refine v_iconst (v := 4) g dX6_passes_76 (by decide) ?_
          refine v_iload_n g dX6_passes_77 3 rfl ?_
          refine v_imul g dX6_passes_78 (v_eqi (y := nI (4 * r)) (nI_mulE rfl rfl) ?_)
          refine v_iadd g dX6_passes_79 (v_eqi (y := nI (11 + (4 * r))) (nI_addE rfl rfl) ?_)
          refine v_iload g dX6_passes_80 0 rfl ?_
          refine v_iadd g dX6_passes_82 (v_eqi (y := nI ((11 + (4 * r)) + (k + 1))) (nI_addE rfl rfl) ?_)
          refine v_aload_n g dX6_passes_83 4 rfl ?_
          refine v_get g dX6_passes_84 fl_RX6_22 (rd_M R _ _) rfl ?_
          refine v_bipush (v := 11) g dX6_passes_87 (by decide) ?_
          refine v_iconst (v := 4) g dX6_passes_89 (by decide) ?_
          refine v_iload_n g dX6_passes_90 3 rfl ?_
          refine v_imul g dX6_passes_91 (v_eqi (y := nI (4 * r)) (nI_mulE rfl rfl) ?_)
          refine v_iadd g dX6_passes_92 (v_eqi (y := nI (11 + (4 * r))) (nI_addE rfl rfl) ?_)
          refine v_iload g dX6_passes_93 0 rfl ?_
          refine v_iadd g dX6_passes_95 (v_eqi (y := nI ((11 + (4 * r)) + (k + 1))) (nI_addE rfl rfl) ?_)
          refine v_iconst (v := 1) g dX6_passes_96 (by decide) ?_
          refine v_isub g dX6_passes_97 (v_eqi (y := nI (((11 + (4 * r)) + (k + 1)) - 1)) (nI_subE rfl rfl (by omega)) ?_)
          refine v_eqi (y := nI (11 + 4 * r + k)) (congrArg nI (by omega)) ?_
          refine v_iald g dX6_passes_98 (rd_MA4 R _ _) (vp_in_nI (by omega) (by decide)) (v_eqi (y := (nI ((shP s1 (11 + 4 * r) (s1 (8 + r) - 1) (k + 1)) (11 + 4 * r + k)))) (by first | (rw [nI_clamp (by omega)]; done) | (rw [nI_clamp (by omega)]; rfl)) ?_)
          refine v_eqi (y := nI (s1 (11 + 4 * r + k))) (congrArg nI (shP_at s1 (11 + 4 * r) (s1 (8 + r) - 1) k)) ?_
          refine v_iast g dX6_passes_99 (rd_MA4 R _ _) (vp_in_nI (by omega) (by decide)) ?_
          rw [nI_clamp (n := ((11 + (4 * r)) + (k + 1))) (by omega)]
          refine v_meq (μ' := rem R (tA D 4 (va_up (shP s1 (11 + 4 * r) (s1 (8 + r) - 1) (k + 1)) ((11 + (4 * r)) + (k + 1)) (s1 (11 + 4 * r + k)))) ρ) (st_MA4 R D ρ (shP s1 (11 + 4 * r) (s1 (8 + r) - 1) (k + 1)) ((11 + (4 * r)) + (k + 1)) (s1 (11 + 4 * r + k))) ?_
          refine v_iinc (v := (nI k)) (ls' := [(5, .int (nI k)), (4, .int (nI c0)), (3, .int (dirM (D.2 1) s1 fr r)), (2, .int (nI r)), (0, .ref R), (1, .int fr)]) g dX6_passes_100 0 rfl (nI_dn k) rfl rfl ?_
          refine v_goto (tgt := 65) g dX6_passes_103 (by decide) ?_
          refine v_meq (μ' := rem R (tA D 4 (shP s1 (11 + 4 * r) (s1 (8 + r) - 1) k)) ρ) (by rw [shP_step _ _ _ _ hk]) ?_
          refine v_sub (ls' := [(5, .int (nI k)), (4, .int (nI c0)), (3, .int (dirM (D.2 1) s1 fr r)), (2, .int (nI r)), (0, .ref R), (1, .int fr)]) [0, 1, 2, 3, 4, 5] rfl ?_
          exact ihk (by omega)
      refine v_iload_n g dX6_passes_2 0 rfl ?_
      refine v_aload_n g dX6_passes_3 1 rfl ?_
      refine v_get g dX6_passes_4 fl_RX6_13 (rd_M R _ _) rfl ?_
      refine v_iconst (v := 2) g dX6_passes_7 (by decide) ?_
      refine v_iald g dX6_passes_8 (rd_MA1 R _ _) (by unfold vp_in; decide) (v_eqi (y := (nI ((D.2 1) 2))) rfl ?_)
      refine v_icmp_ge (tgt := 172) g dX6_passes_9 (by decide) (fun h9 => absurd h9 (nI_ge (a := r) (b := (D.2 1) 2) (by omega) (by omega))) (fun h9 => ?_)
      refine v_iload_n g dX6_passes_12 0 rfl ?_
      refine v_iload_n g dX6_passes_13 2 rfl ?_
      refine v_icmp_ne_d (tgt := 22) (u := headM (D.2 1) s1 r) (v := (-4)) 27 g dX6_passes_14 (by decide) (fun h14 K => ?_) (fun h14 K => ?_) ?_
      · skip
        refine v_aload_n g dX6_passes_22 1 rfl ?_
        refine v_iload_n g dX6_passes_23 0 rfl ?_
        refine v_callV (As := [.int (nI r)]) (r := some (.int (headM (D.2 1) s1 r))) g dX6_passes_24 (k_X6_headsFor (D := (tA D 4 s1)) hs (r := r) (show r < (D.2 1) 2 by omega)) cl_X6_headsFor ml_RX6_129 im_X6_headsFor (rd_M R _ _) rfl rfl ⟨rfl, rfl, rfl⟩ ?_
        exact K
      · skip
        refine v_bipush (v := (-4)) g dX6_passes_17 (by decide) ?_
        refine v_goto (tgt := 27) g dX6_passes_19 (by decide) ?_
        exact K
      refine v_eqi (y := dirM (D.2 1) s1 fr r) rfl ?_
      refine v_istore_n (ls' := [(3, .int (dirM (D.2 1) s1 fr r)), (2, .int (nI r)), (0, .ref R), (1, .int fr)]) g dX6_passes_27 rfl rfl ?_
      refine v_iload_n g dX6_passes_28 0 rfl ?_
      refine v_bipush (v := (-4)) g dX6_passes_29 (by decide) ?_
      refine v_icmp_eq (tgt := 166) g dX6_passes_31 (by decide) (fun h31 => ?_) (fun h31 => ?_)
      · skip
        refine v_iinc (v := (nI (r + 1))) (ls' := [(2, .int (nI (r + 1))), (3, .int (dirM (D.2 1) s1 fr r)), (0, .ref R), (1, .int fr)]) g dX6_passes_166 1 rfl (nI_addE rfl rfl) rfl rfl ?_
        refine v_goto (tgt := 2) g dX6_passes_169 (by decide) ?_
        refine v_sub (ls' := [(2, .int (nI (r + 1))), (0, .ref R), (1, .int fr)]) [0, 2, 3] rfl ?_
        exact ih (r + 1) s1 (by omega) hs (by rw [he, mvFrom, if_pos h31])
      · skip
        obtain ⟨d0, c0, hd, ed, hc, ec⟩ := dirM_ok hs fr (r := r) (by omega) h31
        refine v_aload_n g dX6_passes_34 2 rfl ?_
        refine v_aload_n g dX6_passes_35 2 rfl ?_
        refine v_get g dX6_passes_36 fl_RX6_22 (rd_M R _ _) rfl ?_
        refine v_bipush (v := 11) g dX6_passes_39 (by decide) ?_
        refine v_iconst (v := 4) g dX6_passes_41 (by decide) ?_
        refine v_iload_n g dX6_passes_42 1 rfl ?_
        refine v_imul g dX6_passes_43 (v_eqi (y := nI (4 * r)) (nI_mulE rfl rfl) ?_)
        refine v_iadd g dX6_passes_44 (v_eqi (y := nI (11 + (4 * r))) (nI_addE rfl rfl) ?_)
        refine v_iald g dX6_passes_45 (rd_MA4 R _ _) (vp_in_nI (by omega) (by decide)) (v_eqi (y := (nI (s1 (11 + (4 * r))))) (by first | (rw [nI_clamp (by omega)]; done) | (rw [nI_clamp (by omega)]; rfl)) ?_)
        refine v_iload_n g dX6_passes_46 0 rfl ?_
        refine v_callV (As := [.int (nI (s1 (11 + (4 * r)))), .int (dirM (D.2 1) s1 fr r)]) (r := some (.int (besM (D.2 1) (s1 (11 + (4 * r))) (dirM (D.2 1) s1 fr r)))) g dX6_passes_47 (k_X6_beside (D := (tA D 4 s1)) hs (c := (s1 (11 + (4 * r)))) (show (s1 (11 + (4 * r))) < 36 by omega) (dirM (D.2 1) s1 fr r)) cl_X6_beside ml_RX6_119 im_X6_beside (rd_M R _ _) rfl rfl ⟨rfl, rfl, rfl⟩ ?_
        refine v_eqi ec ?_
        refine v_istore (ls' := [(4, .int (nI c0)), (3, .int (dirM (D.2 1) s1 fr r)), (2, .int (nI r)), (0, .ref R), (1, .int fr)]) g dX6_passes_50 rfl rfl ?_
        refine v_aload_n g dX6_passes_52 3 rfl ?_
        refine v_get g dX6_passes_53 fl_RX6_22 (rd_M R _ _) rfl ?_
        refine v_bipush (v := 8) g dX6_passes_56 (by decide) ?_
        refine v_iload_n g dX6_passes_58 2 rfl ?_
        refine v_iadd g dX6_passes_59 (v_eqi (y := nI (8 + r)) (nI_addE rfl rfl) ?_)
        refine v_iald g dX6_passes_60 (rd_MA4 R _ _) (vp_in_nI (by omega) (by decide)) (v_eqi (y := (nI (s1 (8 + r)))) (by first | (rw [nI_clamp (by omega)]; done) | (rw [nI_clamp (by omega)]; rfl)) ?_)
        refine v_iconst (v := 1) g dX6_passes_61 (by decide) ?_
        refine v_isub g dX6_passes_62 (v_eqi (y := nI ((s1 (8 + r)) - 1)) (nI_subE rfl rfl (by omega)) ?_)
        refine v_istore (ls' := [(5, .int (nI ((s1 (8 + r)) - 1))), (4, .int (nI c0)), (3, .int (dirM (D.2 1) s1 fr r)), (2, .int (nI r)), (0, .ref R), (1, .int fr)]) g dX6_passes_63 rfl rfl ?_
        refine v_meq (μ' := rem R (tA D 4 (shP s1 (11 + 4 * r) (s1 (8 + r) - 1) (s1 (8 + r) - 1))) ρ) (by rw [← shP_m]) ?_
        refine v_sub (ls' := [(5, .int (nI ((s1 (8 + r)) - 1))), (4, .int (nI c0)), (3, .int (dirM (D.2 1) s1 fr r)), (2, .int (nI r)), (0, .ref R), (1, .int fr)]) [0, 1, 2, 3, 4, 5] rfl ?_
        exact shift d0 c0 hd ed hc ec h31 (s1 (8 + r) - 1) (Nat.le_refl _)
  refine v_sub (ls' := [(0, .ref R), (1, .int fr)]) [0, 1] rfl ?_
  refine v_meq (μ' := rem R (tA D 4 (D.2 4)) ρ) (by rw [tA_id]) ?_
  refine v_iconst (v := 0) g dX6_passes_0 (by decide) ?_
  refine v_istore_n (ls' := [(2, .int 0), (0, .ref R), (1, .int fr)]) g dX6_passes_1 rfl rfl ?_
  refine v_sub (ls' := [(2, .int 0), (0, .ref R), (1, .int fr)]) [0, 1, 2] rfl ?_
  exact move ((D.2 1) 2) 0 (D.2 4) (by omega) hO rfl
end R4
