abbrev mL (nm : String) (hh : List (Nat × Nat × Nat × Nat)) : M0 := (⟨RL, nm, "([I)Z"⟩, cL_law, 14, some .boolean, hh)
/-- what holds at the head of the law's loop -/
def IV (i : Nat → Nat → Int32) (B : Nat) : Prop := SX i ∧ ∃ c K n, RP i i B c K n
section LAW
variable {g : G0} {nm : String} {hh : List (Nat × Nat × Nat × Nat)} {K0' : K0}
theorem law_loop (hg : gL g ≤ 260)
    (hfin : ∀ (kc ks : Nat) (i : Nat → Nat → Int32) (j : Nat → Nat → Int64) (L : List (Option Value)), V g (mL nm hh) 13 kc ks false K0' 399 L [] (mk i j)) :
    ∀ (r m : Nat) (i : Nat → Nat → Int32) (j : Nat → Nat → Int64), m + r = 60 → IV i (124 * m) → V g (mL nm hh) 13 (17 * r) (102 * r) false K0' 54 [some (.ref 999), some (.ref 0), some (.ref 89), some (.ref 90), some (.ref 91), some (.int (nI m)), none, none, none, none, none, none, none, none] [] (mk i j) := by
  intro r
  induction r with
  | zero =>
    intro m i j hm hI
    have hm0 : m = 60 := by omega
    subst hm0
    refine L_iload_5 dL_law_54 ?_
    refine V_bipush (v := 60) (by decide) dL_law_56 ?_
    refine V_icmp_ge (tgt := 399) dL_law_58 (by decide) (fun h58 => ?_) (fun h58 => ?_)
    · exact hfin _ _ _ _ _
    · exact absurd (by decide) h58
  | succ r ih =>
    intro m i j hm hI
    obtain ⟨hS, c, K, n, h⟩ := hI
    have hc6 : c ≤ 6 := by have := h.2.1; unfold NR at this; omega
    have hc : i 3 5 = nI c := h.2.1.2.2.2.2.2.2.2.1
    have hlt : m < 60 := by omega
    obtain ⟨x, hx⟩ := cell_of g (k := 2 * m) (by omega) (by omega)
    obtain ⟨y, hy⟩ := cell_of g (k := 2 * m + 1) (by omega) (by omega)
    obtain ⟨q, hq, lq⟩ := low_of (g := g) (i := i) (j := j) x (n := 30) (by omega) (by omega)
    obtain ⟨q2, hq2, lq2⟩ := low_of (g := g) (i := i) (j := j) (x >>> (5 &&& 31)) (n := 2) (by omega) (by omega)
    obtain ⟨b30, hb30, lb30⟩ := low_of (g := g) (i := i) (j := j) y (n := 30) (by omega) (by omega)
    obtain ⟨b16, hb16, lb16⟩ := low_of (g := g) (i := i) (j := j) y (n := 16) (by omega) (by omega)
    obtain ⟨b6, hb6, lb6⟩ := low_of (g := g) (i := i) (j := j) y (n := 6) (by omega) (by omega)
    obtain ⟨b4, hb4, lb4⟩ := low_of (g := g) (i := i) (j := j) y (n := 4) (by omega) (by omega)
    have fin : ∀ (kd a v sv : Int32) (D : Int64) (i1 i2 : Nat → Nat → Int32) (c' K' n' : Nat), C g m_L_due 11 0 0 false [.int kd, .int a, .ref 89, .ref 90, .ref 91] (mk i1 j) (rets (some (.int v)) (mk i2 j)) → SX i2 → RP i2 i2 (124 * m + 124) c' K' n' → V g (mL nm hh) 13 (17 * r + 14) (102 * r + 84) false K0' 360 [some (.ref 999), some (.ref 0), some (.ref 89), some (.ref 90), some (.ref 91), some (.int (nI m)), some (.int x), some (.int y), some (.int kd), some (.int a), some (.long D), none, some (.int sv), some (.int v)] [] (mk i1 j) := by
      intro kd a v sv D i1 i2 c' K' n' hD hS2 hR
      refine L_iload_13 dL_law_360 ?_
      refine L_iload_8 dL_law_362 ?_
      refine L_iload_9 dL_law_364 ?_
      refine L_aload_n_2 dL_law_366 ?_
      refine L_aload_n_3 dL_law_367 ?_
      refine L_aload_4 dL_law_368 ?_
      refine Q_v5 (lkR_RL_227 rfl dL_law_370) (hD) ⟨pn_L_due, rfl, (Nat.le_of_ble_eq_true rfl), (Nat.le_of_ble_eq_true rfl), rfl⟩ (trivial) cfn (by omega) (Nat.le_of_ble_eq_true rfl) ?_
      refine V_icmp_ne (tgt := 391) dL_law_373 (by decide) (fun h373 => ?_) (fun h373 => ?_)
      · exact absurd rfl h373
      · refine L_aload_n_1 dL_law_376 ?_
        refine L_iload_6 dL_law_377 ?_
        refine V_iconst (v := 5) (by decide) dL_law_379 ?_
        refine V_ishr dL_law_380 ?_
        refine L_aload_n_2 dL_law_381 ?_
        refine L_aload_n_3 dL_law_382 ?_
        refine L_aload_4 dL_law_383 ?_
        refine Q_k5 (kc := 17 * r) (ks := 102 * r) (kc' := 14) (ks' := 84) (lkR_RL_230 rfl dL_law_385) (isSo_of hR (by omega) (x >>> (5 &&& 31))) ⟨pn_L_isSo, rfl, (Nat.le_of_ble_eq_true rfl), (Nat.le_of_ble_eq_true rfl), rfl⟩ (trivial) cfn (by omega) (Nat.le_of_ble_eq_true rfl) ?_
        refine V_ifx_ne (tgt := 393) dL_law_388 (by decide) (fun h388 => ?_) (fun h388 => ?_)
        · refine V_iinc_5 (v := nI (m + 1)) dL_law_393 (Nat.le_of_ble_eq_true rfl) rfl (nI_1 _) ?_
          refine V_goto (tgt := 54) dL_law_396 (by decide) ?_
          refine V_locals (fun q9 h9 => ?_) (ih (m + 1) i2 j (by omega) ⟨hS2, c', K', n', by rw [show 124 * (m + 1) = 124 * m + 124 by omega]; exact hR⟩)
          simp only [lcl, List.mem_cons, List.not_mem_nil, or_false] at h9 ⊢
          rcases h9 with h9 | h9 | h9 | h9 | h9 | h9 <;> simp [h9]
        · exfalso; revert h388; decide
    have join : ∀ (kd a : Int32), KA kd a → V g (mL nm hh) 13 (17 * r + 17) (102 * r + 102) false K0' 267 [some (.ref 999), some (.ref 0), some (.ref 89), some (.ref 90), some (.ref 91), some (.int (nI m)), some (.int x), some (.int y), some (.int kd), some (.int a), none, none, none, none] [] (mk i j) := by
      intro kd a hka
      obtain ⟨W, hW⟩ := st_all (g := g) hka
      obtain ⟨i1, i2, c1, K1, n1, hC, hD, ho, h89, h2, hR⟩ := hW i j (124 * m) c K n h hS
      have hS2 : SX i1 → SX i2 := fun z => SX_same z (h2 _ _ (by omega)) (h2 _ _ (by omega))
      have hdg := k_X6_digest (g := g) (i := i) (j := j) 5 hc hc6
      have hsv0 := k_X6_savedStates (g := g) (i := i) (j := j) 5
      refine L_aload_n_1 dL_law_267 ?_
      refine Q_v1 (lkR_RL_215 rfl dL_law_268) (hdg) ⟨pn_X6_digest, rfl, (Nat.le_of_ble_eq_true rfl), (Nat.le_of_ble_eq_true rfl), rfl⟩ (⟨_, _, rfl, rfl, rfl⟩) (cfS cf6) (by omega) (Nat.le_of_ble_eq_true rfl) ?_
      refine V_lstore_10 dL_law_271 (Nat.le_of_ble_eq_true rfl) rfl ?_
      refine L_aload_n_1 dL_law_273 ?_
      refine Q_v1 (lkR_RL_219 rfl dL_law_274) (hsv0) ⟨pn_X6_savedStates, rfl, (Nat.le_of_ble_eq_true rfl), (Nat.le_of_ble_eq_true rfl), rfl⟩ (⟨_, _, rfl, rfl, rfl⟩) (cfS cf6) (by omega) (Nat.le_of_ble_eq_true rfl) ?_
      refine V_istore_12 dL_law_277 (Nat.le_of_ble_eq_true rfl) rfl ?_
      refine L_aload_n_1 dL_law_279 ?_
      refine L_iload_8 dL_law_280 ?_
      refine L_iload_9 dL_law_282 ?_
      refine Q_k3 (kc := 17 * r + 16) (ks := 102 * r + 96) (kc' := 1) (ks' := 6) (lkR_RL_222 rfl dL_law_284) (hC) ⟨pn_L_call, rfl, (Nat.le_of_ble_eq_true rfl), (Nat.le_of_ble_eq_true rfl), rfl⟩ (trivial) cfn (by omega) (Nat.le_of_ble_eq_true rfl) ?_
      refine V_istore_13 dL_law_287 (Nat.le_of_ble_eq_true rfl) rfl ?_
      refine L_iload_13 dL_law_289 ?_
      refine V_bipush (v := (-100)) (by decide) dL_law_291 ?_
      refine V_icmp_ge (tgt := 318) dL_law_293 (by decide) (fun h293 => ?_) (fun h293 => ?_)
      · rcases ho with ⟨z, -⟩ | ⟨-, hsv⟩
        · exact absurd z (Int32.not_lt.mpr h293)
        · have hS1 : SX i1 := SX_sv hsv
          have hR1 : RP i1 i2 (124 * m + 124) c1 K1 n1 := RP_congr hR (fun a f z => (h2 a f (by unfold ib at z; omega)).symm) (fun _ _ _ => rfl) (Nat.le_refl _)
          obtain ⟨uv, i9, hU, hu0, hib, hu89, hS9⟩ := undo_of (g := g) (j := j) h hS hsv hR1
          have h9 : RP i9 i9 (124 * m) c K n := RP_congr h hib (fun a f z => (hu89 a f z).trans (h89 a f z)) (Nat.le_refl _)
          obtain ⟨k1, k2, c9, K9, n9, hC9, hD9, ho9, g89, g2, hR9⟩ := hW i9 j (124 * m) c K n h9 hS9
          rw [nz_eq (i := i) (fun a f z => (hu89 a f z).trans (h89 a f z))] at hC9 hD9 ho9
          have hsv9 : ∀ a f, 13 ≤ a → k1 a f = svI i9 a f := ho9.elim (fun z => absurd z.1 (Int32.not_lt.mpr h293)) (fun z => z.2)
          have hdg9 := k_X6_digest (g := g) (i := i9) (j := j) 5 (h9.2.1.2.2.2.2.2.2.2.1) hc6
          rw [stF_ib hib hc6] at hdg9
          refine L_iload_6 dL_law_318 ?_
          refine V_bipush (v := 24) (by decide) dL_law_320 ?_
          refine V_ishr dL_law_322 ?_
          refine V_iconst (v := 3) (by decide) dL_law_323 ?_
          refine V_iand dL_law_324 ?_
          refine V_ifx_ne (tgt := 360) dL_law_325 (by decide) (fun h325 => ?_) (fun h325 => ?_)
          · exact V_less (by omega) (by omega) (fin kd a _ _ _ i1 i2 _ _ _ hD (hS2 hS1) hR)
          · refine L_aload_n_1 dL_law_328 ?_
            refine V_less (kc' := 17 * r + 15 + 1) (ks' := 102 * r + 90 + 6) (by omega) (by omega) ?_
            refine Q_w1 (kc := 17 * r + 15) (ks := 102 * r + 90) (kc' := 1) (ks' := 6) (lkW_RL_225 rfl dL_law_329) (hU) pn_L_undo (Nat.le_of_ble_eq_true rfl) (Nat.le_of_ble_eq_true rfl) rfl (by omega) (Nat.le_of_ble_eq_true rfl) ?_
            refine V_ifx_lt (tgt := 358) dL_law_332 (by decide) (fun h332 => ?_) (fun h332 => ?_)
            · exact absurd h332 hu0
            · refine L_aload_n_1 dL_law_335 ?_
              refine Q_v1 (lkR_RL_215 rfl dL_law_336) (hdg9) ⟨pn_X6_digest, rfl, (Nat.le_of_ble_eq_true rfl), (Nat.le_of_ble_eq_true rfl), rfl⟩ (⟨_, _, rfl, rfl, rfl⟩) (cfS cf6) (by omega) (Nat.le_of_ble_eq_true rfl) ?_
              refine L_lload_10 dL_law_339 ?_
              refine V_lcmp dL_law_341 ?_
              refine V_eqv (y := 0) (cmp_self _) ?_
              refine V_ifx_ne (tgt := 358) dL_law_342 (by decide) (fun h342 => ?_) (fun h342 => ?_)
              · exfalso; revert h342; decide
              · refine L_aload_n_1 dL_law_345 ?_
                refine L_iload_8 dL_law_346 ?_
                refine L_iload_9 dL_law_348 ?_
                refine Q_k3 (kc := 17 * r + 14) (ks := 102 * r + 84) (kc' := 1) (ks' := 6) (lkR_RL_222 rfl dL_law_350) (hC9) ⟨pn_L_call, rfl, (Nat.le_of_ble_eq_true rfl), (Nat.le_of_ble_eq_true rfl), rfl⟩ (trivial) cfn (by omega) (Nat.le_of_ble_eq_true rfl) ?_
                refine L_iload_13 dL_law_353 ?_
                refine V_icmp_eq (tgt := 360) dL_law_355 (by decide) (fun h355 => ?_) (fun h355 => ?_)
                · exact fin kd a _ _ _ k1 k2 _ _ _ hD9 (SX_same (SX_sv hsv9) (g2 _ _ (by omega)) (g2 _ _ (by omega))) hR9
                · exact absurd rfl h355
      · rcases ho with ⟨-, e⟩ | ⟨z, -⟩
        · subst e
          refine L_aload_n_1 dL_law_296 ?_
          refine Q_v1 (lkR_RL_215 rfl dL_law_297) (hdg) ⟨pn_X6_digest, rfl, (Nat.le_of_ble_eq_true rfl), (Nat.le_of_ble_eq_true rfl), rfl⟩ (⟨_, _, rfl, rfl, rfl⟩) (cfS cf6) (by omega) (Nat.le_of_ble_eq_true rfl) ?_
          refine L_lload_10 dL_law_300 ?_
          refine V_lcmp dL_law_302 ?_
          refine V_eqv (y := 0) (cmp_self _) ?_
          refine V_ifx_ne (tgt := 358) dL_law_303 (by decide) (fun h303 => ?_) (fun h303 => ?_)
          · exfalso; revert h303; decide
          · refine L_aload_n_1 dL_law_306 ?_
            refine Q_v1 (lkR_RL_219 rfl dL_law_307) (hsv0) ⟨pn_X6_savedStates, rfl, (Nat.le_of_ble_eq_true rfl), (Nat.le_of_ble_eq_true rfl), rfl⟩ (⟨_, _, rfl, rfl, rfl⟩) (cfS cf6) (by omega) (Nat.le_of_ble_eq_true rfl) ?_
            refine L_iload_12 dL_law_310 ?_
            refine V_icmp_eq (tgt := 360) dL_law_312 (by decide) (fun h312 => ?_) (fun h312 => ?_)
            · exact V_less (by omega) (by omega) (fin kd a _ _ _ _ i2 _ _ _ hD (hS2 hS) hR)
            · exact absurd rfl h312
        · exact absurd (Int32.not_le.mp h293) z
    refine V_less (kc' := 17 * r + 17) (ks' := 102 * r + 102) (by omega) (by omega) ?_
    refine L_iload_5 dL_law_54 ?_
    refine V_bipush (v := 60) (by decide) dL_law_56 ?_
    refine V_icmp_ge (tgt := 399) dL_law_58 (by decide) (fun h58 => ?_) (fun h58 => ?_)
    · exact absurd ((nI_leI (a := 60) (b := m) (by omega) (by omega)).mp h58) (by omega)
    · refine L_aload_n_0 dL_law_61 ?_
      refine V_iconst (v := 2) (by decide) dL_law_62 ?_
      refine L_iload_5 dL_law_63 ?_
      refine V_imul dL_law_65 ?_
      refine V_eqv (y := nI (2 * m)) (pk_mul 2 m) ?_
      refine Q_v2 (lkR_RL_211 rfl dL_law_66) (hx i j) ⟨pn_L_cell, rfl, (Nat.le_of_ble_eq_true rfl), (Nat.le_of_ble_eq_true rfl), rfl⟩ (trivial) cfn (by omega) (Nat.le_of_ble_eq_true rfl) ?_
      refine V_istore_6 dL_law_69 (Nat.le_of_ble_eq_true rfl) rfl ?_
      refine L_aload_n_0 dL_law_71 ?_
      refine V_iconst (v := 2) (by decide) dL_law_72 ?_
      refine L_iload_5 dL_law_73 ?_
      refine V_imul dL_law_75 ?_
      refine V_eqv (y := nI (2 * m)) (pk_mul 2 m) ?_
      refine V_iconst (v := 1) (by decide) dL_law_76 ?_
      refine V_iadd dL_law_77 ?_
      refine V_eqv (y := nI (2 * m + 1)) (nI_1 (2 * m)) ?_
      refine Q_v2 (lkR_RL_211 rfl dL_law_78) (hy i j) ⟨pn_L_cell, rfl, (Nat.le_of_ble_eq_true rfl), (Nat.le_of_ble_eq_true rfl), rfl⟩ (trivial) cfn (by omega) (Nat.le_of_ble_eq_true rfl) ?_
      refine V_istore_7 dL_law_81 (Nat.le_of_ble_eq_true rfl) rfl ?_
      refine L_iload_6 dL_law_83 ?_
      refine V_bipush (v := 30) (by decide) dL_law_85 ?_
      refine Q_v2 (lkR_RL_176 rfl dL_law_87) (lq) ⟨pn_L_low, rfl, (Nat.le_of_ble_eq_true rfl), (Nat.le_of_ble_eq_true rfl), rfl⟩ (trivial) cfn (by omega) (Nat.le_of_ble_eq_true rfl) ?_
      refine V_istore_8 dL_law_90 (Nat.le_of_ble_eq_true rfl) rfl ?_
      refine L_iload_8 dL_law_92 ?_
      refine V_bipush (v := 8) (by decide) dL_law_94 ?_
      refine V_icmp_ge (tgt := 103) dL_law_96 (by decide) (fun h96 => ?_) (fun h96 => ?_)
      · refine L_iload_8 dL_law_103 ?_
        refine V_bipush (v := 11) (by decide) dL_law_105 ?_
        refine V_icmp_ge (tgt := 114) dL_law_107 (by decide) (fun h107 => ?_) (fun h107 => ?_)
        · refine L_iload_8 dL_law_114 ?_
          refine V_bipush (v := 16) (by decide) dL_law_116 ?_
          refine V_icmp_ge (tgt := 125) dL_law_118 (by decide) (fun h118 => ?_) (fun h118 => ?_)
          · refine L_iload_8 dL_law_125 ?_
            refine V_bipush (v := 22) (by decide) dL_law_127 ?_
            refine V_icmp_ge (tgt := 136) dL_law_129 (by decide) (fun h129 => ?_) (fun h129 => ?_)
            · refine L_iload_8 dL_law_136 ?_
              refine V_bipush (v := 24) (by decide) dL_law_138 ?_
              refine V_icmp_ge (tgt := 147) dL_law_140 (by decide) (fun h140 => ?_) (fun h140 => ?_)
              · refine L_iload_8 dL_law_147 ?_
                refine V_bipush (v := 26) (by decide) dL_law_149 ?_
                refine V_icmp_ge (tgt := 167) dL_law_151 (by decide) (fun h151 => ?_) (fun h151 => ?_)
                · refine L_iload_8 dL_law_167 ?_
                  refine V_bipush (v := 26) (by decide) dL_law_169 ?_
                  refine V_icmp_ne (tgt := 179) dL_law_171 (by decide) (fun h171 => ?_) (fun h171 => ?_)
                  · refine L_iload_8 dL_law_179 ?_
                    refine V_bipush (v := 27) (by decide) dL_law_181 ?_
                    refine V_icmp_ne (tgt := 191) dL_law_183 (by decide) (fun h183 => ?_) (fun h183 => ?_)
                    · refine L_iload_8 dL_law_191 ?_
                      refine V_bipush (v := 28) (by decide) dL_law_193 ?_
                      refine V_icmp_ne (tgt := 203) dL_law_195 (by decide) (fun h195 => ?_) (fun h195 => ?_)
                      · refine V_bipush (v := 6) (by decide) dL_law_203 ?_
                        refine V_istore_8 dL_law_205 (Nat.le_of_ble_eq_true rfl) rfl ?_
                        refine L_iload_8 dL_law_207 ?_
                        refine V_iconst (v := 2) (by decide) dL_law_209 ?_
                        refine V_icmp_ge (tgt := 223) dL_law_210 (by decide) (fun h210 => ?_) (fun h210 => ?_)
                        · refine L_iload_8 dL_law_223 ?_
                          refine V_bipush (v := 7) (by decide) dL_law_225 ?_
                          refine V_icmp_ne (tgt := 240) dL_law_227 (by decide) (fun h227 => ?_) (fun h227 => ?_)
                          · refine L_iload_8 dL_law_240 ?_
                            refine V_bipush (v := 8) (by decide) dL_law_242 ?_
                            refine V_icmp_ne (tgt := 259) dL_law_244 (by decide) (fun h244 => ?_) (fun h244 => ?_)
                            · refine L_iload_7 dL_law_259 ?_
                              refine V_iconst (v := 4) (by decide) dL_law_261 ?_
                              refine Q_v2 (lkR_RL_176 rfl dL_law_262) (lb4) ⟨pn_L_low, rfl, (Nat.le_of_ble_eq_true rfl), (Nat.le_of_ble_eq_true rfl), rfl⟩ (trivial) cfn (by omega) (Nat.le_of_ble_eq_true rfl) ?_
                              refine V_istore_9 dL_law_265 (Nat.le_of_ble_eq_true rfl) rfl ?_
                              exact join _ _ (Or.inr (Or.inr (Or.inr (Or.inr (Or.inr (Or.inr (Or.inl ⟨rfl, b4, hb4, rfl⟩)))))))
                            · exfalso; revert h244; decide
                          · exfalso; revert h227; decide
                        · exfalso; revert h210; decide
                      · refine V_bipush (v := 9) (by decide) dL_law_198 ?_
                        refine V_goto (tgt := 205) dL_law_200 (by decide) ?_
                        refine V_istore_8 dL_law_205 (Nat.le_of_ble_eq_true rfl) rfl ?_
                        refine L_iload_8 dL_law_207 ?_
                        refine V_iconst (v := 2) (by decide) dL_law_209 ?_
                        refine V_icmp_ge (tgt := 223) dL_law_210 (by decide) (fun h210 => ?_) (fun h210 => ?_)
                        · refine L_iload_8 dL_law_223 ?_
                          refine V_bipush (v := 7) (by decide) dL_law_225 ?_
                          refine V_icmp_ne (tgt := 240) dL_law_227 (by decide) (fun h227 => ?_) (fun h227 => ?_)
                          · refine L_iload_8 dL_law_240 ?_
                            refine V_bipush (v := 8) (by decide) dL_law_242 ?_
                            refine V_icmp_ne (tgt := 259) dL_law_244 (by decide) (fun h244 => ?_) (fun h244 => ?_)
                            · refine L_iload_7 dL_law_259 ?_
                              refine V_iconst (v := 4) (by decide) dL_law_261 ?_
                              refine Q_v2 (lkR_RL_176 rfl dL_law_262) (lb4) ⟨pn_L_low, rfl, (Nat.le_of_ble_eq_true rfl), (Nat.le_of_ble_eq_true rfl), rfl⟩ (trivial) cfn (by omega) (Nat.le_of_ble_eq_true rfl) ?_
                              refine V_istore_9 dL_law_265 (Nat.le_of_ble_eq_true rfl) rfl ?_
                              exact join _ _ (Or.inr (Or.inr (Or.inr (Or.inr (Or.inr (Or.inr (Or.inr (Or.inr (Or.inr ⟨rfl, b4, hb4, rfl⟩)))))))))
                            · exfalso; revert h244; decide
                          · exfalso; revert h227; decide
                        · exfalso; revert h210; decide
                    · refine V_bipush (v := 8) (by decide) dL_law_186 ?_
                      refine V_goto (tgt := 205) dL_law_188 (by decide) ?_
                      refine V_istore_8 dL_law_205 (Nat.le_of_ble_eq_true rfl) rfl ?_
                      refine L_iload_8 dL_law_207 ?_
                      refine V_iconst (v := 2) (by decide) dL_law_209 ?_
                      refine V_icmp_ge (tgt := 223) dL_law_210 (by decide) (fun h210 => ?_) (fun h210 => ?_)
                      · refine L_iload_8 dL_law_223 ?_
                        refine V_bipush (v := 7) (by decide) dL_law_225 ?_
                        refine V_icmp_ne (tgt := 240) dL_law_227 (by decide) (fun h227 => ?_) (fun h227 => ?_)
                        · refine L_iload_8 dL_law_240 ?_
                          refine V_bipush (v := 8) (by decide) dL_law_242 ?_
                          refine V_icmp_ne (tgt := 259) dL_law_244 (by decide) (fun h244 => ?_) (fun h244 => ?_)
                          · exfalso; revert h244; decide
                          · refine V_iconst (v := 1) (by decide) dL_law_247 ?_
                            refine L_iload_7 dL_law_248 ?_
                            refine V_bipush (v := 6) (by decide) dL_law_250 ?_
                            refine Q_v2 (lkR_RL_176 rfl dL_law_252) (lb6) ⟨pn_L_low, rfl, (Nat.le_of_ble_eq_true rfl), (Nat.le_of_ble_eq_true rfl), rfl⟩ (trivial) cfn (by omega) (Nat.le_of_ble_eq_true rfl) ?_
                            refine V_iadd dL_law_255 ?_
                            refine V_eqv (y := nI (1 + b6)) (nI_add 1 b6) ?_
                            refine V_goto (tgt := 265) dL_law_256 (by decide) ?_
                            refine V_istore_9 dL_law_265 (Nat.le_of_ble_eq_true rfl) rfl ?_
                            exact join _ _ (Or.inr (Or.inr (Or.inr (Or.inr (Or.inr (Or.inr (Or.inr (Or.inr (Or.inl ⟨rfl, 1 + b6, by omega, by omega, rfl⟩)))))))))
                        · exfalso; revert h227; decide
                      · exfalso; revert h210; decide
                  · refine V_bipush (v := 7) (by decide) dL_law_174 ?_
                    refine V_goto (tgt := 205) dL_law_176 (by decide) ?_
                    refine V_istore_8 dL_law_205 (Nat.le_of_ble_eq_true rfl) rfl ?_
                    refine L_iload_8 dL_law_207 ?_
                    refine V_iconst (v := 2) (by decide) dL_law_209 ?_
                    refine V_icmp_ge (tgt := 223) dL_law_210 (by decide) (fun h210 => ?_) (fun h210 => ?_)
                    · refine L_iload_8 dL_law_223 ?_
                      refine V_bipush (v := 7) (by decide) dL_law_225 ?_
                      refine V_icmp_ne (tgt := 240) dL_law_227 (by decide) (fun h227 => ?_) (fun h227 => ?_)
                      · exfalso; revert h227; decide
                      · refine L_iload_7 dL_law_230 ?_
                        refine V_bipush (v := 16) (by decide) dL_law_232 ?_
                        refine Q_v2 (lkR_RL_176 rfl dL_law_234) (lb16) ⟨pn_L_low, rfl, (Nat.le_of_ble_eq_true rfl), (Nat.le_of_ble_eq_true rfl), rfl⟩ (trivial) cfn (by omega) (Nat.le_of_ble_eq_true rfl) ?_
                        refine V_goto (tgt := 265) dL_law_237 (by decide) ?_
                        refine V_istore_9 dL_law_265 (Nat.le_of_ble_eq_true rfl) rfl ?_
                        exact join _ _ (Or.inr (Or.inr (Or.inr (Or.inr (Or.inr (Or.inr (Or.inr (Or.inl ⟨rfl, b16, hb16, rfl⟩))))))))
                    · exfalso; revert h210; decide
                · refine V_iconst (v := 5) (by decide) dL_law_154 ?_
                  refine L_iload_6 dL_law_155 ?_
                  refine V_iconst (v := 5) (by decide) dL_law_157 ?_
                  refine V_ishr dL_law_158 ?_
                  refine V_iconst (v := 2) (by decide) dL_law_159 ?_
                  refine Q_v2 (lkR_RL_176 rfl dL_law_160) (lq2) ⟨pn_L_low, rfl, (Nat.le_of_ble_eq_true rfl), (Nat.le_of_ble_eq_true rfl), rfl⟩ (trivial) cfn (by omega) (Nat.le_of_ble_eq_true rfl) ?_
                  rcases (by omega : q2 = 0 ∨ q2 = 1) with rfl | rfl
                  · refine V_iadd dL_law_163 ?_
                    refine V_eqv (y := 5) (by decide) ?_
                    refine V_goto (tgt := 205) dL_law_164 (by decide) ?_
                    refine V_istore_8 dL_law_205 (Nat.le_of_ble_eq_true rfl) rfl ?_
                    refine L_iload_8 dL_law_207 ?_
                    refine V_iconst (v := 2) (by decide) dL_law_209 ?_
                    refine V_icmp_ge (tgt := 223) dL_law_210 (by decide) (fun h210 => ?_) (fun h210 => ?_)
                    · refine L_iload_8 dL_law_223 ?_
                      refine V_bipush (v := 7) (by decide) dL_law_225 ?_
                      refine V_icmp_ne (tgt := 240) dL_law_227 (by decide) (fun h227 => ?_) (fun h227 => ?_)
                      · refine L_iload_8 dL_law_240 ?_
                        refine V_bipush (v := 8) (by decide) dL_law_242 ?_
                        refine V_icmp_ne (tgt := 259) dL_law_244 (by decide) (fun h244 => ?_) (fun h244 => ?_)
                        · refine L_iload_7 dL_law_259 ?_
                          refine V_iconst (v := 4) (by decide) dL_law_261 ?_
                          refine Q_v2 (lkR_RL_176 rfl dL_law_262) (lb4) ⟨pn_L_low, rfl, (Nat.le_of_ble_eq_true rfl), (Nat.le_of_ble_eq_true rfl), rfl⟩ (trivial) cfn (by omega) (Nat.le_of_ble_eq_true rfl) ?_
                          refine V_istore_9 dL_law_265 (Nat.le_of_ble_eq_true rfl) rfl ?_
                          exact join _ _ (Or.inr (Or.inr (Or.inr (Or.inr (Or.inr (Or.inl ⟨rfl, b4, hb4, rfl⟩))))))
                        · exfalso; revert h244; decide
                      · exfalso; revert h227; decide
                    · exfalso; revert h210; decide
                  · refine V_iadd dL_law_163 ?_
                    refine V_eqv (y := 6) (by decide) ?_
                    refine V_goto (tgt := 205) dL_law_164 (by decide) ?_
                    refine V_istore_8 dL_law_205 (Nat.le_of_ble_eq_true rfl) rfl ?_
                    refine L_iload_8 dL_law_207 ?_
                    refine V_iconst (v := 2) (by decide) dL_law_209 ?_
                    refine V_icmp_ge (tgt := 223) dL_law_210 (by decide) (fun h210 => ?_) (fun h210 => ?_)
                    · refine L_iload_8 dL_law_223 ?_
                      refine V_bipush (v := 7) (by decide) dL_law_225 ?_
                      refine V_icmp_ne (tgt := 240) dL_law_227 (by decide) (fun h227 => ?_) (fun h227 => ?_)
                      · refine L_iload_8 dL_law_240 ?_
                        refine V_bipush (v := 8) (by decide) dL_law_242 ?_
                        refine V_icmp_ne (tgt := 259) dL_law_244 (by decide) (fun h244 => ?_) (fun h244 => ?_)
                        · refine L_iload_7 dL_law_259 ?_
                          refine V_iconst (v := 4) (by decide) dL_law_261 ?_
                          refine Q_v2 (lkR_RL_176 rfl dL_law_262) (lb4) ⟨pn_L_low, rfl, (Nat.le_of_ble_eq_true rfl), (Nat.le_of_ble_eq_true rfl), rfl⟩ (trivial) cfn (by omega) (Nat.le_of_ble_eq_true rfl) ?_
                          refine V_istore_9 dL_law_265 (Nat.le_of_ble_eq_true rfl) rfl ?_
                          exact join _ _ (Or.inr (Or.inr (Or.inr (Or.inr (Or.inr (Or.inr (Or.inl ⟨rfl, b4, hb4, rfl⟩)))))))
                        · exfalso; revert h244; decide
                      · exfalso; revert h227; decide
                    · exfalso; revert h210; decide
              · refine V_iconst (v := 4) (by decide) dL_law_143 ?_
                refine V_goto (tgt := 205) dL_law_144 (by decide) ?_
                refine V_istore_8 dL_law_205 (Nat.le_of_ble_eq_true rfl) rfl ?_
                refine L_iload_8 dL_law_207 ?_
                refine V_iconst (v := 2) (by decide) dL_law_209 ?_
                refine V_icmp_ge (tgt := 223) dL_law_210 (by decide) (fun h210 => ?_) (fun h210 => ?_)
                · refine L_iload_8 dL_law_223 ?_
                  refine V_bipush (v := 7) (by decide) dL_law_225 ?_
                  refine V_icmp_ne (tgt := 240) dL_law_227 (by decide) (fun h227 => ?_) (fun h227 => ?_)
                  · refine L_iload_8 dL_law_240 ?_
                    refine V_bipush (v := 8) (by decide) dL_law_242 ?_
                    refine V_icmp_ne (tgt := 259) dL_law_244 (by decide) (fun h244 => ?_) (fun h244 => ?_)
                    · refine L_iload_7 dL_law_259 ?_
                      refine V_iconst (v := 4) (by decide) dL_law_261 ?_
                      refine Q_v2 (lkR_RL_176 rfl dL_law_262) (lb4) ⟨pn_L_low, rfl, (Nat.le_of_ble_eq_true rfl), (Nat.le_of_ble_eq_true rfl), rfl⟩ (trivial) cfn (by omega) (Nat.le_of_ble_eq_true rfl) ?_
                      refine V_istore_9 dL_law_265 (Nat.le_of_ble_eq_true rfl) rfl ?_
                      exact join _ _ (Or.inr (Or.inr (Or.inr (Or.inr (Or.inl rfl)))))
                    · exfalso; revert h244; decide
                  · exfalso; revert h227; decide
                · exfalso; revert h210; decide
            · refine V_iconst (v := 3) (by decide) dL_law_132 ?_
              refine V_goto (tgt := 205) dL_law_133 (by decide) ?_
              refine V_istore_8 dL_law_205 (Nat.le_of_ble_eq_true rfl) rfl ?_
              refine L_iload_8 dL_law_207 ?_
              refine V_iconst (v := 2) (by decide) dL_law_209 ?_
              refine V_icmp_ge (tgt := 223) dL_law_210 (by decide) (fun h210 => ?_) (fun h210 => ?_)
              · refine L_iload_8 dL_law_223 ?_
                refine V_bipush (v := 7) (by decide) dL_law_225 ?_
                refine V_icmp_ne (tgt := 240) dL_law_227 (by decide) (fun h227 => ?_) (fun h227 => ?_)
                · refine L_iload_8 dL_law_240 ?_
                  refine V_bipush (v := 8) (by decide) dL_law_242 ?_
                  refine V_icmp_ne (tgt := 259) dL_law_244 (by decide) (fun h244 => ?_) (fun h244 => ?_)
                  · refine L_iload_7 dL_law_259 ?_
                    refine V_iconst (v := 4) (by decide) dL_law_261 ?_
                    refine Q_v2 (lkR_RL_176 rfl dL_law_262) (lb4) ⟨pn_L_low, rfl, (Nat.le_of_ble_eq_true rfl), (Nat.le_of_ble_eq_true rfl), rfl⟩ (trivial) cfn (by omega) (Nat.le_of_ble_eq_true rfl) ?_
                    refine V_istore_9 dL_law_265 (Nat.le_of_ble_eq_true rfl) rfl ?_
                    exact join _ _ (Or.inr (Or.inr (Or.inr (Or.inl ⟨rfl, b4, hb4, rfl⟩))))
                  · exfalso; revert h244; decide
                · exfalso; revert h227; decide
              · exfalso; revert h210; decide
          · refine V_iconst (v := 2) (by decide) dL_law_121 ?_
            refine V_goto (tgt := 205) dL_law_122 (by decide) ?_
            refine V_istore_8 dL_law_205 (Nat.le_of_ble_eq_true rfl) rfl ?_
            refine L_iload_8 dL_law_207 ?_
            refine V_iconst (v := 2) (by decide) dL_law_209 ?_
            refine V_icmp_ge (tgt := 223) dL_law_210 (by decide) (fun h210 => ?_) (fun h210 => ?_)
            · refine L_iload_8 dL_law_223 ?_
              refine V_bipush (v := 7) (by decide) dL_law_225 ?_
              refine V_icmp_ne (tgt := 240) dL_law_227 (by decide) (fun h227 => ?_) (fun h227 => ?_)
              · refine L_iload_8 dL_law_240 ?_
                refine V_bipush (v := 8) (by decide) dL_law_242 ?_
                refine V_icmp_ne (tgt := 259) dL_law_244 (by decide) (fun h244 => ?_) (fun h244 => ?_)
                · refine L_iload_7 dL_law_259 ?_
                  refine V_iconst (v := 4) (by decide) dL_law_261 ?_
                  refine Q_v2 (lkR_RL_176 rfl dL_law_262) (lb4) ⟨pn_L_low, rfl, (Nat.le_of_ble_eq_true rfl), (Nat.le_of_ble_eq_true rfl), rfl⟩ (trivial) cfn (by omega) (Nat.le_of_ble_eq_true rfl) ?_
                  refine V_istore_9 dL_law_265 (Nat.le_of_ble_eq_true rfl) rfl ?_
                  exact join _ _ (Or.inr (Or.inr (Or.inl rfl)))
                · exfalso; revert h244; decide
              · exfalso; revert h227; decide
            · exfalso; revert h210; decide
        · refine V_iconst (v := 1) (by decide) dL_law_110 ?_
          refine V_goto (tgt := 205) dL_law_111 (by decide) ?_
          refine V_istore_8 dL_law_205 (Nat.le_of_ble_eq_true rfl) rfl ?_
          refine L_iload_8 dL_law_207 ?_
          refine V_iconst (v := 2) (by decide) dL_law_209 ?_
          refine V_icmp_ge (tgt := 223) dL_law_210 (by decide) (fun h210 => ?_) (fun h210 => ?_)
          · exfalso; revert h210; decide
          · refine L_iload_7 dL_law_213 ?_
            refine V_bipush (v := 30) (by decide) dL_law_215 ?_
            refine Q_v2 (lkR_RL_176 rfl dL_law_217) (lb30) ⟨pn_L_low, rfl, (Nat.le_of_ble_eq_true rfl), (Nat.le_of_ble_eq_true rfl), rfl⟩ (trivial) cfn (by omega) (Nat.le_of_ble_eq_true rfl) ?_
            refine V_goto (tgt := 265) dL_law_220 (by decide) ?_
            refine V_istore_9 dL_law_265 (Nat.le_of_ble_eq_true rfl) rfl ?_
            exact join _ _ (Or.inr (Or.inl ⟨rfl, b30, hb30, rfl⟩))
      · refine V_iconst (v := 0) (by decide) dL_law_99 ?_
        refine V_goto (tgt := 205) dL_law_100 (by decide) ?_
        refine V_istore_8 dL_law_205 (Nat.le_of_ble_eq_true rfl) rfl ?_
        refine L_iload_8 dL_law_207 ?_
        refine V_iconst (v := 2) (by decide) dL_law_209 ?_
        refine V_icmp_ge (tgt := 223) dL_law_210 (by decide) (fun h210 => ?_) (fun h210 => ?_)
        · exfalso; revert h210; decide
        · refine L_iload_7 dL_law_213 ?_
          refine V_bipush (v := 30) (by decide) dL_law_215 ?_
          refine Q_v2 (lkR_RL_176 rfl dL_law_217) (lb30) ⟨pn_L_low, rfl, (Nat.le_of_ble_eq_true rfl), (Nat.le_of_ble_eq_true rfl), rfl⟩ (trivial) cfn (by omega) (Nat.le_of_ble_eq_true rfl) ?_
          refine V_goto (tgt := 265) dL_law_220 (by decide) ?_
          refine V_istore_9 dL_law_265 (Nat.le_of_ble_eq_true rfl) rfl ?_
          exact join _ _ (Or.inl ⟨rfl, b30, hb30, rfl⟩)
end LAW
