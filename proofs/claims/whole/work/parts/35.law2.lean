theorem and63 (x : Int32) : ∃ c, c ≤ 63 ∧ x &&& 63 = nI c := by
  have h : (x &&& 63).toUInt32.toNat = x.toUInt32.toNat % 64 := by
    show (x.toUInt32 &&& 63).toNat = _
    rw [UInt32.toNat_and]
    exact Nat.and_two_pow_sub_one_eq_mod _ 6
  refine ⟨x.toUInt32.toNat % 64, by omega, ?_⟩
  refine congrArg Int32.ofUInt32 (a₁ := (x &&& 63).toUInt32) (a₂ := (nI (x.toUInt32.toNat % 64)).toUInt32) (UInt32.toNat_inj.mp ?_)
  rw [h]
  show _ = (UInt32.ofNat _).toNat
  rw [UInt32.toNat_ofNat']
  omega
theorem scr_le {l a : Nat} (hl : l < 2 ^ 30) (ha : a < 2 ^ 30) (h : ¬ nI l - 3 < nI a) : a + 3 ≤ l := by
  rcases Nat.lt_or_ge l 3 with h3 | h3
  · exfalso
    have h4 : nI l - nI 3 < 0 := pk_sneg (by omega) h3
    exact h (Int32.lt_of_lt_of_le h4 (Int32.not_lt.mp (nI_pos (by omega))))
  · rw [show (3 : Int32) = nI 3 from rfl, pk_sub h3] at h
    have := mt (nI_ltI (a := l - 3) (b := a) (by omega) (by omega)).mpr h
    omega
theorem scr_gt {l a : Nat} (hl : l < 2 ^ 30) (ha : a < 2 ^ 30) (h : l < a + 3) : nI l - 3 < nI a := Classical.byContradiction fun z => by
  have := scr_le hl ha z
  omega
theorem cmp_self (x : Int64) : lg_cmp x x = 0 := by unfold lg_cmp; simp
abbrev mL (nm : String) (hh : List (Nat × Nat × Nat × Nat)) : M0 := (⟨RL, nm, "([I)Z"⟩, cL_law, 9, some .boolean, hh)
section LAW
variable (g : G0) (INV : (Nat → Nat → Int32) → Nat → Prop)
abbrev LC (M : M0) (kc ks : Nat) (As : List Value) (w : Wd) (v : Value) (w' : Wd) : Prop := C g M 10 kc ks false As w (rets (some v) w')
/-- a call of a method that may throw, and the reference's answer -/
def St (ML MM : M0) (xs : List Value) : Prop := ∀ i j t, t < 512 → INV i t → ∃ (kk b : Int32) (i1 : Nat → Nat → Int32) (j1 : Nat → Nat → Int64) (i2 : Nat → Nat → Int32), LC g ML 1 6 (.ref 0 :: (xs ++ [.ref 93])) (mk i j) (.int kk) (mk i1 j1) ∧ LC g MM 0 0 (.ref 89 :: xs) (mk i1 j1) (.int b) (mk i2 j1) ∧ i2 89 0 = kk ∧ (kk = 0 → j1 93 0 = b.toInt64) ∧ INV i2 (t + 1)
def StB (ML MM : M0) (xs : List Value) : Prop := ∀ i j t, t < 512 → INV i t → ∃ (kk b : Int32) (i1 : Nat → Nat → Int32) (j1 : Nat → Nat → Int64) (i2 : Nat → Nat → Int32), LC g ML 1 6 (.ref 0 :: (xs ++ [.ref 93])) (mk i j) (.int kk) (mk i1 j1) ∧ LC g MM 0 0 (.ref 89 :: xs) (mk i1 j1) (.int b) (mk i2 j1) ∧ i2 89 0 = kk ∧ (kk = 0 → j1 93 0 = b.toInt64) ∧ (b = 0 ∨ b = 1) ∧ INV i2 (t + 1)
def StP (MX MM : M0) : Prop := ∀ i j t, t < 512 → INV i t → ∃ (v : Int32) (i1 i2 : Nat → Nat → Int32), LC g MX 0 0 [.ref 0] (mk i j) (.int v) (mk i1 j) ∧ LC g MM 0 0 [.ref 89] (mk i1 j) (.int v) (mk i2 j) ∧ INV i2 (t + 1)
def StD (MX MM : M0) : Prop := ∀ i j t, t < 512 → INV i t → ∃ (v : UInt64) (i1 i2 : Nat → Nat → Int32), LC g MX 0 0 [.ref 0] (mk i j) (.double v) (mk i1 j) ∧ LC g MM 0 0 [.ref 89] (mk i1 j) (.double v) (mk i2 j) ∧ INV i2 (t + 1)
def StL (MX MM : M0) : Prop := ∀ i j t, t < 512 → INV i t → ∃ (v : Int64) (i1 i2 : Nat → Nat → Int32) (j2 : Nat → Nat → Int64), LC g MX 0 0 [.ref 0] (mk i j) (.long v) (mk i1 j) ∧ LC g MM 0 0 [.ref 89] (mk i1 j) (.long v) (mk i2 j2) ∧ INV i2 (t + 1)
end LAW
section LAWR
variable {g : G0} {M M' : M0} {kc ks n : Nat} {K : K0} {pc : Nat} {L : List (Option Value)} {S : List Value} {w w' : Wd} {v : Value}
theorem U_w2 {a0 a1 : Value} (hL : LkW g M pc M' n) (hC : LC g M' 1 6 [a0, a1] w v w') (hn : plainName M'.nm.cls = true) (hml : M'.ml ≤ 17) (hl : (ini [a0, a1]).length ≤ M'.ml) (hlen : [a0, a1].length = n) (hr : (S.map fun v => v.category).sum ≤ 8) (kk : V g M 11 kc ks false K (pc + 3) L (v :: S) w') : V g M 11 (kc + 1) (ks + 6) false K pc L (a1 :: a0 :: S) w := V_callW (As := [a0, a1]) hL hC hn hml hl hlen (Nat.le_refl _) (by omega) (by omega) hr kk
theorem U_w3 {a0 a1 a2 : Value} (hL : LkW g M pc M' n) (hC : LC g M' 1 6 [a0, a1, a2] w v w') (hn : plainName M'.nm.cls = true) (hml : M'.ml ≤ 17) (hl : (ini [a0, a1, a2]).length ≤ M'.ml) (hlen : [a0, a1, a2].length = n) (hr : (S.map fun v => v.category).sum ≤ 8) (kk : V g M 11 kc ks false K (pc + 3) L (v :: S) w') : V g M 11 (kc + 1) (ks + 6) false K pc L (a2 :: a1 :: a0 :: S) w := V_callW (As := [a0, a1, a2]) hL hC hn hml hl hlen (Nat.le_refl _) (by omega) (by omega) hr kk
theorem U_w4 {a0 a1 a2 a3 : Value} (hL : LkW g M pc M' n) (hC : LC g M' 1 6 [a0, a1, a2, a3] w v w') (hn : plainName M'.nm.cls = true) (hml : M'.ml ≤ 17) (hl : (ini [a0, a1, a2, a3]).length ≤ M'.ml) (hlen : [a0, a1, a2, a3].length = n) (hr : (S.map fun v => v.category).sum ≤ 8) (kk : V g M 11 kc ks false K (pc + 3) L (v :: S) w') : V g M 11 (kc + 1) (ks + 6) false K pc L (a3 :: a2 :: a1 :: a0 :: S) w := V_callW (As := [a0, a1, a2, a3]) hL hC hn hml hl hlen (Nat.le_refl _) (by omega) (by omega) hr kk
end LAWR
theorem law_loop {g : G0} {nm : String} {hh : List (Nat × Nat × Nat × Nat)} {INV : (Nat → Nat → Int32) → Nat → Prop} {K : K0} (hg : gL g ≤ 1536)
    (hskip : ∀ i t, INV i t → INV i (t + 1))
    (s0 : ∀ x : Int32, St g INV m_L_add m_X7_add [.int x])
    (s1 : ∀ x : Int32, St g INV m_L_crossOut m_X7_crossOut [.int x])
    (s2 : St g INV m_L_publish m_X7_publish [])
    (s3 : ∀ x : Int32, St g INV m_L_renumber m_X7_renumber [.int x])
    (s4 : ∀ x : Int32, St g INV m_L_setKeep m_X7_setKeep [.int x])
    (s5 : StP g INV m_X6_edition m_X7_edition)
    (s6 : StP g INV m_X6_draft m_X7_draft)
    (s7 : StP g INV m_X6_published m_X7_published)
    (s8 : ∀ x : Int32, St g INV m_L_where m_X7_where [.int x])
    (s9 : StP g INV m_X6_pending m_X7_pending)
    (s10 : StP g INV m_X6_kept m_X7_kept)
    (s11 : ∀ x : Int32, St g INV m_L_from m_X7_from [.int x])
    (s12 : ∀ x : Int32, St g INV m_L_cost m_X7_cost [.int x])
    (s13 : ∀ x y : Int32, St g INV m_L_compare m_X7_compare [.int x, .int y])
    (s14 : ∀ x : Int32, St g INV m_L_refresh m_X7_refresh [.int x])
    (s15 : StP g INV m_X6_refreshAll m_X7_refreshAll)
    (s16 : ∀ x : Int32, St g INV m_L_sleep m_X7_sleep [.int x])
    (s17 : ∀ x : Int32, St g INV m_L_wake m_X7_wake [.int x])
    (s18 : ∀ x : Int32, St g INV m_L_throwAway m_X7_throwAway [.int x])
    (s19 : ∀ x : Int32, St g INV m_L_editionOf m_X7_editionOf [.int x])
    (s20 : ∀ x : Int32, St g INV m_L_streets m_X7_streets [.int x])
    (s21 : ∀ x y : Int32, StB g INV m_L_has m_X7_has [.int x, .int y])
    (s22 : ∀ x : Int32, StB g INV m_L_isRight m_X7_isRight [.int x])
    (s23 : ∀ x : Int32, St g INV m_L_attention m_X7_attention [.int x])
    (s24 : ∀ x : Int32, St g INV m_L_costs m_X7_costs [.int x])
    (s25 : ∀ x : Int32, St g INV m_L_answer m_X7_answer [.int x])
    (s26 : ∀ x : Int32, St g INV m_L_costToCome m_X7_costToCome [.int x])
    (s27 : ∀ x : Int32, St g INV m_L_wrong m_X7_wrong [.int x])
    (s28 : StD g INV m_X6_savedShare m_X7_savedShare)
    (s29 : ∀ x : Int32, St g INV m_L_append m_X7_append [.int x])
    (s30 : StP g INV m_X6_clearText m_X7_clearText)
    (s31 : StP g INV m_X6_firstError m_X7_firstError)
    (s32 : St g INV m_L_run m_X7_run [])
    (s33 : St g INV m_L_undo m_X7_undo [])
    (s34 : StP g INV m_X6_savedStates m_X7_savedStates)
    (s35 : StL g INV m_X6_digest m_X7_digest)
    (hfin : ∀ (kc ks m : Nat) (i : Nat → Nat → Int32) (j : Nat → Nat → Int64), V g (mL nm hh) 11 kc ks false K 1776 [some (.ref 999), some (.ref 0), some (.ref 89), some (.ref 93), some (.int (nI (3 * m))), none, none, none, none] [] (mk i j)) :
    ∀ (r m : Nat) (i : Nat → Nat → Int32) (j : Nat → Nat → Int64), m + r = 512 → INV i m → V g (mL nm hh) 11 r (6 * r) false K 23 [some (.ref 999), some (.ref 0), some (.ref 89), some (.ref 93), some (.int (nI (3 * m))), none, none, none, none] [] (mk i j) := by
  have head : ∀ (kc ks m : Nat) (i : Nat → Nat → Int32) (j : Nat → Nat → Int64), m ≤ 512 → (3 * m + 3 ≤ gL g → V g (mL nm hh) 11 kc ks false K 32 [some (.ref 999), some (.ref 0), some (.ref 89), some (.ref 93), some (.int (nI (3 * m))), none, none, none, none] [] (mk i j)) → V g (mL nm hh) 11 kc ks false K 23 [some (.ref 999), some (.ref 0), some (.ref 89), some (.ref 93), some (.int (nI (3 * m))), none, none, none, none] [] (mk i j) := by
    intro kc ks m i j hm hk
    refine L_iload_4 dL_law_23 ?_
    refine L_aload_n_0 dL_law_25 ?_
    refine V_slen dL_law_26 ?_
    refine V_iconst (v := 3) (by decide) dL_law_27 ?_
    refine V_isub dL_law_28 ?_
    refine V_icmp_gt (tgt := 1776) dL_law_29 (by decide) (fun h29 => ?_) (fun h29 => ?_)
    · exact hfin _ _ _ _ _
    · exact hk (scr_le (by omega) (by omega) h29)
  intro r
  induction r with
  | zero =>
    intro m i j hm hI
    refine head _ _ _ _ _ (by omega) (fun h => ?_)
    omega
  | succ r ih =>
    intro m i j hm hI
    refine head _ _ _ _ _ (by omega) (fun h => ?_)
    refine V_less (kc' := r + 1) (ks' := 6 * r + 6) (by omega) (by omega) ?_
    have fin : ∀ (c5 c6 c7 c8 : Option Value) (i' : Nat → Nat → Int32) (j' : Nat → Nat → Int64), INV i' (m + 1) → c1 [some (Value.ref 999), some (.ref 0), some (.ref 89), some (.ref 93), some (.int (nI (3 * m))), c5, c6, c7, c8] 4 = true → V g (mL nm hh) 11 r (6 * r) false K 1770 [some (.ref 999), some (.ref 0), some (.ref 89), some (.ref 93), some (.int (nI (3 * m))), c5, c6, c7, c8] [] (mk i' j') := by
      intro c5 c6 c7 c8 i' j' hI' hc
      refine V_iinc_4 (v := nI (3 * (m + 1))) dL_law_1770 (Nat.le_of_ble_eq_true rfl) hc (by rw [show 3 * (m + 1) = 3 * m + 3 by omega]; exact nI_add (3 * m) 3) ?_
      refine V_goto (tgt := 23) dL_law_1773 (by decide) ?_
      refine V_locals (fun q9 h9 => ?_) (ih (m + 1) i' j' (by omega) hI')
      simp only [lcl, List.mem_cons, List.not_mem_nil, or_false] at h9
      have h10 : q9 ∈ (0, cv g (.ref 999)) :: (1, cv g (.ref 0)) :: (2, cv g (.ref 89)) :: (3, cv g (.ref 93)) :: (4, cv g (.int (nI (3 * (m + 1))))) :: lcl g 5 [c5, c6, c7, c8] := by
        simp only [List.mem_cons]
        rcases h9 with h9 | h9 | h9 | h9 | h9 <;> simp [h9]
      exact h10
    have fin0 : V g (mL nm hh) 11 (r + 1) (6 * r + 6) false K 1770 [some (.ref 999), some (.ref 0), some (.ref 89), some (.ref 93), some (.int (nI (3 * m))), none, none, none, none] [] (mk i j) := V_less (by omega) (by omega) (fin none none none none i j (hskip _ _ hI) rfl)
    refine L_aload_n_0 dL_law_32 ?_
    refine L_iload_4 dL_law_33 ?_
    refine V_sld (i := 3 * m) dL_law_35 rfl (by omega) (by omega) ?_
    refine V_bipush (v := 63) (by decide) dL_law_36 ?_
    refine V_iand dL_law_38 ?_
    obtain ⟨c, hc63, hc⟩ := and63 (gx g (3 * m))
    refine V_eqv (y := nI c) hc ?_
    by_cases c0 : c = 0
    · subst c0
      refine V_tabIn (off := 157) (tgt := 196) dL_law_39 (by decide) (by decide) (by decide) (by decide) ?_
      obtain ⟨kk, b, i1, j1, i2, hC, hM, ht, ho, hI⟩ := s0 (gx g (3 * m + 1)) i j m (by omega) hI
      refine L_aload_n_1 dL_law_196 ?_
      refine L_aload_n_0 dL_law_197 ?_
      refine L_iload_4 dL_law_198 ?_
      refine V_iconst (v := 1) (by decide) dL_law_200 ?_
      refine V_iadd dL_law_201 ?_
      refine V_eqv (y := nI (3 * m + 1)) (nI_add (3 * m) 1) ?_
      refine V_sld (i := 3 * m + 1) dL_law_202 rfl (by omega) (by omega) ?_
      refine L_aload_n_3 dL_law_203 ?_
      refine U_w3 (kc := r) (ks := 6 * r) (lkW_RL_99 rfl dL_law_204) hC (by decide) (Nat.le_of_ble_eq_true rfl) (Nat.le_of_ble_eq_true rfl) rfl (Nat.le_of_ble_eq_true rfl) ?_
      refine V_istore_5 dL_law_207 (Nat.le_of_ble_eq_true rfl) rfl ?_
      refine L_aload_n_2 dL_law_209 ?_
      refine L_aload_n_0 dL_law_210 ?_
      refine L_iload_4 dL_law_211 ?_
      refine V_iconst (v := 1) (by decide) dL_law_213 ?_
      refine V_iadd dL_law_214 ?_
      refine V_eqv (y := nI (3 * m + 1)) (nI_add (3 * m) 1) ?_
      refine V_sld (i := 3 * m + 1) dL_law_215 rfl (by omega) (by omega) ?_
      refine U_cv2 (d := 10) (lkR_RL_104 rfl dL_law_216) hM ⟨by decide, rfl, (Nat.le_of_ble_eq_true rfl), (Nat.le_of_ble_eq_true rfl), rfl⟩ (⟨_, _, rfl, rfl, rfl⟩) (cfS cf7) (Nat.le_of_ble_eq_true rfl) ?_
      refine V_istore_6 dL_law_219 (Nat.le_of_ble_eq_true rfl) rfl ?_
      refine L_aload_n_2 dL_law_221 ?_
      refine U_cv1 (d := 10) (lkR_RL_105 rfl dL_law_222) (k_X7_thrown 10) ⟨by decide, rfl, (Nat.le_of_ble_eq_true rfl), (Nat.le_of_ble_eq_true rfl), rfl⟩ (⟨_, _, rfl, rfl, rfl⟩) (cfS cf7) (Nat.le_of_ble_eq_true rfl) ?_
      refine L_iload_5 dL_law_225 ?_
      refine V_icmp_eq (tgt := 232) dL_law_227 (by decide) (fun ha => ?_) (fun ha => absurd ht ha)
      refine L_iload_5 dL_law_232 ?_
      refine V_ifx_ne (tgt := 249) dL_law_234 (by decide) (fun hk => ?_) (fun hk => ?_)
      · refine V_goto (tgt := 1770) dL_law_249 (by decide) ?_
        exact fin _ _ _ _ _ _ hI rfl
      · refine L_aload_n_3 dL_law_237 ?_
        refine V_iconst (v := 0) (by decide) dL_law_238 ?_
        refine U_lald (n := 0) dL_law_239 rfl rfl (by decide) (by decide) ?_
        rw [ho hk]
        refine L_iload_6 dL_law_240 ?_
        refine V_i2l dL_law_242 ?_
        refine V_lcmp dL_law_243 ?_
        rw [cmp_self]
        refine V_ifx_eq (tgt := 249) dL_law_244 (by decide) (fun _ => ?_) (fun hz => absurd rfl hz)
        refine V_goto (tgt := 1770) dL_law_249 (by decide) ?_
        exact fin _ _ _ _ _ _ hI rfl
    by_cases c1 : c = 1
    · subst c1
      refine V_tabIn (off := 213) (tgt := 252) dL_law_39 (by decide) (by decide) (by decide) (by decide) ?_
      obtain ⟨kk, b, i1, j1, i2, hC, hM, ht, ho, hI⟩ := s1 (gx g (3 * m + 1)) i j m (by omega) hI
      refine L_aload_n_1 dL_law_252 ?_
      refine L_aload_n_0 dL_law_253 ?_
      refine L_iload_4 dL_law_254 ?_
      refine V_iconst (v := 1) (by decide) dL_law_256 ?_
      refine V_iadd dL_law_257 ?_
      refine V_eqv (y := nI (3 * m + 1)) (nI_add (3 * m) 1) ?_
      refine V_sld (i := 3 * m + 1) dL_law_258 rfl (by omega) (by omega) ?_
      refine L_aload_n_3 dL_law_259 ?_
      refine U_w3 (kc := r) (ks := 6 * r) (lkW_RL_108 rfl dL_law_260) hC (by decide) (Nat.le_of_ble_eq_true rfl) (Nat.le_of_ble_eq_true rfl) rfl (Nat.le_of_ble_eq_true rfl) ?_
      refine V_istore_5 dL_law_263 (Nat.le_of_ble_eq_true rfl) rfl ?_
      refine L_aload_n_2 dL_law_265 ?_
      refine L_aload_n_0 dL_law_266 ?_
      refine L_iload_4 dL_law_267 ?_
      refine V_iconst (v := 1) (by decide) dL_law_269 ?_
      refine V_iadd dL_law_270 ?_
      refine V_eqv (y := nI (3 * m + 1)) (nI_add (3 * m) 1) ?_
      refine V_sld (i := 3 * m + 1) dL_law_271 rfl (by omega) (by omega) ?_
      refine U_cv2 (d := 10) (lkR_RL_110 rfl dL_law_272) hM ⟨by decide, rfl, (Nat.le_of_ble_eq_true rfl), (Nat.le_of_ble_eq_true rfl), rfl⟩ (⟨_, _, rfl, rfl, rfl⟩) (cfS cf7) (Nat.le_of_ble_eq_true rfl) ?_
      refine V_istore_6 dL_law_275 (Nat.le_of_ble_eq_true rfl) rfl ?_
      refine L_aload_n_2 dL_law_277 ?_
      refine U_cv1 (d := 10) (lkR_RL_105 rfl dL_law_278) (k_X7_thrown 10) ⟨by decide, rfl, (Nat.le_of_ble_eq_true rfl), (Nat.le_of_ble_eq_true rfl), rfl⟩ (⟨_, _, rfl, rfl, rfl⟩) (cfS cf7) (Nat.le_of_ble_eq_true rfl) ?_
      refine L_iload_5 dL_law_281 ?_
      refine V_icmp_eq (tgt := 288) dL_law_283 (by decide) (fun ha => ?_) (fun ha => absurd ht ha)
      refine L_iload_5 dL_law_288 ?_
      refine V_ifx_ne (tgt := 305) dL_law_290 (by decide) (fun hk => ?_) (fun hk => ?_)
      · refine V_goto (tgt := 1770) dL_law_305 (by decide) ?_
        exact fin _ _ _ _ _ _ hI rfl
      · refine L_aload_n_3 dL_law_293 ?_
        refine V_iconst (v := 0) (by decide) dL_law_294 ?_
        refine U_lald (n := 0) dL_law_295 rfl rfl (by decide) (by decide) ?_
        rw [ho hk]
        refine L_iload_6 dL_law_296 ?_
        refine V_i2l dL_law_298 ?_
        refine V_lcmp dL_law_299 ?_
        rw [cmp_self]
        refine V_ifx_eq (tgt := 305) dL_law_300 (by decide) (fun _ => ?_) (fun hz => absurd rfl hz)
        refine V_goto (tgt := 1770) dL_law_305 (by decide) ?_
        exact fin _ _ _ _ _ _ hI rfl
    by_cases c2 : c = 2
    · subst c2
      refine V_tabIn (off := 269) (tgt := 308) dL_law_39 (by decide) (by decide) (by decide) (by decide) ?_
      obtain ⟨kk, b, i1, j1, i2, hC, hM, ht, ho, hI⟩ := s2 i j m (by omega) hI
      refine L_aload_n_1 dL_law_308 ?_
      refine L_aload_n_3 dL_law_309 ?_
      refine U_w2 (kc := r) (ks := 6 * r) (lkW_RL_111 rfl dL_law_310) hC (by decide) (Nat.le_of_ble_eq_true rfl) (Nat.le_of_ble_eq_true rfl) rfl (Nat.le_of_ble_eq_true rfl) ?_
      refine V_istore_5 dL_law_313 (Nat.le_of_ble_eq_true rfl) rfl ?_
      refine L_aload_n_2 dL_law_315 ?_
      refine U_cv1 (d := 10) (lkR_RL_114 rfl dL_law_316) hM ⟨by decide, rfl, (Nat.le_of_ble_eq_true rfl), (Nat.le_of_ble_eq_true rfl), rfl⟩ (⟨_, _, rfl, rfl, rfl⟩) (cfS cf7) (Nat.le_of_ble_eq_true rfl) ?_
      refine V_istore_6 dL_law_319 (Nat.le_of_ble_eq_true rfl) rfl ?_
      refine L_aload_n_2 dL_law_321 ?_
      refine U_cv1 (d := 10) (lkR_RL_105 rfl dL_law_322) (k_X7_thrown 10) ⟨by decide, rfl, (Nat.le_of_ble_eq_true rfl), (Nat.le_of_ble_eq_true rfl), rfl⟩ (⟨_, _, rfl, rfl, rfl⟩) (cfS cf7) (Nat.le_of_ble_eq_true rfl) ?_
      refine L_iload_5 dL_law_325 ?_
      refine V_icmp_eq (tgt := 332) dL_law_327 (by decide) (fun ha => ?_) (fun ha => absurd ht ha)
      refine L_iload_5 dL_law_332 ?_
      refine V_ifx_ne (tgt := 349) dL_law_334 (by decide) (fun hk => ?_) (fun hk => ?_)
      · refine V_goto (tgt := 1770) dL_law_349 (by decide) ?_
        exact fin _ _ _ _ _ _ hI rfl
      · refine L_aload_n_3 dL_law_337 ?_
        refine V_iconst (v := 0) (by decide) dL_law_338 ?_
        refine U_lald (n := 0) dL_law_339 rfl rfl (by decide) (by decide) ?_
        rw [ho hk]
        refine L_iload_6 dL_law_340 ?_
        refine V_i2l dL_law_342 ?_
        refine V_lcmp dL_law_343 ?_
        rw [cmp_self]
        refine V_ifx_eq (tgt := 349) dL_law_344 (by decide) (fun _ => ?_) (fun hz => absurd rfl hz)
        refine V_goto (tgt := 1770) dL_law_349 (by decide) ?_
        exact fin _ _ _ _ _ _ hI rfl
    by_cases c3 : c = 3
    · subst c3
      refine V_tabIn (off := 313) (tgt := 352) dL_law_39 (by decide) (by decide) (by decide) (by decide) ?_
      obtain ⟨kk, b, i1, j1, i2, hC, hM, ht, ho, hI⟩ := s3 (gx g (3 * m + 1)) i j m (by omega) hI
      refine L_aload_n_1 dL_law_352 ?_
      refine L_aload_n_0 dL_law_353 ?_
      refine L_iload_4 dL_law_354 ?_
      refine V_iconst (v := 1) (by decide) dL_law_356 ?_
      refine V_iadd dL_law_357 ?_
      refine V_eqv (y := nI (3 * m + 1)) (nI_add (3 * m) 1) ?_
      refine V_sld (i := 3 * m + 1) dL_law_358 rfl (by omega) (by omega) ?_
      refine L_aload_n_3 dL_law_359 ?_
      refine U_w3 (kc := r) (ks := 6 * r) (lkW_RL_115 rfl dL_law_360) hC (by decide) (Nat.le_of_ble_eq_true rfl) (Nat.le_of_ble_eq_true rfl) rfl (Nat.le_of_ble_eq_true rfl) ?_
      refine V_istore_5 dL_law_363 (Nat.le_of_ble_eq_true rfl) rfl ?_
      refine L_aload_n_2 dL_law_365 ?_
      refine L_aload_n_0 dL_law_366 ?_
      refine L_iload_4 dL_law_367 ?_
      refine V_iconst (v := 1) (by decide) dL_law_369 ?_
      refine V_iadd dL_law_370 ?_
      refine V_eqv (y := nI (3 * m + 1)) (nI_add (3 * m) 1) ?_
      refine V_sld (i := 3 * m + 1) dL_law_371 rfl (by omega) (by omega) ?_
      refine U_cv2 (d := 10) (lkR_RL_117 rfl dL_law_372) hM ⟨by decide, rfl, (Nat.le_of_ble_eq_true rfl), (Nat.le_of_ble_eq_true rfl), rfl⟩ (⟨_, _, rfl, rfl, rfl⟩) (cfS cf7) (Nat.le_of_ble_eq_true rfl) ?_
      refine V_istore_6 dL_law_375 (Nat.le_of_ble_eq_true rfl) rfl ?_
      refine L_aload_n_2 dL_law_377 ?_
      refine U_cv1 (d := 10) (lkR_RL_105 rfl dL_law_378) (k_X7_thrown 10) ⟨by decide, rfl, (Nat.le_of_ble_eq_true rfl), (Nat.le_of_ble_eq_true rfl), rfl⟩ (⟨_, _, rfl, rfl, rfl⟩) (cfS cf7) (Nat.le_of_ble_eq_true rfl) ?_
      refine L_iload_5 dL_law_381 ?_
      refine V_icmp_eq (tgt := 388) dL_law_383 (by decide) (fun ha => ?_) (fun ha => absurd ht ha)
      refine L_iload_5 dL_law_388 ?_
      refine V_ifx_ne (tgt := 405) dL_law_390 (by decide) (fun hk => ?_) (fun hk => ?_)
      · refine V_goto (tgt := 1770) dL_law_405 (by decide) ?_
        exact fin _ _ _ _ _ _ hI rfl
      · refine L_aload_n_3 dL_law_393 ?_
        refine V_iconst (v := 0) (by decide) dL_law_394 ?_
        refine U_lald (n := 0) dL_law_395 rfl rfl (by decide) (by decide) ?_
        rw [ho hk]
        refine L_iload_6 dL_law_396 ?_
        refine V_i2l dL_law_398 ?_
        refine V_lcmp dL_law_399 ?_
        rw [cmp_self]
        refine V_ifx_eq (tgt := 405) dL_law_400 (by decide) (fun _ => ?_) (fun hz => absurd rfl hz)
        refine V_goto (tgt := 1770) dL_law_405 (by decide) ?_
        exact fin _ _ _ _ _ _ hI rfl
    by_cases c4 : c = 4
    · subst c4
      refine V_tabIn (off := 369) (tgt := 408) dL_law_39 (by decide) (by decide) (by decide) (by decide) ?_
      obtain ⟨kk, b, i1, j1, i2, hC, hM, ht, ho, hI⟩ := s4 (gx g (3 * m + 1)) i j m (by omega) hI
      refine L_aload_n_1 dL_law_408 ?_
      refine L_aload_n_0 dL_law_409 ?_
      refine L_iload_4 dL_law_410 ?_
      refine V_iconst (v := 1) (by decide) dL_law_412 ?_
      refine V_iadd dL_law_413 ?_
      refine V_eqv (y := nI (3 * m + 1)) (nI_add (3 * m) 1) ?_
      refine V_sld (i := 3 * m + 1) dL_law_414 rfl (by omega) (by omega) ?_
      refine L_aload_n_3 dL_law_415 ?_
      refine U_w3 (kc := r) (ks := 6 * r) (lkW_RL_118 rfl dL_law_416) hC (by decide) (Nat.le_of_ble_eq_true rfl) (Nat.le_of_ble_eq_true rfl) rfl (Nat.le_of_ble_eq_true rfl) ?_
      refine V_istore_5 dL_law_419 (Nat.le_of_ble_eq_true rfl) rfl ?_
      refine L_aload_n_2 dL_law_421 ?_
      refine L_aload_n_0 dL_law_422 ?_
      refine L_iload_4 dL_law_423 ?_
      refine V_iconst (v := 1) (by decide) dL_law_425 ?_
      refine V_iadd dL_law_426 ?_
      refine V_eqv (y := nI (3 * m + 1)) (nI_add (3 * m) 1) ?_
      refine V_sld (i := 3 * m + 1) dL_law_427 rfl (by omega) (by omega) ?_
      refine U_cv2 (d := 10) (lkR_RL_120 rfl dL_law_428) hM ⟨by decide, rfl, (Nat.le_of_ble_eq_true rfl), (Nat.le_of_ble_eq_true rfl), rfl⟩ (⟨_, _, rfl, rfl, rfl⟩) (cfS cf7) (Nat.le_of_ble_eq_true rfl) ?_
      refine V_istore_6 dL_law_431 (Nat.le_of_ble_eq_true rfl) rfl ?_
      refine L_aload_n_2 dL_law_433 ?_
      refine U_cv1 (d := 10) (lkR_RL_105 rfl dL_law_434) (k_X7_thrown 10) ⟨by decide, rfl, (Nat.le_of_ble_eq_true rfl), (Nat.le_of_ble_eq_true rfl), rfl⟩ (⟨_, _, rfl, rfl, rfl⟩) (cfS cf7) (Nat.le_of_ble_eq_true rfl) ?_
      refine L_iload_5 dL_law_437 ?_
      refine V_icmp_eq (tgt := 444) dL_law_439 (by decide) (fun ha => ?_) (fun ha => absurd ht ha)
      refine L_iload_5 dL_law_444 ?_
      refine V_ifx_ne (tgt := 461) dL_law_446 (by decide) (fun hk => ?_) (fun hk => ?_)
      · refine V_goto (tgt := 1770) dL_law_461 (by decide) ?_
        exact fin _ _ _ _ _ _ hI rfl
      · refine L_aload_n_3 dL_law_449 ?_
        refine V_iconst (v := 0) (by decide) dL_law_450 ?_
        refine U_lald (n := 0) dL_law_451 rfl rfl (by decide) (by decide) ?_
        rw [ho hk]
        refine L_iload_6 dL_law_452 ?_
        refine V_i2l dL_law_454 ?_
        refine V_lcmp dL_law_455 ?_
        rw [cmp_self]
        refine V_ifx_eq (tgt := 461) dL_law_456 (by decide) (fun _ => ?_) (fun hz => absurd rfl hz)
        refine V_goto (tgt := 1770) dL_law_461 (by decide) ?_
        exact fin _ _ _ _ _ _ hI rfl
    by_cases c5 : c = 5
    · subst c5
      refine V_tabIn (off := 425) (tgt := 464) dL_law_39 (by decide) (by decide) (by decide) (by decide) ?_
      obtain ⟨v, i1, i2, hC, hM, hI⟩ := s5 i j m (by omega) hI
      refine L_aload_n_1 dL_law_464 ?_
      refine U_cv1 (d := 10) (lkR_RL_121 rfl dL_law_465) hC ⟨by decide, rfl, (Nat.le_of_ble_eq_true rfl), (Nat.le_of_ble_eq_true rfl), rfl⟩ (⟨_, _, rfl, rfl, rfl⟩) (cfS cf6) (Nat.le_of_ble_eq_true rfl) ?_
      refine L_aload_n_2 dL_law_468 ?_
      refine U_cv1 (d := 10) (lkR_RL_124 rfl dL_law_469) hM ⟨by decide, rfl, (Nat.le_of_ble_eq_true rfl), (Nat.le_of_ble_eq_true rfl), rfl⟩ (⟨_, _, rfl, rfl, rfl⟩) (cfS cf7) (Nat.le_of_ble_eq_true rfl) ?_
      refine V_icmp_eq (tgt := 1770) dL_law_472 (by decide) (fun _ => ?_) (fun hz => absurd rfl hz)
      exact V_less (kc' := r) (ks' := 6 * r) (by omega) (by omega) (fin _ _ _ _ _ _ hI rfl)
    by_cases c6 : c = 6
    · subst c6
      refine V_tabIn (off := 438) (tgt := 477) dL_law_39 (by decide) (by decide) (by decide) (by decide) ?_
      obtain ⟨v, i1, i2, hC, hM, hI⟩ := s6 i j m (by omega) hI
      refine L_aload_n_1 dL_law_477 ?_
      refine U_cv1 (d := 10) (lkR_RL_125 rfl dL_law_478) hC ⟨by decide, rfl, (Nat.le_of_ble_eq_true rfl), (Nat.le_of_ble_eq_true rfl), rfl⟩ (⟨_, _, rfl, rfl, rfl⟩) (cfS cf6) (Nat.le_of_ble_eq_true rfl) ?_
      refine L_aload_n_2 dL_law_481 ?_
      refine U_cv1 (d := 10) (lkR_RL_128 rfl dL_law_482) hM ⟨by decide, rfl, (Nat.le_of_ble_eq_true rfl), (Nat.le_of_ble_eq_true rfl), rfl⟩ (⟨_, _, rfl, rfl, rfl⟩) (cfS cf7) (Nat.le_of_ble_eq_true rfl) ?_
      refine V_icmp_eq (tgt := 1770) dL_law_485 (by decide) (fun _ => ?_) (fun hz => absurd rfl hz)
      exact V_less (kc' := r) (ks' := 6 * r) (by omega) (by omega) (fin _ _ _ _ _ _ hI rfl)
    by_cases c7 : c = 7
    · subst c7
      refine V_tabIn (off := 451) (tgt := 490) dL_law_39 (by decide) (by decide) (by decide) (by decide) ?_
      obtain ⟨v, i1, i2, hC, hM, hI⟩ := s7 i j m (by omega) hI
      refine L_aload_n_1 dL_law_490 ?_
      refine U_cv1 (d := 10) (lkR_RL_129 rfl dL_law_491) hC ⟨by decide, rfl, (Nat.le_of_ble_eq_true rfl), (Nat.le_of_ble_eq_true rfl), rfl⟩ (⟨_, _, rfl, rfl, rfl⟩) (cfS cf6) (Nat.le_of_ble_eq_true rfl) ?_
      refine L_aload_n_2 dL_law_494 ?_
      refine U_cv1 (d := 10) (lkR_RL_132 rfl dL_law_495) hM ⟨by decide, rfl, (Nat.le_of_ble_eq_true rfl), (Nat.le_of_ble_eq_true rfl), rfl⟩ (⟨_, _, rfl, rfl, rfl⟩) (cfS cf7) (Nat.le_of_ble_eq_true rfl) ?_
      refine V_icmp_eq (tgt := 1770) dL_law_498 (by decide) (fun _ => ?_) (fun hz => absurd rfl hz)
      exact V_less (kc' := r) (ks' := 6 * r) (by omega) (by omega) (fin _ _ _ _ _ _ hI rfl)
    by_cases c8 : c = 8
    · subst c8
      refine V_tabIn (off := 464) (tgt := 503) dL_law_39 (by decide) (by decide) (by decide) (by decide) ?_
      obtain ⟨kk, b, i1, j1, i2, hC, hM, ht, ho, hI⟩ := s8 (gx g (3 * m + 1)) i j m (by omega) hI
      refine L_aload_n_1 dL_law_503 ?_
      refine L_aload_n_0 dL_law_504 ?_
      refine L_iload_4 dL_law_505 ?_
      refine V_iconst (v := 1) (by decide) dL_law_507 ?_
      refine V_iadd dL_law_508 ?_
      refine V_eqv (y := nI (3 * m + 1)) (nI_add (3 * m) 1) ?_
      refine V_sld (i := 3 * m + 1) dL_law_509 rfl (by omega) (by omega) ?_
      refine L_aload_n_3 dL_law_510 ?_
      refine U_w3 (kc := r) (ks := 6 * r) (lkW_RL_133 rfl dL_law_511) hC (by decide) (Nat.le_of_ble_eq_true rfl) (Nat.le_of_ble_eq_true rfl) rfl (Nat.le_of_ble_eq_true rfl) ?_
      refine V_istore_5 dL_law_514 (Nat.le_of_ble_eq_true rfl) rfl ?_
      refine L_aload_n_2 dL_law_516 ?_
      refine L_aload_n_0 dL_law_517 ?_
      refine L_iload_4 dL_law_518 ?_
      refine V_iconst (v := 1) (by decide) dL_law_520 ?_
      refine V_iadd dL_law_521 ?_
      refine V_eqv (y := nI (3 * m + 1)) (nI_add (3 * m) 1) ?_
      refine V_sld (i := 3 * m + 1) dL_law_522 rfl (by omega) (by omega) ?_
      refine U_cv2 (d := 10) (lkR_RL_135 rfl dL_law_523) hM ⟨by decide, rfl, (Nat.le_of_ble_eq_true rfl), (Nat.le_of_ble_eq_true rfl), rfl⟩ (⟨_, _, rfl, rfl, rfl⟩) (cfS cf7) (Nat.le_of_ble_eq_true rfl) ?_
      refine V_istore_6 dL_law_526 (Nat.le_of_ble_eq_true rfl) rfl ?_
      refine L_aload_n_2 dL_law_528 ?_
      refine U_cv1 (d := 10) (lkR_RL_105 rfl dL_law_529) (k_X7_thrown 10) ⟨by decide, rfl, (Nat.le_of_ble_eq_true rfl), (Nat.le_of_ble_eq_true rfl), rfl⟩ (⟨_, _, rfl, rfl, rfl⟩) (cfS cf7) (Nat.le_of_ble_eq_true rfl) ?_
      refine L_iload_5 dL_law_532 ?_
      refine V_icmp_eq (tgt := 539) dL_law_534 (by decide) (fun ha => ?_) (fun ha => absurd ht ha)
      refine L_iload_5 dL_law_539 ?_
      refine V_ifx_ne (tgt := 556) dL_law_541 (by decide) (fun hk => ?_) (fun hk => ?_)
      · refine V_goto (tgt := 1770) dL_law_556 (by decide) ?_
        exact fin _ _ _ _ _ _ hI rfl
      · refine L_aload_n_3 dL_law_544 ?_
        refine V_iconst (v := 0) (by decide) dL_law_545 ?_
        refine U_lald (n := 0) dL_law_546 rfl rfl (by decide) (by decide) ?_
        rw [ho hk]
        refine L_iload_6 dL_law_547 ?_
        refine V_i2l dL_law_549 ?_
        refine V_lcmp dL_law_550 ?_
        rw [cmp_self]
        refine V_ifx_eq (tgt := 556) dL_law_551 (by decide) (fun _ => ?_) (fun hz => absurd rfl hz)
        refine V_goto (tgt := 1770) dL_law_556 (by decide) ?_
        exact fin _ _ _ _ _ _ hI rfl
    by_cases c9 : c = 9
    · subst c9
      refine V_tabIn (off := 520) (tgt := 559) dL_law_39 (by decide) (by decide) (by decide) (by decide) ?_
      obtain ⟨v, i1, i2, hC, hM, hI⟩ := s9 i j m (by omega) hI
      refine L_aload_n_1 dL_law_559 ?_
      refine U_cv1 (d := 10) (lkR_RL_136 rfl dL_law_560) hC ⟨by decide, rfl, (Nat.le_of_ble_eq_true rfl), (Nat.le_of_ble_eq_true rfl), rfl⟩ (⟨_, _, rfl, rfl, rfl⟩) (cfS cf6) (Nat.le_of_ble_eq_true rfl) ?_
      refine L_aload_n_2 dL_law_563 ?_
      refine U_cv1 (d := 10) (lkR_RL_139 rfl dL_law_564) hM ⟨by decide, rfl, (Nat.le_of_ble_eq_true rfl), (Nat.le_of_ble_eq_true rfl), rfl⟩ (⟨_, _, rfl, rfl, rfl⟩) (cfS cf7) (Nat.le_of_ble_eq_true rfl) ?_
      refine V_icmp_eq (tgt := 1770) dL_law_567 (by decide) (fun _ => ?_) (fun hz => absurd rfl hz)
      exact V_less (kc' := r) (ks' := 6 * r) (by omega) (by omega) (fin _ _ _ _ _ _ hI rfl)
    by_cases c10 : c = 10
    · subst c10
      refine V_tabIn (off := 533) (tgt := 572) dL_law_39 (by decide) (by decide) (by decide) (by decide) ?_
      obtain ⟨v, i1, i2, hC, hM, hI⟩ := s10 i j m (by omega) hI
      refine L_aload_n_1 dL_law_572 ?_
      refine U_cv1 (d := 10) (lkR_RL_140 rfl dL_law_573) hC ⟨by decide, rfl, (Nat.le_of_ble_eq_true rfl), (Nat.le_of_ble_eq_true rfl), rfl⟩ (⟨_, _, rfl, rfl, rfl⟩) (cfS cf6) (Nat.le_of_ble_eq_true rfl) ?_
      refine L_aload_n_2 dL_law_576 ?_
      refine U_cv1 (d := 10) (lkR_RL_143 rfl dL_law_577) hM ⟨by decide, rfl, (Nat.le_of_ble_eq_true rfl), (Nat.le_of_ble_eq_true rfl), rfl⟩ (⟨_, _, rfl, rfl, rfl⟩) (cfS cf7) (Nat.le_of_ble_eq_true rfl) ?_
      refine V_icmp_eq (tgt := 1770) dL_law_580 (by decide) (fun _ => ?_) (fun hz => absurd rfl hz)
      exact V_less (kc' := r) (ks' := 6 * r) (by omega) (by omega) (fin _ _ _ _ _ _ hI rfl)
    by_cases c11 : c = 11
    · subst c11
      refine V_tabIn (off := 546) (tgt := 585) dL_law_39 (by decide) (by decide) (by decide) (by decide) ?_
      obtain ⟨kk, b, i1, j1, i2, hC, hM, ht, ho, hI⟩ := s11 (gx g (3 * m + 1)) i j m (by omega) hI
      refine L_aload_n_1 dL_law_585 ?_
      refine L_aload_n_0 dL_law_586 ?_
      refine L_iload_4 dL_law_587 ?_
      refine V_iconst (v := 1) (by decide) dL_law_589 ?_
      refine V_iadd dL_law_590 ?_
      refine V_eqv (y := nI (3 * m + 1)) (nI_add (3 * m) 1) ?_
      refine V_sld (i := 3 * m + 1) dL_law_591 rfl (by omega) (by omega) ?_
      refine L_aload_n_3 dL_law_592 ?_
      refine U_w3 (kc := r) (ks := 6 * r) (lkW_RL_144 rfl dL_law_593) hC (by decide) (Nat.le_of_ble_eq_true rfl) (Nat.le_of_ble_eq_true rfl) rfl (Nat.le_of_ble_eq_true rfl) ?_
      refine V_istore_5 dL_law_596 (Nat.le_of_ble_eq_true rfl) rfl ?_
      refine L_aload_n_2 dL_law_598 ?_
      refine L_aload_n_0 dL_law_599 ?_
      refine L_iload_4 dL_law_600 ?_
      refine V_iconst (v := 1) (by decide) dL_law_602 ?_
      refine V_iadd dL_law_603 ?_
      refine V_eqv (y := nI (3 * m + 1)) (nI_add (3 * m) 1) ?_
      refine V_sld (i := 3 * m + 1) dL_law_604 rfl (by omega) (by omega) ?_
      refine U_cv2 (d := 10) (lkR_RL_146 rfl dL_law_605) hM ⟨by decide, rfl, (Nat.le_of_ble_eq_true rfl), (Nat.le_of_ble_eq_true rfl), rfl⟩ (⟨_, _, rfl, rfl, rfl⟩) (cfS cf7) (Nat.le_of_ble_eq_true rfl) ?_
      refine V_istore_6 dL_law_608 (Nat.le_of_ble_eq_true rfl) rfl ?_
      refine L_aload_n_2 dL_law_610 ?_
      refine U_cv1 (d := 10) (lkR_RL_105 rfl dL_law_611) (k_X7_thrown 10) ⟨by decide, rfl, (Nat.le_of_ble_eq_true rfl), (Nat.le_of_ble_eq_true rfl), rfl⟩ (⟨_, _, rfl, rfl, rfl⟩) (cfS cf7) (Nat.le_of_ble_eq_true rfl) ?_
      refine L_iload_5 dL_law_614 ?_
      refine V_icmp_eq (tgt := 621) dL_law_616 (by decide) (fun ha => ?_) (fun ha => absurd ht ha)
      refine L_iload_5 dL_law_621 ?_
      refine V_ifx_ne (tgt := 638) dL_law_623 (by decide) (fun hk => ?_) (fun hk => ?_)
      · refine V_goto (tgt := 1770) dL_law_638 (by decide) ?_
        exact fin _ _ _ _ _ _ hI rfl
      · refine L_aload_n_3 dL_law_626 ?_
        refine V_iconst (v := 0) (by decide) dL_law_627 ?_
        refine U_lald (n := 0) dL_law_628 rfl rfl (by decide) (by decide) ?_
        rw [ho hk]
        refine L_iload_6 dL_law_629 ?_
        refine V_i2l dL_law_631 ?_
        refine V_lcmp dL_law_632 ?_
        rw [cmp_self]
        refine V_ifx_eq (tgt := 638) dL_law_633 (by decide) (fun _ => ?_) (fun hz => absurd rfl hz)
        refine V_goto (tgt := 1770) dL_law_638 (by decide) ?_
        exact fin _ _ _ _ _ _ hI rfl
    by_cases c12 : c = 12
    · subst c12
      refine V_tabIn (off := 602) (tgt := 641) dL_law_39 (by decide) (by decide) (by decide) (by decide) ?_
      obtain ⟨kk, b, i1, j1, i2, hC, hM, ht, ho, hI⟩ := s12 (gx g (3 * m + 1)) i j m (by omega) hI
      refine L_aload_n_1 dL_law_641 ?_
      refine L_aload_n_0 dL_law_642 ?_
      refine L_iload_4 dL_law_643 ?_
      refine V_iconst (v := 1) (by decide) dL_law_645 ?_
      refine V_iadd dL_law_646 ?_
      refine V_eqv (y := nI (3 * m + 1)) (nI_add (3 * m) 1) ?_
      refine V_sld (i := 3 * m + 1) dL_law_647 rfl (by omega) (by omega) ?_
      refine L_aload_n_3 dL_law_648 ?_
      refine U_w3 (kc := r) (ks := 6 * r) (lkW_RL_147 rfl dL_law_649) hC (by decide) (Nat.le_of_ble_eq_true rfl) (Nat.le_of_ble_eq_true rfl) rfl (Nat.le_of_ble_eq_true rfl) ?_
      refine V_istore_5 dL_law_652 (Nat.le_of_ble_eq_true rfl) rfl ?_
      refine L_aload_n_2 dL_law_654 ?_
      refine L_aload_n_0 dL_law_655 ?_
      refine L_iload_4 dL_law_656 ?_
      refine V_iconst (v := 1) (by decide) dL_law_658 ?_
      refine V_iadd dL_law_659 ?_
      refine V_eqv (y := nI (3 * m + 1)) (nI_add (3 * m) 1) ?_
      refine V_sld (i := 3 * m + 1) dL_law_660 rfl (by omega) (by omega) ?_
      refine U_cv2 (d := 10) (lkR_RL_149 rfl dL_law_661) hM ⟨by decide, rfl, (Nat.le_of_ble_eq_true rfl), (Nat.le_of_ble_eq_true rfl), rfl⟩ (⟨_, _, rfl, rfl, rfl⟩) (cfS cf7) (Nat.le_of_ble_eq_true rfl) ?_
      refine V_istore_6 dL_law_664 (Nat.le_of_ble_eq_true rfl) rfl ?_
      refine L_aload_n_2 dL_law_666 ?_
      refine U_cv1 (d := 10) (lkR_RL_105 rfl dL_law_667) (k_X7_thrown 10) ⟨by decide, rfl, (Nat.le_of_ble_eq_true rfl), (Nat.le_of_ble_eq_true rfl), rfl⟩ (⟨_, _, rfl, rfl, rfl⟩) (cfS cf7) (Nat.le_of_ble_eq_true rfl) ?_
      refine L_iload_5 dL_law_670 ?_
      refine V_icmp_eq (tgt := 677) dL_law_672 (by decide) (fun ha => ?_) (fun ha => absurd ht ha)
      refine L_iload_5 dL_law_677 ?_
      refine V_ifx_ne (tgt := 694) dL_law_679 (by decide) (fun hk => ?_) (fun hk => ?_)
      · refine V_goto (tgt := 1770) dL_law_694 (by decide) ?_
        exact fin _ _ _ _ _ _ hI rfl
      · refine L_aload_n_3 dL_law_682 ?_
        refine V_iconst (v := 0) (by decide) dL_law_683 ?_
        refine U_lald (n := 0) dL_law_684 rfl rfl (by decide) (by decide) ?_
        rw [ho hk]
        refine L_iload_6 dL_law_685 ?_
        refine V_i2l dL_law_687 ?_
        refine V_lcmp dL_law_688 ?_
        rw [cmp_self]
        refine V_ifx_eq (tgt := 694) dL_law_689 (by decide) (fun _ => ?_) (fun hz => absurd rfl hz)
        refine V_goto (tgt := 1770) dL_law_694 (by decide) ?_
        exact fin _ _ _ _ _ _ hI rfl
    by_cases c13 : c = 13
    · subst c13
      refine V_tabIn (off := 658) (tgt := 697) dL_law_39 (by decide) (by decide) (by decide) (by decide) ?_
      obtain ⟨kk, b, i1, j1, i2, hC, hM, ht, ho, hI⟩ := s13 (gx g (3 * m + 1)) (gx g (3 * m + 2)) i j m (by omega) hI
      refine L_aload_n_1 dL_law_697 ?_
      refine L_aload_n_0 dL_law_698 ?_
      refine L_iload_4 dL_law_699 ?_
      refine V_iconst (v := 1) (by decide) dL_law_701 ?_
      refine V_iadd dL_law_702 ?_
      refine V_eqv (y := nI (3 * m + 1)) (nI_add (3 * m) 1) ?_
      refine V_sld (i := 3 * m + 1) dL_law_703 rfl (by omega) (by omega) ?_
      refine L_aload_n_0 dL_law_704 ?_
      refine L_iload_4 dL_law_705 ?_
      refine V_iconst (v := 2) (by decide) dL_law_707 ?_
      refine V_iadd dL_law_708 ?_
      refine V_eqv (y := nI (3 * m + 2)) (nI_add (3 * m) 2) ?_
      refine V_sld (i := 3 * m + 2) dL_law_709 rfl (by omega) (by omega) ?_
      refine L_aload_n_3 dL_law_710 ?_
      refine U_w4 (kc := r) (ks := 6 * r) (lkW_RL_150 rfl dL_law_711) hC (by decide) (Nat.le_of_ble_eq_true rfl) (Nat.le_of_ble_eq_true rfl) rfl (Nat.le_of_ble_eq_true rfl) ?_
      refine V_istore_5 dL_law_714 (Nat.le_of_ble_eq_true rfl) rfl ?_
      refine L_aload_n_2 dL_law_716 ?_
      refine L_aload_n_0 dL_law_717 ?_
      refine L_iload_4 dL_law_718 ?_
      refine V_iconst (v := 1) (by decide) dL_law_720 ?_
      refine V_iadd dL_law_721 ?_
      refine V_eqv (y := nI (3 * m + 1)) (nI_add (3 * m) 1) ?_
      refine V_sld (i := 3 * m + 1) dL_law_722 rfl (by omega) (by omega) ?_
      refine L_aload_n_0 dL_law_723 ?_
      refine L_iload_4 dL_law_724 ?_
      refine V_iconst (v := 2) (by decide) dL_law_726 ?_
      refine V_iadd dL_law_727 ?_
      refine V_eqv (y := nI (3 * m + 2)) (nI_add (3 * m) 2) ?_
      refine V_sld (i := 3 * m + 2) dL_law_728 rfl (by omega) (by omega) ?_
      refine U_cv3 (d := 10) (lkR_RL_153 rfl dL_law_729) hM ⟨by decide, rfl, (Nat.le_of_ble_eq_true rfl), (Nat.le_of_ble_eq_true rfl), rfl⟩ (⟨_, _, rfl, rfl, rfl⟩) (cfS cf7) (Nat.le_of_ble_eq_true rfl) ?_
      refine V_istore_6 dL_law_732 (Nat.le_of_ble_eq_true rfl) rfl ?_
      refine L_aload_n_2 dL_law_734 ?_
      refine U_cv1 (d := 10) (lkR_RL_105 rfl dL_law_735) (k_X7_thrown 10) ⟨by decide, rfl, (Nat.le_of_ble_eq_true rfl), (Nat.le_of_ble_eq_true rfl), rfl⟩ (⟨_, _, rfl, rfl, rfl⟩) (cfS cf7) (Nat.le_of_ble_eq_true rfl) ?_
      refine L_iload_5 dL_law_738 ?_
      refine V_icmp_eq (tgt := 745) dL_law_740 (by decide) (fun ha => ?_) (fun ha => absurd ht ha)
      refine L_iload_5 dL_law_745 ?_
      refine V_ifx_ne (tgt := 762) dL_law_747 (by decide) (fun hk => ?_) (fun hk => ?_)
      · refine V_goto (tgt := 1770) dL_law_762 (by decide) ?_
        exact fin _ _ _ _ _ _ hI rfl
      · refine L_aload_n_3 dL_law_750 ?_
        refine V_iconst (v := 0) (by decide) dL_law_751 ?_
        refine U_lald (n := 0) dL_law_752 rfl rfl (by decide) (by decide) ?_
        rw [ho hk]
        refine L_iload_6 dL_law_753 ?_
        refine V_i2l dL_law_755 ?_
        refine V_lcmp dL_law_756 ?_
        rw [cmp_self]
        refine V_ifx_eq (tgt := 762) dL_law_757 (by decide) (fun _ => ?_) (fun hz => absurd rfl hz)
        refine V_goto (tgt := 1770) dL_law_762 (by decide) ?_
        exact fin _ _ _ _ _ _ hI rfl
    by_cases c14 : c = 14
    · subst c14
      refine V_tabIn (off := 726) (tgt := 765) dL_law_39 (by decide) (by decide) (by decide) (by decide) ?_
      obtain ⟨kk, b, i1, j1, i2, hC, hM, ht, ho, hI⟩ := s14 (gx g (3 * m + 1)) i j m (by omega) hI
      refine L_aload_n_1 dL_law_765 ?_
      refine L_aload_n_0 dL_law_766 ?_
      refine L_iload_4 dL_law_767 ?_
      refine V_iconst (v := 1) (by decide) dL_law_769 ?_
      refine V_iadd dL_law_770 ?_
      refine V_eqv (y := nI (3 * m + 1)) (nI_add (3 * m) 1) ?_
      refine V_sld (i := 3 * m + 1) dL_law_771 rfl (by omega) (by omega) ?_
      refine L_aload_n_3 dL_law_772 ?_
      refine U_w3 (kc := r) (ks := 6 * r) (lkW_RL_154 rfl dL_law_773) hC (by decide) (Nat.le_of_ble_eq_true rfl) (Nat.le_of_ble_eq_true rfl) rfl (Nat.le_of_ble_eq_true rfl) ?_
      refine V_istore_5 dL_law_776 (Nat.le_of_ble_eq_true rfl) rfl ?_
      refine L_aload_n_2 dL_law_778 ?_
      refine L_aload_n_0 dL_law_779 ?_
      refine L_iload_4 dL_law_780 ?_
      refine V_iconst (v := 1) (by decide) dL_law_782 ?_
      refine V_iadd dL_law_783 ?_
      refine V_eqv (y := nI (3 * m + 1)) (nI_add (3 * m) 1) ?_
      refine V_sld (i := 3 * m + 1) dL_law_784 rfl (by omega) (by omega) ?_
      refine U_cv2 (d := 10) (lkR_RL_156 rfl dL_law_785) hM ⟨by decide, rfl, (Nat.le_of_ble_eq_true rfl), (Nat.le_of_ble_eq_true rfl), rfl⟩ (⟨_, _, rfl, rfl, rfl⟩) (cfS cf7) (Nat.le_of_ble_eq_true rfl) ?_
      refine V_istore_6 dL_law_788 (Nat.le_of_ble_eq_true rfl) rfl ?_
      refine L_aload_n_2 dL_law_790 ?_
      refine U_cv1 (d := 10) (lkR_RL_105 rfl dL_law_791) (k_X7_thrown 10) ⟨by decide, rfl, (Nat.le_of_ble_eq_true rfl), (Nat.le_of_ble_eq_true rfl), rfl⟩ (⟨_, _, rfl, rfl, rfl⟩) (cfS cf7) (Nat.le_of_ble_eq_true rfl) ?_
      refine L_iload_5 dL_law_794 ?_
      refine V_icmp_eq (tgt := 801) dL_law_796 (by decide) (fun ha => ?_) (fun ha => absurd ht ha)
      refine L_iload_5 dL_law_801 ?_
      refine V_ifx_ne (tgt := 818) dL_law_803 (by decide) (fun hk => ?_) (fun hk => ?_)
      · refine V_goto (tgt := 1770) dL_law_818 (by decide) ?_
        exact fin _ _ _ _ _ _ hI rfl
      · refine L_aload_n_3 dL_law_806 ?_
        refine V_iconst (v := 0) (by decide) dL_law_807 ?_
        refine U_lald (n := 0) dL_law_808 rfl rfl (by decide) (by decide) ?_
        rw [ho hk]
        refine L_iload_6 dL_law_809 ?_
        refine V_i2l dL_law_811 ?_
        refine V_lcmp dL_law_812 ?_
        rw [cmp_self]
        refine V_ifx_eq (tgt := 818) dL_law_813 (by decide) (fun _ => ?_) (fun hz => absurd rfl hz)
        refine V_goto (tgt := 1770) dL_law_818 (by decide) ?_
        exact fin _ _ _ _ _ _ hI rfl
    by_cases c15 : c = 15
    · subst c15
      refine V_tabIn (off := 782) (tgt := 821) dL_law_39 (by decide) (by decide) (by decide) (by decide) ?_
      obtain ⟨v, i1, i2, hC, hM, hI⟩ := s15 i j m (by omega) hI
      refine L_aload_n_1 dL_law_821 ?_
      refine U_cv1 (d := 10) (lkR_RL_157 rfl dL_law_822) hC ⟨by decide, rfl, (Nat.le_of_ble_eq_true rfl), (Nat.le_of_ble_eq_true rfl), rfl⟩ (⟨_, _, rfl, rfl, rfl⟩) (cfS cf6) (Nat.le_of_ble_eq_true rfl) ?_
      refine L_aload_n_2 dL_law_825 ?_
      refine U_cv1 (d := 10) (lkR_RL_160 rfl dL_law_826) hM ⟨by decide, rfl, (Nat.le_of_ble_eq_true rfl), (Nat.le_of_ble_eq_true rfl), rfl⟩ (⟨_, _, rfl, rfl, rfl⟩) (cfS cf7) (Nat.le_of_ble_eq_true rfl) ?_
      refine V_icmp_eq (tgt := 1770) dL_law_829 (by decide) (fun _ => ?_) (fun hz => absurd rfl hz)
      exact V_less (kc' := r) (ks' := 6 * r) (by omega) (by omega) (fin _ _ _ _ _ _ hI rfl)
    by_cases c16 : c = 16
    · subst c16
      refine V_tabIn (off := 795) (tgt := 834) dL_law_39 (by decide) (by decide) (by decide) (by decide) ?_
      obtain ⟨kk, b, i1, j1, i2, hC, hM, ht, ho, hI⟩ := s16 (gx g (3 * m + 1)) i j m (by omega) hI
      refine L_aload_n_1 dL_law_834 ?_
      refine L_aload_n_0 dL_law_835 ?_
      refine L_iload_4 dL_law_836 ?_
      refine V_iconst (v := 1) (by decide) dL_law_838 ?_
      refine V_iadd dL_law_839 ?_
      refine V_eqv (y := nI (3 * m + 1)) (nI_add (3 * m) 1) ?_
      refine V_sld (i := 3 * m + 1) dL_law_840 rfl (by omega) (by omega) ?_
      refine L_aload_n_3 dL_law_841 ?_
      refine U_w3 (kc := r) (ks := 6 * r) (lkW_RL_161 rfl dL_law_842) hC (by decide) (Nat.le_of_ble_eq_true rfl) (Nat.le_of_ble_eq_true rfl) rfl (Nat.le_of_ble_eq_true rfl) ?_
      refine V_istore_5 dL_law_845 (Nat.le_of_ble_eq_true rfl) rfl ?_
      refine L_aload_n_2 dL_law_847 ?_
      refine L_aload_n_0 dL_law_848 ?_
      refine L_iload_4 dL_law_849 ?_
      refine V_iconst (v := 1) (by decide) dL_law_851 ?_
      refine V_iadd dL_law_852 ?_
      refine V_eqv (y := nI (3 * m + 1)) (nI_add (3 * m) 1) ?_
      refine V_sld (i := 3 * m + 1) dL_law_853 rfl (by omega) (by omega) ?_
      refine U_cv2 (d := 10) (lkR_RL_163 rfl dL_law_854) hM ⟨by decide, rfl, (Nat.le_of_ble_eq_true rfl), (Nat.le_of_ble_eq_true rfl), rfl⟩ (⟨_, _, rfl, rfl, rfl⟩) (cfS cf7) (Nat.le_of_ble_eq_true rfl) ?_
      refine V_istore_6 dL_law_857 (Nat.le_of_ble_eq_true rfl) rfl ?_
      refine L_aload_n_2 dL_law_859 ?_
      refine U_cv1 (d := 10) (lkR_RL_105 rfl dL_law_860) (k_X7_thrown 10) ⟨by decide, rfl, (Nat.le_of_ble_eq_true rfl), (Nat.le_of_ble_eq_true rfl), rfl⟩ (⟨_, _, rfl, rfl, rfl⟩) (cfS cf7) (Nat.le_of_ble_eq_true rfl) ?_
      refine L_iload_5 dL_law_863 ?_
      refine V_icmp_eq (tgt := 870) dL_law_865 (by decide) (fun ha => ?_) (fun ha => absurd ht ha)
      refine L_iload_5 dL_law_870 ?_
      refine V_ifx_ne (tgt := 887) dL_law_872 (by decide) (fun hk => ?_) (fun hk => ?_)
      · refine V_goto (tgt := 1770) dL_law_887 (by decide) ?_
        exact fin _ _ _ _ _ _ hI rfl
      · refine L_aload_n_3 dL_law_875 ?_
        refine V_iconst (v := 0) (by decide) dL_law_876 ?_
        refine U_lald (n := 0) dL_law_877 rfl rfl (by decide) (by decide) ?_
        rw [ho hk]
        refine L_iload_6 dL_law_878 ?_
        refine V_i2l dL_law_880 ?_
        refine V_lcmp dL_law_881 ?_
        rw [cmp_self]
        refine V_ifx_eq (tgt := 887) dL_law_882 (by decide) (fun _ => ?_) (fun hz => absurd rfl hz)
        refine V_goto (tgt := 1770) dL_law_887 (by decide) ?_
        exact fin _ _ _ _ _ _ hI rfl
    by_cases c17 : c = 17
    · subst c17
      refine V_tabIn (off := 851) (tgt := 890) dL_law_39 (by decide) (by decide) (by decide) (by decide) ?_
      obtain ⟨kk, b, i1, j1, i2, hC, hM, ht, ho, hI⟩ := s17 (gx g (3 * m + 1)) i j m (by omega) hI
      refine L_aload_n_1 dL_law_890 ?_
      refine L_aload_n_0 dL_law_891 ?_
      refine L_iload_4 dL_law_892 ?_
      refine V_iconst (v := 1) (by decide) dL_law_894 ?_
      refine V_iadd dL_law_895 ?_
      refine V_eqv (y := nI (3 * m + 1)) (nI_add (3 * m) 1) ?_
      refine V_sld (i := 3 * m + 1) dL_law_896 rfl (by omega) (by omega) ?_
      refine L_aload_n_3 dL_law_897 ?_
      refine U_w3 (kc := r) (ks := 6 * r) (lkW_RL_164 rfl dL_law_898) hC (by decide) (Nat.le_of_ble_eq_true rfl) (Nat.le_of_ble_eq_true rfl) rfl (Nat.le_of_ble_eq_true rfl) ?_
      refine V_istore_5 dL_law_901 (Nat.le_of_ble_eq_true rfl) rfl ?_
      refine L_aload_n_2 dL_law_903 ?_
      refine L_aload_n_0 dL_law_904 ?_
      refine L_iload_4 dL_law_905 ?_
      refine V_iconst (v := 1) (by decide) dL_law_907 ?_
      refine V_iadd dL_law_908 ?_
      refine V_eqv (y := nI (3 * m + 1)) (nI_add (3 * m) 1) ?_
      refine V_sld (i := 3 * m + 1) dL_law_909 rfl (by omega) (by omega) ?_
      refine U_cv2 (d := 10) (lkR_RL_166 rfl dL_law_910) hM ⟨by decide, rfl, (Nat.le_of_ble_eq_true rfl), (Nat.le_of_ble_eq_true rfl), rfl⟩ (⟨_, _, rfl, rfl, rfl⟩) (cfS cf7) (Nat.le_of_ble_eq_true rfl) ?_
      refine V_istore_6 dL_law_913 (Nat.le_of_ble_eq_true rfl) rfl ?_
      refine L_aload_n_2 dL_law_915 ?_
      refine U_cv1 (d := 10) (lkR_RL_105 rfl dL_law_916) (k_X7_thrown 10) ⟨by decide, rfl, (Nat.le_of_ble_eq_true rfl), (Nat.le_of_ble_eq_true rfl), rfl⟩ (⟨_, _, rfl, rfl, rfl⟩) (cfS cf7) (Nat.le_of_ble_eq_true rfl) ?_
      refine L_iload_5 dL_law_919 ?_
      refine V_icmp_eq (tgt := 926) dL_law_921 (by decide) (fun ha => ?_) (fun ha => absurd ht ha)
      refine L_iload_5 dL_law_926 ?_
      refine V_ifx_ne (tgt := 943) dL_law_928 (by decide) (fun hk => ?_) (fun hk => ?_)
      · refine V_goto (tgt := 1770) dL_law_943 (by decide) ?_
        exact fin _ _ _ _ _ _ hI rfl
      · refine L_aload_n_3 dL_law_931 ?_
        refine V_iconst (v := 0) (by decide) dL_law_932 ?_
        refine U_lald (n := 0) dL_law_933 rfl rfl (by decide) (by decide) ?_
        rw [ho hk]
        refine L_iload_6 dL_law_934 ?_
        refine V_i2l dL_law_936 ?_
        refine V_lcmp dL_law_937 ?_
        rw [cmp_self]
        refine V_ifx_eq (tgt := 943) dL_law_938 (by decide) (fun _ => ?_) (fun hz => absurd rfl hz)
        refine V_goto (tgt := 1770) dL_law_943 (by decide) ?_
        exact fin _ _ _ _ _ _ hI rfl
    by_cases c18 : c = 18
    · subst c18
      refine V_tabIn (off := 907) (tgt := 946) dL_law_39 (by decide) (by decide) (by decide) (by decide) ?_
      obtain ⟨kk, b, i1, j1, i2, hC, hM, ht, ho, hI⟩ := s18 (gx g (3 * m + 1)) i j m (by omega) hI
      refine L_aload_n_1 dL_law_946 ?_
      refine L_aload_n_0 dL_law_947 ?_
      refine L_iload_4 dL_law_948 ?_
      refine V_iconst (v := 1) (by decide) dL_law_950 ?_
      refine V_iadd dL_law_951 ?_
      refine V_eqv (y := nI (3 * m + 1)) (nI_add (3 * m) 1) ?_
      refine V_sld (i := 3 * m + 1) dL_law_952 rfl (by omega) (by omega) ?_
      refine L_aload_n_3 dL_law_953 ?_
      refine U_w3 (kc := r) (ks := 6 * r) (lkW_RL_167 rfl dL_law_954) hC (by decide) (Nat.le_of_ble_eq_true rfl) (Nat.le_of_ble_eq_true rfl) rfl (Nat.le_of_ble_eq_true rfl) ?_
      refine V_istore_5 dL_law_957 (Nat.le_of_ble_eq_true rfl) rfl ?_
      refine L_aload_n_2 dL_law_959 ?_
      refine L_aload_n_0 dL_law_960 ?_
      refine L_iload_4 dL_law_961 ?_
      refine V_iconst (v := 1) (by decide) dL_law_963 ?_
      refine V_iadd dL_law_964 ?_
      refine V_eqv (y := nI (3 * m + 1)) (nI_add (3 * m) 1) ?_
      refine V_sld (i := 3 * m + 1) dL_law_965 rfl (by omega) (by omega) ?_
      refine U_cv2 (d := 10) (lkR_RL_169 rfl dL_law_966) hM ⟨by decide, rfl, (Nat.le_of_ble_eq_true rfl), (Nat.le_of_ble_eq_true rfl), rfl⟩ (⟨_, _, rfl, rfl, rfl⟩) (cfS cf7) (Nat.le_of_ble_eq_true rfl) ?_
      refine V_istore_6 dL_law_969 (Nat.le_of_ble_eq_true rfl) rfl ?_
      refine L_aload_n_2 dL_law_971 ?_
      refine U_cv1 (d := 10) (lkR_RL_105 rfl dL_law_972) (k_X7_thrown 10) ⟨by decide, rfl, (Nat.le_of_ble_eq_true rfl), (Nat.le_of_ble_eq_true rfl), rfl⟩ (⟨_, _, rfl, rfl, rfl⟩) (cfS cf7) (Nat.le_of_ble_eq_true rfl) ?_
      refine L_iload_5 dL_law_975 ?_
      refine V_icmp_eq (tgt := 982) dL_law_977 (by decide) (fun ha => ?_) (fun ha => absurd ht ha)
      refine L_iload_5 dL_law_982 ?_
      refine V_ifx_ne (tgt := 999) dL_law_984 (by decide) (fun hk => ?_) (fun hk => ?_)
      · refine V_goto (tgt := 1770) dL_law_999 (by decide) ?_
        exact fin _ _ _ _ _ _ hI rfl
      · refine L_aload_n_3 dL_law_987 ?_
        refine V_iconst (v := 0) (by decide) dL_law_988 ?_
        refine U_lald (n := 0) dL_law_989 rfl rfl (by decide) (by decide) ?_
        rw [ho hk]
        refine L_iload_6 dL_law_990 ?_
        refine V_i2l dL_law_992 ?_
        refine V_lcmp dL_law_993 ?_
        rw [cmp_self]
        refine V_ifx_eq (tgt := 999) dL_law_994 (by decide) (fun _ => ?_) (fun hz => absurd rfl hz)
        refine V_goto (tgt := 1770) dL_law_999 (by decide) ?_
        exact fin _ _ _ _ _ _ hI rfl
    by_cases c19 : c = 19
    · subst c19
      refine V_tabIn (off := 963) (tgt := 1002) dL_law_39 (by decide) (by decide) (by decide) (by decide) ?_
      obtain ⟨kk, b, i1, j1, i2, hC, hM, ht, ho, hI⟩ := s19 (gx g (3 * m + 1)) i j m (by omega) hI
      refine L_aload_n_1 dL_law_1002 ?_
      refine L_aload_n_0 dL_law_1003 ?_
      refine L_iload_4 dL_law_1004 ?_
      refine V_iconst (v := 1) (by decide) dL_law_1006 ?_
      refine V_iadd dL_law_1007 ?_
      refine V_eqv (y := nI (3 * m + 1)) (nI_add (3 * m) 1) ?_
      refine V_sld (i := 3 * m + 1) dL_law_1008 rfl (by omega) (by omega) ?_
      refine L_aload_n_3 dL_law_1009 ?_
      refine U_w3 (kc := r) (ks := 6 * r) (lkW_RL_170 rfl dL_law_1010) hC (by decide) (Nat.le_of_ble_eq_true rfl) (Nat.le_of_ble_eq_true rfl) rfl (Nat.le_of_ble_eq_true rfl) ?_
      refine V_istore_5 dL_law_1013 (Nat.le_of_ble_eq_true rfl) rfl ?_
      refine L_aload_n_2 dL_law_1015 ?_
      refine L_aload_n_0 dL_law_1016 ?_
      refine L_iload_4 dL_law_1017 ?_
      refine V_iconst (v := 1) (by decide) dL_law_1019 ?_
      refine V_iadd dL_law_1020 ?_
      refine V_eqv (y := nI (3 * m + 1)) (nI_add (3 * m) 1) ?_
      refine V_sld (i := 3 * m + 1) dL_law_1021 rfl (by omega) (by omega) ?_
      refine U_cv2 (d := 10) (lkR_RL_172 rfl dL_law_1022) hM ⟨by decide, rfl, (Nat.le_of_ble_eq_true rfl), (Nat.le_of_ble_eq_true rfl), rfl⟩ (⟨_, _, rfl, rfl, rfl⟩) (cfS cf7) (Nat.le_of_ble_eq_true rfl) ?_
      refine V_istore_6 dL_law_1025 (Nat.le_of_ble_eq_true rfl) rfl ?_
      refine L_aload_n_2 dL_law_1027 ?_
      refine U_cv1 (d := 10) (lkR_RL_105 rfl dL_law_1028) (k_X7_thrown 10) ⟨by decide, rfl, (Nat.le_of_ble_eq_true rfl), (Nat.le_of_ble_eq_true rfl), rfl⟩ (⟨_, _, rfl, rfl, rfl⟩) (cfS cf7) (Nat.le_of_ble_eq_true rfl) ?_
      refine L_iload_5 dL_law_1031 ?_
      refine V_icmp_eq (tgt := 1038) dL_law_1033 (by decide) (fun ha => ?_) (fun ha => absurd ht ha)
      refine L_iload_5 dL_law_1038 ?_
      refine V_ifx_ne (tgt := 1055) dL_law_1040 (by decide) (fun hk => ?_) (fun hk => ?_)
      · refine V_goto (tgt := 1770) dL_law_1055 (by decide) ?_
        exact fin _ _ _ _ _ _ hI rfl
      · refine L_aload_n_3 dL_law_1043 ?_
        refine V_iconst (v := 0) (by decide) dL_law_1044 ?_
        refine U_lald (n := 0) dL_law_1045 rfl rfl (by decide) (by decide) ?_
        rw [ho hk]
        refine L_iload_6 dL_law_1046 ?_
        refine V_i2l dL_law_1048 ?_
        refine V_lcmp dL_law_1049 ?_
        rw [cmp_self]
        refine V_ifx_eq (tgt := 1055) dL_law_1050 (by decide) (fun _ => ?_) (fun hz => absurd rfl hz)
        refine V_goto (tgt := 1770) dL_law_1055 (by decide) ?_
        exact fin _ _ _ _ _ _ hI rfl
    by_cases c20 : c = 20
    · subst c20
      refine V_tabIn (off := 1019) (tgt := 1058) dL_law_39 (by decide) (by decide) (by decide) (by decide) ?_
      obtain ⟨kk, b, i1, j1, i2, hC, hM, ht, ho, hI⟩ := s20 (gx g (3 * m + 1)) i j m (by omega) hI
      refine L_aload_n_1 dL_law_1058 ?_
      refine L_aload_n_0 dL_law_1059 ?_
      refine L_iload_4 dL_law_1060 ?_
      refine V_iconst (v := 1) (by decide) dL_law_1062 ?_
      refine V_iadd dL_law_1063 ?_
      refine V_eqv (y := nI (3 * m + 1)) (nI_add (3 * m) 1) ?_
      refine V_sld (i := 3 * m + 1) dL_law_1064 rfl (by omega) (by omega) ?_
      refine L_aload_n_3 dL_law_1065 ?_
      refine U_w3 (kc := r) (ks := 6 * r) (lkW_RL_173 rfl dL_law_1066) hC (by decide) (Nat.le_of_ble_eq_true rfl) (Nat.le_of_ble_eq_true rfl) rfl (Nat.le_of_ble_eq_true rfl) ?_
      refine V_istore_5 dL_law_1069 (Nat.le_of_ble_eq_true rfl) rfl ?_
      refine L_aload_n_2 dL_law_1071 ?_
      refine L_aload_n_0 dL_law_1072 ?_
      refine L_iload_4 dL_law_1073 ?_
      refine V_iconst (v := 1) (by decide) dL_law_1075 ?_
      refine V_iadd dL_law_1076 ?_
      refine V_eqv (y := nI (3 * m + 1)) (nI_add (3 * m) 1) ?_
      refine V_sld (i := 3 * m + 1) dL_law_1077 rfl (by omega) (by omega) ?_
      refine U_cv2 (d := 10) (lkR_RL_175 rfl dL_law_1078) hM ⟨by decide, rfl, (Nat.le_of_ble_eq_true rfl), (Nat.le_of_ble_eq_true rfl), rfl⟩ (⟨_, _, rfl, rfl, rfl⟩) (cfS cf7) (Nat.le_of_ble_eq_true rfl) ?_
      refine V_istore_6 dL_law_1081 (Nat.le_of_ble_eq_true rfl) rfl ?_
      refine L_aload_n_2 dL_law_1083 ?_
      refine U_cv1 (d := 10) (lkR_RL_105 rfl dL_law_1084) (k_X7_thrown 10) ⟨by decide, rfl, (Nat.le_of_ble_eq_true rfl), (Nat.le_of_ble_eq_true rfl), rfl⟩ (⟨_, _, rfl, rfl, rfl⟩) (cfS cf7) (Nat.le_of_ble_eq_true rfl) ?_
      refine L_iload_5 dL_law_1087 ?_
      refine V_icmp_eq (tgt := 1094) dL_law_1089 (by decide) (fun ha => ?_) (fun ha => absurd ht ha)
      refine L_iload_5 dL_law_1094 ?_
      refine V_ifx_ne (tgt := 1111) dL_law_1096 (by decide) (fun hk => ?_) (fun hk => ?_)
      · refine V_goto (tgt := 1770) dL_law_1111 (by decide) ?_
        exact fin _ _ _ _ _ _ hI rfl
      · refine L_aload_n_3 dL_law_1099 ?_
        refine V_iconst (v := 0) (by decide) dL_law_1100 ?_
        refine U_lald (n := 0) dL_law_1101 rfl rfl (by decide) (by decide) ?_
        rw [ho hk]
        refine L_iload_6 dL_law_1102 ?_
        refine V_i2l dL_law_1104 ?_
        refine V_lcmp dL_law_1105 ?_
        rw [cmp_self]
        refine V_ifx_eq (tgt := 1111) dL_law_1106 (by decide) (fun _ => ?_) (fun hz => absurd rfl hz)
        refine V_goto (tgt := 1770) dL_law_1111 (by decide) ?_
        exact fin _ _ _ _ _ _ hI rfl
    by_cases c21 : c = 21
    · subst c21
      refine V_tabIn (off := 1075) (tgt := 1114) dL_law_39 (by decide) (by decide) (by decide) (by decide) ?_
      obtain ⟨kk, b, i1, j1, i2, hC, hM, ht, ho, hb, hI⟩ := s21 (gx g (3 * m + 1)) (gx g (3 * m + 2)) i j m (by omega) hI
      refine L_aload_n_1 dL_law_1114 ?_
      refine L_aload_n_0 dL_law_1115 ?_
      refine L_iload_4 dL_law_1116 ?_
      refine V_iconst (v := 1) (by decide) dL_law_1118 ?_
      refine V_iadd dL_law_1119 ?_
      refine V_eqv (y := nI (3 * m + 1)) (nI_add (3 * m) 1) ?_
      refine V_sld (i := 3 * m + 1) dL_law_1120 rfl (by omega) (by omega) ?_
      refine L_aload_n_0 dL_law_1121 ?_
      refine L_iload_4 dL_law_1122 ?_
      refine V_iconst (v := 2) (by decide) dL_law_1124 ?_
      refine V_iadd dL_law_1125 ?_
      refine V_eqv (y := nI (3 * m + 2)) (nI_add (3 * m) 2) ?_
      refine V_sld (i := 3 * m + 2) dL_law_1126 rfl (by omega) (by omega) ?_
      refine L_aload_n_3 dL_law_1127 ?_
      refine U_w4 (kc := r) (ks := 6 * r) (lkW_RL_176 rfl dL_law_1128) hC (by decide) (Nat.le_of_ble_eq_true rfl) (Nat.le_of_ble_eq_true rfl) rfl (Nat.le_of_ble_eq_true rfl) ?_
      refine V_istore_5 dL_law_1131 (Nat.le_of_ble_eq_true rfl) rfl ?_
      refine L_aload_n_2 dL_law_1133 ?_
      refine L_aload_n_0 dL_law_1134 ?_
      refine L_iload_4 dL_law_1135 ?_
      refine V_iconst (v := 1) (by decide) dL_law_1137 ?_
      refine V_iadd dL_law_1138 ?_
      refine V_eqv (y := nI (3 * m + 1)) (nI_add (3 * m) 1) ?_
      refine V_sld (i := 3 * m + 1) dL_law_1139 rfl (by omega) (by omega) ?_
      refine L_aload_n_0 dL_law_1140 ?_
      refine L_iload_4 dL_law_1141 ?_
      refine V_iconst (v := 2) (by decide) dL_law_1143 ?_
      refine V_iadd dL_law_1144 ?_
      refine V_eqv (y := nI (3 * m + 2)) (nI_add (3 * m) 2) ?_
      refine V_sld (i := 3 * m + 2) dL_law_1145 rfl (by omega) (by omega) ?_
      refine U_cv3 (d := 10) (lkR_RL_178 rfl dL_law_1146) hM ⟨by decide, rfl, (Nat.le_of_ble_eq_true rfl), (Nat.le_of_ble_eq_true rfl), rfl⟩ (⟨_, _, rfl, rfl, rfl⟩) (cfS cf7) (Nat.le_of_ble_eq_true rfl) ?_
      refine V_istore_6 dL_law_1149 (Nat.le_of_ble_eq_true rfl) rfl ?_
      refine L_aload_n_2 dL_law_1151 ?_
      refine U_cv1 (d := 10) (lkR_RL_105 rfl dL_law_1152) (k_X7_thrown 10) ⟨by decide, rfl, (Nat.le_of_ble_eq_true rfl), (Nat.le_of_ble_eq_true rfl), rfl⟩ (⟨_, _, rfl, rfl, rfl⟩) (cfS cf7) (Nat.le_of_ble_eq_true rfl) ?_
      refine L_iload_5 dL_law_1155 ?_
      refine V_icmp_eq (tgt := 1162) dL_law_1157 (by decide) (fun ha => ?_) (fun ha => absurd ht ha)
      refine L_iload_5 dL_law_1162 ?_
      refine V_ifx_ne (tgt := 1186) dL_law_1164 (by decide) (fun hk => ?_) (fun hk => ?_)
      · refine V_goto (tgt := 1770) dL_law_1186 (by decide) ?_
        exact fin _ _ _ _ _ _ hI rfl
      · refine L_aload_n_3 dL_law_1167 ?_
        refine V_iconst (v := 0) (by decide) dL_law_1168 ?_
        refine U_lald (n := 0) dL_law_1169 rfl rfl (by decide) (by decide) ?_
        rw [ho hk]
        refine L_iload_6 dL_law_1170 ?_
        have hb2 : b.toInt64 = if b = 0 then 0 else 1 := by rcases hb with e | e <;> subst e <;> rfl
        refine V_ifx_eq (tgt := 1179) dL_law_1172 (by decide) (fun hz => ?_) (fun hz => ?_)
        · rw [hb2, if_pos hz]
          refine V_lconst (v := 0) (by decide) dL_law_1179 ?_
          refine V_lcmp dL_law_1180 ?_
          rw [cmp_self]
          refine V_ifx_eq (tgt := 1186) dL_law_1181 (by decide) (fun _ => ?_) (fun hz => absurd rfl hz)
          refine V_goto (tgt := 1770) dL_law_1186 (by decide) ?_
          exact fin _ _ _ _ _ _ hI rfl
        · rw [hb2, if_neg hz]
          refine V_lconst (v := 1) (by decide) dL_law_1175 ?_
          refine V_goto (tgt := 1180) dL_law_1176 (by decide) ?_
          refine V_lcmp dL_law_1180 ?_
          rw [cmp_self]
          refine V_ifx_eq (tgt := 1186) dL_law_1181 (by decide) (fun _ => ?_) (fun hz => absurd rfl hz)
          refine V_goto (tgt := 1770) dL_law_1186 (by decide) ?_
          exact fin _ _ _ _ _ _ hI rfl
    by_cases c22 : c = 22
    · subst c22
      refine V_tabIn (off := 1150) (tgt := 1189) dL_law_39 (by decide) (by decide) (by decide) (by decide) ?_
      obtain ⟨kk, b, i1, j1, i2, hC, hM, ht, ho, hb, hI⟩ := s22 (gx g (3 * m + 1)) i j m (by omega) hI
      refine L_aload_n_1 dL_law_1189 ?_
      refine L_aload_n_0 dL_law_1190 ?_
      refine L_iload_4 dL_law_1191 ?_
      refine V_iconst (v := 1) (by decide) dL_law_1193 ?_
      refine V_iadd dL_law_1194 ?_
      refine V_eqv (y := nI (3 * m + 1)) (nI_add (3 * m) 1) ?_
      refine V_sld (i := 3 * m + 1) dL_law_1195 rfl (by omega) (by omega) ?_
      refine L_aload_n_3 dL_law_1196 ?_
      refine U_w3 (kc := r) (ks := 6 * r) (lkW_RL_179 rfl dL_law_1197) hC (by decide) (Nat.le_of_ble_eq_true rfl) (Nat.le_of_ble_eq_true rfl) rfl (Nat.le_of_ble_eq_true rfl) ?_
      refine V_istore_5 dL_law_1200 (Nat.le_of_ble_eq_true rfl) rfl ?_
      refine L_aload_n_2 dL_law_1202 ?_
      refine L_aload_n_0 dL_law_1203 ?_
      refine L_iload_4 dL_law_1204 ?_
      refine V_iconst (v := 1) (by decide) dL_law_1206 ?_
      refine V_iadd dL_law_1207 ?_
      refine V_eqv (y := nI (3 * m + 1)) (nI_add (3 * m) 1) ?_
      refine V_sld (i := 3 * m + 1) dL_law_1208 rfl (by omega) (by omega) ?_
      refine U_cv2 (d := 10) (lkR_RL_181 rfl dL_law_1209) hM ⟨by decide, rfl, (Nat.le_of_ble_eq_true rfl), (Nat.le_of_ble_eq_true rfl), rfl⟩ (⟨_, _, rfl, rfl, rfl⟩) (cfS cf7) (Nat.le_of_ble_eq_true rfl) ?_
      refine V_istore_6 dL_law_1212 (Nat.le_of_ble_eq_true rfl) rfl ?_
      refine L_aload_n_2 dL_law_1214 ?_
      refine U_cv1 (d := 10) (lkR_RL_105 rfl dL_law_1215) (k_X7_thrown 10) ⟨by decide, rfl, (Nat.le_of_ble_eq_true rfl), (Nat.le_of_ble_eq_true rfl), rfl⟩ (⟨_, _, rfl, rfl, rfl⟩) (cfS cf7) (Nat.le_of_ble_eq_true rfl) ?_
      refine L_iload_5 dL_law_1218 ?_
      refine V_icmp_eq (tgt := 1225) dL_law_1220 (by decide) (fun ha => ?_) (fun ha => absurd ht ha)
      refine L_iload_5 dL_law_1225 ?_
      refine V_ifx_ne (tgt := 1249) dL_law_1227 (by decide) (fun hk => ?_) (fun hk => ?_)
      · refine V_goto (tgt := 1770) dL_law_1249 (by decide) ?_
        exact fin _ _ _ _ _ _ hI rfl
      · refine L_aload_n_3 dL_law_1230 ?_
        refine V_iconst (v := 0) (by decide) dL_law_1231 ?_
        refine U_lald (n := 0) dL_law_1232 rfl rfl (by decide) (by decide) ?_
        rw [ho hk]
        refine L_iload_6 dL_law_1233 ?_
        have hb2 : b.toInt64 = if b = 0 then 0 else 1 := by rcases hb with e | e <;> subst e <;> rfl
        refine V_ifx_eq (tgt := 1242) dL_law_1235 (by decide) (fun hz => ?_) (fun hz => ?_)
        · rw [hb2, if_pos hz]
          refine V_lconst (v := 0) (by decide) dL_law_1242 ?_
          refine V_lcmp dL_law_1243 ?_
          rw [cmp_self]
          refine V_ifx_eq (tgt := 1249) dL_law_1244 (by decide) (fun _ => ?_) (fun hz => absurd rfl hz)
          refine V_goto (tgt := 1770) dL_law_1249 (by decide) ?_
          exact fin _ _ _ _ _ _ hI rfl
        · rw [hb2, if_neg hz]
          refine V_lconst (v := 1) (by decide) dL_law_1238 ?_
          refine V_goto (tgt := 1243) dL_law_1239 (by decide) ?_
          refine V_lcmp dL_law_1243 ?_
          rw [cmp_self]
          refine V_ifx_eq (tgt := 1249) dL_law_1244 (by decide) (fun _ => ?_) (fun hz => absurd rfl hz)
          refine V_goto (tgt := 1770) dL_law_1249 (by decide) ?_
          exact fin _ _ _ _ _ _ hI rfl
    by_cases c23 : c = 23
    · subst c23
      refine V_tabIn (off := 1213) (tgt := 1252) dL_law_39 (by decide) (by decide) (by decide) (by decide) ?_
      obtain ⟨kk, b, i1, j1, i2, hC, hM, ht, ho, hI⟩ := s23 (gx g (3 * m + 1)) i j m (by omega) hI
      refine L_aload_n_1 dL_law_1252 ?_
      refine L_aload_n_0 dL_law_1253 ?_
      refine L_iload_4 dL_law_1254 ?_
      refine V_iconst (v := 1) (by decide) dL_law_1256 ?_
      refine V_iadd dL_law_1257 ?_
      refine V_eqv (y := nI (3 * m + 1)) (nI_add (3 * m) 1) ?_
      refine V_sld (i := 3 * m + 1) dL_law_1258 rfl (by omega) (by omega) ?_
      refine L_aload_n_3 dL_law_1259 ?_
      refine U_w3 (kc := r) (ks := 6 * r) (lkW_RL_182 rfl dL_law_1260) hC (by decide) (Nat.le_of_ble_eq_true rfl) (Nat.le_of_ble_eq_true rfl) rfl (Nat.le_of_ble_eq_true rfl) ?_
      refine V_istore_5 dL_law_1263 (Nat.le_of_ble_eq_true rfl) rfl ?_
      refine L_aload_n_2 dL_law_1265 ?_
      refine L_aload_n_0 dL_law_1266 ?_
      refine L_iload_4 dL_law_1267 ?_
      refine V_iconst (v := 1) (by decide) dL_law_1269 ?_
      refine V_iadd dL_law_1270 ?_
      refine V_eqv (y := nI (3 * m + 1)) (nI_add (3 * m) 1) ?_
      refine V_sld (i := 3 * m + 1) dL_law_1271 rfl (by omega) (by omega) ?_
      refine U_cv2 (d := 10) (lkR_RL_184 rfl dL_law_1272) hM ⟨by decide, rfl, (Nat.le_of_ble_eq_true rfl), (Nat.le_of_ble_eq_true rfl), rfl⟩ (⟨_, _, rfl, rfl, rfl⟩) (cfS cf7) (Nat.le_of_ble_eq_true rfl) ?_
      refine V_istore_6 dL_law_1275 (Nat.le_of_ble_eq_true rfl) rfl ?_
      refine L_aload_n_2 dL_law_1277 ?_
      refine U_cv1 (d := 10) (lkR_RL_105 rfl dL_law_1278) (k_X7_thrown 10) ⟨by decide, rfl, (Nat.le_of_ble_eq_true rfl), (Nat.le_of_ble_eq_true rfl), rfl⟩ (⟨_, _, rfl, rfl, rfl⟩) (cfS cf7) (Nat.le_of_ble_eq_true rfl) ?_
      refine L_iload_5 dL_law_1281 ?_
      refine V_icmp_eq (tgt := 1288) dL_law_1283 (by decide) (fun ha => ?_) (fun ha => absurd ht ha)
      refine L_iload_5 dL_law_1288 ?_
      refine V_ifx_ne (tgt := 1305) dL_law_1290 (by decide) (fun hk => ?_) (fun hk => ?_)
      · refine V_goto (tgt := 1770) dL_law_1305 (by decide) ?_
        exact fin _ _ _ _ _ _ hI rfl
      · refine L_aload_n_3 dL_law_1293 ?_
        refine V_iconst (v := 0) (by decide) dL_law_1294 ?_
        refine U_lald (n := 0) dL_law_1295 rfl rfl (by decide) (by decide) ?_
        rw [ho hk]
        refine L_iload_6 dL_law_1296 ?_
        refine V_i2l dL_law_1298 ?_
        refine V_lcmp dL_law_1299 ?_
        rw [cmp_self]
        refine V_ifx_eq (tgt := 1305) dL_law_1300 (by decide) (fun _ => ?_) (fun hz => absurd rfl hz)
        refine V_goto (tgt := 1770) dL_law_1305 (by decide) ?_
        exact fin _ _ _ _ _ _ hI rfl
    by_cases c24 : c = 24
    · subst c24
      refine V_tabIn (off := 1269) (tgt := 1308) dL_law_39 (by decide) (by decide) (by decide) (by decide) ?_
      obtain ⟨kk, b, i1, j1, i2, hC, hM, ht, ho, hI⟩ := s24 (gx g (3 * m + 1)) i j m (by omega) hI
      refine L_aload_n_1 dL_law_1308 ?_
      refine L_aload_n_0 dL_law_1309 ?_
      refine L_iload_4 dL_law_1310 ?_
      refine V_iconst (v := 1) (by decide) dL_law_1312 ?_
      refine V_iadd dL_law_1313 ?_
      refine V_eqv (y := nI (3 * m + 1)) (nI_add (3 * m) 1) ?_
      refine V_sld (i := 3 * m + 1) dL_law_1314 rfl (by omega) (by omega) ?_
      refine L_aload_n_3 dL_law_1315 ?_
      refine U_w3 (kc := r) (ks := 6 * r) (lkW_RL_185 rfl dL_law_1316) hC (by decide) (Nat.le_of_ble_eq_true rfl) (Nat.le_of_ble_eq_true rfl) rfl (Nat.le_of_ble_eq_true rfl) ?_
      refine V_istore_5 dL_law_1319 (Nat.le_of_ble_eq_true rfl) rfl ?_
      refine L_aload_n_2 dL_law_1321 ?_
      refine L_aload_n_0 dL_law_1322 ?_
      refine L_iload_4 dL_law_1323 ?_
      refine V_iconst (v := 1) (by decide) dL_law_1325 ?_
      refine V_iadd dL_law_1326 ?_
      refine V_eqv (y := nI (3 * m + 1)) (nI_add (3 * m) 1) ?_
      refine V_sld (i := 3 * m + 1) dL_law_1327 rfl (by omega) (by omega) ?_
      refine U_cv2 (d := 10) (lkR_RL_187 rfl dL_law_1328) hM ⟨by decide, rfl, (Nat.le_of_ble_eq_true rfl), (Nat.le_of_ble_eq_true rfl), rfl⟩ (⟨_, _, rfl, rfl, rfl⟩) (cfS cf7) (Nat.le_of_ble_eq_true rfl) ?_
      refine V_istore_6 dL_law_1331 (Nat.le_of_ble_eq_true rfl) rfl ?_
      refine L_aload_n_2 dL_law_1333 ?_
      refine U_cv1 (d := 10) (lkR_RL_105 rfl dL_law_1334) (k_X7_thrown 10) ⟨by decide, rfl, (Nat.le_of_ble_eq_true rfl), (Nat.le_of_ble_eq_true rfl), rfl⟩ (⟨_, _, rfl, rfl, rfl⟩) (cfS cf7) (Nat.le_of_ble_eq_true rfl) ?_
      refine L_iload_5 dL_law_1337 ?_
      refine V_icmp_eq (tgt := 1344) dL_law_1339 (by decide) (fun ha => ?_) (fun ha => absurd ht ha)
      refine L_iload_5 dL_law_1344 ?_
      refine V_ifx_ne (tgt := 1361) dL_law_1346 (by decide) (fun hk => ?_) (fun hk => ?_)
      · refine V_goto (tgt := 1770) dL_law_1361 (by decide) ?_
        exact fin _ _ _ _ _ _ hI rfl
      · refine L_aload_n_3 dL_law_1349 ?_
        refine V_iconst (v := 0) (by decide) dL_law_1350 ?_
        refine U_lald (n := 0) dL_law_1351 rfl rfl (by decide) (by decide) ?_
        rw [ho hk]
        refine L_iload_6 dL_law_1352 ?_
        refine V_i2l dL_law_1354 ?_
        refine V_lcmp dL_law_1355 ?_
        rw [cmp_self]
        refine V_ifx_eq (tgt := 1361) dL_law_1356 (by decide) (fun _ => ?_) (fun hz => absurd rfl hz)
        refine V_goto (tgt := 1770) dL_law_1361 (by decide) ?_
        exact fin _ _ _ _ _ _ hI rfl
    by_cases c25 : c = 25
    · subst c25
      refine V_tabIn (off := 1325) (tgt := 1364) dL_law_39 (by decide) (by decide) (by decide) (by decide) ?_
      obtain ⟨kk, b, i1, j1, i2, hC, hM, ht, ho, hI⟩ := s25 (gx g (3 * m + 1)) i j m (by omega) hI
      refine L_aload_n_1 dL_law_1364 ?_
      refine L_aload_n_0 dL_law_1365 ?_
      refine L_iload_4 dL_law_1366 ?_
      refine V_iconst (v := 1) (by decide) dL_law_1368 ?_
      refine V_iadd dL_law_1369 ?_
      refine V_eqv (y := nI (3 * m + 1)) (nI_add (3 * m) 1) ?_
      refine V_sld (i := 3 * m + 1) dL_law_1370 rfl (by omega) (by omega) ?_
      refine L_aload_n_3 dL_law_1371 ?_
      refine U_w3 (kc := r) (ks := 6 * r) (lkW_RL_188 rfl dL_law_1372) hC (by decide) (Nat.le_of_ble_eq_true rfl) (Nat.le_of_ble_eq_true rfl) rfl (Nat.le_of_ble_eq_true rfl) ?_
      refine V_istore_5 dL_law_1375 (Nat.le_of_ble_eq_true rfl) rfl ?_
      refine L_aload_n_2 dL_law_1377 ?_
      refine L_aload_n_0 dL_law_1378 ?_
      refine L_iload_4 dL_law_1379 ?_
      refine V_iconst (v := 1) (by decide) dL_law_1381 ?_
      refine V_iadd dL_law_1382 ?_
      refine V_eqv (y := nI (3 * m + 1)) (nI_add (3 * m) 1) ?_
      refine V_sld (i := 3 * m + 1) dL_law_1383 rfl (by omega) (by omega) ?_
      refine U_cv2 (d := 10) (lkR_RL_190 rfl dL_law_1384) hM ⟨by decide, rfl, (Nat.le_of_ble_eq_true rfl), (Nat.le_of_ble_eq_true rfl), rfl⟩ (⟨_, _, rfl, rfl, rfl⟩) (cfS cf7) (Nat.le_of_ble_eq_true rfl) ?_
      refine V_istore_6 dL_law_1387 (Nat.le_of_ble_eq_true rfl) rfl ?_
      refine L_aload_n_2 dL_law_1389 ?_
      refine U_cv1 (d := 10) (lkR_RL_105 rfl dL_law_1390) (k_X7_thrown 10) ⟨by decide, rfl, (Nat.le_of_ble_eq_true rfl), (Nat.le_of_ble_eq_true rfl), rfl⟩ (⟨_, _, rfl, rfl, rfl⟩) (cfS cf7) (Nat.le_of_ble_eq_true rfl) ?_
      refine L_iload_5 dL_law_1393 ?_
      refine V_icmp_eq (tgt := 1400) dL_law_1395 (by decide) (fun ha => ?_) (fun ha => absurd ht ha)
      refine L_iload_5 dL_law_1400 ?_
      refine V_ifx_ne (tgt := 1417) dL_law_1402 (by decide) (fun hk => ?_) (fun hk => ?_)
      · refine V_goto (tgt := 1770) dL_law_1417 (by decide) ?_
        exact fin _ _ _ _ _ _ hI rfl
      · refine L_aload_n_3 dL_law_1405 ?_
        refine V_iconst (v := 0) (by decide) dL_law_1406 ?_
        refine U_lald (n := 0) dL_law_1407 rfl rfl (by decide) (by decide) ?_
        rw [ho hk]
        refine L_iload_6 dL_law_1408 ?_
        refine V_i2l dL_law_1410 ?_
        refine V_lcmp dL_law_1411 ?_
        rw [cmp_self]
        refine V_ifx_eq (tgt := 1417) dL_law_1412 (by decide) (fun _ => ?_) (fun hz => absurd rfl hz)
        refine V_goto (tgt := 1770) dL_law_1417 (by decide) ?_
        exact fin _ _ _ _ _ _ hI rfl
    by_cases c26 : c = 26
    · subst c26
      refine V_tabIn (off := 1381) (tgt := 1420) dL_law_39 (by decide) (by decide) (by decide) (by decide) ?_
      obtain ⟨kk, b, i1, j1, i2, hC, hM, ht, ho, hI⟩ := s26 (gx g (3 * m + 1)) i j m (by omega) hI
      refine L_aload_n_1 dL_law_1420 ?_
      refine L_aload_n_0 dL_law_1421 ?_
      refine L_iload_4 dL_law_1422 ?_
      refine V_iconst (v := 1) (by decide) dL_law_1424 ?_
      refine V_iadd dL_law_1425 ?_
      refine V_eqv (y := nI (3 * m + 1)) (nI_add (3 * m) 1) ?_
      refine V_sld (i := 3 * m + 1) dL_law_1426 rfl (by omega) (by omega) ?_
      refine L_aload_n_3 dL_law_1427 ?_
      refine U_w3 (kc := r) (ks := 6 * r) (lkW_RL_191 rfl dL_law_1428) hC (by decide) (Nat.le_of_ble_eq_true rfl) (Nat.le_of_ble_eq_true rfl) rfl (Nat.le_of_ble_eq_true rfl) ?_
      refine V_istore_5 dL_law_1431 (Nat.le_of_ble_eq_true rfl) rfl ?_
      refine L_aload_n_2 dL_law_1433 ?_
      refine L_aload_n_0 dL_law_1434 ?_
      refine L_iload_4 dL_law_1435 ?_
      refine V_iconst (v := 1) (by decide) dL_law_1437 ?_
      refine V_iadd dL_law_1438 ?_
      refine V_eqv (y := nI (3 * m + 1)) (nI_add (3 * m) 1) ?_
      refine V_sld (i := 3 * m + 1) dL_law_1439 rfl (by omega) (by omega) ?_
      refine U_cv2 (d := 10) (lkR_RL_193 rfl dL_law_1440) hM ⟨by decide, rfl, (Nat.le_of_ble_eq_true rfl), (Nat.le_of_ble_eq_true rfl), rfl⟩ (⟨_, _, rfl, rfl, rfl⟩) (cfS cf7) (Nat.le_of_ble_eq_true rfl) ?_
      refine V_istore_6 dL_law_1443 (Nat.le_of_ble_eq_true rfl) rfl ?_
      refine L_aload_n_2 dL_law_1445 ?_
      refine U_cv1 (d := 10) (lkR_RL_105 rfl dL_law_1446) (k_X7_thrown 10) ⟨by decide, rfl, (Nat.le_of_ble_eq_true rfl), (Nat.le_of_ble_eq_true rfl), rfl⟩ (⟨_, _, rfl, rfl, rfl⟩) (cfS cf7) (Nat.le_of_ble_eq_true rfl) ?_
      refine L_iload_5 dL_law_1449 ?_
      refine V_icmp_eq (tgt := 1456) dL_law_1451 (by decide) (fun ha => ?_) (fun ha => absurd ht ha)
      refine L_iload_5 dL_law_1456 ?_
      refine V_ifx_ne (tgt := 1473) dL_law_1458 (by decide) (fun hk => ?_) (fun hk => ?_)
      · refine V_goto (tgt := 1770) dL_law_1473 (by decide) ?_
        exact fin _ _ _ _ _ _ hI rfl
      · refine L_aload_n_3 dL_law_1461 ?_
        refine V_iconst (v := 0) (by decide) dL_law_1462 ?_
        refine U_lald (n := 0) dL_law_1463 rfl rfl (by decide) (by decide) ?_
        rw [ho hk]
        refine L_iload_6 dL_law_1464 ?_
        refine V_i2l dL_law_1466 ?_
        refine V_lcmp dL_law_1467 ?_
        rw [cmp_self]
        refine V_ifx_eq (tgt := 1473) dL_law_1468 (by decide) (fun _ => ?_) (fun hz => absurd rfl hz)
        refine V_goto (tgt := 1770) dL_law_1473 (by decide) ?_
        exact fin _ _ _ _ _ _ hI rfl
    by_cases c27 : c = 27
    · subst c27
      refine V_tabIn (off := 1437) (tgt := 1476) dL_law_39 (by decide) (by decide) (by decide) (by decide) ?_
      obtain ⟨kk, b, i1, j1, i2, hC, hM, ht, ho, hI⟩ := s27 (gx g (3 * m + 1)) i j m (by omega) hI
      refine L_aload_n_1 dL_law_1476 ?_
      refine L_aload_n_0 dL_law_1477 ?_
      refine L_iload_4 dL_law_1478 ?_
      refine V_iconst (v := 1) (by decide) dL_law_1480 ?_
      refine V_iadd dL_law_1481 ?_
      refine V_eqv (y := nI (3 * m + 1)) (nI_add (3 * m) 1) ?_
      refine V_sld (i := 3 * m + 1) dL_law_1482 rfl (by omega) (by omega) ?_
      refine L_aload_n_3 dL_law_1483 ?_
      refine U_w3 (kc := r) (ks := 6 * r) (lkW_RL_194 rfl dL_law_1484) hC (by decide) (Nat.le_of_ble_eq_true rfl) (Nat.le_of_ble_eq_true rfl) rfl (Nat.le_of_ble_eq_true rfl) ?_
      refine V_istore_5 dL_law_1487 (Nat.le_of_ble_eq_true rfl) rfl ?_
      refine L_aload_n_2 dL_law_1489 ?_
      refine L_aload_n_0 dL_law_1490 ?_
      refine L_iload_4 dL_law_1491 ?_
      refine V_iconst (v := 1) (by decide) dL_law_1493 ?_
      refine V_iadd dL_law_1494 ?_
      refine V_eqv (y := nI (3 * m + 1)) (nI_add (3 * m) 1) ?_
      refine V_sld (i := 3 * m + 1) dL_law_1495 rfl (by omega) (by omega) ?_
      refine U_cv2 (d := 10) (lkR_RL_196 rfl dL_law_1496) hM ⟨by decide, rfl, (Nat.le_of_ble_eq_true rfl), (Nat.le_of_ble_eq_true rfl), rfl⟩ (⟨_, _, rfl, rfl, rfl⟩) (cfS cf7) (Nat.le_of_ble_eq_true rfl) ?_
      refine V_istore_6 dL_law_1499 (Nat.le_of_ble_eq_true rfl) rfl ?_
      refine L_aload_n_2 dL_law_1501 ?_
      refine U_cv1 (d := 10) (lkR_RL_105 rfl dL_law_1502) (k_X7_thrown 10) ⟨by decide, rfl, (Nat.le_of_ble_eq_true rfl), (Nat.le_of_ble_eq_true rfl), rfl⟩ (⟨_, _, rfl, rfl, rfl⟩) (cfS cf7) (Nat.le_of_ble_eq_true rfl) ?_
      refine L_iload_5 dL_law_1505 ?_
      refine V_icmp_eq (tgt := 1512) dL_law_1507 (by decide) (fun ha => ?_) (fun ha => absurd ht ha)
      refine L_iload_5 dL_law_1512 ?_
      refine V_ifx_ne (tgt := 1529) dL_law_1514 (by decide) (fun hk => ?_) (fun hk => ?_)
      · refine V_goto (tgt := 1770) dL_law_1529 (by decide) ?_
        exact fin _ _ _ _ _ _ hI rfl
      · refine L_aload_n_3 dL_law_1517 ?_
        refine V_iconst (v := 0) (by decide) dL_law_1518 ?_
        refine U_lald (n := 0) dL_law_1519 rfl rfl (by decide) (by decide) ?_
        rw [ho hk]
        refine L_iload_6 dL_law_1520 ?_
        refine V_i2l dL_law_1522 ?_
        refine V_lcmp dL_law_1523 ?_
        rw [cmp_self]
        refine V_ifx_eq (tgt := 1529) dL_law_1524 (by decide) (fun _ => ?_) (fun hz => absurd rfl hz)
        refine V_goto (tgt := 1770) dL_law_1529 (by decide) ?_
        exact fin _ _ _ _ _ _ hI rfl
    by_cases c28 : c = 28
    · subst c28
      refine V_tabIn (off := 1493) (tgt := 1532) dL_law_39 (by decide) (by decide) (by decide) (by decide) ?_
      obtain ⟨v, i1, i2, hC, hM, hI⟩ := s28 i j m (by omega) hI
      refine L_aload_n_1 dL_law_1532 ?_
      refine U_cv1 (d := 10) (lkR_RL_197 rfl dL_law_1533) hC ⟨by decide, rfl, (Nat.le_of_ble_eq_true rfl), (Nat.le_of_ble_eq_true rfl), rfl⟩ (⟨_, _, rfl, rfl, rfl⟩) (cfS cf6) (Nat.le_of_ble_eq_true rfl) ?_
      refine V_dstore_5 dL_law_1536 (Nat.le_of_ble_eq_true rfl) rfl ?_
      refine L_aload_n_2 dL_law_1538 ?_
      refine U_cv1 (d := 10) (lkR_RL_201 rfl dL_law_1539) hM ⟨by decide, rfl, (Nat.le_of_ble_eq_true rfl), (Nat.le_of_ble_eq_true rfl), rfl⟩ (⟨_, _, rfl, rfl, rfl⟩) (cfS cf7) (Nat.le_of_ble_eq_true rfl) ?_
      refine V_dstore_7 dL_law_1542 (Nat.le_of_ble_eq_true rfl) rfl ?_
      refine L_dload_5 dL_law_1544 ?_
      refine L_dload_7 dL_law_1546 ?_
      refine V_dcmp dL_law_1548 ?_
      refine V_ifx_eq (tgt := 1570) dL_law_1549 (by decide) (fun hz => ?_) (fun hz => ?_)
      · refine V_goto (tgt := 1770) dL_law_1570 (by decide) ?_
        exact V_less (kc' := r) (ks' := 6 * r) (by omega) (by omega) (fin _ _ _ _ _ _ hI rfl)
      · refine L_dload_5 dL_law_1552 ?_
        refine L_dload_5 dL_law_1554 ?_
        refine V_dcmp dL_law_1556 ?_
        refine V_ifx_eq (tgt := 1568) dL_law_1557 (by decide) (fun h2 => absurd h2 hz) (fun _ => ?_)
        refine L_dload_7 dL_law_1560 ?_
        refine L_dload_7 dL_law_1562 ?_
        refine V_dcmp dL_law_1564 ?_
        refine V_ifx_ne (tgt := 1570) dL_law_1565 (by decide) (fun _ => ?_) (fun h2 => absurd h2 hz)
        refine V_goto (tgt := 1770) dL_law_1570 (by decide) ?_
        exact V_less (kc' := r) (ks' := 6 * r) (by omega) (by omega) (fin _ _ _ _ _ _ hI rfl)
    by_cases c29 : c = 29
    · subst c29
      refine V_tabIn (off := 1534) (tgt := 1573) dL_law_39 (by decide) (by decide) (by decide) (by decide) ?_
      obtain ⟨kk, b, i1, j1, i2, hC, hM, ht, ho, hI⟩ := s29 (gx g (3 * m + 1)) i j m (by omega) hI
      refine L_aload_n_1 dL_law_1573 ?_
      refine L_aload_n_0 dL_law_1574 ?_
      refine L_iload_4 dL_law_1575 ?_
      refine V_iconst (v := 1) (by decide) dL_law_1577 ?_
      refine V_iadd dL_law_1578 ?_
      refine V_eqv (y := nI (3 * m + 1)) (nI_add (3 * m) 1) ?_
      refine V_sld (i := 3 * m + 1) dL_law_1579 rfl (by omega) (by omega) ?_
      refine L_aload_n_3 dL_law_1580 ?_
      refine U_w3 (kc := r) (ks := 6 * r) (lkW_RL_202 rfl dL_law_1581) hC (by decide) (Nat.le_of_ble_eq_true rfl) (Nat.le_of_ble_eq_true rfl) rfl (Nat.le_of_ble_eq_true rfl) ?_
      refine V_istore_5 dL_law_1584 (Nat.le_of_ble_eq_true rfl) rfl ?_
      refine L_aload_n_2 dL_law_1586 ?_
      refine L_aload_n_0 dL_law_1587 ?_
      refine L_iload_4 dL_law_1588 ?_
      refine V_iconst (v := 1) (by decide) dL_law_1590 ?_
      refine V_iadd dL_law_1591 ?_
      refine V_eqv (y := nI (3 * m + 1)) (nI_add (3 * m) 1) ?_
      refine V_sld (i := 3 * m + 1) dL_law_1592 rfl (by omega) (by omega) ?_
      refine U_cv2 (d := 10) (lkR_RL_204 rfl dL_law_1593) hM ⟨by decide, rfl, (Nat.le_of_ble_eq_true rfl), (Nat.le_of_ble_eq_true rfl), rfl⟩ (⟨_, _, rfl, rfl, rfl⟩) (cfS cf7) (Nat.le_of_ble_eq_true rfl) ?_
      refine V_istore_6 dL_law_1596 (Nat.le_of_ble_eq_true rfl) rfl ?_
      refine L_aload_n_2 dL_law_1598 ?_
      refine U_cv1 (d := 10) (lkR_RL_105 rfl dL_law_1599) (k_X7_thrown 10) ⟨by decide, rfl, (Nat.le_of_ble_eq_true rfl), (Nat.le_of_ble_eq_true rfl), rfl⟩ (⟨_, _, rfl, rfl, rfl⟩) (cfS cf7) (Nat.le_of_ble_eq_true rfl) ?_
      refine L_iload_5 dL_law_1602 ?_
      refine V_icmp_eq (tgt := 1609) dL_law_1604 (by decide) (fun ha => ?_) (fun ha => absurd ht ha)
      refine L_iload_5 dL_law_1609 ?_
      refine V_ifx_ne (tgt := 1626) dL_law_1611 (by decide) (fun hk => ?_) (fun hk => ?_)
      · refine V_goto (tgt := 1770) dL_law_1626 (by decide) ?_
        exact fin _ _ _ _ _ _ hI rfl
      · refine L_aload_n_3 dL_law_1614 ?_
        refine V_iconst (v := 0) (by decide) dL_law_1615 ?_
        refine U_lald (n := 0) dL_law_1616 rfl rfl (by decide) (by decide) ?_
        rw [ho hk]
        refine L_iload_6 dL_law_1617 ?_
        refine V_i2l dL_law_1619 ?_
        refine V_lcmp dL_law_1620 ?_
        rw [cmp_self]
        refine V_ifx_eq (tgt := 1626) dL_law_1621 (by decide) (fun _ => ?_) (fun hz => absurd rfl hz)
        refine V_goto (tgt := 1770) dL_law_1626 (by decide) ?_
        exact fin _ _ _ _ _ _ hI rfl
    by_cases c30 : c = 30
    · subst c30
      refine V_tabIn (off := 1590) (tgt := 1629) dL_law_39 (by decide) (by decide) (by decide) (by decide) ?_
      obtain ⟨v, i1, i2, hC, hM, hI⟩ := s30 i j m (by omega) hI
      refine L_aload_n_1 dL_law_1629 ?_
      refine U_cv1 (d := 10) (lkR_RL_205 rfl dL_law_1630) hC ⟨by decide, rfl, (Nat.le_of_ble_eq_true rfl), (Nat.le_of_ble_eq_true rfl), rfl⟩ (⟨_, _, rfl, rfl, rfl⟩) (cfS cf6) (Nat.le_of_ble_eq_true rfl) ?_
      refine L_aload_n_2 dL_law_1633 ?_
      refine U_cv1 (d := 10) (lkR_RL_208 rfl dL_law_1634) hM ⟨by decide, rfl, (Nat.le_of_ble_eq_true rfl), (Nat.le_of_ble_eq_true rfl), rfl⟩ (⟨_, _, rfl, rfl, rfl⟩) (cfS cf7) (Nat.le_of_ble_eq_true rfl) ?_
      refine V_icmp_eq (tgt := 1770) dL_law_1637 (by decide) (fun _ => ?_) (fun hz => absurd rfl hz)
      exact V_less (kc' := r) (ks' := 6 * r) (by omega) (by omega) (fin _ _ _ _ _ _ hI rfl)
    by_cases c31 : c = 31
    · subst c31
      refine V_tabIn (off := 1603) (tgt := 1642) dL_law_39 (by decide) (by decide) (by decide) (by decide) ?_
      obtain ⟨v, i1, i2, hC, hM, hI⟩ := s31 i j m (by omega) hI
      refine L_aload_n_1 dL_law_1642 ?_
      refine U_cv1 (d := 10) (lkR_RL_209 rfl dL_law_1643) hC ⟨by decide, rfl, (Nat.le_of_ble_eq_true rfl), (Nat.le_of_ble_eq_true rfl), rfl⟩ (⟨_, _, rfl, rfl, rfl⟩) (cfS cf6) (Nat.le_of_ble_eq_true rfl) ?_
      refine L_aload_n_2 dL_law_1646 ?_
      refine U_cv1 (d := 10) (lkR_RL_212 rfl dL_law_1647) hM ⟨by decide, rfl, (Nat.le_of_ble_eq_true rfl), (Nat.le_of_ble_eq_true rfl), rfl⟩ (⟨_, _, rfl, rfl, rfl⟩) (cfS cf7) (Nat.le_of_ble_eq_true rfl) ?_
      refine V_icmp_eq (tgt := 1770) dL_law_1650 (by decide) (fun _ => ?_) (fun hz => absurd rfl hz)
      exact V_less (kc' := r) (ks' := 6 * r) (by omega) (by omega) (fin _ _ _ _ _ _ hI rfl)
    by_cases c32 : c = 32
    · subst c32
      refine V_tabIn (off := 1616) (tgt := 1655) dL_law_39 (by decide) (by decide) (by decide) (by decide) ?_
      obtain ⟨kk, b, i1, j1, i2, hC, hM, ht, ho, hI⟩ := s32 i j m (by omega) hI
      refine L_aload_n_1 dL_law_1655 ?_
      refine L_aload_n_3 dL_law_1656 ?_
      refine U_w2 (kc := r) (ks := 6 * r) (lkW_RL_213 rfl dL_law_1657) hC (by decide) (Nat.le_of_ble_eq_true rfl) (Nat.le_of_ble_eq_true rfl) rfl (Nat.le_of_ble_eq_true rfl) ?_
      refine V_istore_5 dL_law_1660 (Nat.le_of_ble_eq_true rfl) rfl ?_
      refine L_aload_n_2 dL_law_1662 ?_
      refine U_cv1 (d := 10) (lkR_RL_215 rfl dL_law_1663) hM ⟨by decide, rfl, (Nat.le_of_ble_eq_true rfl), (Nat.le_of_ble_eq_true rfl), rfl⟩ (⟨_, _, rfl, rfl, rfl⟩) (cfS cf7) (Nat.le_of_ble_eq_true rfl) ?_
      refine V_istore_6 dL_law_1666 (Nat.le_of_ble_eq_true rfl) rfl ?_
      refine L_aload_n_2 dL_law_1668 ?_
      refine U_cv1 (d := 10) (lkR_RL_105 rfl dL_law_1669) (k_X7_thrown 10) ⟨by decide, rfl, (Nat.le_of_ble_eq_true rfl), (Nat.le_of_ble_eq_true rfl), rfl⟩ (⟨_, _, rfl, rfl, rfl⟩) (cfS cf7) (Nat.le_of_ble_eq_true rfl) ?_
      refine L_iload_5 dL_law_1672 ?_
      refine V_icmp_eq (tgt := 1679) dL_law_1674 (by decide) (fun ha => ?_) (fun ha => absurd ht ha)
      refine L_iload_5 dL_law_1679 ?_
      refine V_ifx_ne (tgt := 1696) dL_law_1681 (by decide) (fun hk => ?_) (fun hk => ?_)
      · refine V_goto (tgt := 1770) dL_law_1696 (by decide) ?_
        exact fin _ _ _ _ _ _ hI rfl
      · refine L_aload_n_3 dL_law_1684 ?_
        refine V_iconst (v := 0) (by decide) dL_law_1685 ?_
        refine U_lald (n := 0) dL_law_1686 rfl rfl (by decide) (by decide) ?_
        rw [ho hk]
        refine L_iload_6 dL_law_1687 ?_
        refine V_i2l dL_law_1689 ?_
        refine V_lcmp dL_law_1690 ?_
        rw [cmp_self]
        refine V_ifx_eq (tgt := 1696) dL_law_1691 (by decide) (fun _ => ?_) (fun hz => absurd rfl hz)
        refine V_goto (tgt := 1770) dL_law_1696 (by decide) ?_
        exact fin _ _ _ _ _ _ hI rfl
    by_cases c33 : c = 33
    · subst c33
      refine V_tabIn (off := 1660) (tgt := 1699) dL_law_39 (by decide) (by decide) (by decide) (by decide) ?_
      obtain ⟨kk, b, i1, j1, i2, hC, hM, ht, ho, hI⟩ := s33 i j m (by omega) hI
      refine L_aload_n_1 dL_law_1699 ?_
      refine L_aload_n_3 dL_law_1700 ?_
      refine U_w2 (kc := r) (ks := 6 * r) (lkW_RL_216 rfl dL_law_1701) hC (by decide) (Nat.le_of_ble_eq_true rfl) (Nat.le_of_ble_eq_true rfl) rfl (Nat.le_of_ble_eq_true rfl) ?_
      refine V_istore_5 dL_law_1704 (Nat.le_of_ble_eq_true rfl) rfl ?_
      refine L_aload_n_2 dL_law_1706 ?_
      refine U_cv1 (d := 10) (lkR_RL_218 rfl dL_law_1707) hM ⟨by decide, rfl, (Nat.le_of_ble_eq_true rfl), (Nat.le_of_ble_eq_true rfl), rfl⟩ (⟨_, _, rfl, rfl, rfl⟩) (cfS cf7) (Nat.le_of_ble_eq_true rfl) ?_
      refine V_istore_6 dL_law_1710 (Nat.le_of_ble_eq_true rfl) rfl ?_
      refine L_aload_n_2 dL_law_1712 ?_
      refine U_cv1 (d := 10) (lkR_RL_105 rfl dL_law_1713) (k_X7_thrown 10) ⟨by decide, rfl, (Nat.le_of_ble_eq_true rfl), (Nat.le_of_ble_eq_true rfl), rfl⟩ (⟨_, _, rfl, rfl, rfl⟩) (cfS cf7) (Nat.le_of_ble_eq_true rfl) ?_
      refine L_iload_5 dL_law_1716 ?_
      refine V_icmp_eq (tgt := 1723) dL_law_1718 (by decide) (fun ha => ?_) (fun ha => absurd ht ha)
      refine L_iload_5 dL_law_1723 ?_
      refine V_ifx_ne (tgt := 1740) dL_law_1725 (by decide) (fun hk => ?_) (fun hk => ?_)
      · refine V_goto (tgt := 1770) dL_law_1740 (by decide) ?_
        exact fin _ _ _ _ _ _ hI rfl
      · refine L_aload_n_3 dL_law_1728 ?_
        refine V_iconst (v := 0) (by decide) dL_law_1729 ?_
        refine U_lald (n := 0) dL_law_1730 rfl rfl (by decide) (by decide) ?_
        rw [ho hk]
        refine L_iload_6 dL_law_1731 ?_
        refine V_i2l dL_law_1733 ?_
        refine V_lcmp dL_law_1734 ?_
        rw [cmp_self]
        refine V_ifx_eq (tgt := 1740) dL_law_1735 (by decide) (fun _ => ?_) (fun hz => absurd rfl hz)
        refine V_goto (tgt := 1770) dL_law_1740 (by decide) ?_
        exact fin _ _ _ _ _ _ hI rfl
    by_cases c34 : c = 34
    · subst c34
      refine V_tabIn (off := 1704) (tgt := 1743) dL_law_39 (by decide) (by decide) (by decide) (by decide) ?_
      obtain ⟨v, i1, i2, hC, hM, hI⟩ := s34 i j m (by omega) hI
      refine L_aload_n_1 dL_law_1743 ?_
      refine U_cv1 (d := 10) (lkR_RL_219 rfl dL_law_1744) hC ⟨by decide, rfl, (Nat.le_of_ble_eq_true rfl), (Nat.le_of_ble_eq_true rfl), rfl⟩ (⟨_, _, rfl, rfl, rfl⟩) (cfS cf6) (Nat.le_of_ble_eq_true rfl) ?_
      refine L_aload_n_2 dL_law_1747 ?_
      refine U_cv1 (d := 10) (lkR_RL_222 rfl dL_law_1748) hM ⟨by decide, rfl, (Nat.le_of_ble_eq_true rfl), (Nat.le_of_ble_eq_true rfl), rfl⟩ (⟨_, _, rfl, rfl, rfl⟩) (cfS cf7) (Nat.le_of_ble_eq_true rfl) ?_
      refine V_icmp_eq (tgt := 1770) dL_law_1751 (by decide) (fun _ => ?_) (fun hz => absurd rfl hz)
      exact V_less (kc' := r) (ks' := 6 * r) (by omega) (by omega) (fin _ _ _ _ _ _ hI rfl)
    by_cases c35 : c = 35
    · subst c35
      refine V_tabIn (off := 1717) (tgt := 1756) dL_law_39 (by decide) (by decide) (by decide) (by decide) ?_
      obtain ⟨v, i1, i2, j2, hC, hM, hI⟩ := s35 i j m (by omega) hI
      refine L_aload_n_1 dL_law_1756 ?_
      refine U_cv1 (d := 10) (lkR_RL_223 rfl dL_law_1757) hC ⟨by decide, rfl, (Nat.le_of_ble_eq_true rfl), (Nat.le_of_ble_eq_true rfl), rfl⟩ (⟨_, _, rfl, rfl, rfl⟩) (cfS cf6) (Nat.le_of_ble_eq_true rfl) ?_
      refine L_aload_n_2 dL_law_1760 ?_
      refine U_cv1 (d := 10) (lkR_RL_227 rfl dL_law_1761) hM ⟨by decide, rfl, (Nat.le_of_ble_eq_true rfl), (Nat.le_of_ble_eq_true rfl), rfl⟩ (⟨_, _, rfl, rfl, rfl⟩) (cfS cf7) (Nat.le_of_ble_eq_true rfl) ?_
      refine V_lcmp dL_law_1764 ?_
      rw [cmp_self]
      refine V_ifx_eq (tgt := 1770) dL_law_1765 (by decide) (fun _ => ?_) (fun hz => absurd rfl hz)
      exact V_less (kc' := r) (ks' := 6 * r) (by omega) (by omega) (fin _ _ _ _ _ _ hI rfl)
    refine V_tabOut (tgt := 1770) dL_law_39 (Or.inr ?_) (by decide) ?_
    · rw [nI_toInt (by omega)]; omega
    · exact fin0
