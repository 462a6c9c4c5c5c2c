theorem wit_nI {x : Int32} {b : Nat} (hb : b < 2 ^ 31) (h : wit x 0 (nI b)) : ∃ p, p ≤ b ∧ x = nI p := nI_of2 (M := nI b) (n := b) (nI_toInt hb) h.1 (Int32.not_lt.mp h.2)
theorem ro_mvl {i : Nat → Nat → Int32} {l a : Nat} {v : Int32} (h : roB i l a) : mvl (nx i l a) (roV i l a v) := by
  by_cases e1 : nx i l a = 43
  · exact Or.inl e1
  by_cases e2 : nx i l a = 45
  · exact Or.inr (Or.inl e2)
  by_cases e3 : nx i l a = 112
  · exact Or.inr (Or.inr (Or.inl e3))
  by_cases e4 : nx i l a = 110
  · exact Or.inr (Or.inr (Or.inr (Or.inl e4)))
  refine Or.inr (Or.inr (Or.inr (Or.inr ?_)))
  have hn : num (nx i l a) := h.elim (fun z => z.1) (fun z => absurd z e3)
  have hr : rnR i l (mo (nx i l a)) (a + 1) := h.elim (fun z => z.2) (fun z => absurd z e3)
  have hm : mo (nx i l a) = 3 := by unfold mo; rw [if_neg (fun z => z.elim e1 e2), if_neg e4]
  rw [hm] at hr
  have hv : roV i l a v = rnV i l 3 (a + 1) := by unfold roV; rw [if_pos hn, hm]
  obtain ⟨p, hp, ep⟩ := wit_nI (b := 9) (by omega) hr.1
  have hp3 : p ≤ 3 := by
    have h2 := hr.2
    rw [ep] at h2
    have := mt (nI_ltI (a := 3) (b := p) (by omega) (by omega)).mpr h2
    omega
  have hno : ¬ (rnR i l 3 (a + 1) ∧ rn2 i l 3 (a + 1)) := fun z => by
    obtain ⟨z1, z2, z3⟩ := z.2
    obtain ⟨q, hq, eq⟩ := wit_nI (b := 9) (by omega) z2
    rw [ep] at z1
    have z1 := (nI_ltI (a := 0) (b := p) (by omega) (by omega)).mp z1
    rw [ep, eq, show (10 : Int32) = nI 10 from rfl, pk_mul, nI_add] at z3
    exact z3 ((nI_ltI (a := 3) (b := 10 * p + q) (by omega) (by omega)).mpr (by omega))
  have hv2 : roV i l a v = nI p := by rw [hv]; unfold rnV; rw [if_neg hno, ep]
  rw [hv2, nI_clamp (by omega)]
  exact ⟨rfl, by omega⟩
theorem msl_nat {i : Nat → Nat → Int32} : ∀ m, (∀ f, f < m → i 90 (24 + 6 * f + 3) = 0 ∨ i 90 (24 + 6 * f + 3) = 1) → ∃ k, k ≤ m ∧ msl i m = nI k
  | 0, _ => ⟨0, Nat.le_refl _, rfl⟩
  | m + 1, h => by
    obtain ⟨k, h1, h2⟩ := msl_nat m (fun f hf => h f (by omega))
    show ∃ k, k ≤ m + 1 ∧ msl i m + _ = nI k
    rcases h m (by omega) with h3 | h3
    · exact ⟨k, by omega, by rw [h3, h2]; exact nI_add k 0⟩
    · exact ⟨k + 1, by omega, by rw [h3, h2]; exact nI_1 k⟩
theorem up_bits {i : Nat → Nat → Int32} {q : Nat} {v : Int32} (hv : v = 0 ∨ v = 1) (h : ∀ f, f < 4 → i 90 (24 + 6 * f + 3) = 0 ∨ i 90 (24 + 6 * f + 3) = 1) : ∀ f, f < 4 → up2 i 90 q v 90 (24 + 6 * f + 3) = 0 ∨ up2 i 90 q v 90 (24 + 6 * f + 3) = 1 := by
  intro f hf
  unfold up2
  split
  · exact hv
  · exact h f hf
theorem mdv_nn {i : Nat → Nat → Int32} {s v : Int32} (hM : MC i) : ¬ mdv i s v < 0 := by
  obtain ⟨m1, m2, m3, m4, m5, m6, m7, m8⟩ := hM
  by_cases e1 : s = 43 ∨ s = 45
  · rw [(mdo_a e1).2]
    obtain ⟨k, h1, h2⟩ := onF_nat (mcd i v 90 0) 30
    unfold one
    rw [h2]; exact nI_pos (by omega)
  by_cases e3 : s = 112
  · rw [(mdo_p e3).2, mpb_2 m3 m2 m4 m6 m7]; exact nI_pos (by omega)
  by_cases e4 : s = 110
  · rw [(mdo_n e4).2, m6]; exact nI_pos (by omega)
  by_cases e5 : s = 114
  · rw [(mdo_r e5).2]
    rcases @man_in i v.toNatClampNeg (mcN i) with e | e | e | e <;> rw [e] <;> decide
  · rw [(mdo_w (fun z => e1 (Or.inl z)) (fun z => e1 (Or.inr z)) e4 e3 e5).2]
    obtain ⟨k, h1, h2⟩ := msl_nat (i := up2 i 90 (24 + 6 * v.toNatClampNeg + 3) (if s = 115 then 1 else 0)) 4 (up_bits (by split <;> simp) m8)
    rw [h2]; exact nI_pos (by omega)
theorem mdo_oth {i : Nat → Nat → Int32} {s v : Int32} (hM : MC i) {a p : Nat} (h : a ≠ 90) : mdo i s v a p = i a p := by
  obtain ⟨m1, m2, m3, m4, m5, m6, m7, m8⟩ := hM
  by_cases e1 : s = 43 ∨ s = 45
  · rw [(mdo_a e1).1]; exact up2_ne h
  by_cases e3 : s = 112
  · rw [(mdo_p e3).1]; exact mpb_oth m3 m2 m4 (Or.inl h)
  by_cases e4 : s = 110
  · rw [(mdo_n e4).1]; exact mrn_oth (Or.inl h)
  by_cases e5 : s = 114
  · rw [(mdo_r e5).1]; exact mrf_oth (Or.inl h)
  · rw [(mdo_w (fun z => e1 (Or.inl z)) (fun z => e1 (Or.inr z)) e4 e3 e5).1]; exact up2_ne h
theorem mdo_MC {i : Nat → Nat → Int32} {s v : Int32} (hM : MC i) (hk : mok i s v = true) : MC (mdo i s v) := by
  have hM0 := hM
  obtain ⟨m1, m2, m3, m4, m5, m6, m7, m8⟩ := hM
  by_cases e1 : s = 43 ∨ s = 45
  · rw [(mdo_a e1).1]
    exact MC_same hM0 (up2_nf (by omega)) (up2_nf (by omega)) (up2_nf (by omega)) (fun f hf => up2_nf (by omega))
  by_cases e3 : s = 112
  · rw [(mdo_p e3).1]
    refine (MC_of (mpb_4 m3 m2 m4 m1) (K := mqN i) (by split <;> omega) m3 m4 ((mpb_oth m3 m2 m4 (by omega)).trans m5) (mpb_2 m3 m2 m4 m6 m7) (Nat.mod_lt _ (by omega)) (fun f hf => ?_)).1
    rw [mpb_oth m3 m2 m4 (by omega)]; exact m8 f hf
  by_cases e4 : s = 110
  · rw [(mdo_n e4).1]
    subst e4
    have hw : wit v 0 15 ∧ ¬ v = i 90 2 := of_decide_eq_true (show decide (wit v 0 15 ∧ ¬ v = i 90 2) = true from hk)
    obtain ⟨p, hp, ep⟩ := wit_nI (b := 15) (by omega) hw.1
    refine (MC_of (c := 0) (K := mqN i) (n := p) ?_ (by omega) m3 m4 ((mrn_oth (by omega)).trans m5) ?_ (by omega) (fun f hf => ?_)).1
    · unfold mrn; rw [mgv_oth (by omega)]; exact up2_eq
    · unfold mrn; rw [mgv_oth (by omega), up2_nf (by omega), up2_eq]; exact ep
    · rw [mrn_oth (by omega)]; exact m8 f hf
  by_cases e5 : s = 114
  · rw [(mdo_r e5).1]
    refine MC_same hM0 (mrf_oth (by omega)) (mrf_oth (by omega)) (mrf_oth (by omega)) (fun f hf => ?_)
    by_cases e : f = v.toNatClampNeg
    · subst e; exact mrf_oth (by omega)
    · exact mrf_oth (by omega)
  · rw [(mdo_w (fun z => e1 (Or.inl z)) (fun z => e1 (Or.inr z)) e4 e3 e5).1]
    exact (MC_of ((up2_nf (by omega)).trans m1) m2 m3 m4 ((up2_nf (by omega)).trans m5) ((up2_nf (by omega)).trans m6) m7 (up_bits (by split <;> simp) m8)).1
theorem MC_pst {i : Nat → Nat → Int32} {a : Nat} {s v : Int32} (h : MC i) : MC (pst i a s v) := MC_same h (psto (by omega)) (psto (by omega)) (psto (by omega)) (fun f _ => psto (by omega))
theorem pst_z {i : Nat → Nat → Int32} : up2 i 89 6 0 = pst i 0 (i 89 7) (i 89 8) := by
  refine up2_ext fun y f => ?_
  unfold up2 pst
  (repeat' split) <;> first | rfl | (rename_i h; rw [h.1, h.2]; done) | (exfalso; omega)
def mgo (l : Nat) : Nat → (Nat → Nat → Int32) → Nat → Int32 → Int32 → Nat × (Nat → Nat → Int32)
  | 0, i, a, s, v => (0, pst i a s v)
  | r + 1, i, a, s, v =>
    if a < l then
      if roB i l a ∧ mok (pst i (roA i l a) (nx i l a) (roV i l a v)) (nx i l a) (roV i l a v) = true then
        ((mgo l r (mdo (pst i (roA i l a) (nx i l a) (roV i l a v)) (nx i l a) (roV i l a v)) (roA i l a + 1) (nx i l a) (roV i l a v)).1 + 1,
         (mgo l r (mdo (pst i (roA i l a) (nx i l a) (roV i l a v)) (nx i l a) (roV i l a v)) (roA i l a + 1) (nx i l a) (roV i l a v)).2)
      else (0, pst i (roA i l a + 1) (nx i l a) (roV i l a v))
    else (0, pst i a s v)
def mS (i : Nat → Nat → Int32) (l n : Nat) : Nat → Nat → Int32 := msv (feM (th i 0) (fe (th i 0) l (l + 1) 0 (th i 0 89 8))) n
def mrun (i : Nat → Nat → Int32) (l n : Nat) : Nat × (Nat → Nat → Int32) := mgo l (l + 1) (mS i l n) 0 (mS i l n 89 7) (mS i l n 89 8)
theorem k_X7_run {g : G0} {j : Nat → Nat → Int64} (d : Nat) {i : Nat → Nat → Int32} {l n : Nat} (hl : i 89 5 = nI l) (h60 : l ≤ 60) (hn : i 89 3 = nI n) (h6 : n ≤ 6) (hM : MC i) (hf : feR (th i 0) l = -1)  : C g m_X7_run (d + 7) 0 0 false [.ref 89] (mk i j) (rets (some (.int (nI (mrun i l n).1))) (mk (up2 (mrun i l n).2 89 5 0) j)) := by
  refine C_of (L := [some (.ref 89), none, none]) rfl ?_
  have loop : ∀ (r : Nat) (i : Nat → Nat → Int32) (a : Nat) (s v : Int32) (dn : Nat), l < a + r → a ≤ l + 1 → i 89 5 = nI l → MC i → V g m_X7_run (d + 7) 0 0 false (Kp g false (rets (some (.int (nI (dn + (mgo l r i a s v).1)))) (mk (up2 (mgo l r i a s v).2 89 5 0) j))) 32 [some (.ref 89), some (.int (nI dn)), some (.int 1)] [] (mk (pst i a s v) j) := by
    intro r
    induction r with
    | zero =>
      intro i a s v dn h1 h2 hl hM
      refine L_iload_n_2 dX7_run_32 ?_
      refine V_ifx_eq (tgt := 99) dX7_run_33 (by decide) (fun h33 => ?_) (fun h33 => ?_)
      · exfalso; revert h33; decide
      · refine L_aload_n_0 dX7_run_36 ?_
        refine U_getI dX7_run_37 fl_RX7_153 rfl rfl ?_
        refine V_eqv (y := nI a) pst6 ?_
        refine L_aload_n_0 dX7_run_40 ?_
        refine U_getI dX7_run_41 fl_RX7_150 rfl rfl ?_
        refine V_eqv (y := nI l) ((psto (by omega)).trans hl) ?_
        refine V_icmp_ge (tgt := 99) dX7_run_44 (by decide) (fun h44 => ?_) (fun h44 => ?_)
        · refine L_aload_n_0 dX7_run_99 ?_
          refine V_iconst (v := 0) (by decide) dX7_run_100 ?_
          refine U_putI dX7_run_101 fl_RX7_150 rfl rfl rfl ?_
          refine L_iload_n_1 dX7_run_104 ?_
          exact V_iret dX7_run_105 rfl rfl (⟨rfl, rfl⟩)
        · exact absurd ((nI_leI (a := l) (b := a) (by omega) (by omega)).mpr (by omega)) h44
    | succ r ih =>
      intro i a s v dn h1 h2 hl hM
      refine L_iload_n_2 dX7_run_32 ?_
      refine V_ifx_eq (tgt := 99) dX7_run_33 (by decide) (fun h33 => ?_) (fun h33 => ?_)
      · exfalso; revert h33; decide
      · refine L_aload_n_0 dX7_run_36 ?_
        refine U_getI dX7_run_37 fl_RX7_153 rfl rfl ?_
        refine V_eqv (y := nI a) pst6 ?_
        refine L_aload_n_0 dX7_run_40 ?_
        refine U_getI dX7_run_41 fl_RX7_150 rfl rfl ?_
        refine V_eqv (y := nI l) ((psto (by omega)).trans hl) ?_
        refine V_icmp_ge (tgt := 99) dX7_run_44 (by decide) (fun h44 => ?_) (fun h44 => ?_)
        · refine L_aload_n_0 dX7_run_99 ?_
          refine V_iconst (v := 0) (by decide) dX7_run_100 ?_
          refine U_putI dX7_run_101 fl_RX7_150 rfl rfl rfl ?_
          refine L_iload_n_1 dX7_run_104 ?_
          exact V_iret dX7_run_105 rfl rfl (by
        have e : mgo l (r + 1) i a s v = (0, pst i a s v) := if_neg (fun z => absurd ((nI_leI (a := l) (b := a) (by omega) (by omega)).mp h44) (by omega))
        rw [e]; exact ⟨rfl, rfl⟩)
        · refine L_aload_n_0 dX7_run_47 ?_
          refine U_cv1 (d := d + 6) (lkR_RX7_168 rfl dX7_run_48) (k_X7_readsOrder _ hl h60 (by omega)) ⟨pn_X7_readsOrder, rfl, (Nat.le_of_ble_eq_true rfl), (Nat.le_of_ble_eq_true rfl), rfl⟩ (⟨_, _, rfl, rfl, rfl⟩) (cfS cf7) (Nat.le_of_ble_eq_true rfl) ?_
          refine V_ifx_eq (tgt := 72) dX7_run_51 (by decide) (fun h51 => ?_) (fun h51 => ?_)
          · refine V_iconst (v := 0) (by decide) dX7_run_72 ?_
            refine V_istore_n_2 dX7_run_73 (Nat.le_of_ble_eq_true rfl) rfl ?_
            refine L_iload_n_1 dX7_run_74 ?_
            refine L_iload_n_2 dX7_run_75 ?_
            refine V_ifx_eq (tgt := 83) dX7_run_76 (by decide) (fun h76 => ?_) (fun h76 => ?_)
            · refine V_iconst (v := 0) (by decide) dX7_run_83 ?_
              refine V_iadd dX7_run_84 ?_
              first | refine V_eqv (y := nI (dn + 1)) (nI_1 dn) ?_ | refine V_eqv (y := nI dn) (nI_add dn 0) ?_
              refine V_istore_n_1 dX7_run_85 (Nat.le_of_ble_eq_true rfl) rfl ?_
              refine L_aload_n_0 dX7_run_86 ?_
              refine V_dup rfl dX7_run_87 ?_
              refine U_getI dX7_run_88 fl_RX7_153 rfl rfl ?_
              refine V_eqv (y := nI (roA i l a)) pst6 ?_
              refine V_iconst (v := 1) (by decide) dX7_run_91 ?_
              refine V_iadd dX7_run_92 ?_
              refine U_putI dX7_run_93 fl_RX7_153 rfl rfl rfl ?_
              refine V_eqI pst_6 ?_
              refine V_goto (tgt := 32) dX7_run_96 (by decide) ?_
              refine L_iload_n_2 dX7_run_32 ?_
              refine V_ifx_eq (tgt := 99) dX7_run_33 (by decide) (fun h33 => ?_) (fun h33 => ?_)
              · refine L_aload_n_0 dX7_run_99 ?_
                refine V_iconst (v := 0) (by decide) dX7_run_100 ?_
                refine U_putI dX7_run_101 fl_RX7_150 rfl rfl rfl ?_
                refine L_iload_n_1 dX7_run_104 ?_
                exact V_iret dX7_run_105 rfl rfl (by
        have hal : a < l := by have := mt (nI_leI (a := l) (b := a) (by omega) (by omega)).mpr h44; omega
        have e : mgo l (r + 1) i a s v = (0, pst i (roA i l a + 1) (nx i l a) (roV i l a v)) := (if_pos hal).trans (if_neg (fun z => (b2z.mp h51) z.1))
        rw [e]; exact ⟨rfl, rfl⟩)
              · exfalso; revert h33; decide
            · exfalso; revert h76; decide
          · refine L_aload_n_0 dX7_run_54 ?_
            refine U_cv1 (d := d + 6) (lkR_RX7_174 rfl dX7_run_55) (k_X7_canDo _ pst7 pst8 (ro_mvl (b2p h51))) ⟨pn_X7_canDo, rfl, (Nat.le_of_ble_eq_true rfl), (Nat.le_of_ble_eq_true rfl), rfl⟩ (⟨_, _, rfl, rfl, rfl⟩) (cfS cf7) (Nat.le_of_ble_eq_true rfl) ?_
            refine V_ifx_eq (tgt := 72) dX7_run_58 (by decide) (fun h58 => ?_) (fun h58 => ?_)
            · refine V_iconst (v := 0) (by decide) dX7_run_72 ?_
              refine V_istore_n_2 dX7_run_73 (Nat.le_of_ble_eq_true rfl) rfl ?_
              refine L_iload_n_1 dX7_run_74 ?_
              refine L_iload_n_2 dX7_run_75 ?_
              refine V_ifx_eq (tgt := 83) dX7_run_76 (by decide) (fun h76 => ?_) (fun h76 => ?_)
              · refine V_iconst (v := 0) (by decide) dX7_run_83 ?_
                refine V_iadd dX7_run_84 ?_
                first | refine V_eqv (y := nI (dn + 1)) (nI_1 dn) ?_ | refine V_eqv (y := nI dn) (nI_add dn 0) ?_
                refine V_istore_n_1 dX7_run_85 (Nat.le_of_ble_eq_true rfl) rfl ?_
                refine L_aload_n_0 dX7_run_86 ?_
                refine V_dup rfl dX7_run_87 ?_
                refine U_getI dX7_run_88 fl_RX7_153 rfl rfl ?_
                refine V_eqv (y := nI (roA i l a)) pst6 ?_
                refine V_iconst (v := 1) (by decide) dX7_run_91 ?_
                refine V_iadd dX7_run_92 ?_
                refine U_putI dX7_run_93 fl_RX7_153 rfl rfl rfl ?_
                refine V_eqI pst_6 ?_
                refine V_goto (tgt := 32) dX7_run_96 (by decide) ?_
                refine L_iload_n_2 dX7_run_32 ?_
                refine V_ifx_eq (tgt := 99) dX7_run_33 (by decide) (fun h33 => ?_) (fun h33 => ?_)
                · refine L_aload_n_0 dX7_run_99 ?_
                  refine V_iconst (v := 0) (by decide) dX7_run_100 ?_
                  refine U_putI dX7_run_101 fl_RX7_150 rfl rfl rfl ?_
                  refine L_iload_n_1 dX7_run_104 ?_
                  exact V_iret dX7_run_105 rfl rfl (by
        have hal : a < l := by have := mt (nI_leI (a := l) (b := a) (by omega) (by omega)).mpr h44; omega
        have e : mgo l (r + 1) i a s v = (0, pst i (roA i l a + 1) (nx i l a) (roV i l a v)) := (if_pos hal).trans (if_neg (fun z => (b2z.mp h58) z.2))
        rw [e]; exact ⟨rfl, rfl⟩)
                · exfalso; revert h33; decide
              · exfalso; revert h76; decide
            · refine L_aload_n_0 dX7_run_61 ?_
              refine U_cv1 (d := d + 6) (lkR_RX7_177 rfl dX7_run_62) (k_X7_doOrder _ pst7 pst8 (ro_mvl (b2p h51)) (MC_pst hM)) ⟨pn_X7_doOrder, rfl, (Nat.le_of_ble_eq_true rfl), (Nat.le_of_ble_eq_true rfl), rfl⟩ (⟨_, _, rfl, rfl, rfl⟩) (cfS cf7) (Nat.le_of_ble_eq_true rfl) ?_
              refine V_eqI (pst_in (i := (mdo (pst i (roA i l a) (nx i l a) (roV i l a v)) (nx i l a) (roV i l a v))) (a := roA i l a) (s := nx i l a) (v := roV i l a v) ((mdo_oth (MC_pst hM) (by omega)).trans pst6) ((mdo_oth (MC_pst hM) (by omega)).trans pst7) ((mdo_oth (MC_pst hM) (by omega)).trans pst8)) ?_
              refine V_ifx_lt (tgt := 72) dX7_run_65 (by decide) (fun h65 => ?_) (fun h65 => ?_)
              · exact absurd h65 (mdv_nn (MC_pst hM))
              · refine V_iconst (v := 1) (by decide) dX7_run_68 ?_
                refine V_goto (tgt := 73) dX7_run_69 (by decide) ?_
                refine V_istore_n_2 dX7_run_73 (Nat.le_of_ble_eq_true rfl) rfl ?_
                refine L_iload_n_1 dX7_run_74 ?_
                refine L_iload_n_2 dX7_run_75 ?_
                refine V_ifx_eq (tgt := 83) dX7_run_76 (by decide) (fun h76 => ?_) (fun h76 => ?_)
                · exfalso; revert h76; decide
                · refine V_iconst (v := 1) (by decide) dX7_run_79 ?_
                  refine V_goto (tgt := 84) dX7_run_80 (by decide) ?_
                  refine V_iadd dX7_run_84 ?_
                  first | refine V_eqv (y := nI (dn + 1)) (nI_1 dn) ?_ | refine V_eqv (y := nI dn) (nI_add dn 0) ?_
                  refine V_istore_n_1 dX7_run_85 (Nat.le_of_ble_eq_true rfl) rfl ?_
                  refine L_aload_n_0 dX7_run_86 ?_
                  refine V_dup rfl dX7_run_87 ?_
                  refine U_getI dX7_run_88 fl_RX7_153 rfl rfl ?_
                  refine V_eqv (y := nI (roA i l a)) pst6 ?_
                  refine V_iconst (v := 1) (by decide) dX7_run_91 ?_
                  refine V_iadd dX7_run_92 ?_
                  refine U_putI dX7_run_93 fl_RX7_153 rfl rfl rfl ?_
                  refine V_eqI pst_6 ?_
                  refine V_goto (tgt := 32) dX7_run_96 (by decide) ?_
                  have hal : a < l := by
                    have := mt (nI_leI (a := l) (b := a) (by omega) (by omega)).mpr h44
                    omega
                  have hR := roA_le (b2p h51)
                  have h9 := ih (mdo (pst i (roA i l a) (nx i l a) (roV i l a v)) (nx i l a) (roV i l a v)) (roA i l a + 1) (nx i l a) (roV i l a v) (dn + 1) (by omega) (by omega) ((mdo_oth (MC_pst hM) (by omega)).trans ((psto (by omega)).trans hl)) (mdo_MC (MC_pst hM) (b2p h58))
                  have e : mgo l (r + 1) i a s v = (_, _) := (if_pos hal).trans (if_pos ⟨b2p h51, b2p h58⟩)
                  rw [e]
                  rw [show dn + 1 + (mgo l r (mdo (pst i (roA i l a) (nx i l a) (roV i l a v)) (nx i l a) (roV i l a v)) (roA i l a + 1) (nx i l a) (roV i l a v)).1 = dn + ((mgo l r (mdo (pst i (roA i l a) (nx i l a) (roV i l a v)) (nx i l a) (roV i l a v)) (roA i l a + 1) (nx i l a) (roV i l a v)).1 + 1) by omega] at h9
                  exact h9
  have hM2 : MC (mS i l n) := MC_same hM (by unfold mS; rw [msv_oth (by omega)]; exact (psto (by omega)).trans (up2_ne (by omega))) (by unfold mS; rw [msv_oth (by omega)]; exact (psto (by omega)).trans (up2_ne (by omega))) (by unfold mS; rw [msv_oth (by omega)]; exact (psto (by omega)).trans (up2_ne (by omega))) (fun f _ => by unfold mS; rw [msv_oth (by omega)]; exact (psto (by omega)).trans (up2_ne (by omega)))
  refine L_aload_n_0 dX7_run_0 ?_
  refine V_iconst (v := 0) (by decide) dX7_run_1 ?_
  refine U_putI dX7_run_2 fl_RX7_19 rfl rfl rfl ?_
  refine L_aload_n_0 dX7_run_5 ?_
  refine U_cv1 (d := d + 6) (lkR_RX7_171 rfl dX7_run_6) (k_X7_findError _ ((up2_nf (by omega)).trans hl) h60) ⟨pn_X7_findError, rfl, (Nat.le_of_ble_eq_true rfl), (Nat.le_of_ble_eq_true rfl), rfl⟩ (⟨_, _, rfl, rfl, rfl⟩) (cfS cf7) (Nat.le_of_ble_eq_true rfl) ?_
  refine V_iconst (v := (-1)) (by decide) dX7_run_9 ?_
  refine V_icmp_eq (tgt := 19) dX7_run_10 (by decide) (fun h10 => ?_) (fun h10 => ?_)
  · refine L_aload_n_0 dX7_run_19 ?_
    refine U_cV1 (d := d + 6) (lkR_RX7_93 rfl dX7_run_20) (k_X7_save _ (n := n) ((psto (by omega)).trans (thn hn)) h6) ⟨pn_X7_save, rfl, (Nat.le_of_ble_eq_true rfl), (Nat.le_of_ble_eq_true rfl), rfl⟩ (⟨_, _, rfl, rfl, rfl⟩) (cfS cf7) (Nat.le_of_ble_eq_true rfl) ?_
    refine L_aload_n_0 dX7_run_23 ?_
    refine V_iconst (v := 0) (by decide) dX7_run_24 ?_
    refine U_putI dX7_run_25 fl_RX7_153 rfl rfl rfl ?_
    refine V_eqI pst_z ?_
    refine V_iconst (v := 0) (by decide) dX7_run_28 ?_
    refine V_istore_n_1 dX7_run_29 (Nat.le_of_ble_eq_true rfl) rfl ?_
    refine V_iconst (v := 1) (by decide) dX7_run_30 ?_
    refine V_istore_n_2 dX7_run_31 (Nat.le_of_ble_eq_true rfl) rfl ?_
    have h9 := loop (l + 1) (mS i l n) 0 (mS i l n 89 7) (mS i l n 89 8) 0 (by omega) (by omega) (by unfold mS; rw [msv_oth (by omega)]; exact (psto (by omega)).trans ((up2_nf (by omega)).trans hl)) hM2
    rw [Nat.zero_add] at h9
    exact h9
  · exact absurd hf h10
theorem k_X7_run__1 {g : G0} {j : Nat → Nat → Int64} (d : Nat) {i : Nat → Nat → Int32} {l : Nat} (hl : i 89 5 = nI l) (h60 : l ≤ 60) (hf : ¬ feR (th i 0) l = -1)  : C g m_X7_run (d + 7) 0 0 false [.ref 89] (mk i j) (rets (some (.int 0)) (mk (up2 (feM (th i 0) (fe (th i 0) l (l + 1) 0 (th i 0 89 8))) 89 0 1) j)) := by
  refine C_of (L := [some (.ref 89), none, none]) rfl ?_
  refine L_aload_n_0 dX7_run_0 ?_
  refine V_iconst (v := 0) (by decide) dX7_run_1 ?_
  refine U_putI dX7_run_2 fl_RX7_19 rfl rfl rfl ?_
  refine L_aload_n_0 dX7_run_5 ?_
  refine U_cv1 (d := d + 6) (lkR_RX7_171 rfl dX7_run_6) (k_X7_findError _ ((up2_nf (by omega)).trans hl) h60) ⟨pn_X7_findError, rfl, (Nat.le_of_ble_eq_true rfl), (Nat.le_of_ble_eq_true rfl), rfl⟩ (⟨_, _, rfl, rfl, rfl⟩) (cfS cf7) (Nat.le_of_ble_eq_true rfl) ?_
  refine V_iconst (v := (-1)) (by decide) dX7_run_9 ?_
  refine V_icmp_eq (tgt := 19) dX7_run_10 (by decide) (fun h10 => ?_) (fun h10 => ?_)
  · exact absurd h10 hf
  · refine L_aload_n_0 dX7_run_13 ?_
    refine V_iconst (v := 1) (by decide) dX7_run_14 ?_
    refine U_cv2 (d := d + 6) (lkR_RX7_30 rfl dX7_run_15) (k_X7_fails _) ⟨pn_X7_fails, rfl, (Nat.le_of_ble_eq_true rfl), (Nat.le_of_ble_eq_true rfl), rfl⟩ (⟨_, _, rfl, rfl, rfl⟩) (cfS cf7) (Nat.le_of_ble_eq_true rfl) ?_
    exact V_iret dX7_run_18 rfl rfl (⟨rfl, rfl⟩)
