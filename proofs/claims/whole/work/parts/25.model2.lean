def mdF (i : Nat → Nat → Int32) (m : Nat) : Nat → Nat → Int32 := fun a f => if a = 90 ∧ 6 ≤ f ∧ f < 6 + m then i 90 (f + 3) else i a f
def mdr (i : Nat → Nat → Int32) (c : Nat) : Nat → Nat → Int32 := mdF (up2 i 90 4 (nI c)) (3 * c)
theorem k_X7_dropOldest {g : G0} {j : Nat → Nat → Int64} (d : Nat) {i : Nat → Nat → Int32} {c : Nat} (hc : i 90 4 = nI (c + 1)) (h6 : c < 6)  : C g m_X7_dropOldest (d + 0) 0 0 false [.ref 89] (mk i j) (rets (none) (mk (mdr i c) j)) := by
  refine C_of (L := [some (.ref 89), none]) rfl ?_
  have loop : ∀ (n m : Nat), m + n = 3 * c → V g m_X7_dropOldest (d + 0) 0 0 false (Kp g false (rets (none) (mk (mdr i c) j))) 12 [some (.ref 89), some (.int (nI m))] [] (mk (mdF (up2 i 90 4 (nI c)) m) j) := by
    intro n
    induction n with
    | zero =>
      intro m hm
      have hm0 : m = 3 * c := by omega
      subst hm0
      refine L_iload_n_1 dX7_dropOldest_12 ?_
      refine V_iconst (v := 3) (by decide) dX7_dropOldest_13 ?_
      refine L_aload_n_0 dX7_dropOldest_14 ?_
      refine U_getR (r := 90) dX7_dropOldest_15 fl_RX7_7 rfl rfl rfl ?_
      refine V_iconst (v := 4) (by decide) dX7_dropOldest_18 ?_
      refine U_iald (n := 4) dX7_dropOldest_19 rfl (rfl) (by decide) (by decide) ?_
      refine V_eqv (y := nI c) (by unfold mdF; rw [if_neg (by omega)]; exact up2_eq) ?_
      refine V_imul dX7_dropOldest_20 ?_
      refine V_eqv (y := nI (3 * c)) (pk_mul 3 c) ?_
      refine V_icmp_ge (tgt := 50) dX7_dropOldest_21 (by decide) (fun h21 => ?_) (fun h21 => ?_)
      · exact V_vret dX7_dropOldest_50 rfl (⟨rfl, rfl⟩)
      · exact absurd (Int32.le_refl _) h21
    | succ n ih =>
      intro m hm
      have hlt : m < 3 * c := by omega
      refine L_iload_n_1 dX7_dropOldest_12 ?_
      refine V_iconst (v := 3) (by decide) dX7_dropOldest_13 ?_
      refine L_aload_n_0 dX7_dropOldest_14 ?_
      refine U_getR (r := 90) dX7_dropOldest_15 fl_RX7_7 rfl rfl rfl ?_
      refine V_iconst (v := 4) (by decide) dX7_dropOldest_18 ?_
      refine U_iald (n := 4) dX7_dropOldest_19 rfl (rfl) (by decide) (by decide) ?_
      refine V_eqv (y := nI c) (by unfold mdF; rw [if_neg (by omega)]; exact up2_eq) ?_
      refine V_imul dX7_dropOldest_20 ?_
      refine V_eqv (y := nI (3 * c)) (pk_mul 3 c) ?_
      refine V_icmp_ge (tgt := 50) dX7_dropOldest_21 (by decide) (fun h21 => ?_) (fun h21 => ?_)
      · exact absurd ((nI_leI (a := 3 * c) (b := m) (by omega) (by omega)).mp h21) (by omega)
      · refine L_aload_n_0 dX7_dropOldest_24 ?_
        refine U_getR (r := 90) dX7_dropOldest_25 fl_RX7_7 rfl rfl rfl ?_
        refine V_bipush (v := 6) (by decide) dX7_dropOldest_28 ?_
        refine L_iload_n_1 dX7_dropOldest_30 ?_
        refine V_iadd dX7_dropOldest_31 ?_
        refine L_aload_n_0 dX7_dropOldest_32 ?_
        refine U_getR (r := 90) dX7_dropOldest_33 fl_RX7_7 rfl rfl rfl ?_
        refine V_bipush (v := 6) (by decide) dX7_dropOldest_36 ?_
        refine L_iload_n_1 dX7_dropOldest_38 ?_
        refine V_iadd dX7_dropOldest_39 ?_
        refine V_iconst (v := 3) (by decide) dX7_dropOldest_40 ?_
        refine V_iadd dX7_dropOldest_41 ?_
        refine U_iald (n := (6 + m + 3)) dX7_dropOldest_42 rfl (by rw [show (6 : Int32) + nI m = nI (6 + m) from nI_add 6 m]; exact nI_add (6 + m) 3) (by omega) (by decide) ?_
        refine V_eqv (y := (up2 i 90 4 (nI c)) 90 (6 + m + 3)) (by unfold mdF; rw [if_neg (by omega)]) ?_
        refine U_iast (n := (6 + m)) dX7_dropOldest_43 rfl (nI_add 6 m) (by omega) (by decide) ?_
        refine V_iinc_1 (v := nI (m + 1)) dX7_dropOldest_44 (Nat.le_of_ble_eq_true rfl) rfl (nI_1 _) ?_
        refine V_goto (tgt := 12) dX7_dropOldest_47 (by decide) ?_
        refine V_eqI (i' := mdF (up2 i 90 4 (nI c)) (m + 1)) (by
          refine up2_ext fun a9 f9 => ?_
          unfold up2 mdF
          (repeat' split) <;> first | rfl | (exact ieq (by omega) (by omega)) | (exfalso; omega) | (simp_all; done)) ?_
        exact ih (m + 1) (by omega)
  refine L_aload_n_0 dX7_dropOldest_0 ?_
  refine U_getR (r := 90) dX7_dropOldest_1 fl_RX7_7 rfl rfl rfl ?_
  refine V_iconst (v := 4) (by decide) dX7_dropOldest_4 ?_
  refine V_dup2 rfl rfl dX7_dropOldest_5 ?_
  refine U_iald (n := 4) dX7_dropOldest_6 rfl (rfl) (by decide) (by decide) ?_
  refine V_iconst (v := 1) (by decide) dX7_dropOldest_7 ?_
  refine V_isub dX7_dropOldest_8 ?_
  refine V_eqv (y := nI c) (by rw [hc]; exact nI_pred c) ?_
  refine U_iast (n := 4) dX7_dropOldest_9 rfl (rfl) (by decide) (by decide) ?_
  refine V_iconst (v := 0) (by decide) dX7_dropOldest_10 ?_
  refine V_istore_n_1 dX7_dropOldest_11 (Nat.le_of_ble_eq_true rfl) rfl ?_
  refine V_eqI (i' := mdF (up2 i 90 4 (nI c)) 0) (by
    refine up2_ext fun a9 f9 => ?_
    unfold mdF
    rw [if_neg (by omega)]) ?_
  exact loop (3 * c) 0 (by omega)
def mgv (i : Nat → Nat → Int32) : Nat → Nat → Nat → Int32
  | 0 => i
  | m + 1 => if mgv i m 90 (24 + 6 * m + 3) = 0 then up2 (mgv i m) 90 (24 + 6 * m + 4) 1 else mgv i m
theorem k_X7_give {g : G0} {j : Nat → Nat → Int64} (d : Nat) {i : Nat → Nat → Int32}  : C g m_X7_give (d + 1) 0 0 false [.ref 89] (mk i j) (rets (none) (mk (mgv i 4) j)) := by
  refine C_of (L := [some (.ref 89), none]) rfl ?_
  have loop : ∀ (n m : Nat), m + n = 4 → V g m_X7_give (d + 1) 0 0 false (Kp g false (rets (none) (mk (mgv i 4) j))) 2 [some (.ref 89), some (.int (nI m))] [] (mk (mgv i m) j) := by
    intro n
    induction n with
    | zero =>
      intro m hm
      have hm0 : m = 4 := by omega
      subst hm0
      refine L_iload_n_1 dX7_give_2 ?_
      refine V_iconst (v := 4) (by decide) dX7_give_3 ?_
      refine V_icmp_ge (tgt := 29) dX7_give_4 (by decide) (fun h4 => ?_) (fun h4 => ?_)
      · exact V_vret dX7_give_29 rfl (⟨rfl, rfl⟩)
      · exact absurd (by decide) h4
    | succ n ih =>
      intro m hm
      have hlt : m < 4 := by omega
      refine L_iload_n_1 dX7_give_2 ?_
      refine V_iconst (v := 4) (by decide) dX7_give_3 ?_
      refine V_icmp_ge (tgt := 29) dX7_give_4 (by decide) (fun h4 => ?_) (fun h4 => ?_)
      · exact absurd ((nI_leI (a := 4) (b := m) (by omega) (by omega)).mp h4) (by omega)
      · refine L_aload_n_0 dX7_give_7 ?_
        refine L_iload_n_1 dX7_give_8 ?_
        refine V_iconst (v := 3) (by decide) dX7_give_9 ?_
        refine U_cv3 (d := d + 0) (lkR_RX7_34 rfl dX7_give_10) (k_X7_of _ (f := m) (w := 3) rfl rfl (by omega) (by decide)) ⟨pn_X7_of, rfl, (Nat.le_of_ble_eq_true rfl), (Nat.le_of_ble_eq_true rfl), rfl⟩ (⟨_, _, rfl, rfl, rfl⟩) (cfS cf7) (Nat.le_of_ble_eq_true rfl) ?_
        refine V_ifx_ne (tgt := 23) dX7_give_13 (by decide) (fun h13 => ?_) (fun h13 => ?_)
        · refine V_iinc_1 (v := nI (m + 1)) dX7_give_23 (Nat.le_of_ble_eq_true rfl) rfl (nI_1 _) ?_
          refine V_goto (tgt := 2) dX7_give_26 (by decide) ?_
          have h9 := ih (m + 1) (by omega)
          rw [show mgv i (m + 1) = _ from if_neg h13] at h9
          exact h9
        · refine L_aload_n_0 dX7_give_16 ?_
          refine L_iload_n_1 dX7_give_17 ?_
          refine V_iconst (v := 4) (by decide) dX7_give_18 ?_
          refine V_iconst (v := 1) (by decide) dX7_give_19 ?_
          refine U_cV4 (d := d + 0) (lkR_RX7_38 rfl dX7_give_20) (k_X7_setOf _ (f := m) (w := 4) rfl rfl (by omega) (by decide)) ⟨pn_X7_setOf, rfl, (Nat.le_of_ble_eq_true rfl), (Nat.le_of_ble_eq_true rfl), rfl⟩ (⟨_, _, rfl, rfl, rfl⟩) (cfS cf7) (Nat.le_of_ble_eq_true rfl) ?_
          refine V_iinc_1 (v := nI (m + 1)) dX7_give_23 (Nat.le_of_ble_eq_true rfl) rfl (nI_1 _) ?_
          refine V_goto (tgt := 2) dX7_give_26 (by decide) ?_
          have h9 := ih (m + 1) (by omega)
          rw [show mgv i (m + 1) = _ from if_pos h13] at h9
          exact h9
  refine V_iconst (v := 0) (by decide) dX7_give_0 ?_
  refine V_istore_n_1 dX7_give_1 (Nat.le_of_ble_eq_true rfl) rfl ?_
  exact loop 4 0 (by omega)
def mco (i : Nat → Nat → Int32) (k : Nat) : Int32 := 1 + one (i 90 (6 + 3 * k + 1)) + one (i 90 (6 + 3 * k + 2))
def mwh (i : Nat → Nat → Int32) : Int32 := 1 + one (i 90 1)
def mlf (i : Nat → Nat → Int32) (f : Nat) : Nat → Nat → Option Nat
  | 0, _ => none
  | r + 1, k => if i 90 (6 + 3 * k + 0) = i 90 (24 + 6 * f + 2) then some k else mlf i f r (k + 1)
def lfI : Option Nat → Int32
  | none => -1
  | some k => nI k
theorem mlf_lt {i : Nat → Nat → Int32} {f : Nat} : ∀ (r k : Nat) {q : Nat}, mlf i f r k = some q → k ≤ q ∧ q < k + r
  | 0, k, q, h => by unfold mlf at h; exact absurd h (by simp)
  | r + 1, k, q, h => by
    unfold mlf at h
    split at h
    · simp at h; omega
    · have := mlf_lt r (k + 1) h; omega
def mcf (i : Nat → Nat → Int32) : Nat → Nat → Int32 → Int32
  | 0, _, a => a
  | r + 1, k, a => mcf i r (k + 1) (a + mco i k)
def mcA (i : Nat → Nat → Int32) (c : Nat) : Option Nat → Int32
  | none => 0
  | some k => mcf i (c - k) k 0
def man (i : Nat → Nat → Int32) (f c : Nat) : Int32 :=
  if i 90 (24 + 6 * f + 0) = 0 then 2 else if ¬ 0 < ordI (i 90 2) (i 90 (24 + 6 * f + 2)) then (if ordI (i 90 2) (i 90 (24 + 6 * f + 2)) = 0 then 0 else 3)
  else match mlf i f c 0 with
    | none => 2
    | some k => if ¬ mwh i < mcf i (c - k) k 0 then 1 else 2
def mca (i : Nat → Nat → Int32) (f c : Nat) : Int32 := if man i f c = 1 then mcA i c (mlf i f c 0) else if man i f c = 2 then mwh i else 0
theorem man_one {i : Nat → Nat → Int32} {f c : Nat} (h : man i f c = 1) : ∃ k, mlf i f c 0 = some k ∧ k < c := by
  unfold man at h
  split at h
  · exact absurd h (by decide)
  · split at h
    · split at h
      · exact absurd h (by decide)
      · exact absurd h (by decide)
    · cases h2 : mlf i f c 0 with
      | none => rw [h2] at h; exact absurd (show (2 : Int32) = 1 from h) (by decide)
      | some k => exact ⟨k, rfl, by have := mlf_lt _ _ h2; omega⟩
theorem k_X7_costOf {g : G0} {j : Nat → Nat → Int64} (d : Nat) {i : Nat → Nat → Int32} {x : Int32} {f : Nat} (hx : x = nI f) (hf : f < 6)  : C g m_X7_costOf (d + 1) 0 0 false [.ref 89, .int x] (mk i j) (rets (some (.int (mco i f))) (mk i j)) := by
  refine C_of (L := [some (.ref 89), some (.int x)]) rfl ?_
  refine V_iconst (v := 1) (by decide) dX7_costOf_0 ?_
  refine L_aload_n_0 dX7_costOf_1 ?_
  refine L_iload_n_1 dX7_costOf_2 ?_
  refine V_iconst (v := 1) (by decide) dX7_costOf_3 ?_
  refine U_cv3 (d := d + 0) (lkR_RX7_42 rfl dX7_costOf_4) (k_X7_ofDifference _ (f := f) (w := 1) hx rfl (hf) (by decide)) ⟨pn_X7_ofDifference, rfl, (Nat.le_of_ble_eq_true rfl), (Nat.le_of_ble_eq_true rfl), rfl⟩ (⟨_, _, rfl, rfl, rfl⟩) (cfS cf7) (Nat.le_of_ble_eq_true rfl) ?_
  refine U_cv1 (d := d + 0) (lkR_RX7_45 rfl dX7_costOf_7) (k_X7_ones _) ⟨pn_X7_ones, rfl, (Nat.le_of_ble_eq_true rfl), (Nat.le_of_ble_eq_true rfl), rfl⟩ (trivial) cfn (Nat.le_of_ble_eq_true rfl) ?_
  refine V_iadd dX7_costOf_10 ?_
  refine L_aload_n_0 dX7_costOf_11 ?_
  refine L_iload_n_1 dX7_costOf_12 ?_
  refine V_iconst (v := 2) (by decide) dX7_costOf_13 ?_
  refine U_cv3 (d := d + 0) (lkR_RX7_42 rfl dX7_costOf_14) (k_X7_ofDifference _ (f := f) (w := 2) hx rfl (hf) (by decide)) ⟨pn_X7_ofDifference, rfl, (Nat.le_of_ble_eq_true rfl), (Nat.le_of_ble_eq_true rfl), rfl⟩ (⟨_, _, rfl, rfl, rfl⟩) (cfS cf7) (Nat.le_of_ble_eq_true rfl) ?_
  refine U_cv1 (d := d + 0) (lkR_RX7_45 rfl dX7_costOf_17) (k_X7_ones _) ⟨pn_X7_ones, rfl, (Nat.le_of_ble_eq_true rfl), (Nat.le_of_ble_eq_true rfl), rfl⟩ (trivial) cfn (Nat.le_of_ble_eq_true rfl) ?_
  refine V_iadd dX7_costOf_20 ?_
  exact V_iret dX7_costOf_21 rfl rfl (⟨rfl, rfl⟩)
theorem k_X7_wholeCost {g : G0} {j : Nat → Nat → Int64} (d : Nat) {i : Nat → Nat → Int32}  : C g m_X7_wholeCost (d + 1) 0 0 false [.ref 89] (mk i j) (rets (some (.int (mwh i))) (mk i j)) := by
  refine C_of (L := [some (.ref 89)]) rfl ?_
  refine V_iconst (v := 1) (by decide) dX7_wholeCost_0 ?_
  refine L_aload_n_0 dX7_wholeCost_1 ?_
  refine U_getR (r := 90) dX7_wholeCost_2 fl_RX7_7 rfl rfl rfl ?_
  refine V_iconst (v := 1) (by decide) dX7_wholeCost_5 ?_
  refine U_iald (n := 1) dX7_wholeCost_6 rfl (rfl) (by decide) (by decide) ?_
  refine U_cv1 (d := d + 0) (lkR_RX7_45 rfl dX7_wholeCost_7) (k_X7_ones _) ⟨pn_X7_ones, rfl, (Nat.le_of_ble_eq_true rfl), (Nat.le_of_ble_eq_true rfl), rfl⟩ (trivial) cfn (Nat.le_of_ble_eq_true rfl) ?_
  refine V_iadd dX7_wholeCost_10 ?_
  exact V_iret dX7_wholeCost_11 rfl rfl (⟨rfl, rfl⟩)
theorem k_X7_leadsFrom {g : G0} {j : Nat → Nat → Int64} (d : Nat) {i : Nat → Nat → Int32} {x : Int32} {f : Nat} (hx : x = nI f) (hf : f < 4) {c : Nat} (hc : i 90 4 = nI c) (h6 : c ≤ 6)  : C g m_X7_leadsFrom (d + 1) 0 0 false [.ref 89, .int x] (mk i j) (rets (some (.int (lfI (mlf i f c 0)))) (mk i j)) := by
  refine C_of (L := [some (.ref 89), some (.int x), none]) rfl ?_
  have loop : ∀ (r m : Nat), m + r = c → V g m_X7_leadsFrom (d + 1) 0 0 false (Kp g false (rets (some (.int (lfI (mlf i f r m)))) (mk i j))) 2 [some (.ref 89), some (.int x), some (.int (nI m))] [] (mk i j) := by
    intro r
    induction r with
    | zero =>
      intro m hm
      have hm0 : m = c := by omega
      subst hm0
      refine L_iload_n_2 dX7_leadsFrom_2 ?_
      refine L_aload_n_0 dX7_leadsFrom_3 ?_
      refine U_getR (r := 90) dX7_leadsFrom_4 fl_RX7_7 rfl rfl rfl ?_
      refine V_iconst (v := 4) (by decide) dX7_leadsFrom_7 ?_
      refine U_iald (n := 4) dX7_leadsFrom_8 rfl (rfl) (by decide) (by decide) ?_
      refine V_eqv (y := nI m) hc ?_
      refine V_icmp_ge (tgt := 35) dX7_leadsFrom_9 (by decide) (fun h9 => ?_) (fun h9 => ?_)
      · refine V_iconst (v := (-1)) (by decide) dX7_leadsFrom_35 ?_
        exact V_iret dX7_leadsFrom_36 rfl rfl (⟨rfl, rfl⟩)
      · exact absurd (Int32.le_refl _) h9
    | succ r ih =>
      intro m hm
      refine L_iload_n_2 dX7_leadsFrom_2 ?_
      refine L_aload_n_0 dX7_leadsFrom_3 ?_
      refine U_getR (r := 90) dX7_leadsFrom_4 fl_RX7_7 rfl rfl rfl ?_
      refine V_iconst (v := 4) (by decide) dX7_leadsFrom_7 ?_
      refine U_iald (n := 4) dX7_leadsFrom_8 rfl (rfl) (by decide) (by decide) ?_
      refine V_eqv (y := nI c) hc ?_
      refine V_icmp_ge (tgt := 35) dX7_leadsFrom_9 (by decide) (fun h9 => ?_) (fun h9 => ?_)
      · exact absurd ((nI_leI (a := c) (b := m) (by omega) (by omega)).mp h9) (by omega)
      · refine L_aload_n_0 dX7_leadsFrom_12 ?_
        refine L_iload_n_2 dX7_leadsFrom_13 ?_
        refine V_iconst (v := 0) (by decide) dX7_leadsFrom_14 ?_
        refine U_cv3 (d := d + 0) (lkR_RX7_42 rfl dX7_leadsFrom_15) (k_X7_ofDifference _ (f := m) (w := 0) rfl rfl ((by omega)) (by decide)) ⟨pn_X7_ofDifference, rfl, (Nat.le_of_ble_eq_true rfl), (Nat.le_of_ble_eq_true rfl), rfl⟩ (⟨_, _, rfl, rfl, rfl⟩) (cfS cf7) (Nat.le_of_ble_eq_true rfl) ?_
        refine L_aload_n_0 dX7_leadsFrom_18 ?_
        refine L_iload_n_1 dX7_leadsFrom_19 ?_
        refine V_iconst (v := 2) (by decide) dX7_leadsFrom_20 ?_
        refine U_cv3 (d := d + 0) (lkR_RX7_34 rfl dX7_leadsFrom_21) (k_X7_of _ (f := f) (w := 2) hx rfl (hf) (by decide)) ⟨pn_X7_of, rfl, (Nat.le_of_ble_eq_true rfl), (Nat.le_of_ble_eq_true rfl), rfl⟩ (⟨_, _, rfl, rfl, rfl⟩) (cfS cf7) (Nat.le_of_ble_eq_true rfl) ?_
        refine V_icmp_ne (tgt := 29) dX7_leadsFrom_24 (by decide) (fun h24 => ?_) (fun h24 => ?_)
        · refine V_iinc_2 (v := nI (m + 1)) dX7_leadsFrom_29 (Nat.le_of_ble_eq_true rfl) rfl (nI_1 _) ?_
          refine V_goto (tgt := 2) dX7_leadsFrom_32 (by decide) ?_
          have h9 := ih (m + 1) (by omega)
          rw [show mlf i f (r + 1) m = _ from if_neg h24]
          exact h9
        · refine L_iload_n_2 dX7_leadsFrom_27 ?_
          exact V_iret dX7_leadsFrom_28 rfl rfl (rtI (by unfold mlf; rw [if_pos h24]; rfl))
  refine V_iconst (v := 0) (by decide) dX7_leadsFrom_0 ?_
  refine V_istore_n_2 dX7_leadsFrom_1 (Nat.le_of_ble_eq_true rfl) rfl ?_
  exact loop c 0 (by omega)
theorem k_X7_costFrom {g : G0} {j : Nat → Nat → Int64} (d : Nat) {i : Nat → Nat → Int32} {x : Int32} {k c : Nat} (hx : x = nI k) (hk : k ≤ c) (hc : i 90 4 = nI c) (h6 : c ≤ 6)  : C g m_X7_costFrom (d + 2) 0 0 false [.ref 89, .int x] (mk i j) (rets (some (.int (mcf i (c - k) k 0))) (mk i j)) := by
  refine C_of (L := [some (.ref 89), some (.int x), none, none]) rfl ?_
  have loop : ∀ (r m : Nat) (a : Int32), m + r = c → V g m_X7_costFrom (d + 2) 0 0 false (Kp g false (rets (some (.int (mcf i r m a))) (mk i j))) 4 [some (.ref 89), some (.int x), some (.int a), some (.int (nI m))] [] (mk i j) := by
    intro r
    induction r with
    | zero =>
      intro m a hm
      have hm0 : m = c := by omega
      subst hm0
      refine L_iload_n_3 dX7_costFrom_4 ?_
      refine L_aload_n_0 dX7_costFrom_5 ?_
      refine U_getR (r := 90) dX7_costFrom_6 fl_RX7_7 rfl rfl rfl ?_
      refine V_iconst (v := 4) (by decide) dX7_costFrom_9 ?_
      refine U_iald (n := 4) dX7_costFrom_10 rfl (rfl) (by decide) (by decide) ?_
      refine V_eqv (y := nI m) hc ?_
      refine V_icmp_ge (tgt := 28) dX7_costFrom_11 (by decide) (fun h11 => ?_) (fun h11 => ?_)
      · refine L_iload_n_2 dX7_costFrom_28 ?_
        exact V_iret dX7_costFrom_29 rfl rfl (⟨rfl, rfl⟩)
      · exact absurd (Int32.le_refl _) h11
    | succ r ih =>
      intro m a hm
      refine L_iload_n_3 dX7_costFrom_4 ?_
      refine L_aload_n_0 dX7_costFrom_5 ?_
      refine U_getR (r := 90) dX7_costFrom_6 fl_RX7_7 rfl rfl rfl ?_
      refine V_iconst (v := 4) (by decide) dX7_costFrom_9 ?_
      refine U_iald (n := 4) dX7_costFrom_10 rfl (rfl) (by decide) (by decide) ?_
      refine V_eqv (y := nI c) hc ?_
      refine V_icmp_ge (tgt := 28) dX7_costFrom_11 (by decide) (fun h11 => ?_) (fun h11 => ?_)
      · exact absurd ((nI_leI (a := c) (b := m) (by omega) (by omega)).mp h11) (by omega)
      · refine L_iload_n_2 dX7_costFrom_14 ?_
        refine L_aload_n_0 dX7_costFrom_15 ?_
        refine L_iload_n_3 dX7_costFrom_16 ?_
        refine U_cv2 (d := d + 1) (lkR_RX7_48 rfl dX7_costFrom_17) (k_X7_costOf _ (f := m) rfl (by omega)) ⟨pn_X7_costOf, rfl, (Nat.le_of_ble_eq_true rfl), (Nat.le_of_ble_eq_true rfl), rfl⟩ (⟨_, _, rfl, rfl, rfl⟩) (cfS cf7) (Nat.le_of_ble_eq_true rfl) ?_
        refine V_iadd dX7_costFrom_20 ?_
        refine V_istore_n_2 dX7_costFrom_21 (Nat.le_of_ble_eq_true rfl) rfl ?_
        refine V_iinc_3 (v := nI (m + 1)) dX7_costFrom_22 (Nat.le_of_ble_eq_true rfl) rfl (nI_1 _) ?_
        refine V_goto (tgt := 4) dX7_costFrom_25 (by decide) ?_
        exact ih (m + 1) _ (by omega)
  subst hx
  refine V_iconst (v := 0) (by decide) dX7_costFrom_0 ?_
  refine V_istore_n_2 dX7_costFrom_1 (Nat.le_of_ble_eq_true rfl) rfl ?_
  refine L_iload_n_1 dX7_costFrom_2 ?_
  refine V_istore_n_3 dX7_costFrom_3 (Nat.le_of_ble_eq_true rfl) rfl ?_
  exact loop (c - k) k 0 (by omega)
theorem nI_nm1 (k : Nat) (h : k < 2 ^ 31) : ¬ nI k = -1 := fun z => by
  have h2 := nI_pos h
  rw [z] at h2
  exact h2 (by decide)
theorem k_X7_answerTo {g : G0} {j : Nat → Nat → Int64} (d : Nat) {i : Nat → Nat → Int32} {x : Int32} {f : Nat} (hx : x = nI f) (hf : f < 4) {c : Nat} (hc : i 90 4 = nI c) (hb : c ≤ 6)  : C g m_X7_answerTo (d + 3) 0 0 false [.ref 89, .int x] (mk i j) (rets (some (.int (man i f c))) (mk i j)) := by
  refine C_of (L := [some (.ref 89), some (.int x), none, none]) rfl ?_
  refine L_aload_n_0 dX7_answerTo_0 ?_
  refine L_iload_n_1 dX7_answerTo_1 ?_
  refine V_iconst (v := 0) (by decide) dX7_answerTo_2 ?_
  refine U_cv3 (d := d + 2) (lkR_RX7_34 rfl dX7_answerTo_3) (k_X7_of _ (f := f) (w := 0) hx rfl (hf) (by decide)) ⟨pn_X7_of, rfl, (Nat.le_of_ble_eq_true rfl), (Nat.le_of_ble_eq_true rfl), rfl⟩ (⟨_, _, rfl, rfl, rfl⟩) (cfS cf7) (Nat.le_of_ble_eq_true rfl) ?_
  refine V_ifx_ne (tgt := 11) dX7_answerTo_6 (by decide) (fun h6 => ?_) (fun h6 => ?_)
  · refine L_aload_n_0 dX7_answerTo_11 ?_
    refine U_getR (r := 90) dX7_answerTo_12 fl_RX7_7 rfl rfl rfl ?_
    refine V_iconst (v := 2) (by decide) dX7_answerTo_15 ?_
    refine U_iald (n := 2) dX7_answerTo_16 rfl (rfl) (by decide) (by decide) ?_
    refine L_aload_n_0 dX7_answerTo_17 ?_
    refine L_iload_n_1 dX7_answerTo_18 ?_
    refine V_iconst (v := 2) (by decide) dX7_answerTo_19 ?_
    refine U_cv3 (d := d + 2) (lkR_RX7_34 rfl dX7_answerTo_20) (k_X7_of _ (f := f) (w := 2) hx rfl (hf) (by decide)) ⟨pn_X7_of, rfl, (Nat.le_of_ble_eq_true rfl), (Nat.le_of_ble_eq_true rfl), rfl⟩ (⟨_, _, rfl, rfl, rfl⟩) (cfS cf7) (Nat.le_of_ble_eq_true rfl) ?_
    refine U_cv2 (d := d + 2) (lkR_RX7_51 rfl dX7_answerTo_23) (k_X7_order _) ⟨pn_X7_order, rfl, (Nat.le_of_ble_eq_true rfl), (Nat.le_of_ble_eq_true rfl), rfl⟩ (trivial) cfn (Nat.le_of_ble_eq_true rfl) ?_
    refine V_istore_n_2 dX7_answerTo_26 (Nat.le_of_ble_eq_true rfl) rfl ?_
    refine L_iload_n_2 dX7_answerTo_27 ?_
    refine V_ifx_gt (tgt := 41) dX7_answerTo_28 (by decide) (fun h28 => ?_) (fun h28 => ?_)
    · refine L_aload_n_0 dX7_answerTo_41 ?_
      refine L_iload_n_1 dX7_answerTo_42 ?_
      refine U_cv2 (d := d + 2) (lkR_RX7_54 rfl dX7_answerTo_43) (k_X7_leadsFrom _ hx hf hc hb) ⟨pn_X7_leadsFrom, rfl, (Nat.le_of_ble_eq_true rfl), (Nat.le_of_ble_eq_true rfl), rfl⟩ (⟨_, _, rfl, rfl, rfl⟩) (cfS cf7) (Nat.le_of_ble_eq_true rfl) ?_
      cases h2 : mlf i f c 0 with
      | none => 
        refine V_istore_n_3 dX7_answerTo_46 (Nat.le_of_ble_eq_true rfl) rfl ?_
        refine L_iload_n_3 dX7_answerTo_47 ?_
        refine V_iconst (v := (-1)) (by decide) dX7_answerTo_48 ?_
        refine V_icmp_eq (tgt := 68) dX7_answerTo_49 (by decide) (fun h49 => ?_) (fun h49 => ?_)
        · refine V_iconst (v := 2) (by decide) dX7_answerTo_68 ?_
          exact V_iret dX7_answerTo_69 rfl rfl (rtI (by unfold man; rw [if_neg h6, if_neg (fun z => z h28), h2]))
        · exact absurd rfl h49
      | some k => 
        have hk := (mlf_lt c 0 h2).2
        refine V_istore_n_3 dX7_answerTo_46 (Nat.le_of_ble_eq_true rfl) rfl ?_
        refine L_iload_n_3 dX7_answerTo_47 ?_
        refine V_iconst (v := (-1)) (by decide) dX7_answerTo_48 ?_
        refine V_icmp_eq (tgt := 68) dX7_answerTo_49 (by decide) (fun h49 => ?_) (fun h49 => ?_)
        · exact absurd h49 (nI_nm1 k (by omega))
        · refine L_aload_n_0 dX7_answerTo_52 ?_
          refine L_iload_n_3 dX7_answerTo_53 ?_
          refine U_cv2 (d := d + 2) (lkR_RX7_57 rfl dX7_answerTo_54) (k_X7_costFrom _ (k := k) rfl (by omega) hc hb) ⟨pn_X7_costFrom, rfl, (Nat.le_of_ble_eq_true rfl), (Nat.le_of_ble_eq_true rfl), rfl⟩ (⟨_, _, rfl, rfl, rfl⟩) (cfS cf7) (Nat.le_of_ble_eq_true rfl) ?_
          refine L_aload_n_0 dX7_answerTo_57 ?_
          refine U_cv1 (d := d + 2) (lkR_RX7_60 rfl dX7_answerTo_58) (k_X7_wholeCost _) ⟨pn_X7_wholeCost, rfl, (Nat.le_of_ble_eq_true rfl), (Nat.le_of_ble_eq_true rfl), rfl⟩ (⟨_, _, rfl, rfl, rfl⟩) (cfS cf7) (Nat.le_of_ble_eq_true rfl) ?_
          refine V_icmp_gt (tgt := 68) dX7_answerTo_61 (by decide) (fun h61 => ?_) (fun h61 => ?_)
          · refine V_iconst (v := 2) (by decide) dX7_answerTo_68 ?_
            exact V_iret dX7_answerTo_69 rfl rfl (rtI (by unfold man; rw [if_neg h6, if_neg (fun z => z h28), h2]; exact (if_neg (fun z => z h61)).symm))
          · refine V_iconst (v := 1) (by decide) dX7_answerTo_64 ?_
            refine V_goto (tgt := 69) dX7_answerTo_65 (by decide) ?_
            exact V_iret dX7_answerTo_69 rfl rfl (rtI (by unfold man; rw [if_neg h6, if_neg (fun z => z h28), h2]; exact (if_pos h61).symm))
    · refine L_iload_n_2 dX7_answerTo_31 ?_
      refine V_ifx_ne (tgt := 39) dX7_answerTo_32 (by decide) (fun h32 => ?_) (fun h32 => ?_)
      · refine V_iconst (v := 3) (by decide) dX7_answerTo_39 ?_
        exact V_iret dX7_answerTo_40 rfl rfl (rtI (by unfold man; rw [if_neg h6, if_pos h28]; rw [if_neg h32]))
      · refine V_iconst (v := 0) (by decide) dX7_answerTo_35 ?_
        refine V_goto (tgt := 40) dX7_answerTo_36 (by decide) ?_
        exact V_iret dX7_answerTo_40 rfl rfl (rtI (by unfold man; rw [if_neg h6, if_pos h28]; rw [if_pos h32]))
  · refine V_iconst (v := 2) (by decide) dX7_answerTo_9 ?_
    exact V_iret dX7_answerTo_10 rfl rfl (rtI (by unfold man; rw [if_pos h6]))
theorem k_X7_costOfAnswer {g : G0} {j : Nat → Nat → Int64} (d : Nat) {i : Nat → Nat → Int32} {x : Int32} {f : Nat} (hx : x = nI f) (hf : f < 4) {c : Nat} (hc : i 90 4 = nI c) (hb : c ≤ 6)  : C g m_X7_costOfAnswer (d + 4) 0 0 false [.ref 89, .int x] (mk i j) (rets (some (.int (mca i f c))) (mk i j)) := by
  refine C_of (L := [some (.ref 89), some (.int x), none]) rfl ?_
  refine L_aload_n_0 dX7_costOfAnswer_0 ?_
  refine L_iload_n_1 dX7_costOfAnswer_1 ?_
  refine U_cv2 (d := d + 3) (lkR_RX7_64 rfl dX7_costOfAnswer_2) (k_X7_answerTo _ hx hf hc hb) ⟨pn_X7_answerTo, rfl, (Nat.le_of_ble_eq_true rfl), (Nat.le_of_ble_eq_true rfl), rfl⟩ (⟨_, _, rfl, rfl, rfl⟩) (cfS cf7) (Nat.le_of_ble_eq_true rfl) ?_
  refine V_istore_n_2 dX7_costOfAnswer_5 (Nat.le_of_ble_eq_true rfl) rfl ?_
  refine L_iload_n_2 dX7_costOfAnswer_6 ?_
  refine V_iconst (v := 1) (by decide) dX7_costOfAnswer_7 ?_
  refine V_icmp_ne (tgt := 23) dX7_costOfAnswer_8 (by decide) (fun h8 => ?_) (fun h8 => ?_)
  · refine L_iload_n_2 dX7_costOfAnswer_23 ?_
    refine V_iconst (v := 2) (by decide) dX7_costOfAnswer_24 ?_
    refine V_icmp_ne (tgt := 35) dX7_costOfAnswer_25 (by decide) (fun h25 => ?_) (fun h25 => ?_)
    · refine V_iconst (v := 0) (by decide) dX7_costOfAnswer_35 ?_
      exact V_iret dX7_costOfAnswer_36 rfl rfl (rtI (by unfold mca; rw [if_neg h8, if_neg h25]))
    · refine L_aload_n_0 dX7_costOfAnswer_28 ?_
      refine U_cv1 (d := d + 3) (lkR_RX7_60 rfl dX7_costOfAnswer_29) (k_X7_wholeCost _) ⟨pn_X7_wholeCost, rfl, (Nat.le_of_ble_eq_true rfl), (Nat.le_of_ble_eq_true rfl), rfl⟩ (⟨_, _, rfl, rfl, rfl⟩) (cfS cf7) (Nat.le_of_ble_eq_true rfl) ?_
      refine V_goto (tgt := 36) dX7_costOfAnswer_32 (by decide) ?_
      exact V_iret dX7_costOfAnswer_36 rfl rfl (rtI (by unfold mca; rw [if_neg h8, if_pos h25]))
  · refine L_aload_n_0 dX7_costOfAnswer_11 ?_
    refine L_aload_n_0 dX7_costOfAnswer_12 ?_
    refine L_iload_n_1 dX7_costOfAnswer_13 ?_
    refine U_cv2 (d := d + 3) (lkR_RX7_54 rfl dX7_costOfAnswer_14) (k_X7_leadsFrom _ hx hf hc hb) ⟨pn_X7_leadsFrom, rfl, (Nat.le_of_ble_eq_true rfl), (Nat.le_of_ble_eq_true rfl), rfl⟩ (⟨_, _, rfl, rfl, rfl⟩) (cfS cf7) (Nat.le_of_ble_eq_true rfl) ?_
    obtain ⟨k, h2, hk⟩ := man_one h8
    refine V_eqv (y := nI k) (by rw [h2]; rfl) ?_
    refine U_cv2 (d := d + 3) (lkR_RX7_57 rfl dX7_costOfAnswer_17) (k_X7_costFrom _ (k := k) rfl (by omega) hc hb) ⟨pn_X7_costFrom, rfl, (Nat.le_of_ble_eq_true rfl), (Nat.le_of_ble_eq_true rfl), rfl⟩ (⟨_, _, rfl, rfl, rfl⟩) (cfS cf7) (Nat.le_of_ble_eq_true rfl) ?_
    refine V_goto (tgt := 36) dX7_costOfAnswer_20 (by decide) ?_
    exact V_iret dX7_costOfAnswer_36 rfl rfl (rtI (by unfold mca; rw [if_pos h8, h2]; rfl))
