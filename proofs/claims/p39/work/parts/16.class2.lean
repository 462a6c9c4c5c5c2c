def gnF (i : Nat → Nat → Int32) (m : Nat) : Nat → Nat → Int32 := fun a f => if 9 ≤ a ∧ a < 9 + m ∧ f = 4 ∧ i a 3 = 0 then 1 else i a f
theorem k_X5_giveNotice {g : G0} {j : Nat → Nat → Int64} (d : Nat) {i : Nat → Nat → Int32}  : C g m_X5_giveNotice (d + 0) 0 0 false [.ref 1] (mk i j) (rets (none) (mk (gnF i 4) j)) := by
  refine C_of (L := [some (.ref 1), none]) rfl ?_
  have loop : ∀ (n m : Nat), m + n = 4 → V g m_X5_giveNotice (d + 0) 0 0 false (Kp g false (rets (none) (mk (gnF i 4) j))) 2 [some (.ref 1), some (.int (nI m))] [] (mk (gnF i m) j) := by
    intro n
    induction n with
    | zero =>
      intro m hm
      have hm0 : m = 4 := by omega
      subst hm0
      refine L_iload_n_1 dX5_giveNotice_2 ?_
      refine V_iconst (v := 4) (by decide) dX5_giveNotice_3 ?_
      refine V_icmp_ge (tgt := 35) dX5_giveNotice_4 (by decide) (fun h4 => ?_) (fun h4 => ?_)
      · exact V_vret dX5_giveNotice_35 rfl (⟨rfl, rfl⟩)
      · exact absurd (by decide) h4
    | succ n ih =>
      intro m hm
      have hlt : m < 4 := by omega
      refine L_iload_n_1 dX5_giveNotice_2 ?_
      refine V_iconst (v := 4) (by decide) dX5_giveNotice_3 ?_
      refine V_icmp_ge (tgt := 35) dX5_giveNotice_4 (by decide) (fun h4 => ?_) (fun h4 => ?_)
      · exact absurd ((nI_leI (a := 4) (b := m) (by omega) (by omega)).mp h4) (by omega)
      · refine L_aload_n_0 dX5_giveNotice_7 ?_
        refine U_getR (r := 8) dX5_giveNotice_8 fl_RX5_20 rfl rfl rfl ?_
        refine L_iload_n_1 dX5_giveNotice_11 ?_
        refine U_aald (n := m) (r := (9 + m)) dX5_giveNotice_12 rfl (Or.inr rfl) (rfl) (by omega) (by decide) (br81 (by omega)) ?_
        refine U_getI dX5_giveNotice_13 fl_RX5_42 (bkF1 (by omega)) rfl ?_
        refine V_eqv (y := i (9 + m) 3) (by unfold gnF; rw [if_neg (by omega)]) ?_
        refine V_ifx_ne (tgt := 29) dX5_giveNotice_16 (by decide) (fun h16 => ?_) (fun h16 => ?_)
        · refine V_iinc_1 (v := nI (m + 1)) dX5_giveNotice_29 (Nat.le_of_ble_eq_true rfl) rfl (nI_1 _) ?_
          refine V_goto (tgt := 2) dX5_giveNotice_32 (by decide) ?_
          refine V_eqI (i' := gnF i (m + 1)) (by
            refine up2_ext fun a9 f9 => ?_
            unfold gnF
            by_cases h8 : a9 = 9 + m ∧ f9 = 4
            · obtain ⟨rfl, rfl⟩ := h8
              first | (unfold up2; rw [if_pos ⟨rfl, rfl⟩, if_pos ⟨by omega, by omega, rfl, h16⟩]) | rw [if_neg (by omega), if_neg (fun z => h16 z.2.2.2)]
            · have e9 : (9 ≤ a9 ∧ a9 < 9 + m ∧ f9 = 4 ∧ i a9 3 = 0) ↔ (9 ≤ a9 ∧ a9 < 9 + (m + 1) ∧ f9 = 4 ∧ i a9 3 = 0) := ⟨fun z => ⟨z.1, by omega, z.2.2⟩, fun z => ⟨z.1, by omega, z.2.2⟩⟩
              first | (unfold up2; rw [if_neg h8]; simp only [e9]) | simp only [e9]) ?_
          exact ih (m + 1) (by omega)
        · refine L_aload_n_0 dX5_giveNotice_19 ?_
          refine U_getR (r := 8) dX5_giveNotice_20 fl_RX5_20 rfl rfl rfl ?_
          refine L_iload_n_1 dX5_giveNotice_23 ?_
          refine U_aald (n := m) (r := (9 + m)) dX5_giveNotice_24 rfl (Or.inr rfl) (rfl) (by omega) (by decide) (br81 (by omega)) ?_
          refine V_iconst (v := 1) (by decide) dX5_giveNotice_25 ?_
          refine U_putZ dX5_giveNotice_26 fl_RX5_46 (bkF1 (by omega)) rfl rfl (Or.inr rfl) ?_
          refine V_iinc_1 (v := nI (m + 1)) dX5_giveNotice_29 (Nat.le_of_ble_eq_true rfl) rfl (nI_1 _) ?_
          refine V_goto (tgt := 2) dX5_giveNotice_32 (by decide) ?_
          refine V_eqI (i' := gnF i (m + 1)) (by
            refine up2_ext fun a9 f9 => ?_
            unfold gnF
            by_cases h8 : a9 = 9 + m ∧ f9 = 4
            · obtain ⟨rfl, rfl⟩ := h8
              first | (unfold up2; rw [if_pos ⟨rfl, rfl⟩, if_pos ⟨by omega, by omega, rfl, h16⟩]) | rw [if_neg (by omega), if_neg (fun z => h16 z.2.2.2)]
            · have e9 : (9 ≤ a9 ∧ a9 < 9 + m ∧ f9 = 4 ∧ i a9 3 = 0) ↔ (9 ≤ a9 ∧ a9 < 9 + (m + 1) ∧ f9 = 4 ∧ i a9 3 = 0) := ⟨fun z => ⟨z.1, by omega, z.2.2⟩, fun z => ⟨z.1, by omega, z.2.2⟩⟩
              first | (unfold up2; rw [if_neg h8]; simp only [e9]) | simp only [e9]) ?_
          exact ih (m + 1) (by omega)
  refine V_eqI (i' := gnF i 0) (by
    refine up2_ext fun a9 f9 => ?_
    unfold gnF
    rw [if_neg (by omega)]) ?_
  refine V_iconst (v := 0) (by decide) dX5_giveNotice_0 ?_
  refine V_istore_n_1 dX5_giveNotice_1 (Nat.le_of_ble_eq_true rfl) rfl ?_
  exact loop 4 0 (by omega)
def slN (i : Nat → Nat → Int32) : Nat → Int32
  | 0 => 0
  | m + 1 => if i (9 + m) 3 = 0 then slN i m else slN i m + 1
theorem k_X5_countAsleep {g : G0} {j : Nat → Nat → Int64} (d : Nat) {i : Nat → Nat → Int32}  : C g m_X5_countAsleep (d + 0) 0 0 false [.ref 1] (mk i j) (rets (some (.int (slN i 4))) (mk i j)) := by
  refine C_of (L := [some (.ref 1), none, none]) rfl ?_
  have loop : ∀ (n m : Nat), m + n = 4 → V g m_X5_countAsleep (d + 0) 0 0 false (Kp g false (rets (some (.int (slN i 4))) (mk i j))) 4 [some (.ref 1), some (.int (slN i m)), some (.int (nI m))] [] (mk i j) := by
    intro n
    induction n with
    | zero =>
      intro m hm
      have hm0 : m = 4 := by omega
      subst hm0
      refine L_iload_n_2 dX5_countAsleep_4 ?_
      refine V_iconst (v := 4) (by decide) dX5_countAsleep_5 ?_
      refine V_icmp_ge (tgt := 30) dX5_countAsleep_6 (by decide) (fun h6 => ?_) (fun h6 => ?_)
      · refine L_iload_n_1 dX5_countAsleep_30 ?_
        exact V_iret dX5_countAsleep_31 rfl rfl (⟨rfl, rfl⟩)
      · exact absurd (by decide) h6
    | succ n ih =>
      intro m hm
      have hlt : m < 4 := by omega
      refine L_iload_n_2 dX5_countAsleep_4 ?_
      refine V_iconst (v := 4) (by decide) dX5_countAsleep_5 ?_
      refine V_icmp_ge (tgt := 30) dX5_countAsleep_6 (by decide) (fun h6 => ?_) (fun h6 => ?_)
      · exact absurd ((nI_leI (a := 4) (b := m) (by omega) (by omega)).mp h6) (by omega)
      · refine L_aload_n_0 dX5_countAsleep_9 ?_
        refine U_getR (r := 8) dX5_countAsleep_10 fl_RX5_20 rfl rfl rfl ?_
        refine L_iload_n_2 dX5_countAsleep_13 ?_
        refine U_aald (n := m) (r := (9 + m)) dX5_countAsleep_14 rfl (Or.inr rfl) (rfl) (by omega) (by decide) (br81 (by omega)) ?_
        refine U_getI dX5_countAsleep_15 fl_RX5_42 (bkF1 (by omega)) rfl ?_
        refine V_ifx_eq (tgt := 24) dX5_countAsleep_18 (by decide) (fun h18 => ?_) (fun h18 => ?_)
        · refine V_iinc_2 (v := nI (m + 1)) dX5_countAsleep_24 (Nat.le_of_ble_eq_true rfl) rfl (nI_1 _) ?_
          refine V_goto (tgt := 4) dX5_countAsleep_27 (by decide) ?_
          have e9 : slN i (m + 1) = _ := rfl
          first | (have e8 := ih (m + 1) (by omega); rw [show slN i (m + 1) = slN i m from by show (if _ then _ else _) = _; rw [if_pos h18]] at e8; exact e8) | (have e8 := ih (m + 1) (by omega); rw [show slN i (m + 1) = slN i m + 1 from by show (if _ then _ else _) = _; rw [if_neg h18]] at e8; exact e8)
        · refine V_iinc_1 dX5_countAsleep_21 (Nat.le_of_ble_eq_true rfl) rfl (iinc1 _) ?_
          refine V_iinc_2 (v := nI (m + 1)) dX5_countAsleep_24 (Nat.le_of_ble_eq_true rfl) rfl (nI_1 _) ?_
          refine V_goto (tgt := 4) dX5_countAsleep_27 (by decide) ?_
          have e9 : slN i (m + 1) = _ := rfl
          first | (have e8 := ih (m + 1) (by omega); rw [show slN i (m + 1) = slN i m from by show (if _ then _ else _) = _; rw [if_pos h18]] at e8; exact e8) | (have e8 := ih (m + 1) (by omega); rw [show slN i (m + 1) = slN i m + 1 from by show (if _ then _ else _) = _; rw [if_neg h18]] at e8; exact e8)
  refine V_iconst (v := 0) (by decide) dX5_countAsleep_0 ?_
  refine V_istore_n_1 dX5_countAsleep_1 (Nat.le_of_ble_eq_true rfl) rfl ?_
  refine V_iconst (v := 0) (by decide) dX5_countAsleep_2 ?_
  refine V_istore_n_2 dX5_countAsleep_3 (Nat.le_of_ble_eq_true rfl) rfl ?_
  exact loop 4 0 (by omega)
def drF (i : Nat → Nat → Int32) (k m : Nat) : Nat → Nat → Int32 := fun a f => if 4 ≤ a ∧ a ≤ 7 ∧ f < m - k then i a (f + k) else i a f
def drp (i : Nat → Nat → Int32) (k c : Nat) : Nat → Nat → Int32 := fun a f => if a = 3 ∧ f = 5 then nI (c - k) else drF i k c a f
theorem k_X0_dropOldest {g : G0} {j : Nat → Nat → Int64} (d : Nat) {i : Nat → Nat → Int32} {c k : Nat} (hc : i 3 5 = nI c) (h6 : c ≤ 6) (hk : k ≤ c)  : C g m_X0_dropOldest (d + 0) 0 0 false [.ref 3, .int (nI k)] (mk i j) (rets (none) (mk (drp i k c) j)) := by
  refine C_of (L := [some (.ref 3), some (.int (nI k)), none]) rfl ?_
  have loop : ∀ (n m : Nat), m + n = c → k ≤ m → V g m_X0_dropOldest (d + 0) 0 0 false (Kp g false (rets (none) (mk (drp i k c) j))) 2 [some (.ref 3), some (.int (nI k)), some (.int (nI m))] [] (mk (drF i k m) j) := by
    intro n
    induction n with
    | zero =>
      intro m hm hx
      have hm0 : m = c := by omega
      subst hm0
      have hc6 : m ≤ 6 := by omega
      refine L_iload_n_2 dX0_dropOldest_2 ?_
      refine L_aload_n_0 dX0_dropOldest_3 ?_
      refine U_getI dX0_dropOldest_4 fl_RX0_28 rfl rfl ?_
      refine V_eqv (y := nI m) hc ?_
      refine V_icmp_ge (tgt := 72) dX0_dropOldest_7 (by decide) (fun h7 => ?_) (fun h7 => ?_)
      · refine L_aload_n_0 dX0_dropOldest_72 ?_
        refine V_dup rfl dX0_dropOldest_73 ?_
        refine U_getI dX0_dropOldest_74 fl_RX0_28 rfl rfl ?_
        refine L_iload_n_1 dX0_dropOldest_77 ?_
        refine V_isub dX0_dropOldest_78 ?_
        refine U_putI dX0_dropOldest_79 fl_RX0_28 rfl rfl rfl ?_
        exact V_vret dX0_dropOldest_82 rfl (by
    refine ⟨rfl, ?_⟩
    show mk (up2 (drF i k m) 3 5 (drF i k m 3 5 - nI k)) j = mk (drp i k m) j
    refine congrArg (fun z => mk z j) (up2_ext fun a9 f9 => ?_)
    unfold up2 drp
    by_cases h8 : a9 = 3 ∧ f9 = 5
    · rw [if_pos h8, if_pos h8]
      rw [show drF i k m 3 5 = nI m from hc]
      exact pk_sub (by omega)
    · rw [if_neg h8, if_neg h8])
      · exact absurd (Int32.le_refl _) h7
    | succ n ih =>
      intro m hm hx
      have hlt : m < c := by omega
      have hc6 : m ≤ 6 := by omega
      refine L_iload_n_2 dX0_dropOldest_2 ?_
      refine L_aload_n_0 dX0_dropOldest_3 ?_
      refine U_getI dX0_dropOldest_4 fl_RX0_28 rfl rfl ?_
      refine V_eqv (y := nI c) hc ?_
      refine V_icmp_ge (tgt := 72) dX0_dropOldest_7 (by decide) (fun h7 => ?_) (fun h7 => ?_)
      · exact absurd ((nI_leI (a := c) (b := m) (by omega) (by omega)).mp h7) (by omega)
      · refine L_aload_n_0 dX0_dropOldest_10 ?_
        refine U_getR (r := 4) dX0_dropOldest_11 fl_RX0_9 rfl rfl rfl ?_
        refine L_iload_n_2 dX0_dropOldest_14 ?_
        refine L_iload_n_1 dX0_dropOldest_15 ?_
        refine V_isub dX0_dropOldest_16 ?_
        refine V_eqv (y := nI (m - k)) (pk_sub (by omega)) ?_
        refine L_aload_n_0 dX0_dropOldest_17 ?_
        refine U_getR (r := 4) dX0_dropOldest_18 fl_RX0_9 rfl rfl rfl ?_
        refine L_iload_n_2 dX0_dropOldest_21 ?_
        refine U_iald (n := m) dX0_dropOldest_22 rfl (rfl) (by omega) (by decide) ?_
        refine U_iast (n := (m - k)) dX0_dropOldest_23 rfl (rfl) (by omega) (by decide) ?_
        refine L_aload_n_0 dX0_dropOldest_24 ?_
        refine U_getR (r := 5) dX0_dropOldest_25 fl_RX0_15 rfl rfl rfl ?_
        refine L_iload_n_2 dX0_dropOldest_28 ?_
        refine L_iload_n_1 dX0_dropOldest_29 ?_
        refine V_isub dX0_dropOldest_30 ?_
        refine V_eqv (y := nI (m - k)) (pk_sub (by omega)) ?_
        refine L_aload_n_0 dX0_dropOldest_31 ?_
        refine U_getR (r := 5) dX0_dropOldest_32 fl_RX0_15 rfl rfl rfl ?_
        refine L_iload_n_2 dX0_dropOldest_35 ?_
        refine U_iald (n := m) dX0_dropOldest_36 rfl (rfl) (by omega) (by decide) ?_
        refine U_iast (n := (m - k)) dX0_dropOldest_37 rfl (rfl) (by omega) (by decide) ?_
        refine L_aload_n_0 dX0_dropOldest_38 ?_
        refine U_getR (r := 6) dX0_dropOldest_39 fl_RX0_18 rfl rfl rfl ?_
        refine L_iload_n_2 dX0_dropOldest_42 ?_
        refine L_iload_n_1 dX0_dropOldest_43 ?_
        refine V_isub dX0_dropOldest_44 ?_
        refine V_eqv (y := nI (m - k)) (pk_sub (by omega)) ?_
        refine L_aload_n_0 dX0_dropOldest_45 ?_
        refine U_getR (r := 6) dX0_dropOldest_46 fl_RX0_18 rfl rfl rfl ?_
        refine L_iload_n_2 dX0_dropOldest_49 ?_
        refine U_iald (n := m) dX0_dropOldest_50 rfl (rfl) (by omega) (by decide) ?_
        refine U_iast (n := (m - k)) dX0_dropOldest_51 rfl (rfl) (by omega) (by decide) ?_
        refine L_aload_n_0 dX0_dropOldest_52 ?_
        refine U_getR (r := 7) dX0_dropOldest_53 fl_RX0_21 rfl rfl rfl ?_
        refine L_iload_n_2 dX0_dropOldest_56 ?_
        refine L_iload_n_1 dX0_dropOldest_57 ?_
        refine V_isub dX0_dropOldest_58 ?_
        refine V_eqv (y := nI (m - k)) (pk_sub (by omega)) ?_
        refine L_aload_n_0 dX0_dropOldest_59 ?_
        refine U_getR (r := 7) dX0_dropOldest_60 fl_RX0_21 rfl rfl rfl ?_
        refine L_iload_n_2 dX0_dropOldest_63 ?_
        refine U_iald (n := m) dX0_dropOldest_64 rfl (rfl) (by omega) (by decide) ?_
        refine U_iast (n := (m - k)) dX0_dropOldest_65 rfl (rfl) (by omega) (by decide) ?_
        refine V_iinc_2 (v := nI (m + 1)) dX0_dropOldest_66 (Nat.le_of_ble_eq_true rfl) rfl (nI_1 _) ?_
        refine V_goto (tgt := 2) dX0_dropOldest_69 (by decide) ?_
        refine V_eqI (i' := drF i k (m + 1)) (by
          refine up2_ext fun a9 f9 => ?_
          unfold up2 drF
          (repeat' split) <;> first | rfl | (exact ieq (by omega) (by omega)) | (exfalso; omega) | (simp_all; done)) ?_
        exact ih (m + 1) (by omega) (by omega)
  refine V_eqI (i' := drF i k k) (by
    refine up2_ext fun a9 f9 => ?_
    unfold drF
    rw [if_neg (by omega)]) ?_
  refine L_iload_n_1 dX0_dropOldest_0 ?_
  refine V_istore_n_2 dX0_dropOldest_1 (Nat.le_of_ble_eq_true rfl) rfl ?_
  exact loop (c - k) k (by omega) (Nat.le_refl _)
def csl (i : Nat → Nat → Int32) (e : Int32) : Nat → Int32 → Int32
  | 0, _ => -1
  | m + 1, acc => if i 4 m = e then acc + i 7 m else csl i e m (acc + i 7 m)
theorem dwn {x : Int32} {m : Nat} (h : x + 1 = nI (m + 1)) : x = nI m := by
  have h2 : x + 1 - 1 = nI (m + 1) - 1 := by rw [h]
  rw [nI_pred] at h2
  rw [← h2]
  exact (Int32.add_sub_cancel x 1).symm
theorem dwn0 {x : Int32} (h : x + 1 = nI 0) : x = -1 := by
  have h2 : x + 1 - 1 = nI 0 - 1 := by rw [h]
  rw [Int32.add_sub_cancel] at h2
  rw [h2]; decide
theorem dwn1 (y : Int32) : y + Int32.ofInt (-1) + 1 = y := by
  rw [show Int32.ofInt (-1) = -1 from by decide, Int32.add_assoc, show (-1 : Int32) + 1 = 0 from by decide, Int32.add_zero]
theorem k_X0_costSince {g : G0} {j : Nat → Nat → Int64} (d : Nat) {i : Nat → Nat → Int32} {e : Int32} {c : Nat} (hc : i 3 5 = nI c) (h6 : c ≤ 6)  : C g m_X0_costSince (d + 0) 0 0 false [.ref 3, .int e] (mk i j) (rets (some (.int (csl i e c 0))) (mk i j)) := by
  refine C_of (L := [some (.ref 3), some (.int e), none, none]) rfl ?_
  have loop : ∀ (m : Nat) (acc x : Int32), m ≤ 6 → x + 1 = nI m → V g m_X0_costSince (d + 0) 0 0 false (Kp g false (rets (some (.int (csl i e m acc))) (mk i j))) 9 [some (.ref 3), some (.int e), some (.int acc), some (.int x)] [] (mk i j) := by
    intro m
    induction m with
    | zero =>
      intro acc x h6 hx
      have hx2 := dwn0 hx
      subst hx2
      refine L_iload_n_3 dX0_costSince_9 ?_
      refine V_ifx_lt (tgt := 40) dX0_costSince_10 (by decide) (fun h10 => ?_) (fun h10 => ?_)
      · refine V_iconst (v := (-1)) (by decide) dX0_costSince_40 ?_
        exact V_iret dX0_costSince_41 rfl rfl (⟨rfl, rfl⟩)
      · exact absurd (by decide) h10
    | succ m ih =>
      intro acc x h6 hx
      have hx2 := dwn hx
      subst hx2
      refine L_iload_n_3 dX0_costSince_9 ?_
      refine V_ifx_lt (tgt := 40) dX0_costSince_10 (by decide) (fun h10 => ?_) (fun h10 => ?_)
      · exact absurd h10 (nI_pos (by omega))
      · refine L_iload_n_2 dX0_costSince_13 ?_
        refine L_aload_n_0 dX0_costSince_14 ?_
        refine U_getR (r := 7) dX0_costSince_15 fl_RX0_21 rfl rfl rfl ?_
        refine L_iload_n_3 dX0_costSince_18 ?_
        refine U_iald (n := m) dX0_costSince_19 rfl (rfl) (by omega) (by decide) ?_
        refine V_iadd dX0_costSince_20 ?_
        refine V_istore_n_2 dX0_costSince_21 (Nat.le_of_ble_eq_true rfl) rfl ?_
        refine L_aload_n_0 dX0_costSince_22 ?_
        refine U_getR (r := 4) dX0_costSince_23 fl_RX0_9 rfl rfl rfl ?_
        refine L_iload_n_3 dX0_costSince_26 ?_
        refine U_iald (n := m) dX0_costSince_27 rfl (rfl) (by omega) (by decide) ?_
        refine L_iload_n_1 dX0_costSince_28 ?_
        refine V_icmp_ne (tgt := 34) dX0_costSince_29 (by decide) (fun h29 => ?_) (fun h29 => ?_)
        · refine V_iinc_3 dX0_costSince_34 (Nat.le_of_ble_eq_true rfl) rfl rfl ?_
          refine V_goto (tgt := 9) dX0_costSince_37 (by decide) ?_
          have e9 := ih (acc + i 7 m) (nI m + Int32.ofInt (-1)) (by omega) (dwn1 _)
          rw [show csl i e (m + 1) acc = csl i e m (acc + i 7 m) from by show (if _ then _ else _) = _; rw [if_neg h29]]
          exact e9
        · refine L_iload_n_2 dX0_costSince_32 ?_
          exact V_iret dX0_costSince_33 rfl rfl (rtI (by show _ = (if _ then _ else _); rw [if_pos h29]))
  refine V_iconst (v := 0) (by decide) dX0_costSince_0 ?_
  refine V_istore_n_2 dX0_costSince_1 (Nat.le_of_ble_eq_true rfl) rfl ?_
  refine L_aload_n_0 dX0_costSince_2 ?_
  refine U_getI dX0_costSince_3 fl_RX0_28 rfl rfl ?_
  refine V_iconst (v := 1) (by decide) dX0_costSince_6 ?_
  have hc0 : i 3 5 - 1 + 1 = nI c := by rw [Int32.sub_add_cancel]; exact hc
  refine V_isub dX0_costSince_7 ?_
  refine V_istore_n_3 dX0_costSince_8 (Nat.le_of_ble_eq_true rfl) rfl ?_
  exact loop c 0 _ h6 hc0
def apl (i : Nat → Nat → Int32) (e : Int32) : Nat → Nat → Int32 → Bool → Int32
  | 0, _, ch, _ => ch
  | n + 1, m, ch, r => if r = true ∨ i 4 m = e then apl i e n (m + 1) ((ch &&& (i 5 m ^^^ (-1))) ||| i 6 m) true else apl i e n (m + 1) ch false
theorem k_X0_appliedSince {g : G0} {j : Nat → Nat → Int64} (d : Nat) {i : Nat → Nat → Int32} {e l0 : Int32} {c : Nat} (hc : i 3 5 = nI c) (h6 : c ≤ 6)  : C g m_X0_appliedSince (d + 0) 0 0 false [.ref 3, .int e, .int l0] (mk i j) (rets (some (.int (apl i e c 0 l0 false))) (mk i j)) := by
  refine C_of (L := [some (.ref 3), some (.int e), some (.int l0), none, none, none]) rfl ?_
  have loop : ∀ (n m : Nat) (ch : Int32) (r : Bool), m + n = c → V g m_X0_appliedSince (d + 0) 0 0 false (Kp g false (rets (some (.int (apl i e n m ch r))) (mk i j))) 8 [some (.ref 3), some (.int e), some (.int l0), some (.int ch), some (.int (b2i (r = true))), some (.int (nI m))] [] (mk i j) := by
    intro n
    induction n with
    | zero =>
      intro m ch r hm
      have hm0 : m = c := by omega
      subst hm0
      refine L_iload_5 dX0_appliedSince_8 ?_
      refine L_aload_n_0 dX0_appliedSince_10 ?_
      refine U_getI dX0_appliedSince_11 fl_RX0_28 rfl rfl ?_
      refine V_eqv (y := nI m) hc ?_
      refine V_icmp_ge (tgt := 71) dX0_appliedSince_14 (by decide) (fun h14 => ?_) (fun h14 => ?_)
      · refine L_iload_n_3 dX0_appliedSince_71 ?_
        exact V_iret dX0_appliedSince_72 rfl rfl (⟨rfl, rfl⟩)
      · exact absurd (Int32.le_refl _) h14
    | succ n ih =>
      intro m ch r hm
      refine L_iload_5 dX0_appliedSince_8 ?_
      refine L_aload_n_0 dX0_appliedSince_10 ?_
      refine U_getI dX0_appliedSince_11 fl_RX0_28 rfl rfl ?_
      refine V_eqv (y := nI c) hc ?_
      refine V_icmp_ge (tgt := 71) dX0_appliedSince_14 (by decide) (fun h14 => ?_) (fun h14 => ?_)
      · exact absurd ((nI_leI (a := c) (b := m) (by omega) (by omega)).mp h14) (by omega)
      · refine L_iload_4 dX0_appliedSince_17 ?_
        refine V_ifx_ne (tgt := 33) dX0_appliedSince_19 (by decide) (fun h19 => ?_) (fun h19 => ?_)
        · refine V_iconst (v := 1) (by decide) dX0_appliedSince_33 ?_
          refine V_goto (tgt := 38) dX0_appliedSince_34 (by decide) ?_
          refine V_istore_4 dX0_appliedSince_38 (Nat.le_of_ble_eq_true rfl) rfl ?_
          refine L_iload_4 dX0_appliedSince_40 ?_
          refine V_ifx_eq (tgt := 65) dX0_appliedSince_42 (by decide) (fun h42 => ?_) (fun h42 => ?_)
          · exact absurd h42 (by decide)
          · refine L_iload_n_3 dX0_appliedSince_45 ?_
            refine L_aload_n_0 dX0_appliedSince_46 ?_
            refine U_getR (r := 5) dX0_appliedSince_47 fl_RX0_15 rfl rfl rfl ?_
            refine L_iload_5 dX0_appliedSince_50 ?_
            refine U_iald (n := m) dX0_appliedSince_52 rfl (rfl) (by omega) (by decide) ?_
            refine V_iconst (v := (-1)) (by decide) dX0_appliedSince_53 ?_
            refine V_ixor dX0_appliedSince_54 ?_
            refine V_iand dX0_appliedSince_55 ?_
            refine L_aload_n_0 dX0_appliedSince_56 ?_
            refine U_getR (r := 6) dX0_appliedSince_57 fl_RX0_18 rfl rfl rfl ?_
            refine L_iload_5 dX0_appliedSince_60 ?_
            refine U_iald (n := m) dX0_appliedSince_62 rfl (rfl) (by omega) (by decide) ?_
            refine V_ior dX0_appliedSince_63 ?_
            refine V_istore_n_3 dX0_appliedSince_64 (Nat.le_of_ble_eq_true rfl) rfl ?_
            refine V_iinc_5 (v := nI (m + 1)) dX0_appliedSince_65 (Nat.le_of_ble_eq_true rfl) rfl (nI_1 _) ?_
            refine V_goto (tgt := 8) dX0_appliedSince_68 (by decide) ?_
            have e9 := ih (m + 1) ((ch &&& (i 5 m ^^^ (-1))) ||| i 6 m) true (by omega)
            rw [show apl i e (n + 1) m ch r = _ from if_pos (by first | exact Or.inl (by simpa [b2i] using h19) | exact Or.inr (by simp_all))]
            exact e9
        · refine L_aload_n_0 dX0_appliedSince_22 ?_
          refine U_getR (r := 4) dX0_appliedSince_23 fl_RX0_9 rfl rfl rfl ?_
          refine L_iload_5 dX0_appliedSince_26 ?_
          refine U_iald (n := m) dX0_appliedSince_28 rfl (rfl) (by omega) (by decide) ?_
          refine L_iload_n_1 dX0_appliedSince_29 ?_
          refine V_icmp_ne (tgt := 37) dX0_appliedSince_30 (by decide) (fun h30 => ?_) (fun h30 => ?_)
          · refine V_iconst (v := 0) (by decide) dX0_appliedSince_37 ?_
            refine V_istore_4 dX0_appliedSince_38 (Nat.le_of_ble_eq_true rfl) rfl ?_
            refine L_iload_4 dX0_appliedSince_40 ?_
            refine V_ifx_eq (tgt := 65) dX0_appliedSince_42 (by decide) (fun h42 => ?_) (fun h42 => ?_)
            · refine V_iinc_5 (v := nI (m + 1)) dX0_appliedSince_65 (Nat.le_of_ble_eq_true rfl) rfl (nI_1 _) ?_
              refine V_goto (tgt := 8) dX0_appliedSince_68 (by decide) ?_
              have e9 := ih (m + 1) ch false (by omega)
              rw [show apl i e (n + 1) m ch r = _ from if_neg (by simp_all [b2i])]
              exact e9
            · exact absurd (by decide) h42
          · refine V_iconst (v := 1) (by decide) dX0_appliedSince_33 ?_
            refine V_goto (tgt := 38) dX0_appliedSince_34 (by decide) ?_
            refine V_istore_4 dX0_appliedSince_38 (Nat.le_of_ble_eq_true rfl) rfl ?_
            refine L_iload_4 dX0_appliedSince_40 ?_
            refine V_ifx_eq (tgt := 65) dX0_appliedSince_42 (by decide) (fun h42 => ?_) (fun h42 => ?_)
            · exact absurd h42 (by decide)
            · refine L_iload_n_3 dX0_appliedSince_45 ?_
              refine L_aload_n_0 dX0_appliedSince_46 ?_
              refine U_getR (r := 5) dX0_appliedSince_47 fl_RX0_15 rfl rfl rfl ?_
              refine L_iload_5 dX0_appliedSince_50 ?_
              refine U_iald (n := m) dX0_appliedSince_52 rfl (rfl) (by omega) (by decide) ?_
              refine V_iconst (v := (-1)) (by decide) dX0_appliedSince_53 ?_
              refine V_ixor dX0_appliedSince_54 ?_
              refine V_iand dX0_appliedSince_55 ?_
              refine L_aload_n_0 dX0_appliedSince_56 ?_
              refine U_getR (r := 6) dX0_appliedSince_57 fl_RX0_18 rfl rfl rfl ?_
              refine L_iload_5 dX0_appliedSince_60 ?_
              refine U_iald (n := m) dX0_appliedSince_62 rfl (rfl) (by omega) (by decide) ?_
              refine V_ior dX0_appliedSince_63 ?_
              refine V_istore_n_3 dX0_appliedSince_64 (Nat.le_of_ble_eq_true rfl) rfl ?_
              refine V_iinc_5 (v := nI (m + 1)) dX0_appliedSince_65 (Nat.le_of_ble_eq_true rfl) rfl (nI_1 _) ?_
              refine V_goto (tgt := 8) dX0_appliedSince_68 (by decide) ?_
              have e9 := ih (m + 1) ((ch &&& (i 5 m ^^^ (-1))) ||| i 6 m) true (by omega)
              rw [show apl i e (n + 1) m ch r = _ from if_pos (by first | exact Or.inl (by simpa [b2i] using h19) | exact Or.inr (by simp_all))]
              exact e9
  refine L_iload_n_2 dX0_appliedSince_0 ?_
  refine V_istore_n_3 dX0_appliedSince_1 (Nat.le_of_ble_eq_true rfl) rfl ?_
  refine V_iconst (v := 0) (by decide) dX0_appliedSince_2 ?_
  refine V_istore_4 dX0_appliedSince_3 (Nat.le_of_ble_eq_true rfl) rfl ?_
  refine V_iconst (v := 0) (by decide) dX0_appliedSince_5 ?_
  refine V_istore_5 dX0_appliedSince_6 (Nat.le_of_ble_eq_true rfl) rfl ?_
  exact loop c 0 l0 false (by omega)

