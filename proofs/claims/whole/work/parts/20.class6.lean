def cN (i : Nat → Nat → Int32) : Nat := (i 3 5).toNatClampNeg
def KN (i : Nat → Nat → Int32) : Nat := (i 3 4).toNatClampNeg
def nN (i : Nat → Nat → Int32) : Nat := (i 2 2).toNatClampNeg
/-- the printer's numbers are in their ranges -/
def CI (i : Nat → Nat → Int32) : Prop := i 3 5 = nI (cN i) ∧ cN i ≤ KN i ∧ 1 ≤ KN i ∧ KN i ≤ 6 ∧ i 3 4 = nI (KN i) ∧ i 2 2 = nI (nN i) ∧ nN i < 16
theorem CI_of {i : Nat → Nat → Int32} {c K n : Nat} (h1 : i 3 5 = nI c) (h2 : c ≤ K) (h3 : 1 ≤ K) (h4 : K ≤ 6) (h5 : i 3 4 = nI K) (h6 : i 2 2 = nI n) (h7 : n < 16) : CI i ∧ cN i = c ∧ KN i = K ∧ nN i = n := by
  have e1 : cN i = c := by unfold cN; rw [h1]; exact nI_clamp (by omega)
  have e2 : KN i = K := by unfold KN; rw [h5]; exact nI_clamp (by omega)
  have e3 : nN i = n := by unfold nN; rw [h6]; exact nI_clamp (by omega)
  refine ⟨?_, e1, e2, e3⟩
  unfold CI
  rw [e1, e2, e3]
  exact ⟨h1, h2, h3, h4, h5, h6, h7⟩
def okO (i : Nat → Nat → Int32) (o v : Nat) : Bool :=
  if o = 43 then decide (bit (i 2 0) (nI v) = 0) else if o = 45 then decide (¬ bit (i 2 0) (nI v) = 0) else if o = 112 then decide (¬ i 2 0 = i 2 1) else if o = 110 then decide (¬ nI v = i 2 2) else if o = 119 then decide (i (9 + v) 3 = 1) else decide (i (9 + v) 3 = 0)
def doO (i : Nat → Nat → Int32) (o v : Nat) : Nat → Nat → Int32 :=
  if o = 43 then up2 i 2 0 (i 2 0 ||| (1 <<< (nI v &&& 31))) else if o = 45 then up2 i 2 0 (i 2 0 &&& ((1 <<< (nI v &&& 31)) ^^^ (-1))) else if o = 112 then gnF (isu i (cN i) (KN i) (nN i)) 4 else if o = 110 then gnF (up2 (up2 i 2 2 (nI v)) 3 5 0) 4 else if o = 114 then bnI i (9 + v) (cN i) else if o = 115 then up2 i (9 + v) 3 1 else up2 i (9 + v) 3 0
def vld (o v : Nat) : Prop := ((o = 43 ∨ o = 45) ∧ v < 30) ∨ (o = 112 ∧ v = 0) ∨ (o = 110 ∧ v < 16) ∨ ((o = 114 ∨ o = 115 ∨ o = 119) ∧ v < 4)
theorem b2p {p : Prop} [Decidable p] (h : ¬ b2i p = 0) : p := Classical.byContradiction fun z => h (b2z.mpr z)
theorem stq_nI {v : Nat} (h : v < 30) : stq (nI v) := ⟨nI_pos (by omega), fun z => absurd ((nI_leI (a := 30) (b := v) (by omega) (by omega)).mp z) (by omega)⟩
theorem edq_nI {v : Nat} (h : v < 16) : edq (nI v) := ⟨nI_pos (by omega), fun z => absurd ((nI_leI (a := 16) (b := v) (by omega) (by omega)).mp z) (by omega)⟩
theorem foq_nI {v : Nat} (h : v < 4) : foq (nI v) := ⟨nI_pos (by omega), fun z => absurd ((nI_leI (a := 4) (b := v) (by omega) (by omega)).mp z) (by omega)⟩
theorem k_X5_obeyOnStreet_43 {g : G0} {j : Nat → Nat → Int64} (d : Nat) {i : Nat → Nat → Int32} {v : Nat} (hv : v < 30)  : C g m_X5_obeyOnStreet (d + 2) 0 0 false [.ref 1, .int 43, .int (nI v)] (mk i j) (rets (some (.int (b2i (okO i 43 v = true)))) (mk (if okO i 43 v = true then doO i 43 v else i) j)) := by
  refine C_of (L := [some (.ref 1), some (.int 43), some (.int (nI v))]) rfl ?_
  have hs := stq_nI hv
  have ho : okO i 43 v = true ↔ bit (i 2 0) (nI v) = 0 := by unfold okO; simp
  refine L_iload_n_1 dX5_obeyOnStreet_0 ?_
  refine V_bipush (v := 43) (by decide) dX5_obeyOnStreet_1 ?_
  refine V_icmp_ne (tgt := 27) dX5_obeyOnStreet_3 (by decide) (fun h3 => ?_) (fun h3 => ?_)
  · exfalso; revert h3; decide
  · refine L_aload_n_0 dX5_obeyOnStreet_6 ?_
    refine U_getR (r := 2) dX5_obeyOnStreet_7 fl_RX5_12 rfl rfl rfl ?_
    refine L_iload_n_2 dX5_obeyOnStreet_10 ?_
    refine U_cv2 (d := d + 1) (lkR_RX5_116 rfl dX5_obeyOnStreet_11) (k_X3_mayAdd _) ⟨pn_X3_mayAdd, rfl, (Nat.le_of_ble_eq_true rfl), (Nat.le_of_ble_eq_true rfl), rfl⟩ (⟨_, _, rfl, rfl, rfl⟩) (cfS cf3) (Nat.le_of_ble_eq_true rfl) ?_
    refine V_ifx_eq (tgt := 27) dX5_obeyOnStreet_14 (by decide) (fun h14 => ?_) (fun h14 => ?_)
    · refine L_iload_n_1 dX5_obeyOnStreet_27 ?_
      refine V_bipush (v := 45) (by decide) dX5_obeyOnStreet_28 ?_
      refine V_icmp_ne (tgt := 54) dX5_obeyOnStreet_30 (by decide) (fun h30 => ?_) (fun h30 => ?_)
      · refine V_iconst (v := 0) (by decide) dX5_obeyOnStreet_54 ?_
        exact V_iret dX5_obeyOnStreet_55 rfl rfl (by
    have hn : ¬ okO i 43 v = true := fun z => b2z.mp h14 ⟨hs, ho.mp z⟩
    rw [if_neg hn, b2f hn]; exact ⟨rfl, rfl⟩)
      · exfalso; revert h30; decide
    · refine L_aload_n_0 dX5_obeyOnStreet_17 ?_
      refine U_getR (r := 2) dX5_obeyOnStreet_18 fl_RX5_12 rfl rfl rfl ?_
      refine L_iload_n_2 dX5_obeyOnStreet_21 ?_
      refine U_cV2 (d := d + 1) (lkR_RX5_119 rfl dX5_obeyOnStreet_22) (k_X3_addToDraft _) ⟨pn_X3_addToDraft, rfl, (Nat.le_of_ble_eq_true rfl), (Nat.le_of_ble_eq_true rfl), rfl⟩ (⟨_, _, rfl, rfl, rfl⟩) (cfS cf3) (Nat.le_of_ble_eq_true rfl) ?_
      refine V_iconst (v := 1) (by decide) dX5_obeyOnStreet_25 ?_
      exact V_iret dX5_obeyOnStreet_26 rfl rfl (by rw [if_pos (ho.mpr (b2p h14).2), b2t (ho.mpr (b2p h14).2)]; exact ⟨rfl, rfl⟩)
theorem k_X5_obeyOnStreet_45 {g : G0} {j : Nat → Nat → Int64} (d : Nat) {i : Nat → Nat → Int32} {v : Nat} (hv : v < 30)  : C g m_X5_obeyOnStreet (d + 2) 0 0 false [.ref 1, .int 45, .int (nI v)] (mk i j) (rets (some (.int (b2i (okO i 45 v = true)))) (mk (if okO i 45 v = true then doO i 45 v else i) j)) := by
  refine C_of (L := [some (.ref 1), some (.int 45), some (.int (nI v))]) rfl ?_
  have hs := stq_nI hv
  have ho : okO i 45 v = true ↔ ¬ bit (i 2 0) (nI v) = 0 := by unfold okO; simp
  refine L_iload_n_1 dX5_obeyOnStreet_0 ?_
  refine V_bipush (v := 43) (by decide) dX5_obeyOnStreet_1 ?_
  refine V_icmp_ne (tgt := 27) dX5_obeyOnStreet_3 (by decide) (fun h3 => ?_) (fun h3 => ?_)
  · refine L_iload_n_1 dX5_obeyOnStreet_27 ?_
    refine V_bipush (v := 45) (by decide) dX5_obeyOnStreet_28 ?_
    refine V_icmp_ne (tgt := 54) dX5_obeyOnStreet_30 (by decide) (fun h30 => ?_) (fun h30 => ?_)
    · exfalso; revert h30; decide
    · refine L_aload_n_0 dX5_obeyOnStreet_33 ?_
      refine U_getR (r := 2) dX5_obeyOnStreet_34 fl_RX5_12 rfl rfl rfl ?_
      refine L_iload_n_2 dX5_obeyOnStreet_37 ?_
      refine U_cv2 (d := d + 1) (lkR_RX5_122 rfl dX5_obeyOnStreet_38) (k_X3_mayCrossOut _) ⟨pn_X3_mayCrossOut, rfl, (Nat.le_of_ble_eq_true rfl), (Nat.le_of_ble_eq_true rfl), rfl⟩ (⟨_, _, rfl, rfl, rfl⟩) (cfS cf3) (Nat.le_of_ble_eq_true rfl) ?_
      refine V_ifx_eq (tgt := 54) dX5_obeyOnStreet_41 (by decide) (fun h41 => ?_) (fun h41 => ?_)
      · refine V_iconst (v := 0) (by decide) dX5_obeyOnStreet_54 ?_
        exact V_iret dX5_obeyOnStreet_55 rfl rfl (by
    have hn : ¬ okO i 45 v = true := fun z => b2z.mp h41 ⟨hs, ho.mp z⟩
    rw [if_neg hn, b2f hn]; exact ⟨rfl, rfl⟩)
      · refine L_aload_n_0 dX5_obeyOnStreet_44 ?_
        refine U_getR (r := 2) dX5_obeyOnStreet_45 fl_RX5_12 rfl rfl rfl ?_
        refine L_iload_n_2 dX5_obeyOnStreet_48 ?_
        refine U_cV2 (d := d + 1) (lkR_RX5_125 rfl dX5_obeyOnStreet_49) (k_X3_takeOutOfDraft _) ⟨pn_X3_takeOutOfDraft, rfl, (Nat.le_of_ble_eq_true rfl), (Nat.le_of_ble_eq_true rfl), rfl⟩ (⟨_, _, rfl, rfl, rfl⟩) (cfS cf3) (Nat.le_of_ble_eq_true rfl) ?_
        refine V_iconst (v := 1) (by decide) dX5_obeyOnStreet_52 ?_
        exact V_iret dX5_obeyOnStreet_53 rfl rfl (by rw [if_pos (ho.mpr (b2p h41).2), b2t (ho.mpr (b2p h41).2)]; exact ⟨rfl, rfl⟩)
  · exfalso; revert h3; decide
theorem k_X5_obeyOnFollower_114 {g : G0} {j : Nat → Nat → Int64} (d : Nat) {i : Nat → Nat → Int32} {v : Nat} (hv : v < 4) (hCI : CI i)  : C g m_X5_obeyOnFollower (d + 4) 0 0 false [.ref 1, .int 114, .ref (9 + v)] (mk i j) (rets (some (.int (b2i (okO i 114 v = true)))) (mk (if okO i 114 v = true then doO i 114 v else i) j)) := by
  refine C_of (L := [some (.ref 1), some (.int 114), some (.ref (9 + v)), none]) rfl ?_
  have ho : okO i 114 v = true ↔ i (9 + v) 3 = 0 := by unfold okO; simp
  refine L_iload_n_1 dX5_obeyOnFollower_0 ?_
  refine V_bipush (v := 119) (by decide) dX5_obeyOnFollower_1 ?_
  refine V_icmp_ne (tgt := 10) dX5_obeyOnFollower_3 (by decide) (fun h3 => ?_) (fun h3 => ?_)
  · refine V_iconst (v := 0) (by decide) dX5_obeyOnFollower_10 ?_
    refine V_istore_n_3 dX5_obeyOnFollower_11 (Nat.le_of_ble_eq_true rfl) rfl ?_
    refine L_aload_n_2 dX5_obeyOnFollower_12 ?_
    refine U_getI dX5_obeyOnFollower_13 fl_RX5_42 (bkF1 hv) rfl ?_
    refine L_iload_n_3 dX5_obeyOnFollower_16 ?_
    refine V_icmp_eq (tgt := 22) dX5_obeyOnFollower_17 (by decide) (fun h17 => ?_) (fun h17 => ?_)
    · refine L_iload_n_1 dX5_obeyOnFollower_22 ?_
      refine V_bipush (v := 114) (by decide) dX5_obeyOnFollower_23 ?_
      refine V_icmp_ne (tgt := 37) dX5_obeyOnFollower_25 (by decide) (fun h25 => ?_) (fun h25 => ?_)
      · exfalso; revert h25; decide
      · refine L_aload_n_0 dX5_obeyOnFollower_28 ?_
        refine L_aload_n_2 dX5_obeyOnFollower_29 ?_
        refine U_cv2 (d := d + 3) (lkR_RX5_92 rfl dX5_obeyOnFollower_30) (k_X5_bringNews _ hCI.1 (by have := hCI; unfold CI at this; omega) (bkF1 hv) (by omega)) ⟨pn_X5_bringNews, rfl, (Nat.le_of_ble_eq_true rfl), (Nat.le_of_ble_eq_true rfl), rfl⟩ (⟨_, _, rfl, rfl, rfl⟩) (cfS cf5) (Nat.le_of_ble_eq_true rfl) ?_
        refine V_pop rfl dX5_obeyOnFollower_33 ?_
        refine V_goto (tgt := 50) dX5_obeyOnFollower_34 (by decide) ?_
        refine V_iconst (v := 1) (by decide) dX5_obeyOnFollower_50 ?_
        exact V_iret dX5_obeyOnFollower_51 rfl rfl (by rw [if_pos (ho.mpr h17), b2t (ho.mpr h17)]; exact ⟨rfl, rfl⟩)
    · refine V_iconst (v := 0) (by decide) dX5_obeyOnFollower_20 ?_
      exact V_iret dX5_obeyOnFollower_21 rfl rfl (by
    have hn : ¬ okO i 114 v = true := fun z => h17 (ho.mp z)
    rw [if_neg hn, b2f hn]; exact ⟨rfl, rfl⟩)
  · exfalso; revert h3; decide
theorem k_X5_obeyOnFollower_115 {g : G0} {j : Nat → Nat → Int64} (d : Nat) {i : Nat → Nat → Int32} {v : Nat} (hv : v < 4) (hCI : CI i)  : C g m_X5_obeyOnFollower (d + 4) 0 0 false [.ref 1, .int 115, .ref (9 + v)] (mk i j) (rets (some (.int (b2i (okO i 115 v = true)))) (mk (if okO i 115 v = true then doO i 115 v else i) j)) := by
  refine C_of (L := [some (.ref 1), some (.int 115), some (.ref (9 + v)), none]) rfl ?_
  have ho : okO i 115 v = true ↔ i (9 + v) 3 = 0 := by unfold okO; simp
  refine L_iload_n_1 dX5_obeyOnFollower_0 ?_
  refine V_bipush (v := 119) (by decide) dX5_obeyOnFollower_1 ?_
  refine V_icmp_ne (tgt := 10) dX5_obeyOnFollower_3 (by decide) (fun h3 => ?_) (fun h3 => ?_)
  · refine V_iconst (v := 0) (by decide) dX5_obeyOnFollower_10 ?_
    refine V_istore_n_3 dX5_obeyOnFollower_11 (Nat.le_of_ble_eq_true rfl) rfl ?_
    refine L_aload_n_2 dX5_obeyOnFollower_12 ?_
    refine U_getI dX5_obeyOnFollower_13 fl_RX5_42 (bkF1 hv) rfl ?_
    refine L_iload_n_3 dX5_obeyOnFollower_16 ?_
    refine V_icmp_eq (tgt := 22) dX5_obeyOnFollower_17 (by decide) (fun h17 => ?_) (fun h17 => ?_)
    · refine L_iload_n_1 dX5_obeyOnFollower_22 ?_
      refine V_bipush (v := 114) (by decide) dX5_obeyOnFollower_23 ?_
      refine V_icmp_ne (tgt := 37) dX5_obeyOnFollower_25 (by decide) (fun h25 => ?_) (fun h25 => ?_)
      · refine L_aload_n_2 dX5_obeyOnFollower_37 ?_
        refine L_iload_n_3 dX5_obeyOnFollower_38 ?_
        refine V_ifx_ne (tgt := 46) dX5_obeyOnFollower_39 (by decide) (fun h39 => ?_) (fun h39 => ?_)
        · exfalso; revert h39; decide
        · refine V_iconst (v := 1) (by decide) dX5_obeyOnFollower_42 ?_
          refine V_goto (tgt := 47) dX5_obeyOnFollower_43 (by decide) ?_
          refine U_putZ dX5_obeyOnFollower_47 fl_RX5_42 (bkF1 hv) rfl rfl (Or.inr rfl) ?_
          refine V_iconst (v := 1) (by decide) dX5_obeyOnFollower_50 ?_
          exact V_iret dX5_obeyOnFollower_51 rfl rfl (by rw [if_pos (ho.mpr h17), b2t (ho.mpr h17)]; exact ⟨rfl, rfl⟩)
      · exfalso; revert h25; decide
    · refine V_iconst (v := 0) (by decide) dX5_obeyOnFollower_20 ?_
      exact V_iret dX5_obeyOnFollower_21 rfl rfl (by
    have hn : ¬ okO i 115 v = true := fun z => h17 (ho.mp z)
    rw [if_neg hn, b2f hn]; exact ⟨rfl, rfl⟩)
  · exfalso; revert h3; decide
theorem k_X5_obeyOnFollower_119 {g : G0} {j : Nat → Nat → Int64} (d : Nat) {i : Nat → Nat → Int32} {v : Nat} (hv : v < 4) (hCI : CI i)  : C g m_X5_obeyOnFollower (d + 4) 0 0 false [.ref 1, .int 119, .ref (9 + v)] (mk i j) (rets (some (.int (b2i (okO i 119 v = true)))) (mk (if okO i 119 v = true then doO i 119 v else i) j)) := by
  refine C_of (L := [some (.ref 1), some (.int 119), some (.ref (9 + v)), none]) rfl ?_
  have ho : okO i 119 v = true ↔ i (9 + v) 3 = 1 := by unfold okO; simp
  refine L_iload_n_1 dX5_obeyOnFollower_0 ?_
  refine V_bipush (v := 119) (by decide) dX5_obeyOnFollower_1 ?_
  refine V_icmp_ne (tgt := 10) dX5_obeyOnFollower_3 (by decide) (fun h3 => ?_) (fun h3 => ?_)
  · exfalso; revert h3; decide
  · refine V_iconst (v := 1) (by decide) dX5_obeyOnFollower_6 ?_
    refine V_goto (tgt := 11) dX5_obeyOnFollower_7 (by decide) ?_
    refine V_istore_n_3 dX5_obeyOnFollower_11 (Nat.le_of_ble_eq_true rfl) rfl ?_
    refine L_aload_n_2 dX5_obeyOnFollower_12 ?_
    refine U_getI dX5_obeyOnFollower_13 fl_RX5_42 (bkF1 hv) rfl ?_
    refine L_iload_n_3 dX5_obeyOnFollower_16 ?_
    refine V_icmp_eq (tgt := 22) dX5_obeyOnFollower_17 (by decide) (fun h17 => ?_) (fun h17 => ?_)
    · refine L_iload_n_1 dX5_obeyOnFollower_22 ?_
      refine V_bipush (v := 114) (by decide) dX5_obeyOnFollower_23 ?_
      refine V_icmp_ne (tgt := 37) dX5_obeyOnFollower_25 (by decide) (fun h25 => ?_) (fun h25 => ?_)
      · refine L_aload_n_2 dX5_obeyOnFollower_37 ?_
        refine L_iload_n_3 dX5_obeyOnFollower_38 ?_
        refine V_ifx_ne (tgt := 46) dX5_obeyOnFollower_39 (by decide) (fun h39 => ?_) (fun h39 => ?_)
        · refine V_iconst (v := 0) (by decide) dX5_obeyOnFollower_46 ?_
          refine U_putZ dX5_obeyOnFollower_47 fl_RX5_42 (bkF1 hv) rfl rfl (Or.inl rfl) ?_
          refine V_iconst (v := 1) (by decide) dX5_obeyOnFollower_50 ?_
          exact V_iret dX5_obeyOnFollower_51 rfl rfl (by rw [if_pos (ho.mpr h17), b2t (ho.mpr h17)]; exact ⟨rfl, rfl⟩)
        · exfalso; revert h39; decide
      · exfalso; revert h25; decide
    · refine V_iconst (v := 0) (by decide) dX5_obeyOnFollower_20 ?_
      exact V_iret dX5_obeyOnFollower_21 rfl rfl (by
    have hn : ¬ okO i 119 v = true := fun z => h17 (ho.mp z)
    rw [if_neg hn, b2f hn]; exact ⟨rfl, rfl⟩)
theorem k_X5_obey_43 {g : G0} {j : Nat → Nat → Int64} (d : Nat) {i : Nat → Nat → Int32} {v : Nat} (hv : v < 30) (hCI : CI i)  : C g m_X5_obey (d + 5) 0 0 false [.ref 1, .int 43, .int (nI v)] (mk i j) (rets (some (.int (b2i (okO i 43 v = true)))) (mk (if okO i 43 v = true then doO i 43 v else i) j)) := by
  refine C_of (L := [some (.ref 1), some (.int 43), some (.int (nI v))]) rfl ?_
  refine L_iload_n_1 dX5_obey_0 ?_
  refine V_lookup (off := 43) (tgt := 44) dX5_obey_1 (by decide) (by decide) (by decide) ?_
  refine L_aload_n_0 dX5_obey_44 ?_
  refine L_iload_n_1 dX5_obey_45 ?_
  refine L_iload_n_2 dX5_obey_46 ?_
  refine U_cv3 (d := d + 4) (lkR_RX5_95 rfl dX5_obey_47) (k_X5_obeyOnStreet_43 _ hv) ⟨pn_X5_obeyOnStreet, rfl, (Nat.le_of_ble_eq_true rfl), (Nat.le_of_ble_eq_true rfl), rfl⟩ (⟨_, _, rfl, rfl, rfl⟩) (cfS cf5) (Nat.le_of_ble_eq_true rfl) ?_
  exact V_iret dX5_obey_50 rfl b2n (⟨rfl, rfl⟩)
theorem k_X5_obey_45 {g : G0} {j : Nat → Nat → Int64} (d : Nat) {i : Nat → Nat → Int32} {v : Nat} (hv : v < 30) (hCI : CI i)  : C g m_X5_obey (d + 5) 0 0 false [.ref 1, .int 45, .int (nI v)] (mk i j) (rets (some (.int (b2i (okO i 45 v = true)))) (mk (if okO i 45 v = true then doO i 45 v else i) j)) := by
  refine C_of (L := [some (.ref 1), some (.int 45), some (.int (nI v))]) rfl ?_
  refine L_iload_n_1 dX5_obey_0 ?_
  refine V_lookup (off := 43) (tgt := 44) dX5_obey_1 (by decide) (by decide) (by decide) ?_
  refine L_aload_n_0 dX5_obey_44 ?_
  refine L_iload_n_1 dX5_obey_45 ?_
  refine L_iload_n_2 dX5_obey_46 ?_
  refine U_cv3 (d := d + 4) (lkR_RX5_95 rfl dX5_obey_47) (k_X5_obeyOnStreet_45 _ hv) ⟨pn_X5_obeyOnStreet, rfl, (Nat.le_of_ble_eq_true rfl), (Nat.le_of_ble_eq_true rfl), rfl⟩ (⟨_, _, rfl, rfl, rfl⟩) (cfS cf5) (Nat.le_of_ble_eq_true rfl) ?_
  exact V_iret dX5_obey_50 rfl b2n (⟨rfl, rfl⟩)
theorem k_X5_obey_112 {g : G0} {j : Nat → Nat → Int64} (d : Nat) {i : Nat → Nat → Int32} (hCI : CI i)  : C g m_X5_obey (d + 5) 0 0 false [.ref 1, .int 112, .int (nI 0)] (mk i j) (rets (some (.int (b2i (okO i 112 0 = true)))) (mk (if okO i 112 0 = true then doO i 112 0 else i) j)) := by
  refine C_of (L := [some (.ref 1), some (.int 112), some (.int (nI 0))]) rfl ?_
  have ho : okO i 112 0 = true ↔ ¬ i 2 0 = i 2 1 := by unfold okO; simp
  refine L_iload_n_1 dX5_obey_0 ?_
  refine V_lookup (off := 50) (tgt := 51) dX5_obey_1 (by decide) (by decide) (by decide) ?_
  refine L_aload_n_0 dX5_obey_51 ?_
  refine U_getR (r := 2) dX5_obey_52 fl_RX5_12 rfl rfl rfl ?_
  refine U_cv1 (d := d + 4) (lkR_RX5_99 rfl dX5_obey_55) (k_X3_mayPublish _) ⟨pn_X3_mayPublish, rfl, (Nat.le_of_ble_eq_true rfl), (Nat.le_of_ble_eq_true rfl), rfl⟩ (⟨_, _, rfl, rfl, rfl⟩) (cfS cf3) (Nat.le_of_ble_eq_true rfl) ?_
  refine V_ifx_ne (tgt := 63) dX5_obey_58 (by decide) (fun h58 => ?_) (fun h58 => ?_)
  · refine L_aload_n_0 dX5_obey_63 ?_
    refine U_cV1 (d := d + 4) (lkR_RX5_103 rfl dX5_obey_64) (k_X5_issueDraft _ hCI.1 (by have := hCI; unfold CI at this; omega) hCI.2.2.2.2.1 hCI.2.2.1 hCI.2.2.2.1 hCI.2.1 hCI.2.2.2.2.2.1 hCI.2.2.2.2.2.2) ⟨pn_X5_issueDraft, rfl, (Nat.le_of_ble_eq_true rfl), (Nat.le_of_ble_eq_true rfl), rfl⟩ (⟨_, _, rfl, rfl, rfl⟩) (cfS cf5) (Nat.le_of_ble_eq_true rfl) ?_
    refine V_iconst (v := 1) (by decide) dX5_obey_67 ?_
    exact V_iret dX5_obey_68 rfl rfl (by
    have hp := ho.mpr (b2p h58)
    rw [if_pos hp, b2t hp]; exact ⟨rfl, rfl⟩)
  · refine V_iconst (v := 0) (by decide) dX5_obey_61 ?_
    exact V_iret dX5_obey_62 rfl rfl (by
    have hn : ¬ okO i 112 0 = true := fun z => b2z.mp h58 (ho.mp z)
    rw [if_neg hn, b2f hn]; exact ⟨rfl, rfl⟩)
theorem k_X5_obey_110 {g : G0} {j : Nat → Nat → Int64} (d : Nat) {i : Nat → Nat → Int32} {v : Nat} (hv : v < 16) (hCI : CI i)  : C g m_X5_obey (d + 5) 0 0 false [.ref 1, .int 110, .int (nI v)] (mk i j) (rets (some (.int (b2i (okO i 110 v = true)))) (mk (if okO i 110 v = true then doO i 110 v else i) j)) := by
  refine C_of (L := [some (.ref 1), some (.int 110), some (.int (nI v))]) rfl ?_
  have ho : okO i 110 v = true ↔ ¬ nI v = i 2 2 := by unfold okO; simp
  refine L_iload_n_1 dX5_obey_0 ?_
  refine V_lookup (off := 68) (tgt := 69) dX5_obey_1 (by decide) (by decide) (by decide) ?_
  refine L_aload_n_0 dX5_obey_69 ?_
  refine U_getR (r := 2) dX5_obey_70 fl_RX5_12 rfl rfl rfl ?_
  refine L_iload_n_2 dX5_obey_73 ?_
  refine U_cv2 (d := d + 4) (lkR_RX5_104 rfl dX5_obey_74) (k_X3_mayTakeNumber _) ⟨pn_X3_mayTakeNumber, rfl, (Nat.le_of_ble_eq_true rfl), (Nat.le_of_ble_eq_true rfl), rfl⟩ (⟨_, _, rfl, rfl, rfl⟩) (cfS cf3) (Nat.le_of_ble_eq_true rfl) ?_
  refine V_ifx_ne (tgt := 82) dX5_obey_77 (by decide) (fun h77 => ?_) (fun h77 => ?_)
  · refine L_aload_n_0 dX5_obey_82 ?_
    refine L_iload_n_2 dX5_obey_83 ?_
    refine U_cV2 (d := d + 4) (lkR_RX5_108 rfl dX5_obey_84) (k_X5_takeNumber _) ⟨pn_X5_takeNumber, rfl, (Nat.le_of_ble_eq_true rfl), (Nat.le_of_ble_eq_true rfl), rfl⟩ (⟨_, _, rfl, rfl, rfl⟩) (cfS cf5) (Nat.le_of_ble_eq_true rfl) ?_
    refine V_iconst (v := 1) (by decide) dX5_obey_87 ?_
    exact V_iret dX5_obey_88 rfl rfl (by
    have hp := ho.mpr (b2p h77).2
    rw [if_pos hp, b2t hp]; exact ⟨rfl, rfl⟩)
  · refine V_iconst (v := 0) (by decide) dX5_obey_80 ?_
    exact V_iret dX5_obey_81 rfl rfl (by
    have hn : ¬ okO i 110 v = true := fun z => b2z.mp h77 ⟨edq_nI hv, ho.mp z⟩
    rw [if_neg hn, b2f hn]; exact ⟨rfl, rfl⟩)
theorem k_X5_obey_114 {g : G0} {j : Nat → Nat → Int64} (d : Nat) {i : Nat → Nat → Int32} {v : Nat} (hv : v < 4) (hCI : CI i)  : C g m_X5_obey (d + 5) 0 0 false [.ref 1, .int 114, .int (nI v)] (mk i j) (rets (some (.int (b2i (okO i 114 v = true)))) (mk (if okO i 114 v = true then doO i 114 v else i) j)) := by
  refine C_of (L := [some (.ref 1), some (.int 114), some (.int (nI v))]) rfl ?_
  refine L_iload_n_1 dX5_obey_0 ?_
  refine V_lookup (off := 88) (tgt := 89) dX5_obey_1 (by decide) (by decide) (by decide) ?_
  refine L_iload_n_2 dX5_obey_89 ?_
  refine U_cv1 (d := d + 4) (lkR_RX5_109 rfl dX5_obey_90) (k_X6_isFollower _) ⟨pn_X6_isFollower, rfl, (Nat.le_of_ble_eq_true rfl), (Nat.le_of_ble_eq_true rfl), rfl⟩ (trivial) cfn (Nat.le_of_ble_eq_true rfl) ?_
  refine V_ifx_eq (tgt := 114) dX5_obey_93 (by decide) (fun h93 => ?_) (fun h93 => ?_)
  · exact absurd (foq_nI hv) (b2z.mp h93)
  · refine L_aload_n_0 dX5_obey_96 ?_
    refine L_iload_n_1 dX5_obey_97 ?_
    refine L_aload_n_0 dX5_obey_98 ?_
    refine U_getR (r := 8) dX5_obey_99 fl_RX5_20 rfl rfl rfl ?_
    refine L_iload_n_2 dX5_obey_102 ?_
    refine U_aald (n := v) (r := (9 + v)) dX5_obey_103 rfl (Or.inr rfl) (rfl) (by omega) (by decide) (br81 hv) ?_
    refine U_cv3 (d := d + 4) (lkR_RX5_112 rfl dX5_obey_104) (k_X5_obeyOnFollower_114 _ hv hCI) ⟨pn_X5_obeyOnFollower, rfl, (Nat.le_of_ble_eq_true rfl), (Nat.le_of_ble_eq_true rfl), rfl⟩ (⟨_, _, rfl, rfl, rfl⟩) (cfS cf5) (Nat.le_of_ble_eq_true rfl) ?_
    refine V_ifx_eq (tgt := 114) dX5_obey_107 (by decide) (fun h107 => ?_) (fun h107 => ?_)
    · refine V_iconst (v := 0) (by decide) dX5_obey_114 ?_
      exact V_iret dX5_obey_115 rfl rfl (by
    have hn := b2z.mp h107
    rw [b2f hn]; exact ⟨rfl, rfl⟩)
    · refine V_iconst (v := 1) (by decide) dX5_obey_110 ?_
      refine V_goto (tgt := 115) dX5_obey_111 (by decide) ?_
      exact V_iret dX5_obey_115 rfl rfl (by
    have hp := b2p h107
    rw [b2t hp]; exact ⟨rfl, rfl⟩)
theorem k_X5_obey_115 {g : G0} {j : Nat → Nat → Int64} (d : Nat) {i : Nat → Nat → Int32} {v : Nat} (hv : v < 4) (hCI : CI i)  : C g m_X5_obey (d + 5) 0 0 false [.ref 1, .int 115, .int (nI v)] (mk i j) (rets (some (.int (b2i (okO i 115 v = true)))) (mk (if okO i 115 v = true then doO i 115 v else i) j)) := by
  refine C_of (L := [some (.ref 1), some (.int 115), some (.int (nI v))]) rfl ?_
  refine L_iload_n_1 dX5_obey_0 ?_
  refine V_lookup (off := 88) (tgt := 89) dX5_obey_1 (by decide) (by decide) (by decide) ?_
  refine L_iload_n_2 dX5_obey_89 ?_
  refine U_cv1 (d := d + 4) (lkR_RX5_109 rfl dX5_obey_90) (k_X6_isFollower _) ⟨pn_X6_isFollower, rfl, (Nat.le_of_ble_eq_true rfl), (Nat.le_of_ble_eq_true rfl), rfl⟩ (trivial) cfn (Nat.le_of_ble_eq_true rfl) ?_
  refine V_ifx_eq (tgt := 114) dX5_obey_93 (by decide) (fun h93 => ?_) (fun h93 => ?_)
  · exact absurd (foq_nI hv) (b2z.mp h93)
  · refine L_aload_n_0 dX5_obey_96 ?_
    refine L_iload_n_1 dX5_obey_97 ?_
    refine L_aload_n_0 dX5_obey_98 ?_
    refine U_getR (r := 8) dX5_obey_99 fl_RX5_20 rfl rfl rfl ?_
    refine L_iload_n_2 dX5_obey_102 ?_
    refine U_aald (n := v) (r := (9 + v)) dX5_obey_103 rfl (Or.inr rfl) (rfl) (by omega) (by decide) (br81 hv) ?_
    refine U_cv3 (d := d + 4) (lkR_RX5_112 rfl dX5_obey_104) (k_X5_obeyOnFollower_115 _ hv hCI) ⟨pn_X5_obeyOnFollower, rfl, (Nat.le_of_ble_eq_true rfl), (Nat.le_of_ble_eq_true rfl), rfl⟩ (⟨_, _, rfl, rfl, rfl⟩) (cfS cf5) (Nat.le_of_ble_eq_true rfl) ?_
    refine V_ifx_eq (tgt := 114) dX5_obey_107 (by decide) (fun h107 => ?_) (fun h107 => ?_)
    · refine V_iconst (v := 0) (by decide) dX5_obey_114 ?_
      exact V_iret dX5_obey_115 rfl rfl (by
    have hn := b2z.mp h107
    rw [b2f hn]; exact ⟨rfl, rfl⟩)
    · refine V_iconst (v := 1) (by decide) dX5_obey_110 ?_
      refine V_goto (tgt := 115) dX5_obey_111 (by decide) ?_
      exact V_iret dX5_obey_115 rfl rfl (by
    have hp := b2p h107
    rw [b2t hp]; exact ⟨rfl, rfl⟩)
theorem k_X5_obey_119 {g : G0} {j : Nat → Nat → Int64} (d : Nat) {i : Nat → Nat → Int32} {v : Nat} (hv : v < 4) (hCI : CI i)  : C g m_X5_obey (d + 5) 0 0 false [.ref 1, .int 119, .int (nI v)] (mk i j) (rets (some (.int (b2i (okO i 119 v = true)))) (mk (if okO i 119 v = true then doO i 119 v else i) j)) := by
  refine C_of (L := [some (.ref 1), some (.int 119), some (.int (nI v))]) rfl ?_
  refine L_iload_n_1 dX5_obey_0 ?_
  refine V_lookup (off := 88) (tgt := 89) dX5_obey_1 (by decide) (by decide) (by decide) ?_
  refine L_iload_n_2 dX5_obey_89 ?_
  refine U_cv1 (d := d + 4) (lkR_RX5_109 rfl dX5_obey_90) (k_X6_isFollower _) ⟨pn_X6_isFollower, rfl, (Nat.le_of_ble_eq_true rfl), (Nat.le_of_ble_eq_true rfl), rfl⟩ (trivial) cfn (Nat.le_of_ble_eq_true rfl) ?_
  refine V_ifx_eq (tgt := 114) dX5_obey_93 (by decide) (fun h93 => ?_) (fun h93 => ?_)
  · exact absurd (foq_nI hv) (b2z.mp h93)
  · refine L_aload_n_0 dX5_obey_96 ?_
    refine L_iload_n_1 dX5_obey_97 ?_
    refine L_aload_n_0 dX5_obey_98 ?_
    refine U_getR (r := 8) dX5_obey_99 fl_RX5_20 rfl rfl rfl ?_
    refine L_iload_n_2 dX5_obey_102 ?_
    refine U_aald (n := v) (r := (9 + v)) dX5_obey_103 rfl (Or.inr rfl) (rfl) (by omega) (by decide) (br81 hv) ?_
    refine U_cv3 (d := d + 4) (lkR_RX5_112 rfl dX5_obey_104) (k_X5_obeyOnFollower_119 _ hv hCI) ⟨pn_X5_obeyOnFollower, rfl, (Nat.le_of_ble_eq_true rfl), (Nat.le_of_ble_eq_true rfl), rfl⟩ (⟨_, _, rfl, rfl, rfl⟩) (cfS cf5) (Nat.le_of_ble_eq_true rfl) ?_
    refine V_ifx_eq (tgt := 114) dX5_obey_107 (by decide) (fun h107 => ?_) (fun h107 => ?_)
    · refine V_iconst (v := 0) (by decide) dX5_obey_114 ?_
      exact V_iret dX5_obey_115 rfl rfl (by
    have hn := b2z.mp h107
    rw [b2f hn]; exact ⟨rfl, rfl⟩)
    · refine V_iconst (v := 1) (by decide) dX5_obey_110 ?_
      refine V_goto (tgt := 115) dX5_obey_111 (by decide) ?_
      exact V_iret dX5_obey_115 rfl rfl (by
    have hp := b2p h107
    rw [b2t hp]; exact ⟨rfl, rfl⟩)
theorem k_X5_obey {g : G0} {j : Nat → Nat → Int64} (d : Nat) {i : Nat → Nat → Int32} {o v : Nat} (hv : vld o v) (hCI : CI i) : C g m_X5_obey (d + 5) 0 0 false [.ref 1, .int (nI o), .int (nI v)] (mk i j) (rets (some (.int (b2i (okO i o v = true)))) (mk (if okO i o v = true then doO i o v else i) j)) := by
  rcases hv with ⟨rfl | rfl, hv⟩ | ⟨rfl, rfl⟩ | ⟨rfl, hv⟩ | ⟨rfl | rfl | rfl, hv⟩
  · exact k_X5_obey_43 d hv hCI
  · exact k_X5_obey_45 d hv hCI
  · exact k_X5_obey_112 d hCI
  · exact k_X5_obey_110 d hv hCI
  · exact k_X5_obey_114 d hv hCI
  · exact k_X5_obey_115 d hv hCI
  · exact k_X5_obey_119 d hv hCI
