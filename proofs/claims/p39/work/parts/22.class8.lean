def saveW (i : Nat → Nat → Int32) (x n : Nat) : Nat → Nat → Int32 := up2 (up2 (cpS i (15 + 12 * x) 1 4) 13 1 (nI ((x + 1) % 6))) 13 2 (nI (min (n + 1) 6))
def restW (i : Nat → Nat → Int32) (x n : Nat) : Nat → Nat → Int32 := cpS (up2 (up2 i 13 1 (nI ((x + 5) % 6))) 13 2 (nI (n - 1))) 1 (15 + 12 * ((x + 5) % 6)) 4
theorem minI {n : Nat} (h : n ≤ 6) : (if (6 : Int32) < nI n + 1 then (6 : Int32) else nI n + 1) = nI (min (n + 1) 6) := by
  rw [nI_1]
  show (if nI 6 < nI (n + 1) then nI 6 else nI (n + 1)) = _
  by_cases h2 : 6 < n + 1
  · rw [if_pos ((nI_ltI (a := 6) (b := n + 1) (by omega) (by omega)).mpr h2), Nat.min_eq_right (by omega)]
  · rw [if_neg (mt (nI_ltI (a := 6) (b := n + 1) (by omega) (by omega)).mp h2), Nat.min_eq_left (by omega)]
theorem k_X4_save {g : G0} {j : Nat → Nat → Int64} (d : Nat) {i : Nat → Nat → Int32} {x n : Nat} (hx : i 13 1 = nI x) (hx6 : x < 6) (hn : i 13 2 = nI n) (hn6 : n ≤ 6) (hz : bits i 1)  : C g m_X4_save (d + 3) 0 0 false [.ref 13, .ref 1] (mk i j) (rets (none) (mk (saveW i x n) j)) := by
  refine C_of (L := [some (.ref 13), some (.ref 1)]) rfl ?_
  refine L_aload_n_0 dX4_save_0 ?_
  refine U_getR (r := 14) dX4_save_1 fl_RX4_11 rfl rfl rfl ?_
  refine L_aload_n_0 dX4_save_4 ?_
  refine U_getI dX4_save_5 fl_RX4_18 rfl rfl ?_
  refine V_eqv (y := nI x) hx ?_
  refine U_aald (n := x) (r := (15 + 12 * x)) dX4_save_8 rfl (Or.inl rfl) (rfl) hx6 (by decide) (br14 hx6) ?_
  refine L_aload_n_1 dX4_save_9 ?_
  refine U_cV2 (d := d + 2) (lkR_RX4_22 rfl dX4_save_10) (k_X5_copyFrom _ (blk_row hx6) blk_1 (by omega) hz) ⟨pn_X5_copyFrom, rfl, (Nat.le_of_ble_eq_true rfl), (Nat.le_of_ble_eq_true rfl), rfl⟩ (⟨_, _, rfl, congrArg Prod.fst ((bk0 (blk_row hx6))), rfl⟩) (cfS cf5) (Nat.le_of_ble_eq_true rfl) ?_
  refine L_aload_n_0 dX4_save_13 ?_
  refine L_aload_n_0 dX4_save_14 ?_
  refine U_getI dX4_save_15 fl_RX4_18 rfl rfl ?_
  refine V_eqv (y := nI x) ((cpS_off (by omega)).trans hx) ?_
  refine V_iconst (v := 1) (by decide) dX4_save_18 ?_
  refine V_iadd dX4_save_19 ?_
  refine V_bipush (v := 6) (by decide) dX4_save_20 ?_
  refine V_irem (by decide) dX4_save_22 ?_
  refine V_eqv (y := nI ((x + 1) % 6)) (by rw [nI_1]; exact pk_rem (a := x + 1) (d := 6) (by omega) (by omega) (by omega)) ?_
  refine U_putI dX4_save_23 fl_RX4_18 rfl rfl rfl ?_
  refine L_aload_n_0 dX4_save_26 ?_
  refine L_aload_n_0 dX4_save_27 ?_
  refine U_getI dX4_save_28 fl_RX4_26 rfl rfl ?_
  refine V_eqv (y := nI n) ((up2_nf (by omega)).trans ((cpS_off (by omega)).trans hn)) ?_
  refine V_iconst (v := 1) (by decide) dX4_save_31 ?_
  refine V_iadd dX4_save_32 ?_
  refine V_bipush (v := 6) (by decide) dX4_save_33 ?_
  refine V_min mml mms in_RJ9 mmc dX4_save_35 (by omega) (Nat.le_of_ble_eq_true rfl) ?_
  refine V_eqv (minI hn6) ?_
  refine U_putI dX4_save_38 fl_RX4_26 rfl rfl rfl ?_
  exact V_vret dX4_save_41 rfl (⟨rfl, rfl⟩)
theorem k_X4_restoreInto {g : G0} {j : Nat → Nat → Int64} (d : Nat) {i : Nat → Nat → Int32} {x n : Nat} (hx : i 13 1 = nI x) (hx6 : x < 6) (hn : i 13 2 = nI n) (hn6 : n ≤ 6) (hn1 : 1 ≤ n) (hz : bits i (15 + 12 * ((x + 5) % 6)))  : C g m_X4_restoreInto (d + 3) 0 0 false [.ref 13, .ref 1] (mk i j) (rets (none) (mk (restW i x n) j)) := by
  refine C_of (L := [some (.ref 13), some (.ref 1)]) rfl ?_
  refine L_aload_n_0 dX4_restoreInto_0 ?_
  refine L_aload_n_0 dX4_restoreInto_1 ?_
  refine U_getI dX4_restoreInto_2 fl_RX4_18 rfl rfl ?_
  refine V_eqv (y := nI x) hx ?_
  refine V_bipush (v := 6) (by decide) dX4_restoreInto_5 ?_
  refine V_iadd dX4_restoreInto_7 ?_
  refine V_iconst (v := 1) (by decide) dX4_restoreInto_8 ?_
  refine V_isub dX4_restoreInto_9 ?_
  refine V_bipush (v := 6) (by decide) dX4_restoreInto_10 ?_
  refine V_irem (by decide) dX4_restoreInto_12 ?_
  refine V_eqv (y := nI ((x + 5) % 6)) (by rw [show (6 : Int32) = nI 6 from rfl, nI_add, show (1 : Int32) = nI 1 from rfl, pk_sub (by omega), show x + 6 - 1 = x + 5 by omega]; exact pk_rem (a := x + 5) (d := 6) (by omega) (by omega) (by omega)) ?_
  refine U_putI dX4_restoreInto_13 fl_RX4_18 rfl rfl rfl ?_
  refine L_aload_n_0 dX4_restoreInto_16 ?_
  refine V_dup rfl dX4_restoreInto_17 ?_
  refine U_getI dX4_restoreInto_18 fl_RX4_26 rfl rfl ?_
  refine V_eqv (y := nI n) ((up2_nf (by omega)).trans hn) ?_
  refine V_iconst (v := 1) (by decide) dX4_restoreInto_21 ?_
  refine V_isub dX4_restoreInto_22 ?_
  refine V_eqv (y := nI (n - 1)) (pk_sub (a := n) (b := 1) hn1) ?_
  refine U_putI dX4_restoreInto_23 fl_RX4_26 rfl rfl rfl ?_
  refine L_aload_n_1 dX4_restoreInto_26 ?_
  refine L_aload_n_0 dX4_restoreInto_27 ?_
  refine U_getR (r := 14) dX4_restoreInto_28 fl_RX4_11 rfl rfl rfl ?_
  refine L_aload_n_0 dX4_restoreInto_31 ?_
  refine U_getI dX4_restoreInto_32 fl_RX4_18 rfl rfl ?_
  refine V_eqv (y := nI ((x + 5) % 6)) ((up2_nf (by omega)).trans up2_eq) ?_
  refine U_aald (n := ((x + 5) % 6)) (r := (15 + 12 * ((x + 5) % 6))) dX4_restoreInto_35 rfl (Or.inl rfl) (rfl) (by omega) (by decide) (br14 (Nat.mod_lt _ (by omega))) ?_
  refine U_cV2 (d := d + 2) (lkR_RX4_22 rfl dX4_restoreInto_36) (k_X5_copyFrom _ blk_1 (blk_row (Nat.mod_lt _ (by omega))) (by omega) (fun f hf => by simp only [up2_ne (show 15 + 12 * ((x + 5) % 6) + 8 + f ≠ 13 by omega)]; exact hz f hf)) ⟨pn_X5_copyFrom, rfl, (Nat.le_of_ble_eq_true rfl), (Nat.le_of_ble_eq_true rfl), rfl⟩ (⟨_, _, rfl, rfl, rfl⟩) (cfS cf5) (Nat.le_of_ble_eq_true rfl) ?_
  exact V_vret dX4_restoreInto_39 rfl (⟨rfl, rfl⟩)
def xN (i : Nat → Nat → Int32) : Nat := (i 13 1).toNatClampNeg
def sN (i : Nat → Nat → Int32) : Nat := (i 13 2).toNatClampNeg
/-- the saved states' numbers are in their ranges; the live state's flags are bits -/
def SVI (i : Nat → Nat → Int32) : Prop := i 13 1 = nI (xN i) ∧ xN i < 6 ∧ i 13 2 = nI (sN i) ∧ sN i ≤ 6 ∧ bits i 1
def svI (i : Nat → Nat → Int32) : Nat → Nat → Int32 := saveW i (xN i) (sN i)
theorem svI_oth {i : Nat → Nat → Int32} {a f : Nat} (h : a < 13 ∨ 87 ≤ a) (hx : xN i < 6) : svI i a f = i a f := by
  unfold svI saveW
  rw [up2_ne (by omega), up2_ne (by omega), cpS_off (by omega)]
theorem svI_CI {i : Nat → Nat → Int32} (h : CI i) (hx : xN i < 6) : CI (svI i) := CI_same h (svI_oth (by omega) hx) (svI_oth (by omega) hx) (svI_oth (by omega) hx)
theorem k_sv {g : G0} {j : Nat → Nat → Int64} (d : Nat) {i : Nat → Nat → Int32} (h : SVI i) : C g m_X4_save (d + 3) 0 0 false [.ref 13, .ref 1] (mk i j) (rets none (mk (svI i) j)) := k_X4_save d h.1 h.2.1 h.2.2.1 h.2.2.2.1 h.2.2.2.2
theorem k_X6_edition {g : G0} {j : Nat → Nat → Int64} (d : Nat) {i : Nat → Nat → Int32}  : C g m_X6_edition (d + 0) 0 0 false [.ref 0] (mk i j) (rets (some (.int (i 2 2))) (mk i j)) := by
  refine C_of (L := [some (.ref 0)]) rfl ?_
  refine L_aload_n_0 dX6_edition_0 ?_
  refine U_getR (r := 1) dX6_edition_1 fl_RX6_10 rfl rfl rfl ?_
  refine U_getR (r := 2) dX6_edition_4 fl_RX6_34 rfl rfl rfl ?_
  refine U_getI dX6_edition_7 fl_RX6_107 rfl rfl ?_
  exact V_iret dX6_edition_10 rfl rfl (⟨rfl, rfl⟩)
theorem k_X6_draft {g : G0} {j : Nat → Nat → Int64} (d : Nat) {i : Nat → Nat → Int32}  : C g m_X6_draft (d + 1) 0 0 false [.ref 0] (mk i j) (rets (some (.int (bcI (i 2 0)))) (mk i j)) := by
  refine C_of (L := [some (.ref 0)]) rfl ?_
  refine L_aload_n_0 dX6_draft_0 ?_
  refine U_getR (r := 1) dX6_draft_1 fl_RX6_10 rfl rfl rfl ?_
  refine U_getR (r := 2) dX6_draft_4 fl_RX6_34 rfl rfl rfl ?_
  refine U_getI dX6_draft_7 fl_RX6_111 rfl rfl ?_
  refine U_cv1 (d := d + 0) (lkR_RX6_114 rfl dX6_draft_10) (k_J6_bitCount_0f7a4 _) ⟨pn_J6_bitCount_0f7a4, rfl, (Nat.le_of_ble_eq_true rfl), (Nat.le_of_ble_eq_true rfl), rfl⟩ (trivial) cfn (Nat.le_of_ble_eq_true rfl) ?_
  exact V_iret dX6_draft_13 rfl rfl (⟨rfl, rfl⟩)
theorem k_X6_published {g : G0} {j : Nat → Nat → Int64} (d : Nat) {i : Nat → Nat → Int32}  : C g m_X6_published (d + 1) 0 0 false [.ref 0] (mk i j) (rets (some (.int (bcI (i 2 1)))) (mk i j)) := by
  refine C_of (L := [some (.ref 0)]) rfl ?_
  refine L_aload_n_0 dX6_published_0 ?_
  refine U_getR (r := 1) dX6_published_1 fl_RX6_10 rfl rfl rfl ?_
  refine U_getR (r := 2) dX6_published_4 fl_RX6_34 rfl rfl rfl ?_
  refine U_getI dX6_published_7 fl_RX6_120 rfl rfl ?_
  refine U_cv1 (d := d + 0) (lkR_RX6_114 rfl dX6_published_10) (k_J6_bitCount_0f7a4 _) ⟨pn_J6_bitCount_0f7a4, rfl, (Nat.le_of_ble_eq_true rfl), (Nat.le_of_ble_eq_true rfl), rfl⟩ (trivial) cfn (Nat.le_of_ble_eq_true rfl) ?_
  exact V_iret dX6_published_13 rfl rfl (⟨rfl, rfl⟩)
theorem k_X6_pending {g : G0} {j : Nat → Nat → Int64} (d : Nat) {i : Nat → Nat → Int32}  : C g m_X6_pending (d + 1) 0 0 false [.ref 0] (mk i j) (rets (some (.int (bcI (i 2 0 ^^^ i 2 1)))) (mk i j)) := by
  refine C_of (L := [some (.ref 0)]) rfl ?_
  refine L_aload_n_0 dX6_pending_0 ?_
  refine U_getR (r := 1) dX6_pending_1 fl_RX6_10 rfl rfl rfl ?_
  refine U_getR (r := 2) dX6_pending_4 fl_RX6_34 rfl rfl rfl ?_
  refine U_getI dX6_pending_7 fl_RX6_111 rfl rfl ?_
  refine L_aload_n_0 dX6_pending_10 ?_
  refine U_getR (r := 1) dX6_pending_11 fl_RX6_10 rfl rfl rfl ?_
  refine U_getR (r := 2) dX6_pending_14 fl_RX6_34 rfl rfl rfl ?_
  refine U_getI dX6_pending_17 fl_RX6_120 rfl rfl ?_
  refine V_ixor dX6_pending_20 ?_
  refine U_cv1 (d := d + 0) (lkR_RX6_114 rfl dX6_pending_21) (k_J6_bitCount_0f7a4 _) ⟨pn_J6_bitCount_0f7a4, rfl, (Nat.le_of_ble_eq_true rfl), (Nat.le_of_ble_eq_true rfl), rfl⟩ (trivial) cfn (Nat.le_of_ble_eq_true rfl) ?_
  exact V_iret dX6_pending_24 rfl rfl (⟨rfl, rfl⟩)
theorem k_X6_kept {g : G0} {j : Nat → Nat → Int64} (d : Nat) {i : Nat → Nat → Int32}  : C g m_X6_kept (d + 0) 0 0 false [.ref 0] (mk i j) (rets (some (.int (i 3 5))) (mk i j)) := by
  refine C_of (L := [some (.ref 0)]) rfl ?_
  refine L_aload_n_0 dX6_kept_0 ?_
  refine U_getR (r := 1) dX6_kept_1 fl_RX6_10 rfl rfl rfl ?_
  refine U_getR (r := 2) dX6_kept_4 fl_RX6_34 rfl rfl rfl ?_
  refine U_getR (r := 3) dX6_kept_7 fl_RX6_95 rfl rfl rfl ?_
  refine U_getI dX6_kept_10 fl_RX6_126 rfl rfl ?_
  exact V_iret dX6_kept_13 rfl rfl (⟨rfl, rfl⟩)
theorem k_X6_savedStates {g : G0} {j : Nat → Nat → Int64} (d : Nat) {i : Nat → Nat → Int32}  : C g m_X6_savedStates (d + 0) 0 0 false [.ref 0] (mk i j) (rets (some (.int (i 13 2))) (mk i j)) := by
  refine C_of (L := [some (.ref 0)]) rfl ?_
  refine L_aload_n_0 dX6_savedStates_0 ?_
  refine U_getR (r := 13) dX6_savedStates_1 fl_RX6_19 rfl rfl rfl ?_
  refine U_getI dX6_savedStates_4 fl_RX6_233 rfl rfl ?_
  exact V_iret dX6_savedStates_7 rfl rfl (⟨rfl, rfl⟩)
theorem k_X6_where {g : G0} {j : Nat → Nat → Int64} (d : Nat) {i : Nat → Nat → Int32} {x : Int32} (h : stq x)  : C g m_X6_where (d + 2) 0 0 false [.ref 0, .int x] (mk i j) (rets (some (.int ((if bit (i 2 0) x = 0 then 0 else 1) + (if bit (i 2 1) x = 0 then 0 else 2)))) (mk i j)) := by
  refine C_of (L := [some (.ref 0), some (.int x)]) rfl ?_
  refine L_iload_n_1 dX6_where_0 ?_
  refine U_cV1 (d := d + 1) (lkR_RX6_30 rfl dX6_where_1) (k_X6_needStreet _ h) ⟨pn_X6_needStreet, rfl, (Nat.le_of_ble_eq_true rfl), (Nat.le_of_ble_eq_true rfl), rfl⟩ (trivial) cfn (Nat.le_of_ble_eq_true rfl) ?_
  refine L_aload_n_0 dX6_where_4 ?_
  refine U_getR (r := 1) dX6_where_5 fl_RX6_10 rfl rfl rfl ?_
  refine U_getR (r := 2) dX6_where_8 fl_RX6_34 rfl rfl rfl ?_
  refine L_iload_n_1 dX6_where_11 ?_
  refine U_cv2 (d := d + 1) (lkR_RX6_123 rfl dX6_where_12) (k_X3_placeOf _) ⟨pn_X3_placeOf, rfl, (Nat.le_of_ble_eq_true rfl), (Nat.le_of_ble_eq_true rfl), rfl⟩ (⟨_, _, rfl, rfl, rfl⟩) (cfS cf3) (Nat.le_of_ble_eq_true rfl) ?_
  exact V_iret dX6_where_15 rfl rfl (⟨rfl, rfl⟩)
theorem k_X6_where_x {g : G0} {j : Nat → Nat → Int64} (d : Nat) {i : Nat → Nat → Int32} {x : Int32} (h : ¬ stq x)  : C g m_X6_where (d + 7) 1 6 false [.ref 0, .int x] (mk i j) (thrs "java/lang/IndexOutOfBoundsException" (mk i j)) := by
  refine C_of (L := [some (.ref 0), some (.int x)]) rfl ?_
  refine L_iload_n_1 dX6_where_0 ?_
  exact U_cX1 (lkX_RX6_30 rfl dX6_where_1) (k_X6_needStreet_x _ h) ⟨pn_X6_needStreet, rfl, (Nat.le_of_ble_eq_true rfl), (Nat.le_of_ble_eq_true rfl), rfl⟩ (trivial) cfn (Nat.le_of_ble_eq_true rfl) rfl ⟨rfl, rfl⟩
theorem k_X6_needDifference {g : G0} {j : Nat → Nat → Int64} (d : Nat) {i : Nat → Nat → Int32} {c : Nat} (hc : i 3 5 = nI c) (h6 : c ≤ 6) {k : Nat} (hk : k < c)  : C g m_X6_needDifference (d + 0) 0 0 false [.ref 0, .int (nI k)] (mk i j) (rets (none) (mk i j)) := by
  refine C_of (L := [some (.ref 0), some (.int (nI k))]) rfl ?_
  refine L_iload_n_1 dX6_needDifference_0 ?_
  refine V_ifx_lt (tgt := 21) dX6_needDifference_1 (by decide) (fun h1 => ?_) (fun h1 => ?_)
  · exact absurd h1 (nI_pos (by omega))
  · refine L_iload_n_1 dX6_needDifference_4 ?_
    refine L_aload_n_0 dX6_needDifference_5 ?_
    refine U_getR (r := 1) dX6_needDifference_6 fl_RX6_10 rfl rfl rfl ?_
    refine U_getR (r := 2) dX6_needDifference_9 fl_RX6_34 rfl rfl rfl ?_
    refine U_getR (r := 3) dX6_needDifference_12 fl_RX6_95 rfl rfl rfl ?_
    refine U_getI dX6_needDifference_15 fl_RX6_126 rfl rfl ?_
    refine V_eqv (y := nI c) hc ?_
    refine V_icmp_lt (tgt := 32) dX6_needDifference_18 (by decide) (fun h18 => ?_) (fun h18 => ?_)
    · exact V_vret dX6_needDifference_32 rfl (⟨rfl, rfl⟩)
    · exact absurd ((nI_ltI (a := k) (b := c) (by omega) (by omega)).mpr hk) h18
theorem k_X6_needDifference_x {g : G0} {j : Nat → Nat → Int64} (d : Nat) {i : Nat → Nat → Int32} {x : Int32} {c : Nat} (hc : i 3 5 = nI c) (h6 : c ≤ 6) (hk : x < 0 ∨ ¬ x < nI c)  : C g m_X6_needDifference (d + 6) 1 6 false [.ref 0, .int x] (mk i j) (thrs "java/lang/IndexOutOfBoundsException" (mk i j)) := by
  refine C_of (L := [some (.ref 0), some (.int x)]) rfl ?_
  refine L_iload_n_1 dX6_needDifference_0 ?_
  refine V_ifx_lt (tgt := 21) dX6_needDifference_1 (by decide) (fun h1 => ?_) (fun h1 => ?_)
  · exact V_throwW (E := "java/lang/IndexOutOfBoundsException") (text := "there is no such difference") (by decide) cl_RX6_264 in_IndexOutOfBoundsException (by decide) xa_268 (xh_268) dX6_needDifference_21 dX6_needDifference_24 dX6_needDifference_25 dX6_needDifference_28 dX6_needDifference_31 rfl (by omega) (Nat.le_of_ble_eq_true rfl) (⟨rfl, rfl⟩)
  · refine L_iload_n_1 dX6_needDifference_4 ?_
    refine L_aload_n_0 dX6_needDifference_5 ?_
    refine U_getR (r := 1) dX6_needDifference_6 fl_RX6_10 rfl rfl rfl ?_
    refine U_getR (r := 2) dX6_needDifference_9 fl_RX6_34 rfl rfl rfl ?_
    refine U_getR (r := 3) dX6_needDifference_12 fl_RX6_95 rfl rfl rfl ?_
    refine U_getI dX6_needDifference_15 fl_RX6_126 rfl rfl ?_
    refine V_eqv (y := nI c) hc ?_
    refine V_icmp_lt (tgt := 32) dX6_needDifference_18 (by decide) (fun h18 => ?_) (fun h18 => ?_)
    · exact absurd hk (fun z => z.elim h1 (fun z => z h18))
    · exact V_throwW (E := "java/lang/IndexOutOfBoundsException") (text := "there is no such difference") (by decide) cl_RX6_264 in_IndexOutOfBoundsException (by decide) xa_268 (xh_268) dX6_needDifference_21 dX6_needDifference_24 dX6_needDifference_25 dX6_needDifference_28 dX6_needDifference_31 rfl (by omega) (Nat.le_of_ble_eq_true rfl) (⟨rfl, rfl⟩)
theorem k_X6_from {g : G0} {j : Nat → Nat → Int64} (d : Nat) {i : Nat → Nat → Int32} {c : Nat} (hc : i 3 5 = nI c) (h6 : c ≤ 6) {k : Nat} (hk : k < c)  : C g m_X6_from (d + 1) 0 0 false [.ref 0, .int (nI k)] (mk i j) (rets (some (.int (i 4 k))) (mk i j)) := by
  refine C_of (L := [some (.ref 0), some (.int (nI k))]) rfl ?_
  refine L_aload_n_0 dX6_from_0 ?_
  refine L_iload_n_1 dX6_from_1 ?_
  refine U_cV2 (d := d + 0) (lkR_RX6_129 rfl dX6_from_2) (k_X6_needDifference _ hc h6 hk) ⟨pn_X6_needDifference, rfl, (Nat.le_of_ble_eq_true rfl), (Nat.le_of_ble_eq_true rfl), rfl⟩ (⟨_, _, rfl, rfl, rfl⟩) (cfS cf6) (Nat.le_of_ble_eq_true rfl) ?_
  refine L_aload_n_0 dX6_from_5 ?_
  refine U_getR (r := 1) dX6_from_6 fl_RX6_10 rfl rfl rfl ?_
  refine U_getR (r := 2) dX6_from_9 fl_RX6_34 rfl rfl rfl ?_
  refine U_getR (r := 3) dX6_from_12 fl_RX6_95 rfl rfl rfl ?_
  refine U_getR (r := 4) dX6_from_15 fl_RX6_132 rfl rfl rfl ?_
  refine L_iload_n_1 dX6_from_18 ?_
  refine U_iald (n := k) dX6_from_19 rfl (rfl) (by omega) (by decide) ?_
  exact V_iret dX6_from_20 rfl rfl (⟨rfl, rfl⟩)
theorem k_X6_from_x {g : G0} {j : Nat → Nat → Int64} (d : Nat) {i : Nat → Nat → Int32} {x : Int32} {c : Nat} (hc : i 3 5 = nI c) (h6 : c ≤ 6) (hk : x < 0 ∨ ¬ x < nI c)  : C g m_X6_from (d + 7) 1 6 false [.ref 0, .int x] (mk i j) (thrs "java/lang/IndexOutOfBoundsException" (mk i j)) := by
  refine C_of (L := [some (.ref 0), some (.int x)]) rfl ?_
  refine L_aload_n_0 dX6_from_0 ?_
  refine L_iload_n_1 dX6_from_1 ?_
  exact U_cX2 (lkX_RX6_129 rfl dX6_from_2) (k_X6_needDifference_x _ hc h6 hk) ⟨pn_X6_needDifference, rfl, (Nat.le_of_ble_eq_true rfl), (Nat.le_of_ble_eq_true rfl), rfl⟩ (⟨_, _, rfl, rfl, rfl⟩) (cfS cf6) (Nat.le_of_ble_eq_true rfl) rfl ⟨rfl, rfl⟩
theorem k_X6_cost {g : G0} {j : Nat → Nat → Int64} (d : Nat) {i : Nat → Nat → Int32} {c : Nat} (hc : i 3 5 = nI c) (h6 : c ≤ 6) {k : Nat} (hk : k < c)  : C g m_X6_cost (d + 1) 0 0 false [.ref 0, .int (nI k)] (mk i j) (rets (some (.int (i 7 k))) (mk i j)) := by
  refine C_of (L := [some (.ref 0), some (.int (nI k))]) rfl ?_
  refine L_aload_n_0 dX6_cost_0 ?_
  refine L_iload_n_1 dX6_cost_1 ?_
  refine U_cV2 (d := d + 0) (lkR_RX6_129 rfl dX6_cost_2) (k_X6_needDifference _ hc h6 hk) ⟨pn_X6_needDifference, rfl, (Nat.le_of_ble_eq_true rfl), (Nat.le_of_ble_eq_true rfl), rfl⟩ (⟨_, _, rfl, rfl, rfl⟩) (cfS cf6) (Nat.le_of_ble_eq_true rfl) ?_
  refine L_aload_n_0 dX6_cost_5 ?_
  refine U_getR (r := 1) dX6_cost_6 fl_RX6_10 rfl rfl rfl ?_
  refine U_getR (r := 2) dX6_cost_9 fl_RX6_34 rfl rfl rfl ?_
  refine U_getR (r := 3) dX6_cost_12 fl_RX6_95 rfl rfl rfl ?_
  refine U_getR (r := 7) dX6_cost_15 fl_RX6_136 rfl rfl rfl ?_
  refine L_iload_n_1 dX6_cost_18 ?_
  refine U_iald (n := k) dX6_cost_19 rfl (rfl) (by omega) (by decide) ?_
  exact V_iret dX6_cost_20 rfl rfl (⟨rfl, rfl⟩)
theorem k_X6_cost_x {g : G0} {j : Nat → Nat → Int64} (d : Nat) {i : Nat → Nat → Int32} {x : Int32} {c : Nat} (hc : i 3 5 = nI c) (h6 : c ≤ 6) (hk : x < 0 ∨ ¬ x < nI c)  : C g m_X6_cost (d + 7) 1 6 false [.ref 0, .int x] (mk i j) (thrs "java/lang/IndexOutOfBoundsException" (mk i j)) := by
  refine C_of (L := [some (.ref 0), some (.int x)]) rfl ?_
  refine L_aload_n_0 dX6_cost_0 ?_
  refine L_iload_n_1 dX6_cost_1 ?_
  exact U_cX2 (lkX_RX6_129 rfl dX6_cost_2) (k_X6_needDifference_x _ hc h6 hk) ⟨pn_X6_needDifference, rfl, (Nat.le_of_ble_eq_true rfl), (Nat.le_of_ble_eq_true rfl), rfl⟩ (⟨_, _, rfl, rfl, rfl⟩) (cfS cf6) (Nat.le_of_ble_eq_true rfl) rfl ⟨rfl, rfl⟩
theorem k_X6_followerNumbered {g : G0} {j : Nat → Nat → Int64} (d : Nat) {i : Nat → Nat → Int32} {v : Nat} (hv : v < 4)  : C g m_X6_followerNumbered (d + 1) 0 0 false [.ref 0, .int (nI v)] (mk i j) (rets (some (.ref (9 + v))) (mk i j)) := by
  refine C_of (L := [some (.ref 0), some (.int (nI v))]) rfl ?_
  refine L_iload_n_1 dX6_followerNumbered_0 ?_
  refine U_cv1 (d := d + 0) (lkR_RX6_271 rfl dX6_followerNumbered_1) (k_X6_isFollower _) ⟨pn_X6_isFollower, rfl, (Nat.le_of_ble_eq_true rfl), (Nat.le_of_ble_eq_true rfl), rfl⟩ (trivial) cfn (Nat.le_of_ble_eq_true rfl) ?_
  refine V_ifx_ne (tgt := 18) dX6_followerNumbered_4 (by decide) (fun h4 => ?_) (fun h4 => ?_)
  · refine L_aload_n_0 dX6_followerNumbered_18 ?_
    refine U_getR (r := 1) dX6_followerNumbered_19 fl_RX6_10 rfl rfl rfl ?_
    refine U_getR (r := 8) dX6_followerNumbered_22 fl_RX6_201 rfl rfl rfl ?_
    refine L_iload_n_1 dX6_followerNumbered_25 ?_
    refine U_aald (n := v) (r := (9 + v)) dX6_followerNumbered_26 rfl (Or.inr rfl) (rfl) (by omega) (by decide) (br81 hv) ?_
    exact V_aret dX6_followerNumbered_27 rfl rfl (⟨rfl, rfl⟩)
  · exact absurd (foq_nI hv) (b2z.mp h4)
theorem k_X6_followerNumbered_x {g : G0} {j : Nat → Nat → Int64} (d : Nat) {i : Nat → Nat → Int32} {x : Int32} (h : ¬ foq x)  : C g m_X6_followerNumbered (d + 6) 1 6 false [.ref 0, .int x] (mk i j) (thrs "java/lang/IndexOutOfBoundsException" (mk i j)) := by
  refine C_of (L := [some (.ref 0), some (.int x)]) rfl ?_
  refine L_iload_n_1 dX6_followerNumbered_0 ?_
  refine U_cv1 (d := d + 5) (lkR_RX6_271 rfl dX6_followerNumbered_1) (k_X6_isFollower _) ⟨pn_X6_isFollower, rfl, (Nat.le_of_ble_eq_true rfl), (Nat.le_of_ble_eq_true rfl), rfl⟩ (trivial) cfn (Nat.le_of_ble_eq_true rfl) ?_
  refine V_ifx_ne (tgt := 18) dX6_followerNumbered_4 (by decide) (fun h4 => ?_) (fun h4 => ?_)
  · exact absurd (b2p h4) h
  · exact V_throwW (E := "java/lang/IndexOutOfBoundsException") (text := "there is no such follower") (by decide) cl_RX6_264 in_IndexOutOfBoundsException (by decide) xa_268 (xh_268) dX6_followerNumbered_7 dX6_followerNumbered_10 dX6_followerNumbered_11 dX6_followerNumbered_14 dX6_followerNumbered_17 rfl (by omega) (Nat.le_of_ble_eq_true rfl) (⟨rfl, rfl⟩)
theorem k_X6_editionOf {g : G0} {j : Nat → Nat → Int64} (d : Nat) {i : Nat → Nat → Int32} {v : Nat} (hv : v < 4)  : C g m_X6_editionOf (d + 2) 0 0 false [.ref 0, .int (nI v)] (mk i j) (rets (some (.int (if i (9 + v) 0 = 0 then -1 else i (9 + v) 2))) (mk i j)) := by
  refine C_of (L := [some (.ref 0), some (.int (nI v))]) rfl ?_
  refine L_aload_n_0 dX6_editionOf_0 ?_
  refine L_iload_n_1 dX6_editionOf_1 ?_
  refine U_cv2 (d := d + 1) (lkR_RX6_148 rfl dX6_editionOf_2) (k_X6_followerNumbered _ hv) ⟨pn_X6_followerNumbered, rfl, (Nat.le_of_ble_eq_true rfl), (Nat.le_of_ble_eq_true rfl), rfl⟩ (⟨_, _, rfl, rfl, rfl⟩) (cfS cf6) (Nat.le_of_ble_eq_true rfl) ?_
  refine U_cv1 (d := d + 1) (lkR_RX6_180 rfl dX6_editionOf_5) (k_X1_editionOrNone _ (bkF1 hv)) ⟨pn_X1_editionOrNone, rfl, (Nat.le_of_ble_eq_true rfl), (Nat.le_of_ble_eq_true rfl), rfl⟩ (⟨_, _, rfl, congrArg Prod.fst ((bkF1 hv)), rfl⟩) (cfS cf1) (Nat.le_of_ble_eq_true rfl) ?_
  exact V_iret dX6_editionOf_8 rfl rfl (⟨rfl, rfl⟩)
theorem k_X6_editionOf_x {g : G0} {j : Nat → Nat → Int64} (d : Nat) {i : Nat → Nat → Int32} {x : Int32} (h : ¬ foq x)  : C g m_X6_editionOf (d + 7) 1 6 false [.ref 0, .int x] (mk i j) (thrs "java/lang/IndexOutOfBoundsException" (mk i j)) := by
  refine C_of (L := [some (.ref 0), some (.int x)]) rfl ?_
  refine L_aload_n_0 dX6_editionOf_0 ?_
  refine L_iload_n_1 dX6_editionOf_1 ?_
  exact U_cX2 (lkX_RX6_148 rfl dX6_editionOf_2) (k_X6_followerNumbered_x _ h) ⟨pn_X6_followerNumbered, rfl, (Nat.le_of_ble_eq_true rfl), (Nat.le_of_ble_eq_true rfl), rfl⟩ (⟨_, _, rfl, rfl, rfl⟩) (cfS cf6) (Nat.le_of_ble_eq_true rfl) rfl ⟨rfl, rfl⟩
theorem k_X6_streets {g : G0} {j : Nat → Nat → Int64} (d : Nat) {i : Nat → Nat → Int32} {v : Nat} (hv : v < 4)  : C g m_X6_streets (d + 2) 0 0 false [.ref 0, .int (nI v)] (mk i j) (rets (some (.int (if i (9 + v) 0 = 0 then -1 else bcI (i (9 + v) 1)))) (mk i j)) := by
  refine C_of (L := [some (.ref 0), some (.int (nI v))]) rfl ?_
  refine L_aload_n_0 dX6_streets_0 ?_
  refine L_iload_n_1 dX6_streets_1 ?_
  refine U_cv2 (d := d + 1) (lkR_RX6_148 rfl dX6_streets_2) (k_X6_followerNumbered _ hv) ⟨pn_X6_followerNumbered, rfl, (Nat.le_of_ble_eq_true rfl), (Nat.le_of_ble_eq_true rfl), rfl⟩ (⟨_, _, rfl, rfl, rfl⟩) (cfS cf6) (Nat.le_of_ble_eq_true rfl) ?_
  refine U_cv1 (d := d + 1) (lkR_RX6_174 rfl dX6_streets_5) (k_X1_sizeOrNone _ (bkF1 hv)) ⟨pn_X1_sizeOrNone, rfl, (Nat.le_of_ble_eq_true rfl), (Nat.le_of_ble_eq_true rfl), rfl⟩ (⟨_, _, rfl, congrArg Prod.fst ((bkF1 hv)), rfl⟩) (cfS cf1) (Nat.le_of_ble_eq_true rfl) ?_
  exact V_iret dX6_streets_8 rfl rfl (⟨rfl, rfl⟩)
theorem k_X6_streets_x {g : G0} {j : Nat → Nat → Int64} (d : Nat) {i : Nat → Nat → Int32} {x : Int32} (h : ¬ foq x)  : C g m_X6_streets (d + 7) 1 6 false [.ref 0, .int x] (mk i j) (thrs "java/lang/IndexOutOfBoundsException" (mk i j)) := by
  refine C_of (L := [some (.ref 0), some (.int x)]) rfl ?_
  refine L_aload_n_0 dX6_streets_0 ?_
  refine L_iload_n_1 dX6_streets_1 ?_
  exact U_cX2 (lkX_RX6_148 rfl dX6_streets_2) (k_X6_followerNumbered_x _ h) ⟨pn_X6_followerNumbered, rfl, (Nat.le_of_ble_eq_true rfl), (Nat.le_of_ble_eq_true rfl), rfl⟩ (⟨_, _, rfl, rfl, rfl⟩) (cfS cf6) (Nat.le_of_ble_eq_true rfl) rfl ⟨rfl, rfl⟩
theorem k_X6_attention {g : G0} {j : Nat → Nat → Int64} (d : Nat) {i : Nat → Nat → Int32} {v : Nat} (hv : v < 4)  : C g m_X6_attention (d + 2) 0 0 false [.ref 0, .int (nI v)] (mk i j) (rets (some (.int ((if i (9 + v) 4 = 0 then 0 else 1) + (if i (9 + v) 3 = 0 then 0 else 2)))) (mk i j)) := by
  refine C_of (L := [some (.ref 0), some (.int (nI v))]) rfl ?_
  refine L_aload_n_0 dX6_attention_0 ?_
  refine L_iload_n_1 dX6_attention_1 ?_
  refine U_cv2 (d := d + 1) (lkR_RX6_148 rfl dX6_attention_2) (k_X6_followerNumbered _ hv) ⟨pn_X6_followerNumbered, rfl, (Nat.le_of_ble_eq_true rfl), (Nat.le_of_ble_eq_true rfl), rfl⟩ (⟨_, _, rfl, rfl, rfl⟩) (cfS cf6) (Nat.le_of_ble_eq_true rfl) ?_
  refine U_cv1 (d := d + 1) (lkR_RX6_189 rfl dX6_attention_5) (k_X1_attentionNumber _ (bkF1 hv)) ⟨pn_X1_attentionNumber, rfl, (Nat.le_of_ble_eq_true rfl), (Nat.le_of_ble_eq_true rfl), rfl⟩ (⟨_, _, rfl, congrArg Prod.fst ((bkF1 hv)), rfl⟩) (cfS cf1) (Nat.le_of_ble_eq_true rfl) ?_
  exact V_iret dX6_attention_8 rfl rfl (⟨rfl, rfl⟩)
theorem k_X6_attention_x {g : G0} {j : Nat → Nat → Int64} (d : Nat) {i : Nat → Nat → Int32} {x : Int32} (h : ¬ foq x)  : C g m_X6_attention (d + 7) 1 6 false [.ref 0, .int x] (mk i j) (thrs "java/lang/IndexOutOfBoundsException" (mk i j)) := by
  refine C_of (L := [some (.ref 0), some (.int x)]) rfl ?_
  refine L_aload_n_0 dX6_attention_0 ?_
  refine L_iload_n_1 dX6_attention_1 ?_
  exact U_cX2 (lkX_RX6_148 rfl dX6_attention_2) (k_X6_followerNumbered_x _ h) ⟨pn_X6_followerNumbered, rfl, (Nat.le_of_ble_eq_true rfl), (Nat.le_of_ble_eq_true rfl), rfl⟩ (⟨_, _, rfl, rfl, rfl⟩) (cfS cf6) (Nat.le_of_ble_eq_true rfl) rfl ⟨rfl, rfl⟩
theorem k_X6_costs {g : G0} {j : Nat → Nat → Int64} (d : Nat) {i : Nat → Nat → Int32} {v : Nat} (hv : v < 4)  : C g m_X6_costs (d + 2) 0 0 false [.ref 0, .int (nI v)] (mk i j) (rets (some (.int (i (9 + v) 5))) (mk i j)) := by
  refine C_of (L := [some (.ref 0), some (.int (nI v))]) rfl ?_
  refine L_aload_n_0 dX6_costs_0 ?_
  refine L_iload_n_1 dX6_costs_1 ?_
  refine U_cv2 (d := d + 1) (lkR_RX6_148 rfl dX6_costs_2) (k_X6_followerNumbered _ hv) ⟨pn_X6_followerNumbered, rfl, (Nat.le_of_ble_eq_true rfl), (Nat.le_of_ble_eq_true rfl), rfl⟩ (⟨_, _, rfl, rfl, rfl⟩) (cfS cf6) (Nat.le_of_ble_eq_true rfl) ?_
  refine U_getI dX6_costs_5 fl_RX6_192 (bkF1 hv) rfl ?_
  exact V_iret dX6_costs_8 rfl rfl (⟨rfl, rfl⟩)
theorem k_X6_costs_x {g : G0} {j : Nat → Nat → Int64} (d : Nat) {i : Nat → Nat → Int32} {x : Int32} (h : ¬ foq x)  : C g m_X6_costs (d + 7) 1 6 false [.ref 0, .int x] (mk i j) (thrs "java/lang/IndexOutOfBoundsException" (mk i j)) := by
  refine C_of (L := [some (.ref 0), some (.int x)]) rfl ?_
  refine L_aload_n_0 dX6_costs_0 ?_
  refine L_iload_n_1 dX6_costs_1 ?_
  exact U_cX2 (lkX_RX6_148 rfl dX6_costs_2) (k_X6_followerNumbered_x _ h) ⟨pn_X6_followerNumbered, rfl, (Nat.le_of_ble_eq_true rfl), (Nat.le_of_ble_eq_true rfl), rfl⟩ (⟨_, _, rfl, rfl, rfl⟩) (cfS cf6) (Nat.le_of_ble_eq_true rfl) rfl ⟨rfl, rfl⟩
theorem k_X6_answer {g : G0} {j : Nat → Nat → Int64} (d : Nat) {i : Nat → Nat → Int32} {v : Nat} (hv : v < 4) {c : Nat} (hc : i 3 5 = nI c) (h6 : c ≤ 6)  : C g m_X6_answer (d + 3) 0 0 false [.ref 0, .int (nI v)] (mk i j) (rets (some (.int (ans i (9 + v) c))) (mk i j)) := by
  refine C_of (L := [some (.ref 0), some (.int (nI v))]) rfl ?_
  refine L_aload_n_0 dX6_answer_0 ?_
  refine U_getR (r := 1) dX6_answer_1 fl_RX6_10 rfl rfl rfl ?_
  refine U_getR (r := 2) dX6_answer_4 fl_RX6_34 rfl rfl rfl ?_
  refine L_aload_n_0 dX6_answer_7 ?_
  refine L_iload_n_1 dX6_answer_8 ?_
  refine U_cv2 (d := d + 2) (lkR_RX6_148 rfl dX6_answer_9) (k_X6_followerNumbered _ hv) ⟨pn_X6_followerNumbered, rfl, (Nat.le_of_ble_eq_true rfl), (Nat.le_of_ble_eq_true rfl), rfl⟩ (⟨_, _, rfl, rfl, rfl⟩) (cfS cf6) (Nat.le_of_ble_eq_true rfl) ?_
  refine U_cv2 (d := d + 2) (lkR_RX6_195 rfl dX6_answer_12) (k_X3_answerTo _ hc h6 (bkF1 hv)) ⟨pn_X3_answerTo, rfl, (Nat.le_of_ble_eq_true rfl), (Nat.le_of_ble_eq_true rfl), rfl⟩ (⟨_, _, rfl, rfl, rfl⟩) (cfS cf3) (Nat.le_of_ble_eq_true rfl) ?_
  exact V_iret dX6_answer_15 rfl rfl (⟨rfl, rfl⟩)
theorem k_X6_answer_x {g : G0} {j : Nat → Nat → Int64} (d : Nat) {i : Nat → Nat → Int32} {x : Int32} (h : ¬ foq x)  : C g m_X6_answer (d + 7) 1 6 false [.ref 0, .int x] (mk i j) (thrs "java/lang/IndexOutOfBoundsException" (mk i j)) := by
  refine C_of (L := [some (.ref 0), some (.int x)]) rfl ?_
  refine L_aload_n_0 dX6_answer_0 ?_
  refine U_getR (r := 1) dX6_answer_1 fl_RX6_10 rfl rfl rfl ?_
  refine U_getR (r := 2) dX6_answer_4 fl_RX6_34 rfl rfl rfl ?_
  refine L_aload_n_0 dX6_answer_7 ?_
  refine L_iload_n_1 dX6_answer_8 ?_
  exact U_cX2 (lkX_RX6_148 rfl dX6_answer_9) (k_X6_followerNumbered_x _ h) ⟨pn_X6_followerNumbered, rfl, (Nat.le_of_ble_eq_true rfl), (Nat.le_of_ble_eq_true rfl), rfl⟩ (⟨_, _, rfl, rfl, rfl⟩) (cfS cf6) (Nat.le_of_ble_eq_true rfl) rfl ⟨rfl, rfl⟩
theorem k_X6_costToCome {g : G0} {j : Nat → Nat → Int64} (d : Nat) {i : Nat → Nat → Int32} {v : Nat} (hv : v < 4) {c : Nat} (hc : i 3 5 = nI c) (h6 : c ≤ 6)  : C g m_X6_costToCome (d + 4) 0 0 false [.ref 0, .int (nI v)] (mk i j) (rets (some (.int (coa i (ans i (9 + v) c) (i (9 + v) 2) c))) (mk i j)) := by
  refine C_of (L := [some (.ref 0), some (.int (nI v))]) rfl ?_
  refine L_aload_n_0 dX6_costToCome_0 ?_
  refine U_getR (r := 1) dX6_costToCome_1 fl_RX6_10 rfl rfl rfl ?_
  refine L_aload_n_0 dX6_costToCome_4 ?_
  refine L_iload_n_1 dX6_costToCome_5 ?_
  refine U_cv2 (d := d + 3) (lkR_RX6_148 rfl dX6_costToCome_6) (k_X6_followerNumbered _ hv) ⟨pn_X6_followerNumbered, rfl, (Nat.le_of_ble_eq_true rfl), (Nat.le_of_ble_eq_true rfl), rfl⟩ (⟨_, _, rfl, rfl, rfl⟩) (cfS cf6) (Nat.le_of_ble_eq_true rfl) ?_
  refine U_cv2 (d := d + 3) (lkR_RX6_198 rfl dX6_costToCome_9) (k_X5_nextCostOf _ hc h6 (bkF1 hv)) ⟨pn_X5_nextCostOf, rfl, (Nat.le_of_ble_eq_true rfl), (Nat.le_of_ble_eq_true rfl), rfl⟩ (⟨_, _, rfl, rfl, rfl⟩) (cfS cf5) (Nat.le_of_ble_eq_true rfl) ?_
  exact V_iret dX6_costToCome_12 rfl rfl (⟨rfl, rfl⟩)
theorem k_X6_costToCome_x {g : G0} {j : Nat → Nat → Int64} (d : Nat) {i : Nat → Nat → Int32} {x : Int32} (h : ¬ foq x)  : C g m_X6_costToCome (d + 7) 1 6 false [.ref 0, .int x] (mk i j) (thrs "java/lang/IndexOutOfBoundsException" (mk i j)) := by
  refine C_of (L := [some (.ref 0), some (.int x)]) rfl ?_
  refine L_aload_n_0 dX6_costToCome_0 ?_
  refine U_getR (r := 1) dX6_costToCome_1 fl_RX6_10 rfl rfl rfl ?_
  refine L_aload_n_0 dX6_costToCome_4 ?_
  refine L_iload_n_1 dX6_costToCome_5 ?_
  exact U_cX2 (lkX_RX6_148 rfl dX6_costToCome_6) (k_X6_followerNumbered_x _ h) ⟨pn_X6_followerNumbered, rfl, (Nat.le_of_ble_eq_true rfl), (Nat.le_of_ble_eq_true rfl), rfl⟩ (⟨_, _, rfl, rfl, rfl⟩) (cfS cf6) (Nat.le_of_ble_eq_true rfl) rfl ⟨rfl, rfl⟩
theorem k_X6_wrong {g : G0} {j : Nat → Nat → Int64} (d : Nat) {i : Nat → Nat → Int32} {v : Nat} (hv : v < 4)  : C g m_X6_wrong (d + 2) 0 0 false [.ref 0, .int (nI v)] (mk i j) (rets (some (.int (if i (9 + v) 0 = 0 then -1 else bcI (i (9 + v) 1 ^^^ i 2 1)))) (mk i j)) := by
  refine C_of (L := [some (.ref 0), some (.int (nI v))]) rfl ?_
  refine L_aload_n_0 dX6_wrong_0 ?_
  refine L_iload_n_1 dX6_wrong_1 ?_
  refine U_cv2 (d := d + 1) (lkR_RX6_148 rfl dX6_wrong_2) (k_X6_followerNumbered _ hv) ⟨pn_X6_followerNumbered, rfl, (Nat.le_of_ble_eq_true rfl), (Nat.le_of_ble_eq_true rfl), rfl⟩ (⟨_, _, rfl, rfl, rfl⟩) (cfS cf6) (Nat.le_of_ble_eq_true rfl) ?_
  refine L_aload_n_0 dX6_wrong_5 ?_
  refine U_getR (r := 1) dX6_wrong_6 fl_RX6_10 rfl rfl rfl ?_
  refine U_getR (r := 2) dX6_wrong_9 fl_RX6_34 rfl rfl rfl ?_
  refine U_getI dX6_wrong_12 fl_RX6_120 rfl rfl ?_
  refine U_cv2 (d := d + 1) (lkR_RX6_186 rfl dX6_wrong_15) (k_X1_wrongOrNone _ (bkF1 hv)) ⟨pn_X1_wrongOrNone, rfl, (Nat.le_of_ble_eq_true rfl), (Nat.le_of_ble_eq_true rfl), rfl⟩ (⟨_, _, rfl, congrArg Prod.fst ((bkF1 hv)), rfl⟩) (cfS cf1) (Nat.le_of_ble_eq_true rfl) ?_
  exact V_iret dX6_wrong_18 rfl rfl (⟨rfl, rfl⟩)
theorem k_X6_wrong_x {g : G0} {j : Nat → Nat → Int64} (d : Nat) {i : Nat → Nat → Int32} {x : Int32} (h : ¬ foq x)  : C g m_X6_wrong (d + 7) 1 6 false [.ref 0, .int x] (mk i j) (thrs "java/lang/IndexOutOfBoundsException" (mk i j)) := by
  refine C_of (L := [some (.ref 0), some (.int x)]) rfl ?_
  refine L_aload_n_0 dX6_wrong_0 ?_
  refine L_iload_n_1 dX6_wrong_1 ?_
  exact U_cX2 (lkX_RX6_148 rfl dX6_wrong_2) (k_X6_followerNumbered_x _ h) ⟨pn_X6_followerNumbered, rfl, (Nat.le_of_ble_eq_true rfl), (Nat.le_of_ble_eq_true rfl), rfl⟩ (⟨_, _, rfl, rfl, rfl⟩) (cfS cf6) (Nat.le_of_ble_eq_true rfl) rfl ⟨rfl, rfl⟩
theorem k_X6_isRight {g : G0} {j : Nat → Nat → Int64} (d : Nat) {i : Nat → Nat → Int32} {v : Nat} (hv : v < 4)  : C g m_X6_isRight (d + 2) 0 0 false [.ref 0, .int (nI v)] (mk i j) (rets (some (.int (b2i ((if i (9 + v) 0 = 0 then -1 else bcI (i (9 + v) 1 ^^^ i 2 1)) = 0)))) (mk i j)) := by
  refine C_of (L := [some (.ref 0), some (.int (nI v))]) rfl ?_
  refine L_aload_n_0 dX6_isRight_0 ?_
  refine L_iload_n_1 dX6_isRight_1 ?_
  refine U_cv2 (d := d + 1) (lkR_RX6_148 rfl dX6_isRight_2) (k_X6_followerNumbered _ hv) ⟨pn_X6_followerNumbered, rfl, (Nat.le_of_ble_eq_true rfl), (Nat.le_of_ble_eq_true rfl), rfl⟩ (⟨_, _, rfl, rfl, rfl⟩) (cfS cf6) (Nat.le_of_ble_eq_true rfl) ?_
  refine L_aload_n_0 dX6_isRight_5 ?_
  refine U_getR (r := 1) dX6_isRight_6 fl_RX6_10 rfl rfl rfl ?_
  refine U_getR (r := 2) dX6_isRight_9 fl_RX6_34 rfl rfl rfl ?_
  refine U_getI dX6_isRight_12 fl_RX6_120 rfl rfl ?_
  refine U_cv2 (d := d + 1) (lkR_RX6_186 rfl dX6_isRight_15) (k_X1_wrongOrNone _ (bkF1 hv)) ⟨pn_X1_wrongOrNone, rfl, (Nat.le_of_ble_eq_true rfl), (Nat.le_of_ble_eq_true rfl), rfl⟩ (⟨_, _, rfl, congrArg Prod.fst ((bkF1 hv)), rfl⟩) (cfS cf1) (Nat.le_of_ble_eq_true rfl) ?_
  refine V_ifx_ne (tgt := 25) dX6_isRight_18 (by decide) (fun h18 => ?_) (fun h18 => ?_)
  · refine V_iconst (v := 0) (by decide) dX6_isRight_25 ?_
    exact V_iret dX6_isRight_26 rfl rfl (by rw [b2f h18]; exact ⟨rfl, rfl⟩)
  · refine V_iconst (v := 1) (by decide) dX6_isRight_21 ?_
    refine V_goto (tgt := 26) dX6_isRight_22 (by decide) ?_
    exact V_iret dX6_isRight_26 rfl rfl (by rw [b2t h18]; exact ⟨rfl, rfl⟩)
theorem k_X6_isRight_x {g : G0} {j : Nat → Nat → Int64} (d : Nat) {i : Nat → Nat → Int32} {x : Int32} (h : ¬ foq x)  : C g m_X6_isRight (d + 7) 1 6 false [.ref 0, .int x] (mk i j) (thrs "java/lang/IndexOutOfBoundsException" (mk i j)) := by
  refine C_of (L := [some (.ref 0), some (.int x)]) rfl ?_
  refine L_aload_n_0 dX6_isRight_0 ?_
  refine L_iload_n_1 dX6_isRight_1 ?_
  exact U_cX2 (lkX_RX6_148 rfl dX6_isRight_2) (k_X6_followerNumbered_x _ h) ⟨pn_X6_followerNumbered, rfl, (Nat.le_of_ble_eq_true rfl), (Nat.le_of_ble_eq_true rfl), rfl⟩ (⟨_, _, rfl, rfl, rfl⟩) (cfS cf6) (Nat.le_of_ble_eq_true rfl) rfl ⟨rfl, rfl⟩
theorem k_X6_has {g : G0} {j : Nat → Nat → Int64} (d : Nat) {i : Nat → Nat → Int32} {v : Nat} (hv : v < 4) {x : Int32} (h : stq x)  : C g m_X6_has (d + 2) 0 0 false [.ref 0, .int (nI v), .int x] (mk i j) (rets (some (.int (b2i (¬ bit (i (9 + v) 1) x = 0)))) (mk i j)) := by
  refine C_of (L := [some (.ref 0), some (.int (nI v)), some (.int x)]) rfl ?_
  refine L_iload_n_2 dX6_has_0 ?_
  refine U_cV1 (d := d + 1) (lkR_RX6_30 rfl dX6_has_1) (k_X6_needStreet _ h) ⟨pn_X6_needStreet, rfl, (Nat.le_of_ble_eq_true rfl), (Nat.le_of_ble_eq_true rfl), rfl⟩ (trivial) cfn (Nat.le_of_ble_eq_true rfl) ?_
  refine L_aload_n_0 dX6_has_4 ?_
  refine L_iload_n_1 dX6_has_5 ?_
  refine U_cv2 (d := d + 1) (lkR_RX6_148 rfl dX6_has_6) (k_X6_followerNumbered _ hv) ⟨pn_X6_followerNumbered, rfl, (Nat.le_of_ble_eq_true rfl), (Nat.le_of_ble_eq_true rfl), rfl⟩ (⟨_, _, rfl, rfl, rfl⟩) (cfS cf6) (Nat.le_of_ble_eq_true rfl) ?_
  refine L_iload_n_2 dX6_has_9 ?_
  refine U_cv2 (d := d + 1) (lkR_RX6_183 rfl dX6_has_10) (k_X1_knows _ (bkF1 hv)) ⟨pn_X1_knows, rfl, (Nat.le_of_ble_eq_true rfl), (Nat.le_of_ble_eq_true rfl), rfl⟩ (⟨_, _, rfl, congrArg Prod.fst ((bkF1 hv)), rfl⟩) (cfS cf1) (Nat.le_of_ble_eq_true rfl) ?_
  exact V_iret dX6_has_13 rfl b2n (⟨rfl, rfl⟩)
theorem k_X6_has_x {g : G0} {j : Nat → Nat → Int64} (d : Nat) {i : Nat → Nat → Int32} {u x : Int32} (h : ¬ stq x)  : C g m_X6_has (d + 7) 1 6 false [.ref 0, .int u, .int x] (mk i j) (thrs "java/lang/IndexOutOfBoundsException" (mk i j)) := by
  refine C_of (L := [some (.ref 0), some (.int u), some (.int x)]) rfl ?_
  refine L_iload_n_2 dX6_has_0 ?_
  exact U_cX1 (lkX_RX6_30 rfl dX6_has_1) (k_X6_needStreet_x _ h) ⟨pn_X6_needStreet, rfl, (Nat.le_of_ble_eq_true rfl), (Nat.le_of_ble_eq_true rfl), rfl⟩ (trivial) cfn (Nat.le_of_ble_eq_true rfl) rfl ⟨rfl, rfl⟩
theorem k_X6_has_y {g : G0} {j : Nat → Nat → Int64} (d : Nat) {i : Nat → Nat → Int32} {u x : Int32} (hs : stq x) (h : ¬ foq u)  : C g m_X6_has (d + 7) 1 6 false [.ref 0, .int u, .int x] (mk i j) (thrs "java/lang/IndexOutOfBoundsException" (mk i j)) := by
  refine C_of (L := [some (.ref 0), some (.int u), some (.int x)]) rfl ?_
  refine L_iload_n_2 dX6_has_0 ?_
  refine U_cV1 (d := d + 6) (lkR_RX6_30 rfl dX6_has_1) (k_X6_needStreet _ hs) ⟨pn_X6_needStreet, rfl, (Nat.le_of_ble_eq_true rfl), (Nat.le_of_ble_eq_true rfl), rfl⟩ (trivial) cfn (Nat.le_of_ble_eq_true rfl) ?_
  refine L_aload_n_0 dX6_has_4 ?_
  refine L_iload_n_1 dX6_has_5 ?_
  exact U_cX2 (lkX_RX6_148 rfl dX6_has_6) (k_X6_followerNumbered_x _ h) ⟨pn_X6_followerNumbered, rfl, (Nat.le_of_ble_eq_true rfl), (Nat.le_of_ble_eq_true rfl), rfl⟩ (⟨_, _, rfl, rfl, rfl⟩) (cfS cf6) (Nat.le_of_ble_eq_true rfl) rfl ⟨rfl, rfl⟩
theorem k_X6_compare {g : G0} {j : Nat → Nat → Int64} (d : Nat) {i : Nat → Nat → Int32} {a b : Int32} (ha : edq a) (hb : edq b)  : C g m_X6_compare (d + 1) 0 0 false [.ref 0, .int a, .int b] (mk i j) (rets (some (.int (if a = b then 0 else if nwr a b then 1 else -1))) (mk i j)) := by
  refine C_of (L := [some (.ref 0), some (.int a), some (.int b)]) rfl ?_
  refine L_iload_n_1 dX6_compare_0 ?_
  refine U_cv1 (d := d + 0) (lkR_RX6_139 rfl dX6_compare_1) (k_X6_isEdition _) ⟨pn_X6_isEdition, rfl, (Nat.le_of_ble_eq_true rfl), (Nat.le_of_ble_eq_true rfl), rfl⟩ (trivial) cfn (Nat.le_of_ble_eq_true rfl) ?_
  refine V_ifx_eq (tgt := 14) dX6_compare_4 (by decide) (fun h4 => ?_) (fun h4 => ?_)
  · exact absurd ha (b2z.mp h4)
  · refine L_iload_n_2 dX6_compare_7 ?_
    refine U_cv1 (d := d + 0) (lkR_RX6_139 rfl dX6_compare_8) (k_X6_isEdition _) ⟨pn_X6_isEdition, rfl, (Nat.le_of_ble_eq_true rfl), (Nat.le_of_ble_eq_true rfl), rfl⟩ (trivial) cfn (Nat.le_of_ble_eq_true rfl) ?_
    refine V_ifx_ne (tgt := 24) dX6_compare_11 (by decide) (fun h11 => ?_) (fun h11 => ?_)
    · refine L_iload_n_1 dX6_compare_24 ?_
      refine L_iload_n_2 dX6_compare_25 ?_
      refine V_icmp_ne (tgt := 31) dX6_compare_26 (by decide) (fun h26 => ?_) (fun h26 => ?_)
      · refine L_iload_n_1 dX6_compare_31 ?_
        refine L_iload_n_2 dX6_compare_32 ?_
        refine U_cv2 (d := d + 0) (lkR_RX6_144 rfl dX6_compare_33) (k_X6_isNewer _) ⟨pn_X6_isNewer, rfl, (Nat.le_of_ble_eq_true rfl), (Nat.le_of_ble_eq_true rfl), rfl⟩ (trivial) cfn (Nat.le_of_ble_eq_true rfl) ?_
        refine V_ifx_eq (tgt := 43) dX6_compare_36 (by decide) (fun h36 => ?_) (fun h36 => ?_)
        · refine V_iconst (v := (-1)) (by decide) dX6_compare_43 ?_
          exact V_iret dX6_compare_44 rfl rfl (by rw [if_neg h26, if_neg (b2z.mp h36)]; exact ⟨rfl, rfl⟩)
        · refine V_iconst (v := 1) (by decide) dX6_compare_39 ?_
          refine V_goto (tgt := 44) dX6_compare_40 (by decide) ?_
          exact V_iret dX6_compare_44 rfl rfl (by rw [if_neg h26, if_pos (b2p h36)]; exact ⟨rfl, rfl⟩)
      · refine V_iconst (v := 0) (by decide) dX6_compare_29 ?_
        exact V_iret dX6_compare_30 rfl rfl (by rw [if_pos h26]; exact ⟨rfl, rfl⟩)
    · exact absurd hb (b2z.mp h11)
theorem k_X6_compare_x {g : G0} {j : Nat → Nat → Int64} (d : Nat) {i : Nat → Nat → Int32} {a b : Int32} (h : ¬ (edq a ∧ edq b))  : C g m_X6_compare (d + 7) 1 6 false [.ref 0, .int a, .int b] (mk i j) (thrs "java/lang/IllegalArgumentException" (mk i j)) := by
  refine C_of (L := [some (.ref 0), some (.int a), some (.int b)]) rfl ?_
  refine L_iload_n_1 dX6_compare_0 ?_
  refine U_cv1 (d := d + 6) (lkR_RX6_139 rfl dX6_compare_1) (k_X6_isEdition _) ⟨pn_X6_isEdition, rfl, (Nat.le_of_ble_eq_true rfl), (Nat.le_of_ble_eq_true rfl), rfl⟩ (trivial) cfn (Nat.le_of_ble_eq_true rfl) ?_
  refine V_ifx_eq (tgt := 14) dX6_compare_4 (by decide) (fun h4 => ?_) (fun h4 => ?_)
  · exact V_throw (E := "java/lang/IllegalArgumentException") (text := "an edition number is out of range") (by decide) cl_RX6_85 in_IllegalArgumentException (by decide) xa_89 (xh_89) dX6_compare_14 dX6_compare_17 dX6_compare_18 dX6_compare_20 dX6_compare_23 rfl (by omega) (Nat.le_of_ble_eq_true rfl) (⟨rfl, rfl⟩)
  · refine L_iload_n_2 dX6_compare_7 ?_
    refine U_cv1 (d := d + 6) (lkR_RX6_139 rfl dX6_compare_8) (k_X6_isEdition _) ⟨pn_X6_isEdition, rfl, (Nat.le_of_ble_eq_true rfl), (Nat.le_of_ble_eq_true rfl), rfl⟩ (trivial) cfn (Nat.le_of_ble_eq_true rfl) ?_
    refine V_ifx_ne (tgt := 24) dX6_compare_11 (by decide) (fun h11 => ?_) (fun h11 => ?_)
    · exact absurd ⟨b2p h4, b2p h11⟩ h
    · exact V_throw (E := "java/lang/IllegalArgumentException") (text := "an edition number is out of range") (by decide) cl_RX6_85 in_IllegalArgumentException (by decide) xa_89 (xh_89) dX6_compare_14 dX6_compare_17 dX6_compare_18 dX6_compare_20 dX6_compare_23 rfl (by omega) (Nat.le_of_ble_eq_true rfl) (⟨rfl, rfl⟩)
theorem k_X6_add {g : G0} {j : Nat → Nat → Int64} (d : Nat) {i : Nat → Nat → Int32} {v : Nat} (hv : v < 30) (hb : bit (i 2 0) (nI v) = 0) (hS : SVI i)  : C g m_X6_add (d + 4) 0 0 false [.ref 0, .int (nI v)] (mk i j) (rets (some (.int (bcI (doO (svI i) 43 v 2 0)))) (mk (doO (svI i) 43 v) j)) := by
  refine C_of (L := [some (.ref 0), some (.int (nI v))]) rfl ?_
  refine L_iload_n_1 dX6_add_0 ?_
  refine U_cV1 (d := d + 3) (lkR_RX6_30 rfl dX6_add_1) (k_X6_needStreet _ (stq_nI hv)) ⟨pn_X6_needStreet, rfl, (Nat.le_of_ble_eq_true rfl), (Nat.le_of_ble_eq_true rfl), rfl⟩ (trivial) cfn (Nat.le_of_ble_eq_true rfl) ?_
  refine L_aload_n_0 dX6_add_4 ?_
  refine U_getR (r := 1) dX6_add_5 fl_RX6_10 rfl rfl rfl ?_
  refine U_getR (r := 2) dX6_add_8 fl_RX6_34 rfl rfl rfl ?_
  refine L_iload_n_1 dX6_add_11 ?_
  refine U_cv2 (d := d + 3) (lkR_RX6_38 rfl dX6_add_12) (k_X3_mayAdd _) ⟨pn_X3_mayAdd, rfl, (Nat.le_of_ble_eq_true rfl), (Nat.le_of_ble_eq_true rfl), rfl⟩ (⟨_, _, rfl, rfl, rfl⟩) (cfS cf3) (Nat.le_of_ble_eq_true rfl) ?_
  refine V_ifx_ne (tgt := 28) dX6_add_15 (by decide) (fun h15 => ?_) (fun h15 => ?_)
  · refine L_aload_n_0 dX6_add_28 ?_
    refine U_getR (r := 13) dX6_add_29 fl_RX6_19 rfl rfl rfl ?_
    refine L_aload_n_0 dX6_add_32 ?_
    refine U_getR (r := 1) dX6_add_33 fl_RX6_10 rfl rfl rfl ?_
    refine U_cV2 (d := d + 3) (lkR_RX6_51 rfl dX6_add_36) (k_sv _ hS) ⟨pn_X4_save, rfl, (Nat.le_of_ble_eq_true rfl), (Nat.le_of_ble_eq_true rfl), rfl⟩ (⟨_, _, rfl, rfl, rfl⟩) (cfS cf4) (Nat.le_of_ble_eq_true rfl) ?_
    refine L_aload_n_0 dX6_add_39 ?_
    refine U_getR (r := 1) dX6_add_40 fl_RX6_10 rfl rfl rfl ?_
    refine U_getR (r := 2) dX6_add_43 fl_RX6_34 rfl rfl rfl ?_
    refine L_iload_n_1 dX6_add_46 ?_
    refine U_cV2 (d := d + 3) (lkR_RX6_55 rfl dX6_add_47) (k_X3_addToDraft _) ⟨pn_X3_addToDraft, rfl, (Nat.le_of_ble_eq_true rfl), (Nat.le_of_ble_eq_true rfl), rfl⟩ (⟨_, _, rfl, rfl, rfl⟩) (cfS cf3) (Nat.le_of_ble_eq_true rfl) ?_
    refine L_aload_n_0 dX6_add_50 ?_
    refine U_cv1 (d := d + 3) (lkR_RX6_58 rfl dX6_add_51) (k_X6_draft _) ⟨pn_X6_draft, rfl, (Nat.le_of_ble_eq_true rfl), (Nat.le_of_ble_eq_true rfl), rfl⟩ (⟨_, _, rfl, rfl, rfl⟩) (cfS cf6) (Nat.le_of_ble_eq_true rfl) ?_
    exact V_iret dX6_add_54 rfl rfl (⟨rfl, rfl⟩)
  · exact absurd ⟨stq_nI hv, hb⟩ (b2z.mp h15)
theorem k_X6_add_x {g : G0} {j : Nat → Nat → Int64} (d : Nat) {i : Nat → Nat → Int32} {x : Int32} (h : ¬ stq x)  : C g m_X6_add (d + 7) 1 6 false [.ref 0, .int x] (mk i j) (thrs "java/lang/IndexOutOfBoundsException" (mk i j)) := by
  refine C_of (L := [some (.ref 0), some (.int x)]) rfl ?_
  refine L_iload_n_1 dX6_add_0 ?_
  exact U_cX1 (lkX_RX6_30 rfl dX6_add_1) (k_X6_needStreet_x _ h) ⟨pn_X6_needStreet, rfl, (Nat.le_of_ble_eq_true rfl), (Nat.le_of_ble_eq_true rfl), rfl⟩ (trivial) cfn (Nat.le_of_ble_eq_true rfl) rfl ⟨rfl, rfl⟩
theorem k_X6_add_y {g : G0} {j : Nat → Nat → Int64} (d : Nat) {i : Nat → Nat → Int32} {v : Nat} (hv : v < 30) (hb : ¬ (bit (i 2 0) (nI v) = 0))  : C g m_X6_add (d + 7) 1 6 false [.ref 0, .int (nI v)] (mk i j) (thrs "java/lang/IllegalStateException" (mk i j)) := by
  refine C_of (L := [some (.ref 0), some (.int (nI v))]) rfl ?_
  refine L_iload_n_1 dX6_add_0 ?_
  refine U_cV1 (d := d + 6) (lkR_RX6_30 rfl dX6_add_1) (k_X6_needStreet _ (stq_nI hv)) ⟨pn_X6_needStreet, rfl, (Nat.le_of_ble_eq_true rfl), (Nat.le_of_ble_eq_true rfl), rfl⟩ (trivial) cfn (Nat.le_of_ble_eq_true rfl) ?_
  refine L_aload_n_0 dX6_add_4 ?_
  refine U_getR (r := 1) dX6_add_5 fl_RX6_10 rfl rfl rfl ?_
  refine U_getR (r := 2) dX6_add_8 fl_RX6_34 rfl rfl rfl ?_
  refine L_iload_n_1 dX6_add_11 ?_
  refine U_cv2 (d := d + 6) (lkR_RX6_38 rfl dX6_add_12) (k_X3_mayAdd _) ⟨pn_X3_mayAdd, rfl, (Nat.le_of_ble_eq_true rfl), (Nat.le_of_ble_eq_true rfl), rfl⟩ (⟨_, _, rfl, rfl, rfl⟩) (cfS cf3) (Nat.le_of_ble_eq_true rfl) ?_
  refine V_ifx_ne (tgt := 28) dX6_add_15 (by decide) (fun h15 => ?_) (fun h15 => ?_)
  · exact absurd (b2p h15).2 hb
  · exact V_throw (E := "java/lang/IllegalStateException") (text := "the street is in the draft") (by decide) cl_RX6_44 in_IllegalStateException (by decide) xa_48 (xh_48) dX6_add_18 dX6_add_21 dX6_add_22 dX6_add_24 dX6_add_27 rfl (by omega) (Nat.le_of_ble_eq_true rfl) (⟨rfl, rfl⟩)
theorem k_X6_crossOut {g : G0} {j : Nat → Nat → Int64} (d : Nat) {i : Nat → Nat → Int32} {v : Nat} (hv : v < 30) (hb : ¬ bit (i 2 0) (nI v) = 0) (hS : SVI i)  : C g m_X6_crossOut (d + 4) 0 0 false [.ref 0, .int (nI v)] (mk i j) (rets (some (.int (bcI (doO (svI i) 45 v 2 0)))) (mk (doO (svI i) 45 v) j)) := by
  refine C_of (L := [some (.ref 0), some (.int (nI v))]) rfl ?_
  refine L_iload_n_1 dX6_crossOut_0 ?_
  refine U_cV1 (d := d + 3) (lkR_RX6_30 rfl dX6_crossOut_1) (k_X6_needStreet _ (stq_nI hv)) ⟨pn_X6_needStreet, rfl, (Nat.le_of_ble_eq_true rfl), (Nat.le_of_ble_eq_true rfl), rfl⟩ (trivial) cfn (Nat.le_of_ble_eq_true rfl) ?_
  refine L_aload_n_0 dX6_crossOut_4 ?_
  refine U_getR (r := 1) dX6_crossOut_5 fl_RX6_10 rfl rfl rfl ?_
  refine U_getR (r := 2) dX6_crossOut_8 fl_RX6_34 rfl rfl rfl ?_
  refine L_iload_n_1 dX6_crossOut_11 ?_
  refine U_cv2 (d := d + 3) (lkR_RX6_62 rfl dX6_crossOut_12) (k_X3_mayCrossOut _) ⟨pn_X3_mayCrossOut, rfl, (Nat.le_of_ble_eq_true rfl), (Nat.le_of_ble_eq_true rfl), rfl⟩ (⟨_, _, rfl, rfl, rfl⟩) (cfS cf3) (Nat.le_of_ble_eq_true rfl) ?_
  refine V_ifx_ne (tgt := 28) dX6_crossOut_15 (by decide) (fun h15 => ?_) (fun h15 => ?_)
  · refine L_aload_n_0 dX6_crossOut_28 ?_
    refine U_getR (r := 13) dX6_crossOut_29 fl_RX6_19 rfl rfl rfl ?_
    refine L_aload_n_0 dX6_crossOut_32 ?_
    refine U_getR (r := 1) dX6_crossOut_33 fl_RX6_10 rfl rfl rfl ?_
    refine U_cV2 (d := d + 3) (lkR_RX6_51 rfl dX6_crossOut_36) (k_sv _ hS) ⟨pn_X4_save, rfl, (Nat.le_of_ble_eq_true rfl), (Nat.le_of_ble_eq_true rfl), rfl⟩ (⟨_, _, rfl, rfl, rfl⟩) (cfS cf4) (Nat.le_of_ble_eq_true rfl) ?_
    refine L_aload_n_0 dX6_crossOut_39 ?_
    refine U_getR (r := 1) dX6_crossOut_40 fl_RX6_10 rfl rfl rfl ?_
    refine U_getR (r := 2) dX6_crossOut_43 fl_RX6_34 rfl rfl rfl ?_
    refine L_iload_n_1 dX6_crossOut_46 ?_
    refine U_cV2 (d := d + 3) (lkR_RX6_67 rfl dX6_crossOut_47) (k_X3_takeOutOfDraft _) ⟨pn_X3_takeOutOfDraft, rfl, (Nat.le_of_ble_eq_true rfl), (Nat.le_of_ble_eq_true rfl), rfl⟩ (⟨_, _, rfl, rfl, rfl⟩) (cfS cf3) (Nat.le_of_ble_eq_true rfl) ?_
    refine L_aload_n_0 dX6_crossOut_50 ?_
    refine U_cv1 (d := d + 3) (lkR_RX6_58 rfl dX6_crossOut_51) (k_X6_draft _) ⟨pn_X6_draft, rfl, (Nat.le_of_ble_eq_true rfl), (Nat.le_of_ble_eq_true rfl), rfl⟩ (⟨_, _, rfl, rfl, rfl⟩) (cfS cf6) (Nat.le_of_ble_eq_true rfl) ?_
    exact V_iret dX6_crossOut_54 rfl rfl (⟨rfl, rfl⟩)
  · exact absurd ⟨stq_nI hv, hb⟩ (b2z.mp h15)
theorem k_X6_crossOut_x {g : G0} {j : Nat → Nat → Int64} (d : Nat) {i : Nat → Nat → Int32} {x : Int32} (h : ¬ stq x)  : C g m_X6_crossOut (d + 7) 1 6 false [.ref 0, .int x] (mk i j) (thrs "java/lang/IndexOutOfBoundsException" (mk i j)) := by
  refine C_of (L := [some (.ref 0), some (.int x)]) rfl ?_
  refine L_iload_n_1 dX6_crossOut_0 ?_
  exact U_cX1 (lkX_RX6_30 rfl dX6_crossOut_1) (k_X6_needStreet_x _ h) ⟨pn_X6_needStreet, rfl, (Nat.le_of_ble_eq_true rfl), (Nat.le_of_ble_eq_true rfl), rfl⟩ (trivial) cfn (Nat.le_of_ble_eq_true rfl) rfl ⟨rfl, rfl⟩
theorem k_X6_crossOut_y {g : G0} {j : Nat → Nat → Int64} (d : Nat) {i : Nat → Nat → Int32} {v : Nat} (hv : v < 30) (hb : ¬ (¬ bit (i 2 0) (nI v) = 0))  : C g m_X6_crossOut (d + 7) 1 6 false [.ref 0, .int (nI v)] (mk i j) (thrs "java/lang/IllegalStateException" (mk i j)) := by
  refine C_of (L := [some (.ref 0), some (.int (nI v))]) rfl ?_
  refine L_iload_n_1 dX6_crossOut_0 ?_
  refine U_cV1 (d := d + 6) (lkR_RX6_30 rfl dX6_crossOut_1) (k_X6_needStreet _ (stq_nI hv)) ⟨pn_X6_needStreet, rfl, (Nat.le_of_ble_eq_true rfl), (Nat.le_of_ble_eq_true rfl), rfl⟩ (trivial) cfn (Nat.le_of_ble_eq_true rfl) ?_
  refine L_aload_n_0 dX6_crossOut_4 ?_
  refine U_getR (r := 1) dX6_crossOut_5 fl_RX6_10 rfl rfl rfl ?_
  refine U_getR (r := 2) dX6_crossOut_8 fl_RX6_34 rfl rfl rfl ?_
  refine L_iload_n_1 dX6_crossOut_11 ?_
  refine U_cv2 (d := d + 6) (lkR_RX6_62 rfl dX6_crossOut_12) (k_X3_mayCrossOut _) ⟨pn_X3_mayCrossOut, rfl, (Nat.le_of_ble_eq_true rfl), (Nat.le_of_ble_eq_true rfl), rfl⟩ (⟨_, _, rfl, rfl, rfl⟩) (cfS cf3) (Nat.le_of_ble_eq_true rfl) ?_
  refine V_ifx_ne (tgt := 28) dX6_crossOut_15 (by decide) (fun h15 => ?_) (fun h15 => ?_)
  · exact absurd (b2p h15).2 hb
  · exact V_throw (E := "java/lang/IllegalStateException") (text := "the street is not in the draft") (by decide) cl_RX6_44 in_IllegalStateException (by decide) xa_48 (xh_48) dX6_crossOut_18 dX6_crossOut_21 dX6_crossOut_22 dX6_crossOut_24 dX6_crossOut_27 rfl (by omega) (Nat.le_of_ble_eq_true rfl) (⟨rfl, rfl⟩)
theorem k_X6_publish {g : G0} {j : Nat → Nat → Int64} (d : Nat) {i : Nat → Nat → Int32} (hp : ¬ i 2 0 = i 2 1) (hS : SVI i) (hC : CI i)  : C g m_X6_publish (d + 4) 0 0 false [.ref 0] (mk i j) (rets (some (.int (doO (svI i) 112 0 2 2))) (mk (doO (svI i) 112 0) j)) := by
  refine C_of (L := [some (.ref 0)]) rfl ?_
  refine L_aload_n_0 dX6_publish_0 ?_
  refine U_getR (r := 1) dX6_publish_1 fl_RX6_10 rfl rfl rfl ?_
  refine U_getR (r := 2) dX6_publish_4 fl_RX6_34 rfl rfl rfl ?_
  refine U_cv1 (d := d + 3) (lkR_RX6_70 rfl dX6_publish_7) (k_X3_mayPublish _) ⟨pn_X3_mayPublish, rfl, (Nat.le_of_ble_eq_true rfl), (Nat.le_of_ble_eq_true rfl), rfl⟩ (⟨_, _, rfl, rfl, rfl⟩) (cfS cf3) (Nat.le_of_ble_eq_true rfl) ?_
  refine V_ifx_ne (tgt := 23) dX6_publish_10 (by decide) (fun h10 => ?_) (fun h10 => ?_)
  · refine L_aload_n_0 dX6_publish_23 ?_
    refine U_getR (r := 13) dX6_publish_24 fl_RX6_19 rfl rfl rfl ?_
    refine L_aload_n_0 dX6_publish_27 ?_
    refine U_getR (r := 1) dX6_publish_28 fl_RX6_10 rfl rfl rfl ?_
    refine U_cV2 (d := d + 3) (lkR_RX6_51 rfl dX6_publish_31) (k_sv _ hS) ⟨pn_X4_save, rfl, (Nat.le_of_ble_eq_true rfl), (Nat.le_of_ble_eq_true rfl), rfl⟩ (⟨_, _, rfl, rfl, rfl⟩) (cfS cf4) (Nat.le_of_ble_eq_true rfl) ?_
    refine L_aload_n_0 dX6_publish_34 ?_
    refine U_getR (r := 1) dX6_publish_35 fl_RX6_10 rfl rfl rfl ?_
    refine U_cV1 (d := d + 3) (lkR_RX6_76 rfl dX6_publish_38) (k_X5_issueDraft _ (svI_CI hC hS.2.1).1 (by have := (svI_CI hC hS.2.1); unfold CI at this; omega) (svI_CI hC hS.2.1).2.2.2.2.1 (svI_CI hC hS.2.1).2.2.1 (svI_CI hC hS.2.1).2.2.2.1 (svI_CI hC hS.2.1).2.1 (svI_CI hC hS.2.1).2.2.2.2.2.1 (svI_CI hC hS.2.1).2.2.2.2.2.2) ⟨pn_X5_issueDraft, rfl, (Nat.le_of_ble_eq_true rfl), (Nat.le_of_ble_eq_true rfl), rfl⟩ (⟨_, _, rfl, rfl, rfl⟩) (cfS cf5) (Nat.le_of_ble_eq_true rfl) ?_
    refine L_aload_n_0 dX6_publish_41 ?_
    refine U_cv1 (d := d + 3) (lkR_RX6_79 rfl dX6_publish_42) (k_X6_edition _) ⟨pn_X6_edition, rfl, (Nat.le_of_ble_eq_true rfl), (Nat.le_of_ble_eq_true rfl), rfl⟩ (⟨_, _, rfl, rfl, rfl⟩) (cfS cf6) (Nat.le_of_ble_eq_true rfl) ?_
    exact V_iret dX6_publish_45 rfl rfl (⟨rfl, rfl⟩)
  · exact absurd hp (b2z.mp h10)
theorem k_X6_publish_x {g : G0} {j : Nat → Nat → Int64} (d : Nat) {i : Nat → Nat → Int32} (hp : ¬ ¬ i 2 0 = i 2 1)  : C g m_X6_publish (d + 7) 1 6 false [.ref 0] (mk i j) (thrs "java/lang/IllegalStateException" (mk i j)) := by
  refine C_of (L := [some (.ref 0)]) rfl ?_
  refine L_aload_n_0 dX6_publish_0 ?_
  refine U_getR (r := 1) dX6_publish_1 fl_RX6_10 rfl rfl rfl ?_
  refine U_getR (r := 2) dX6_publish_4 fl_RX6_34 rfl rfl rfl ?_
  refine U_cv1 (d := d + 6) (lkR_RX6_70 rfl dX6_publish_7) (k_X3_mayPublish _) ⟨pn_X3_mayPublish, rfl, (Nat.le_of_ble_eq_true rfl), (Nat.le_of_ble_eq_true rfl), rfl⟩ (⟨_, _, rfl, rfl, rfl⟩) (cfS cf3) (Nat.le_of_ble_eq_true rfl) ?_
  refine V_ifx_ne (tgt := 23) dX6_publish_10 (by decide) (fun h10 => ?_) (fun h10 => ?_)
  · exact absurd (b2p h10) hp
  · exact V_throw (E := "java/lang/IllegalStateException") (text := "the draft is the published list") (by decide) cl_RX6_44 in_IllegalStateException (by decide) xa_48 (xh_48) dX6_publish_13 dX6_publish_16 dX6_publish_17 dX6_publish_19 dX6_publish_22 rfl (by omega) (Nat.le_of_ble_eq_true rfl) (⟨rfl, rfl⟩)
theorem k_X6_renumber {g : G0} {j : Nat → Nat → Int64} (d : Nat) {i : Nat → Nat → Int32} {v : Nat} (hv : v < 16) (hne : ¬ nI v = i 2 2) (hS : SVI i)  : C g m_X6_renumber (d + 4) 0 0 false [.ref 0, .int (nI v)] (mk i j) (rets (some (.int (svI i 2 2))) (mk (doO (svI i) 110 v) j)) := by
  refine C_of (L := [some (.ref 0), some (.int (nI v)), none]) rfl ?_
  refine L_aload_n_0 dX6_renumber_0 ?_
  refine U_getR (r := 1) dX6_renumber_1 fl_RX6_10 rfl rfl rfl ?_
  refine U_getR (r := 2) dX6_renumber_4 fl_RX6_34 rfl rfl rfl ?_
  refine L_iload_n_1 dX6_renumber_7 ?_
  refine U_cv2 (d := d + 3) (lkR_RX6_82 rfl dX6_renumber_8) (k_X3_mayTakeNumber _) ⟨pn_X3_mayTakeNumber, rfl, (Nat.le_of_ble_eq_true rfl), (Nat.le_of_ble_eq_true rfl), rfl⟩ (⟨_, _, rfl, rfl, rfl⟩) (cfS cf3) (Nat.le_of_ble_eq_true rfl) ?_
  refine V_ifx_ne (tgt := 24) dX6_renumber_11 (by decide) (fun h11 => ?_) (fun h11 => ?_)
  · refine L_aload_n_0 dX6_renumber_24 ?_
    refine U_getR (r := 13) dX6_renumber_25 fl_RX6_19 rfl rfl rfl ?_
    refine L_aload_n_0 dX6_renumber_28 ?_
    refine U_getR (r := 1) dX6_renumber_29 fl_RX6_10 rfl rfl rfl ?_
    refine U_cV2 (d := d + 3) (lkR_RX6_51 rfl dX6_renumber_32) (k_sv _ hS) ⟨pn_X4_save, rfl, (Nat.le_of_ble_eq_true rfl), (Nat.le_of_ble_eq_true rfl), rfl⟩ (⟨_, _, rfl, rfl, rfl⟩) (cfS cf4) (Nat.le_of_ble_eq_true rfl) ?_
    refine L_aload_n_0 dX6_renumber_35 ?_
    refine U_cv1 (d := d + 3) (lkR_RX6_79 rfl dX6_renumber_36) (k_X6_edition _) ⟨pn_X6_edition, rfl, (Nat.le_of_ble_eq_true rfl), (Nat.le_of_ble_eq_true rfl), rfl⟩ (⟨_, _, rfl, rfl, rfl⟩) (cfS cf6) (Nat.le_of_ble_eq_true rfl) ?_
    refine V_istore_n_2 dX6_renumber_39 (Nat.le_of_ble_eq_true rfl) rfl ?_
    refine L_aload_n_0 dX6_renumber_40 ?_
    refine U_getR (r := 1) dX6_renumber_41 fl_RX6_10 rfl rfl rfl ?_
    refine L_iload_n_1 dX6_renumber_44 ?_
    refine U_cV2 (d := d + 3) (lkR_RX6_90 rfl dX6_renumber_45) (k_X5_takeNumber _) ⟨pn_X5_takeNumber, rfl, (Nat.le_of_ble_eq_true rfl), (Nat.le_of_ble_eq_true rfl), rfl⟩ (⟨_, _, rfl, rfl, rfl⟩) (cfS cf5) (Nat.le_of_ble_eq_true rfl) ?_
    refine L_iload_n_2 dX6_renumber_48 ?_
    exact V_iret dX6_renumber_49 rfl rfl (⟨rfl, rfl⟩)
  · exact absurd ⟨edq_nI hv, hne⟩ (b2z.mp h11)
theorem k_X6_renumber_x {g : G0} {j : Nat → Nat → Int64} (d : Nat) {i : Nat → Nat → Int32} {x : Int32} (h : ¬ (edq x ∧ ¬ x = i 2 2))  : C g m_X6_renumber (d + 7) 1 6 false [.ref 0, .int x] (mk i j) (thrs "java/lang/IllegalArgumentException" (mk i j)) := by
  refine C_of (L := [some (.ref 0), some (.int x), none]) rfl ?_
  refine L_aload_n_0 dX6_renumber_0 ?_
  refine U_getR (r := 1) dX6_renumber_1 fl_RX6_10 rfl rfl rfl ?_
  refine U_getR (r := 2) dX6_renumber_4 fl_RX6_34 rfl rfl rfl ?_
  refine L_iload_n_1 dX6_renumber_7 ?_
  refine U_cv2 (d := d + 6) (lkR_RX6_82 rfl dX6_renumber_8) (k_X3_mayTakeNumber _) ⟨pn_X3_mayTakeNumber, rfl, (Nat.le_of_ble_eq_true rfl), (Nat.le_of_ble_eq_true rfl), rfl⟩ (⟨_, _, rfl, rfl, rfl⟩) (cfS cf3) (Nat.le_of_ble_eq_true rfl) ?_
  refine V_ifx_ne (tgt := 24) dX6_renumber_11 (by decide) (fun h11 => ?_) (fun h11 => ?_)
  · exact absurd (b2p h11) h
  · exact V_throw (E := "java/lang/IllegalArgumentException") (text := "the edition is out of range or the present one") (by decide) cl_RX6_85 in_IllegalArgumentException (by decide) xa_89 (xh_89) dX6_renumber_14 dX6_renumber_17 dX6_renumber_18 dX6_renumber_20 dX6_renumber_23 rfl (by omega) (Nat.le_of_ble_eq_true rfl) (⟨rfl, rfl⟩)
theorem k_X6_setKeep {g : G0} {j : Nat → Nat → Int64} (d : Nat) {i : Nat → Nat → Int32} {m : Nat} (hm1 : 1 ≤ m) (hm : m ≤ 6) (hS : SVI i) (hC : CI i)  : C g m_X6_setKeep (d + 4) 0 0 false [.ref 0, .int (nI m)] (mk i j) (rets (some (.int (lim (svI i) (cN i) m 3 5))) (mk (lim (svI i) (cN i) m) j)) := by
  refine C_of (L := [some (.ref 0), some (.int (nI m))]) rfl ?_
  refine L_iload_n_1 dX6_setKeep_0 ?_
  refine V_iconst (v := 1) (by decide) dX6_setKeep_1 ?_
  refine V_icmp_lt (tgt := 11) dX6_setKeep_2 (by decide) (fun h2 => ?_) (fun h2 => ?_)
  · exact absurd ((nI_ltI (a := m) (b := 1) (by omega) (by omega)).mp h2) (by omega)
  · refine L_iload_n_1 dX6_setKeep_5 ?_
    refine V_bipush (v := 6) (by decide) dX6_setKeep_6 ?_
    refine V_icmp_le (tgt := 21) dX6_setKeep_8 (by decide) (fun h8 => ?_) (fun h8 => ?_)
    · refine L_aload_n_0 dX6_setKeep_21 ?_
      refine U_getR (r := 13) dX6_setKeep_22 fl_RX6_19 rfl rfl rfl ?_
      refine L_aload_n_0 dX6_setKeep_25 ?_
      refine U_getR (r := 1) dX6_setKeep_26 fl_RX6_10 rfl rfl rfl ?_
      refine U_cV2 (d := d + 3) (lkR_RX6_51 rfl dX6_setKeep_29) (k_sv _ hS) ⟨pn_X4_save, rfl, (Nat.le_of_ble_eq_true rfl), (Nat.le_of_ble_eq_true rfl), rfl⟩ (⟨_, _, rfl, rfl, rfl⟩) (cfS cf4) (Nat.le_of_ble_eq_true rfl) ?_
      refine L_aload_n_0 dX6_setKeep_32 ?_
      refine U_getR (r := 1) dX6_setKeep_33 fl_RX6_10 rfl rfl rfl ?_
      refine U_getR (r := 2) dX6_setKeep_36 fl_RX6_34 rfl rfl rfl ?_
      refine U_getR (r := 3) dX6_setKeep_39 fl_RX6_95 rfl rfl rfl ?_
      refine L_iload_n_1 dX6_setKeep_42 ?_
      refine U_cV2 (d := d + 3) (lkR_RX6_99 rfl dX6_setKeep_43) (k_X0_limitTo _ ((svI_oth (by omega) hS.2.1).trans hC.1) (by have := hC; unfold CI at this; omega) hm) ⟨pn_X0_limitTo, rfl, (Nat.le_of_ble_eq_true rfl), (Nat.le_of_ble_eq_true rfl), rfl⟩ (⟨_, _, rfl, rfl, rfl⟩) (cfS cf0) (Nat.le_of_ble_eq_true rfl) ?_
      refine L_aload_n_0 dX6_setKeep_46 ?_
      refine U_cv1 (d := d + 3) (lkR_RX6_104 rfl dX6_setKeep_47) (k_X6_kept _) ⟨pn_X6_kept, rfl, (Nat.le_of_ble_eq_true rfl), (Nat.le_of_ble_eq_true rfl), rfl⟩ (⟨_, _, rfl, rfl, rfl⟩) (cfS cf6) (Nat.le_of_ble_eq_true rfl) ?_
      exact V_iret dX6_setKeep_50 rfl rfl (⟨rfl, rfl⟩)
    · exact absurd ((nI_leI (a := m) (b := 6) (by omega) (by omega)).mpr hm) h8
theorem k_X6_setKeep_x {g : G0} {j : Nat → Nat → Int64} (d : Nat) {i : Nat → Nat → Int32} {x : Int32} (h : ¬ (¬ x < 1 ∧ x ≤ 6))  : C g m_X6_setKeep (d + 7) 1 6 false [.ref 0, .int x] (mk i j) (thrs "java/lang/IllegalArgumentException" (mk i j)) := by
  refine C_of (L := [some (.ref 0), some (.int x)]) rfl ?_
  refine L_iload_n_1 dX6_setKeep_0 ?_
  refine V_iconst (v := 1) (by decide) dX6_setKeep_1 ?_
  refine V_icmp_lt (tgt := 11) dX6_setKeep_2 (by decide) (fun h2 => ?_) (fun h2 => ?_)
  · exact V_throw (E := "java/lang/IllegalArgumentException") (text := "the count is out of range") (by decide) cl_RX6_85 in_IllegalArgumentException (by decide) xa_89 (xh_89) dX6_setKeep_11 dX6_setKeep_14 dX6_setKeep_15 dX6_setKeep_17 dX6_setKeep_20 rfl (by omega) (Nat.le_of_ble_eq_true rfl) (⟨rfl, rfl⟩)
  · refine L_iload_n_1 dX6_setKeep_5 ?_
    refine V_bipush (v := 6) (by decide) dX6_setKeep_6 ?_
    refine V_icmp_le (tgt := 21) dX6_setKeep_8 (by decide) (fun h8 => ?_) (fun h8 => ?_)
    · exact absurd ⟨h2, h8⟩ h
    · exact V_throw (E := "java/lang/IllegalArgumentException") (text := "the count is out of range") (by decide) cl_RX6_85 in_IllegalArgumentException (by decide) xa_89 (xh_89) dX6_setKeep_11 dX6_setKeep_14 dX6_setKeep_15 dX6_setKeep_17 dX6_setKeep_20 rfl (by omega) (Nat.le_of_ble_eq_true rfl) (⟨rfl, rfl⟩)
theorem k_X6_refresh {g : G0} {j : Nat → Nat → Int64} (d : Nat) {i : Nat → Nat → Int32} {v : Nat} (hv : v < 4) (ha : i (9 + v) 3 = 0) (hS : SVI i) (hC : CI i)  : C g m_X6_refresh (d + 4) 0 0 false [.ref 0, .int (nI v)] (mk i j) (rets (some (.int (ans (svI i) (9 + v) (cN i)))) (mk (bnI (svI i) (9 + v) (cN i)) j)) := by
  refine C_of (L := [some (.ref 0), some (.int (nI v)), none]) rfl ?_
  refine L_aload_n_0 dX6_refresh_0 ?_
  refine L_iload_n_1 dX6_refresh_1 ?_
  refine U_cv2 (d := d + 3) (lkR_RX6_148 rfl dX6_refresh_2) (k_X6_followerNumbered _ hv) ⟨pn_X6_followerNumbered, rfl, (Nat.le_of_ble_eq_true rfl), (Nat.le_of_ble_eq_true rfl), rfl⟩ (⟨_, _, rfl, rfl, rfl⟩) (cfS cf6) (Nat.le_of_ble_eq_true rfl) ?_
  refine V_astore_n_2 dX6_refresh_5 (Nat.le_of_ble_eq_true rfl) rfl ?_
  refine L_aload_n_2 dX6_refresh_6 ?_
  refine U_cV1 (d := d + 3) (lkR_RX6_152 rfl dX6_refresh_7) (k_X6_needAwake _ (bkF1 hv) ha) ⟨pn_X6_needAwake, rfl, (Nat.le_of_ble_eq_true rfl), (Nat.le_of_ble_eq_true rfl), rfl⟩ (trivial) cfn (Nat.le_of_ble_eq_true rfl) ?_
  refine L_aload_n_0 dX6_refresh_10 ?_
  refine U_getR (r := 13) dX6_refresh_11 fl_RX6_19 rfl rfl rfl ?_
  refine L_aload_n_0 dX6_refresh_14 ?_
  refine U_getR (r := 1) dX6_refresh_15 fl_RX6_10 rfl rfl rfl ?_
  refine U_cV2 (d := d + 3) (lkR_RX6_51 rfl dX6_refresh_18) (k_sv _ hS) ⟨pn_X4_save, rfl, (Nat.le_of_ble_eq_true rfl), (Nat.le_of_ble_eq_true rfl), rfl⟩ (⟨_, _, rfl, rfl, rfl⟩) (cfS cf4) (Nat.le_of_ble_eq_true rfl) ?_
  refine L_aload_n_0 dX6_refresh_21 ?_
  refine U_getR (r := 1) dX6_refresh_22 fl_RX6_10 rfl rfl rfl ?_
  refine L_aload_n_2 dX6_refresh_25 ?_
  refine U_cv2 (d := d + 3) (lkR_RX6_156 rfl dX6_refresh_26) (k_X5_bringNews _ ((svI_oth (by omega) hS.2.1).trans hC.1) (by have := hC; unfold CI at this; omega) (bkF1 hv) (by omega)) ⟨pn_X5_bringNews, rfl, (Nat.le_of_ble_eq_true rfl), (Nat.le_of_ble_eq_true rfl), rfl⟩ (⟨_, _, rfl, rfl, rfl⟩) (cfS cf5) (Nat.le_of_ble_eq_true rfl) ?_
  exact V_iret dX6_refresh_29 rfl rfl (⟨rfl, rfl⟩)
theorem k_X6_refresh_x {g : G0} {j : Nat → Nat → Int64} (d : Nat) {i : Nat → Nat → Int32} {x : Int32} (h : ¬ foq x)  : C g m_X6_refresh (d + 7) 1 6 false [.ref 0, .int x] (mk i j) (thrs "java/lang/IndexOutOfBoundsException" (mk i j)) := by
  refine C_of (L := [some (.ref 0), some (.int x), none]) rfl ?_
  refine L_aload_n_0 dX6_refresh_0 ?_
  refine L_iload_n_1 dX6_refresh_1 ?_
  exact U_cX2 (lkX_RX6_148 rfl dX6_refresh_2) (k_X6_followerNumbered_x _ h) ⟨pn_X6_followerNumbered, rfl, (Nat.le_of_ble_eq_true rfl), (Nat.le_of_ble_eq_true rfl), rfl⟩ (⟨_, _, rfl, rfl, rfl⟩) (cfS cf6) (Nat.le_of_ble_eq_true rfl) rfl ⟨rfl, rfl⟩
theorem k_X6_refresh_y {g : G0} {j : Nat → Nat → Int64} (d : Nat) {i : Nat → Nat → Int32} {v : Nat} (hv : v < 4) (ha : ¬ i (9 + v) 3 = 0)  : C g m_X6_refresh (d + 7) 1 6 false [.ref 0, .int (nI v)] (mk i j) (thrs "java/lang/IllegalStateException" (mk i j)) := by
  refine C_of (L := [some (.ref 0), some (.int (nI v)), none]) rfl ?_
  refine L_aload_n_0 dX6_refresh_0 ?_
  refine L_iload_n_1 dX6_refresh_1 ?_
  refine U_cv2 (d := d + 6) (lkR_RX6_148 rfl dX6_refresh_2) (k_X6_followerNumbered _ hv) ⟨pn_X6_followerNumbered, rfl, (Nat.le_of_ble_eq_true rfl), (Nat.le_of_ble_eq_true rfl), rfl⟩ (⟨_, _, rfl, rfl, rfl⟩) (cfS cf6) (Nat.le_of_ble_eq_true rfl) ?_
  refine V_astore_n_2 dX6_refresh_5 (Nat.le_of_ble_eq_true rfl) rfl ?_
  refine L_aload_n_2 dX6_refresh_6 ?_
  exact U_cX1 (lkX_RX6_152 rfl dX6_refresh_7) (k_X6_needAwake_x _ (bkF1 hv) ha) ⟨pn_X6_needAwake, rfl, (Nat.le_of_ble_eq_true rfl), (Nat.le_of_ble_eq_true rfl), rfl⟩ (trivial) cfn (Nat.le_of_ble_eq_true rfl) rfl ⟨rfl, rfl⟩
theorem k_X6_refreshAll {g : G0} {j : Nat → Nat → Int64} (d : Nat) {i : Nat → Nat → Int32} (hS : SVI i) (hC : CI i)  : C g m_X6_refreshAll (d + 5) 0 0 false [.ref 0] (mk i j) (rets (some (.int (raN (cN i) (svI i) 4))) (mk (raF (cN i) (svI i) 4) j)) := by
  refine C_of (L := [some (.ref 0)]) rfl ?_
  refine L_aload_n_0 dX6_refreshAll_0 ?_
  refine U_getR (r := 13) dX6_refreshAll_1 fl_RX6_19 rfl rfl rfl ?_
  refine L_aload_n_0 dX6_refreshAll_4 ?_
  refine U_getR (r := 1) dX6_refreshAll_5 fl_RX6_10 rfl rfl rfl ?_
  refine U_cV2 (d := d + 4) (lkR_RX6_51 rfl dX6_refreshAll_8) (k_sv _ hS) ⟨pn_X4_save, rfl, (Nat.le_of_ble_eq_true rfl), (Nat.le_of_ble_eq_true rfl), rfl⟩ (⟨_, _, rfl, rfl, rfl⟩) (cfS cf4) (Nat.le_of_ble_eq_true rfl) ?_
  refine L_aload_n_0 dX6_refreshAll_11 ?_
  refine U_getR (r := 1) dX6_refreshAll_12 fl_RX6_10 rfl rfl rfl ?_
  refine U_cv1 (d := d + 4) (lkR_RX6_160 rfl dX6_refreshAll_15) (k_X5_bringNewsToAllWithNotice _ ((svI_oth (by omega) hS.2.1).trans hC.1) (by have := hC; unfold CI at this; omega)) ⟨pn_X5_bringNewsToAllWithNotice, rfl, (Nat.le_of_ble_eq_true rfl), (Nat.le_of_ble_eq_true rfl), rfl⟩ (⟨_, _, rfl, rfl, rfl⟩) (cfS cf5) (Nat.le_of_ble_eq_true rfl) ?_
  exact V_iret dX6_refreshAll_18 rfl rfl (⟨rfl, rfl⟩)
theorem k_X6_sleep {g : G0} {j : Nat → Nat → Int64} (d : Nat) {i : Nat → Nat → Int32} {v : Nat} (hv : v < 4) (ha : i (9 + v) 3 = 0) (hS : SVI i)  : C g m_X6_sleep (d + 4) 0 0 false [.ref 0, .int (nI v)] (mk i j) (rets (some (.int (slN (up2 (svI i) (9 + v) 3 1) 4))) (mk (up2 (svI i) (9 + v) 3 1) j)) := by
  refine C_of (L := [some (.ref 0), some (.int (nI v)), none]) rfl ?_
  refine L_aload_n_0 dX6_sleep_0 ?_
  refine L_iload_n_1 dX6_sleep_1 ?_
  refine U_cv2 (d := d + 3) (lkR_RX6_148 rfl dX6_sleep_2) (k_X6_followerNumbered _ hv) ⟨pn_X6_followerNumbered, rfl, (Nat.le_of_ble_eq_true rfl), (Nat.le_of_ble_eq_true rfl), rfl⟩ (⟨_, _, rfl, rfl, rfl⟩) (cfS cf6) (Nat.le_of_ble_eq_true rfl) ?_
  refine V_astore_n_2 dX6_sleep_5 (Nat.le_of_ble_eq_true rfl) rfl ?_
  refine L_aload_n_2 dX6_sleep_6 ?_
  refine U_cV1 (d := d + 3) (lkR_RX6_152 rfl dX6_sleep_7) (k_X6_needAwake _ (bkF1 hv) ha) ⟨pn_X6_needAwake, rfl, (Nat.le_of_ble_eq_true rfl), (Nat.le_of_ble_eq_true rfl), rfl⟩ (trivial) cfn (Nat.le_of_ble_eq_true rfl) ?_
  refine L_aload_n_0 dX6_sleep_10 ?_
  refine U_getR (r := 13) dX6_sleep_11 fl_RX6_19 rfl rfl rfl ?_
  refine L_aload_n_0 dX6_sleep_14 ?_
  refine U_getR (r := 1) dX6_sleep_15 fl_RX6_10 rfl rfl rfl ?_
  refine U_cV2 (d := d + 3) (lkR_RX6_51 rfl dX6_sleep_18) (k_sv _ hS) ⟨pn_X4_save, rfl, (Nat.le_of_ble_eq_true rfl), (Nat.le_of_ble_eq_true rfl), rfl⟩ (⟨_, _, rfl, rfl, rfl⟩) (cfS cf4) (Nat.le_of_ble_eq_true rfl) ?_
  refine L_aload_n_2 dX6_sleep_21 ?_
  refine V_iconst (v := 1) (by decide) dX6_sleep_22 ?_
  refine U_putZ dX6_sleep_23 fl_RX6_163 (bkF1 hv) rfl rfl (Or.inr rfl) ?_
  refine L_aload_n_0 dX6_sleep_26 ?_
  refine U_getR (r := 1) dX6_sleep_27 fl_RX6_10 rfl rfl rfl ?_
  refine U_cv1 (d := d + 3) (lkR_RX6_169 rfl dX6_sleep_30) (k_X5_countAsleep _) ⟨pn_X5_countAsleep, rfl, (Nat.le_of_ble_eq_true rfl), (Nat.le_of_ble_eq_true rfl), rfl⟩ (⟨_, _, rfl, rfl, rfl⟩) (cfS cf5) (Nat.le_of_ble_eq_true rfl) ?_
  exact V_iret dX6_sleep_33 rfl rfl (⟨rfl, rfl⟩)
theorem k_X6_sleep_x {g : G0} {j : Nat → Nat → Int64} (d : Nat) {i : Nat → Nat → Int32} {x : Int32} (h : ¬ foq x)  : C g m_X6_sleep (d + 7) 1 6 false [.ref 0, .int x] (mk i j) (thrs "java/lang/IndexOutOfBoundsException" (mk i j)) := by
  refine C_of (L := [some (.ref 0), some (.int x), none]) rfl ?_
  refine L_aload_n_0 dX6_sleep_0 ?_
  refine L_iload_n_1 dX6_sleep_1 ?_
  exact U_cX2 (lkX_RX6_148 rfl dX6_sleep_2) (k_X6_followerNumbered_x _ h) ⟨pn_X6_followerNumbered, rfl, (Nat.le_of_ble_eq_true rfl), (Nat.le_of_ble_eq_true rfl), rfl⟩ (⟨_, _, rfl, rfl, rfl⟩) (cfS cf6) (Nat.le_of_ble_eq_true rfl) rfl ⟨rfl, rfl⟩
theorem k_X6_sleep_y {g : G0} {j : Nat → Nat → Int64} (d : Nat) {i : Nat → Nat → Int32} {v : Nat} (hv : v < 4) (ha : ¬ i (9 + v) 3 = 0)  : C g m_X6_sleep (d + 7) 1 6 false [.ref 0, .int (nI v)] (mk i j) (thrs "java/lang/IllegalStateException" (mk i j)) := by
  refine C_of (L := [some (.ref 0), some (.int (nI v)), none]) rfl ?_
  refine L_aload_n_0 dX6_sleep_0 ?_
  refine L_iload_n_1 dX6_sleep_1 ?_
  refine U_cv2 (d := d + 6) (lkR_RX6_148 rfl dX6_sleep_2) (k_X6_followerNumbered _ hv) ⟨pn_X6_followerNumbered, rfl, (Nat.le_of_ble_eq_true rfl), (Nat.le_of_ble_eq_true rfl), rfl⟩ (⟨_, _, rfl, rfl, rfl⟩) (cfS cf6) (Nat.le_of_ble_eq_true rfl) ?_
  refine V_astore_n_2 dX6_sleep_5 (Nat.le_of_ble_eq_true rfl) rfl ?_
  refine L_aload_n_2 dX6_sleep_6 ?_
  exact U_cX1 (lkX_RX6_152 rfl dX6_sleep_7) (k_X6_needAwake_x _ (bkF1 hv) ha) ⟨pn_X6_needAwake, rfl, (Nat.le_of_ble_eq_true rfl), (Nat.le_of_ble_eq_true rfl), rfl⟩ (trivial) cfn (Nat.le_of_ble_eq_true rfl) rfl ⟨rfl, rfl⟩
theorem k_X6_wake {g : G0} {j : Nat → Nat → Int64} (d : Nat) {i : Nat → Nat → Int32} {v : Nat} (hv : v < 4) (ha : ¬ i (9 + v) 3 = 0) (hS : SVI i)  : C g m_X6_wake (d + 4) 0 0 false [.ref 0, .int (nI v)] (mk i j) (rets (some (.int (slN (up2 (svI i) (9 + v) 3 0) 4))) (mk (up2 (svI i) (9 + v) 3 0) j)) := by
  refine C_of (L := [some (.ref 0), some (.int (nI v)), none]) rfl ?_
  refine L_aload_n_0 dX6_wake_0 ?_
  refine L_iload_n_1 dX6_wake_1 ?_
  refine U_cv2 (d := d + 3) (lkR_RX6_148 rfl dX6_wake_2) (k_X6_followerNumbered _ hv) ⟨pn_X6_followerNumbered, rfl, (Nat.le_of_ble_eq_true rfl), (Nat.le_of_ble_eq_true rfl), rfl⟩ (⟨_, _, rfl, rfl, rfl⟩) (cfS cf6) (Nat.le_of_ble_eq_true rfl) ?_
  refine V_astore_n_2 dX6_wake_5 (Nat.le_of_ble_eq_true rfl) rfl ?_
  refine L_aload_n_2 dX6_wake_6 ?_
  refine U_getI dX6_wake_7 fl_RX6_163 (bkF1 hv) rfl ?_
  refine V_ifx_ne (tgt := 23) dX6_wake_10 (by decide) (fun h10 => ?_) (fun h10 => ?_)
  · refine L_aload_n_0 dX6_wake_23 ?_
    refine U_getR (r := 13) dX6_wake_24 fl_RX6_19 rfl rfl rfl ?_
    refine L_aload_n_0 dX6_wake_27 ?_
    refine U_getR (r := 1) dX6_wake_28 fl_RX6_10 rfl rfl rfl ?_
    refine U_cV2 (d := d + 3) (lkR_RX6_51 rfl dX6_wake_31) (k_sv _ hS) ⟨pn_X4_save, rfl, (Nat.le_of_ble_eq_true rfl), (Nat.le_of_ble_eq_true rfl), rfl⟩ (⟨_, _, rfl, rfl, rfl⟩) (cfS cf4) (Nat.le_of_ble_eq_true rfl) ?_
    refine L_aload_n_2 dX6_wake_34 ?_
    refine V_iconst (v := 0) (by decide) dX6_wake_35 ?_
    refine U_putZ dX6_wake_36 fl_RX6_163 (bkF1 hv) rfl rfl (Or.inl rfl) ?_
    refine L_aload_n_0 dX6_wake_39 ?_
    refine U_getR (r := 1) dX6_wake_40 fl_RX6_10 rfl rfl rfl ?_
    refine U_cv1 (d := d + 3) (lkR_RX6_169 rfl dX6_wake_43) (k_X5_countAsleep _) ⟨pn_X5_countAsleep, rfl, (Nat.le_of_ble_eq_true rfl), (Nat.le_of_ble_eq_true rfl), rfl⟩ (⟨_, _, rfl, rfl, rfl⟩) (cfS cf5) (Nat.le_of_ble_eq_true rfl) ?_
    exact V_iret dX6_wake_46 rfl rfl (⟨rfl, rfl⟩)
  · exact absurd h10 ha
theorem k_X6_wake_x {g : G0} {j : Nat → Nat → Int64} (d : Nat) {i : Nat → Nat → Int32} {x : Int32} (h : ¬ foq x)  : C g m_X6_wake (d + 7) 1 6 false [.ref 0, .int x] (mk i j) (thrs "java/lang/IndexOutOfBoundsException" (mk i j)) := by
  refine C_of (L := [some (.ref 0), some (.int x), none]) rfl ?_
  refine L_aload_n_0 dX6_wake_0 ?_
  refine L_iload_n_1 dX6_wake_1 ?_
  exact U_cX2 (lkX_RX6_148 rfl dX6_wake_2) (k_X6_followerNumbered_x _ h) ⟨pn_X6_followerNumbered, rfl, (Nat.le_of_ble_eq_true rfl), (Nat.le_of_ble_eq_true rfl), rfl⟩ (⟨_, _, rfl, rfl, rfl⟩) (cfS cf6) (Nat.le_of_ble_eq_true rfl) rfl ⟨rfl, rfl⟩
theorem k_X6_wake_y {g : G0} {j : Nat → Nat → Int64} (d : Nat) {i : Nat → Nat → Int32} {v : Nat} (hv : v < 4) (ha : i (9 + v) 3 = 0)  : C g m_X6_wake (d + 7) 1 6 false [.ref 0, .int (nI v)] (mk i j) (thrs "java/lang/IllegalStateException" (mk i j)) := by
  refine C_of (L := [some (.ref 0), some (.int (nI v)), none]) rfl ?_
  refine L_aload_n_0 dX6_wake_0 ?_
  refine L_iload_n_1 dX6_wake_1 ?_
  refine U_cv2 (d := d + 6) (lkR_RX6_148 rfl dX6_wake_2) (k_X6_followerNumbered _ hv) ⟨pn_X6_followerNumbered, rfl, (Nat.le_of_ble_eq_true rfl), (Nat.le_of_ble_eq_true rfl), rfl⟩ (⟨_, _, rfl, rfl, rfl⟩) (cfS cf6) (Nat.le_of_ble_eq_true rfl) ?_
  refine V_astore_n_2 dX6_wake_5 (Nat.le_of_ble_eq_true rfl) rfl ?_
  refine L_aload_n_2 dX6_wake_6 ?_
  refine U_getI dX6_wake_7 fl_RX6_163 (bkF1 hv) rfl ?_
  refine V_ifx_ne (tgt := 23) dX6_wake_10 (by decide) (fun h10 => ?_) (fun h10 => ?_)
  · exact absurd ha h10
  · exact V_throw (E := "java/lang/IllegalStateException") (text := "the follower is awake") (by decide) cl_RX6_44 in_IllegalStateException (by decide) xa_48 (xh_48) dX6_wake_13 dX6_wake_16 dX6_wake_17 dX6_wake_19 dX6_wake_22 rfl (by omega) (Nat.le_of_ble_eq_true rfl) (⟨rfl, rfl⟩)
theorem k_X6_throwAway {g : G0} {j : Nat → Nat → Int64} (d : Nat) {i : Nat → Nat → Int32} {v : Nat} (hv : v < 4) (hS : SVI i)  : C g m_X6_throwAway (d + 4) 0 0 false [.ref 0, .int (nI v)] (mk i j) (rets (some (.int (if svI i (9 + v) 0 = 0 then -1 else bcI (svI i (9 + v) 1)))) (mk (up2 (up2 (svI i) (9 + v) 0 0) (9 + v) 1 0) j)) := by
  refine C_of (L := [some (.ref 0), some (.int (nI v)), none, none]) rfl ?_
  refine L_aload_n_0 dX6_throwAway_0 ?_
  refine L_iload_n_1 dX6_throwAway_1 ?_
  refine U_cv2 (d := d + 3) (lkR_RX6_148 rfl dX6_throwAway_2) (k_X6_followerNumbered _ hv) ⟨pn_X6_followerNumbered, rfl, (Nat.le_of_ble_eq_true rfl), (Nat.le_of_ble_eq_true rfl), rfl⟩ (⟨_, _, rfl, rfl, rfl⟩) (cfS cf6) (Nat.le_of_ble_eq_true rfl) ?_
  refine V_astore_n_2 dX6_throwAway_5 (Nat.le_of_ble_eq_true rfl) rfl ?_
  refine L_aload_n_0 dX6_throwAway_6 ?_
  refine U_getR (r := 13) dX6_throwAway_7 fl_RX6_19 rfl rfl rfl ?_
  refine L_aload_n_0 dX6_throwAway_10 ?_
  refine U_getR (r := 1) dX6_throwAway_11 fl_RX6_10 rfl rfl rfl ?_
  refine U_cV2 (d := d + 3) (lkR_RX6_51 rfl dX6_throwAway_14) (k_sv _ hS) ⟨pn_X4_save, rfl, (Nat.le_of_ble_eq_true rfl), (Nat.le_of_ble_eq_true rfl), rfl⟩ (⟨_, _, rfl, rfl, rfl⟩) (cfS cf4) (Nat.le_of_ble_eq_true rfl) ?_
  refine L_aload_n_2 dX6_throwAway_17 ?_
  refine U_cv1 (d := d + 3) (lkR_RX6_174 rfl dX6_throwAway_18) (k_X1_sizeOrNone _ (bkF1 hv)) ⟨pn_X1_sizeOrNone, rfl, (Nat.le_of_ble_eq_true rfl), (Nat.le_of_ble_eq_true rfl), rfl⟩ (⟨_, _, rfl, congrArg Prod.fst ((bkF1 hv)), rfl⟩) (cfS cf1) (Nat.le_of_ble_eq_true rfl) ?_
  refine V_istore_n_3 dX6_throwAway_21 (Nat.le_of_ble_eq_true rfl) rfl ?_
  refine L_aload_n_2 dX6_throwAway_22 ?_
  refine U_cV1 (d := d + 3) (lkR_RX6_177 rfl dX6_throwAway_23) (k_X1_loseList _ (bkF1 hv)) ⟨pn_X1_loseList, rfl, (Nat.le_of_ble_eq_true rfl), (Nat.le_of_ble_eq_true rfl), rfl⟩ (⟨_, _, rfl, congrArg Prod.fst ((bkF1 hv)), rfl⟩) (cfS cf1) (Nat.le_of_ble_eq_true rfl) ?_
  refine L_iload_n_3 dX6_throwAway_26 ?_
  exact V_iret dX6_throwAway_27 rfl rfl (⟨rfl, rfl⟩)
theorem k_X6_throwAway_x {g : G0} {j : Nat → Nat → Int64} (d : Nat) {i : Nat → Nat → Int32} {x : Int32} (h : ¬ foq x)  : C g m_X6_throwAway (d + 7) 1 6 false [.ref 0, .int x] (mk i j) (thrs "java/lang/IndexOutOfBoundsException" (mk i j)) := by
  refine C_of (L := [some (.ref 0), some (.int x), none, none]) rfl ?_
  refine L_aload_n_0 dX6_throwAway_0 ?_
  refine L_iload_n_1 dX6_throwAway_1 ?_
  exact U_cX2 (lkX_RX6_148 rfl dX6_throwAway_2) (k_X6_followerNumbered_x _ h) ⟨pn_X6_followerNumbered, rfl, (Nat.le_of_ble_eq_true rfl), (Nat.le_of_ble_eq_true rfl), rfl⟩ (⟨_, _, rfl, rfl, rfl⟩) (cfS cf6) (Nat.le_of_ble_eq_true rfl) rfl ⟨rfl, rfl⟩
theorem k_X6_undo {g : G0} {j : Nat → Nat → Int64} (d : Nat) {i : Nat → Nat → Int32} (hS : SVI i) (h1 : 0 < sN i) (hz : bits i (15 + 12 * ((xN i + 5) % 6)))  : C g m_X6_undo (d + 4) 0 0 false [.ref 0] (mk i j) (rets (some (.int (restW i (xN i) (sN i) 13 2))) (mk (restW i (xN i) (sN i)) j)) := by
  refine C_of (L := [some (.ref 0)]) rfl ?_
  refine L_aload_n_0 dX6_undo_0 ?_
  refine U_getR (r := 13) dX6_undo_1 fl_RX6_19 rfl rfl rfl ?_
  refine U_getI dX6_undo_4 fl_RX6_233 rfl rfl ?_
  refine V_eqv (y := nI (sN i)) hS.2.2.1 ?_
  refine V_ifx_ne (tgt := 20) dX6_undo_7 (by decide) (fun h7 => ?_) (fun h7 => ?_)
  · refine L_aload_n_0 dX6_undo_20 ?_
    refine U_getR (r := 13) dX6_undo_21 fl_RX6_19 rfl rfl rfl ?_
    refine L_aload_n_0 dX6_undo_24 ?_
    refine U_getR (r := 1) dX6_undo_25 fl_RX6_10 rfl rfl rfl ?_
    refine U_cV2 (d := d + 3) (lkR_RX6_236 rfl dX6_undo_28) (k_X4_restoreInto _ hS.1 hS.2.1 hS.2.2.1 hS.2.2.2.1 h1 hz) ⟨pn_X4_restoreInto, rfl, (Nat.le_of_ble_eq_true rfl), (Nat.le_of_ble_eq_true rfl), rfl⟩ (⟨_, _, rfl, rfl, rfl⟩) (cfS cf4) (Nat.le_of_ble_eq_true rfl) ?_
    refine L_aload_n_0 dX6_undo_31 ?_
    refine U_getR (r := 13) dX6_undo_32 fl_RX6_19 rfl rfl rfl ?_
    refine U_getI dX6_undo_35 fl_RX6_233 rfl rfl ?_
    exact V_iret dX6_undo_38 rfl rfl (⟨rfl, rfl⟩)
  · exact absurd h7 (nI_ne0 h1 (by have := hS.2.2.2.1; omega))
theorem k_X6_undo_x {g : G0} {j : Nat → Nat → Int64} (d : Nat) {i : Nat → Nat → Int32} (h0 : i 13 2 = 0)  : C g m_X6_undo (d + 7) 1 6 false [.ref 0] (mk i j) (thrs "java/lang/IllegalStateException" (mk i j)) := by
  refine C_of (L := [some (.ref 0)]) rfl ?_
  refine L_aload_n_0 dX6_undo_0 ?_
  refine U_getR (r := 13) dX6_undo_1 fl_RX6_19 rfl rfl rfl ?_
  refine U_getI dX6_undo_4 fl_RX6_233 rfl rfl ?_
  refine V_ifx_ne (tgt := 20) dX6_undo_7 (by decide) (fun h7 => ?_) (fun h7 => ?_)
  · exact absurd h0 h7
  · exact V_throw (E := "java/lang/IllegalStateException") (text := "no state is saved") (by decide) cl_RX6_44 in_IllegalStateException (by decide) xa_48 (xh_48) dX6_undo_10 dX6_undo_13 dX6_undo_14 dX6_undo_16 dX6_undo_19 rfl (by omega) (Nat.le_of_ble_eq_true rfl) (⟨rfl, rfl⟩)

