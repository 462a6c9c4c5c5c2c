def keepW (i : Nat → Nat → Int32) (c : Nat) (e u n : Int32) : Nat → Nat → Int32 := up2 (up2 (up2 (up2 (up2 i 4 c e) 5 c u) 6 c n) 7 c (1 + bcI (u ||| n))) 3 5 (nI (c + 1))
def kp (i : Nat → Nat → Int32) (c K : Nat) (e u n : Int32) : Nat → Nat → Int32 := if c < K then keepW i c e u n else keepW (drp i (c - K + 1) c) (K - 1) e u n
theorem drp_cnt {i : Nat → Nat → Int32} {k c : Nat} : drp i k c 3 5 = nI (c - k) := if_pos ⟨rfl, rfl⟩
theorem drp_oth {i : Nat → Nat → Int32} {k c a f : Nat} (h : a < 3 ∨ 7 < a ∨ (a = 3 ∧ f ≠ 5)) : drp i k c a f = i a f := by
  unfold drp drF
  rw [if_neg (by omega), if_neg (by omega)]
theorem keepW_oth {i : Nat → Nat → Int32} {c : Nat} {e u n : Int32} {a f : Nat} (h : a < 3 ∨ 7 < a ∨ (a = 3 ∧ f ≠ 5)) : keepW i c e u n a f = i a f := by
  unfold keepW up2
  rw [if_neg (by omega), if_neg (by omega), if_neg (by omega), if_neg (by omega), if_neg (by omega)]
theorem kp_oth {i : Nat → Nat → Int32} {c K : Nat} {e u n : Int32} {a f : Nat} (h : a < 3 ∨ 7 < a ∨ (a = 3 ∧ f ≠ 5)) : kp i c K e u n a f = i a f := by
  unfold kp
  split
  · exact keepW_oth h
  · rw [keepW_oth h, drp_oth h]
theorem k_X0_keep1 {g : G0} {j : Nat → Nat → Int64} (d : Nat) {i : Nat → Nat → Int32} {c K : Nat} (hc : i 3 5 = nI c) (h6 : c ≤ 6) (hK : i 3 4 = nI K) (hK1 : 1 ≤ K) (hK6 : K ≤ 6) (hcK : c ≤ K) {e u n : Int32} (hlt : c < K)  : C g m_X0_keep (d + 1) 0 0 false [.ref 3, .int e, .int u, .int n] (mk i j) (rets (none) (mk (kp i c K e u n) j)) := by
  refine C_of (L := [some (.ref 3), some (.int e), some (.int u), some (.int n)]) rfl ?_
  refine L_aload_n_0 dX0_keep_0 ?_
  refine U_getI dX0_keep_1 fl_RX0_28 rfl rfl ?_
  refine V_eqv (y := nI c) hc ?_
  refine L_aload_n_0 dX0_keep_4 ?_
  refine U_getI dX0_keep_5 fl_RX0_24 rfl rfl ?_
  refine V_eqv (y := nI K) hK ?_
  refine V_icmp_lt (tgt := 26) dX0_keep_8 (by decide) (fun h8 => ?_) (fun h8 => ?_)
  · refine L_aload_n_0 dX0_keep_26 ?_
    refine U_getR (r := 4) dX0_keep_27 fl_RX0_9 rfl rfl rfl ?_
    refine L_aload_n_0 dX0_keep_30 ?_
    refine U_getI dX0_keep_31 fl_RX0_28 rfl rfl ?_
    refine V_eqv (y := nI c) (by first | exact hc | (show i 3 5 = nI c; exact hc)) ?_
    refine L_iload_n_1 dX0_keep_34 ?_
    refine U_iast (n := c) dX0_keep_35 rfl (rfl) (by omega) (by decide) ?_
    refine L_aload_n_0 dX0_keep_36 ?_
    refine U_getR (r := 5) dX0_keep_37 fl_RX0_15 rfl rfl rfl ?_
    refine L_aload_n_0 dX0_keep_40 ?_
    refine U_getI dX0_keep_41 fl_RX0_28 rfl rfl ?_
    refine V_eqv (y := nI c) (by first | exact hc | (show i 3 5 = nI c; exact hc)) ?_
    refine L_iload_n_2 dX0_keep_44 ?_
    refine U_iast (n := c) dX0_keep_45 rfl (rfl) (by omega) (by decide) ?_
    refine L_aload_n_0 dX0_keep_46 ?_
    refine U_getR (r := 6) dX0_keep_47 fl_RX0_18 rfl rfl rfl ?_
    refine L_aload_n_0 dX0_keep_50 ?_
    refine U_getI dX0_keep_51 fl_RX0_28 rfl rfl ?_
    refine V_eqv (y := nI c) (by first | exact hc | (show i 3 5 = nI c; exact hc)) ?_
    refine L_iload_n_3 dX0_keep_54 ?_
    refine U_iast (n := c) dX0_keep_55 rfl (rfl) (by omega) (by decide) ?_
    refine L_aload_n_0 dX0_keep_56 ?_
    refine U_getR (r := 7) dX0_keep_57 fl_RX0_21 rfl rfl rfl ?_
    refine L_aload_n_0 dX0_keep_60 ?_
    refine U_getI dX0_keep_61 fl_RX0_28 rfl rfl ?_
    refine V_eqv (y := nI c) (by first | exact hc | (show i 3 5 = nI c; exact hc)) ?_
    refine V_iconst (v := 1) (by decide) dX0_keep_64 ?_
    refine L_iload_n_2 dX0_keep_65 ?_
    refine L_iload_n_3 dX0_keep_66 ?_
    refine V_ior dX0_keep_67 ?_
    refine U_cv1 (d := d + 0) (lkR_RX0_35 rfl dX0_keep_68) (k_J6_bitCount_0f7a4 _) ⟨pn_J6_bitCount_0f7a4, rfl, (Nat.le_of_ble_eq_true rfl), (Nat.le_of_ble_eq_true rfl), rfl⟩ (trivial) cfn (Nat.le_of_ble_eq_true rfl) ?_
    refine V_iadd dX0_keep_71 ?_
    refine U_iast (n := c) dX0_keep_72 rfl (rfl) (by omega) (by decide) ?_
    refine L_aload_n_0 dX0_keep_73 ?_
    refine V_dup rfl dX0_keep_74 ?_
    refine U_getI dX0_keep_75 fl_RX0_28 rfl rfl ?_
    refine V_eqv (y := nI c) (by show i 3 5 = nI c; exact hc) ?_
    refine V_iconst (v := 1) (by decide) dX0_keep_78 ?_
    refine V_iadd dX0_keep_79 ?_
    refine V_eqv (y := nI (c + 1)) (nI_1 c) ?_
    refine U_putI dX0_keep_80 fl_RX0_28 rfl rfl rfl ?_
    exact V_vret dX0_keep_83 rfl (by refine ⟨rfl, ?_⟩; unfold kp; rw [if_pos hlt]; rfl)
  · exact absurd ((nI_ltI (a := c) (b := K) (by omega) (by omega)).mpr hlt) h8
theorem k_X0_keep2 {g : G0} {j : Nat → Nat → Int64} (d : Nat) {i : Nat → Nat → Int32} {c K : Nat} (hc : i 3 5 = nI c) (h6 : c ≤ 6) (hK : i 3 4 = nI K) (hK1 : 1 ≤ K) (hK6 : K ≤ 6) (hcK : c ≤ K) {e u n : Int32} (hlt : ¬ c < K)  : C g m_X0_keep (d + 1) 0 0 false [.ref 3, .int e, .int u, .int n] (mk i j) (rets (none) (mk (kp i c K e u n) j)) := by
  refine C_of (L := [some (.ref 3), some (.int e), some (.int u), some (.int n)]) rfl ?_
  refine L_aload_n_0 dX0_keep_0 ?_
  refine U_getI dX0_keep_1 fl_RX0_28 rfl rfl ?_
  refine V_eqv (y := nI c) hc ?_
  refine L_aload_n_0 dX0_keep_4 ?_
  refine U_getI dX0_keep_5 fl_RX0_24 rfl rfl ?_
  refine V_eqv (y := nI K) hK ?_
  refine V_icmp_lt (tgt := 26) dX0_keep_8 (by decide) (fun h8 => ?_) (fun h8 => ?_)
  · exact absurd ((nI_ltI (a := c) (b := K) (by omega) (by omega)).mp h8) hlt
  · refine L_aload_n_0 dX0_keep_11 ?_
    refine L_aload_n_0 dX0_keep_12 ?_
    refine U_getI dX0_keep_13 fl_RX0_28 rfl rfl ?_
    refine V_eqv (y := nI c) hc ?_
    refine L_aload_n_0 dX0_keep_16 ?_
    refine U_getI dX0_keep_17 fl_RX0_24 rfl rfl ?_
    refine V_eqv (y := nI K) hK ?_
    refine V_isub dX0_keep_20 ?_
    refine V_iconst (v := 1) (by decide) dX0_keep_21 ?_
    refine V_iadd dX0_keep_22 ?_
    refine V_eqv (y := nI (c - K + 1)) (by rw [pk_sub (by omega), nI_1]) ?_
    refine U_cV2 (d := d + 0) (lkR_RX0_31 rfl dX0_keep_23) (k_X0_dropOldest _ hc h6 (by omega)) ⟨pn_X0_dropOldest, rfl, (Nat.le_of_ble_eq_true rfl), (Nat.le_of_ble_eq_true rfl), rfl⟩ (⟨_, _, rfl, rfl, rfl⟩) (cfS cf0) (Nat.le_of_ble_eq_true rfl) ?_
    have hd : drp i (c - K + 1) c 3 5 = nI (K - 1) := drp_cnt.trans (congrArg nI (by omega))
    generalize hw : drp i (c - K + 1) c = i2 at hd
    refine L_aload_n_0 dX0_keep_26 ?_
    refine U_getR (r := 4) dX0_keep_27 fl_RX0_9 rfl rfl rfl ?_
    refine L_aload_n_0 dX0_keep_30 ?_
    refine U_getI dX0_keep_31 fl_RX0_28 rfl rfl ?_
    refine V_eqv (y := nI (K - 1)) (by first | exact hd | (show i2 3 5 = nI (K - 1); exact hd)) ?_
    refine L_iload_n_1 dX0_keep_34 ?_
    refine U_iast (n := (K - 1)) dX0_keep_35 rfl (rfl) (by omega) (by decide) ?_
    refine L_aload_n_0 dX0_keep_36 ?_
    refine U_getR (r := 5) dX0_keep_37 fl_RX0_15 rfl rfl rfl ?_
    refine L_aload_n_0 dX0_keep_40 ?_
    refine U_getI dX0_keep_41 fl_RX0_28 rfl rfl ?_
    refine V_eqv (y := nI (K - 1)) (by first | exact hd | (show i2 3 5 = nI (K - 1); exact hd)) ?_
    refine L_iload_n_2 dX0_keep_44 ?_
    refine U_iast (n := (K - 1)) dX0_keep_45 rfl (rfl) (by omega) (by decide) ?_
    refine L_aload_n_0 dX0_keep_46 ?_
    refine U_getR (r := 6) dX0_keep_47 fl_RX0_18 rfl rfl rfl ?_
    refine L_aload_n_0 dX0_keep_50 ?_
    refine U_getI dX0_keep_51 fl_RX0_28 rfl rfl ?_
    refine V_eqv (y := nI (K - 1)) (by first | exact hd | (show i2 3 5 = nI (K - 1); exact hd)) ?_
    refine L_iload_n_3 dX0_keep_54 ?_
    refine U_iast (n := (K - 1)) dX0_keep_55 rfl (rfl) (by omega) (by decide) ?_
    refine L_aload_n_0 dX0_keep_56 ?_
    refine U_getR (r := 7) dX0_keep_57 fl_RX0_21 rfl rfl rfl ?_
    refine L_aload_n_0 dX0_keep_60 ?_
    refine U_getI dX0_keep_61 fl_RX0_28 rfl rfl ?_
    refine V_eqv (y := nI (K - 1)) (by first | exact hd | (show i2 3 5 = nI (K - 1); exact hd)) ?_
    refine V_iconst (v := 1) (by decide) dX0_keep_64 ?_
    refine L_iload_n_2 dX0_keep_65 ?_
    refine L_iload_n_3 dX0_keep_66 ?_
    refine V_ior dX0_keep_67 ?_
    refine U_cv1 (d := d + 0) (lkR_RX0_35 rfl dX0_keep_68) (k_J6_bitCount_0f7a4 _) ⟨pn_J6_bitCount_0f7a4, rfl, (Nat.le_of_ble_eq_true rfl), (Nat.le_of_ble_eq_true rfl), rfl⟩ (trivial) cfn (Nat.le_of_ble_eq_true rfl) ?_
    refine V_iadd dX0_keep_71 ?_
    refine U_iast (n := (K - 1)) dX0_keep_72 rfl (rfl) (by omega) (by decide) ?_
    refine L_aload_n_0 dX0_keep_73 ?_
    refine V_dup rfl dX0_keep_74 ?_
    refine U_getI dX0_keep_75 fl_RX0_28 rfl rfl ?_
    refine V_eqv (y := nI (K - 1)) (by show i2 3 5 = nI (K - 1); exact hd) ?_
    refine V_iconst (v := 1) (by decide) dX0_keep_78 ?_
    refine V_iadd dX0_keep_79 ?_
    refine V_eqv (y := nI (K - 1 + 1)) (nI_1 _) ?_
    refine U_putI dX0_keep_80 fl_RX0_28 rfl rfl rfl ?_
    exact V_vret dX0_keep_83 rfl (by refine ⟨rfl, ?_⟩; unfold kp; rw [if_neg hlt, hw]; rfl)
theorem k_X0_keep {g : G0} {j : Nat → Nat → Int64} (d : Nat) {i : Nat → Nat → Int32} {c K : Nat} (hc : i 3 5 = nI c) (h6 : c ≤ 6) (hK : i 3 4 = nI K) (hK1 : 1 ≤ K) (hK6 : K ≤ 6) (hcK : c ≤ K) {e u n : Int32} : C g m_X0_keep (d + 1) 0 0 false [.ref 3, .int e, .int u, .int n] (mk i j) (rets (none) (mk (kp i c K e u n) j)) := by
  by_cases h : c < K
  · exact k_X0_keep1 d hc h6 hK hK1 hK6 hcK h
  · exact k_X0_keep2 d hc h6 hK hK1 hK6 hcK h
def lim (i : Nat → Nat → Int32) (c m : Nat) : Nat → Nat → Int32 := if c ≤ m then up2 i 3 4 (nI m) else drp (up2 i 3 4 (nI m)) (c - m) c
theorem k_X0_limitTo {g : G0} {j : Nat → Nat → Int64} (d : Nat) {i : Nat → Nat → Int32} {c : Nat} (hc : i 3 5 = nI c) (h6 : c ≤ 6) {m : Nat} (hm : m ≤ 6)  : C g m_X0_limitTo (d + 1) 0 0 false [.ref 3, .int (nI m)] (mk i j) (rets (none) (mk (lim i c m) j)) := by
  refine C_of (L := [some (.ref 3), some (.int (nI m))]) rfl ?_
  refine L_aload_n_0 dX0_limitTo_0 ?_
  refine L_iload_n_1 dX0_limitTo_1 ?_
  refine U_putI dX0_limitTo_2 fl_RX0_24 rfl rfl rfl ?_
  refine L_aload_n_0 dX0_limitTo_5 ?_
  refine U_getI dX0_limitTo_6 fl_RX0_28 rfl rfl ?_
  refine V_eqv (y := nI c) (by show i 3 5 = nI c; exact hc) ?_
  refine L_aload_n_0 dX0_limitTo_9 ?_
  refine U_getI dX0_limitTo_10 fl_RX0_24 rfl rfl ?_
  refine V_eqv (y := nI m) (by rfl) ?_
  refine V_icmp_le (tgt := 29) dX0_limitTo_13 (by decide) (fun h13 => ?_) (fun h13 => ?_)
  · exact V_vret dX0_limitTo_29 rfl (by
    refine ⟨rfl, ?_⟩
    have h14 := nI_leI (a := c) (b := m) (by omega) (by omega)
    unfold lim
    first | rw [if_pos (h14.mp h13)] | rw [if_neg (fun z => h13 (h14.mpr z))])
  · refine L_aload_n_0 dX0_limitTo_16 ?_
    refine L_aload_n_0 dX0_limitTo_17 ?_
    refine U_getI dX0_limitTo_18 fl_RX0_28 rfl rfl ?_
    refine V_eqv (y := nI c) (by show i 3 5 = nI c; exact hc) ?_
    refine L_aload_n_0 dX0_limitTo_21 ?_
    refine U_getI dX0_limitTo_22 fl_RX0_24 rfl rfl ?_
    refine V_eqv (y := nI m) (by rfl) ?_
    refine V_isub dX0_limitTo_25 ?_
    refine V_eqv (y := nI (c - m)) (pk_sub (by have := mt (nI_leI (a := c) (b := m) (by omega) (by omega)).mpr h13; omega)) ?_
    refine U_cV2 (d := d + 0) (lkR_RX0_31 rfl dX0_limitTo_26) (k_X0_dropOldest _ (by show i 3 5 = nI c; exact hc) h6 (by omega)) ⟨pn_X0_dropOldest, rfl, (Nat.le_of_ble_eq_true rfl), (Nat.le_of_ble_eq_true rfl), rfl⟩ (⟨_, _, rfl, rfl, rfl⟩) (cfS cf0) (Nat.le_of_ble_eq_true rfl) ?_
    exact V_vret dX0_limitTo_29 rfl (by
    refine ⟨rfl, ?_⟩
    have h14 := nI_leI (a := c) (b := m) (by omega) (by omega)
    unfold lim
    first | rw [if_pos (h14.mp h13)] | rw [if_neg (fun z => h13 (h14.mpr z))])
def isu (i : Nat → Nat → Int32) (c K n : Nat) : Nat → Nat → Int32 := up2 (up2 (kp i c K (i 2 2) (i 2 1 &&& (i 2 0 ^^^ (-1))) (i 2 0 &&& (i 2 1 ^^^ (-1)))) 2 1 (i 2 0)) 2 2 (nI ((n + 1) % 16))
theorem k_X3_issueDraft {g : G0} {j : Nat → Nat → Int64} (d : Nat) {i : Nat → Nat → Int32} {c K n : Nat} (hc : i 3 5 = nI c) (h6 : c ≤ 6) (hK : i 3 4 = nI K) (hK1 : 1 ≤ K) (hK6 : K ≤ 6) (hcK : c ≤ K) (hn : i 2 2 = nI n) (hn16 : n < 16)  : C g m_X3_issueDraft (d + 2) 0 0 false [.ref 2] (mk i j) (rets (none) (mk (isu i c K n) j)) := by
  refine C_of (L := [some (.ref 2)]) rfl ?_
  refine L_aload_n_0 dX3_issueDraft_0 ?_
  refine U_getR (r := 3) dX3_issueDraft_1 fl_RX3_12 rfl rfl rfl ?_
  refine L_aload_n_0 dX3_issueDraft_4 ?_
  refine U_getI dX3_issueDraft_5 fl_RX3_25 rfl rfl ?_
  refine L_aload_n_0 dX3_issueDraft_8 ?_
  refine U_getI dX3_issueDraft_9 fl_RX3_22 rfl rfl ?_
  refine L_aload_n_0 dX3_issueDraft_12 ?_
  refine U_getI dX3_issueDraft_13 fl_RX3_18 rfl rfl ?_
  refine V_iconst (v := (-1)) (by decide) dX3_issueDraft_16 ?_
  refine V_ixor dX3_issueDraft_17 ?_
  refine V_iand dX3_issueDraft_18 ?_
  refine L_aload_n_0 dX3_issueDraft_19 ?_
  refine U_getI dX3_issueDraft_20 fl_RX3_18 rfl rfl ?_
  refine L_aload_n_0 dX3_issueDraft_23 ?_
  refine U_getI dX3_issueDraft_24 fl_RX3_22 rfl rfl ?_
  refine V_iconst (v := (-1)) (by decide) dX3_issueDraft_27 ?_
  refine V_ixor dX3_issueDraft_28 ?_
  refine V_iand dX3_issueDraft_29 ?_
  refine U_cV4 (d := d + 1) (lkR_RX3_43 rfl dX3_issueDraft_30) (k_X0_keep _ hc h6 hK hK1 hK6 hcK) ⟨pn_X0_keep, rfl, (Nat.le_of_ble_eq_true rfl), (Nat.le_of_ble_eq_true rfl), rfl⟩ (⟨_, _, rfl, rfl, rfl⟩) (cfS cf0) (Nat.le_of_ble_eq_true rfl) ?_
  refine L_aload_n_0 dX3_issueDraft_33 ?_
  refine L_aload_n_0 dX3_issueDraft_34 ?_
  refine U_getI dX3_issueDraft_35 fl_RX3_18 rfl rfl ?_
  refine V_eqv (y := i 2 0) (kp_oth (by omega)) ?_
  refine U_putI dX3_issueDraft_38 fl_RX3_22 rfl rfl rfl ?_
  refine L_aload_n_0 dX3_issueDraft_41 ?_
  refine L_aload_n_0 dX3_issueDraft_42 ?_
  refine U_getI dX3_issueDraft_43 fl_RX3_25 rfl rfl ?_
  refine V_eqv (y := nI n) ((up2_nf (by omega)).trans ((kp_oth (by omega)).trans hn)) ?_
  refine V_iconst (v := 1) (by decide) dX3_issueDraft_46 ?_
  refine V_iadd dX3_issueDraft_47 ?_
  refine V_bipush (v := 16) (by decide) dX3_issueDraft_48 ?_
  refine V_irem (by decide) dX3_issueDraft_50 ?_
  refine V_eqv (y := nI ((n + 1) % 16)) (by rw [nI_1]; exact pk_rem (a := n + 1) (d := 16) (by omega) (by omega) (by omega)) ?_
  refine U_putI dX3_issueDraft_51 fl_RX3_25 rfl rfl rfl ?_
  exact V_vret dX3_issueDraft_54 rfl (⟨rfl, rfl⟩)
theorem k_X5_issueDraft {g : G0} {j : Nat → Nat → Int64} (d : Nat) {i : Nat → Nat → Int32} {c K n : Nat} (hc : i 3 5 = nI c) (h6 : c ≤ 6) (hK : i 3 4 = nI K) (hK1 : 1 ≤ K) (hK6 : K ≤ 6) (hcK : c ≤ K) (hn : i 2 2 = nI n) (hn16 : n < 16)  : C g m_X5_issueDraft (d + 3) 0 0 false [.ref 1] (mk i j) (rets (none) (mk (gnF (isu i c K n) 4) j)) := by
  refine C_of (L := [some (.ref 1)]) rfl ?_
  refine L_aload_n_0 dX5_issueDraft_0 ?_
  refine U_getR (r := 2) dX5_issueDraft_1 fl_RX5_12 rfl rfl rfl ?_
  refine U_cV1 (d := d + 2) (lkR_RX5_32 rfl dX5_issueDraft_4) (k_X3_issueDraft _ hc h6 hK hK1 hK6 hcK hn hn16) ⟨pn_X3_issueDraft, rfl, (Nat.le_of_ble_eq_true rfl), (Nat.le_of_ble_eq_true rfl), rfl⟩ (⟨_, _, rfl, rfl, rfl⟩) (cfS cf3) (Nat.le_of_ble_eq_true rfl) ?_
  refine L_aload_n_0 dX5_issueDraft_7 ?_
  refine U_cV1 (d := d + 2) (lkR_RX5_35 rfl dX5_issueDraft_8) (k_X5_giveNotice _) ⟨pn_X5_giveNotice, rfl, (Nat.le_of_ble_eq_true rfl), (Nat.le_of_ble_eq_true rfl), rfl⟩ (⟨_, _, rfl, rfl, rfl⟩) (cfS cf5) (Nat.le_of_ble_eq_true rfl) ?_
  exact V_vret dX5_issueDraft_11 rfl (⟨rfl, rfl⟩)
theorem k_X5_takeNumber {g : G0} {j : Nat → Nat → Int64} (d : Nat) {i : Nat → Nat → Int32} {x : Int32}  : C g m_X5_takeNumber (d + 2) 0 0 false [.ref 1, .int x] (mk i j) (rets (none) (mk (gnF (up2 (up2 i 2 2 x) 3 5 0) 4) j)) := by
  refine C_of (L := [some (.ref 1), some (.int x)]) rfl ?_
  refine L_aload_n_0 dX5_takeNumber_0 ?_
  refine U_getR (r := 2) dX5_takeNumber_1 fl_RX5_12 rfl rfl rfl ?_
  refine L_iload_n_1 dX5_takeNumber_4 ?_
  refine U_cV2 (d := d + 1) (lkR_RX5_38 rfl dX5_takeNumber_5) (k_X3_takeNumber _) ⟨pn_X3_takeNumber, rfl, (Nat.le_of_ble_eq_true rfl), (Nat.le_of_ble_eq_true rfl), rfl⟩ (⟨_, _, rfl, rfl, rfl⟩) (cfS cf3) (Nat.le_of_ble_eq_true rfl) ?_
  refine L_aload_n_0 dX5_takeNumber_8 ?_
  refine U_cV1 (d := d + 1) (lkR_RX5_35 rfl dX5_takeNumber_9) (k_X5_giveNotice _) ⟨pn_X5_giveNotice, rfl, (Nat.le_of_ble_eq_true rfl), (Nat.le_of_ble_eq_true rfl), rfl⟩ (⟨_, _, rfl, rfl, rfl⟩) (cfS cf5) (Nat.le_of_ble_eq_true rfl) ?_
  exact V_vret dX5_takeNumber_12 rfl (⟨rfl, rfl⟩)
def ans (i : Nat → Nat → Int32) (p c : Nat) : Int32 := if i p 0 = 0 then 2 else if i p 2 = i 2 2 then 0 else if ¬ nwr (i 2 2) (i p 2) then 3 else if ¬ csl i (i p 2) c 0 = -1 ∧ ¬ (1 + bcI (i 2 1)) < csl i (i p 2) c 0 then 1 else 2
def coa (i : Nat → Nat → Int32) (a e : Int32) (c : Nat) : Int32 := if a = 1 then csl i e c 0 else if a = 2 then 1 + bcI (i 2 1) else 0
theorem k_X3_answerTo {g : G0} {j : Nat → Nat → Int64} (d : Nat) {i : Nat → Nat → Int32} {c : Nat} (hc : i 3 5 = nI c) (h6 : c ≤ 6) {p : Nat} (hp : kzS p = (1, 0))  : C g m_X3_answerTo (d + 2) 0 0 false [.ref 2, .ref p] (mk i j) (rets (some (.int (ans i p c))) (mk i j)) := by
  refine C_of (L := [some (.ref 2), some (.ref p), none]) rfl ?_
  refine L_aload_n_1 dX3_answerTo_0 ?_
  refine U_getI dX3_answerTo_1 fl_RX3_56 hp rfl ?_
  refine V_ifx_ne (tgt := 9) dX3_answerTo_4 (by decide) (fun h4 => ?_) (fun h4 => ?_)
  · refine L_aload_n_1 dX3_answerTo_9 ?_
    refine U_getI dX3_answerTo_10 fl_RX3_62 hp rfl ?_
    refine L_aload_n_0 dX3_answerTo_13 ?_
    refine U_getI dX3_answerTo_14 fl_RX3_25 rfl rfl ?_
    refine V_icmp_ne (tgt := 22) dX3_answerTo_17 (by decide) (fun h17 => ?_) (fun h17 => ?_)
    · refine L_aload_n_0 dX3_answerTo_22 ?_
      refine U_getI dX3_answerTo_23 fl_RX3_25 rfl rfl ?_
      refine L_aload_n_1 dX3_answerTo_26 ?_
      refine U_getI dX3_answerTo_27 fl_RX3_62 hp rfl ?_
      refine U_cv2 (d := d + 1) (lkR_RX3_65 rfl dX3_answerTo_30) (k_X6_isNewer _) ⟨pn_X6_isNewer, rfl, (Nat.le_of_ble_eq_true rfl), (Nat.le_of_ble_eq_true rfl), rfl⟩ (trivial) cfn (Nat.le_of_ble_eq_true rfl) ?_
      refine V_ifx_ne (tgt := 38) dX3_answerTo_33 (by decide) (fun h33 => ?_) (fun h33 => ?_)
      · refine L_aload_n_0 dX3_answerTo_38 ?_
        refine U_getR (r := 3) dX3_answerTo_39 fl_RX3_12 rfl rfl rfl ?_
        refine L_aload_n_1 dX3_answerTo_42 ?_
        refine U_getI dX3_answerTo_43 fl_RX3_62 hp rfl ?_
        refine U_cv2 (d := d + 1) (lkR_RX3_68 rfl dX3_answerTo_46) (k_X0_costSince _ hc h6) ⟨pn_X0_costSince, rfl, (Nat.le_of_ble_eq_true rfl), (Nat.le_of_ble_eq_true rfl), rfl⟩ (⟨_, _, rfl, rfl, rfl⟩) (cfS cf0) (Nat.le_of_ble_eq_true rfl) ?_
        refine V_istore_n_2 dX3_answerTo_49 (Nat.le_of_ble_eq_true rfl) rfl ?_
        refine L_iload_n_2 dX3_answerTo_50 ?_
        refine V_iconst (v := (-1)) (by decide) dX3_answerTo_51 ?_
        refine V_icmp_eq (tgt := 67) dX3_answerTo_52 (by decide) (fun h52 => ?_) (fun h52 => ?_)
        · refine V_iconst (v := 2) (by decide) dX3_answerTo_67 ?_
          exact V_iret dX3_answerTo_68 rfl rfl (by
    refine rtI ?_
    unfold ans
    first
    | (rw [if_pos h4]; done)
    | (rw [if_neg h4, if_pos h17]; done)
    | (rw [if_neg h4, if_neg h17, if_pos (b2z.mp h33)]; done)
    | (rw [if_neg h4, if_neg h17, if_neg (fun z => h33 (b2z.mpr z)), if_pos ⟨h52, h60⟩]; done)
    | (rw [if_neg h4, if_neg h17, if_neg (fun z => h33 (b2z.mpr z)), if_neg (fun z => z.1 h52)]; done)
    | (rw [if_neg h4, if_neg h17, if_neg (fun z => h33 (b2z.mpr z)), if_neg (fun z => z.2 h60)]; done))
        · refine L_iload_n_2 dX3_answerTo_55 ?_
          refine L_aload_n_0 dX3_answerTo_56 ?_
          refine U_cv1 (d := d + 1) (lkR_RX3_71 rfl dX3_answerTo_57) (k_X3_wholeListCost _) ⟨pn_X3_wholeListCost, rfl, (Nat.le_of_ble_eq_true rfl), (Nat.le_of_ble_eq_true rfl), rfl⟩ (⟨_, _, rfl, rfl, rfl⟩) (cfS cf3) (Nat.le_of_ble_eq_true rfl) ?_
          refine V_icmp_gt (tgt := 67) dX3_answerTo_60 (by decide) (fun h60 => ?_) (fun h60 => ?_)
          · refine V_iconst (v := 2) (by decide) dX3_answerTo_67 ?_
            exact V_iret dX3_answerTo_68 rfl rfl (by
    refine rtI ?_
    unfold ans
    first
    | (rw [if_pos h4]; done)
    | (rw [if_neg h4, if_pos h17]; done)
    | (rw [if_neg h4, if_neg h17, if_pos (b2z.mp h33)]; done)
    | (rw [if_neg h4, if_neg h17, if_neg (fun z => h33 (b2z.mpr z)), if_pos ⟨h52, h60⟩]; done)
    | (rw [if_neg h4, if_neg h17, if_neg (fun z => h33 (b2z.mpr z)), if_neg (fun z => z.1 h52)]; done)
    | (rw [if_neg h4, if_neg h17, if_neg (fun z => h33 (b2z.mpr z)), if_neg (fun z => z.2 h60)]; done))
          · refine V_iconst (v := 1) (by decide) dX3_answerTo_63 ?_
            refine V_goto (tgt := 68) dX3_answerTo_64 (by decide) ?_
            exact V_iret dX3_answerTo_68 rfl rfl (by
    refine rtI ?_
    unfold ans
    first
    | (rw [if_pos h4]; done)
    | (rw [if_neg h4, if_pos h17]; done)
    | (rw [if_neg h4, if_neg h17, if_pos (b2z.mp h33)]; done)
    | (rw [if_neg h4, if_neg h17, if_neg (fun z => h33 (b2z.mpr z)), if_pos ⟨h52, h60⟩]; done)
    | (rw [if_neg h4, if_neg h17, if_neg (fun z => h33 (b2z.mpr z)), if_neg (fun z => z.1 h52)]; done)
    | (rw [if_neg h4, if_neg h17, if_neg (fun z => h33 (b2z.mpr z)), if_neg (fun z => z.2 h60)]; done))
      · refine V_iconst (v := 3) (by decide) dX3_answerTo_36 ?_
        exact V_iret dX3_answerTo_37 rfl rfl (by
    refine rtI ?_
    unfold ans
    first
    | (rw [if_pos h4]; done)
    | (rw [if_neg h4, if_pos h17]; done)
    | (rw [if_neg h4, if_neg h17, if_pos (b2z.mp h33)]; done)
    | (rw [if_neg h4, if_neg h17, if_neg (fun z => h33 (b2z.mpr z)), if_pos ⟨h52, h60⟩]; done)
    | (rw [if_neg h4, if_neg h17, if_neg (fun z => h33 (b2z.mpr z)), if_neg (fun z => z.1 h52)]; done)
    | (rw [if_neg h4, if_neg h17, if_neg (fun z => h33 (b2z.mpr z)), if_neg (fun z => z.2 h60)]; done))
    · refine V_iconst (v := 0) (by decide) dX3_answerTo_20 ?_
      exact V_iret dX3_answerTo_21 rfl rfl (by
    refine rtI ?_
    unfold ans
    first
    | (rw [if_pos h4]; done)
    | (rw [if_neg h4, if_pos h17]; done)
    | (rw [if_neg h4, if_neg h17, if_pos (b2z.mp h33)]; done)
    | (rw [if_neg h4, if_neg h17, if_neg (fun z => h33 (b2z.mpr z)), if_pos ⟨h52, h60⟩]; done)
    | (rw [if_neg h4, if_neg h17, if_neg (fun z => h33 (b2z.mpr z)), if_neg (fun z => z.1 h52)]; done)
    | (rw [if_neg h4, if_neg h17, if_neg (fun z => h33 (b2z.mpr z)), if_neg (fun z => z.2 h60)]; done))
  · refine V_iconst (v := 2) (by decide) dX3_answerTo_7 ?_
    exact V_iret dX3_answerTo_8 rfl rfl (by
    refine rtI ?_
    unfold ans
    first
    | (rw [if_pos h4]; done)
    | (rw [if_neg h4, if_pos h17]; done)
    | (rw [if_neg h4, if_neg h17, if_pos (b2z.mp h33)]; done)
    | (rw [if_neg h4, if_neg h17, if_neg (fun z => h33 (b2z.mpr z)), if_pos ⟨h52, h60⟩]; done)
    | (rw [if_neg h4, if_neg h17, if_neg (fun z => h33 (b2z.mpr z)), if_neg (fun z => z.1 h52)]; done)
    | (rw [if_neg h4, if_neg h17, if_neg (fun z => h33 (b2z.mpr z)), if_neg (fun z => z.2 h60)]; done))
theorem k_X3_costOfAnswer {g : G0} {j : Nat → Nat → Int64} (d : Nat) {i : Nat → Nat → Int32} {c : Nat} (hc : i 3 5 = nI c) (h6 : c ≤ 6) {a e : Int32}  : C g m_X3_costOfAnswer (d + 2) 0 0 false [.ref 2, .int a, .int e] (mk i j) (rets (some (.int (coa i a e c))) (mk i j)) := by
  refine C_of (L := [some (.ref 2), some (.int a), some (.int e)]) rfl ?_
  refine L_iload_n_1 dX3_costOfAnswer_0 ?_
  refine V_iconst (v := 1) (by decide) dX3_costOfAnswer_1 ?_
  refine V_icmp_ne (tgt := 14) dX3_costOfAnswer_2 (by decide) (fun h2 => ?_) (fun h2 => ?_)
  · refine L_iload_n_1 dX3_costOfAnswer_14 ?_
    refine V_iconst (v := 2) (by decide) dX3_costOfAnswer_15 ?_
    refine V_icmp_ne (tgt := 26) dX3_costOfAnswer_16 (by decide) (fun h16 => ?_) (fun h16 => ?_)
    · refine V_iconst (v := 0) (by decide) dX3_costOfAnswer_26 ?_
      exact V_iret dX3_costOfAnswer_27 rfl rfl (by
    refine rtI ?_
    unfold coa
    first | (rw [if_pos h2]; done) | (rw [if_neg h2, if_pos h16]; done) | (rw [if_neg h2, if_neg h16]; done))
    · refine L_aload_n_0 dX3_costOfAnswer_19 ?_
      refine U_cv1 (d := d + 1) (lkR_RX3_71 rfl dX3_costOfAnswer_20) (k_X3_wholeListCost _) ⟨pn_X3_wholeListCost, rfl, (Nat.le_of_ble_eq_true rfl), (Nat.le_of_ble_eq_true rfl), rfl⟩ (⟨_, _, rfl, rfl, rfl⟩) (cfS cf3) (Nat.le_of_ble_eq_true rfl) ?_
      refine V_goto (tgt := 27) dX3_costOfAnswer_23 (by decide) ?_
      exact V_iret dX3_costOfAnswer_27 rfl rfl (by
    refine rtI ?_
    unfold coa
    first | (rw [if_pos h2]; done) | (rw [if_neg h2, if_pos h16]; done) | (rw [if_neg h2, if_neg h16]; done))
  · refine L_aload_n_0 dX3_costOfAnswer_5 ?_
    refine U_getR (r := 3) dX3_costOfAnswer_6 fl_RX3_12 rfl rfl rfl ?_
    refine L_iload_n_2 dX3_costOfAnswer_9 ?_
    refine U_cv2 (d := d + 1) (lkR_RX3_68 rfl dX3_costOfAnswer_10) (k_X0_costSince _ hc h6) ⟨pn_X0_costSince, rfl, (Nat.le_of_ble_eq_true rfl), (Nat.le_of_ble_eq_true rfl), rfl⟩ (⟨_, _, rfl, rfl, rfl⟩) (cfS cf0) (Nat.le_of_ble_eq_true rfl) ?_
    exact V_iret dX3_costOfAnswer_13 rfl rfl (by
    refine rtI ?_
    unfold coa
    first | (rw [if_pos h2]; done) | (rw [if_neg h2, if_pos h16]; done) | (rw [if_neg h2, if_neg h16]; done))
theorem k_X5_nextCostOf {g : G0} {j : Nat → Nat → Int64} (d : Nat) {i : Nat → Nat → Int32} {c : Nat} (hc : i 3 5 = nI c) (h6 : c ≤ 6) {p : Nat} (hp : kzS p = (1, 0))  : C g m_X5_nextCostOf (d + 3) 0 0 false [.ref 1, .ref p] (mk i j) (rets (some (.int (coa i (ans i p c) (i p 2) c))) (mk i j)) := by
  refine C_of (L := [some (.ref 1), some (.ref p)]) rfl ?_
  refine L_aload_n_0 dX5_nextCostOf_0 ?_
  refine U_getR (r := 2) dX5_nextCostOf_1 fl_RX5_12 rfl rfl rfl ?_
  refine L_aload_n_0 dX5_nextCostOf_4 ?_
  refine U_getR (r := 2) dX5_nextCostOf_5 fl_RX5_12 rfl rfl rfl ?_
  refine L_aload_n_1 dX5_nextCostOf_8 ?_
  refine U_cv2 (d := d + 2) (lkR_RX5_49 rfl dX5_nextCostOf_9) (k_X3_answerTo _ hc h6 hp) ⟨pn_X3_answerTo, rfl, (Nat.le_of_ble_eq_true rfl), (Nat.le_of_ble_eq_true rfl), rfl⟩ (⟨_, _, rfl, rfl, rfl⟩) (cfS cf3) (Nat.le_of_ble_eq_true rfl) ?_
  refine L_aload_n_1 dX5_nextCostOf_12 ?_
  refine U_getI dX5_nextCostOf_13 fl_RX5_53 hp rfl ?_
  refine U_cv3 (d := d + 2) (lkR_RX5_57 rfl dX5_nextCostOf_16) (k_X3_costOfAnswer _ hc h6) ⟨pn_X3_costOfAnswer, rfl, (Nat.le_of_ble_eq_true rfl), (Nat.le_of_ble_eq_true rfl), rfl⟩ (⟨_, _, rfl, rfl, rfl⟩) (cfS cf3) (Nat.le_of_ble_eq_true rfl) ?_
  exact V_iret dX5_nextCostOf_19 rfl rfl (⟨rfl, rfl⟩)
def bnW (i : Nat → Nat → Int32) (p c : Nat) (a : Int32) : Nat → Nat → Int32 :=
  let i1 := up2 i p 4 0
  let i2 := up2 i1 p 5 (i1 p 5 + coa i1 a (i1 p 2) c)
  let i3 := up2 i2 p 6 (i2 p 6 + (1 + bcI (i2 2 1)))
  let i4 := up2 i3 p 1 (if a = 2 then i3 2 1 else apl i3 (i3 p 2) c 0 (i3 p 1) false)
  let i5 := up2 i4 p 0 1
  up2 i5 p 2 (i5 2 2)
def bnI (i : Nat → Nat → Int32) (p c : Nat) : Nat → Nat → Int32 := if ans i p c = 1 ∨ ans i p c = 2 then bnW i p c (ans i p c) else up2 i p 4 0
theorem bnI_oth {i : Nat → Nat → Int32} {p c a f : Nat} (h : a ≠ p) : bnI i p c a f = i a f := by
  unfold bnI
  split
  · unfold bnW; simp only [up2_ne h]
  · exact up2_ne h
theorem k_X5_bringNews {g : G0} {j : Nat → Nat → Int64} (d : Nat) {i : Nat → Nat → Int32} {c : Nat} (hc : i 3 5 = nI c) (h6 : c ≤ 6) {p : Nat} (hp : kzS p = (1, 0)) (hp9 : 9 ≤ p)  : C g m_X5_bringNews (d + 3) 0 0 false [.ref 1, .ref p] (mk i j) (rets (some (.int (ans i p c))) (mk (bnI i p c) j)) := by
  refine C_of (L := [some (.ref 1), some (.ref p), none]) rfl ?_
  have hp3 : 3 ≠ p := by omega
  refine L_aload_n_0 dX5_bringNews_0 ?_
  refine U_getR (r := 2) dX5_bringNews_1 fl_RX5_12 rfl rfl rfl ?_
  refine L_aload_n_1 dX5_bringNews_4 ?_
  refine U_cv2 (d := d + 2) (lkR_RX5_49 rfl dX5_bringNews_5) (k_X3_answerTo _ hc h6 hp) ⟨pn_X3_answerTo, rfl, (Nat.le_of_ble_eq_true rfl), (Nat.le_of_ble_eq_true rfl), rfl⟩ (⟨_, _, rfl, rfl, rfl⟩) (cfS cf3) (Nat.le_of_ble_eq_true rfl) ?_
  refine V_istore_n_2 dX5_bringNews_8 (Nat.le_of_ble_eq_true rfl) rfl ?_
  refine L_aload_n_1 dX5_bringNews_9 ?_
  refine V_iconst (v := 0) (by decide) dX5_bringNews_10 ?_
  refine U_putZ dX5_bringNews_11 fl_RX5_46 hp rfl rfl (Or.inl rfl) ?_
  refine L_iload_n_2 dX5_bringNews_14 ?_
  refine V_iconst (v := 1) (by decide) dX5_bringNews_15 ?_
  refine V_icmp_eq (tgt := 24) dX5_bringNews_16 (by decide) (fun h16 => ?_) (fun h16 => ?_)
  · refine L_aload_n_1 dX5_bringNews_24 ?_
    refine V_dup rfl dX5_bringNews_25 ?_
    refine U_getI dX5_bringNews_26 fl_RX5_61 hp rfl ?_
    refine L_aload_n_0 dX5_bringNews_29 ?_
    refine U_getR (r := 2) dX5_bringNews_30 fl_RX5_12 rfl rfl rfl ?_
    refine L_iload_n_2 dX5_bringNews_33 ?_
    refine L_aload_n_1 dX5_bringNews_34 ?_
    refine U_getI dX5_bringNews_35 fl_RX5_53 hp rfl ?_
    refine U_cv3 (d := d + 2) (lkR_RX5_57 rfl dX5_bringNews_38) (k_X3_costOfAnswer _ (by show up2 _ _ _ _ _ _ = _; simp only [up2_ne hp3]; exact hc) h6) ⟨pn_X3_costOfAnswer, rfl, (Nat.le_of_ble_eq_true rfl), (Nat.le_of_ble_eq_true rfl), rfl⟩ (⟨_, _, rfl, rfl, rfl⟩) (cfS cf3) (Nat.le_of_ble_eq_true rfl) ?_
    refine V_iadd dX5_bringNews_41 ?_
    refine U_putI dX5_bringNews_42 fl_RX5_61 hp rfl rfl ?_
    refine L_aload_n_1 dX5_bringNews_45 ?_
    refine V_dup rfl dX5_bringNews_46 ?_
    refine U_getI dX5_bringNews_47 fl_RX5_64 hp rfl ?_
    refine L_aload_n_0 dX5_bringNews_50 ?_
    refine U_getR (r := 2) dX5_bringNews_51 fl_RX5_12 rfl rfl rfl ?_
    refine U_cv1 (d := d + 2) (lkR_RX5_67 rfl dX5_bringNews_54) (k_X3_wholeListCost _) ⟨pn_X3_wholeListCost, rfl, (Nat.le_of_ble_eq_true rfl), (Nat.le_of_ble_eq_true rfl), rfl⟩ (⟨_, _, rfl, rfl, rfl⟩) (cfS cf3) (Nat.le_of_ble_eq_true rfl) ?_
    refine V_iadd dX5_bringNews_57 ?_
    refine U_putI dX5_bringNews_58 fl_RX5_64 hp rfl rfl ?_
    refine L_aload_n_1 dX5_bringNews_61 ?_
    refine L_iload_n_2 dX5_bringNews_62 ?_
    refine V_iconst (v := 2) (by decide) dX5_bringNews_63 ?_
    refine V_icmp_ne (tgt := 77) dX5_bringNews_64 (by decide) (fun h64 => ?_) (fun h64 => ?_)
    · refine L_aload_n_0 dX5_bringNews_77 ?_
      refine U_getR (r := 2) dX5_bringNews_78 fl_RX5_12 rfl rfl rfl ?_
      refine U_getR (r := 3) dX5_bringNews_81 fl_RX5_74 rfl rfl rfl ?_
      refine L_aload_n_1 dX5_bringNews_84 ?_
      refine U_getI dX5_bringNews_85 fl_RX5_53 hp rfl ?_
      refine L_aload_n_1 dX5_bringNews_88 ?_
      refine U_getI dX5_bringNews_89 fl_RX5_78 hp rfl ?_
      refine U_cv3 (d := d + 2) (lkR_RX5_81 rfl dX5_bringNews_92) (k_X0_appliedSince _ (by show up2 _ _ _ _ _ _ = _; simp only [up2_ne hp3]; exact hc) h6) ⟨pn_X0_appliedSince, rfl, (Nat.le_of_ble_eq_true rfl), (Nat.le_of_ble_eq_true rfl), rfl⟩ (⟨_, _, rfl, rfl, rfl⟩) (cfS cf0) (Nat.le_of_ble_eq_true rfl) ?_
      refine U_putI dX5_bringNews_95 fl_RX5_78 hp rfl rfl ?_
      refine L_aload_n_1 dX5_bringNews_98 ?_
      refine V_iconst (v := 1) (by decide) dX5_bringNews_99 ?_
      refine U_putZ dX5_bringNews_100 fl_RX5_86 hp rfl rfl (Or.inr rfl) ?_
      refine L_aload_n_1 dX5_bringNews_103 ?_
      refine L_aload_n_0 dX5_bringNews_104 ?_
      refine U_getR (r := 2) dX5_bringNews_105 fl_RX5_12 rfl rfl rfl ?_
      refine U_getI dX5_bringNews_108 fl_RX5_89 rfl rfl ?_
      refine U_putI dX5_bringNews_111 fl_RX5_53 hp rfl rfl ?_
      refine L_iload_n_2 dX5_bringNews_114 ?_
      exact V_iret dX5_bringNews_115 rfl rfl (by
    refine ⟨rfl, ?_⟩
    unfold bnI
    first
    | (rw [if_pos (Or.inl h16)]; first | (simp only [bnW, if_pos h64]; done) | (simp only [bnW, if_neg h64]; done))
    | (rw [if_pos (Or.inr h21)]; first | (simp only [bnW, if_pos h64]; done) | (simp only [bnW, if_neg h64]; done))
    | (rw [if_neg (fun z => z.elim h16 h21)]; done))
    · refine L_aload_n_0 dX5_bringNews_67 ?_
      refine U_getR (r := 2) dX5_bringNews_68 fl_RX5_12 rfl rfl rfl ?_
      refine U_getI dX5_bringNews_71 fl_RX5_71 rfl rfl ?_
      refine V_goto (tgt := 95) dX5_bringNews_74 (by decide) ?_
      refine U_putI dX5_bringNews_95 fl_RX5_78 hp rfl rfl ?_
      refine L_aload_n_1 dX5_bringNews_98 ?_
      refine V_iconst (v := 1) (by decide) dX5_bringNews_99 ?_
      refine U_putZ dX5_bringNews_100 fl_RX5_86 hp rfl rfl (Or.inr rfl) ?_
      refine L_aload_n_1 dX5_bringNews_103 ?_
      refine L_aload_n_0 dX5_bringNews_104 ?_
      refine U_getR (r := 2) dX5_bringNews_105 fl_RX5_12 rfl rfl rfl ?_
      refine U_getI dX5_bringNews_108 fl_RX5_89 rfl rfl ?_
      refine U_putI dX5_bringNews_111 fl_RX5_53 hp rfl rfl ?_
      refine L_iload_n_2 dX5_bringNews_114 ?_
      exact V_iret dX5_bringNews_115 rfl rfl (by
    refine ⟨rfl, ?_⟩
    unfold bnI
    first
    | (rw [if_pos (Or.inl h16)]; first | (simp only [bnW, if_pos h64]; done) | (simp only [bnW, if_neg h64]; done))
    | (rw [if_pos (Or.inr h21)]; first | (simp only [bnW, if_pos h64]; done) | (simp only [bnW, if_neg h64]; done))
    | (rw [if_neg (fun z => z.elim h16 h21)]; done))
  · refine L_iload_n_2 dX5_bringNews_19 ?_
    refine V_iconst (v := 2) (by decide) dX5_bringNews_20 ?_
    refine V_icmp_ne (tgt := 114) dX5_bringNews_21 (by decide) (fun h21 => ?_) (fun h21 => ?_)
    · refine L_iload_n_2 dX5_bringNews_114 ?_
      exact V_iret dX5_bringNews_115 rfl rfl (by
    refine ⟨rfl, ?_⟩
    unfold bnI
    first
    | (rw [if_pos (Or.inl h16)]; first | (simp only [bnW, if_pos h64]; done) | (simp only [bnW, if_neg h64]; done))
    | (rw [if_pos (Or.inr h21)]; first | (simp only [bnW, if_pos h64]; done) | (simp only [bnW, if_neg h64]; done))
    | (rw [if_neg (fun z => z.elim h16 h21)]; done))
    · refine L_aload_n_1 dX5_bringNews_24 ?_
      refine V_dup rfl dX5_bringNews_25 ?_
      refine U_getI dX5_bringNews_26 fl_RX5_61 hp rfl ?_
      refine L_aload_n_0 dX5_bringNews_29 ?_
      refine U_getR (r := 2) dX5_bringNews_30 fl_RX5_12 rfl rfl rfl ?_
      refine L_iload_n_2 dX5_bringNews_33 ?_
      refine L_aload_n_1 dX5_bringNews_34 ?_
      refine U_getI dX5_bringNews_35 fl_RX5_53 hp rfl ?_
      refine U_cv3 (d := d + 2) (lkR_RX5_57 rfl dX5_bringNews_38) (k_X3_costOfAnswer _ (by show up2 _ _ _ _ _ _ = _; simp only [up2_ne hp3]; exact hc) h6) ⟨pn_X3_costOfAnswer, rfl, (Nat.le_of_ble_eq_true rfl), (Nat.le_of_ble_eq_true rfl), rfl⟩ (⟨_, _, rfl, rfl, rfl⟩) (cfS cf3) (Nat.le_of_ble_eq_true rfl) ?_
      refine V_iadd dX5_bringNews_41 ?_
      refine U_putI dX5_bringNews_42 fl_RX5_61 hp rfl rfl ?_
      refine L_aload_n_1 dX5_bringNews_45 ?_
      refine V_dup rfl dX5_bringNews_46 ?_
      refine U_getI dX5_bringNews_47 fl_RX5_64 hp rfl ?_
      refine L_aload_n_0 dX5_bringNews_50 ?_
      refine U_getR (r := 2) dX5_bringNews_51 fl_RX5_12 rfl rfl rfl ?_
      refine U_cv1 (d := d + 2) (lkR_RX5_67 rfl dX5_bringNews_54) (k_X3_wholeListCost _) ⟨pn_X3_wholeListCost, rfl, (Nat.le_of_ble_eq_true rfl), (Nat.le_of_ble_eq_true rfl), rfl⟩ (⟨_, _, rfl, rfl, rfl⟩) (cfS cf3) (Nat.le_of_ble_eq_true rfl) ?_
      refine V_iadd dX5_bringNews_57 ?_
      refine U_putI dX5_bringNews_58 fl_RX5_64 hp rfl rfl ?_
      refine L_aload_n_1 dX5_bringNews_61 ?_
      refine L_iload_n_2 dX5_bringNews_62 ?_
      refine V_iconst (v := 2) (by decide) dX5_bringNews_63 ?_
      refine V_icmp_ne (tgt := 77) dX5_bringNews_64 (by decide) (fun h64 => ?_) (fun h64 => ?_)
      · refine L_aload_n_0 dX5_bringNews_77 ?_
        refine U_getR (r := 2) dX5_bringNews_78 fl_RX5_12 rfl rfl rfl ?_
        refine U_getR (r := 3) dX5_bringNews_81 fl_RX5_74 rfl rfl rfl ?_
        refine L_aload_n_1 dX5_bringNews_84 ?_
        refine U_getI dX5_bringNews_85 fl_RX5_53 hp rfl ?_
        refine L_aload_n_1 dX5_bringNews_88 ?_
        refine U_getI dX5_bringNews_89 fl_RX5_78 hp rfl ?_
        refine U_cv3 (d := d + 2) (lkR_RX5_81 rfl dX5_bringNews_92) (k_X0_appliedSince _ (by show up2 _ _ _ _ _ _ = _; simp only [up2_ne hp3]; exact hc) h6) ⟨pn_X0_appliedSince, rfl, (Nat.le_of_ble_eq_true rfl), (Nat.le_of_ble_eq_true rfl), rfl⟩ (⟨_, _, rfl, rfl, rfl⟩) (cfS cf0) (Nat.le_of_ble_eq_true rfl) ?_
        refine U_putI dX5_bringNews_95 fl_RX5_78 hp rfl rfl ?_
        refine L_aload_n_1 dX5_bringNews_98 ?_
        refine V_iconst (v := 1) (by decide) dX5_bringNews_99 ?_
        refine U_putZ dX5_bringNews_100 fl_RX5_86 hp rfl rfl (Or.inr rfl) ?_
        refine L_aload_n_1 dX5_bringNews_103 ?_
        refine L_aload_n_0 dX5_bringNews_104 ?_
        refine U_getR (r := 2) dX5_bringNews_105 fl_RX5_12 rfl rfl rfl ?_
        refine U_getI dX5_bringNews_108 fl_RX5_89 rfl rfl ?_
        refine U_putI dX5_bringNews_111 fl_RX5_53 hp rfl rfl ?_
        refine L_iload_n_2 dX5_bringNews_114 ?_
        exact V_iret dX5_bringNews_115 rfl rfl (by
    refine ⟨rfl, ?_⟩
    unfold bnI
    first
    | (rw [if_pos (Or.inl h16)]; first | (simp only [bnW, if_pos h64]; done) | (simp only [bnW, if_neg h64]; done))
    | (rw [if_pos (Or.inr h21)]; first | (simp only [bnW, if_pos h64]; done) | (simp only [bnW, if_neg h64]; done))
    | (rw [if_neg (fun z => z.elim h16 h21)]; done))
      · refine L_aload_n_0 dX5_bringNews_67 ?_
        refine U_getR (r := 2) dX5_bringNews_68 fl_RX5_12 rfl rfl rfl ?_
        refine U_getI dX5_bringNews_71 fl_RX5_71 rfl rfl ?_
        refine V_goto (tgt := 95) dX5_bringNews_74 (by decide) ?_
        refine U_putI dX5_bringNews_95 fl_RX5_78 hp rfl rfl ?_
        refine L_aload_n_1 dX5_bringNews_98 ?_
        refine V_iconst (v := 1) (by decide) dX5_bringNews_99 ?_
        refine U_putZ dX5_bringNews_100 fl_RX5_86 hp rfl rfl (Or.inr rfl) ?_
        refine L_aload_n_1 dX5_bringNews_103 ?_
        refine L_aload_n_0 dX5_bringNews_104 ?_
        refine U_getR (r := 2) dX5_bringNews_105 fl_RX5_12 rfl rfl rfl ?_
        refine U_getI dX5_bringNews_108 fl_RX5_89 rfl rfl ?_
        refine U_putI dX5_bringNews_111 fl_RX5_53 hp rfl rfl ?_
        refine L_iload_n_2 dX5_bringNews_114 ?_
        exact V_iret dX5_bringNews_115 rfl rfl (by
    refine ⟨rfl, ?_⟩
    unfold bnI
    first
    | (rw [if_pos (Or.inl h16)]; first | (simp only [bnW, if_pos h64]; done) | (simp only [bnW, if_neg h64]; done))
    | (rw [if_pos (Or.inr h21)]; first | (simp only [bnW, if_pos h64]; done) | (simp only [bnW, if_neg h64]; done))
    | (rw [if_neg (fun z => z.elim h16 h21)]; done))
def raF (c : Nat) (i : Nat → Nat → Int32) : Nat → Nat → Nat → Int32
  | 0 => i
  | m + 1 => if raF c i m (9 + m) 3 = 0 ∧ ¬ raF c i m (9 + m) 4 = 0 then bnI (raF c i m) (9 + m) c else raF c i m
def raN (c : Nat) (i : Nat → Nat → Int32) : Nat → Int32
  | 0 => 0
  | m + 1 => if raF c i m (9 + m) 3 = 0 ∧ ¬ raF c i m (9 + m) 4 = 0 then raN c i m + 1 else raN c i m
theorem raF_oth {c : Nat} {i : Nat → Nat → Int32} {a f : Nat} : ∀ m, (a < 9 ∨ 9 + m ≤ a) → raF c i m a f = i a f := by
  intro m
  induction m with
  | zero => intro _; rfl
  | succ m ih =>
    intro h
    show (if _ then _ else _ : Nat → Nat → Int32) a f = _
    split
    · rw [bnI_oth (by omega)]; exact ih (by omega)
    · exact ih (by omega)
theorem k_X5_bringNewsToAllWithNotice {g : G0} {j : Nat → Nat → Int64} (d : Nat) {i : Nat → Nat → Int32} {c : Nat} (hc : i 3 5 = nI c) (h6 : c ≤ 6)  : C g m_X5_bringNewsToAllWithNotice (d + 4) 0 0 false [.ref 1] (mk i j) (rets (some (.int (raN c i 4))) (mk (raF c i 4) j)) := by
  refine C_of (L := [some (.ref 1), none, none]) rfl ?_
  have loop : ∀ (n m : Nat), m + n = 4 → V g m_X5_bringNewsToAllWithNotice (d + 4) 0 0 false (Kp g false (rets (some (.int (raN c i 4))) (mk (raF c i 4) j))) 4 [some (.ref 1), some (.int (raN c i m)), some (.int (nI m))] [] (mk (raF c i m) j) := by
    intro n
    induction n with
    | zero =>
      intro m hm
      have hm0 : m = 4 := by omega
      subst hm0
      refine L_iload_n_2 dX5_bringNewsToAllWithNotice_4 ?_
      refine V_iconst (v := 4) (by decide) dX5_bringNewsToAllWithNotice_5 ?_
      refine V_icmp_ge (tgt := 53) dX5_bringNewsToAllWithNotice_6 (by decide) (fun h6_ => ?_) (fun h6_ => ?_)
      · refine L_iload_n_1 dX5_bringNewsToAllWithNotice_53 ?_
        exact V_iret dX5_bringNewsToAllWithNotice_54 rfl rfl (⟨rfl, rfl⟩)
      · exact absurd (by decide) h6_
    | succ n ih =>
      intro m hm
      have hlt : m < 4 := by omega
      refine L_iload_n_2 dX5_bringNewsToAllWithNotice_4 ?_
      refine V_iconst (v := 4) (by decide) dX5_bringNewsToAllWithNotice_5 ?_
      refine V_icmp_ge (tgt := 53) dX5_bringNewsToAllWithNotice_6 (by decide) (fun h6_ => ?_) (fun h6_ => ?_)
      · exact absurd ((nI_leI (a := 4) (b := m) (by omega) (by omega)).mp h6_) (by omega)
      · refine L_aload_n_0 dX5_bringNewsToAllWithNotice_9 ?_
        refine U_getR (r := 8) dX5_bringNewsToAllWithNotice_10 fl_RX5_20 rfl rfl rfl ?_
        refine L_iload_n_2 dX5_bringNewsToAllWithNotice_13 ?_
        refine U_aald (n := m) (r := (9 + m)) dX5_bringNewsToAllWithNotice_14 rfl (Or.inr rfl) (rfl) (by omega) (by decide) (br81 (by omega)) ?_
        refine U_getI dX5_bringNewsToAllWithNotice_15 fl_RX5_42 (bkF1 (by omega)) rfl ?_
        refine V_ifx_ne (tgt := 47) dX5_bringNewsToAllWithNotice_18 (by decide) (fun h18 => ?_) (fun h18 => ?_)
        · refine V_iinc_2 (v := nI (m + 1)) dX5_bringNewsToAllWithNotice_47 (Nat.le_of_ble_eq_true rfl) rfl (nI_1 _) ?_
          refine V_goto (tgt := 4) dX5_bringNewsToAllWithNotice_50 (by decide) ?_
          have e8 := ih (m + 1) (by omega)
          rw [show raF c i (m + 1) = raF c i m from if_neg (fun z => h18 z.1), show raN c i (m + 1) = raN c i m from if_neg (fun z => h18 z.1)] at e8
          exact e8
        · refine L_aload_n_0 dX5_bringNewsToAllWithNotice_21 ?_
          refine U_getR (r := 8) dX5_bringNewsToAllWithNotice_22 fl_RX5_20 rfl rfl rfl ?_
          refine L_iload_n_2 dX5_bringNewsToAllWithNotice_25 ?_
          refine U_aald (n := m) (r := (9 + m)) dX5_bringNewsToAllWithNotice_26 rfl (Or.inr rfl) (rfl) (by omega) (by decide) (br81 (by omega)) ?_
          refine U_getI dX5_bringNewsToAllWithNotice_27 fl_RX5_46 (bkF1 (by omega)) rfl ?_
          refine V_ifx_eq (tgt := 47) dX5_bringNewsToAllWithNotice_30 (by decide) (fun h30 => ?_) (fun h30 => ?_)
          · refine V_iinc_2 (v := nI (m + 1)) dX5_bringNewsToAllWithNotice_47 (Nat.le_of_ble_eq_true rfl) rfl (nI_1 _) ?_
            refine V_goto (tgt := 4) dX5_bringNewsToAllWithNotice_50 (by decide) ?_
            have e8 := ih (m + 1) (by omega)
            rw [show raF c i (m + 1) = raF c i m from if_neg (fun z => z.2 h30), show raN c i (m + 1) = raN c i m from if_neg (fun z => z.2 h30)] at e8
            exact e8
          · refine L_aload_n_0 dX5_bringNewsToAllWithNotice_33 ?_
            refine L_aload_n_0 dX5_bringNewsToAllWithNotice_34 ?_
            refine U_getR (r := 8) dX5_bringNewsToAllWithNotice_35 fl_RX5_20 rfl rfl rfl ?_
            refine L_iload_n_2 dX5_bringNewsToAllWithNotice_38 ?_
            refine U_aald (n := m) (r := (9 + m)) dX5_bringNewsToAllWithNotice_39 rfl (Or.inr rfl) (rfl) (by omega) (by decide) (br81 (by omega)) ?_
            refine U_cv2 (d := d + 3) (lkR_RX5_92 rfl dX5_bringNewsToAllWithNotice_40) (k_X5_bringNews _ ((raF_oth m (by omega)).trans hc) h6 (bkF1 (by omega)) (by omega)) ⟨pn_X5_bringNews, rfl, (Nat.le_of_ble_eq_true rfl), (Nat.le_of_ble_eq_true rfl), rfl⟩ (⟨_, _, rfl, rfl, rfl⟩) (cfS cf5) (Nat.le_of_ble_eq_true rfl) ?_
            refine V_pop rfl dX5_bringNewsToAllWithNotice_43 ?_
            refine V_iinc_1 dX5_bringNewsToAllWithNotice_44 (Nat.le_of_ble_eq_true rfl) rfl (iinc1 _) ?_
            refine V_iinc_2 (v := nI (m + 1)) dX5_bringNewsToAllWithNotice_47 (Nat.le_of_ble_eq_true rfl) rfl (nI_1 _) ?_
            refine V_goto (tgt := 4) dX5_bringNewsToAllWithNotice_50 (by decide) ?_
            have e8 := ih (m + 1) (by omega)
            rw [show raF c i (m + 1) = bnI (raF c i m) (9 + m) c from if_pos ⟨h18, h30⟩, show raN c i (m + 1) = raN c i m + 1 from if_pos ⟨h18, h30⟩] at e8
            exact e8
  refine V_iconst (v := 0) (by decide) dX5_bringNewsToAllWithNotice_0 ?_
  refine V_istore_n_1 dX5_bringNewsToAllWithNotice_1 (Nat.le_of_ble_eq_true rfl) rfl ?_
  refine V_iconst (v := 0) (by decide) dX5_bringNewsToAllWithNotice_2 ?_
  refine V_istore_n_2 dX5_bringNewsToAllWithNotice_3 (Nat.le_of_ble_eq_true rfl) rfl ?_
  exact loop 4 0 (by omega)

