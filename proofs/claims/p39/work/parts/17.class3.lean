theorem up2_ne {i : Nat → Nat → Int32} {k f a b : Nat} {v : Int32} (h : a ≠ k) : up2 i k f v a b = i a b := if_neg (fun z => h z.1)
theorem up2_nf {i : Nat → Nat → Int32} {k f a b : Nat} {v : Int32} (h : b ≠ f) : up2 i k f v a b = i a b := if_neg (fun z => h z.2)
theorem up2_eq {i : Nat → Nat → Int32} {k f : Nat} {v : Int32} : up2 i k f v k f = v := if_pos ⟨rfl, rfl⟩
def cpD (i : Nat → Nat → Int32) (a b m : Nat) : Nat → Nat → Int32 := fun k f => if a + 3 ≤ k ∧ k ≤ a + 6 ∧ f < m then i (k - a + b) f else i k f
def cpE (i : Nat → Nat → Int32) (a b : Nat) : Nat → Nat → Int32 := fun k f => if k = a + 2 ∧ (f = 4 ∨ f = 5) then i (b + 2) f else cpD i a b 6 k f
theorem k_X0_copyFrom {g : G0} {j : Nat → Nat → Int64} (d : Nat) {i : Nat → Nat → Int32} {a b : Nat} (ha : blk a) (hb : blk b) (hab : a + 12 ≤ b ∨ b + 12 ≤ a)  : C g m_X0_copyFrom (d + 0) 0 0 false [.ref (a + 2), .ref (b + 2)] (mk i j) (rets (none) (mk (cpE i a b) j)) := by
  refine C_of (L := [some (.ref (a + 2)), some (.ref (b + 2)), none]) rfl ?_
  have loop : ∀ (n m : Nat), m + n = 6 → V g m_X0_copyFrom (d + 0) 0 0 false (Kp g false (rets (none) (mk (cpE i a b) j))) 2 [some (.ref (a + 2)), some (.ref (b + 2)), some (.int (nI m))] [] (mk (cpD i a b m) j) := by
    intro n
    induction n with
    | zero =>
      intro m hm
      have hm0 : m = 6 := by omega
      subst hm0
      refine L_iload_n_2 dX0_copyFrom_2 ?_
      refine V_bipush (v := 6) (by decide) dX0_copyFrom_3 ?_
      refine V_icmp_ge (tgt := 62) dX0_copyFrom_5 (by decide) (fun h5 => ?_) (fun h5 => ?_)
      · refine L_aload_n_0 dX0_copyFrom_62 ?_
        refine L_aload_n_1 dX0_copyFrom_63 ?_
        refine U_getI dX0_copyFrom_64 fl_RX0_24 (bk2 hb) rfl ?_
        refine U_putI dX0_copyFrom_67 fl_RX0_24 (bk2 ha) rfl rfl ?_
        refine L_aload_n_0 dX0_copyFrom_70 ?_
        refine L_aload_n_1 dX0_copyFrom_71 ?_
        refine U_getI dX0_copyFrom_72 fl_RX0_28 (bk2 hb) rfl ?_
        refine U_putI dX0_copyFrom_75 fl_RX0_28 (bk2 ha) rfl rfl ?_
        exact V_vret dX0_copyFrom_78 rfl (by
    refine ⟨rfl, congrArg (fun z => mk z j) (up2_ext fun k9 f9 => ?_)⟩
    unfold up2 cpE cpD
    (repeat' split) <;> first | rfl | (exact ieq (by omega) (by omega)) | (exfalso; omega) | (simp_all; done))
      · exact absurd (by decide) h5
    | succ n ih =>
      intro m hm
      have hlt : m < 6 := by omega
      refine L_iload_n_2 dX0_copyFrom_2 ?_
      refine V_bipush (v := 6) (by decide) dX0_copyFrom_3 ?_
      refine V_icmp_ge (tgt := 62) dX0_copyFrom_5 (by decide) (fun h5 => ?_) (fun h5 => ?_)
      · exact absurd ((nI_leI (a := 6) (b := m) (by omega) (by omega)).mp h5) (by omega)
      · refine L_aload_n_0 dX0_copyFrom_8 ?_
        refine U_getR (r := (a + 3)) dX0_copyFrom_9 fl_RX0_9 (bk2 ha) rfl (br20 ha) ?_
        refine L_iload_n_2 dX0_copyFrom_12 ?_
        refine L_aload_n_1 dX0_copyFrom_13 ?_
        refine U_getR (r := (b + 3)) dX0_copyFrom_14 fl_RX0_9 (bk2 hb) rfl (br20 hb) ?_
        refine L_iload_n_2 dX0_copyFrom_17 ?_
        refine U_iald (n := m) dX0_copyFrom_18 (bk3 hb) (rfl) (by omega) (by decide) ?_
        refine U_iast (n := m) dX0_copyFrom_19 (bk3 ha) (rfl) (by omega) (by decide) ?_
        refine L_aload_n_0 dX0_copyFrom_20 ?_
        refine U_getR (r := (a + 4)) dX0_copyFrom_21 fl_RX0_15 (bk2 ha) rfl (br21 ha) ?_
        refine L_iload_n_2 dX0_copyFrom_24 ?_
        refine L_aload_n_1 dX0_copyFrom_25 ?_
        refine U_getR (r := (b + 4)) dX0_copyFrom_26 fl_RX0_15 (bk2 hb) rfl (br21 hb) ?_
        refine L_iload_n_2 dX0_copyFrom_29 ?_
        refine U_iald (n := m) dX0_copyFrom_30 (bk4 hb) (rfl) (by omega) (by decide) ?_
        refine U_iast (n := m) dX0_copyFrom_31 (bk4 ha) (rfl) (by omega) (by decide) ?_
        refine L_aload_n_0 dX0_copyFrom_32 ?_
        refine U_getR (r := (a + 5)) dX0_copyFrom_33 fl_RX0_18 (bk2 ha) rfl (br22 ha) ?_
        refine L_iload_n_2 dX0_copyFrom_36 ?_
        refine L_aload_n_1 dX0_copyFrom_37 ?_
        refine U_getR (r := (b + 5)) dX0_copyFrom_38 fl_RX0_18 (bk2 hb) rfl (br22 hb) ?_
        refine L_iload_n_2 dX0_copyFrom_41 ?_
        refine U_iald (n := m) dX0_copyFrom_42 (bk5 hb) (rfl) (by omega) (by decide) ?_
        refine U_iast (n := m) dX0_copyFrom_43 (bk5 ha) (rfl) (by omega) (by decide) ?_
        refine L_aload_n_0 dX0_copyFrom_44 ?_
        refine U_getR (r := (a + 6)) dX0_copyFrom_45 fl_RX0_21 (bk2 ha) rfl (br23 ha) ?_
        refine L_iload_n_2 dX0_copyFrom_48 ?_
        refine L_aload_n_1 dX0_copyFrom_49 ?_
        refine U_getR (r := (b + 6)) dX0_copyFrom_50 fl_RX0_21 (bk2 hb) rfl (br23 hb) ?_
        refine L_iload_n_2 dX0_copyFrom_53 ?_
        refine U_iald (n := m) dX0_copyFrom_54 (bk6 hb) (rfl) (by omega) (by decide) ?_
        refine U_iast (n := m) dX0_copyFrom_55 (bk6 ha) (rfl) (by omega) (by decide) ?_
        refine V_iinc_2 (v := nI (m + 1)) dX0_copyFrom_56 (Nat.le_of_ble_eq_true rfl) rfl (nI_1 _) ?_
        refine V_goto (tgt := 2) dX0_copyFrom_59 (by decide) ?_
        refine V_eqI (i' := cpD i a b (m + 1)) (by
          refine up2_ext fun a9 f9 => ?_
          unfold up2 cpD
          (repeat' split) <;> first | rfl | (exact ieq (by omega) (by omega)) | (exfalso; omega) | (simp_all; done)) ?_
        exact ih (m + 1) (by omega)
  refine V_eqI (i' := cpD i a b 0) (by
    refine up2_ext fun a9 f9 => ?_
    unfold cpD
    rw [if_neg (by omega)]) ?_
  refine V_iconst (v := 0) (by decide) dX0_copyFrom_0 ?_
  refine V_istore_n_2 dX0_copyFrom_1 (Nat.le_of_ble_eq_true rfl) rfl ?_
  exact loop 6 0 (by omega)
def cpP (i : Nat → Nat → Int32) (a b : Nat) : Nat → Nat → Int32 := fun k f => if k = a + 1 ∧ f < 3 then i (b + 1) f else cpE i a b k f
theorem k_X3_copyFrom {g : G0} {j : Nat → Nat → Int64} (d : Nat) {i : Nat → Nat → Int32} {a b : Nat} (ha : blk a) (hb : blk b) (hab : a + 12 ≤ b ∨ b + 12 ≤ a)  : C g m_X3_copyFrom (d + 1) 0 0 false [.ref (a + 1), .ref (b + 1)] (mk i j) (rets (none) (mk (cpP i a b) j)) := by
  refine C_of (L := [some (.ref (a + 1)), some (.ref (b + 1))]) rfl ?_
  refine L_aload_n_0 dX3_copyFrom_0 ?_
  refine L_aload_n_1 dX3_copyFrom_1 ?_
  refine U_getI dX3_copyFrom_2 fl_RX3_18 (bk1 hb) rfl ?_
  refine U_putI dX3_copyFrom_5 fl_RX3_18 (bk1 ha) rfl rfl ?_
  refine L_aload_n_0 dX3_copyFrom_8 ?_
  refine L_aload_n_1 dX3_copyFrom_9 ?_
  refine U_getI dX3_copyFrom_10 fl_RX3_22 (bk1 hb) rfl ?_
  refine U_putI dX3_copyFrom_13 fl_RX3_22 (bk1 ha) rfl rfl ?_
  refine L_aload_n_0 dX3_copyFrom_16 ?_
  refine L_aload_n_1 dX3_copyFrom_17 ?_
  refine U_getI dX3_copyFrom_18 fl_RX3_25 (bk1 hb) rfl ?_
  refine U_putI dX3_copyFrom_21 fl_RX3_25 (bk1 ha) rfl rfl ?_
  refine L_aload_n_0 dX3_copyFrom_24 ?_
  refine U_getR (r := (a + 2)) dX3_copyFrom_25 fl_RX3_12 (bk1 ha) rfl (br13 ha) ?_
  refine L_aload_n_1 dX3_copyFrom_28 ?_
  refine U_getR (r := (b + 2)) dX3_copyFrom_29 fl_RX3_12 (bk1 hb) rfl (br13 hb) ?_
  refine U_cV2 (d := d + 0) (lkR_RX3_28 rfl dX3_copyFrom_32) (k_X0_copyFrom _ ha hb hab) ⟨pn_X0_copyFrom, rfl, (Nat.le_of_ble_eq_true rfl), (Nat.le_of_ble_eq_true rfl), rfl⟩ (⟨_, _, rfl, congrArg Prod.fst ((bk2 ha)), rfl⟩) (cfS cf0) (Nat.le_of_ble_eq_true rfl) ?_
  exact V_vret dX3_copyFrom_35 rfl (by
    refine ⟨rfl, congrArg (fun z => mk z j) (up2_ext fun k9 f9 => ?_)⟩
    unfold cpP cpE cpD up2
    (repeat' split) <;> first | rfl | (exact ieq (by omega) (by omega)) | (exfalso; omega) | (simp_all; done))
def cpF (i : Nat → Nat → Int32) (p q : Nat) : Nat → Nat → Int32 := fun k f => if k = p ∧ f < 7 then i q f else i k f
theorem k_X1_copyFrom {g : G0} {j : Nat → Nat → Int64} (d : Nat) {i : Nat → Nat → Int32} {p q : Nat} (hp : kzS p = (1, 0)) (hq : kzS q = (1, 0)) (hpq : q ≠ p) (z0 : i q 0 = 0 ∨ i q 0 = 1) (z3 : i q 3 = 0 ∨ i q 3 = 1) (z4 : i q 4 = 0 ∨ i q 4 = 1)  : C g m_X1_copyFrom (d + 0) 0 0 false [.ref p, .ref q] (mk i j) (rets (none) (mk (cpF i p q) j)) := by
  refine C_of (L := [some (.ref p), some (.ref q)]) rfl ?_
  refine L_aload_n_0 dX1_copyFrom_0 ?_
  refine L_aload_n_1 dX1_copyFrom_1 ?_
  refine U_getI dX1_copyFrom_2 fl_RX1_9 hq rfl ?_
  refine U_putZ dX1_copyFrom_5 fl_RX1_9 hp rfl rfl z0 ?_
  refine L_aload_n_0 dX1_copyFrom_8 ?_
  refine L_aload_n_1 dX1_copyFrom_9 ?_
  refine U_getI dX1_copyFrom_10 fl_RX1_15 hq rfl ?_
  refine U_putI dX1_copyFrom_13 fl_RX1_15 hp rfl rfl ?_
  refine L_aload_n_0 dX1_copyFrom_16 ?_
  refine L_aload_n_1 dX1_copyFrom_17 ?_
  refine U_getI dX1_copyFrom_18 fl_RX1_19 hq rfl ?_
  refine U_putI dX1_copyFrom_21 fl_RX1_19 hp rfl rfl ?_
  refine L_aload_n_0 dX1_copyFrom_24 ?_
  refine L_aload_n_1 dX1_copyFrom_25 ?_
  refine U_getI dX1_copyFrom_26 fl_RX1_22 hq rfl ?_
  refine U_putZ dX1_copyFrom_29 fl_RX1_22 hp rfl rfl (by simp only [up2_ne hpq]; exact z3) ?_
  refine L_aload_n_0 dX1_copyFrom_32 ?_
  refine L_aload_n_1 dX1_copyFrom_33 ?_
  refine U_getI dX1_copyFrom_34 fl_RX1_25 hq rfl ?_
  refine U_putZ dX1_copyFrom_37 fl_RX1_25 hp rfl rfl (by simp only [up2_ne hpq]; exact z4) ?_
  refine L_aload_n_0 dX1_copyFrom_40 ?_
  refine L_aload_n_1 dX1_copyFrom_41 ?_
  refine U_getI dX1_copyFrom_42 fl_RX1_28 hq rfl ?_
  refine U_putI dX1_copyFrom_45 fl_RX1_28 hp rfl rfl ?_
  refine L_aload_n_0 dX1_copyFrom_48 ?_
  refine L_aload_n_1 dX1_copyFrom_49 ?_
  refine U_getI dX1_copyFrom_50 fl_RX1_31 hq rfl ?_
  refine U_putI dX1_copyFrom_53 fl_RX1_31 hp rfl rfl ?_
  exact V_vret dX1_copyFrom_56 rfl (by
    refine ⟨rfl, congrArg (fun z => mk z j) (up2_ext fun k9 f9 => ?_)⟩
    simp only [up2_ne hpq]
    unfold up2 cpF
    (repeat' split) <;> first | rfl | (exact ieq (by omega) (by omega)) | (exfalso; omega) | (simp_all; done))
def cpS (i : Nat → Nat → Int32) (a b m : Nat) : Nat → Nat → Int32 := fun k f => if a + 8 ≤ k ∧ k < a + 8 + m ∧ f < 7 then i (k - a + b) f else cpP i a b k f
theorem cpP_off {i : Nat → Nat → Int32} {a b k f : Nat} (h : k < a + 1 ∨ a + 6 < k) : cpP i a b k f = i k f := by
  unfold cpP cpE cpD
  rw [if_neg (by omega), if_neg (by omega), if_neg (by omega)]
theorem cpS_off {i : Nat → Nat → Int32} {a b k f m : Nat} (h : k < a + 1 ∨ a + 8 + m ≤ k) : cpS i a b m k f = i k f := by
  unfold cpS
  rw [if_neg (by omega)]
  by_cases h2 : k < a + 1 ∨ a + 6 < k
  · exact cpP_off h2
  · omega
theorem cpS_src {i : Nat → Nat → Int32} {a b m f g : Nat} (hab : a + 12 ≤ b ∨ b + 12 ≤ a) (hm : m ≤ 4) (hg : g < 4) : cpS i a b m (b + 8 + g) f = i (b + 8 + g) f := by
  unfold cpS
  rw [if_neg (by omega)]
  exact cpP_off (by omega)
theorem cpS_dst {i : Nat → Nat → Int32} {a b m f : Nat} : cpS i a b m (a + 8 + m) f = i (a + 8 + m) f := by
  unfold cpS
  rw [if_neg (by omega)]
  exact cpP_off (by omega)
def bits (i : Nat → Nat → Int32) (b : Nat) : Prop := ∀ f, f < 4 → (i (b + 8 + f) 0 = 0 ∨ i (b + 8 + f) 0 = 1) ∧ (i (b + 8 + f) 3 = 0 ∨ i (b + 8 + f) 3 = 1) ∧ (i (b + 8 + f) 4 = 0 ∨ i (b + 8 + f) 4 = 1)
theorem k_X5_copyFrom {g : G0} {j : Nat → Nat → Int64} (d : Nat) {i : Nat → Nat → Int32} {a b : Nat} (ha : blk a) (hb : blk b) (hab : a + 12 ≤ b ∨ b + 12 ≤ a) (hz : bits i b)  : C g m_X5_copyFrom (d + 2) 0 0 false [.ref a, .ref b] (mk i j) (rets (none) (mk (cpS i a b 4) j)) := by
  refine C_of (L := [some (.ref a), some (.ref b), none]) rfl ?_
  have loop : ∀ (n m : Nat), m + n = 4 → V g m_X5_copyFrom (d + 2) 0 0 false (Kp g false (rets (none) (mk (cpS i a b 4) j))) 13 [some (.ref a), some (.ref b), some (.int (nI m))] [] (mk (cpS i a b m) j) := by
    intro n
    induction n with
    | zero =>
      intro m hm
      have hm0 : m = 4 := by omega
      subst hm0
      refine L_iload_n_2 dX5_copyFrom_13 ?_
      refine V_iconst (v := 4) (by decide) dX5_copyFrom_14 ?_
      refine V_icmp_ge (tgt := 39) dX5_copyFrom_15 (by decide) (fun h15 => ?_) (fun h15 => ?_)
      · exact V_vret dX5_copyFrom_39 rfl (⟨rfl, rfl⟩)
      · exact absurd (by decide) h15
    | succ n ih =>
      intro m hm
      have hlt : m < 4 := by omega
      refine L_iload_n_2 dX5_copyFrom_13 ?_
      refine V_iconst (v := 4) (by decide) dX5_copyFrom_14 ?_
      refine V_icmp_ge (tgt := 39) dX5_copyFrom_15 (by decide) (fun h15 => ?_) (fun h15 => ?_)
      · exact absurd ((nI_leI (a := 4) (b := m) (by omega) (by omega)).mp h15) (by omega)
      · refine L_aload_n_0 dX5_copyFrom_18 ?_
        refine U_getR (r := (a + 7)) dX5_copyFrom_19 fl_RX5_20 (bk0 ha) rfl (br01 ha) ?_
        refine L_iload_n_2 dX5_copyFrom_22 ?_
        refine U_aald (n := m) (r := (a + 8 + m)) dX5_copyFrom_23 (bk7 ha) (Or.inr rfl) (rfl) (by omega) (by decide) (br7 ha (by omega)) ?_
        refine L_aload_n_1 dX5_copyFrom_24 ?_
        refine U_getR (r := (b + 7)) dX5_copyFrom_25 fl_RX5_20 (bk0 hb) rfl (br01 hb) ?_
        refine L_iload_n_2 dX5_copyFrom_28 ?_
        refine U_aald (n := m) (r := (b + 8 + m)) dX5_copyFrom_29 (bk7 hb) (Or.inr rfl) (rfl) (by omega) (by decide) (br7 hb (by omega)) ?_
        refine U_cV2 (d := d + 1) (lkR_RX5_29 rfl dX5_copyFrom_30) (k_X1_copyFrom _ (bkF ha (by omega)) (bkF hb (by omega)) (by omega) (by rw [cpS_src hab (by omega) hlt]; exact (hz m hlt).1) (by rw [cpS_src hab (by omega) hlt]; exact (hz m hlt).2.1) (by rw [cpS_src hab (by omega) hlt]; exact (hz m hlt).2.2)) ⟨pn_X1_copyFrom, rfl, (Nat.le_of_ble_eq_true rfl), (Nat.le_of_ble_eq_true rfl), rfl⟩ (⟨_, _, rfl, congrArg Prod.fst ((bkF ha (by omega))), rfl⟩) (cfS cf1) (Nat.le_of_ble_eq_true rfl) ?_
        refine V_iinc_2 (v := nI (m + 1)) dX5_copyFrom_33 (Nat.le_of_ble_eq_true rfl) rfl (nI_1 _) ?_
        refine V_goto (tgt := 13) dX5_copyFrom_36 (by decide) ?_
        refine V_eqI (i' := cpS i a b (m + 1)) (by
          refine up2_ext fun k9 f9 => ?_
          show cpF (cpS i a b m) (a + 8 + m) (b + 8 + m) k9 f9 = _
          unfold cpF
          by_cases h8 : k9 = a + 8 + m ∧ f9 < 7
          · rw [if_pos h8, cpS_src hab (by omega) hlt]
            unfold cpS
            rw [if_pos ⟨by omega, by omega, h8.2⟩, show k9 - a + b = b + 8 + m by omega]
          · rw [if_neg h8]
            unfold cpS
            by_cases h9 : a + 8 ≤ k9 ∧ k9 < a + 8 + m ∧ f9 < 7
            · rw [if_pos h9, if_pos ⟨h9.1, by omega, h9.2.2⟩]
            · rw [if_neg h9, if_neg (fun z => h9 ⟨z.1, by omega, z.2.2⟩)]) ?_
        exact ih (m + 1) (by omega)
  refine L_aload_n_0 dX5_copyFrom_0 ?_
  refine U_getR (r := (a + 1)) dX5_copyFrom_1 fl_RX5_12 (bk0 ha) rfl (br00 ha) ?_
  refine L_aload_n_1 dX5_copyFrom_4 ?_
  refine U_getR (r := (b + 1)) dX5_copyFrom_5 fl_RX5_12 (bk0 hb) rfl (br00 hb) ?_
  refine U_cV2 (d := d + 1) (lkR_RX5_25 rfl dX5_copyFrom_8) (k_X3_copyFrom _ ha hb hab) ⟨pn_X3_copyFrom, rfl, (Nat.le_of_ble_eq_true rfl), (Nat.le_of_ble_eq_true rfl), rfl⟩ (⟨_, _, rfl, congrArg Prod.fst ((bk1 ha)), rfl⟩) (cfS cf3) (Nat.le_of_ble_eq_true rfl) ?_
  refine V_eqI (i' := cpS i a b 0) (by
    refine up2_ext fun a9 f9 => ?_
    unfold cpS
    rw [if_neg (by omega)]) ?_
  refine V_iconst (v := 0) (by decide) dX5_copyFrom_11 ?_
  refine V_istore_n_2 dX5_copyFrom_12 (Nat.le_of_ble_eq_true rfl) rfl ?_
  exact loop 4 0 (by omega)

