def ushI (x y : Int32) : Int32 := (x.toUInt32 >>> (y.toUInt32 &&& Int32.toUInt32 31)).toInt32
def bc1 (x : Int32) : Int32 := x - (ushI x 1 &&& 1431655765)
def bc2 (x : Int32) : Int32 := (x &&& 858993459) + (ushI x 2 &&& 858993459)
def bc3 (x : Int32) : Int32 := (x + ushI x 4) &&& 252645135
def bc4 (x : Int32) : Int32 := x + ushI x 8
def bc5 (x : Int32) : Int32 := x + ushI x 16
def bcI (x : Int32) : Int32 := bc5 (bc4 (bc3 (bc2 (bc1 x)))) &&& 63
abbrev bit (l s : Int32) : Int32 := l &&& (1 <<< (s &&& 31))
abbrev remI (x y : Int32) : Int32 := x - x / y * y
abbrev nwr (a b : Int32) : Prop := ¬ remI (a - b + 16) 16 < 1 ∧ ¬ 7 < remI (a - b + 16) 16
abbrev stq (x : Int32) : Prop := ¬ x < 0 ∧ ¬ 30 ≤ x
abbrev edq (x : Int32) : Prop := ¬ x < 0 ∧ ¬ 16 ≤ x
abbrev foq (x : Int32) : Prop := ¬ x < 0 ∧ ¬ 4 ≤ x
theorem k_J6_bitCount_0f7a4 {g : G0} {j : Nat → Nat → Int64} (d : Nat) {i : Nat → Nat → Int32} {x : Int32}  : C g m_J6_bitCount_0f7a4 (d + 0) 0 0 false [.int x] (mk i j) (rets (some (.int (bcI x))) (mk i j)) := by
  refine C_of (L := [some (.int x)]) rfl ?_
  refine L_iload_n_0 dJ6_bitCount_0f7a4_0 ?_
  refine L_iload_n_0 dJ6_bitCount_0f7a4_1 ?_
  refine V_iconst (v := 1) (by decide) dJ6_bitCount_0f7a4_2 ?_
  refine V_iushr dJ6_bitCount_0f7a4_3 ?_
  refine V_ldcW kc_RJ6_265 dJ6_bitCount_0f7a4_4 ?_
  refine V_iand dJ6_bitCount_0f7a4_7 ?_
  refine V_isub dJ6_bitCount_0f7a4_8 ?_
  refine V_istore_n_0 dJ6_bitCount_0f7a4_9 (Nat.le_of_ble_eq_true rfl) rfl ?_
  refine L_iload_n_0 dJ6_bitCount_0f7a4_10 ?_
  refine V_ldcW kc_RJ6_266 dJ6_bitCount_0f7a4_11 ?_
  refine V_iand dJ6_bitCount_0f7a4_14 ?_
  refine L_iload_n_0 dJ6_bitCount_0f7a4_15 ?_
  refine V_iconst (v := 2) (by decide) dJ6_bitCount_0f7a4_16 ?_
  refine V_iushr dJ6_bitCount_0f7a4_17 ?_
  refine V_ldcW kc_RJ6_266 dJ6_bitCount_0f7a4_18 ?_
  refine V_iand dJ6_bitCount_0f7a4_21 ?_
  refine V_iadd dJ6_bitCount_0f7a4_22 ?_
  refine V_istore_n_0 dJ6_bitCount_0f7a4_23 (Nat.le_of_ble_eq_true rfl) rfl ?_
  refine L_iload_n_0 dJ6_bitCount_0f7a4_24 ?_
  refine L_iload_n_0 dJ6_bitCount_0f7a4_25 ?_
  refine V_iconst (v := 4) (by decide) dJ6_bitCount_0f7a4_26 ?_
  refine V_iushr dJ6_bitCount_0f7a4_27 ?_
  refine V_iadd dJ6_bitCount_0f7a4_28 ?_
  refine V_ldcW kc_RJ6_267 dJ6_bitCount_0f7a4_29 ?_
  refine V_iand dJ6_bitCount_0f7a4_32 ?_
  refine V_istore_n_0 dJ6_bitCount_0f7a4_33 (Nat.le_of_ble_eq_true rfl) rfl ?_
  refine L_iload_n_0 dJ6_bitCount_0f7a4_34 ?_
  refine L_iload_n_0 dJ6_bitCount_0f7a4_35 ?_
  refine V_bipush (v := 8) (by decide) dJ6_bitCount_0f7a4_36 ?_
  refine V_iushr dJ6_bitCount_0f7a4_38 ?_
  refine V_iadd dJ6_bitCount_0f7a4_39 ?_
  refine V_istore_n_0 dJ6_bitCount_0f7a4_40 (Nat.le_of_ble_eq_true rfl) rfl ?_
  refine L_iload_n_0 dJ6_bitCount_0f7a4_41 ?_
  refine L_iload_n_0 dJ6_bitCount_0f7a4_42 ?_
  refine V_bipush (v := 16) (by decide) dJ6_bitCount_0f7a4_43 ?_
  refine V_iushr dJ6_bitCount_0f7a4_45 ?_
  refine V_iadd dJ6_bitCount_0f7a4_46 ?_
  refine V_istore_n_0 dJ6_bitCount_0f7a4_47 (Nat.le_of_ble_eq_true rfl) rfl ?_
  refine L_iload_n_0 dJ6_bitCount_0f7a4_48 ?_
  refine V_bipush (v := 63) (by decide) dJ6_bitCount_0f7a4_49 ?_
  refine V_iand dJ6_bitCount_0f7a4_51 ?_
  exact V_iret dJ6_bitCount_0f7a4_52 rfl rfl (⟨rfl, rfl⟩)
theorem k_X6_isStreet {g : G0} {j : Nat → Nat → Int64} (d : Nat) {i : Nat → Nat → Int32} {x : Int32}  : C g m_X6_isStreet (d + 0) 0 0 false [.int x] (mk i j) (rets (some (.int (b2i (stq x)))) (mk i j)) := by
  refine C_of (L := [some (.int x)]) rfl ?_
  refine L_iload_n_0 dX6_isStreet_0 ?_
  refine V_ifx_lt (tgt := 14) dX6_isStreet_1 (by decide) (fun h1 => ?_) (fun h1 => ?_)
  · refine V_iconst (v := 0) (by decide) dX6_isStreet_14 ?_
    exact V_iret dX6_isStreet_15 rfl rfl (by first | exact ⟨rfl, rfl⟩ | exact rtI (by simp_all [b2i]; done))
  · refine L_iload_n_0 dX6_isStreet_4 ?_
    refine V_bipush (v := 30) (by decide) dX6_isStreet_5 ?_
    refine V_icmp_ge (tgt := 14) dX6_isStreet_7 (by decide) (fun h7 => ?_) (fun h7 => ?_)
    · refine V_iconst (v := 0) (by decide) dX6_isStreet_14 ?_
      exact V_iret dX6_isStreet_15 rfl rfl (by first | exact ⟨rfl, rfl⟩ | exact rtI (by simp_all [b2i]; done))
    · refine V_iconst (v := 1) (by decide) dX6_isStreet_10 ?_
      refine V_goto (tgt := 15) dX6_isStreet_11 (by decide) ?_
      exact V_iret dX6_isStreet_15 rfl rfl (by first | exact ⟨rfl, rfl⟩ | exact rtI (by simp_all [b2i]; done))
theorem k_X6_isEdition {g : G0} {j : Nat → Nat → Int64} (d : Nat) {i : Nat → Nat → Int32} {x : Int32}  : C g m_X6_isEdition (d + 0) 0 0 false [.int x] (mk i j) (rets (some (.int (b2i (edq x)))) (mk i j)) := by
  refine C_of (L := [some (.int x)]) rfl ?_
  refine L_iload_n_0 dX6_isEdition_0 ?_
  refine V_ifx_lt (tgt := 14) dX6_isEdition_1 (by decide) (fun h1 => ?_) (fun h1 => ?_)
  · refine V_iconst (v := 0) (by decide) dX6_isEdition_14 ?_
    exact V_iret dX6_isEdition_15 rfl rfl (by first | exact ⟨rfl, rfl⟩ | exact rtI (by simp_all [b2i]; done))
  · refine L_iload_n_0 dX6_isEdition_4 ?_
    refine V_bipush (v := 16) (by decide) dX6_isEdition_5 ?_
    refine V_icmp_ge (tgt := 14) dX6_isEdition_7 (by decide) (fun h7 => ?_) (fun h7 => ?_)
    · refine V_iconst (v := 0) (by decide) dX6_isEdition_14 ?_
      exact V_iret dX6_isEdition_15 rfl rfl (by first | exact ⟨rfl, rfl⟩ | exact rtI (by simp_all [b2i]; done))
    · refine V_iconst (v := 1) (by decide) dX6_isEdition_10 ?_
      refine V_goto (tgt := 15) dX6_isEdition_11 (by decide) ?_
      exact V_iret dX6_isEdition_15 rfl rfl (by first | exact ⟨rfl, rfl⟩ | exact rtI (by simp_all [b2i]; done))
theorem k_X6_isFollower {g : G0} {j : Nat → Nat → Int64} (d : Nat) {i : Nat → Nat → Int32} {x : Int32}  : C g m_X6_isFollower (d + 0) 0 0 false [.int x] (mk i j) (rets (some (.int (b2i (foq x)))) (mk i j)) := by
  refine C_of (L := [some (.int x)]) rfl ?_
  refine L_iload_n_0 dX6_isFollower_0 ?_
  refine V_ifx_lt (tgt := 13) dX6_isFollower_1 (by decide) (fun h1 => ?_) (fun h1 => ?_)
  · refine V_iconst (v := 0) (by decide) dX6_isFollower_13 ?_
    exact V_iret dX6_isFollower_14 rfl rfl (by first | exact ⟨rfl, rfl⟩ | exact rtI (by simp_all [b2i]; done))
  · refine L_iload_n_0 dX6_isFollower_4 ?_
    refine V_iconst (v := 4) (by decide) dX6_isFollower_5 ?_
    refine V_icmp_ge (tgt := 13) dX6_isFollower_6 (by decide) (fun h6 => ?_) (fun h6 => ?_)
    · refine V_iconst (v := 0) (by decide) dX6_isFollower_13 ?_
      exact V_iret dX6_isFollower_14 rfl rfl (by first | exact ⟨rfl, rfl⟩ | exact rtI (by simp_all [b2i]; done))
    · refine V_iconst (v := 1) (by decide) dX6_isFollower_9 ?_
      refine V_goto (tgt := 14) dX6_isFollower_10 (by decide) ?_
      exact V_iret dX6_isFollower_14 rfl rfl (by first | exact ⟨rfl, rfl⟩ | exact rtI (by simp_all [b2i]; done))
theorem k_X6_isNewer {g : G0} {j : Nat → Nat → Int64} (d : Nat) {i : Nat → Nat → Int32} {a b : Int32}  : C g m_X6_isNewer (d + 0) 0 0 false [.int a, .int b] (mk i j) (rets (some (.int (b2i (nwr a b)))) (mk i j)) := by
  refine C_of (L := [some (.int a), some (.int b), none]) rfl ?_
  refine L_iload_n_0 dX6_isNewer_0 ?_
  refine L_iload_n_1 dX6_isNewer_1 ?_
  refine V_isub dX6_isNewer_2 ?_
  refine V_bipush (v := 16) (by decide) dX6_isNewer_3 ?_
  refine V_iadd dX6_isNewer_5 ?_
  refine V_bipush (v := 16) (by decide) dX6_isNewer_6 ?_
  refine V_irem (by decide) dX6_isNewer_8 ?_
  refine V_istore_n_2 dX6_isNewer_9 (Nat.le_of_ble_eq_true rfl) rfl ?_
  refine L_iload_n_2 dX6_isNewer_10 ?_
  refine V_iconst (v := 1) (by decide) dX6_isNewer_11 ?_
  refine V_icmp_lt (tgt := 25) dX6_isNewer_12 (by decide) (fun h12 => ?_) (fun h12 => ?_)
  · refine V_iconst (v := 0) (by decide) dX6_isNewer_25 ?_
    exact V_iret dX6_isNewer_26 rfl rfl (by first | exact ⟨rfl, rfl⟩ | exact rtI (by simp_all [b2i]; done))
  · refine L_iload_n_2 dX6_isNewer_15 ?_
    refine V_bipush (v := 7) (by decide) dX6_isNewer_16 ?_
    refine V_icmp_gt (tgt := 25) dX6_isNewer_18 (by decide) (fun h18 => ?_) (fun h18 => ?_)
    · refine V_iconst (v := 0) (by decide) dX6_isNewer_25 ?_
      exact V_iret dX6_isNewer_26 rfl rfl (by first | exact ⟨rfl, rfl⟩ | exact rtI (by simp_all [b2i]; done))
    · refine V_iconst (v := 1) (by decide) dX6_isNewer_21 ?_
      refine V_goto (tgt := 26) dX6_isNewer_22 (by decide) ?_
      exact V_iret dX6_isNewer_26 rfl rfl (by first | exact ⟨rfl, rfl⟩ | exact rtI (by simp_all [b2i]; done))
theorem k_X6_contains {g : G0} {j : Nat → Nat → Int64} (d : Nat) {i : Nat → Nat → Int32} {a b : Int32}  : C g m_X6_contains (d + 0) 0 0 false [.int a, .int b] (mk i j) (rets (some (.int (b2i (¬ bit a b = 0)))) (mk i j)) := by
  refine C_of (L := [some (.int a), some (.int b)]) rfl ?_
  refine L_iload_n_0 dX6_contains_0 ?_
  refine V_iconst (v := 1) (by decide) dX6_contains_1 ?_
  refine L_iload_n_1 dX6_contains_2 ?_
  refine V_ishl dX6_contains_3 ?_
  refine V_iand dX6_contains_4 ?_
  refine V_ifx_eq (tgt := 12) dX6_contains_5 (by decide) (fun h5 => ?_) (fun h5 => ?_)
  · refine V_iconst (v := 0) (by decide) dX6_contains_12 ?_
    exact V_iret dX6_contains_13 rfl rfl (by first | exact ⟨rfl, rfl⟩ | exact rtI (by simp_all [b2i]; done))
  · refine V_iconst (v := 1) (by decide) dX6_contains_8 ?_
    refine V_goto (tgt := 13) dX6_contains_9 (by decide) ?_
    exact V_iret dX6_contains_13 rfl rfl (by first | exact ⟨rfl, rfl⟩ | exact rtI (by simp_all [b2i]; done))
theorem k_X6_needStreet {g : G0} {j : Nat → Nat → Int64} (d : Nat) {i : Nat → Nat → Int32} {x : Int32} (h : stq x)  : C g m_X6_needStreet (d + 1) 0 0 false [.int x] (mk i j) (rets (none) (mk i j)) := by
  refine C_of (L := [some (.int x)]) rfl ?_
  refine L_iload_n_0 dX6_needStreet_0 ?_
  refine U_cv1 (d := d + 0) (lkR_RX6_261 rfl dX6_needStreet_1) (k_X6_isStreet _) ⟨pn_X6_isStreet, rfl, (Nat.le_of_ble_eq_true rfl), (Nat.le_of_ble_eq_true rfl), rfl⟩ (trivial) cfn (Nat.le_of_ble_eq_true rfl) ?_
  refine V_ifx_ne (tgt := 18) dX6_needStreet_4 (by decide) (fun h4 => ?_) (fun h4 => ?_)
  · exact V_vret dX6_needStreet_18 rfl (⟨rfl, rfl⟩)
  · exact absurd (b2z.mp h4) (fun z => z h)
theorem k_X6_needStreet_x {g : G0} {j : Nat → Nat → Int64} (d : Nat) {i : Nat → Nat → Int32} {x : Int32} (h : ¬ stq x)  : C g m_X6_needStreet (d + 6) 1 6 false [.int x] (mk i j) (thrs "java/lang/IndexOutOfBoundsException" (mk i j)) := by
  refine C_of (L := [some (.int x)]) rfl ?_
  refine L_iload_n_0 dX6_needStreet_0 ?_
  refine U_cv1 (d := d + 5) (lkR_RX6_261 rfl dX6_needStreet_1) (k_X6_isStreet _) ⟨pn_X6_isStreet, rfl, (Nat.le_of_ble_eq_true rfl), (Nat.le_of_ble_eq_true rfl), rfl⟩ (trivial) cfn (Nat.le_of_ble_eq_true rfl) ?_
  refine V_ifx_ne (tgt := 18) dX6_needStreet_4 (by decide) (fun h4 => ?_) (fun h4 => ?_)
  · exact absurd h4 (fun z => by rw [b2z] at z; exact z h)
  · exact V_throwW (E := "java/lang/IndexOutOfBoundsException") (text := "there is no such street") (by decide) cl_RX6_264 in_IndexOutOfBoundsException (by decide) xa_268 (xh_268) dX6_needStreet_7 dX6_needStreet_10 dX6_needStreet_11 dX6_needStreet_14 dX6_needStreet_17 rfl (by omega) (Nat.le_of_ble_eq_true rfl) (⟨rfl, rfl⟩)
theorem k_X1_loseList {g : G0} {j : Nat → Nat → Int64} (d : Nat) {i : Nat → Nat → Int32} {p : Nat} (hp : kzS p = (1, 0))  : C g m_X1_loseList (d + 0) 0 0 false [.ref p] (mk i j) (rets (none) (mk (up2 (up2 i p 0 0) p 1 0) j)) := by
  refine C_of (L := [some (.ref p)]) rfl ?_
  refine L_aload_n_0 dX1_loseList_0 ?_
  refine V_iconst (v := 0) (by decide) dX1_loseList_1 ?_
  refine U_putZ dX1_loseList_2 fl_RX1_9 hp rfl rfl (Or.inl rfl) ?_
  refine L_aload_n_0 dX1_loseList_5 ?_
  refine V_iconst (v := 0) (by decide) dX1_loseList_6 ?_
  refine U_putI dX1_loseList_7 fl_RX1_15 hp rfl rfl ?_
  exact V_vret dX1_loseList_10 rfl (⟨rfl, rfl⟩)
theorem k_X1_editionOrNone {g : G0} {j : Nat → Nat → Int64} (d : Nat) {i : Nat → Nat → Int32} {p : Nat} (hp : kzS p = (1, 0))  : C g m_X1_editionOrNone (d + 0) 0 0 false [.ref p] (mk i j) (rets (some (.int (if i p 0 = 0 then -1 else i p 2))) (mk i j)) := by
  refine C_of (L := [some (.ref p)]) rfl ?_
  refine L_aload_n_0 dX1_editionOrNone_0 ?_
  refine U_getI dX1_editionOrNone_1 fl_RX1_9 hp rfl ?_
  refine V_ifx_eq (tgt := 14) dX1_editionOrNone_4 (by decide) (fun h4 => ?_) (fun h4 => ?_)
  · refine V_iconst (v := (-1)) (by decide) dX1_editionOrNone_14 ?_
    exact V_iret dX1_editionOrNone_15 rfl rfl (by first | exact ⟨rfl, rfl⟩ | exact rtI (by simp_all [b2i]; done))
  · refine L_aload_n_0 dX1_editionOrNone_7 ?_
    refine U_getI dX1_editionOrNone_8 fl_RX1_19 hp rfl ?_
    refine V_goto (tgt := 15) dX1_editionOrNone_11 (by decide) ?_
    exact V_iret dX1_editionOrNone_15 rfl rfl (by first | exact ⟨rfl, rfl⟩ | exact rtI (by simp_all [b2i]; done))
theorem k_X1_sizeOrNone {g : G0} {j : Nat → Nat → Int64} (d : Nat) {i : Nat → Nat → Int32} {p : Nat} (hp : kzS p = (1, 0))  : C g m_X1_sizeOrNone (d + 1) 0 0 false [.ref p] (mk i j) (rets (some (.int (if i p 0 = 0 then -1 else bcI (i p 1)))) (mk i j)) := by
  refine C_of (L := [some (.ref p)]) rfl ?_
  refine L_aload_n_0 dX1_sizeOrNone_0 ?_
  refine U_getI dX1_sizeOrNone_1 fl_RX1_9 hp rfl ?_
  refine V_ifx_eq (tgt := 17) dX1_sizeOrNone_4 (by decide) (fun h4 => ?_) (fun h4 => ?_)
  · refine V_iconst (v := (-1)) (by decide) dX1_sizeOrNone_17 ?_
    exact V_iret dX1_sizeOrNone_18 rfl rfl (by first | exact ⟨rfl, rfl⟩ | exact rtI (by simp_all [b2i]; done))
  · refine L_aload_n_0 dX1_sizeOrNone_7 ?_
    refine U_getI dX1_sizeOrNone_8 fl_RX1_15 hp rfl ?_
    refine U_cv1 (d := d + 0) (lkR_RX1_34 rfl dX1_sizeOrNone_11) (k_J6_bitCount_0f7a4 _) ⟨pn_J6_bitCount_0f7a4, rfl, (Nat.le_of_ble_eq_true rfl), (Nat.le_of_ble_eq_true rfl), rfl⟩ (trivial) cfn (Nat.le_of_ble_eq_true rfl) ?_
    refine V_goto (tgt := 18) dX1_sizeOrNone_14 (by decide) ?_
    exact V_iret dX1_sizeOrNone_18 rfl rfl (by first | exact ⟨rfl, rfl⟩ | exact rtI (by simp_all [b2i]; done))
theorem k_X1_wrongOrNone {g : G0} {j : Nat → Nat → Int64} (d : Nat) {i : Nat → Nat → Int32} {x : Int32} {p : Nat} (hp : kzS p = (1, 0))  : C g m_X1_wrongOrNone (d + 1) 0 0 false [.ref p, .int x] (mk i j) (rets (some (.int (if i p 0 = 0 then -1 else bcI (i p 1 ^^^ x)))) (mk i j)) := by
  refine C_of (L := [some (.ref p), some (.int x)]) rfl ?_
  refine L_aload_n_0 dX1_wrongOrNone_0 ?_
  refine U_getI dX1_wrongOrNone_1 fl_RX1_9 hp rfl ?_
  refine V_ifx_eq (tgt := 19) dX1_wrongOrNone_4 (by decide) (fun h4 => ?_) (fun h4 => ?_)
  · refine V_iconst (v := (-1)) (by decide) dX1_wrongOrNone_19 ?_
    exact V_iret dX1_wrongOrNone_20 rfl rfl (by first | exact ⟨rfl, rfl⟩ | exact rtI (by simp_all [b2i]; done))
  · refine L_aload_n_0 dX1_wrongOrNone_7 ?_
    refine U_getI dX1_wrongOrNone_8 fl_RX1_15 hp rfl ?_
    refine L_iload_n_1 dX1_wrongOrNone_11 ?_
    refine V_ixor dX1_wrongOrNone_12 ?_
    refine U_cv1 (d := d + 0) (lkR_RX1_34 rfl dX1_wrongOrNone_13) (k_J6_bitCount_0f7a4 _) ⟨pn_J6_bitCount_0f7a4, rfl, (Nat.le_of_ble_eq_true rfl), (Nat.le_of_ble_eq_true rfl), rfl⟩ (trivial) cfn (Nat.le_of_ble_eq_true rfl) ?_
    refine V_goto (tgt := 20) dX1_wrongOrNone_16 (by decide) ?_
    exact V_iret dX1_wrongOrNone_20 rfl rfl (by first | exact ⟨rfl, rfl⟩ | exact rtI (by simp_all [b2i]; done))
theorem k_X1_knows {g : G0} {j : Nat → Nat → Int64} (d : Nat) {i : Nat → Nat → Int32} {x : Int32} {p : Nat} (hp : kzS p = (1, 0))  : C g m_X1_knows (d + 1) 0 0 false [.ref p, .int x] (mk i j) (rets (some (.int (b2i (¬ bit (i p 1) x = 0)))) (mk i j)) := by
  refine C_of (L := [some (.ref p), some (.int x)]) rfl ?_
  refine L_aload_n_0 dX1_knows_0 ?_
  refine U_getI dX1_knows_1 fl_RX1_15 hp rfl ?_
  refine L_iload_n_1 dX1_knows_4 ?_
  refine U_cv2 (d := d + 0) (lkR_RX1_40 rfl dX1_knows_5) (k_X6_contains _) ⟨pn_X6_contains, rfl, (Nat.le_of_ble_eq_true rfl), (Nat.le_of_ble_eq_true rfl), rfl⟩ (trivial) cfn (Nat.le_of_ble_eq_true rfl) ?_
  exact V_iret dX1_knows_8 rfl b2n (⟨rfl, rfl⟩)
theorem k_X1_attentionNumber {g : G0} {j : Nat → Nat → Int64} (d : Nat) {i : Nat → Nat → Int32} {p : Nat} (hp : kzS p = (1, 0))  : C g m_X1_attentionNumber (d + 0) 0 0 false [.ref p] (mk i j) (rets (some (.int ((if i p 4 = 0 then 0 else 1) + (if i p 3 = 0 then 0 else 2)))) (mk i j)) := by
  refine C_of (L := [some (.ref p)]) rfl ?_
  refine L_aload_n_0 dX1_attentionNumber_0 ?_
  refine U_getI dX1_attentionNumber_1 fl_RX1_25 hp rfl ?_
  refine V_ifx_eq (tgt := 11) dX1_attentionNumber_4 (by decide) (fun h4 => ?_) (fun h4 => ?_)
  · refine V_iconst (v := 0) (by decide) dX1_attentionNumber_11 ?_
    refine L_aload_n_0 dX1_attentionNumber_12 ?_
    refine U_getI dX1_attentionNumber_13 fl_RX1_22 hp rfl ?_
    refine V_ifx_eq (tgt := 23) dX1_attentionNumber_16 (by decide) (fun h16 => ?_) (fun h16 => ?_)
    · refine V_iconst (v := 0) (by decide) dX1_attentionNumber_23 ?_
      refine V_iadd dX1_attentionNumber_24 ?_
      exact V_iret dX1_attentionNumber_25 rfl rfl (by first | exact ⟨rfl, rfl⟩ | exact rtI (by simp_all [b2i]; done))
    · refine V_iconst (v := 2) (by decide) dX1_attentionNumber_19 ?_
      refine V_goto (tgt := 24) dX1_attentionNumber_20 (by decide) ?_
      refine V_iadd dX1_attentionNumber_24 ?_
      exact V_iret dX1_attentionNumber_25 rfl rfl (by first | exact ⟨rfl, rfl⟩ | exact rtI (by simp_all [b2i]; done))
  · refine V_iconst (v := 1) (by decide) dX1_attentionNumber_7 ?_
    refine V_goto (tgt := 12) dX1_attentionNumber_8 (by decide) ?_
    refine L_aload_n_0 dX1_attentionNumber_12 ?_
    refine U_getI dX1_attentionNumber_13 fl_RX1_22 hp rfl ?_
    refine V_ifx_eq (tgt := 23) dX1_attentionNumber_16 (by decide) (fun h16 => ?_) (fun h16 => ?_)
    · refine V_iconst (v := 0) (by decide) dX1_attentionNumber_23 ?_
      refine V_iadd dX1_attentionNumber_24 ?_
      exact V_iret dX1_attentionNumber_25 rfl rfl (by first | exact ⟨rfl, rfl⟩ | exact rtI (by simp_all [b2i]; done))
    · refine V_iconst (v := 2) (by decide) dX1_attentionNumber_19 ?_
      refine V_goto (tgt := 24) dX1_attentionNumber_20 (by decide) ?_
      refine V_iadd dX1_attentionNumber_24 ?_
      exact V_iret dX1_attentionNumber_25 rfl rfl (by first | exact ⟨rfl, rfl⟩ | exact rtI (by simp_all [b2i]; done))
theorem k_X6_needAwake {g : G0} {j : Nat → Nat → Int64} (d : Nat) {i : Nat → Nat → Int32} {p : Nat} (hp : kzS p = (1, 0)) (h : i p 3 = 0)  : C g m_X6_needAwake (d + 0) 0 0 false [.ref p] (mk i j) (rets (none) (mk i j)) := by
  refine C_of (L := [some (.ref p)]) rfl ?_
  refine L_aload_n_0 dX6_needAwake_0 ?_
  refine U_getI dX6_needAwake_1 fl_RX6_163 hp rfl ?_
  refine V_ifx_eq (tgt := 18) dX6_needAwake_4 (by decide) (fun h4 => ?_) (fun h4 => ?_)
  · exact V_vret dX6_needAwake_18 rfl (⟨rfl, rfl⟩)
  · exact absurd h h4
theorem k_X6_needAwake_x {g : G0} {j : Nat → Nat → Int64} (d : Nat) {i : Nat → Nat → Int32} {p : Nat} (hp : kzS p = (1, 0)) (h : ¬ i p 3 = 0)  : C g m_X6_needAwake (d + 6) 1 6 false [.ref p] (mk i j) (thrs "java/lang/IllegalStateException" (mk i j)) := by
  refine C_of (L := [some (.ref p)]) rfl ?_
  refine L_aload_n_0 dX6_needAwake_0 ?_
  refine U_getI dX6_needAwake_1 fl_RX6_163 hp rfl ?_
  refine V_ifx_eq (tgt := 18) dX6_needAwake_4 (by decide) (fun h4 => ?_) (fun h4 => ?_)
  · exact absurd h4 h
  · exact V_throwW (E := "java/lang/IllegalStateException") (text := "the follower is asleep") (by decide) cl_RX6_44 in_IllegalStateException (by decide) xa_48 (xh_48) dX6_needAwake_7 dX6_needAwake_10 dX6_needAwake_11 dX6_needAwake_14 dX6_needAwake_17 rfl (by omega) (Nat.le_of_ble_eq_true rfl) (⟨rfl, rfl⟩)
theorem k_X3_mayAdd {g : G0} {j : Nat → Nat → Int64} (d : Nat) {i : Nat → Nat → Int32} {x : Int32}  : C g m_X3_mayAdd (d + 1) 0 0 false [.ref 2, .int x] (mk i j) (rets (some (.int (b2i (stq x ∧ bit (i 2 0) x = 0)))) (mk i j)) := by
  refine C_of (L := [some (.ref 2), some (.int x)]) rfl ?_
  refine L_iload_n_1 dX3_mayAdd_0 ?_
  refine U_cv1 (d := d + 0) (lkR_RX3_32 rfl dX3_mayAdd_1) (k_X6_isStreet _) ⟨pn_X6_isStreet, rfl, (Nat.le_of_ble_eq_true rfl), (Nat.le_of_ble_eq_true rfl), rfl⟩ (trivial) cfn (Nat.le_of_ble_eq_true rfl) ?_
  refine V_ifx_eq (tgt := 22) dX3_mayAdd_4 (by decide) (fun h4 => ?_) (fun h4 => ?_)
  · refine V_iconst (v := 0) (by decide) dX3_mayAdd_22 ?_
    exact V_iret dX3_mayAdd_23 rfl rfl (by first | exact ⟨rfl, rfl⟩ | exact rtI (by simp_all [b2i]; done))
  · refine L_aload_n_0 dX3_mayAdd_7 ?_
    refine U_getI dX3_mayAdd_8 fl_RX3_18 rfl rfl ?_
    refine L_iload_n_1 dX3_mayAdd_11 ?_
    refine U_cv2 (d := d + 0) (lkR_RX3_36 rfl dX3_mayAdd_12) (k_X6_contains _) ⟨pn_X6_contains, rfl, (Nat.le_of_ble_eq_true rfl), (Nat.le_of_ble_eq_true rfl), rfl⟩ (trivial) cfn (Nat.le_of_ble_eq_true rfl) ?_
    refine V_ifx_ne (tgt := 22) dX3_mayAdd_15 (by decide) (fun h15 => ?_) (fun h15 => ?_)
    · refine V_iconst (v := 0) (by decide) dX3_mayAdd_22 ?_
      exact V_iret dX3_mayAdd_23 rfl rfl (by first | exact ⟨rfl, rfl⟩ | exact rtI (by simp_all [b2i]; done))
    · refine V_iconst (v := 1) (by decide) dX3_mayAdd_18 ?_
      refine V_goto (tgt := 23) dX3_mayAdd_19 (by decide) ?_
      exact V_iret dX3_mayAdd_23 rfl rfl (by first | exact ⟨rfl, rfl⟩ | exact rtI (by simp_all [b2i]; done))
theorem k_X3_mayCrossOut {g : G0} {j : Nat → Nat → Int64} (d : Nat) {i : Nat → Nat → Int32} {x : Int32}  : C g m_X3_mayCrossOut (d + 1) 0 0 false [.ref 2, .int x] (mk i j) (rets (some (.int (b2i (stq x ∧ ¬ bit (i 2 0) x = 0)))) (mk i j)) := by
  refine C_of (L := [some (.ref 2), some (.int x)]) rfl ?_
  refine L_iload_n_1 dX3_mayCrossOut_0 ?_
  refine U_cv1 (d := d + 0) (lkR_RX3_32 rfl dX3_mayCrossOut_1) (k_X6_isStreet _) ⟨pn_X6_isStreet, rfl, (Nat.le_of_ble_eq_true rfl), (Nat.le_of_ble_eq_true rfl), rfl⟩ (trivial) cfn (Nat.le_of_ble_eq_true rfl) ?_
  refine V_ifx_eq (tgt := 22) dX3_mayCrossOut_4 (by decide) (fun h4 => ?_) (fun h4 => ?_)
  · refine V_iconst (v := 0) (by decide) dX3_mayCrossOut_22 ?_
    exact V_iret dX3_mayCrossOut_23 rfl rfl (by first | exact ⟨rfl, rfl⟩ | exact rtI (by simp_all [b2i]; done))
  · refine L_aload_n_0 dX3_mayCrossOut_7 ?_
    refine U_getI dX3_mayCrossOut_8 fl_RX3_18 rfl rfl ?_
    refine L_iload_n_1 dX3_mayCrossOut_11 ?_
    refine U_cv2 (d := d + 0) (lkR_RX3_36 rfl dX3_mayCrossOut_12) (k_X6_contains _) ⟨pn_X6_contains, rfl, (Nat.le_of_ble_eq_true rfl), (Nat.le_of_ble_eq_true rfl), rfl⟩ (trivial) cfn (Nat.le_of_ble_eq_true rfl) ?_
    refine V_ifx_eq (tgt := 22) dX3_mayCrossOut_15 (by decide) (fun h15 => ?_) (fun h15 => ?_)
    · refine V_iconst (v := 0) (by decide) dX3_mayCrossOut_22 ?_
      exact V_iret dX3_mayCrossOut_23 rfl rfl (by first | exact ⟨rfl, rfl⟩ | exact rtI (by simp_all [b2i]; done))
    · refine V_iconst (v := 1) (by decide) dX3_mayCrossOut_18 ?_
      refine V_goto (tgt := 23) dX3_mayCrossOut_19 (by decide) ?_
      exact V_iret dX3_mayCrossOut_23 rfl rfl (by first | exact ⟨rfl, rfl⟩ | exact rtI (by simp_all [b2i]; done))
theorem k_X3_mayPublish {g : G0} {j : Nat → Nat → Int64} (d : Nat) {i : Nat → Nat → Int32}  : C g m_X3_mayPublish (d + 0) 0 0 false [.ref 2] (mk i j) (rets (some (.int (b2i (¬ i 2 0 = i 2 1)))) (mk i j)) := by
  refine C_of (L := [some (.ref 2)]) rfl ?_
  refine L_aload_n_0 dX3_mayPublish_0 ?_
  refine U_getI dX3_mayPublish_1 fl_RX3_18 rfl rfl ?_
  refine L_aload_n_0 dX3_mayPublish_4 ?_
  refine U_getI dX3_mayPublish_5 fl_RX3_22 rfl rfl ?_
  refine V_icmp_eq (tgt := 15) dX3_mayPublish_8 (by decide) (fun h8 => ?_) (fun h8 => ?_)
  · refine V_iconst (v := 0) (by decide) dX3_mayPublish_15 ?_
    exact V_iret dX3_mayPublish_16 rfl rfl (by first | exact ⟨rfl, rfl⟩ | exact rtI (by simp_all [b2i]; done))
  · refine V_iconst (v := 1) (by decide) dX3_mayPublish_11 ?_
    refine V_goto (tgt := 16) dX3_mayPublish_12 (by decide) ?_
    exact V_iret dX3_mayPublish_16 rfl rfl (by first | exact ⟨rfl, rfl⟩ | exact rtI (by simp_all [b2i]; done))
theorem k_X3_mayTakeNumber {g : G0} {j : Nat → Nat → Int64} (d : Nat) {i : Nat → Nat → Int32} {x : Int32}  : C g m_X3_mayTakeNumber (d + 1) 0 0 false [.ref 2, .int x] (mk i j) (rets (some (.int (b2i (edq x ∧ ¬ x = i 2 2)))) (mk i j)) := by
  refine C_of (L := [some (.ref 2), some (.int x)]) rfl ?_
  refine L_iload_n_1 dX3_mayTakeNumber_0 ?_
  refine U_cv1 (d := d + 0) (lkR_RX3_40 rfl dX3_mayTakeNumber_1) (k_X6_isEdition _) ⟨pn_X6_isEdition, rfl, (Nat.le_of_ble_eq_true rfl), (Nat.le_of_ble_eq_true rfl), rfl⟩ (trivial) cfn (Nat.le_of_ble_eq_true rfl) ?_
  refine V_ifx_eq (tgt := 19) dX3_mayTakeNumber_4 (by decide) (fun h4 => ?_) (fun h4 => ?_)
  · refine V_iconst (v := 0) (by decide) dX3_mayTakeNumber_19 ?_
    exact V_iret dX3_mayTakeNumber_20 rfl rfl (by first | exact ⟨rfl, rfl⟩ | exact rtI (by simp_all [b2i]; done))
  · refine L_iload_n_1 dX3_mayTakeNumber_7 ?_
    refine L_aload_n_0 dX3_mayTakeNumber_8 ?_
    refine U_getI dX3_mayTakeNumber_9 fl_RX3_25 rfl rfl ?_
    refine V_icmp_eq (tgt := 19) dX3_mayTakeNumber_12 (by decide) (fun h12 => ?_) (fun h12 => ?_)
    · refine V_iconst (v := 0) (by decide) dX3_mayTakeNumber_19 ?_
      exact V_iret dX3_mayTakeNumber_20 rfl rfl (by first | exact ⟨rfl, rfl⟩ | exact rtI (by simp_all [b2i]; done))
    · refine V_iconst (v := 1) (by decide) dX3_mayTakeNumber_15 ?_
      refine V_goto (tgt := 20) dX3_mayTakeNumber_16 (by decide) ?_
      exact V_iret dX3_mayTakeNumber_20 rfl rfl (by first | exact ⟨rfl, rfl⟩ | exact rtI (by simp_all [b2i]; done))
theorem k_X3_addToDraft {g : G0} {j : Nat → Nat → Int64} (d : Nat) {i : Nat → Nat → Int32} {x : Int32}  : C g m_X3_addToDraft (d + 0) 0 0 false [.ref 2, .int x] (mk i j) (rets (none) (mk (up2 i 2 0 (i 2 0 ||| (1 <<< (x &&& 31)))) j)) := by
  refine C_of (L := [some (.ref 2), some (.int x)]) rfl ?_
  refine L_aload_n_0 dX3_addToDraft_0 ?_
  refine V_dup rfl dX3_addToDraft_1 ?_
  refine U_getI dX3_addToDraft_2 fl_RX3_18 rfl rfl ?_
  refine V_iconst (v := 1) (by decide) dX3_addToDraft_5 ?_
  refine L_iload_n_1 dX3_addToDraft_6 ?_
  refine V_ishl dX3_addToDraft_7 ?_
  refine V_ior dX3_addToDraft_8 ?_
  refine U_putI dX3_addToDraft_9 fl_RX3_18 rfl rfl rfl ?_
  exact V_vret dX3_addToDraft_12 rfl (⟨rfl, rfl⟩)
theorem k_X3_takeOutOfDraft {g : G0} {j : Nat → Nat → Int64} (d : Nat) {i : Nat → Nat → Int32} {x : Int32}  : C g m_X3_takeOutOfDraft (d + 0) 0 0 false [.ref 2, .int x] (mk i j) (rets (none) (mk (up2 i 2 0 (i 2 0 &&& ((1 <<< (x &&& 31)) ^^^ (-1)))) j)) := by
  refine C_of (L := [some (.ref 2), some (.int x)]) rfl ?_
  refine L_aload_n_0 dX3_takeOutOfDraft_0 ?_
  refine V_dup rfl dX3_takeOutOfDraft_1 ?_
  refine U_getI dX3_takeOutOfDraft_2 fl_RX3_18 rfl rfl ?_
  refine V_iconst (v := 1) (by decide) dX3_takeOutOfDraft_5 ?_
  refine L_iload_n_1 dX3_takeOutOfDraft_6 ?_
  refine V_ishl dX3_takeOutOfDraft_7 ?_
  refine V_iconst (v := (-1)) (by decide) dX3_takeOutOfDraft_8 ?_
  refine V_ixor dX3_takeOutOfDraft_9 ?_
  refine V_iand dX3_takeOutOfDraft_10 ?_
  refine U_putI dX3_takeOutOfDraft_11 fl_RX3_18 rfl rfl rfl ?_
  exact V_vret dX3_takeOutOfDraft_14 rfl (⟨rfl, rfl⟩)
theorem k_X0_dropAll {g : G0} {j : Nat → Nat → Int64} (d : Nat) {i : Nat → Nat → Int32}  : C g m_X0_dropAll (d + 0) 0 0 false [.ref 3] (mk i j) (rets (none) (mk (up2 i 3 5 0) j)) := by
  refine C_of (L := [some (.ref 3)]) rfl ?_
  refine L_aload_n_0 dX0_dropAll_0 ?_
  refine V_iconst (v := 0) (by decide) dX0_dropAll_1 ?_
  refine U_putI dX0_dropAll_2 fl_RX0_28 rfl rfl rfl ?_
  exact V_vret dX0_dropAll_5 rfl (⟨rfl, rfl⟩)
theorem k_X3_takeNumber {g : G0} {j : Nat → Nat → Int64} (d : Nat) {i : Nat → Nat → Int32} {x : Int32}  : C g m_X3_takeNumber (d + 1) 0 0 false [.ref 2, .int x] (mk i j) (rets (none) (mk (up2 (up2 i 2 2 x) 3 5 0) j)) := by
  refine C_of (L := [some (.ref 2), some (.int x)]) rfl ?_
  refine L_aload_n_0 dX3_takeNumber_0 ?_
  refine L_iload_n_1 dX3_takeNumber_1 ?_
  refine U_putI dX3_takeNumber_2 fl_RX3_25 rfl rfl rfl ?_
  refine L_aload_n_0 dX3_takeNumber_5 ?_
  refine U_getR (r := 3) dX3_takeNumber_6 fl_RX3_12 rfl rfl rfl ?_
  refine U_cV1 (d := d + 0) (lkR_RX3_47 rfl dX3_takeNumber_9) (k_X0_dropAll _) ⟨pn_X0_dropAll, rfl, (Nat.le_of_ble_eq_true rfl), (Nat.le_of_ble_eq_true rfl), rfl⟩ (⟨_, _, rfl, rfl, rfl⟩) (cfS cf0) (Nat.le_of_ble_eq_true rfl) ?_
  exact V_vret dX3_takeNumber_12 rfl (⟨rfl, rfl⟩)
theorem k_X3_placeOf {g : G0} {j : Nat → Nat → Int64} (d : Nat) {i : Nat → Nat → Int32} {x : Int32}  : C g m_X3_placeOf (d + 1) 0 0 false [.ref 2, .int x] (mk i j) (rets (some (.int ((if bit (i 2 0) x = 0 then 0 else 1) + (if bit (i 2 1) x = 0 then 0 else 2)))) (mk i j)) := by
  refine C_of (L := [some (.ref 2), some (.int x), none, none]) rfl ?_
  refine L_aload_n_0 dX3_placeOf_0 ?_
  refine U_getI dX3_placeOf_1 fl_RX3_18 rfl rfl ?_
  refine L_iload_n_1 dX3_placeOf_4 ?_
  refine U_cv2 (d := d + 0) (lkR_RX3_36 rfl dX3_placeOf_5) (k_X6_contains _) ⟨pn_X6_contains, rfl, (Nat.le_of_ble_eq_true rfl), (Nat.le_of_ble_eq_true rfl), rfl⟩ (trivial) cfn (Nat.le_of_ble_eq_true rfl) ?_
  refine V_ifx_eq (tgt := 15) dX3_placeOf_8 (by decide) (fun h8 => ?_) (fun h8 => ?_)
  · refine V_iconst (v := 0) (by decide) dX3_placeOf_15 ?_
    refine V_istore_n_2 dX3_placeOf_16 (Nat.le_of_ble_eq_true rfl) rfl ?_
    refine L_aload_n_0 dX3_placeOf_17 ?_
    refine U_getI dX3_placeOf_18 fl_RX3_22 rfl rfl ?_
    refine L_iload_n_1 dX3_placeOf_21 ?_
    refine U_cv2 (d := d + 0) (lkR_RX3_36 rfl dX3_placeOf_22) (k_X6_contains _) ⟨pn_X6_contains, rfl, (Nat.le_of_ble_eq_true rfl), (Nat.le_of_ble_eq_true rfl), rfl⟩ (trivial) cfn (Nat.le_of_ble_eq_true rfl) ?_
    refine V_ifx_eq (tgt := 32) dX3_placeOf_25 (by decide) (fun h25 => ?_) (fun h25 => ?_)
    · refine V_iconst (v := 0) (by decide) dX3_placeOf_32 ?_
      refine V_istore_n_3 dX3_placeOf_33 (Nat.le_of_ble_eq_true rfl) rfl ?_
      refine L_iload_n_2 dX3_placeOf_34 ?_
      refine L_iload_n_3 dX3_placeOf_35 ?_
      refine V_iadd dX3_placeOf_36 ?_
      exact V_iret dX3_placeOf_37 rfl rfl (by first | exact ⟨rfl, rfl⟩ | exact rtI (by simp_all [b2i]; done))
    · refine V_iconst (v := 2) (by decide) dX3_placeOf_28 ?_
      refine V_goto (tgt := 33) dX3_placeOf_29 (by decide) ?_
      refine V_istore_n_3 dX3_placeOf_33 (Nat.le_of_ble_eq_true rfl) rfl ?_
      refine L_iload_n_2 dX3_placeOf_34 ?_
      refine L_iload_n_3 dX3_placeOf_35 ?_
      refine V_iadd dX3_placeOf_36 ?_
      exact V_iret dX3_placeOf_37 rfl rfl (by first | exact ⟨rfl, rfl⟩ | exact rtI (by simp_all [b2i]; done))
  · refine V_iconst (v := 1) (by decide) dX3_placeOf_11 ?_
    refine V_goto (tgt := 16) dX3_placeOf_12 (by decide) ?_
    refine V_istore_n_2 dX3_placeOf_16 (Nat.le_of_ble_eq_true rfl) rfl ?_
    refine L_aload_n_0 dX3_placeOf_17 ?_
    refine U_getI dX3_placeOf_18 fl_RX3_22 rfl rfl ?_
    refine L_iload_n_1 dX3_placeOf_21 ?_
    refine U_cv2 (d := d + 0) (lkR_RX3_36 rfl dX3_placeOf_22) (k_X6_contains _) ⟨pn_X6_contains, rfl, (Nat.le_of_ble_eq_true rfl), (Nat.le_of_ble_eq_true rfl), rfl⟩ (trivial) cfn (Nat.le_of_ble_eq_true rfl) ?_
    refine V_ifx_eq (tgt := 32) dX3_placeOf_25 (by decide) (fun h25 => ?_) (fun h25 => ?_)
    · refine V_iconst (v := 0) (by decide) dX3_placeOf_32 ?_
      refine V_istore_n_3 dX3_placeOf_33 (Nat.le_of_ble_eq_true rfl) rfl ?_
      refine L_iload_n_2 dX3_placeOf_34 ?_
      refine L_iload_n_3 dX3_placeOf_35 ?_
      refine V_iadd dX3_placeOf_36 ?_
      exact V_iret dX3_placeOf_37 rfl rfl (by first | exact ⟨rfl, rfl⟩ | exact rtI (by simp_all [b2i]; done))
    · refine V_iconst (v := 2) (by decide) dX3_placeOf_28 ?_
      refine V_goto (tgt := 33) dX3_placeOf_29 (by decide) ?_
      refine V_istore_n_3 dX3_placeOf_33 (Nat.le_of_ble_eq_true rfl) rfl ?_
      refine L_iload_n_2 dX3_placeOf_34 ?_
      refine L_iload_n_3 dX3_placeOf_35 ?_
      refine V_iadd dX3_placeOf_36 ?_
      exact V_iret dX3_placeOf_37 rfl rfl (by first | exact ⟨rfl, rfl⟩ | exact rtI (by simp_all [b2i]; done))
theorem k_X3_wholeListCost {g : G0} {j : Nat → Nat → Int64} (d : Nat) {i : Nat → Nat → Int32}  : C g m_X3_wholeListCost (d + 1) 0 0 false [.ref 2] (mk i j) (rets (some (.int (1 + bcI (i 2 1)))) (mk i j)) := by
  refine C_of (L := [some (.ref 2)]) rfl ?_
  refine V_iconst (v := 1) (by decide) dX3_wholeListCost_0 ?_
  refine L_aload_n_0 dX3_wholeListCost_1 ?_
  refine U_getI dX3_wholeListCost_2 fl_RX3_22 rfl rfl ?_
  refine U_cv1 (d := d + 0) (lkR_RX3_50 rfl dX3_wholeListCost_5) (k_J6_bitCount_0f7a4 _) ⟨pn_J6_bitCount_0f7a4, rfl, (Nat.le_of_ble_eq_true rfl), (Nat.le_of_ble_eq_true rfl), rfl⟩ (trivial) cfn (Nat.le_of_ble_eq_true rfl) ?_
  refine V_iadd dX3_wholeListCost_8 ?_
  exact V_iret dX3_wholeListCost_9 rfl rfl (⟨rfl, rfl⟩)
