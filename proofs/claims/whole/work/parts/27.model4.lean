def pst (i : Nat → Nat → Int32) (a : Nat) (s v : Int32) : Nat → Nat → Int32 := fun x f => if x = 89 ∧ f = 6 then nI a else if x = 89 ∧ f = 7 then s else if x = 89 ∧ f = 8 then v else i x f
section PST
variable {i : Nat → Nat → Int32} {a : Nat} {s v x : Int32}
theorem pst6 : pst i a s v 89 6 = nI a := if_pos ⟨rfl, rfl⟩
theorem pst7 : pst i a s v 89 7 = s := by unfold pst; rw [if_neg (by omega), if_pos ⟨rfl, rfl⟩]
theorem pst8 : pst i a s v 89 8 = v := by unfold pst; rw [if_neg (by omega), if_neg (by omega), if_pos ⟨rfl, rfl⟩]
theorem psto {y f : Nat} (h : y ≠ 89 ∨ f < 6 ∨ 8 < f) : pst i a s v y f = i y f := by unfold pst; rw [if_neg (by omega), if_neg (by omega), if_neg (by omega)]
theorem pst_6 : up2 (pst i a s v) 89 6 (nI a + 1) = pst i (a + 1) s v := by
  refine up2_ext fun y f => ?_
  unfold up2 pst
  (repeat' split) <;> first | rfl | exact nI_1 a | (exfalso; omega)
theorem pst_7 : up2 (pst i a s v) 89 7 x = pst i a x v := by
  refine up2_ext fun y f => ?_
  unfold up2 pst
  (repeat' split) <;> first | rfl | (exfalso; omega)
theorem pst_8 : up2 (pst i a s v) 89 8 x = pst i a s x := by
  refine up2_ext fun y f => ?_
  unfold up2 pst
  (repeat' split) <;> first | rfl | (exfalso; omega)
theorem pst_in (h6 : i 89 6 = nI a) (h7 : i 89 7 = s) (h8 : i 89 8 = v) : i = pst i a s v := by
  refine up2_ext fun y f => ?_
  unfold pst
  (repeat' split)
  · rename_i h; rw [h.1, h.2]; exact h6
  · rename_i h; rw [h.1, h.2]; exact h7
  · rename_i h; rw [h.1, h.2]; exact h8
  · rfl
theorem pst_at {b : Nat} : up2 (pst i a s v) 89 6 (nI b) = pst i b s v := by
  refine up2_ext fun y f => ?_
  unfold up2 pst
  (repeat' split) <;> first | rfl | (exfalso; omega)
end PST
def nx (i : Nat → Nat → Int32) (l a : Nat) : Int32 := if a < l then i 92 a else 0
abbrev rnR (i : Nat → Nat → Int32) (l : Nat) (m : Int32) (a : Nat) : Prop := wit (nx i l a - 48) 0 9 ∧ ¬ m < nx i l a - 48
abbrev rn2 (i : Nat → Nat → Int32) (l : Nat) (m : Int32) (a : Nat) : Prop := 0 < nx i l a - 48 ∧ wit (nx i l (a + 1) - 48) 0 9 ∧ ¬ m < 10 * (nx i l a - 48) + (nx i l (a + 1) - 48)
def rnA (i : Nat → Nat → Int32) (l : Nat) (m : Int32) (a : Nat) : Nat := if rnR i l m a then (if rn2 i l m a then a + 2 else a + 1) else a
def rnV (i : Nat → Nat → Int32) (l : Nat) (m : Int32) (a : Nat) : Int32 := if rnR i l m a ∧ rn2 i l m a then 10 * (nx i l a - 48) + (nx i l (a + 1) - 48) else nx i l a - 48
theorem k_X7_next {g : G0} {j : Nat → Nat → Int64} (d : Nat) {i : Nat → Nat → Int32} {a l : Nat} {s v : Int32} (hl : i 89 5 = nI l) (h60 : l ≤ 60) (ha : a < 100)  : C g m_X7_next (d + 0) 0 0 false [.ref 89] (mk (pst i a s v) j) (rets (some (.int (nx i l a))) (mk (pst i a s v) j)) := by
  refine C_of (L := [some (.ref 89)]) rfl ?_
  have mal : ¬ nI l ≤ nI a → a < l := fun z => by have := mt (nI_leI (a := l) (b := a) (by omega) (by omega)).mpr z; omega
  refine L_aload_n_0 dX7_next_0 ?_
  refine U_getI dX7_next_1 fl_RX7_153 rfl rfl ?_
  refine V_eqv (y := nI a) pst6 ?_
  refine L_aload_n_0 dX7_next_4 ?_
  refine U_getI dX7_next_5 fl_RX7_150 rfl rfl ?_
  refine V_eqv (y := nI l) ((psto (by omega)).trans hl) ?_
  refine V_icmp_ge (tgt := 23) dX7_next_8 (by decide) (fun h8 => ?_) (fun h8 => ?_)
  · refine V_iconst (v := 0) (by decide) dX7_next_23 ?_
    exact V_iret dX7_next_24 rfl rfl (rtI (by unfold nx; rw [if_neg (fun z => absurd ((nI_leI (a := l) (b := a) (by omega) (by omega)).mp h8) (by omega))]))
  · refine L_aload_n_0 dX7_next_11 ?_
    refine U_getR (r := 92) dX7_next_12 fl_RX7_16 rfl rfl rfl ?_
    refine L_aload_n_0 dX7_next_15 ?_
    refine U_getI dX7_next_16 fl_RX7_153 rfl rfl ?_
    refine V_eqv (y := nI a) pst6 ?_
    refine U_iald (n := a) dX7_next_19 rfl (rfl) (by have := mal h8; omega) (by decide) ?_
    refine V_goto (tgt := 24) dX7_next_20 (by decide) ?_
    exact V_iret dX7_next_24 rfl rfl (rtI (by unfold nx; rw [if_pos (mal h8)]; exact psto (by omega)))
theorem k_X7_readsNumber {g : G0} {j : Nat → Nat → Int64} (d : Nat) {i : Nat → Nat → Int32} {a l : Nat} {s v : Int32} (hl : i 89 5 = nI l) (h60 : l ≤ 60) (ha : a < 90) {m : Int32}  : C g m_X7_readsNumber (d + 1) 0 0 false [.ref 89, .int m] (mk (pst i a s v) j) (rets (some (.int (b2i (rnR i l m a)))) (mk (pst i (rnA i l m a) s (rnV i l m a)) j)) := by
  refine C_of (L := [some (.ref 89), some (.int m), none]) rfl ?_
  refine L_aload_n_0 dX7_readsNumber_0 ?_
  refine L_aload_n_0 dX7_readsNumber_1 ?_
  refine U_cv1 (d := d + 0) (lkR_RX7_156 rfl dX7_readsNumber_2) (k_X7_next _ hl h60 (by omega)) ⟨pn_X7_next, rfl, (Nat.le_of_ble_eq_true rfl), (Nat.le_of_ble_eq_true rfl), rfl⟩ (⟨_, _, rfl, rfl, rfl⟩) (cfS cf7) (Nat.le_of_ble_eq_true rfl) ?_
  refine V_bipush (v := 48) (by decide) dX7_readsNumber_5 ?_
  refine V_isub dX7_readsNumber_7 ?_
  refine U_putI dX7_readsNumber_8 fl_RX7_159 rfl rfl rfl ?_
  refine V_eqI pst_8 ?_
  refine L_aload_n_0 dX7_readsNumber_11 ?_
  refine U_getI dX7_readsNumber_12 fl_RX7_159 rfl rfl ?_
  refine V_eqv (y := (nx i l a - 48)) pst8 ?_
  refine V_iconst (v := 0) (by decide) dX7_readsNumber_15 ?_
  refine V_bipush (v := 9) (by decide) dX7_readsNumber_16 ?_
  refine U_cv3 (d := d + 0) (lkR_RX7_23 rfl dX7_readsNumber_18) (k_X7_within _) ⟨pn_X7_within, rfl, (Nat.le_of_ble_eq_true rfl), (Nat.le_of_ble_eq_true rfl), rfl⟩ (trivial) cfn (Nat.le_of_ble_eq_true rfl) ?_
  refine V_ifx_eq (tgt := 32) dX7_readsNumber_21 (by decide) (fun h21 => ?_) (fun h21 => ?_)
  · refine V_iconst (v := 0) (by decide) dX7_readsNumber_32 ?_
    exact V_iret dX7_readsNumber_33 rfl rfl (by
    have hn : ¬ rnR i l m a := fun z => absurd h21 (by rw [b2t z.1]; decide)
    rw [b2f hn, show rnA i l m a = a from if_neg hn, show rnV i l m a = nx i l a - 48 from if_neg (fun z => hn z.1)]; exact ⟨rfl, rfl⟩)
  · refine L_aload_n_0 dX7_readsNumber_24 ?_
    refine U_getI dX7_readsNumber_25 fl_RX7_159 rfl rfl ?_
    refine V_eqv (y := (nx i l a - 48)) pst8 ?_
    refine L_iload_n_1 dX7_readsNumber_28 ?_
    refine V_icmp_le (tgt := 34) dX7_readsNumber_29 (by decide) (fun h29 => ?_) (fun h29 => ?_)
    · refine L_aload_n_0 dX7_readsNumber_34 ?_
      refine V_dup rfl dX7_readsNumber_35 ?_
      refine U_getI dX7_readsNumber_36 fl_RX7_153 rfl rfl ?_
      refine V_eqv (y := nI a) pst6 ?_
      refine V_iconst (v := 1) (by decide) dX7_readsNumber_39 ?_
      refine V_iadd dX7_readsNumber_40 ?_
      refine U_putI dX7_readsNumber_41 fl_RX7_153 rfl rfl rfl ?_
      refine V_eqI pst_6 ?_
      refine L_aload_n_0 dX7_readsNumber_44 ?_
      refine U_cv1 (d := d + 0) (lkR_RX7_156 rfl dX7_readsNumber_45) (k_X7_next _ hl h60 (by omega)) ⟨pn_X7_next, rfl, (Nat.le_of_ble_eq_true rfl), (Nat.le_of_ble_eq_true rfl), rfl⟩ (⟨_, _, rfl, rfl, rfl⟩) (cfS cf7) (Nat.le_of_ble_eq_true rfl) ?_
      refine V_bipush (v := 48) (by decide) dX7_readsNumber_48 ?_
      refine V_isub dX7_readsNumber_50 ?_
      refine V_istore_n_2 dX7_readsNumber_51 (Nat.le_of_ble_eq_true rfl) rfl ?_
      refine L_aload_n_0 dX7_readsNumber_52 ?_
      refine U_getI dX7_readsNumber_53 fl_RX7_159 rfl rfl ?_
      refine V_eqv (y := (nx i l a - 48)) pst8 ?_
      refine V_ifx_le (tgt := 105) dX7_readsNumber_56 (by decide) (fun h56 => ?_) (fun h56 => ?_)
      · refine V_iconst (v := 1) (by decide) dX7_readsNumber_105 ?_
        exact V_iret dX7_readsNumber_106 rfl rfl (by
    have hp : rnR i l m a := ⟨b2p h21, Int32.not_lt.mpr h29⟩
    have h2 : ¬ rn2 i l m a := fun z => Int32.not_lt.mpr h56 z.1
    rw [b2t hp, show rnA i l m a = a + 1 from (if_pos hp).trans (if_neg h2), show rnV i l m a = nx i l a - 48 from if_neg (fun z => h2 z.2)]; exact ⟨rfl, rfl⟩)
      · refine L_iload_n_2 dX7_readsNumber_59 ?_
        refine V_iconst (v := 0) (by decide) dX7_readsNumber_60 ?_
        refine V_bipush (v := 9) (by decide) dX7_readsNumber_61 ?_
        refine U_cv3 (d := d + 0) (lkR_RX7_23 rfl dX7_readsNumber_63) (k_X7_within _) ⟨pn_X7_within, rfl, (Nat.le_of_ble_eq_true rfl), (Nat.le_of_ble_eq_true rfl), rfl⟩ (trivial) cfn (Nat.le_of_ble_eq_true rfl) ?_
        refine V_ifx_eq (tgt := 105) dX7_readsNumber_66 (by decide) (fun h66 => ?_) (fun h66 => ?_)
        · refine V_iconst (v := 1) (by decide) dX7_readsNumber_105 ?_
          exact V_iret dX7_readsNumber_106 rfl rfl (by
    have hp : rnR i l m a := ⟨b2p h21, Int32.not_lt.mpr h29⟩
    have h2 : ¬ rn2 i l m a := fun z => absurd h66 (by rw [b2t z.2.1]; decide)
    rw [b2t hp, show rnA i l m a = a + 1 from (if_pos hp).trans (if_neg h2), show rnV i l m a = nx i l a - 48 from if_neg (fun z => h2 z.2)]; exact ⟨rfl, rfl⟩)
        · refine V_bipush (v := 10) (by decide) dX7_readsNumber_69 ?_
          refine L_aload_n_0 dX7_readsNumber_71 ?_
          refine U_getI dX7_readsNumber_72 fl_RX7_159 rfl rfl ?_
          refine V_eqv (y := (nx i l a - 48)) pst8 ?_
          refine V_imul dX7_readsNumber_75 ?_
          refine L_iload_n_2 dX7_readsNumber_76 ?_
          refine V_iadd dX7_readsNumber_77 ?_
          refine L_iload_n_1 dX7_readsNumber_78 ?_
          refine V_icmp_gt (tgt := 105) dX7_readsNumber_79 (by decide) (fun h79 => ?_) (fun h79 => ?_)
          · refine V_iconst (v := 1) (by decide) dX7_readsNumber_105 ?_
            exact V_iret dX7_readsNumber_106 rfl rfl (by
    have hp : rnR i l m a := ⟨b2p h21, Int32.not_lt.mpr h29⟩
    have h2 : ¬ rn2 i l m a := fun z => z.2.2 h79
    rw [b2t hp, show rnA i l m a = a + 1 from (if_pos hp).trans (if_neg h2), show rnV i l m a = nx i l a - 48 from if_neg (fun z => h2 z.2)]; exact ⟨rfl, rfl⟩)
          · refine L_aload_n_0 dX7_readsNumber_82 ?_
            refine V_bipush (v := 10) (by decide) dX7_readsNumber_83 ?_
            refine L_aload_n_0 dX7_readsNumber_85 ?_
            refine U_getI dX7_readsNumber_86 fl_RX7_159 rfl rfl ?_
            refine V_eqv (y := (nx i l a - 48)) pst8 ?_
            refine V_imul dX7_readsNumber_89 ?_
            refine L_iload_n_2 dX7_readsNumber_90 ?_
            refine V_iadd dX7_readsNumber_91 ?_
            refine U_putI dX7_readsNumber_92 fl_RX7_159 rfl rfl rfl ?_
            refine V_eqI pst_8 ?_
            refine L_aload_n_0 dX7_readsNumber_95 ?_
            refine V_dup rfl dX7_readsNumber_96 ?_
            refine U_getI dX7_readsNumber_97 fl_RX7_153 rfl rfl ?_
            refine V_eqv (y := nI (a + 1)) pst6 ?_
            refine V_iconst (v := 1) (by decide) dX7_readsNumber_100 ?_
            refine V_iadd dX7_readsNumber_101 ?_
            refine U_putI dX7_readsNumber_102 fl_RX7_153 rfl rfl rfl ?_
            refine V_eqI pst_6 ?_
            refine V_iconst (v := 1) (by decide) dX7_readsNumber_105 ?_
            exact V_iret dX7_readsNumber_106 rfl rfl (by
    have hp : rnR i l m a := ⟨b2p h21, Int32.not_lt.mpr h29⟩
    have h2 : rn2 i l m a := ⟨Int32.not_le.mp h56, b2p h66, h79⟩
    rw [b2t hp, show rnA i l m a = a + 2 from (if_pos hp).trans (if_pos h2), show rnV i l m a = _ from if_pos ⟨hp, h2⟩]; exact ⟨rfl, rfl⟩)
    · refine V_iconst (v := 0) (by decide) dX7_readsNumber_32 ?_
      exact V_iret dX7_readsNumber_33 rfl rfl (by
    have hn : ¬ rnR i l m a := fun z => z.2 (Int32.not_le.mp h29)
    rw [b2f hn, show rnA i l m a = a from if_neg hn, show rnV i l m a = nx i l a - 48 from if_neg (fun z => hn z.1)]; exact ⟨rfl, rfl⟩)
abbrev num (x : Int32) : Prop := x = 43 ∨ x = 45 ∨ x = 110 ∨ x = 114 ∨ x = 115 ∨ x = 119
def mo (x : Int32) : Int32 := if x = 43 ∨ x = 45 then 29 else if x = 110 then 15 else 3
abbrev roB (i : Nat → Nat → Int32) (l a : Nat) : Prop := (num (nx i l a) ∧ rnR i l (mo (nx i l a)) (a + 1)) ∨ nx i l a = 112
def roA (i : Nat → Nat → Int32) (l a : Nat) : Nat := if num (nx i l a) then rnA i l (mo (nx i l a)) (a + 1) else if nx i l a = 112 then a + 1 else a
def roV (i : Nat → Nat → Int32) (l a : Nat) (v : Int32) : Int32 := if num (nx i l a) then rnV i l (mo (nx i l a)) (a + 1) else v
theorem k_X7_readsOrder {g : G0} {j : Nat → Nat → Int64} (d : Nat) {i : Nat → Nat → Int32} {a l : Nat} {s v : Int32} (hl : i 89 5 = nI l) (h60 : l ≤ 60) (ha : a < 80)  : C g m_X7_readsOrder (d + 2) 0 0 false [.ref 89] (mk (pst i a s v) j) (rets (some (.int (b2i (roB i l a)))) (mk (pst i (roA i l a) (nx i l a) (roV i l a v)) j)) := by
  refine C_of (L := [some (.ref 89)]) rfl ?_
  refine L_aload_n_0 dX7_readsOrder_0 ?_
  refine L_aload_n_0 dX7_readsOrder_1 ?_
  refine U_cv1 (d := d + 1) (lkR_RX7_156 rfl dX7_readsOrder_2) (k_X7_next _ hl h60 (by omega)) ⟨pn_X7_next, rfl, (Nat.le_of_ble_eq_true rfl), (Nat.le_of_ble_eq_true rfl), rfl⟩ (⟨_, _, rfl, rfl, rfl⟩) (cfS cf7) (Nat.le_of_ble_eq_true rfl) ?_
  refine U_putI dX7_readsOrder_5 fl_RX7_162 rfl rfl rfl ?_
  refine V_eqI pst_7 ?_
  refine L_aload_n_0 dX7_readsOrder_8 ?_
  refine U_getI dX7_readsOrder_9 fl_RX7_162 rfl rfl ?_
  refine V_eqv (y := (nx i l a)) pst7 ?_
  by_cases e43 : nx i l a = 43
  · refine V_lookup (off := 68) (tgt := 80) dX7_readsOrder_12 (by decide) (by rw [e43]; decide) (by decide) ?_
    have hnum : num (nx i l a) := by unfold num; simp [e43]
    have hp : ¬ nx i l a = 112 := by rw [e43]; decide
    have hm : (29 : Int32) = mo (nx i l a) := by unfold mo; rw [e43]; decide
    refine L_aload_n_0 dX7_readsOrder_80 ?_
    refine V_dup rfl dX7_readsOrder_81 ?_
    refine U_getI dX7_readsOrder_82 fl_RX7_153 rfl rfl ?_
    refine V_eqv (y := nI a) pst6 ?_
    refine V_iconst (v := 1) (by decide) dX7_readsOrder_85 ?_
    refine V_iadd dX7_readsOrder_86 ?_
    refine U_putI dX7_readsOrder_87 fl_RX7_153 rfl rfl rfl ?_
    refine V_eqI pst_6 ?_
    refine L_aload_n_0 dX7_readsOrder_90 ?_
    refine V_bipush (v := 29) (by decide) dX7_readsOrder_91 ?_
    rw [hm]
    refine U_cv2 (d := d + 1) (lkR_RX7_165 rfl dX7_readsOrder_93) (k_X7_readsNumber _ hl h60 (a := a + 1) (by omega)) ⟨pn_X7_readsNumber, rfl, (Nat.le_of_ble_eq_true rfl), (Nat.le_of_ble_eq_true rfl), rfl⟩ (⟨_, _, rfl, rfl, rfl⟩) (cfS cf7) (Nat.le_of_ble_eq_true rfl) ?_
    exact V_iret dX7_readsOrder_96 rfl b2n (by
    rw [show b2i (roB i l a) = b2i (rnR i l (mo (nx i l a)) (a + 1)) from by unfold b2i; simp only [roB, hnum, true_and, hp, or_false], show roA i l a = rnA i l (mo (nx i l a)) (a + 1) from if_pos hnum, show roV i l a v = rnV i l (mo (nx i l a)) (a + 1) from if_pos hnum]; exact ⟨rfl, rfl⟩)
  by_cases e45 : nx i l a = 45
  · refine V_lookup (off := 68) (tgt := 80) dX7_readsOrder_12 (by decide) (by rw [e45]; decide) (by decide) ?_
    have hnum : num (nx i l a) := by unfold num; simp [e45]
    have hp : ¬ nx i l a = 112 := by rw [e45]; decide
    have hm : (29 : Int32) = mo (nx i l a) := by unfold mo; rw [e45]; decide
    refine L_aload_n_0 dX7_readsOrder_80 ?_
    refine V_dup rfl dX7_readsOrder_81 ?_
    refine U_getI dX7_readsOrder_82 fl_RX7_153 rfl rfl ?_
    refine V_eqv (y := nI a) pst6 ?_
    refine V_iconst (v := 1) (by decide) dX7_readsOrder_85 ?_
    refine V_iadd dX7_readsOrder_86 ?_
    refine U_putI dX7_readsOrder_87 fl_RX7_153 rfl rfl rfl ?_
    refine V_eqI pst_6 ?_
    refine L_aload_n_0 dX7_readsOrder_90 ?_
    refine V_bipush (v := 29) (by decide) dX7_readsOrder_91 ?_
    rw [hm]
    refine U_cv2 (d := d + 1) (lkR_RX7_165 rfl dX7_readsOrder_93) (k_X7_readsNumber _ hl h60 (a := a + 1) (by omega)) ⟨pn_X7_readsNumber, rfl, (Nat.le_of_ble_eq_true rfl), (Nat.le_of_ble_eq_true rfl), rfl⟩ (⟨_, _, rfl, rfl, rfl⟩) (cfS cf7) (Nat.le_of_ble_eq_true rfl) ?_
    exact V_iret dX7_readsOrder_96 rfl b2n (by
    rw [show b2i (roB i l a) = b2i (rnR i l (mo (nx i l a)) (a + 1)) from by unfold b2i; simp only [roB, hnum, true_and, hp, or_false], show roA i l a = rnA i l (mo (nx i l a)) (a + 1) from if_pos hnum, show roV i l a v = rnV i l (mo (nx i l a)) (a + 1) from if_pos hnum]; exact ⟨rfl, rfl⟩)
  by_cases e110 : nx i l a = 110
  · refine V_lookup (off := 85) (tgt := 97) dX7_readsOrder_12 (by decide) (by rw [e110]; decide) (by decide) ?_
    have hnum : num (nx i l a) := by unfold num; simp [e110]
    have hp : ¬ nx i l a = 112 := by rw [e110]; decide
    have hm : (15 : Int32) = mo (nx i l a) := by unfold mo; rw [e110]; decide
    refine L_aload_n_0 dX7_readsOrder_97 ?_
    refine V_dup rfl dX7_readsOrder_98 ?_
    refine U_getI dX7_readsOrder_99 fl_RX7_153 rfl rfl ?_
    refine V_eqv (y := nI a) pst6 ?_
    refine V_iconst (v := 1) (by decide) dX7_readsOrder_102 ?_
    refine V_iadd dX7_readsOrder_103 ?_
    refine U_putI dX7_readsOrder_104 fl_RX7_153 rfl rfl rfl ?_
    refine V_eqI pst_6 ?_
    refine L_aload_n_0 dX7_readsOrder_107 ?_
    refine V_bipush (v := 15) (by decide) dX7_readsOrder_108 ?_
    rw [hm]
    refine U_cv2 (d := d + 1) (lkR_RX7_165 rfl dX7_readsOrder_110) (k_X7_readsNumber _ hl h60 (a := a + 1) (by omega)) ⟨pn_X7_readsNumber, rfl, (Nat.le_of_ble_eq_true rfl), (Nat.le_of_ble_eq_true rfl), rfl⟩ (⟨_, _, rfl, rfl, rfl⟩) (cfS cf7) (Nat.le_of_ble_eq_true rfl) ?_
    exact V_iret dX7_readsOrder_113 rfl b2n (by
    rw [show b2i (roB i l a) = b2i (rnR i l (mo (nx i l a)) (a + 1)) from by unfold b2i; simp only [roB, hnum, true_and, hp, or_false], show roA i l a = rnA i l (mo (nx i l a)) (a + 1) from if_pos hnum, show roV i l a v = rnV i l (mo (nx i l a)) (a + 1) from if_pos hnum]; exact ⟨rfl, rfl⟩)
  by_cases e112 : nx i l a = 112
  · refine V_lookup (off := 118) (tgt := 130) dX7_readsOrder_12 (by decide) (by rw [e112]; decide) (by decide) ?_
    have hnn : ¬ num (nx i l a) := by unfold num; rw [e112]; decide
    refine L_aload_n_0 dX7_readsOrder_130 ?_
    refine V_dup rfl dX7_readsOrder_131 ?_
    refine U_getI dX7_readsOrder_132 fl_RX7_153 rfl rfl ?_
    refine V_eqv (y := nI a) pst6 ?_
    refine V_iconst (v := 1) (by decide) dX7_readsOrder_135 ?_
    refine V_iadd dX7_readsOrder_136 ?_
    refine U_putI dX7_readsOrder_137 fl_RX7_153 rfl rfl rfl ?_
    refine V_eqI pst_6 ?_
    refine V_iconst (v := 1) (by decide) dX7_readsOrder_140 ?_
    exact V_iret dX7_readsOrder_141 rfl rfl (by
    rw [show b2i (roB i l a) = 1 from b2t (Or.inr e112), show roA i l a = a + 1 from (if_neg hnn).trans (if_pos e112), show roV i l a v = v from if_neg hnn]; exact ⟨rfl, rfl⟩)
  by_cases e114 : nx i l a = 114
  · refine V_lookup (off := 102) (tgt := 114) dX7_readsOrder_12 (by decide) (by rw [e114]; decide) (by decide) ?_
    have hnum : num (nx i l a) := by unfold num; simp [e114]
    have hp : ¬ nx i l a = 112 := by rw [e114]; decide
    have hm : (3 : Int32) = mo (nx i l a) := by unfold mo; rw [e114]; decide
    refine L_aload_n_0 dX7_readsOrder_114 ?_
    refine V_dup rfl dX7_readsOrder_115 ?_
    refine U_getI dX7_readsOrder_116 fl_RX7_153 rfl rfl ?_
    refine V_eqv (y := nI a) pst6 ?_
    refine V_iconst (v := 1) (by decide) dX7_readsOrder_119 ?_
    refine V_iadd dX7_readsOrder_120 ?_
    refine U_putI dX7_readsOrder_121 fl_RX7_153 rfl rfl rfl ?_
    refine V_eqI pst_6 ?_
    refine L_aload_n_0 dX7_readsOrder_124 ?_
    refine V_iconst (v := 3) (by decide) dX7_readsOrder_125 ?_
    rw [hm]
    refine U_cv2 (d := d + 1) (lkR_RX7_165 rfl dX7_readsOrder_126) (k_X7_readsNumber _ hl h60 (a := a + 1) (by omega)) ⟨pn_X7_readsNumber, rfl, (Nat.le_of_ble_eq_true rfl), (Nat.le_of_ble_eq_true rfl), rfl⟩ (⟨_, _, rfl, rfl, rfl⟩) (cfS cf7) (Nat.le_of_ble_eq_true rfl) ?_
    exact V_iret dX7_readsOrder_129 rfl b2n (by
    rw [show b2i (roB i l a) = b2i (rnR i l (mo (nx i l a)) (a + 1)) from by unfold b2i; simp only [roB, hnum, true_and, hp, or_false], show roA i l a = rnA i l (mo (nx i l a)) (a + 1) from if_pos hnum, show roV i l a v = rnV i l (mo (nx i l a)) (a + 1) from if_pos hnum]; exact ⟨rfl, rfl⟩)
  by_cases e115 : nx i l a = 115
  · refine V_lookup (off := 102) (tgt := 114) dX7_readsOrder_12 (by decide) (by rw [e115]; decide) (by decide) ?_
    have hnum : num (nx i l a) := by unfold num; simp [e115]
    have hp : ¬ nx i l a = 112 := by rw [e115]; decide
    have hm : (3 : Int32) = mo (nx i l a) := by unfold mo; rw [e115]; decide
    refine L_aload_n_0 dX7_readsOrder_114 ?_
    refine V_dup rfl dX7_readsOrder_115 ?_
    refine U_getI dX7_readsOrder_116 fl_RX7_153 rfl rfl ?_
    refine V_eqv (y := nI a) pst6 ?_
    refine V_iconst (v := 1) (by decide) dX7_readsOrder_119 ?_
    refine V_iadd dX7_readsOrder_120 ?_
    refine U_putI dX7_readsOrder_121 fl_RX7_153 rfl rfl rfl ?_
    refine V_eqI pst_6 ?_
    refine L_aload_n_0 dX7_readsOrder_124 ?_
    refine V_iconst (v := 3) (by decide) dX7_readsOrder_125 ?_
    rw [hm]
    refine U_cv2 (d := d + 1) (lkR_RX7_165 rfl dX7_readsOrder_126) (k_X7_readsNumber _ hl h60 (a := a + 1) (by omega)) ⟨pn_X7_readsNumber, rfl, (Nat.le_of_ble_eq_true rfl), (Nat.le_of_ble_eq_true rfl), rfl⟩ (⟨_, _, rfl, rfl, rfl⟩) (cfS cf7) (Nat.le_of_ble_eq_true rfl) ?_
    exact V_iret dX7_readsOrder_129 rfl b2n (by
    rw [show b2i (roB i l a) = b2i (rnR i l (mo (nx i l a)) (a + 1)) from by unfold b2i; simp only [roB, hnum, true_and, hp, or_false], show roA i l a = rnA i l (mo (nx i l a)) (a + 1) from if_pos hnum, show roV i l a v = rnV i l (mo (nx i l a)) (a + 1) from if_pos hnum]; exact ⟨rfl, rfl⟩)
  by_cases e119 : nx i l a = 119
  · refine V_lookup (off := 102) (tgt := 114) dX7_readsOrder_12 (by decide) (by rw [e119]; decide) (by decide) ?_
    have hnum : num (nx i l a) := by unfold num; simp [e119]
    have hp : ¬ nx i l a = 112 := by rw [e119]; decide
    have hm : (3 : Int32) = mo (nx i l a) := by unfold mo; rw [e119]; decide
    refine L_aload_n_0 dX7_readsOrder_114 ?_
    refine V_dup rfl dX7_readsOrder_115 ?_
    refine U_getI dX7_readsOrder_116 fl_RX7_153 rfl rfl ?_
    refine V_eqv (y := nI a) pst6 ?_
    refine V_iconst (v := 1) (by decide) dX7_readsOrder_119 ?_
    refine V_iadd dX7_readsOrder_120 ?_
    refine U_putI dX7_readsOrder_121 fl_RX7_153 rfl rfl rfl ?_
    refine V_eqI pst_6 ?_
    refine L_aload_n_0 dX7_readsOrder_124 ?_
    refine V_iconst (v := 3) (by decide) dX7_readsOrder_125 ?_
    rw [hm]
    refine U_cv2 (d := d + 1) (lkR_RX7_165 rfl dX7_readsOrder_126) (k_X7_readsNumber _ hl h60 (a := a + 1) (by omega)) ⟨pn_X7_readsNumber, rfl, (Nat.le_of_ble_eq_true rfl), (Nat.le_of_ble_eq_true rfl), rfl⟩ (⟨_, _, rfl, rfl, rfl⟩) (cfS cf7) (Nat.le_of_ble_eq_true rfl) ?_
    exact V_iret dX7_readsOrder_129 rfl b2n (by
    rw [show b2i (roB i l a) = b2i (rnR i l (mo (nx i l a)) (a + 1)) from by unfold b2i; simp only [roB, hnum, true_and, hp, or_false], show roA i l a = rnA i l (mo (nx i l a)) (a + 1) from if_pos hnum, show roV i l a v = rnV i l (mo (nx i l a)) (a + 1) from if_pos hnum]; exact ⟨rfl, rfl⟩)
  refine V_lookup (off := 130) (tgt := 142) dX7_readsOrder_12 (by decide) (by show Op.lookupswitch.offset [(43, 68), (45, 68), (110, 85), (112, 118), (114, 102), (115, 102), (119, 102)] _ _ = _; rw [lv_osw e43 (by decide), lv_osw e45 (by decide), lv_osw e110 (by decide), lv_osw e112 (by decide), lv_osw e114 (by decide), lv_osw e115 (by decide), lv_osw e119 (by decide)]; rfl) (by decide) ?_
  have hnn : ¬ num (nx i l a) := by unfold num; simp [*]
  refine V_iconst (v := 0) (by decide) dX7_readsOrder_142 ?_
  exact V_iret dX7_readsOrder_143 rfl rfl (by
    rw [show b2i (roB i l a) = 0 from b2f (fun z => z.elim (fun y => hnn y.1) e112), show roA i l a = a from (if_neg hnn).trans (if_neg e112), show roV i l a v = v from if_neg hnn]; exact ⟨rfl, rfl⟩)
theorem nx_lt {i : Nat → Nat → Int32} {l a : Nat} (h : ¬ nx i l a = 0) : a < l := Classical.byContradiction fun z => h (if_neg z)
theorem rnR_lt {i : Nat → Nat → Int32} {l a : Nat} {m : Int32} (h : rnR i l m a) : a < l := nx_lt fun z => by
  have h2 := h.1.1; rw [z] at h2; exact h2 (by decide)
theorem rnA_le {i : Nat → Nat → Int32} {l a : Nat} {m : Int32} (h : rnR i l m a) : a + 1 ≤ rnA i l m a ∧ rnA i l m a ≤ l := by
  have h1 := rnR_lt h
  unfold rnA
  rw [if_pos h]
  split
  · rename_i h2
    have h3 : a + 1 < l := nx_lt fun z => by have h4 := h2.2.1.1; rw [z] at h4; exact h4 (by decide)
    omega
  · omega
theorem roA_le {i : Nat → Nat → Int32} {l a : Nat} (h : roB i l a) : a + 1 ≤ roA i l a ∧ roA i l a ≤ l := by
  unfold roA
  by_cases hn : num (nx i l a)
  · rw [if_pos hn]
    have h2 : rnR i l (mo (nx i l a)) (a + 1) := h.elim (fun z => z.2) (fun z => by rw [z] at hn; exact absurd hn (by decide))
    have := rnA_le h2
    omega
  · rw [if_neg hn]
    have h2 : nx i l a = 112 := h.elim (fun z => absurd z.1 hn) id
    rw [if_pos h2]
    have : a < l := nx_lt (by rw [h2]; decide)
    omega
theorem roA_nn {i : Nat → Nat → Int32} {l a : Nat} : roA i l a ≤ a + 3 := by unfold roA rnA; (repeat' split) <;> omega
def fe (i : Nat → Nat → Int32) (l : Nat) : Nat → Nat → Int32 → Int32 × Nat × Int32 × Int32
  | 0, a, v => (nI a, a, 0, v)
  | r + 1, a, v =>
    if ¬ roB i l a then (nI (roA i l a), roA i l a, nx i l a, roV i l a v)
    else if roA i l a = l then (-1, roA i l a, nx i l a, roV i l a v)
    else if ¬ nx i l (roA i l a) = 59 then (nI (roA i l a), roA i l a, nx i l a, roV i l a v)
    else fe i l r (roA i l a + 1) (roV i l a v)
abbrev feR (i : Nat → Nat → Int32) (l : Nat) : Int32 := (fe i l (l + 1) 0 (i 89 8)).1
def feM (i : Nat → Nat → Int32) (t : Int32 × Nat × Int32 × Int32) : Nat → Nat → Int32 := pst i t.2.1 t.2.2.1 t.2.2.2
theorem k_X7_findError {g : G0} {j : Nat → Nat → Int64} (d : Nat) {i : Nat → Nat → Int32} {l : Nat} (hl : i 89 5 = nI l) (h60 : l ≤ 60)  : C g m_X7_findError (d + 3) 0 0 false [.ref 89] (mk i j) (rets (some (.int (feR i l))) (mk (feM i (fe i l (l + 1) 0 (i 89 8))) j)) := by
  refine C_of (L := [some (.ref 89)]) rfl ?_
  have loop : ∀ (r a : Nat) (s v : Int32), a ≤ l → l < a + r → V g m_X7_findError (d + 3) 0 0 false (Kp g false (rets (some (.int (fe i l r a v).1)) (mk (feM i (fe i l r a v)) j))) 5 [some (.ref 89)] [] (mk (pst i a s v) j) := by
    intro r
    induction r with
    | zero =>
      intro a s v h1 h2
      omega
    | succ r ih =>
      intro a s v h1 h2
      refine L_aload_n_0 dX7_findError_5 ?_
      refine U_cv1 (d := d + 2) (lkR_RX7_168 rfl dX7_findError_6) (k_X7_readsOrder _ hl h60 (by omega)) ⟨pn_X7_readsOrder, rfl, (Nat.le_of_ble_eq_true rfl), (Nat.le_of_ble_eq_true rfl), rfl⟩ (⟨_, _, rfl, rfl, rfl⟩) (cfS cf7) (Nat.le_of_ble_eq_true rfl) ?_
      refine V_ifx_eq (tgt := 52) dX7_findError_9 (by decide) (fun h9 => ?_) (fun h9 => ?_)
      · refine L_aload_n_0 dX7_findError_52 ?_
        refine U_getI dX7_findError_53 fl_RX7_153 rfl rfl ?_
        refine V_eqv (y := nI (roA i l a)) pst6 ?_
        exact V_iret dX7_findError_56 rfl rfl (by
        unfold fe feM
        rw [if_pos (b2z.mp h9)]
        exact ⟨rfl, rfl⟩)
      · refine L_aload_n_0 dX7_findError_12 ?_
        have hR := roA_le (b2p h9)
        refine U_getI dX7_findError_13 fl_RX7_153 rfl rfl ?_
        refine V_eqv (y := nI (roA i l a)) pst6 ?_
        refine L_aload_n_0 dX7_findError_16 ?_
        refine U_getI dX7_findError_17 fl_RX7_150 rfl rfl ?_
        refine V_eqv (y := nI l) ((psto (by omega)).trans hl) ?_
        refine V_icmp_ne (tgt := 25) dX7_findError_20 (by decide) (fun h20 => ?_) (fun h20 => ?_)
        · refine L_aload_n_0 dX7_findError_25 ?_
          refine U_cv1 (d := d + 2) (lkR_RX7_156 rfl dX7_findError_26) (k_X7_next _ hl h60 (by omega)) ⟨pn_X7_next, rfl, (Nat.le_of_ble_eq_true rfl), (Nat.le_of_ble_eq_true rfl), rfl⟩ (⟨_, _, rfl, rfl, rfl⟩) (cfS cf7) (Nat.le_of_ble_eq_true rfl) ?_
          refine V_bipush (v := 59) (by decide) dX7_findError_29 ?_
          refine V_icmp_eq (tgt := 39) dX7_findError_31 (by decide) (fun h31 => ?_) (fun h31 => ?_)
          · refine L_aload_n_0 dX7_findError_39 ?_
            refine V_dup rfl dX7_findError_40 ?_
            refine U_getI dX7_findError_41 fl_RX7_153 rfl rfl ?_
            refine V_eqv (y := nI (roA i l a)) pst6 ?_
            refine V_iconst (v := 1) (by decide) dX7_findError_44 ?_
            refine V_iadd dX7_findError_45 ?_
            refine U_putI dX7_findError_46 fl_RX7_153 rfl rfl rfl ?_
            refine V_eqI pst_6 ?_
            refine V_goto (tgt := 5) dX7_findError_49 (by decide) ?_
            have hR := roA_le (b2p h9)
            have hlt : roA i l a < l := by
              have : ¬ roA i l a = l := fun z => h20 (by rw [z])
              omega
            have h8 := ih (roA i l a + 1) (nx i l a) (roV i l a v) (by omega) (by omega)
            rw [show fe i l (r + 1) a v = fe i l r (roA i l a + 1) (roV i l a v) from by show (if _ then _ else _) = _; rw [if_neg (fun z => z (b2p h9)), if_neg (by omega), if_neg (fun z => z h31)]]
            exact h8
          · refine L_aload_n_0 dX7_findError_34 ?_
            refine U_getI dX7_findError_35 fl_RX7_153 rfl rfl ?_
            refine V_eqv (y := nI (roA i l a)) pst6 ?_
            exact V_iret dX7_findError_38 rfl rfl (by
        unfold fe feM
        rw [if_neg (fun z => z (b2p h9)), if_neg (fun z => h20 (by rw [z])), if_pos h31]
        exact ⟨rfl, rfl⟩)
        · refine V_iconst (v := (-1)) (by decide) dX7_findError_23 ?_
          exact V_iret dX7_findError_24 rfl rfl (by
        unfold fe feM
        rw [if_neg (fun z => z (b2p h9)), if_pos ((nI_eq (a := roA i l a) (b := l) (by omega) (by omega)).mp h20)]
        exact ⟨rfl, rfl⟩)
  have hin : up2 i 89 6 0 = pst i 0 (i 89 7) (i 89 8) := by
    refine up2_ext fun y f => ?_
    unfold up2 pst
    (repeat' split) <;> first | rfl | (rename_i h; rw [h.1, h.2]; done) | (exfalso; omega)
  refine L_aload_n_0 dX7_findError_0 ?_
  refine V_iconst (v := 0) (by decide) dX7_findError_1 ?_
  refine U_putI dX7_findError_2 fl_RX7_153 rfl rfl rfl ?_
  refine V_eqI hin ?_
  exact loop (l + 1) 0 (i 89 7) (i 89 8) (by omega) (by omega)
