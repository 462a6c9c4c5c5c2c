def pbs (x : Int32) : Int32 := if x = 43 ∨ x = 45 then 1 else if x = 110 then 2 else if x = 112 then 6 else if x = 114 ∨ x = 115 ∨ x = 119 then 3 else -1
theorem k_X2_placeBehindSign {g : G0} {j : Nat → Nat → Int64} (d : Nat) {i : Nat → Nat → Int32} {x : Int32}  : C g m_X2_placeBehindSign (d + 0) 0 0 false [.int x] (mk i j) (rets (some (.int (pbs x))) (mk i j)) := by
  refine C_of (L := [some (.int x)]) rfl ?_
  refine L_iload_n_0 dX2_placeBehindSign_0 ?_
  skip
  by_cases e43 : x = 43
  · subst e43
    refine V_lookup (off := 67) (tgt := 68) dX2_placeBehindSign_1 (by decide) (by decide) (by decide) ?_
    refine V_iconst (v := 1) (by decide) dX2_placeBehindSign_68 ?_
    exact V_iret dX2_placeBehindSign_69 rfl rfl (by first | exact rtI (by decide) | exact rtI (by unfold pbs; simp [*]))
  by_cases e45 : x = 45
  · subst e45
    refine V_lookup (off := 67) (tgt := 68) dX2_placeBehindSign_1 (by decide) (by decide) (by decide) ?_
    refine V_iconst (v := 1) (by decide) dX2_placeBehindSign_68 ?_
    exact V_iret dX2_placeBehindSign_69 rfl rfl (by first | exact rtI (by decide) | exact rtI (by unfold pbs; simp [*]))
  by_cases e110 : x = 110
  · subst e110
    refine V_lookup (off := 72) (tgt := 73) dX2_placeBehindSign_1 (by decide) (by decide) (by decide) ?_
    refine V_iconst (v := 2) (by decide) dX2_placeBehindSign_73 ?_
    exact V_iret dX2_placeBehindSign_74 rfl rfl (by first | exact rtI (by decide) | exact rtI (by unfold pbs; simp [*]))
  by_cases e112 : x = 112
  · subst e112
    refine V_lookup (off := 69) (tgt := 70) dX2_placeBehindSign_1 (by decide) (by decide) (by decide) ?_
    refine V_bipush (v := 6) (by decide) dX2_placeBehindSign_70 ?_
    exact V_iret dX2_placeBehindSign_72 rfl rfl (by first | exact rtI (by decide) | exact rtI (by unfold pbs; simp [*]))
  by_cases e114 : x = 114
  · subst e114
    refine V_lookup (off := 74) (tgt := 75) dX2_placeBehindSign_1 (by decide) (by decide) (by decide) ?_
    refine V_iconst (v := 3) (by decide) dX2_placeBehindSign_75 ?_
    exact V_iret dX2_placeBehindSign_76 rfl rfl (by first | exact rtI (by decide) | exact rtI (by unfold pbs; simp [*]))
  by_cases e115 : x = 115
  · subst e115
    refine V_lookup (off := 74) (tgt := 75) dX2_placeBehindSign_1 (by decide) (by decide) (by decide) ?_
    refine V_iconst (v := 3) (by decide) dX2_placeBehindSign_75 ?_
    exact V_iret dX2_placeBehindSign_76 rfl rfl (by first | exact rtI (by decide) | exact rtI (by unfold pbs; simp [*]))
  by_cases e119 : x = 119
  · subst e119
    refine V_lookup (off := 74) (tgt := 75) dX2_placeBehindSign_1 (by decide) (by decide) (by decide) ?_
    refine V_iconst (v := 3) (by decide) dX2_placeBehindSign_75 ?_
    exact V_iret dX2_placeBehindSign_76 rfl rfl (by first | exact rtI (by decide) | exact rtI (by unfold pbs; simp [*]))
  refine V_lookup (off := 76) (tgt := 77) dX2_placeBehindSign_1 (by decide) (by show Op.lookupswitch.offset [(43, 67), (45, 67), (110, 72), (112, 69), (114, 74), (115, 74), (119, 74)] _ _ = _; rw [lv_osw e43 (by decide), lv_osw e45 (by decide), lv_osw e110 (by decide), lv_osw e112 (by decide), lv_osw e114 (by decide), lv_osw e115 (by decide), lv_osw e119 (by decide)]; rfl) (by decide) ?_
  refine V_iconst (v := (-1)) (by decide) dX2_placeBehindSign_77 ?_
  exact V_iret dX2_placeBehindSign_78 rfl rfl (by first | exact rtI (by decide) | exact rtI (by unfold pbs; simp [*]))
abbrev dgq (x m : Int32) : Prop := ¬ x < 48 ∧ ¬ m < x
def pbd (x : Int32) : Int32 := if x = 49 ∨ x = 50 then 4 else if ¬ x < 48 ∧ ¬ 57 < x then 6 else -1
def pbe (x : Int32) : Int32 := if x = 49 then 5 else if ¬ x < 48 ∧ ¬ 57 < x then 6 else -1
def pbh (p x : Int32) : Int32 := if x = 59 then (if p = 4 ∨ p = 5 ∨ p = 6 then 0 else -1) else if p = 0 then pbs x else if p = 1 then pbd x else if p = 2 then pbe x else if p = 3 then (if dgq x 51 then 6 else -1) else if p = 4 then (if dgq x 57 then 6 else -1) else if p = 5 then (if dgq x 53 then 6 else -1) else -1
def plc (p : Int32) : Prop := p = -1 ∨ p = 0 ∨ p = 1 ∨ p = 2 ∨ p = 3 ∨ p = 4 ∨ p = 5 ∨ p = 6
theorem pbs_in (x : Int32) : plc (pbs x) := by unfold pbs plc; (repeat' split) <;> simp
theorem pbd_in (x : Int32) : plc (pbd x) := by unfold pbd plc; (repeat' split) <;> simp
theorem pbe_in (x : Int32) : plc (pbe x) := by unfold pbe plc; (repeat' split) <;> simp
theorem pbh_in (p x : Int32) : plc (pbh p x) := by
  unfold pbh
  (repeat' split) <;> first | exact pbs_in x | exact pbd_in x | exact pbe_in x | (unfold plc; simp; done)
theorem k_X2_placeBehind {g : G0} {j : Nat → Nat → Int64} (d : Nat) {i : Nat → Nat → Int32} {p x : Int32} (hp : plc p)  : C g m_X2_placeBehind (d + 2) 0 0 false [.int p, .int x] (mk i j) (rets (some (.int (pbh p x))) (mk i j)) := by
  refine C_of (L := [some (.int p), some (.int x)]) rfl ?_
  unfold plc at hp
  rcases hp with rfl | rfl | rfl | rfl | rfl | rfl | rfl | rfl
  · refine L_iload_n_1 dX2_placeBehind_0 ?_
    refine V_bipush (v := 59) (by decide) dX2_placeBehind_1 ?_
    refine V_icmp_ne (tgt := 19) dX2_placeBehind_3 (by decide) (fun h3 => ?_) (fun h3 => ?_)
    · refine L_iload_n_0 dX2_placeBehind_19 ?_
      refine V_tabOut (tgt := 123) dX2_placeBehind_20 (by decide) (by decide) ?_
      refine V_iconst (v := (-1)) (by decide) dX2_placeBehind_123 ?_
      exact V_iret dX2_placeBehind_124 rfl rfl (by first | exact ⟨rfl, rfl⟩ | (refine rtI ?_; unfold pbh pbd; simp_all [b2i]; done) | (refine rtI ?_; unfold pbh pbe; simp_all [b2i]; done))
    · refine L_iload_n_0 dX2_placeBehind_6 ?_
      refine U_cv1 (d := d + 1) (lkR_RX2_23 rfl dX2_placeBehind_7) (k_X2_mayEnd _) ⟨pn_X2_mayEnd, rfl, (Nat.le_of_ble_eq_true rfl), (Nat.le_of_ble_eq_true rfl), rfl⟩ (trivial) cfn (Nat.le_of_ble_eq_true rfl) ?_
      refine V_ifx_eq (tgt := 17) dX2_placeBehind_10 (by decide) (fun h10 => ?_) (fun h10 => ?_)
      · refine V_iconst (v := (-1)) (by decide) dX2_placeBehind_17 ?_
        exact V_iret dX2_placeBehind_18 rfl rfl (by first | exact ⟨rfl, rfl⟩ | (refine rtI ?_; unfold pbh pbd; simp_all [b2i]; done) | (refine rtI ?_; unfold pbh pbe; simp_all [b2i]; done))
      · refine V_iconst (v := 0) (by decide) dX2_placeBehind_13 ?_
        refine V_goto (tgt := 18) dX2_placeBehind_14 (by decide) ?_
        exact V_iret dX2_placeBehind_18 rfl rfl (by first | exact ⟨rfl, rfl⟩ | (refine rtI ?_; unfold pbh pbd; simp_all [b2i]; done) | (refine rtI ?_; unfold pbh pbe; simp_all [b2i]; done))
  · refine L_iload_n_1 dX2_placeBehind_0 ?_
    refine V_bipush (v := 59) (by decide) dX2_placeBehind_1 ?_
    refine V_icmp_ne (tgt := 19) dX2_placeBehind_3 (by decide) (fun h3 => ?_) (fun h3 => ?_)
    · refine L_iload_n_0 dX2_placeBehind_19 ?_
      refine V_tabIn (off := 40) (tgt := 60) dX2_placeBehind_20 (by decide) (by decide) (by decide) (by decide) ?_
      refine L_iload_n_1 dX2_placeBehind_60 ?_
      refine U_cv1 (d := d + 1) (lkR_RX2_36 rfl dX2_placeBehind_61) (k_X2_placeBehindSign _) ⟨pn_X2_placeBehindSign, rfl, (Nat.le_of_ble_eq_true rfl), (Nat.le_of_ble_eq_true rfl), rfl⟩ (trivial) cfn (Nat.le_of_ble_eq_true rfl) ?_
      exact V_iret dX2_placeBehind_64 rfl rfl (by first | exact ⟨rfl, rfl⟩ | (refine rtI ?_; unfold pbh pbd; simp_all [b2i]; done) | (refine rtI ?_; unfold pbh pbe; simp_all [b2i]; done))
    · refine L_iload_n_0 dX2_placeBehind_6 ?_
      refine U_cv1 (d := d + 1) (lkR_RX2_23 rfl dX2_placeBehind_7) (k_X2_mayEnd _) ⟨pn_X2_mayEnd, rfl, (Nat.le_of_ble_eq_true rfl), (Nat.le_of_ble_eq_true rfl), rfl⟩ (trivial) cfn (Nat.le_of_ble_eq_true rfl) ?_
      refine V_ifx_eq (tgt := 17) dX2_placeBehind_10 (by decide) (fun h10 => ?_) (fun h10 => ?_)
      · refine V_iconst (v := (-1)) (by decide) dX2_placeBehind_17 ?_
        exact V_iret dX2_placeBehind_18 rfl rfl (by first | exact ⟨rfl, rfl⟩ | (refine rtI ?_; unfold pbh pbd; simp_all [b2i]; done) | (refine rtI ?_; unfold pbh pbe; simp_all [b2i]; done))
      · refine V_iconst (v := 0) (by decide) dX2_placeBehind_13 ?_
        refine V_goto (tgt := 18) dX2_placeBehind_14 (by decide) ?_
        exact V_iret dX2_placeBehind_18 rfl rfl (by first | exact ⟨rfl, rfl⟩ | (refine rtI ?_; unfold pbh pbd; simp_all [b2i]; done) | (refine rtI ?_; unfold pbh pbe; simp_all [b2i]; done))
  · refine L_iload_n_1 dX2_placeBehind_0 ?_
    refine V_bipush (v := 59) (by decide) dX2_placeBehind_1 ?_
    refine V_icmp_ne (tgt := 19) dX2_placeBehind_3 (by decide) (fun h3 => ?_) (fun h3 => ?_)
    · refine L_iload_n_0 dX2_placeBehind_19 ?_
      refine V_tabIn (off := 45) (tgt := 65) dX2_placeBehind_20 (by decide) (by decide) (by decide) (by decide) ?_
      refine L_iload_n_1 dX2_placeBehind_65 ?_
      refine U_cv1 (d := d + 1) (lkR_RX2_40 rfl dX2_placeBehind_66) (k_X2_placeBehindStreetDigit _) ⟨pn_X2_placeBehindStreetDigit, rfl, (Nat.le_of_ble_eq_true rfl), (Nat.le_of_ble_eq_true rfl), rfl⟩ (trivial) cfn (Nat.le_of_ble_eq_true rfl) ?_
      exact V_iret dX2_placeBehind_69 rfl rfl (by first | exact ⟨rfl, rfl⟩ | (refine rtI ?_; unfold pbh pbd; simp_all [b2i]; done) | (refine rtI ?_; unfold pbh pbe; simp_all [b2i]; done))
    · refine L_iload_n_0 dX2_placeBehind_6 ?_
      refine U_cv1 (d := d + 1) (lkR_RX2_23 rfl dX2_placeBehind_7) (k_X2_mayEnd _) ⟨pn_X2_mayEnd, rfl, (Nat.le_of_ble_eq_true rfl), (Nat.le_of_ble_eq_true rfl), rfl⟩ (trivial) cfn (Nat.le_of_ble_eq_true rfl) ?_
      refine V_ifx_eq (tgt := 17) dX2_placeBehind_10 (by decide) (fun h10 => ?_) (fun h10 => ?_)
      · refine V_iconst (v := (-1)) (by decide) dX2_placeBehind_17 ?_
        exact V_iret dX2_placeBehind_18 rfl rfl (by first | exact ⟨rfl, rfl⟩ | (refine rtI ?_; unfold pbh pbd; simp_all [b2i]; done) | (refine rtI ?_; unfold pbh pbe; simp_all [b2i]; done))
      · refine V_iconst (v := 0) (by decide) dX2_placeBehind_13 ?_
        refine V_goto (tgt := 18) dX2_placeBehind_14 (by decide) ?_
        exact V_iret dX2_placeBehind_18 rfl rfl (by first | exact ⟨rfl, rfl⟩ | (refine rtI ?_; unfold pbh pbd; simp_all [b2i]; done) | (refine rtI ?_; unfold pbh pbe; simp_all [b2i]; done))
  · refine L_iload_n_1 dX2_placeBehind_0 ?_
    refine V_bipush (v := 59) (by decide) dX2_placeBehind_1 ?_
    refine V_icmp_ne (tgt := 19) dX2_placeBehind_3 (by decide) (fun h3 => ?_) (fun h3 => ?_)
    · refine L_iload_n_0 dX2_placeBehind_19 ?_
      refine V_tabIn (off := 50) (tgt := 70) dX2_placeBehind_20 (by decide) (by decide) (by decide) (by decide) ?_
      refine L_iload_n_1 dX2_placeBehind_70 ?_
      refine U_cv1 (d := d + 1) (lkR_RX2_43 rfl dX2_placeBehind_71) (k_X2_placeBehindEditionDigit _) ⟨pn_X2_placeBehindEditionDigit, rfl, (Nat.le_of_ble_eq_true rfl), (Nat.le_of_ble_eq_true rfl), rfl⟩ (trivial) cfn (Nat.le_of_ble_eq_true rfl) ?_
      exact V_iret dX2_placeBehind_74 rfl rfl (by first | exact ⟨rfl, rfl⟩ | (refine rtI ?_; unfold pbh pbd; simp_all [b2i]; done) | (refine rtI ?_; unfold pbh pbe; simp_all [b2i]; done))
    · refine L_iload_n_0 dX2_placeBehind_6 ?_
      refine U_cv1 (d := d + 1) (lkR_RX2_23 rfl dX2_placeBehind_7) (k_X2_mayEnd _) ⟨pn_X2_mayEnd, rfl, (Nat.le_of_ble_eq_true rfl), (Nat.le_of_ble_eq_true rfl), rfl⟩ (trivial) cfn (Nat.le_of_ble_eq_true rfl) ?_
      refine V_ifx_eq (tgt := 17) dX2_placeBehind_10 (by decide) (fun h10 => ?_) (fun h10 => ?_)
      · refine V_iconst (v := (-1)) (by decide) dX2_placeBehind_17 ?_
        exact V_iret dX2_placeBehind_18 rfl rfl (by first | exact ⟨rfl, rfl⟩ | (refine rtI ?_; unfold pbh pbd; simp_all [b2i]; done) | (refine rtI ?_; unfold pbh pbe; simp_all [b2i]; done))
      · refine V_iconst (v := 0) (by decide) dX2_placeBehind_13 ?_
        refine V_goto (tgt := 18) dX2_placeBehind_14 (by decide) ?_
        exact V_iret dX2_placeBehind_18 rfl rfl (by first | exact ⟨rfl, rfl⟩ | (refine rtI ?_; unfold pbh pbd; simp_all [b2i]; done) | (refine rtI ?_; unfold pbh pbe; simp_all [b2i]; done))
  · refine L_iload_n_1 dX2_placeBehind_0 ?_
    refine V_bipush (v := 59) (by decide) dX2_placeBehind_1 ?_
    refine V_icmp_ne (tgt := 19) dX2_placeBehind_3 (by decide) (fun h3 => ?_) (fun h3 => ?_)
    · refine L_iload_n_0 dX2_placeBehind_19 ?_
      refine V_tabIn (off := 55) (tgt := 75) dX2_placeBehind_20 (by decide) (by decide) (by decide) (by decide) ?_
      refine L_iload_n_1 dX2_placeBehind_75 ?_
      refine V_bipush (v := 51) (by decide) dX2_placeBehind_76 ?_
      refine U_cv2 (d := d + 1) (lkR_RX2_33 rfl dX2_placeBehind_78) (k_X2_isDigit _) ⟨pn_X2_isDigit, rfl, (Nat.le_of_ble_eq_true rfl), (Nat.le_of_ble_eq_true rfl), rfl⟩ (trivial) cfn (Nat.le_of_ble_eq_true rfl) ?_
      refine V_ifx_eq (tgt := 89) dX2_placeBehind_81 (by decide) (fun h81 => ?_) (fun h81 => ?_)
      · refine V_iconst (v := (-1)) (by decide) dX2_placeBehind_89 ?_
        exact V_iret dX2_placeBehind_90 rfl rfl (by first | exact ⟨rfl, rfl⟩ | (refine rtI ?_; unfold pbh pbd; simp_all [b2i]; done) | (refine rtI ?_; unfold pbh pbe; simp_all [b2i]; done))
      · refine V_bipush (v := 6) (by decide) dX2_placeBehind_84 ?_
        refine V_goto (tgt := 90) dX2_placeBehind_86 (by decide) ?_
        exact V_iret dX2_placeBehind_90 rfl rfl (by first | exact ⟨rfl, rfl⟩ | (refine rtI ?_; unfold pbh pbd; simp_all [b2i]; done) | (refine rtI ?_; unfold pbh pbe; simp_all [b2i]; done))
    · refine L_iload_n_0 dX2_placeBehind_6 ?_
      refine U_cv1 (d := d + 1) (lkR_RX2_23 rfl dX2_placeBehind_7) (k_X2_mayEnd _) ⟨pn_X2_mayEnd, rfl, (Nat.le_of_ble_eq_true rfl), (Nat.le_of_ble_eq_true rfl), rfl⟩ (trivial) cfn (Nat.le_of_ble_eq_true rfl) ?_
      refine V_ifx_eq (tgt := 17) dX2_placeBehind_10 (by decide) (fun h10 => ?_) (fun h10 => ?_)
      · refine V_iconst (v := (-1)) (by decide) dX2_placeBehind_17 ?_
        exact V_iret dX2_placeBehind_18 rfl rfl (by first | exact ⟨rfl, rfl⟩ | (refine rtI ?_; unfold pbh pbd; simp_all [b2i]; done) | (refine rtI ?_; unfold pbh pbe; simp_all [b2i]; done))
      · refine V_iconst (v := 0) (by decide) dX2_placeBehind_13 ?_
        refine V_goto (tgt := 18) dX2_placeBehind_14 (by decide) ?_
        exact V_iret dX2_placeBehind_18 rfl rfl (by first | exact ⟨rfl, rfl⟩ | (refine rtI ?_; unfold pbh pbd; simp_all [b2i]; done) | (refine rtI ?_; unfold pbh pbe; simp_all [b2i]; done))
  · refine L_iload_n_1 dX2_placeBehind_0 ?_
    refine V_bipush (v := 59) (by decide) dX2_placeBehind_1 ?_
    refine V_icmp_ne (tgt := 19) dX2_placeBehind_3 (by decide) (fun h3 => ?_) (fun h3 => ?_)
    · refine L_iload_n_0 dX2_placeBehind_19 ?_
      refine V_tabIn (off := 71) (tgt := 91) dX2_placeBehind_20 (by decide) (by decide) (by decide) (by decide) ?_
      refine L_iload_n_1 dX2_placeBehind_91 ?_
      refine V_bipush (v := 57) (by decide) dX2_placeBehind_92 ?_
      refine U_cv2 (d := d + 1) (lkR_RX2_33 rfl dX2_placeBehind_94) (k_X2_isDigit _) ⟨pn_X2_isDigit, rfl, (Nat.le_of_ble_eq_true rfl), (Nat.le_of_ble_eq_true rfl), rfl⟩ (trivial) cfn (Nat.le_of_ble_eq_true rfl) ?_
      refine V_ifx_eq (tgt := 105) dX2_placeBehind_97 (by decide) (fun h97 => ?_) (fun h97 => ?_)
      · refine V_iconst (v := (-1)) (by decide) dX2_placeBehind_105 ?_
        exact V_iret dX2_placeBehind_106 rfl rfl (by first | exact ⟨rfl, rfl⟩ | (refine rtI ?_; unfold pbh pbd; simp_all [b2i]; done) | (refine rtI ?_; unfold pbh pbe; simp_all [b2i]; done))
      · refine V_bipush (v := 6) (by decide) dX2_placeBehind_100 ?_
        refine V_goto (tgt := 106) dX2_placeBehind_102 (by decide) ?_
        exact V_iret dX2_placeBehind_106 rfl rfl (by first | exact ⟨rfl, rfl⟩ | (refine rtI ?_; unfold pbh pbd; simp_all [b2i]; done) | (refine rtI ?_; unfold pbh pbe; simp_all [b2i]; done))
    · refine L_iload_n_0 dX2_placeBehind_6 ?_
      refine U_cv1 (d := d + 1) (lkR_RX2_23 rfl dX2_placeBehind_7) (k_X2_mayEnd _) ⟨pn_X2_mayEnd, rfl, (Nat.le_of_ble_eq_true rfl), (Nat.le_of_ble_eq_true rfl), rfl⟩ (trivial) cfn (Nat.le_of_ble_eq_true rfl) ?_
      refine V_ifx_eq (tgt := 17) dX2_placeBehind_10 (by decide) (fun h10 => ?_) (fun h10 => ?_)
      · refine V_iconst (v := (-1)) (by decide) dX2_placeBehind_17 ?_
        exact V_iret dX2_placeBehind_18 rfl rfl (by first | exact ⟨rfl, rfl⟩ | (refine rtI ?_; unfold pbh pbd; simp_all [b2i]; done) | (refine rtI ?_; unfold pbh pbe; simp_all [b2i]; done))
      · refine V_iconst (v := 0) (by decide) dX2_placeBehind_13 ?_
        refine V_goto (tgt := 18) dX2_placeBehind_14 (by decide) ?_
        exact V_iret dX2_placeBehind_18 rfl rfl (by first | exact ⟨rfl, rfl⟩ | (refine rtI ?_; unfold pbh pbd; simp_all [b2i]; done) | (refine rtI ?_; unfold pbh pbe; simp_all [b2i]; done))
  · refine L_iload_n_1 dX2_placeBehind_0 ?_
    refine V_bipush (v := 59) (by decide) dX2_placeBehind_1 ?_
    refine V_icmp_ne (tgt := 19) dX2_placeBehind_3 (by decide) (fun h3 => ?_) (fun h3 => ?_)
    · refine L_iload_n_0 dX2_placeBehind_19 ?_
      refine V_tabIn (off := 87) (tgt := 107) dX2_placeBehind_20 (by decide) (by decide) (by decide) (by decide) ?_
      refine L_iload_n_1 dX2_placeBehind_107 ?_
      refine V_bipush (v := 53) (by decide) dX2_placeBehind_108 ?_
      refine U_cv2 (d := d + 1) (lkR_RX2_33 rfl dX2_placeBehind_110) (k_X2_isDigit _) ⟨pn_X2_isDigit, rfl, (Nat.le_of_ble_eq_true rfl), (Nat.le_of_ble_eq_true rfl), rfl⟩ (trivial) cfn (Nat.le_of_ble_eq_true rfl) ?_
      refine V_ifx_eq (tgt := 121) dX2_placeBehind_113 (by decide) (fun h113 => ?_) (fun h113 => ?_)
      · refine V_iconst (v := (-1)) (by decide) dX2_placeBehind_121 ?_
        exact V_iret dX2_placeBehind_122 rfl rfl (by first | exact ⟨rfl, rfl⟩ | (refine rtI ?_; unfold pbh pbd; simp_all [b2i]; done) | (refine rtI ?_; unfold pbh pbe; simp_all [b2i]; done))
      · refine V_bipush (v := 6) (by decide) dX2_placeBehind_116 ?_
        refine V_goto (tgt := 122) dX2_placeBehind_118 (by decide) ?_
        exact V_iret dX2_placeBehind_122 rfl rfl (by first | exact ⟨rfl, rfl⟩ | (refine rtI ?_; unfold pbh pbd; simp_all [b2i]; done) | (refine rtI ?_; unfold pbh pbe; simp_all [b2i]; done))
    · refine L_iload_n_0 dX2_placeBehind_6 ?_
      refine U_cv1 (d := d + 1) (lkR_RX2_23 rfl dX2_placeBehind_7) (k_X2_mayEnd _) ⟨pn_X2_mayEnd, rfl, (Nat.le_of_ble_eq_true rfl), (Nat.le_of_ble_eq_true rfl), rfl⟩ (trivial) cfn (Nat.le_of_ble_eq_true rfl) ?_
      refine V_ifx_eq (tgt := 17) dX2_placeBehind_10 (by decide) (fun h10 => ?_) (fun h10 => ?_)
      · refine V_iconst (v := (-1)) (by decide) dX2_placeBehind_17 ?_
        exact V_iret dX2_placeBehind_18 rfl rfl (by first | exact ⟨rfl, rfl⟩ | (refine rtI ?_; unfold pbh pbd; simp_all [b2i]; done) | (refine rtI ?_; unfold pbh pbe; simp_all [b2i]; done))
      · refine V_iconst (v := 0) (by decide) dX2_placeBehind_13 ?_
        refine V_goto (tgt := 18) dX2_placeBehind_14 (by decide) ?_
        exact V_iret dX2_placeBehind_18 rfl rfl (by first | exact ⟨rfl, rfl⟩ | (refine rtI ?_; unfold pbh pbd; simp_all [b2i]; done) | (refine rtI ?_; unfold pbh pbe; simp_all [b2i]; done))
  · refine L_iload_n_1 dX2_placeBehind_0 ?_
    refine V_bipush (v := 59) (by decide) dX2_placeBehind_1 ?_
    refine V_icmp_ne (tgt := 19) dX2_placeBehind_3 (by decide) (fun h3 => ?_) (fun h3 => ?_)
    · refine L_iload_n_0 dX2_placeBehind_19 ?_
      refine V_tabOut (tgt := 123) dX2_placeBehind_20 (by decide) (by decide) ?_
      refine V_iconst (v := (-1)) (by decide) dX2_placeBehind_123 ?_
      exact V_iret dX2_placeBehind_124 rfl rfl (by first | exact ⟨rfl, rfl⟩ | (refine rtI ?_; unfold pbh pbd; simp_all [b2i]; done) | (refine rtI ?_; unfold pbh pbe; simp_all [b2i]; done))
    · refine L_iload_n_0 dX2_placeBehind_6 ?_
      refine U_cv1 (d := d + 1) (lkR_RX2_23 rfl dX2_placeBehind_7) (k_X2_mayEnd _) ⟨pn_X2_mayEnd, rfl, (Nat.le_of_ble_eq_true rfl), (Nat.le_of_ble_eq_true rfl), rfl⟩ (trivial) cfn (Nat.le_of_ble_eq_true rfl) ?_
      refine V_ifx_eq (tgt := 17) dX2_placeBehind_10 (by decide) (fun h10 => ?_) (fun h10 => ?_)
      · refine V_iconst (v := (-1)) (by decide) dX2_placeBehind_17 ?_
        exact V_iret dX2_placeBehind_18 rfl rfl (by first | exact ⟨rfl, rfl⟩ | (refine rtI ?_; unfold pbh pbd; simp_all [b2i]; done) | (refine rtI ?_; unfold pbh pbe; simp_all [b2i]; done))
      · refine V_iconst (v := 0) (by decide) dX2_placeBehind_13 ?_
        refine V_goto (tgt := 18) dX2_placeBehind_14 (by decide) ?_
        exact V_iret dX2_placeBehind_18 rfl rfl (by first | exact ⟨rfl, rfl⟩ | (refine rtI ?_; unfold pbh pbd; simp_all [b2i]; done) | (refine rtI ?_; unfold pbh pbe; simp_all [b2i]; done))
def eix (i : Nat → Nat → Int32) : Nat → Nat → Int32 → Int32
  | 0, k, _ => nI k
  | r + 1, k, p => if pbh p (i 88 k) = -1 then nI k else eix i r (k + 1) (pbh p (i 88 k))
def icp (i : Nat → Nat → Int32) : Nat → Nat → Int32 → Int32
  | 0, _, p => b2i (p = 4 ∨ p = 5 ∨ p = 6)
  | r + 1, k, p => icp i r (k + 1) (pbh p (i 88 k))
theorem k_X2_errorIndex {g : G0} {j : Nat → Nat → Int64} (d : Nat) {i : Nat → Nat → Int32} {c : Nat} (hc : i 87 1 = nI c) (h60 : c ≤ 60)  : C g m_X2_errorIndex (d + 3) 0 0 false [.ref 87] (mk i j) (rets (some (.int (eix i c 0 0))) (mk i j)) := by
  refine C_of (L := [some (.ref 87), none, none]) rfl ?_
  have loop : ∀ (n m : Nat) (p : Int32), m + n = c → plc p → V g m_X2_errorIndex (d + 3) 0 0 false (Kp g false (rets (some (.int (eix i n m p))) (mk i j))) 4 [some (.ref 87), some (.int p), some (.int (nI m))] [] (mk i j) := by
    intro n
    induction n with
    | zero =>
      intro m p hm hp
      have hm0 : m = c := by omega
      subst hm0
      refine L_iload_n_2 dX2_errorIndex_4 ?_
      refine L_aload_n_0 dX2_errorIndex_5 ?_
      refine U_getI dX2_errorIndex_6 fl_RX2_15 rfl rfl ?_
      refine V_eqv (y := nI m) hc ?_
      refine V_icmp_ge (tgt := 36) dX2_errorIndex_9 (by decide) (fun h9 => ?_) (fun h9 => ?_)
      · refine L_aload_n_0 dX2_errorIndex_36 ?_
        refine U_getI dX2_errorIndex_37 fl_RX2_15 rfl rfl ?_
        refine V_eqv (y := nI m) hc ?_
        exact V_iret dX2_errorIndex_40 rfl rfl (⟨rfl, rfl⟩)
      · exact absurd (Int32.le_refl _) h9
    | succ n ih =>
      intro m p hm hp
      refine L_iload_n_2 dX2_errorIndex_4 ?_
      refine L_aload_n_0 dX2_errorIndex_5 ?_
      refine U_getI dX2_errorIndex_6 fl_RX2_15 rfl rfl ?_
      refine V_eqv (y := nI c) hc ?_
      refine V_icmp_ge (tgt := 36) dX2_errorIndex_9 (by decide) (fun h9 => ?_) (fun h9 => ?_)
      · exact absurd ((nI_leI (a := c) (b := m) (by omega) (by omega)).mp h9) (by omega)
      · refine L_iload_n_1 dX2_errorIndex_12 ?_
        refine L_aload_n_0 dX2_errorIndex_13 ?_
        refine U_getR (r := 88) dX2_errorIndex_14 fl_RX2_9 rfl rfl rfl ?_
        refine L_iload_n_2 dX2_errorIndex_17 ?_
        refine U_iald (n := m) dX2_errorIndex_18 rfl (rfl) (by omega) (by decide) ?_
        refine U_cv2 (d := d + 2) (lkR_RX2_19 rfl dX2_errorIndex_19) (k_X2_placeBehind _ hp) ⟨pn_X2_placeBehind, rfl, (Nat.le_of_ble_eq_true rfl), (Nat.le_of_ble_eq_true rfl), rfl⟩ (trivial) cfn (Nat.le_of_ble_eq_true rfl) ?_
        refine V_istore_n_1 dX2_errorIndex_22 (Nat.le_of_ble_eq_true rfl) rfl ?_
        refine L_iload_n_1 dX2_errorIndex_23 ?_
        refine V_iconst (v := (-1)) (by decide) dX2_errorIndex_24 ?_
        refine V_icmp_ne (tgt := 30) dX2_errorIndex_25 (by decide) (fun h25 => ?_) (fun h25 => ?_)
        · refine V_iinc_2 (v := nI (m + 1)) dX2_errorIndex_30 (Nat.le_of_ble_eq_true rfl) rfl (nI_1 _) ?_
          refine V_goto (tgt := 4) dX2_errorIndex_33 (by decide) ?_
          have e8 := ih (m + 1) (pbh p (i 88 m)) (by omega) (pbh_in _ _)
          rw [show eix i (n + 1) m p = eix i n (m + 1) (pbh p (i 88 m)) from if_neg h25]
          exact e8
        · refine L_iload_n_2 dX2_errorIndex_28 ?_
          exact V_iret dX2_errorIndex_29 rfl rfl (rtI (by show _ = (if _ then _ else _); rw [if_pos h25]))
  refine V_iconst (v := 0) (by decide) dX2_errorIndex_0 ?_
  refine V_istore_n_1 dX2_errorIndex_1 (Nat.le_of_ble_eq_true rfl) rfl ?_
  refine V_iconst (v := 0) (by decide) dX2_errorIndex_2 ?_
  refine V_istore_n_2 dX2_errorIndex_3 (Nat.le_of_ble_eq_true rfl) rfl ?_
  exact loop c 0 0 (by omega) (by unfold plc; simp)
theorem k_X2_isComplete {g : G0} {j : Nat → Nat → Int64} (d : Nat) {i : Nat → Nat → Int32} {c : Nat} (hc : i 87 1 = nI c) (h60 : c ≤ 60)  : C g m_X2_isComplete (d + 3) 0 0 false [.ref 87] (mk i j) (rets (some (.int (icp i c 0 0))) (mk i j)) := by
  refine C_of (L := [some (.ref 87), none, none]) rfl ?_
  have loop : ∀ (n m : Nat) (p : Int32), m + n = c → plc p → V g m_X2_isComplete (d + 3) 0 0 false (Kp g false (rets (some (.int (icp i n m p))) (mk i j))) 4 [some (.ref 87), some (.int p), some (.int (nI m))] [] (mk i j) := by
    intro n
    induction n with
    | zero =>
      intro m p hm hp
      have hm0 : m = c := by omega
      subst hm0
      refine L_iload_n_2 dX2_isComplete_4 ?_
      refine L_aload_n_0 dX2_isComplete_5 ?_
      refine U_getI dX2_isComplete_6 fl_RX2_15 rfl rfl ?_
      refine V_eqv (y := nI m) hc ?_
      refine V_icmp_ge (tgt := 29) dX2_isComplete_9 (by decide) (fun h9 => ?_) (fun h9 => ?_)
      · refine L_iload_n_1 dX2_isComplete_29 ?_
        refine U_cv1 (d := d + 2) (lkR_RX2_23 rfl dX2_isComplete_30) (k_X2_mayEnd _) ⟨pn_X2_mayEnd, rfl, (Nat.le_of_ble_eq_true rfl), (Nat.le_of_ble_eq_true rfl), rfl⟩ (trivial) cfn (Nat.le_of_ble_eq_true rfl) ?_
        exact V_iret dX2_isComplete_33 rfl b2n (⟨rfl, rfl⟩)
      · exact absurd (Int32.le_refl _) h9
    | succ n ih =>
      intro m p hm hp
      refine L_iload_n_2 dX2_isComplete_4 ?_
      refine L_aload_n_0 dX2_isComplete_5 ?_
      refine U_getI dX2_isComplete_6 fl_RX2_15 rfl rfl ?_
      refine V_eqv (y := nI c) hc ?_
      refine V_icmp_ge (tgt := 29) dX2_isComplete_9 (by decide) (fun h9 => ?_) (fun h9 => ?_)
      · exact absurd ((nI_leI (a := c) (b := m) (by omega) (by omega)).mp h9) (by omega)
      · refine L_iload_n_1 dX2_isComplete_12 ?_
        refine L_aload_n_0 dX2_isComplete_13 ?_
        refine U_getR (r := 88) dX2_isComplete_14 fl_RX2_9 rfl rfl rfl ?_
        refine L_iload_n_2 dX2_isComplete_17 ?_
        refine U_iald (n := m) dX2_isComplete_18 rfl (rfl) (by omega) (by decide) ?_
        refine U_cv2 (d := d + 2) (lkR_RX2_19 rfl dX2_isComplete_19) (k_X2_placeBehind _ hp) ⟨pn_X2_placeBehind, rfl, (Nat.le_of_ble_eq_true rfl), (Nat.le_of_ble_eq_true rfl), rfl⟩ (trivial) cfn (Nat.le_of_ble_eq_true rfl) ?_
        refine V_istore_n_1 dX2_isComplete_22 (Nat.le_of_ble_eq_true rfl) rfl ?_
        refine V_iinc_2 (v := nI (m + 1)) dX2_isComplete_23 (Nat.le_of_ble_eq_true rfl) rfl (nI_1 _) ?_
        refine V_goto (tgt := 4) dX2_isComplete_26 (by decide) ?_
        exact ih (m + 1) (pbh p (i 88 m)) (by omega) (pbh_in _ _)
  refine V_iconst (v := 0) (by decide) dX2_isComplete_0 ?_
  refine V_istore_n_1 dX2_isComplete_1 (Nat.le_of_ble_eq_true rfl) rfl ?_
  refine V_iconst (v := 0) (by decide) dX2_isComplete_2 ?_
  refine V_istore_n_2 dX2_isComplete_3 (Nat.le_of_ble_eq_true rfl) rfl ?_
  exact loop c 0 0 (by omega) (by unfold plc; simp)
