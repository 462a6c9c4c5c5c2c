theorem gnF_oth {i : Nat → Nat → Int32} {m a f : Nat} (h : f ≠ 4 ∨ a < 9 ∨ 9 + m ≤ a) : gnF i m a f = i a f := by unfold gnF; rw [if_neg (by omega)]
theorem isu_oth {i : Nat → Nat → Int32} {c K n a f : Nat} (h : a < 2 ∨ 7 < a ∨ (a = 3 ∧ f ≠ 5) ∨ (a = 2 ∧ f = 0)) : isu i c K n a f = i a f := by
  unfold isu
  by_cases h2 : a = 2
  · rw [up2_nf (by omega), up2_nf (by omega), kp_oth (by omega)]
  · rw [up2_ne h2, up2_ne h2, kp_oth (by omega)]
theorem isu_cnt {i : Nat → Nat → Int32} {c K n : Nat} (hK : 1 ≤ K) (hcK : c ≤ K) : isu i c K n 3 5 = nI (if c < K then c + 1 else K) := by
  unfold isu
  rw [up2_ne (by omega), up2_ne (by omega)]
  unfold kp
  split
  · unfold keepW; exact up2_eq
  · unfold keepW; rw [up2_eq]; congr 1; omega
theorem dO43 {i : Nat → Nat → Int32} {v : Nat} : doO i 43 v = up2 i 2 0 (i 2 0 ||| (1 <<< (nI v &&& 31))) := rfl
theorem dO45 {i : Nat → Nat → Int32} {v : Nat} : doO i 45 v = up2 i 2 0 (i 2 0 &&& ((1 <<< (nI v &&& 31)) ^^^ (-1))) := rfl
theorem dO112 {i : Nat → Nat → Int32} {v : Nat} : doO i 112 v = gnF (isu i (cN i) (KN i) (nN i)) 4 := rfl
theorem dO110 {i : Nat → Nat → Int32} {v : Nat} : doO i 110 v = gnF (up2 (up2 i 2 2 (nI v)) 3 5 0) 4 := rfl
theorem dO114 {i : Nat → Nat → Int32} {v : Nat} : doO i 114 v = bnI i (9 + v) (cN i) := rfl
theorem dO115 {i : Nat → Nat → Int32} {v : Nat} : doO i 115 v = up2 i (9 + v) 3 1 := rfl
theorem dO119 {i : Nat → Nat → Int32} {v : Nat} : doO i 119 v = up2 i (9 + v) 3 0 := rfl
theorem doO_oth {i : Nat → Nat → Int32} {o v a f : Nat} (hv : vld o v) (h : 13 ≤ a) : doO i o v a f = i a f := by
  rcases hv with ⟨rfl | rfl, hv⟩ | ⟨rfl, rfl⟩ | ⟨rfl, hv⟩ | ⟨rfl | rfl | rfl, hv⟩
  · exact up2_ne (by omega)
  · exact up2_ne (by omega)
  · show gnF _ 4 a f = _; rw [gnF_oth (by omega), isu_oth (by omega)]
  · show gnF _ 4 a f = _; rw [gnF_oth (by omega), up2_ne (by omega), up2_ne (by omega)]
  · exact bnI_oth (by omega)
  · exact up2_ne (by omega)
  · exact up2_ne (by omega)
theorem CI_same {i i' : Nat → Nat → Int32} (h : CI i) (h1 : i' 3 5 = i 3 5) (h2 : i' 3 4 = i 3 4) (h3 : i' 2 2 = i 2 2) : CI i' := by
  obtain ⟨a1, a2, a3, a4, a5, a6, a7⟩ := h
  exact (CI_of (h1.trans a1) a2 a3 a4 (h2.trans a5) (h3.trans a6) a7).1
theorem doO_CI {i : Nat → Nat → Int32} {o v : Nat} (hv : vld o v) (h : CI i) : CI (doO i o v) := by
  rcases hv with ⟨rfl | rfl, hv⟩ | ⟨rfl, rfl⟩ | ⟨rfl, hv⟩ | ⟨rfl | rfl | rfl, hv⟩
  · rw [dO43]; exact CI_same h (up2_ne (by omega)) (up2_ne (by omega)) (up2_nf (by omega))
  · rw [dO45]; exact CI_same h (up2_ne (by omega)) (up2_ne (by omega)) (up2_nf (by omega))
  · rw [dO112]
    obtain ⟨a1, a2, a3, a4, a5, a6, a7⟩ := h
    refine (CI_of (c := if cN i < KN i then cN i + 1 else KN i) (K := KN i) (n := (nN i + 1) % 16) ?_ (by split <;> omega) a3 a4 ?_ ?_ (Nat.mod_lt _ (by omega))).1
    · rw [gnF_oth (by omega), isu_cnt a3 a2]
    · rw [gnF_oth (by omega), isu_oth (by omega)]; exact a5
    · rw [gnF_oth (by omega)]; exact up2_eq
  · rw [dO110]
    obtain ⟨a1, a2, a3, a4, a5, a6, a7⟩ := h
    refine (CI_of (c := 0) (K := KN i) (n := v) ?_ (by omega) a3 a4 ?_ ?_ hv).1
    · rw [gnF_oth (by omega), up2_eq]; rfl
    · rw [gnF_oth (by omega), up2_nf (by omega), up2_ne (by omega)]; exact a5
    · rw [gnF_oth (by omega), up2_ne (by omega)]; exact up2_eq
  · rw [dO114]; exact CI_same h (bnI_oth (by omega)) (bnI_oth (by omega)) (bnI_oth (by omega))
  · rw [dO115]; exact CI_same h (up2_ne (by omega)) (up2_ne (by omega)) (up2_ne (by omega))
  · rw [dO119]; exact CI_same h (up2_ne (by omega)) (up2_ne (by omega)) (up2_ne (by omega))
theorem co_sign {g : G0} {j : Nat → Nat → Int64} (d : Nat) {i : Nat → Nat → Int32} {ex od nu : Int32} {c k : Nat} (hc : i 87 1 = nI c) (h60 : c ≤ 60) {K : K0} (hk : k < c) {x : Int32} (hx : i 88 k = x) (h59 : ¬ x = 59) (hnd : ¬ dgq x 57) (kk : V g m_X2_carriedOutBy (d + 6) 0 0 false K 10 [some (.ref 87), some (.ref 1), some (.int ex), some (.int x), some (.int nu), some (.int (nI (k + 1))), none] [] (mk i j))  : V g m_X2_carriedOutBy (d + 6) 0 0 false K 10 [some (.ref 87), some (.ref 1), some (.int ex), some (.int od), some (.int nu), some (.int (nI k)), none] [] (mk i j) := by
  refine L_iload_5 dX2_carriedOutBy_10 ?_
  refine L_aload_n_0 dX2_carriedOutBy_12 ?_
  refine U_getI dX2_carriedOutBy_13 fl_RX2_15 rfl rfl ?_
  refine V_eqv (y := nI c) hc ?_
  refine V_icmp_gt (tgt := 105) dX2_carriedOutBy_16 (by decide) (fun h16 => ?_) (fun h16 => ?_)
  · exact absurd ((nI_ltI (a := c) (b := k) (by omega) (by omega)).mp h16) (by omega)
  · refine L_iload_5 dX2_carriedOutBy_19 ?_
    refine L_aload_n_0 dX2_carriedOutBy_21 ?_
    refine U_getI dX2_carriedOutBy_22 fl_RX2_15 rfl rfl ?_
    refine V_eqv (y := nI c) hc ?_
    refine V_icmp_ge (tgt := 38) dX2_carriedOutBy_25 (by decide) (fun h25 => ?_) (fun h25 => ?_)
    · exact absurd ((nI_leI (a := c) (b := k) (by omega) (by omega)).mp h25) (by omega)
    · refine L_aload_n_0 dX2_carriedOutBy_28 ?_
      refine U_getR (r := 88) dX2_carriedOutBy_29 fl_RX2_9 rfl rfl rfl ?_
      refine L_iload_5 dX2_carriedOutBy_32 ?_
      refine U_iald (n := k) dX2_carriedOutBy_34 rfl (rfl) (by omega) (by decide) ?_
      refine V_eqv (y := x) hx ?_
      refine V_goto (tgt := 40) dX2_carriedOutBy_35 (by decide) ?_
      refine V_istore_6 dX2_carriedOutBy_40 (Nat.le_of_ble_eq_true rfl) rfl ?_
      refine L_iload_6 dX2_carriedOutBy_42 ?_
      refine V_bipush (v := 59) (by decide) dX2_carriedOutBy_44 ?_
      refine V_icmp_ne (tgt := 70) dX2_carriedOutBy_46 (by decide) (fun h46 => ?_) (fun h46 => ?_)
      · refine L_iload_6 dX2_carriedOutBy_70 ?_
        refine V_bipush (v := 57) (by decide) dX2_carriedOutBy_72 ?_
        refine U_cv2 (d := d + 5) (lkR_RX2_33 rfl dX2_carriedOutBy_74) (k_X2_isDigit _) ⟨pn_X2_isDigit, rfl, (Nat.le_of_ble_eq_true rfl), (Nat.le_of_ble_eq_true rfl), rfl⟩ (trivial) cfn (Nat.le_of_ble_eq_true rfl) ?_
        refine V_ifx_eq (tgt := 96) dX2_carriedOutBy_77 (by decide) (fun h77 => ?_) (fun h77 => ?_)
        · refine L_iload_6 dX2_carriedOutBy_96 ?_
          refine V_istore_n_3 dX2_carriedOutBy_98 (Nat.le_of_ble_eq_true rfl) rfl ?_
          refine V_iinc_5 (v := nI (k + 1)) dX2_carriedOutBy_99 (Nat.le_of_ble_eq_true rfl) rfl (nI_1 _) ?_
          refine V_goto (tgt := 10) dX2_carriedOutBy_102 (by decide) ?_
          refine V_locals (fun q9 h9 => ?_) kk
          simp only [lcl, List.mem_cons, List.not_mem_nil, or_false] at h9 ⊢
          rcases h9 with h9 | h9 | h9 | h9 | h9 | h9 <;> simp [h9]
        · exact absurd (b2p h77) hnd
      · exact absurd h46 h59
theorem co_digit {g : G0} {j : Nat → Nat → Int64} (d : Nat) {i : Nat → Nat → Int32} {ex od nu : Int32} {c k : Nat} (hc : i 87 1 = nI c) (h60 : c ≤ 60) {K : K0} (hk : k < c) {x : Int32} (hx : i 88 k = x) (h59 : ¬ x = 59) (hnd : dgq x 57) (kk : V g m_X2_carriedOutBy (d + 6) 0 0 false K 10 [some (.ref 87), some (.ref 1), some (.int ex), some (.int od), some (.int (10 * nu + (x - 48))), some (.int (nI (k + 1))), none] [] (mk i j))  : V g m_X2_carriedOutBy (d + 6) 0 0 false K 10 [some (.ref 87), some (.ref 1), some (.int ex), some (.int od), some (.int nu), some (.int (nI k)), none] [] (mk i j) := by
  refine L_iload_5 dX2_carriedOutBy_10 ?_
  refine L_aload_n_0 dX2_carriedOutBy_12 ?_
  refine U_getI dX2_carriedOutBy_13 fl_RX2_15 rfl rfl ?_
  refine V_eqv (y := nI c) hc ?_
  refine V_icmp_gt (tgt := 105) dX2_carriedOutBy_16 (by decide) (fun h16 => ?_) (fun h16 => ?_)
  · exact absurd ((nI_ltI (a := c) (b := k) (by omega) (by omega)).mp h16) (by omega)
  · refine L_iload_5 dX2_carriedOutBy_19 ?_
    refine L_aload_n_0 dX2_carriedOutBy_21 ?_
    refine U_getI dX2_carriedOutBy_22 fl_RX2_15 rfl rfl ?_
    refine V_eqv (y := nI c) hc ?_
    refine V_icmp_ge (tgt := 38) dX2_carriedOutBy_25 (by decide) (fun h25 => ?_) (fun h25 => ?_)
    · exact absurd ((nI_leI (a := c) (b := k) (by omega) (by omega)).mp h25) (by omega)
    · refine L_aload_n_0 dX2_carriedOutBy_28 ?_
      refine U_getR (r := 88) dX2_carriedOutBy_29 fl_RX2_9 rfl rfl rfl ?_
      refine L_iload_5 dX2_carriedOutBy_32 ?_
      refine U_iald (n := k) dX2_carriedOutBy_34 rfl (rfl) (by omega) (by decide) ?_
      refine V_eqv (y := x) hx ?_
      refine V_goto (tgt := 40) dX2_carriedOutBy_35 (by decide) ?_
      refine V_istore_6 dX2_carriedOutBy_40 (Nat.le_of_ble_eq_true rfl) rfl ?_
      refine L_iload_6 dX2_carriedOutBy_42 ?_
      refine V_bipush (v := 59) (by decide) dX2_carriedOutBy_44 ?_
      refine V_icmp_ne (tgt := 70) dX2_carriedOutBy_46 (by decide) (fun h46 => ?_) (fun h46 => ?_)
      · refine L_iload_6 dX2_carriedOutBy_70 ?_
        refine V_bipush (v := 57) (by decide) dX2_carriedOutBy_72 ?_
        refine U_cv2 (d := d + 5) (lkR_RX2_33 rfl dX2_carriedOutBy_74) (k_X2_isDigit _) ⟨pn_X2_isDigit, rfl, (Nat.le_of_ble_eq_true rfl), (Nat.le_of_ble_eq_true rfl), rfl⟩ (trivial) cfn (Nat.le_of_ble_eq_true rfl) ?_
        refine V_ifx_eq (tgt := 96) dX2_carriedOutBy_77 (by decide) (fun h77 => ?_) (fun h77 => ?_)
        · exact absurd hnd (b2z.mp h77)
        · refine V_bipush (v := 10) (by decide) dX2_carriedOutBy_80 ?_
          refine L_iload_4 dX2_carriedOutBy_82 ?_
          refine V_imul dX2_carriedOutBy_84 ?_
          refine L_iload_6 dX2_carriedOutBy_85 ?_
          refine V_bipush (v := 48) (by decide) dX2_carriedOutBy_87 ?_
          refine V_isub dX2_carriedOutBy_89 ?_
          refine V_iadd dX2_carriedOutBy_90 ?_
          refine V_istore_4 dX2_carriedOutBy_91 (Nat.le_of_ble_eq_true rfl) rfl ?_
          refine V_goto (tgt := 99) dX2_carriedOutBy_93 (by decide) ?_
          refine V_iinc_5 (v := nI (k + 1)) dX2_carriedOutBy_99 (Nat.le_of_ble_eq_true rfl) rfl (nI_1 _) ?_
          refine V_goto (tgt := 10) dX2_carriedOutBy_102 (by decide) ?_
          refine V_locals (fun q9 h9 => ?_) kk
          simp only [lcl, List.mem_cons, List.not_mem_nil, or_false] at h9 ⊢
          rcases h9 with h9 | h9 | h9 | h9 | h9 | h9 <;> simp [h9]
      · exact absurd h46 h59
theorem co_sep {g : G0} {j : Nat → Nat → Int64} (d : Nat) {i : Nat → Nat → Int32} {ex od nu : Int32} {c k : Nat} (hc : i 87 1 = nI c) (h60 : c ≤ 60) {K : K0} (hk : k ≤ c) (hx : k < c → i 88 k = 59) {o v : Nat} (hv : vld o v) (hCI : CI i) (hok : okO i o v = true) (kk : V g m_X2_carriedOutBy (d + 6) 0 0 false K 10 [some (.ref 87), some (.ref 1), some (.int (ex + 1)), some (.int (nI o)), some (.int 0), some (.int (nI (k + 1))), none] [] (mk (doO i o v) j))  : V g m_X2_carriedOutBy (d + 6) 0 0 false K 10 [some (.ref 87), some (.ref 1), some (.int ex), some (.int (nI o)), some (.int (nI v)), some (.int (nI k)), none] [] (mk i j) := by
  refine L_iload_5 dX2_carriedOutBy_10 ?_
  refine L_aload_n_0 dX2_carriedOutBy_12 ?_
  refine U_getI dX2_carriedOutBy_13 fl_RX2_15 rfl rfl ?_
  refine V_eqv (y := nI c) hc ?_
  refine V_icmp_gt (tgt := 105) dX2_carriedOutBy_16 (by decide) (fun h16 => ?_) (fun h16 => ?_)
  · exact absurd ((nI_ltI (a := c) (b := k) (by omega) (by omega)).mp h16) (by omega)
  · refine L_iload_5 dX2_carriedOutBy_19 ?_
    refine L_aload_n_0 dX2_carriedOutBy_21 ?_
    refine U_getI dX2_carriedOutBy_22 fl_RX2_15 rfl rfl ?_
    refine V_eqv (y := nI c) hc ?_
    refine V_icmp_ge (tgt := 38) dX2_carriedOutBy_25 (by decide) (fun h25 => ?_) (fun h25 => ?_)
    · refine V_bipush (v := 59) (by decide) dX2_carriedOutBy_38 ?_
      refine V_istore_6 dX2_carriedOutBy_40 (Nat.le_of_ble_eq_true rfl) rfl ?_
      refine L_iload_6 dX2_carriedOutBy_42 ?_
      refine V_bipush (v := 59) (by decide) dX2_carriedOutBy_44 ?_
      refine V_icmp_ne (tgt := 70) dX2_carriedOutBy_46 (by decide) (fun h46 => ?_) (fun h46 => ?_)
      · exfalso; revert h46; decide
      · refine L_aload_n_1 dX2_carriedOutBy_49 ?_
        refine L_iload_n_3 dX2_carriedOutBy_50 ?_
        refine L_iload_4 dX2_carriedOutBy_51 ?_
        refine U_cv3 (d := d + 5) (lkR_RX2_27 rfl dX2_carriedOutBy_53) (k_X5_obey _ hv hCI) ⟨pn_X5_obey, rfl, (Nat.le_of_ble_eq_true rfl), (Nat.le_of_ble_eq_true rfl), rfl⟩ (⟨_, _, rfl, rfl, rfl⟩) (cfS cf5) (Nat.le_of_ble_eq_true rfl) ?_
        rw [if_pos hok, b2t hok]
        refine V_ifx_ne (tgt := 61) dX2_carriedOutBy_56 (by decide) (fun h56 => ?_) (fun h56 => ?_)
        · refine V_iinc_2 dX2_carriedOutBy_61 (Nat.le_of_ble_eq_true rfl) rfl (iinc1 _) ?_
          refine V_iconst (v := 0) (by decide) dX2_carriedOutBy_64 ?_
          refine V_istore_4 dX2_carriedOutBy_65 (Nat.le_of_ble_eq_true rfl) rfl ?_
          refine V_goto (tgt := 99) dX2_carriedOutBy_67 (by decide) ?_
          refine V_iinc_5 (v := nI (k + 1)) dX2_carriedOutBy_99 (Nat.le_of_ble_eq_true rfl) rfl (nI_1 _) ?_
          refine V_goto (tgt := 10) dX2_carriedOutBy_102 (by decide) ?_
          refine V_locals (fun q9 h9 => ?_) kk
          simp only [lcl, List.mem_cons, List.not_mem_nil, or_false] at h9 ⊢
          rcases h9 with h9 | h9 | h9 | h9 | h9 | h9 <;> simp [h9]
        · exfalso; revert h56; decide
    · refine L_aload_n_0 dX2_carriedOutBy_28 ?_
      refine U_getR (r := 88) dX2_carriedOutBy_29 fl_RX2_9 rfl rfl rfl ?_
      refine L_iload_5 dX2_carriedOutBy_32 ?_
      refine U_iald (n := k) dX2_carriedOutBy_34 rfl (rfl) (by have := mt (nI_leI (a := c) (b := k) (by omega) (by omega)).mpr h25; omega) (by decide) ?_
      refine V_eqv (y := 59) (hx (by have := mt (nI_leI (a := c) (b := k) (by omega) (by omega)).mpr h25; omega)) ?_
      refine V_goto (tgt := 40) dX2_carriedOutBy_35 (by decide) ?_
      refine V_istore_6 dX2_carriedOutBy_40 (Nat.le_of_ble_eq_true rfl) rfl ?_
      refine L_iload_6 dX2_carriedOutBy_42 ?_
      refine V_bipush (v := 59) (by decide) dX2_carriedOutBy_44 ?_
      refine V_icmp_ne (tgt := 70) dX2_carriedOutBy_46 (by decide) (fun h46 => ?_) (fun h46 => ?_)
      · exfalso; revert h46; decide
      · refine L_aload_n_1 dX2_carriedOutBy_49 ?_
        refine L_iload_n_3 dX2_carriedOutBy_50 ?_
        refine L_iload_4 dX2_carriedOutBy_51 ?_
        refine U_cv3 (d := d + 5) (lkR_RX2_27 rfl dX2_carriedOutBy_53) (k_X5_obey _ hv hCI) ⟨pn_X5_obey, rfl, (Nat.le_of_ble_eq_true rfl), (Nat.le_of_ble_eq_true rfl), rfl⟩ (⟨_, _, rfl, rfl, rfl⟩) (cfS cf5) (Nat.le_of_ble_eq_true rfl) ?_
        rw [if_pos hok, b2t hok]
        refine V_ifx_ne (tgt := 61) dX2_carriedOutBy_56 (by decide) (fun h56 => ?_) (fun h56 => ?_)
        · refine V_iinc_2 dX2_carriedOutBy_61 (Nat.le_of_ble_eq_true rfl) rfl (iinc1 _) ?_
          refine V_iconst (v := 0) (by decide) dX2_carriedOutBy_64 ?_
          refine V_istore_4 dX2_carriedOutBy_65 (Nat.le_of_ble_eq_true rfl) rfl ?_
          refine V_goto (tgt := 99) dX2_carriedOutBy_67 (by decide) ?_
          refine V_iinc_5 (v := nI (k + 1)) dX2_carriedOutBy_99 (Nat.le_of_ble_eq_true rfl) rfl (nI_1 _) ?_
          refine V_goto (tgt := 10) dX2_carriedOutBy_102 (by decide) ?_
          refine V_locals (fun q9 h9 => ?_) kk
          simp only [lcl, List.mem_cons, List.not_mem_nil, or_false] at h9 ⊢
          rcases h9 with h9 | h9 | h9 | h9 | h9 | h9 <;> simp [h9]
        · exfalso; revert h56; decide
theorem co_stop {g : G0} {j : Nat → Nat → Int64} (d : Nat) {i : Nat → Nat → Int32} {ex od nu : Int32} {c k : Nat} (hc : i 87 1 = nI c) (h60 : c ≤ 60) (hk : k ≤ c) (hx : k < c → i 88 k = 59) {o v : Nat} (hv : vld o v) (hCI : CI i) (hok : ¬ okO i o v = true)  : V g m_X2_carriedOutBy (d + 6) 0 0 false (Kp g false (rets (some (.int ex)) (mk i j))) 10 [some (.ref 87), some (.ref 1), some (.int ex), some (.int (nI o)), some (.int (nI v)), some (.int (nI k)), none] [] (mk i j) := by
  refine L_iload_5 dX2_carriedOutBy_10 ?_
  refine L_aload_n_0 dX2_carriedOutBy_12 ?_
  refine U_getI dX2_carriedOutBy_13 fl_RX2_15 rfl rfl ?_
  refine V_eqv (y := nI c) hc ?_
  refine V_icmp_gt (tgt := 105) dX2_carriedOutBy_16 (by decide) (fun h16 => ?_) (fun h16 => ?_)
  · exact absurd ((nI_ltI (a := c) (b := k) (by omega) (by omega)).mp h16) (by omega)
  · refine L_iload_5 dX2_carriedOutBy_19 ?_
    refine L_aload_n_0 dX2_carriedOutBy_21 ?_
    refine U_getI dX2_carriedOutBy_22 fl_RX2_15 rfl rfl ?_
    refine V_eqv (y := nI c) hc ?_
    refine V_icmp_ge (tgt := 38) dX2_carriedOutBy_25 (by decide) (fun h25 => ?_) (fun h25 => ?_)
    · refine V_bipush (v := 59) (by decide) dX2_carriedOutBy_38 ?_
      refine V_istore_6 dX2_carriedOutBy_40 (Nat.le_of_ble_eq_true rfl) rfl ?_
      refine L_iload_6 dX2_carriedOutBy_42 ?_
      refine V_bipush (v := 59) (by decide) dX2_carriedOutBy_44 ?_
      refine V_icmp_ne (tgt := 70) dX2_carriedOutBy_46 (by decide) (fun h46 => ?_) (fun h46 => ?_)
      · exfalso; revert h46; decide
      · refine L_aload_n_1 dX2_carriedOutBy_49 ?_
        refine L_iload_n_3 dX2_carriedOutBy_50 ?_
        refine L_iload_4 dX2_carriedOutBy_51 ?_
        refine U_cv3 (d := d + 5) (lkR_RX2_27 rfl dX2_carriedOutBy_53) (k_X5_obey _ hv hCI) ⟨pn_X5_obey, rfl, (Nat.le_of_ble_eq_true rfl), (Nat.le_of_ble_eq_true rfl), rfl⟩ (⟨_, _, rfl, rfl, rfl⟩) (cfS cf5) (Nat.le_of_ble_eq_true rfl) ?_
        rw [if_neg hok, b2f hok]
        refine V_ifx_ne (tgt := 61) dX2_carriedOutBy_56 (by decide) (fun h56 => ?_) (fun h56 => ?_)
        · exfalso; revert h56; decide
        · refine L_iload_n_2 dX2_carriedOutBy_59 ?_
          exact V_iret dX2_carriedOutBy_60 rfl rfl (⟨rfl, rfl⟩)
    · refine L_aload_n_0 dX2_carriedOutBy_28 ?_
      refine U_getR (r := 88) dX2_carriedOutBy_29 fl_RX2_9 rfl rfl rfl ?_
      refine L_iload_5 dX2_carriedOutBy_32 ?_
      refine U_iald (n := k) dX2_carriedOutBy_34 rfl (rfl) (by have := mt (nI_leI (a := c) (b := k) (by omega) (by omega)).mpr h25; omega) (by decide) ?_
      refine V_eqv (y := 59) (hx (by have := mt (nI_leI (a := c) (b := k) (by omega) (by omega)).mpr h25; omega)) ?_
      refine V_goto (tgt := 40) dX2_carriedOutBy_35 (by decide) ?_
      refine V_istore_6 dX2_carriedOutBy_40 (Nat.le_of_ble_eq_true rfl) rfl ?_
      refine L_iload_6 dX2_carriedOutBy_42 ?_
      refine V_bipush (v := 59) (by decide) dX2_carriedOutBy_44 ?_
      refine V_icmp_ne (tgt := 70) dX2_carriedOutBy_46 (by decide) (fun h46 => ?_) (fun h46 => ?_)
      · exfalso; revert h46; decide
      · refine L_aload_n_1 dX2_carriedOutBy_49 ?_
        refine L_iload_n_3 dX2_carriedOutBy_50 ?_
        refine L_iload_4 dX2_carriedOutBy_51 ?_
        refine U_cv3 (d := d + 5) (lkR_RX2_27 rfl dX2_carriedOutBy_53) (k_X5_obey _ hv hCI) ⟨pn_X5_obey, rfl, (Nat.le_of_ble_eq_true rfl), (Nat.le_of_ble_eq_true rfl), rfl⟩ (⟨_, _, rfl, rfl, rfl⟩) (cfS cf5) (Nat.le_of_ble_eq_true rfl) ?_
        rw [if_neg hok, b2f hok]
        refine V_ifx_ne (tgt := 61) dX2_carriedOutBy_56 (by decide) (fun h56 => ?_) (fun h56 => ?_)
        · exfalso; revert h56; decide
        · refine L_iload_n_2 dX2_carriedOutBy_59 ?_
          exact V_iret dX2_carriedOutBy_60 rfl rfl (⟨rfl, rfl⟩)
theorem co_end {g : G0} {j : Nat → Nat → Int64} (d : Nat) {i : Nat → Nat → Int32} {ex od nu : Int32} {c k : Nat} (hc : i 87 1 = nI c) (h60 : c ≤ 60) (hk : k = c + 1)  : V g m_X2_carriedOutBy (d + 6) 0 0 false (Kp g false (rets (some (.int ex)) (mk i j))) 10 [some (.ref 87), some (.ref 1), some (.int ex), some (.int od), some (.int nu), some (.int (nI k)), none] [] (mk i j) := by
  refine L_iload_5 dX2_carriedOutBy_10 ?_
  refine L_aload_n_0 dX2_carriedOutBy_12 ?_
  refine U_getI dX2_carriedOutBy_13 fl_RX2_15 rfl rfl ?_
  refine V_eqv (y := nI c) hc ?_
  refine V_icmp_gt (tgt := 105) dX2_carriedOutBy_16 (by decide) (fun h16 => ?_) (fun h16 => ?_)
  · refine L_iload_n_2 dX2_carriedOutBy_105 ?_
    exact V_iret dX2_carriedOutBy_106 rfl rfl (⟨rfl, rfl⟩)
  · exact absurd ((nI_ltI (a := c) (b := k) (by omega) (by omega)).mpr (by omega)) h16
def dig (v : Nat) : List Nat := if v < 10 then [48 + v] else [48 + v / 10, 48 + v % 10]
def enc (t : Nat × Nat) : List Nat := t.1 :: (if t.1 = 112 then [] else dig t.2)
def encs : List (Nat × Nat) → List Nat
  | [] => []
  | [t] => enc t
  | t :: u :: ts => enc t ++ 59 :: encs (u :: ts)
def exeN (i : Nat → Nat → Int32) : List (Nat × Nat) → Nat
  | [] => 0
  | t :: ts => if okO i t.1 t.2 = true then exeN (doO i t.1 t.2) ts + 1 else 0
def exeI (i : Nat → Nat → Int32) : List (Nat × Nat) → Nat → Nat → Int32
  | [] => i
  | t :: ts => if okO i t.1 t.2 = true then exeI (doO i t.1 t.2) ts else i
/-- the codes from k on are those of l -/
def txt (i : Nat → Nat → Int32) (k : Nat) (l : List Nat) : Prop := ∀ q x, l[q]? = some x → i 88 (k + q) = nI x
theorem txt_app {i : Nat → Nat → Int32} {k : Nat} {a b : List Nat} (h : txt i k (a ++ b)) : txt i k a ∧ txt i (k + a.length) b := by
  refine ⟨fun q x hq => h q x ?_, fun q x hq => ?_⟩
  · rw [List.getElem?_append_left (List.getElem?_eq_some_iff.mp hq).1]; exact hq
  · have := h (a.length + q) x (by rw [List.getElem?_append_right (by omega), Nat.add_sub_cancel_left]; exact hq)
    rw [Nat.add_assoc]; exact this
theorem txt_cons {i : Nat → Nat → Int32} {k x : Nat} {b : List Nat} (h : txt i k (x :: b)) : i 88 k = nI x ∧ txt i (k + 1) b :=
  ⟨h 0 x rfl, fun q y hq => by have := h (q + 1) y hq; rw [show k + 1 + q = k + (q + 1) by omega]; exact this⟩
theorem dgq_nI {t : Nat} (h : t ≤ 9) : dgq (nI (48 + t)) 57 := ⟨fun z => absurd ((nI_ltI (a := 48 + t) (b := 48) (by omega) (by omega)).mp z) (by omega), fun z => absurd ((nI_ltI (a := 57) (b := 48 + t) (by omega) (by omega)).mp z) (by omega)⟩
theorem nI_ne {a b : Nat} (ha : a < 2 ^ 31) (hb : b < 2 ^ 31) (h : a ≠ b) : ¬ nI a = nI b := fun z => h ((nI_eq ha hb).mp z)
theorem dval {v t : Nat} (hv : v < 1000) (ht : t ≤ 9) : 10 * nI v + (nI (48 + t) - 48) = nI (10 * v + t) := by
  rw [show (48 : Int32) = nI 48 from rfl, pk_sub (by omega), show (10 : Int32) = nI 10 from rfl, pk_mul, nI_add]
  congr 1; omega
/-- one order is read -/
theorem co_tok {g : G0} {j : Nat → Nat → Int64} (d : Nat) {i : Nat → Nat → Int32} {ex od : Int32} {c k : Nat} (hc : i 87 1 = nI c) (h60 : c ≤ 60) {K : K0} {o v : Nat} (hv : vld o v) (ht : txt i k (enc (o, v))) (hk : k + (enc (o, v)).length ≤ c)
    (kk : V g m_X2_carriedOutBy (d + 6) 0 0 false K 10 [some (.ref 87), some (.ref 1), some (.int ex), some (.int (nI o)), some (.int (nI v)), some (.int (nI (k + (enc (o, v)).length))), none] [] (mk i j)) :
    V g m_X2_carriedOutBy (d + 6) 0 0 false K 10 [some (.ref 87), some (.ref 1), some (.int ex), some (.int od), some (.int 0), some (.int (nI k)), none] [] (mk i j) := by
  obtain ⟨h1, h2⟩ := txt_cons ht
  have hd : ∀ {x : Nat}, (x = 43 ∨ x = 45 ∨ x = 112 ∨ x = 110 ∨ x = 114 ∨ x = 115 ∨ x = 119) → ¬ nI x = 59 ∧ ¬ dgq (nI x) 57 := by
    intro x hx
    rcases hx with rfl | rfl | rfl | rfl | rfl | rfl | rfl <;> decide
  have ho : o = 43 ∨ o = 45 ∨ o = 112 ∨ o = 110 ∨ o = 114 ∨ o = 115 ∨ o = 119 := by unfold vld at hv; omega
  refine co_sign d hc h60 (by simp [enc] at hk; omega) h1 (hd ho).1 (hd ho).2 ?_
  by_cases hp : o = 112
  · subst hp
    have hv0 : v = 0 := by unfold vld at hv; omega
    subst hv0
    exact kk
  · have h3 : enc (o, v) = o :: dig v := by simp [enc, hp]
    rw [h3] at kk hk
    have h2 : txt i (k + 1) (dig v) := by rw [show (if (o, v).1 = 112 then [] else dig (o, v).2) = dig v from if_neg hp] at h2; exact h2
    have hv30 : v < 30 := by unfold vld at hv; omega
    by_cases h10 : v < 10
    · have h4 : dig v = [48 + v] := if_pos h10
      rw [h4] at h2 kk hk
      simp only [List.length_cons, List.length_nil] at kk hk
      refine co_digit d hc h60 (by omega) (txt_cons h2).1 (nI_ne (b := 59) (by omega) (by omega) (by omega)) (dgq_nI (by omega)) ?_
      rw [show (10 * 0 + (nI (48 + v) - 48) : Int32) = nI v from (by have := dval (v := 0) (t := v) (by omega) (by omega); rw [show nI 0 = 0 from rfl, show 10 * 0 + v = v by omega] at this; exact this)]
      exact kk
    · have h4 : dig v = [48 + v / 10, 48 + v % 10] := if_neg h10
      rw [h4] at h2 kk hk
      simp only [List.length_cons, List.length_nil] at kk hk
      obtain ⟨h5, h6⟩ := txt_cons h2
      refine co_digit d hc h60 (by omega) h5 (nI_ne (b := 59) (by omega) (by omega) (by omega)) (dgq_nI (by omega)) ?_
      rw [show (10 * 0 + (nI (48 + v / 10) - 48) : Int32) = nI (v / 10) from (by have := dval (v := 0) (t := v / 10) (by omega) (by omega); rw [show nI 0 = 0 from rfl, show 10 * 0 + v / 10 = v / 10 by omega] at this; exact this)]
      refine co_digit d hc h60 (by omega) (txt_cons h6).1 (nI_ne (b := 59) (by omega) (by omega) (by omega)) (dgq_nI (by omega)) ?_
      rw [dval (by omega) (by omega), show 10 * (v / 10) + v % 10 = v by omega]
      exact kk
theorem co_all {g : G0} {j : Nat → Nat → Int64} (d : Nat) {c : Nat} (h60 : c ≤ 60) : ∀ (ts : List (Nat × Nat)) (t : Nat × Nat) (i : Nat → Nat → Int32) (e k : Nat) (od : Int32), i 87 1 = nI c → CI i → (∀ u ∈ t :: ts, vld u.1 u.2) → txt i k (encs (t :: ts)) → k + (encs (t :: ts)).length = c →
    V g m_X2_carriedOutBy (d + 6) 0 0 false (Kp g false (rets (some (.int (nI (e + exeN i (t :: ts))))) (mk (exeI i (t :: ts)) j))) 10 [some (.ref 87), some (.ref 1), some (.int (nI e)), some (.int od), some (.int 0), some (.int (nI k)), none] [] (mk i j) := by
  intro ts
  induction ts with
  | nil =>
    intro t i e k od hc hCI hv ht hk
    obtain ⟨o, v⟩ := t
    have hv0 : vld o v := hv (o, v) List.mem_cons_self
    refine co_tok d hc h60 hv0 ht (by show k + (enc (o, v)).length ≤ c; exact Nat.le_of_eq hk) ?_
    have hk2 : k + (enc (o, v)).length = c := hk
    rw [hk2]
    by_cases hok : okO i o v = true
    · refine co_sep (od := 0) (nu := 0) d hc h60 (Nat.le_refl _) (fun z => by omega) hv0 hCI hok ?_
      rw [show exeN i [(o, v)] = 0 + 1 from if_pos hok, show exeI i [(o, v)] = doO i o v from if_pos hok, nI_1]
      exact co_end d ((doO_oth hv0 (by omega)).trans hc) h60 rfl
    · rw [show exeN i [(o, v)] = 0 from if_neg hok, show exeI i [(o, v)] = i from if_neg hok]
      exact co_stop (od := 0) (nu := 0) d hc h60 (Nat.le_refl _) (fun z => by omega) hv0 hCI hok
  | cons u ts ih =>
    intro t i e k od hc hCI hv ht hk
    obtain ⟨o, v⟩ := t
    have hv0 : vld o v := hv (o, v) List.mem_cons_self
    have ht : txt i k (enc (o, v) ++ 59 :: encs (u :: ts)) := ht
    have hk : k + (enc (o, v) ++ 59 :: encs (u :: ts)).length = c := hk
    obtain ⟨h1, h2⟩ := txt_app ht
    obtain ⟨h3, h4⟩ := txt_cons h2
    rw [List.length_append, List.length_cons] at hk
    refine co_tok d hc h60 hv0 h1 (by omega) ?_
    by_cases hok : okO i o v = true
    · refine co_sep (od := 0) (nu := 0) d hc h60 (by omega) (fun _ => h3) hv0 hCI hok ?_
      rw [show exeN i ((o, v) :: u :: ts) = exeN (doO i o v) (u :: ts) + 1 from if_pos hok, show exeI i ((o, v) :: u :: ts) = exeI (doO i o v) (u :: ts) from if_pos hok, nI_1]
      have h9 := ih u (doO i o v) (e + 1) (k + (enc (o, v)).length + 1) (nI o) ((doO_oth hv0 (by omega)).trans hc) (doO_CI hv0 hCI) (fun w hw => hv w (List.mem_cons_of_mem _ hw)) (fun q x hq => (doO_oth hv0 (by omega)).trans (h4 q x hq)) (by omega)
      rw [show e + 1 + exeN (doO i o v) (u :: ts) = e + (exeN (doO i o v) (u :: ts) + 1) by omega] at h9
      exact h9
    · rw [show exeN i ((o, v) :: u :: ts) = 0 from if_neg hok, show exeI i ((o, v) :: u :: ts) = i from if_neg hok]
      exact co_stop (od := 0) (nu := 0) d hc h60 (by omega) (fun _ => h3) hv0 hCI hok
theorem k_X2_carriedOutBy {g : G0} {j : Nat → Nat → Int64} (d : Nat) {i : Nat → Nat → Int32} {c : Nat} (hc : i 87 1 = nI c) (h60 : c ≤ 60) {t : Nat × Nat} {ts : List (Nat × Nat)} (hCI : CI i) (hv : ∀ u ∈ t :: ts, vld u.1 u.2) (ht : txt i 0 (encs (t :: ts))) (hk : (encs (t :: ts)).length = c)  : C g m_X2_carriedOutBy (d + 6) 0 0 false [.ref 87, .ref 1] (mk i j) (rets (some (.int (nI (exeN i (t :: ts))))) (mk (exeI i (t :: ts)) j)) := by
  refine C_of (L := [some (.ref 87), some (.ref 1), none, none, none, none, none]) rfl ?_
  refine V_iconst (v := 0) (by decide) dX2_carriedOutBy_0 ?_
  refine V_istore_n_2 dX2_carriedOutBy_1 (Nat.le_of_ble_eq_true rfl) rfl ?_
  refine V_iconst (v := 0) (by decide) dX2_carriedOutBy_2 ?_
  refine V_istore_n_3 dX2_carriedOutBy_3 (Nat.le_of_ble_eq_true rfl) rfl ?_
  refine V_iconst (v := 0) (by decide) dX2_carriedOutBy_4 ?_
  refine V_istore_4 dX2_carriedOutBy_5 (Nat.le_of_ble_eq_true rfl) rfl ?_
  refine V_iconst (v := 0) (by decide) dX2_carriedOutBy_7 ?_
  refine V_istore_5 dX2_carriedOutBy_8 (Nat.le_of_ble_eq_true rfl) rfl ?_
  have h9 := co_all (g := g) (j := j) d h60 ts t i 0 0 0 hc hCI hv ht (by omega)
  rw [Nat.zero_add] at h9
  exact h9
