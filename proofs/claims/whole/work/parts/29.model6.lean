abbrev th (i : Nat → Nat → Int32) (x : Int32) : Nat → Nat → Int32 := up2 i 89 0 x
theorem thn {i : Nat → Nat → Int32} {n : Nat} (hn : i 89 3 = nI n) : th i 0 89 3 = nI n := (up2_nf (by omega)).trans hn
theorem thc {i : Nat → Nat → Int32} {c k : Nat} (hc : i 90 k = nI c) : th i 0 90 k = nI c := (up2_ne (by omega)).trans hc
theorem msv_oth {i : Nat → Nat → Int32} {n a f : Nat} (h : a ≠ 91 ∧ (a ≠ 89 ∨ f ≠ 3)) : msv i n a f = i a f := by
  unfold msv
  split
  · unfold svC cpW up2; rw [if_neg (by omega), if_neg (by omega)]
  · unfold svC cpW up2; rw [if_neg (by omega), if_neg (by omega), if_neg (by omega)]
    unfold shW; rw [if_neg (by omega)]
theorem msc {i : Nat → Nat → Int32} {n c k : Nat} (hc : i 90 k = nI c) : msv (th i 0) n 90 k = nI c := (msv_oth ⟨by omega, by omega⟩).trans (thc hc)
theorem witq {x : Int32} {f b : Nat} (hx : x = nI f) (hf : f ≤ b) (hb : b < 2 ^ 31) : wit x 0 (nI b) := by
  subst hx
  exact ⟨nI_pos (by omega), fun z => absurd ((nI_ltI (a := b) (b := f) (by omega) (by omega)).mp z) (by omega)⟩
theorem k_X7_add {g : G0} {j : Nat → Nat → Int64} (d : Nat) {i : Nat → Nat → Int32} {x : Int32} (hs : wit x 0 29) (hm : mbt (i 90 0) x = 0) {n : Nat} (hn : i 89 3 = nI n) (h6 : n ≤ 6)  : C g m_X7_add (d + 2) 0 0 false [.ref 89, .int x] (mk i j) (rets (some (.int (one (mcd (msv (th i 0) n) x 90 0)))) (mk (mcd (msv (th i 0) n) x) j)) := by
  refine C_of (L := [some (.ref 89), some (.int x)]) rfl ?_
  refine L_aload_n_0 dX7_add_0 ?_
  refine V_iconst (v := 0) (by decide) dX7_add_1 ?_
  refine U_putI dX7_add_2 fl_RX7_19 rfl rfl rfl ?_
  refine L_iload_n_1 dX7_add_5 ?_
  refine U_cv1 (d := d + 1) (lkR_RX7_87 rfl dX7_add_6) (k_X7_isStreet _) ⟨pn_X7_isStreet, rfl, (Nat.le_of_ble_eq_true rfl), (Nat.le_of_ble_eq_true rfl), rfl⟩ (trivial) cfn (Nat.le_of_ble_eq_true rfl) ?_
  refine V_ifx_ne (tgt := 18) dX7_add_9 (by decide) (fun h9 => ?_) (fun h9 => ?_)
  · refine L_aload_n_0 dX7_add_18 ?_
    refine L_iload_n_1 dX7_add_19 ?_
    refine U_cv2 (d := d + 1) (lkR_RX7_90 rfl dX7_add_20) (k_X7_canAdd _) ⟨pn_X7_canAdd, rfl, (Nat.le_of_ble_eq_true rfl), (Nat.le_of_ble_eq_true rfl), rfl⟩ (⟨_, _, rfl, rfl, rfl⟩) (cfS cf7) (Nat.le_of_ble_eq_true rfl) ?_
    refine V_ifx_ne (tgt := 32) dX7_add_23 (by decide) (fun h23 => ?_) (fun h23 => ?_)
    · refine L_aload_n_0 dX7_add_32 ?_
      refine U_cV1 (d := d + 1) (lkR_RX7_93 rfl dX7_add_33) (k_X7_save _ (thn hn) h6) ⟨pn_X7_save, rfl, (Nat.le_of_ble_eq_true rfl), (Nat.le_of_ble_eq_true rfl), rfl⟩ (⟨_, _, rfl, rfl, rfl⟩) (cfS cf7) (Nat.le_of_ble_eq_true rfl) ?_
      refine L_aload_n_0 dX7_add_36 ?_
      refine L_iload_n_1 dX7_add_37 ?_
      refine U_cv2 (d := d + 1) (lkR_RX7_96 rfl dX7_add_38) (k_X7_changeDraft _) ⟨pn_X7_changeDraft, rfl, (Nat.le_of_ble_eq_true rfl), (Nat.le_of_ble_eq_true rfl), rfl⟩ (⟨_, _, rfl, rfl, rfl⟩) (cfS cf7) (Nat.le_of_ble_eq_true rfl) ?_
      exact V_iret dX7_add_41 rfl rfl (⟨rfl, rfl⟩)
    · exact absurd hm (b2z.mp h23)
  · exact absurd hs (b2z.mp h9)
theorem k_X7_add__1 {g : G0} {j : Nat → Nat → Int64} (d : Nat) {i : Nat → Nat → Int32} {x : Int32} (hs : ¬ wit x 0 29)  : C g m_X7_add (d + 2) 0 0 false [.ref 89, .int x] (mk i j) (rets (some (.int 0)) (mk (th (th i 0) 1) j)) := by
  refine C_of (L := [some (.ref 89), some (.int x)]) rfl ?_
  refine L_aload_n_0 dX7_add_0 ?_
  refine V_iconst (v := 0) (by decide) dX7_add_1 ?_
  refine U_putI dX7_add_2 fl_RX7_19 rfl rfl rfl ?_
  refine L_iload_n_1 dX7_add_5 ?_
  refine U_cv1 (d := d + 1) (lkR_RX7_87 rfl dX7_add_6) (k_X7_isStreet _) ⟨pn_X7_isStreet, rfl, (Nat.le_of_ble_eq_true rfl), (Nat.le_of_ble_eq_true rfl), rfl⟩ (trivial) cfn (Nat.le_of_ble_eq_true rfl) ?_
  refine V_ifx_ne (tgt := 18) dX7_add_9 (by decide) (fun h9 => ?_) (fun h9 => ?_)
  · exact absurd (b2p h9) hs
  · refine L_aload_n_0 dX7_add_12 ?_
    refine V_iconst (v := 1) (by decide) dX7_add_13 ?_
    refine U_cv2 (d := d + 1) (lkR_RX7_30 rfl dX7_add_14) (k_X7_fails _) ⟨pn_X7_fails, rfl, (Nat.le_of_ble_eq_true rfl), (Nat.le_of_ble_eq_true rfl), rfl⟩ (⟨_, _, rfl, rfl, rfl⟩) (cfS cf7) (Nat.le_of_ble_eq_true rfl) ?_
    exact V_iret dX7_add_17 rfl rfl (⟨rfl, rfl⟩)
theorem k_X7_add__2 {g : G0} {j : Nat → Nat → Int64} (d : Nat) {i : Nat → Nat → Int32} {x : Int32} (hs : wit x 0 29) (hm : ¬ mbt (i 90 0) x = 0)  : C g m_X7_add (d + 2) 0 0 false [.ref 89, .int x] (mk i j) (rets (some (.int 0)) (mk (th (th i 0) 2) j)) := by
  refine C_of (L := [some (.ref 89), some (.int x)]) rfl ?_
  refine L_aload_n_0 dX7_add_0 ?_
  refine V_iconst (v := 0) (by decide) dX7_add_1 ?_
  refine U_putI dX7_add_2 fl_RX7_19 rfl rfl rfl ?_
  refine L_iload_n_1 dX7_add_5 ?_
  refine U_cv1 (d := d + 1) (lkR_RX7_87 rfl dX7_add_6) (k_X7_isStreet _) ⟨pn_X7_isStreet, rfl, (Nat.le_of_ble_eq_true rfl), (Nat.le_of_ble_eq_true rfl), rfl⟩ (trivial) cfn (Nat.le_of_ble_eq_true rfl) ?_
  refine V_ifx_ne (tgt := 18) dX7_add_9 (by decide) (fun h9 => ?_) (fun h9 => ?_)
  · refine L_aload_n_0 dX7_add_18 ?_
    refine L_iload_n_1 dX7_add_19 ?_
    refine U_cv2 (d := d + 1) (lkR_RX7_90 rfl dX7_add_20) (k_X7_canAdd _) ⟨pn_X7_canAdd, rfl, (Nat.le_of_ble_eq_true rfl), (Nat.le_of_ble_eq_true rfl), rfl⟩ (⟨_, _, rfl, rfl, rfl⟩) (cfS cf7) (Nat.le_of_ble_eq_true rfl) ?_
    refine V_ifx_ne (tgt := 32) dX7_add_23 (by decide) (fun h23 => ?_) (fun h23 => ?_)
    · exact absurd (b2p h23) hm
    · refine L_aload_n_0 dX7_add_26 ?_
      refine V_iconst (v := 2) (by decide) dX7_add_27 ?_
      refine U_cv2 (d := d + 1) (lkR_RX7_30 rfl dX7_add_28) (k_X7_fails _) ⟨pn_X7_fails, rfl, (Nat.le_of_ble_eq_true rfl), (Nat.le_of_ble_eq_true rfl), rfl⟩ (⟨_, _, rfl, rfl, rfl⟩) (cfS cf7) (Nat.le_of_ble_eq_true rfl) ?_
      exact V_iret dX7_add_31 rfl rfl (⟨rfl, rfl⟩)
  · exact absurd hs (b2z.mp h9)
theorem k_X7_crossOut {g : G0} {j : Nat → Nat → Int64} (d : Nat) {i : Nat → Nat → Int32} {x : Int32} (hs : wit x 0 29) (hm : ¬ mbt (i 90 0) x = 0) {n : Nat} (hn : i 89 3 = nI n) (h6 : n ≤ 6)  : C g m_X7_crossOut (d + 2) 0 0 false [.ref 89, .int x] (mk i j) (rets (some (.int (one (mcd (msv (th i 0) n) x 90 0)))) (mk (mcd (msv (th i 0) n) x) j)) := by
  refine C_of (L := [some (.ref 89), some (.int x)]) rfl ?_
  refine L_aload_n_0 dX7_crossOut_0 ?_
  refine V_iconst (v := 0) (by decide) dX7_crossOut_1 ?_
  refine U_putI dX7_crossOut_2 fl_RX7_19 rfl rfl rfl ?_
  refine L_iload_n_1 dX7_crossOut_5 ?_
  refine U_cv1 (d := d + 1) (lkR_RX7_87 rfl dX7_crossOut_6) (k_X7_isStreet _) ⟨pn_X7_isStreet, rfl, (Nat.le_of_ble_eq_true rfl), (Nat.le_of_ble_eq_true rfl), rfl⟩ (trivial) cfn (Nat.le_of_ble_eq_true rfl) ?_
  refine V_ifx_ne (tgt := 18) dX7_crossOut_9 (by decide) (fun h9 => ?_) (fun h9 => ?_)
  · refine L_aload_n_0 dX7_crossOut_18 ?_
    refine L_iload_n_1 dX7_crossOut_19 ?_
    refine U_cv2 (d := d + 1) (lkR_RX7_90 rfl dX7_crossOut_20) (k_X7_canAdd _) ⟨pn_X7_canAdd, rfl, (Nat.le_of_ble_eq_true rfl), (Nat.le_of_ble_eq_true rfl), rfl⟩ (⟨_, _, rfl, rfl, rfl⟩) (cfS cf7) (Nat.le_of_ble_eq_true rfl) ?_
    refine V_ifx_eq (tgt := 32) dX7_crossOut_23 (by decide) (fun h23 => ?_) (fun h23 => ?_)
    · refine L_aload_n_0 dX7_crossOut_32 ?_
      refine U_cV1 (d := d + 1) (lkR_RX7_93 rfl dX7_crossOut_33) (k_X7_save _ (thn hn) h6) ⟨pn_X7_save, rfl, (Nat.le_of_ble_eq_true rfl), (Nat.le_of_ble_eq_true rfl), rfl⟩ (⟨_, _, rfl, rfl, rfl⟩) (cfS cf7) (Nat.le_of_ble_eq_true rfl) ?_
      refine L_aload_n_0 dX7_crossOut_36 ?_
      refine L_iload_n_1 dX7_crossOut_37 ?_
      refine U_cv2 (d := d + 1) (lkR_RX7_96 rfl dX7_crossOut_38) (k_X7_changeDraft _) ⟨pn_X7_changeDraft, rfl, (Nat.le_of_ble_eq_true rfl), (Nat.le_of_ble_eq_true rfl), rfl⟩ (⟨_, _, rfl, rfl, rfl⟩) (cfS cf7) (Nat.le_of_ble_eq_true rfl) ?_
      exact V_iret dX7_crossOut_41 rfl rfl (⟨rfl, rfl⟩)
    · exact absurd (b2p h23) hm
  · exact absurd hs (b2z.mp h9)
theorem k_X7_crossOut__1 {g : G0} {j : Nat → Nat → Int64} (d : Nat) {i : Nat → Nat → Int32} {x : Int32} (hs : ¬ wit x 0 29)  : C g m_X7_crossOut (d + 2) 0 0 false [.ref 89, .int x] (mk i j) (rets (some (.int 0)) (mk (th (th i 0) 1) j)) := by
  refine C_of (L := [some (.ref 89), some (.int x)]) rfl ?_
  refine L_aload_n_0 dX7_crossOut_0 ?_
  refine V_iconst (v := 0) (by decide) dX7_crossOut_1 ?_
  refine U_putI dX7_crossOut_2 fl_RX7_19 rfl rfl rfl ?_
  refine L_iload_n_1 dX7_crossOut_5 ?_
  refine U_cv1 (d := d + 1) (lkR_RX7_87 rfl dX7_crossOut_6) (k_X7_isStreet _) ⟨pn_X7_isStreet, rfl, (Nat.le_of_ble_eq_true rfl), (Nat.le_of_ble_eq_true rfl), rfl⟩ (trivial) cfn (Nat.le_of_ble_eq_true rfl) ?_
  refine V_ifx_ne (tgt := 18) dX7_crossOut_9 (by decide) (fun h9 => ?_) (fun h9 => ?_)
  · exact absurd (b2p h9) hs
  · refine L_aload_n_0 dX7_crossOut_12 ?_
    refine V_iconst (v := 1) (by decide) dX7_crossOut_13 ?_
    refine U_cv2 (d := d + 1) (lkR_RX7_30 rfl dX7_crossOut_14) (k_X7_fails _) ⟨pn_X7_fails, rfl, (Nat.le_of_ble_eq_true rfl), (Nat.le_of_ble_eq_true rfl), rfl⟩ (⟨_, _, rfl, rfl, rfl⟩) (cfS cf7) (Nat.le_of_ble_eq_true rfl) ?_
    exact V_iret dX7_crossOut_17 rfl rfl (⟨rfl, rfl⟩)
theorem k_X7_crossOut__2 {g : G0} {j : Nat → Nat → Int64} (d : Nat) {i : Nat → Nat → Int32} {x : Int32} (hs : wit x 0 29) (hm : mbt (i 90 0) x = 0)  : C g m_X7_crossOut (d + 2) 0 0 false [.ref 89, .int x] (mk i j) (rets (some (.int 0)) (mk (th (th i 0) 2) j)) := by
  refine C_of (L := [some (.ref 89), some (.int x)]) rfl ?_
  refine L_aload_n_0 dX7_crossOut_0 ?_
  refine V_iconst (v := 0) (by decide) dX7_crossOut_1 ?_
  refine U_putI dX7_crossOut_2 fl_RX7_19 rfl rfl rfl ?_
  refine L_iload_n_1 dX7_crossOut_5 ?_
  refine U_cv1 (d := d + 1) (lkR_RX7_87 rfl dX7_crossOut_6) (k_X7_isStreet _) ⟨pn_X7_isStreet, rfl, (Nat.le_of_ble_eq_true rfl), (Nat.le_of_ble_eq_true rfl), rfl⟩ (trivial) cfn (Nat.le_of_ble_eq_true rfl) ?_
  refine V_ifx_ne (tgt := 18) dX7_crossOut_9 (by decide) (fun h9 => ?_) (fun h9 => ?_)
  · refine L_aload_n_0 dX7_crossOut_18 ?_
    refine L_iload_n_1 dX7_crossOut_19 ?_
    refine U_cv2 (d := d + 1) (lkR_RX7_90 rfl dX7_crossOut_20) (k_X7_canAdd _) ⟨pn_X7_canAdd, rfl, (Nat.le_of_ble_eq_true rfl), (Nat.le_of_ble_eq_true rfl), rfl⟩ (⟨_, _, rfl, rfl, rfl⟩) (cfS cf7) (Nat.le_of_ble_eq_true rfl) ?_
    refine V_ifx_eq (tgt := 32) dX7_crossOut_23 (by decide) (fun h23 => ?_) (fun h23 => ?_)
    · exact absurd hm (b2z.mp h23)
    · refine L_aload_n_0 dX7_crossOut_26 ?_
      refine V_iconst (v := 2) (by decide) dX7_crossOut_27 ?_
      refine U_cv2 (d := d + 1) (lkR_RX7_30 rfl dX7_crossOut_28) (k_X7_fails _) ⟨pn_X7_fails, rfl, (Nat.le_of_ble_eq_true rfl), (Nat.le_of_ble_eq_true rfl), rfl⟩ (⟨_, _, rfl, rfl, rfl⟩) (cfS cf7) (Nat.le_of_ble_eq_true rfl) ?_
      exact V_iret dX7_crossOut_31 rfl rfl (⟨rfl, rfl⟩)
  · exact absurd hs (b2z.mp h9)
theorem k_X7_publish {g : G0} {j : Nat → Nat → Int64} (d : Nat) {i : Nat → Nat → Int32} (hm : ¬ i 90 0 = i 90 1) {c q : Nat} (hc : i 90 4 = nI c) (hK : i 90 3 = nI q) (hb : c ≤ q) (hq1 : 1 ≤ q) (hq6 : q ≤ 6) {n : Nat} (hn : i 89 3 = nI n) (h6 : n ≤ 6)  : C g m_X7_publish (d + 3) 0 0 false [.ref 89] (mk i j) (rets (some (.int (mpb (msv (th i 0) n) c q 90 2))) (mk (mpb (msv (th i 0) n) c q) j)) := by
  refine C_of (L := [some (.ref 89)]) rfl ?_
  refine L_aload_n_0 dX7_publish_0 ?_
  refine V_iconst (v := 0) (by decide) dX7_publish_1 ?_
  refine U_putI dX7_publish_2 fl_RX7_19 rfl rfl rfl ?_
  refine L_aload_n_0 dX7_publish_5 ?_
  refine U_cv1 (d := d + 2) (lkR_RX7_99 rfl dX7_publish_6) (k_X7_canPublish _) ⟨pn_X7_canPublish, rfl, (Nat.le_of_ble_eq_true rfl), (Nat.le_of_ble_eq_true rfl), rfl⟩ (⟨_, _, rfl, rfl, rfl⟩) (cfS cf7) (Nat.le_of_ble_eq_true rfl) ?_
  refine V_ifx_ne (tgt := 18) dX7_publish_9 (by decide) (fun h9 => ?_) (fun h9 => ?_)
  · refine L_aload_n_0 dX7_publish_18 ?_
    refine U_cV1 (d := d + 2) (lkR_RX7_93 rfl dX7_publish_19) (k_X7_save _ (thn hn) h6) ⟨pn_X7_save, rfl, (Nat.le_of_ble_eq_true rfl), (Nat.le_of_ble_eq_true rfl), rfl⟩ (⟨_, _, rfl, rfl, rfl⟩) (cfS cf7) (Nat.le_of_ble_eq_true rfl) ?_
    refine L_aload_n_0 dX7_publish_22 ?_
    refine U_cv1 (d := d + 2) (lkR_RX7_103 rfl dX7_publish_23) (k_X7_publishes _ (msc hc) (msc hK) hb hq1 hq6) ⟨pn_X7_publishes, rfl, (Nat.le_of_ble_eq_true rfl), (Nat.le_of_ble_eq_true rfl), rfl⟩ (⟨_, _, rfl, rfl, rfl⟩) (cfS cf7) (Nat.le_of_ble_eq_true rfl) ?_
    exact V_iret dX7_publish_26 rfl rfl (⟨rfl, rfl⟩)
  · exact absurd hm (b2z.mp h9)
theorem k_X7_publish__1 {g : G0} {j : Nat → Nat → Int64} (d : Nat) {i : Nat → Nat → Int32} (hm : i 90 0 = i 90 1)  : C g m_X7_publish (d + 1) 0 0 false [.ref 89] (mk i j) (rets (some (.int 0)) (mk (th (th i 0) 1) j)) := by
  refine C_of (L := [some (.ref 89)]) rfl ?_
  refine L_aload_n_0 dX7_publish_0 ?_
  refine V_iconst (v := 0) (by decide) dX7_publish_1 ?_
  refine U_putI dX7_publish_2 fl_RX7_19 rfl rfl rfl ?_
  refine L_aload_n_0 dX7_publish_5 ?_
  refine U_cv1 (d := d + 0) (lkR_RX7_99 rfl dX7_publish_6) (k_X7_canPublish _) ⟨pn_X7_canPublish, rfl, (Nat.le_of_ble_eq_true rfl), (Nat.le_of_ble_eq_true rfl), rfl⟩ (⟨_, _, rfl, rfl, rfl⟩) (cfS cf7) (Nat.le_of_ble_eq_true rfl) ?_
  refine V_ifx_ne (tgt := 18) dX7_publish_9 (by decide) (fun h9 => ?_) (fun h9 => ?_)
  · exact absurd hm (b2p h9)
  · refine L_aload_n_0 dX7_publish_12 ?_
    refine V_iconst (v := 1) (by decide) dX7_publish_13 ?_
    refine U_cv2 (d := d + 0) (lkR_RX7_30 rfl dX7_publish_14) (k_X7_fails _) ⟨pn_X7_fails, rfl, (Nat.le_of_ble_eq_true rfl), (Nat.le_of_ble_eq_true rfl), rfl⟩ (⟨_, _, rfl, rfl, rfl⟩) (cfS cf7) (Nat.le_of_ble_eq_true rfl) ?_
    exact V_iret dX7_publish_17 rfl rfl (⟨rfl, rfl⟩)
theorem k_X7_renumber {g : G0} {j : Nat → Nat → Int64} (d : Nat) {i : Nat → Nat → Int32} {x : Int32} (hm : wit x 0 15 ∧ ¬ x = i 90 2) {n : Nat} (hn : i 89 3 = nI n) (h6 : n ≤ 6)  : C g m_X7_renumber (d + 3) 0 0 false [.ref 89, .int x] (mk i j) (rets (some (.int (msv (th i 0) n 90 2))) (mk (mrn (msv (th i 0) n) x) j)) := by
  refine C_of (L := [some (.ref 89), some (.int x)]) rfl ?_
  refine L_aload_n_0 dX7_renumber_0 ?_
  refine V_iconst (v := 0) (by decide) dX7_renumber_1 ?_
  refine U_putI dX7_renumber_2 fl_RX7_19 rfl rfl rfl ?_
  refine L_aload_n_0 dX7_renumber_5 ?_
  refine L_iload_n_1 dX7_renumber_6 ?_
  refine U_cv2 (d := d + 2) (lkR_RX7_106 rfl dX7_renumber_7) (k_X7_canRenumber _) ⟨pn_X7_canRenumber, rfl, (Nat.le_of_ble_eq_true rfl), (Nat.le_of_ble_eq_true rfl), rfl⟩ (⟨_, _, rfl, rfl, rfl⟩) (cfS cf7) (Nat.le_of_ble_eq_true rfl) ?_
  refine V_ifx_ne (tgt := 19) dX7_renumber_10 (by decide) (fun h10 => ?_) (fun h10 => ?_)
  · refine L_aload_n_0 dX7_renumber_19 ?_
    refine U_cV1 (d := d + 2) (lkR_RX7_93 rfl dX7_renumber_20) (k_X7_save _ (thn hn) h6) ⟨pn_X7_save, rfl, (Nat.le_of_ble_eq_true rfl), (Nat.le_of_ble_eq_true rfl), rfl⟩ (⟨_, _, rfl, rfl, rfl⟩) (cfS cf7) (Nat.le_of_ble_eq_true rfl) ?_
    refine L_aload_n_0 dX7_renumber_23 ?_
    refine L_iload_n_1 dX7_renumber_24 ?_
    refine U_cv2 (d := d + 2) (lkR_RX7_109 rfl dX7_renumber_25) (k_X7_renumbers _) ⟨pn_X7_renumbers, rfl, (Nat.le_of_ble_eq_true rfl), (Nat.le_of_ble_eq_true rfl), rfl⟩ (⟨_, _, rfl, rfl, rfl⟩) (cfS cf7) (Nat.le_of_ble_eq_true rfl) ?_
    exact V_iret dX7_renumber_28 rfl rfl (⟨rfl, rfl⟩)
  · exact absurd hm (b2z.mp h10)
theorem k_X7_renumber__1 {g : G0} {j : Nat → Nat → Int64} (d : Nat) {i : Nat → Nat → Int32} {x : Int32} (hm : ¬ (wit x 0 15 ∧ ¬ x = i 90 2))  : C g m_X7_renumber (d + 3) 0 0 false [.ref 89, .int x] (mk i j) (rets (some (.int 0)) (mk (th (th i 0) 1) j)) := by
  refine C_of (L := [some (.ref 89), some (.int x)]) rfl ?_
  refine L_aload_n_0 dX7_renumber_0 ?_
  refine V_iconst (v := 0) (by decide) dX7_renumber_1 ?_
  refine U_putI dX7_renumber_2 fl_RX7_19 rfl rfl rfl ?_
  refine L_aload_n_0 dX7_renumber_5 ?_
  refine L_iload_n_1 dX7_renumber_6 ?_
  refine U_cv2 (d := d + 2) (lkR_RX7_106 rfl dX7_renumber_7) (k_X7_canRenumber _) ⟨pn_X7_canRenumber, rfl, (Nat.le_of_ble_eq_true rfl), (Nat.le_of_ble_eq_true rfl), rfl⟩ (⟨_, _, rfl, rfl, rfl⟩) (cfS cf7) (Nat.le_of_ble_eq_true rfl) ?_
  refine V_ifx_ne (tgt := 19) dX7_renumber_10 (by decide) (fun h10 => ?_) (fun h10 => ?_)
  · exact absurd (b2p h10) hm
  · refine L_aload_n_0 dX7_renumber_13 ?_
    refine V_iconst (v := 1) (by decide) dX7_renumber_14 ?_
    refine U_cv2 (d := d + 2) (lkR_RX7_30 rfl dX7_renumber_15) (k_X7_fails _) ⟨pn_X7_fails, rfl, (Nat.le_of_ble_eq_true rfl), (Nat.le_of_ble_eq_true rfl), rfl⟩ (⟨_, _, rfl, rfl, rfl⟩) (cfS cf7) (Nat.le_of_ble_eq_true rfl) ?_
    exact V_iret dX7_renumber_18 rfl rfl (⟨rfl, rfl⟩)
def msk (q : Nat) : Nat → (Nat → Nat → Int32) → Nat → Nat → Int32
  | 0, i => i
  | c + 1, i => if q < c + 1 then msk q c (mdr i c) else i
theorem msk_4 {q : Nat} : ∀ (c : Nat) (i : Nat → Nat → Int32), i 90 4 = nI c → msk q c i 90 4 = nI (if q < c then q else c)
  | 0, i, h => by unfold msk; rw [h]; congr 1
  | c + 1, i, h => by
    unfold msk
    split
    · rename_i h2
      rw [msk_4 c _ mdr_4]
      congr 1
      by_cases h3 : q < c
      · rw [if_pos h3]
      · rw [if_neg h3]; omega
    · exact h
theorem k_X7_setKeep {g : G0} {j : Nat → Nat → Int64} (d : Nat) {i : Nat → Nat → Int32} {c0 q : Nat} (hc : i 90 4 = nI c0) (hb : c0 ≤ 6) (hq1 : 1 ≤ q) (hq6 : q ≤ 6) {n : Nat} (hn : i 89 3 = nI n) (h6 : n ≤ 6)  : C g m_X7_setKeep (d + 1) 0 0 false [.ref 89, .int (nI q)] (mk i j) (rets (some (.int (msk q c0 (up2 (msv (th i 0) n) 90 3 (nI q)) 90 4))) (mk (msk q c0 (up2 (msv (th i 0) n) 90 3 (nI q))) j)) := by
  refine C_of (L := [some (.ref 89), some (.int (nI q))]) rfl ?_
  have loop : ∀ (c : Nat) (p : Nat → Nat → Int32), c ≤ 6 → p 90 4 = nI c → msk q c p = msk q c0 (up2 (msv (th i 0) n) 90 3 (nI q)) → V g m_X7_setKeep (d + 1) 0 0 false (Kp g false (rets (some (.int (msk q c0 (up2 (msv (th i 0) n) 90 3 (nI q)) 90 4))) (mk (msk q c0 (up2 (msv (th i 0) n) 90 3 (nI q))) j))) 32 [some (.ref 89), some (.int (nI q))] [] (mk p j) := by
    intro c
    induction c with
    | zero =>
      intro p hc6 hp he
      have hpp : p = msk q c0 (up2 (msv (th i 0) n) 90 3 (nI q)) := he
      refine L_aload_n_0 dX7_setKeep_32 ?_
      refine U_getR (r := 90) dX7_setKeep_33 fl_RX7_7 rfl rfl rfl ?_
      refine V_iconst (v := 4) (by decide) dX7_setKeep_36 ?_
      refine U_iald (n := 4) dX7_setKeep_37 rfl (rfl) (by decide) (by decide) ?_
      refine V_eqv (y := nI 0) hp ?_
      refine L_iload_n_1 dX7_setKeep_38 ?_
      refine V_icmp_le (tgt := 49) dX7_setKeep_39 (by decide) (fun h39 => ?_) (fun h39 => ?_)
      · refine L_aload_n_0 dX7_setKeep_49 ?_
        refine U_getR (r := 90) dX7_setKeep_50 fl_RX7_7 rfl rfl rfl ?_
        refine V_iconst (v := 4) (by decide) dX7_setKeep_53 ?_
        refine U_iald (n := 4) dX7_setKeep_54 rfl (rfl) (by decide) (by decide) ?_
        exact V_iret dX7_setKeep_55 rfl rfl (by rw [← hpp]; exact ⟨rfl, rfl⟩)
      · exact absurd ((nI_leI (a := 0) (b := q) (by omega) (by omega)).mpr (by omega)) h39
    | succ c ih =>
      intro p hc6 hp he
      by_cases hq : q < c + 1
      · refine L_aload_n_0 dX7_setKeep_32 ?_
        refine U_getR (r := 90) dX7_setKeep_33 fl_RX7_7 rfl rfl rfl ?_
        refine V_iconst (v := 4) (by decide) dX7_setKeep_36 ?_
        refine U_iald (n := 4) dX7_setKeep_37 rfl (rfl) (by decide) (by decide) ?_
        refine V_eqv (y := nI (c + 1)) hp ?_
        refine L_iload_n_1 dX7_setKeep_38 ?_
        refine V_icmp_le (tgt := 49) dX7_setKeep_39 (by decide) (fun h39 => ?_) (fun h39 => ?_)
        · exact absurd ((nI_leI (a := c + 1) (b := q) (by omega) (by omega)).mp h39) (by omega)
        · refine L_aload_n_0 dX7_setKeep_42 ?_
          refine U_cV1 (d := d + 0) (lkR_RX7_74 rfl dX7_setKeep_43) (k_X7_dropOldest _ hp (by omega)) ⟨pn_X7_dropOldest, rfl, (Nat.le_of_ble_eq_true rfl), (Nat.le_of_ble_eq_true rfl), rfl⟩ (⟨_, _, rfl, rfl, rfl⟩) (cfS cf7) (Nat.le_of_ble_eq_true rfl) ?_
          refine V_goto (tgt := 32) dX7_setKeep_46 (by decide) ?_
          exact ih (mdr p c) (by omega) mdr_4 (by rw [← he]; show _ = (if _ then _ else _); rw [if_pos hq])
      · have hpp : p = msk q c0 (up2 (msv (th i 0) n) 90 3 (nI q)) := by
          rw [← he]; show _ = (if _ then _ else _); rw [if_neg hq]
        refine L_aload_n_0 dX7_setKeep_32 ?_
        refine U_getR (r := 90) dX7_setKeep_33 fl_RX7_7 rfl rfl rfl ?_
        refine V_iconst (v := 4) (by decide) dX7_setKeep_36 ?_
        refine U_iald (n := 4) dX7_setKeep_37 rfl (rfl) (by decide) (by decide) ?_
        refine V_eqv (y := nI (c + 1)) hp ?_
        refine L_iload_n_1 dX7_setKeep_38 ?_
        refine V_icmp_le (tgt := 49) dX7_setKeep_39 (by decide) (fun h39 => ?_) (fun h39 => ?_)
        · refine L_aload_n_0 dX7_setKeep_49 ?_
          refine U_getR (r := 90) dX7_setKeep_50 fl_RX7_7 rfl rfl rfl ?_
          refine V_iconst (v := 4) (by decide) dX7_setKeep_53 ?_
          refine U_iald (n := 4) dX7_setKeep_54 rfl (rfl) (by decide) (by decide) ?_
          exact V_iret dX7_setKeep_55 rfl rfl (by rw [← hpp]; exact ⟨rfl, rfl⟩)
        · exact absurd ((nI_leI (a := c + 1) (b := q) (by omega) (by omega)).mpr (by omega)) h39
  refine L_aload_n_0 dX7_setKeep_0 ?_
  refine V_iconst (v := 0) (by decide) dX7_setKeep_1 ?_
  refine U_putI dX7_setKeep_2 fl_RX7_19 rfl rfl rfl ?_
  refine L_iload_n_1 dX7_setKeep_5 ?_
  refine V_iconst (v := 1) (by decide) dX7_setKeep_6 ?_
  refine V_bipush (v := 6) (by decide) dX7_setKeep_7 ?_
  refine U_cv3 (d := d + 0) (lkR_RX7_23 rfl dX7_setKeep_9) (k_X7_within _) ⟨pn_X7_within, rfl, (Nat.le_of_ble_eq_true rfl), (Nat.le_of_ble_eq_true rfl), rfl⟩ (trivial) cfn (Nat.le_of_ble_eq_true rfl) ?_
  refine V_ifx_ne (tgt := 21) dX7_setKeep_12 (by decide) (fun h12 => ?_) (fun h12 => ?_)
  · refine L_aload_n_0 dX7_setKeep_21 ?_
    refine U_cV1 (d := d + 0) (lkR_RX7_93 rfl dX7_setKeep_22) (k_X7_save _ (thn hn) h6) ⟨pn_X7_save, rfl, (Nat.le_of_ble_eq_true rfl), (Nat.le_of_ble_eq_true rfl), rfl⟩ (⟨_, _, rfl, rfl, rfl⟩) (cfS cf7) (Nat.le_of_ble_eq_true rfl) ?_
    refine L_aload_n_0 dX7_setKeep_25 ?_
    refine U_getR (r := 90) dX7_setKeep_26 fl_RX7_7 rfl rfl rfl ?_
    refine V_iconst (v := 3) (by decide) dX7_setKeep_29 ?_
    refine L_iload_n_1 dX7_setKeep_30 ?_
    refine U_iast (n := 3) dX7_setKeep_31 rfl (rfl) (by decide) (by decide) ?_
    exact loop c0 _ hb ((up2_nf (by omega)).trans (msc hc)) rfl
  · exact absurd (show wit (nI q) 1 6 from ⟨fun z => absurd ((nI_ltI (a := q) (b := 1) (by omega) (by omega)).mp z) (by omega), fun z => absurd ((nI_ltI (a := 6) (b := q) (by omega) (by omega)).mp z) (by omega)⟩) (b2z.mp h12)
theorem k_X7_setKeep__1 {g : G0} {j : Nat → Nat → Int64} (d : Nat) {i : Nat → Nat → Int32} {x : Int32} (hs : ¬ wit x 1 6)  : C g m_X7_setKeep (d + 1) 0 0 false [.ref 89, .int x] (mk i j) (rets (some (.int 0)) (mk (th (th i 0) 1) j)) := by
  refine C_of (L := [some (.ref 89), some (.int x)]) rfl ?_
  refine L_aload_n_0 dX7_setKeep_0 ?_
  refine V_iconst (v := 0) (by decide) dX7_setKeep_1 ?_
  refine U_putI dX7_setKeep_2 fl_RX7_19 rfl rfl rfl ?_
  refine L_iload_n_1 dX7_setKeep_5 ?_
  refine V_iconst (v := 1) (by decide) dX7_setKeep_6 ?_
  refine V_bipush (v := 6) (by decide) dX7_setKeep_7 ?_
  refine U_cv3 (d := d + 0) (lkR_RX7_23 rfl dX7_setKeep_9) (k_X7_within _) ⟨pn_X7_within, rfl, (Nat.le_of_ble_eq_true rfl), (Nat.le_of_ble_eq_true rfl), rfl⟩ (trivial) cfn (Nat.le_of_ble_eq_true rfl) ?_
  refine V_ifx_ne (tgt := 21) dX7_setKeep_12 (by decide) (fun h12 => ?_) (fun h12 => ?_)
  · exact absurd (b2p h12) hs
  · refine L_aload_n_0 dX7_setKeep_15 ?_
    refine V_iconst (v := 1) (by decide) dX7_setKeep_16 ?_
    refine U_cv2 (d := d + 0) (lkR_RX7_30 rfl dX7_setKeep_17) (k_X7_fails _) ⟨pn_X7_fails, rfl, (Nat.le_of_ble_eq_true rfl), (Nat.le_of_ble_eq_true rfl), rfl⟩ (⟨_, _, rfl, rfl, rfl⟩) (cfS cf7) (Nat.le_of_ble_eq_true rfl) ?_
    exact V_iret dX7_setKeep_20 rfl rfl (⟨rfl, rfl⟩)
theorem k_X7_edition {g : G0} {j : Nat → Nat → Int64} (d : Nat) {i : Nat → Nat → Int32}  : C g m_X7_edition (d + 0) 0 0 false [.ref 89] (mk i j) (rets (some (.int (i 90 2))) (mk (th i 0) j)) := by
  refine C_of (L := [some (.ref 89)]) rfl ?_
  refine L_aload_n_0 dX7_edition_0 ?_
  refine V_iconst (v := 0) (by decide) dX7_edition_1 ?_
  refine U_putI dX7_edition_2 fl_RX7_19 rfl rfl rfl ?_
  refine L_aload_n_0 dX7_edition_5 ?_
  refine U_getR (r := 90) dX7_edition_6 fl_RX7_7 rfl rfl rfl ?_
  refine V_iconst (v := 2) (by decide) dX7_edition_9 ?_
  refine U_iald (n := 2) dX7_edition_10 rfl (rfl) (by decide) (by decide) ?_
  exact V_iret dX7_edition_11 rfl rfl (⟨rfl, rfl⟩)
theorem k_X7_draft {g : G0} {j : Nat → Nat → Int64} (d : Nat) {i : Nat → Nat → Int32}  : C g m_X7_draft (d + 1) 0 0 false [.ref 89] (mk i j) (rets (some (.int (one (i 90 0)))) (mk (th i 0) j)) := by
  refine C_of (L := [some (.ref 89)]) rfl ?_
  refine L_aload_n_0 dX7_draft_0 ?_
  refine V_iconst (v := 0) (by decide) dX7_draft_1 ?_
  refine U_putI dX7_draft_2 fl_RX7_19 rfl rfl rfl ?_
  refine L_aload_n_0 dX7_draft_5 ?_
  refine U_getR (r := 90) dX7_draft_6 fl_RX7_7 rfl rfl rfl ?_
  refine V_iconst (v := 0) (by decide) dX7_draft_9 ?_
  refine U_iald (n := 0) dX7_draft_10 rfl (rfl) (by decide) (by decide) ?_
  refine U_cv1 (d := d + 0) (lkR_RX7_45 rfl dX7_draft_11) (k_X7_ones _) ⟨pn_X7_ones, rfl, (Nat.le_of_ble_eq_true rfl), (Nat.le_of_ble_eq_true rfl), rfl⟩ (trivial) cfn (Nat.le_of_ble_eq_true rfl) ?_
  exact V_iret dX7_draft_14 rfl rfl (⟨rfl, rfl⟩)
theorem k_X7_published {g : G0} {j : Nat → Nat → Int64} (d : Nat) {i : Nat → Nat → Int32}  : C g m_X7_published (d + 1) 0 0 false [.ref 89] (mk i j) (rets (some (.int (one (i 90 1)))) (mk (th i 0) j)) := by
  refine C_of (L := [some (.ref 89)]) rfl ?_
  refine L_aload_n_0 dX7_published_0 ?_
  refine V_iconst (v := 0) (by decide) dX7_published_1 ?_
  refine U_putI dX7_published_2 fl_RX7_19 rfl rfl rfl ?_
  refine L_aload_n_0 dX7_published_5 ?_
  refine U_getR (r := 90) dX7_published_6 fl_RX7_7 rfl rfl rfl ?_
  refine V_iconst (v := 1) (by decide) dX7_published_9 ?_
  refine U_iald (n := 1) dX7_published_10 rfl (rfl) (by decide) (by decide) ?_
  refine U_cv1 (d := d + 0) (lkR_RX7_45 rfl dX7_published_11) (k_X7_ones _) ⟨pn_X7_ones, rfl, (Nat.le_of_ble_eq_true rfl), (Nat.le_of_ble_eq_true rfl), rfl⟩ (trivial) cfn (Nat.le_of_ble_eq_true rfl) ?_
  exact V_iret dX7_published_14 rfl rfl (⟨rfl, rfl⟩)
theorem k_X7_pending {g : G0} {j : Nat → Nat → Int64} (d : Nat) {i : Nat → Nat → Int32}  : C g m_X7_pending (d + 2) 0 0 false [.ref 89] (mk i j) (rets (some (.int (one (i 90 0 ^^^ i 90 1)))) (mk (th i 0) j)) := by
  refine C_of (L := [some (.ref 89)]) rfl ?_
  refine L_aload_n_0 dX7_pending_0 ?_
  refine V_iconst (v := 0) (by decide) dX7_pending_1 ?_
  refine U_putI dX7_pending_2 fl_RX7_19 rfl rfl rfl ?_
  refine L_aload_n_0 dX7_pending_5 ?_
  refine U_cv1 (d := d + 1) (lkR_RX7_115 rfl dX7_pending_6) (k_X7_unlike _) ⟨pn_X7_unlike, rfl, (Nat.le_of_ble_eq_true rfl), (Nat.le_of_ble_eq_true rfl), rfl⟩ (⟨_, _, rfl, rfl, rfl⟩) (cfS cf7) (Nat.le_of_ble_eq_true rfl) ?_
  exact V_iret dX7_pending_9 rfl rfl (⟨rfl, rfl⟩)
theorem k_X7_kept {g : G0} {j : Nat → Nat → Int64} (d : Nat) {i : Nat → Nat → Int32}  : C g m_X7_kept (d + 0) 0 0 false [.ref 89] (mk i j) (rets (some (.int (i 90 4))) (mk (th i 0) j)) := by
  refine C_of (L := [some (.ref 89)]) rfl ?_
  refine L_aload_n_0 dX7_kept_0 ?_
  refine V_iconst (v := 0) (by decide) dX7_kept_1 ?_
  refine U_putI dX7_kept_2 fl_RX7_19 rfl rfl rfl ?_
  refine L_aload_n_0 dX7_kept_5 ?_
  refine U_getR (r := 90) dX7_kept_6 fl_RX7_7 rfl rfl rfl ?_
  refine V_iconst (v := 4) (by decide) dX7_kept_9 ?_
  refine U_iald (n := 4) dX7_kept_10 rfl (rfl) (by decide) (by decide) ?_
  exact V_iret dX7_kept_11 rfl rfl (⟨rfl, rfl⟩)
theorem k_X7_savedStates {g : G0} {j : Nat → Nat → Int64} (d : Nat) {i : Nat → Nat → Int32}  : C g m_X7_savedStates (d + 0) 0 0 false [.ref 89] (mk i j) (rets (some (.int (i 89 3))) (mk (th i 0) j)) := by
  refine C_of (L := [some (.ref 89)]) rfl ?_
  refine L_aload_n_0 dX7_savedStates_0 ?_
  refine V_iconst (v := 0) (by decide) dX7_savedStates_1 ?_
  refine U_putI dX7_savedStates_2 fl_RX7_19 rfl rfl rfl ?_
  refine L_aload_n_0 dX7_savedStates_5 ?_
  refine U_getI dX7_savedStates_6 fl_RX7_27 rfl rfl ?_
  exact V_iret dX7_savedStates_9 rfl rfl (⟨rfl, rfl⟩)
theorem k_X7_where {g : G0} {j : Nat → Nat → Int64} (d : Nat) {i : Nat → Nat → Int32} {x : Int32} (hs : wit x 0 29)  : C g m_X7_where (d + 2) 0 0 false [.ref 89, .int x] (mk i j) (rets (some (.int (mtP i x))) (mk (th i 0) j)) := by
  refine C_of (L := [some (.ref 89), some (.int x)]) rfl ?_
  refine L_aload_n_0 dX7_where_0 ?_
  refine V_iconst (v := 0) (by decide) dX7_where_1 ?_
  refine U_putI dX7_where_2 fl_RX7_19 rfl rfl rfl ?_
  refine L_iload_n_1 dX7_where_5 ?_
  refine U_cv1 (d := d + 1) (lkR_RX7_87 rfl dX7_where_6) (k_X7_isStreet _) ⟨pn_X7_isStreet, rfl, (Nat.le_of_ble_eq_true rfl), (Nat.le_of_ble_eq_true rfl), rfl⟩ (trivial) cfn (Nat.le_of_ble_eq_true rfl) ?_
  refine V_ifx_eq (tgt := 20) dX7_where_9 (by decide) (fun h9 => ?_) (fun h9 => ?_)
  · exact absurd hs (b2z.mp h9)
  · refine L_aload_n_0 dX7_where_12 ?_
    refine L_iload_n_1 dX7_where_13 ?_
    refine U_cv2 (d := d + 1) (lkR_RX7_112 rfl dX7_where_14) (k_X7_tellsWhere _) ⟨pn_X7_tellsWhere, rfl, (Nat.le_of_ble_eq_true rfl), (Nat.le_of_ble_eq_true rfl), rfl⟩ (⟨_, _, rfl, rfl, rfl⟩) (cfS cf7) (Nat.le_of_ble_eq_true rfl) ?_
    refine V_goto (tgt := 25) dX7_where_17 (by decide) ?_
    exact V_iret dX7_where_25 rfl rfl (⟨rfl, rfl⟩)
theorem k_X7_where__1 {g : G0} {j : Nat → Nat → Int64} (d : Nat) {i : Nat → Nat → Int32} {x : Int32} (hs : ¬ wit x 0 29)  : C g m_X7_where (d + 2) 0 0 false [.ref 89, .int x] (mk i j) (rets (some (.int 0)) (mk (th (th i 0) 1) j)) := by
  refine C_of (L := [some (.ref 89), some (.int x)]) rfl ?_
  refine L_aload_n_0 dX7_where_0 ?_
  refine V_iconst (v := 0) (by decide) dX7_where_1 ?_
  refine U_putI dX7_where_2 fl_RX7_19 rfl rfl rfl ?_
  refine L_iload_n_1 dX7_where_5 ?_
  refine U_cv1 (d := d + 1) (lkR_RX7_87 rfl dX7_where_6) (k_X7_isStreet _) ⟨pn_X7_isStreet, rfl, (Nat.le_of_ble_eq_true rfl), (Nat.le_of_ble_eq_true rfl), rfl⟩ (trivial) cfn (Nat.le_of_ble_eq_true rfl) ?_
  refine V_ifx_eq (tgt := 20) dX7_where_9 (by decide) (fun h9 => ?_) (fun h9 => ?_)
  · refine L_aload_n_0 dX7_where_20 ?_
    refine V_iconst (v := 1) (by decide) dX7_where_21 ?_
    refine U_cv2 (d := d + 1) (lkR_RX7_30 rfl dX7_where_22) (k_X7_fails _) ⟨pn_X7_fails, rfl, (Nat.le_of_ble_eq_true rfl), (Nat.le_of_ble_eq_true rfl), rfl⟩ (⟨_, _, rfl, rfl, rfl⟩) (cfS cf7) (Nat.le_of_ble_eq_true rfl) ?_
    exact V_iret dX7_where_25 rfl rfl (⟨rfl, rfl⟩)
  · exact absurd (b2p h9) hs
theorem k_X7_from {g : G0} {j : Nat → Nat → Int64} (d : Nat) {i : Nat → Nat → Int32} {x : Int32} (hs : wit x 0 (i 90 4 - 1)) {k : Nat} (hx : x = nI k) (hk : k < 6)  : C g m_X7_from (d + 2) 0 0 false [.ref 89, .int x] (mk i j) (rets (some (.int (i 90 (6 + 3 * k + 0)))) (mk (th i 0) j)) := by
  refine C_of (L := [some (.ref 89), some (.int x)]) rfl ?_
  refine L_aload_n_0 dX7_from_0 ?_
  refine V_iconst (v := 0) (by decide) dX7_from_1 ?_
  refine U_putI dX7_from_2 fl_RX7_19 rfl rfl rfl ?_
  refine L_aload_n_0 dX7_from_5 ?_
  refine L_iload_n_1 dX7_from_6 ?_
  refine U_cv2 (d := d + 1) (lkR_RX7_118 rfl dX7_from_7) (k_X7_isDifference _) ⟨pn_X7_isDifference, rfl, (Nat.le_of_ble_eq_true rfl), (Nat.le_of_ble_eq_true rfl), rfl⟩ (⟨_, _, rfl, rfl, rfl⟩) (cfS cf7) (Nat.le_of_ble_eq_true rfl) ?_
  refine V_ifx_eq (tgt := 22) dX7_from_10 (by decide) (fun h10 => ?_) (fun h10 => ?_)
  · exact absurd hs (b2z.mp h10)
  · refine L_aload_n_0 dX7_from_13 ?_
    refine L_iload_n_1 dX7_from_14 ?_
    refine V_iconst (v := 0) (by decide) dX7_from_15 ?_
    refine U_cv3 (d := d + 1) (lkR_RX7_42 rfl dX7_from_16) (k_X7_ofDifference _ (f := k) (w := 0) hx rfl hk (by decide)) ⟨pn_X7_ofDifference, rfl, (Nat.le_of_ble_eq_true rfl), (Nat.le_of_ble_eq_true rfl), rfl⟩ (⟨_, _, rfl, rfl, rfl⟩) (cfS cf7) (Nat.le_of_ble_eq_true rfl) ?_
    refine V_goto (tgt := 27) dX7_from_19 (by decide) ?_
    exact V_iret dX7_from_27 rfl rfl (⟨rfl, rfl⟩)
theorem k_X7_from__1 {g : G0} {j : Nat → Nat → Int64} (d : Nat) {i : Nat → Nat → Int32} {x : Int32} (hs : ¬ wit x 0 (i 90 4 - 1))  : C g m_X7_from (d + 2) 0 0 false [.ref 89, .int x] (mk i j) (rets (some (.int 0)) (mk (th (th i 0) 1) j)) := by
  refine C_of (L := [some (.ref 89), some (.int x)]) rfl ?_
  refine L_aload_n_0 dX7_from_0 ?_
  refine V_iconst (v := 0) (by decide) dX7_from_1 ?_
  refine U_putI dX7_from_2 fl_RX7_19 rfl rfl rfl ?_
  refine L_aload_n_0 dX7_from_5 ?_
  refine L_iload_n_1 dX7_from_6 ?_
  refine U_cv2 (d := d + 1) (lkR_RX7_118 rfl dX7_from_7) (k_X7_isDifference _) ⟨pn_X7_isDifference, rfl, (Nat.le_of_ble_eq_true rfl), (Nat.le_of_ble_eq_true rfl), rfl⟩ (⟨_, _, rfl, rfl, rfl⟩) (cfS cf7) (Nat.le_of_ble_eq_true rfl) ?_
  refine V_ifx_eq (tgt := 22) dX7_from_10 (by decide) (fun h10 => ?_) (fun h10 => ?_)
  · refine L_aload_n_0 dX7_from_22 ?_
    refine V_iconst (v := 1) (by decide) dX7_from_23 ?_
    refine U_cv2 (d := d + 1) (lkR_RX7_30 rfl dX7_from_24) (k_X7_fails _) ⟨pn_X7_fails, rfl, (Nat.le_of_ble_eq_true rfl), (Nat.le_of_ble_eq_true rfl), rfl⟩ (⟨_, _, rfl, rfl, rfl⟩) (cfS cf7) (Nat.le_of_ble_eq_true rfl) ?_
    exact V_iret dX7_from_27 rfl rfl (⟨rfl, rfl⟩)
  · exact absurd (b2p h10) hs
theorem k_X7_cost {g : G0} {j : Nat → Nat → Int64} (d : Nat) {i : Nat → Nat → Int32} {x : Int32} (hs : wit x 0 (i 90 4 - 1)) {k : Nat} (hx : x = nI k) (hk : k < 6)  : C g m_X7_cost (d + 2) 0 0 false [.ref 89, .int x] (mk i j) (rets (some (.int (mco i k))) (mk (th i 0) j)) := by
  refine C_of (L := [some (.ref 89), some (.int x)]) rfl ?_
  refine L_aload_n_0 dX7_cost_0 ?_
  refine V_iconst (v := 0) (by decide) dX7_cost_1 ?_
  refine U_putI dX7_cost_2 fl_RX7_19 rfl rfl rfl ?_
  refine L_aload_n_0 dX7_cost_5 ?_
  refine L_iload_n_1 dX7_cost_6 ?_
  refine U_cv2 (d := d + 1) (lkR_RX7_118 rfl dX7_cost_7) (k_X7_isDifference _) ⟨pn_X7_isDifference, rfl, (Nat.le_of_ble_eq_true rfl), (Nat.le_of_ble_eq_true rfl), rfl⟩ (⟨_, _, rfl, rfl, rfl⟩) (cfS cf7) (Nat.le_of_ble_eq_true rfl) ?_
  refine V_ifx_eq (tgt := 21) dX7_cost_10 (by decide) (fun h10 => ?_) (fun h10 => ?_)
  · exact absurd hs (b2z.mp h10)
  · refine L_aload_n_0 dX7_cost_13 ?_
    refine L_iload_n_1 dX7_cost_14 ?_
    refine U_cv2 (d := d + 1) (lkR_RX7_48 rfl dX7_cost_15) (k_X7_costOf _ (f := k) hx hk) ⟨pn_X7_costOf, rfl, (Nat.le_of_ble_eq_true rfl), (Nat.le_of_ble_eq_true rfl), rfl⟩ (⟨_, _, rfl, rfl, rfl⟩) (cfS cf7) (Nat.le_of_ble_eq_true rfl) ?_
    refine V_goto (tgt := 26) dX7_cost_18 (by decide) ?_
    exact V_iret dX7_cost_26 rfl rfl (⟨rfl, rfl⟩)
theorem k_X7_cost__1 {g : G0} {j : Nat → Nat → Int64} (d : Nat) {i : Nat → Nat → Int32} {x : Int32} (hs : ¬ wit x 0 (i 90 4 - 1))  : C g m_X7_cost (d + 2) 0 0 false [.ref 89, .int x] (mk i j) (rets (some (.int 0)) (mk (th (th i 0) 1) j)) := by
  refine C_of (L := [some (.ref 89), some (.int x)]) rfl ?_
  refine L_aload_n_0 dX7_cost_0 ?_
  refine V_iconst (v := 0) (by decide) dX7_cost_1 ?_
  refine U_putI dX7_cost_2 fl_RX7_19 rfl rfl rfl ?_
  refine L_aload_n_0 dX7_cost_5 ?_
  refine L_iload_n_1 dX7_cost_6 ?_
  refine U_cv2 (d := d + 1) (lkR_RX7_118 rfl dX7_cost_7) (k_X7_isDifference _) ⟨pn_X7_isDifference, rfl, (Nat.le_of_ble_eq_true rfl), (Nat.le_of_ble_eq_true rfl), rfl⟩ (⟨_, _, rfl, rfl, rfl⟩) (cfS cf7) (Nat.le_of_ble_eq_true rfl) ?_
  refine V_ifx_eq (tgt := 21) dX7_cost_10 (by decide) (fun h10 => ?_) (fun h10 => ?_)
  · refine L_aload_n_0 dX7_cost_21 ?_
    refine V_iconst (v := 1) (by decide) dX7_cost_22 ?_
    refine U_cv2 (d := d + 1) (lkR_RX7_30 rfl dX7_cost_23) (k_X7_fails _) ⟨pn_X7_fails, rfl, (Nat.le_of_ble_eq_true rfl), (Nat.le_of_ble_eq_true rfl), rfl⟩ (⟨_, _, rfl, rfl, rfl⟩) (cfS cf7) (Nat.le_of_ble_eq_true rfl) ?_
    exact V_iret dX7_cost_26 rfl rfl (⟨rfl, rfl⟩)
  · exact absurd (b2p h10) hs
theorem k_X7_compare {g : G0} {j : Nat → Nat → Int64} (d : Nat) {i : Nat → Nat → Int32} {x y : Int32} (hs : wit x 0 15) (ht : wit y 0 15)  : C g m_X7_compare (d + 2) 0 0 false [.ref 89, .int x, .int y] (mk i j) (rets (some (.int (ordI x y))) (mk (th i 0) j)) := by
  refine C_of (L := [some (.ref 89), some (.int x), some (.int y)]) rfl ?_
  refine L_aload_n_0 dX7_compare_0 ?_
  refine V_iconst (v := 0) (by decide) dX7_compare_1 ?_
  refine U_putI dX7_compare_2 fl_RX7_19 rfl rfl rfl ?_
  refine L_iload_n_1 dX7_compare_5 ?_
  refine U_cv1 (d := d + 1) (lkR_RX7_80 rfl dX7_compare_6) (k_X7_isEdition _) ⟨pn_X7_isEdition, rfl, (Nat.le_of_ble_eq_true rfl), (Nat.le_of_ble_eq_true rfl), rfl⟩ (trivial) cfn (Nat.le_of_ble_eq_true rfl) ?_
  refine V_ifx_eq (tgt := 27) dX7_compare_9 (by decide) (fun h9 => ?_) (fun h9 => ?_)
  · exact absurd hs (b2z.mp h9)
  · refine L_iload_n_2 dX7_compare_12 ?_
    refine U_cv1 (d := d + 1) (lkR_RX7_80 rfl dX7_compare_13) (k_X7_isEdition _) ⟨pn_X7_isEdition, rfl, (Nat.le_of_ble_eq_true rfl), (Nat.le_of_ble_eq_true rfl), rfl⟩ (trivial) cfn (Nat.le_of_ble_eq_true rfl) ?_
    refine V_ifx_eq (tgt := 27) dX7_compare_16 (by decide) (fun h16 => ?_) (fun h16 => ?_)
    · exact absurd ht (b2z.mp h16)
    · refine L_iload_n_1 dX7_compare_19 ?_
      refine L_iload_n_2 dX7_compare_20 ?_
      refine U_cv2 (d := d + 1) (lkR_RX7_51 rfl dX7_compare_21) (k_X7_order _) ⟨pn_X7_order, rfl, (Nat.le_of_ble_eq_true rfl), (Nat.le_of_ble_eq_true rfl), rfl⟩ (trivial) cfn (Nat.le_of_ble_eq_true rfl) ?_
      refine V_goto (tgt := 32) dX7_compare_24 (by decide) ?_
      exact V_iret dX7_compare_32 rfl rfl (⟨rfl, rfl⟩)
theorem k_X7_compare__1 {g : G0} {j : Nat → Nat → Int64} (d : Nat) {i : Nat → Nat → Int32} {x y : Int32} (hs : ¬ (wit x 0 15 ∧ wit y 0 15))  : C g m_X7_compare (d + 2) 0 0 false [.ref 89, .int x, .int y] (mk i j) (rets (some (.int 0)) (mk (th (th i 0) 1) j)) := by
  refine C_of (L := [some (.ref 89), some (.int x), some (.int y)]) rfl ?_
  refine L_aload_n_0 dX7_compare_0 ?_
  refine V_iconst (v := 0) (by decide) dX7_compare_1 ?_
  refine U_putI dX7_compare_2 fl_RX7_19 rfl rfl rfl ?_
  refine L_iload_n_1 dX7_compare_5 ?_
  refine U_cv1 (d := d + 1) (lkR_RX7_80 rfl dX7_compare_6) (k_X7_isEdition _) ⟨pn_X7_isEdition, rfl, (Nat.le_of_ble_eq_true rfl), (Nat.le_of_ble_eq_true rfl), rfl⟩ (trivial) cfn (Nat.le_of_ble_eq_true rfl) ?_
  refine V_ifx_eq (tgt := 27) dX7_compare_9 (by decide) (fun h9 => ?_) (fun h9 => ?_)
  · refine L_aload_n_0 dX7_compare_27 ?_
    refine V_iconst (v := 1) (by decide) dX7_compare_28 ?_
    refine U_cv2 (d := d + 1) (lkR_RX7_30 rfl dX7_compare_29) (k_X7_fails _) ⟨pn_X7_fails, rfl, (Nat.le_of_ble_eq_true rfl), (Nat.le_of_ble_eq_true rfl), rfl⟩ (⟨_, _, rfl, rfl, rfl⟩) (cfS cf7) (Nat.le_of_ble_eq_true rfl) ?_
    exact V_iret dX7_compare_32 rfl rfl (⟨rfl, rfl⟩)
  · refine L_iload_n_2 dX7_compare_12 ?_
    refine U_cv1 (d := d + 1) (lkR_RX7_80 rfl dX7_compare_13) (k_X7_isEdition _) ⟨pn_X7_isEdition, rfl, (Nat.le_of_ble_eq_true rfl), (Nat.le_of_ble_eq_true rfl), rfl⟩ (trivial) cfn (Nat.le_of_ble_eq_true rfl) ?_
    refine V_ifx_eq (tgt := 27) dX7_compare_16 (by decide) (fun h16 => ?_) (fun h16 => ?_)
    · refine L_aload_n_0 dX7_compare_27 ?_
      refine V_iconst (v := 1) (by decide) dX7_compare_28 ?_
      refine U_cv2 (d := d + 1) (lkR_RX7_30 rfl dX7_compare_29) (k_X7_fails _) ⟨pn_X7_fails, rfl, (Nat.le_of_ble_eq_true rfl), (Nat.le_of_ble_eq_true rfl), rfl⟩ (⟨_, _, rfl, rfl, rfl⟩) (cfS cf7) (Nat.le_of_ble_eq_true rfl) ?_
      exact V_iret dX7_compare_32 rfl rfl (⟨rfl, rfl⟩)
    · exact absurd ⟨b2p h9, b2p h16⟩ hs
