abbrev th (i : Nat → Nat → Int32) (x : Int32) : Nat → Nat → Int32 := up2 i 89 0 x
theorem thn {i : Nat → Nat → Int32} {n : Nat} (hn : i 89 3 = nI n) : th i 0 89 3 = nI n := (up2_nf (by omega)).trans hn
theorem thc {i : Nat → Nat → Int32} {c k : Nat} (hc : i 90 k = nI c) : th i 0 90 k = nI c := (up2_ne (by omega)).trans hc
theorem svC_oth {i : Nat → Nat → Int32} {n a f : Nat} (h : a ≠ 91 ∧ (a ≠ 89 ∨ f ≠ 3)) : svC i n a f = i a f := by
  unfold svC
  unfold up2
  rw [if_neg (by omega)]
  unfold cpW
  exact if_neg (by omega)
theorem msv_oth {i : Nat → Nat → Int32} {n a f : Nat} (h : a ≠ 91 ∧ (a ≠ 89 ∨ f ≠ 3)) : msv i n a f = i a f := by
  unfold msv
  split
  · exact svC_oth h
  · rw [svC_oth h]
    unfold up2
    rw [if_neg (by omega)]
    unfold shW
    exact if_neg (by omega)
theorem msc {i : Nat → Nat → Int32} {n c k : Nat} (hc : i 90 k = nI c) : msv (th i 0) n 90 k = nI c := (msv_oth ⟨by omega, by omega⟩).trans (thc hc)
theorem witq {x : Int32} {f b : Nat} (hx : x = nI f) (hf : f ≤ b) (hb : b < 2 ^ 31) : wit x 0 (nI b) := by
  subst hx
  exact ⟨nI_pos (by omega), fun z => absurd ((nI_ltI (a := b) (b := f) (by omega) (by omega)).mp z) (by omega)⟩
theorem k_X7_add {g : G0} {j : Nat → Nat → Int64} (d : Nat) {i : Nat → Nat → Int32} {x : Int32} (hs : wit x 0 29) (hm : mbt (i 90 0) x = 0) {n : Nat} (hn : i 89 3 = nI n) (h6 : n ≤ 6)  : C g m_X7_add (d + 2) 0 0 false [.ref 89, .int x] (mk i j) (rets (some (.int (one (mcd (msv (th i 0) n) x 90 0)))) (mk (mcd (msv (th i 0) n) x) j)) := by
  refine C_of (L := [some (.ref 89), some (.int x)]) rfl ?_
  refine L_aload_n_0 dX7_add_0 ?_
  refine V_iconst (v := 0) (by decide) dX7_add_1 ?_
  refine U_putI dX7_add_2 fl_RX7_19 rfl rfl rfl ?_
  refine L_iload_n_1 dX7_add_5 ?_
  refine U_cv1 (d := d + 1) (lkR_RX7_87 rfl dX7_add_6) (k_X7_isStreet _) ⟨pn_X7_isStreet, rfl, (Nat.le_of_ble_eq_true rfl), (Nat.le_of_ble_eq_true rfl), rfl⟩ (trivial) cfn (Nat.le_of_ble_eq_true rfl) ?_
  refine V_ifx_ne (tgt := 18) dX7_add_9 (by decide) (fun h9 => ?_) (fun h9 => ?_)
  · refine L_aload_n_0 dX7_add_18 ?_
    refine L_iload_n_1 dX7_add_19 ?_
    refine U_cv2 (d := d + 1) (lkR_RX7_90 rfl dX7_add_20) (k_X7_canAdd _) ⟨pn_X7_canAdd, rfl, (Nat.le_of_ble_eq_true rfl), (Nat.le_of_ble_eq_true rfl), rfl⟩ (⟨_, _, rfl, rfl, rfl⟩) (cfS cf7) (Nat.le_of_ble_eq_true rfl) ?_
    refine V_ifx_ne (tgt := 32) dX7_add_23 (by decide) (fun h23 => ?_) (fun h23 => ?_)
    · refine L_aload_n_0 dX7_add_32 ?_
      refine U_cV1 (d := d + 1) (lkR_RX7_93 rfl dX7_add_33) (k_X7_save _ (thn hn) h6) ⟨pn_X7_save, rfl, (Nat.le_of_ble_eq_true rfl), (Nat.le_of_ble_eq_true rfl), rfl⟩ (⟨_, _, rfl, rfl, rfl⟩) (cfS cf7) (Nat.le_of_ble_eq_true rfl) ?_
      refine L_aload_n_0 dX7_add_36 ?_
      refine L_iload_n_1 dX7_add_37 ?_
      refine U_cv2 (d := d + 1) (lkR_RX7_96 rfl dX7_add_38) (k_X7_changeDraft _) ⟨pn_X7_changeDraft, rfl, (Nat.le_of_ble_eq_true rfl), (Nat.le_of_ble_eq_true rfl), rfl⟩ (⟨_, _, rfl, rfl, rfl⟩) (cfS cf7) (Nat.le_of_ble_eq_true rfl) ?_
      exact V_iret dX7_add_41 rfl rfl (⟨rfl, rfl⟩)
    · exact absurd hm (b2z.mp h23)
  · exact absurd hs (b2z.mp h9)
theorem k_X7_add__1 {g : G0} {j : Nat → Nat → Int64} (d : Nat) {i : Nat → Nat → Int32} {x : Int32} (hs : ¬ wit x 0 29)  : C g m_X7_add (d + 2) 0 0 false [.ref 89, .int x] (mk i j) (rets (some (.int 0)) (mk (th (th i 0) 1) j)) := by
  refine C_of (L := [some (.ref 89), some (.int x)]) rfl ?_
  refine L_aload_n_0 dX7_add_0 ?_
  refine V_iconst (v := 0) (by decide) dX7_add_1 ?_
  refine U_putI dX7_add_2 fl_RX7_19 rfl rfl rfl ?_
  refine L_iload_n_1 dX7_add_5 ?_
  refine U_cv1 (d := d + 1) (lkR_RX7_87 rfl dX7_add_6) (k_X7_isStreet _) ⟨pn_X7_isStreet, rfl, (Nat.le_of_ble_eq_true rfl), (Nat.le_of_ble_eq_true rfl), rfl⟩ (trivial) cfn (Nat.le_of_ble_eq_true rfl) ?_
  refine V_ifx_ne (tgt := 18) dX7_add_9 (by decide) (fun h9 => ?_) (fun h9 => ?_)
  · exact absurd (b2p h9) hs
  · refine L_aload_n_0 dX7_add_12 ?_
    refine V_iconst (v := 1) (by decide) dX7_add_13 ?_
    refine U_cv2 (d := d + 1) (lkR_RX7_30 rfl dX7_add_14) (k_X7_fails _) ⟨pn_X7_fails, rfl, (Nat.le_of_ble_eq_true rfl), (Nat.le_of_ble_eq_true rfl), rfl⟩ (⟨_, _, rfl, rfl, rfl⟩) (cfS cf7) (Nat.le_of_ble_eq_true rfl) ?_
    exact V_iret dX7_add_17 rfl rfl (⟨rfl, rfl⟩)
theorem k_X7_add__2 {g : G0} {j : Nat → Nat → Int64} (d : Nat) {i : Nat → Nat → Int32} {x : Int32} (hs : wit x 0 29) (hm : ¬ mbt (i 90 0) x = 0)  : C g m_X7_add (d + 2) 0 0 false [.ref 89, .int x] (mk i j) (rets (some (.int 0)) (mk (th (th i 0) 2) j)) := by
  refine C_of (L := [some (.ref 89), some (.int x)]) rfl ?_
  refine L_aload_n_0 dX7_add_0 ?_
  refine V_iconst (v := 0) (by decide) dX7_add_1 ?_
  refine U_putI dX7_add_2 fl_RX7_19 rfl rfl rfl ?_
  refine L_iload_n_1 dX7_add_5 ?_
  refine U_cv1 (d := d + 1) (lkR_RX7_87 rfl dX7_add_6) (k_X7_isStreet _) ⟨pn_X7_isStreet, rfl, (Nat.le_of_ble_eq_true rfl), (Nat.le_of_ble_eq_true rfl), rfl⟩ (trivial) cfn (Nat.le_of_ble_eq_true rfl) ?_
  refine V_ifx_ne (tgt := 18) dX7_add_9 (by decide) (fun h9 => ?_) (fun h9 => ?_)
  · refine L_aload_n_0 dX7_add_18 ?_
    refine L_iload_n_1 dX7_add_19 ?_
    refine U_cv2 (d := d + 1) (lkR_RX7_90 rfl dX7_add_20) (k_X7_canAdd _) ⟨pn_X7_canAdd, rfl, (Nat.le_of_ble_eq_true rfl), (Nat.le_of_ble_eq_true rfl), rfl⟩ (⟨_, _, rfl, rfl, rfl⟩) (cfS cf7) (Nat.le_of_ble_eq_true rfl) ?_
    refine V_ifx_ne (tgt := 32) dX7_add_23 (by decide) (fun h23 => ?_) (fun h23 => ?_)
    · exact absurd (b2p h23) hm
    · refine L_aload_n_0 dX7_add_26 ?_
      refine V_iconst (v := 2) (by decide) dX7_add_27 ?_
      refine U_cv2 (d := d + 1) (lkR_RX7_30 rfl dX7_add_28) (k_X7_fails _) ⟨pn_X7_fails, rfl, (Nat.le_of_ble_eq_true rfl), (Nat.le_of_ble_eq_true rfl), rfl⟩ (⟨_, _, rfl, rfl, rfl⟩) (cfS cf7) (Nat.le_of_ble_eq_true rfl) ?_
      exact V_iret dX7_add_31 rfl rfl (⟨rfl, rfl⟩)
  · exact absurd hs (b2z.mp h9)
theorem k_X7_crossOut {g : G0} {j : Nat → Nat → Int64} (d : Nat) {i : Nat → Nat → Int32} {x : Int32} (hs : wit x 0 29) (hm : ¬ mbt (i 90 0) x = 0) {n : Nat} (hn : i 89 3 = nI n) (h6 : n ≤ 6)  : C g m_X7_crossOut (d + 2) 0 0 false [.ref 89, .int x] (mk i j) (rets (some (.int (one (mcd (msv (th i 0) n) x 90 0)))) (mk (mcd (msv (th i 0) n) x) j)) := by
  refine C_of (L := [some (.ref 89), some (.int x)]) rfl ?_
  refine L_aload_n_0 dX7_crossOut_0 ?_
  refine V_iconst (v := 0) (by decide) dX7_crossOut_1 ?_
  refine U_putI dX7_crossOut_2 fl_RX7_19 rfl rfl rfl ?_
  refine L_iload_n_1 dX7_crossOut_5 ?_
  refine U_cv1 (d := d + 1) (lkR_RX7_87 rfl dX7_crossOut_6) (k_X7_isStreet _) ⟨pn_X7_isStreet, rfl, (Nat.le_of_ble_eq_true rfl), (Nat.le_of_ble_eq_true rfl), rfl⟩ (trivial) cfn (Nat.le_of_ble_eq_true rfl) ?_
  refine V_ifx_ne (tgt := 18) dX7_crossOut_9 (by decide) (fun h9 => ?_) (fun h9 => ?_)
  · refine L_aload_n_0 dX7_crossOut_18 ?_
    refine L_iload_n_1 dX7_crossOut_19 ?_
    refine U_cv2 (d := d + 1) (lkR_RX7_90 rfl dX7_crossOut_20) (k_X7_canAdd _) ⟨pn_X7_canAdd, rfl, (Nat.le_of_ble_eq_true rfl), (Nat.le_of_ble_eq_true rfl), rfl⟩ (⟨_, _, rfl, rfl, rfl⟩) (cfS cf7) (Nat.le_of_ble_eq_true rfl) ?_
    refine V_ifx_eq (tgt := 32) dX7_crossOut_23 (by decide) (fun h23 => ?_) (fun h23 => ?_)
    · refine L_aload_n_0 dX7_crossOut_32 ?_
      refine U_cV1 (d := d + 1) (lkR_RX7_93 rfl dX7_crossOut_33) (k_X7_save _ (thn hn) h6) ⟨pn_X7_save, rfl, (Nat.le_of_ble_eq_true rfl), (Nat.le_of_ble_eq_true rfl), rfl⟩ (⟨_, _, rfl, rfl, rfl⟩) (cfS cf7) (Nat.le_of_ble_eq_true rfl) ?_
      refine L_aload_n_0 dX7_crossOut_36 ?_
      refine L_iload_n_1 dX7_crossOut_37 ?_
      refine U_cv2 (d := d + 1) (lkR_RX7_96 rfl dX7_crossOut_38) (k_X7_changeDraft _) ⟨pn_X7_changeDraft, rfl, (Nat.le_of_ble_eq_true rfl), (Nat.le_of_ble_eq_true rfl), rfl⟩ (⟨_, _, rfl, rfl, rfl⟩) (cfS cf7) (Nat.le_of_ble_eq_true rfl) ?_
      exact V_iret dX7_crossOut_41 rfl rfl (⟨rfl, rfl⟩)
    · exact absurd (b2p h23) hm
  · exact absurd hs (b2z.mp h9)
theorem k_X7_crossOut__1 {g : G0} {j : Nat → Nat → Int64} (d : Nat) {i : Nat → Nat → Int32} {x : Int32} (hs : ¬ wit x 0 29)  : C g m_X7_crossOut (d + 2) 0 0 false [.ref 89, .int x] (mk i j) (rets (some (.int 0)) (mk (th (th i 0) 1) j)) := by
  refine C_of (L := [some (.ref 89), some (.int x)]) rfl ?_
  refine L_aload_n_0 dX7_crossOut_0 ?_
  refine V_iconst (v := 0) (by decide) dX7_crossOut_1 ?_
  refine U_putI dX7_crossOut_2 fl_RX7_19 rfl rfl rfl ?_
  refine L_iload_n_1 dX7_crossOut_5 ?_
  refine U_cv1 (d := d + 1) (lkR_RX7_87 rfl dX7_crossOut_6) (k_X7_isStreet _) ⟨pn_X7_isStreet, rfl, (Nat.le_of_ble_eq_true rfl), (Nat.le_of_ble_eq_true rfl), rfl⟩ (trivial) cfn (Nat.le_of_ble_eq_true rfl) ?_
  refine V_ifx_ne (tgt := 18) dX7_crossOut_9 (by decide) (fun h9 => ?_) (fun h9 => ?_)
  · exact absurd (b2p h9) hs
  · refine L_aload_n_0 dX7_crossOut_12 ?_
    refine V_iconst (v := 1) (by decide) dX7_crossOut_13 ?_
    refine U_cv2 (d := d + 1) (lkR_RX7_30 rfl dX7_crossOut_14) (k_X7_fails _) ⟨pn_X7_fails, rfl, (Nat.le_of_ble_eq_true rfl), (Nat.le_of_ble_eq_true rfl), rfl⟩ (⟨_, _, rfl, rfl, rfl⟩) (cfS cf7) (Nat.le_of_ble_eq_true rfl) ?_
    exact V_iret dX7_crossOut_17 rfl rfl (⟨rfl, rfl⟩)
theorem k_X7_crossOut__2 {g : G0} {j : Nat → Nat → Int64} (d : Nat) {i : Nat → Nat → Int32} {x : Int32} (hs : wit x 0 29) (hm : mbt (i 90 0) x = 0)  : C g m_X7_crossOut (d + 2) 0 0 false [.ref 89, .int x] (mk i j) (rets (some (.int 0)) (mk (th (th i 0) 2) j)) := by
  refine C_of (L := [some (.ref 89), some (.int x)]) rfl ?_
  refine L_aload_n_0 dX7_crossOut_0 ?_
  refine V_iconst (v := 0) (by decide) dX7_crossOut_1 ?_
  refine U_putI dX7_crossOut_2 fl_RX7_19 rfl rfl rfl ?_
  refine L_iload_n_1 dX7_crossOut_5 ?_
  refine U_cv1 (d := d + 1) (lkR_RX7_87 rfl dX7_crossOut_6) (k_X7_isStreet _) ⟨pn_X7_isStreet, rfl, (Nat.le_of_ble_eq_true rfl), (Nat.le_of_ble_eq_true rfl), rfl⟩ (trivial) cfn (Nat.le_of_ble_eq_true rfl) ?_
  refine V_ifx_ne (tgt := 18) dX7_crossOut_9 (by decide) (fun h9 => ?_) (fun h9 => ?_)
  · refine L_aload_n_0 dX7_crossOut_18 ?_
    refine L_iload_n_1 dX7_crossOut_19 ?_
    refine U_cv2 (d := d + 1) (lkR_RX7_90 rfl dX7_crossOut_20) (k_X7_canAdd _) ⟨pn_X7_canAdd, rfl, (Nat.le_of_ble_eq_true rfl), (Nat.le_of_ble_eq_true rfl), rfl⟩ (⟨_, _, rfl, rfl, rfl⟩) (cfS cf7) (Nat.le_of_ble_eq_true rfl) ?_
    refine V_ifx_eq (tgt := 32) dX7_crossOut_23 (by decide) (fun h23 => ?_) (fun h23 => ?_)
    · exact absurd hm (b2z.mp h23)
    · refine L_aload_n_0 dX7_crossOut_26 ?_
      refine V_iconst (v := 2) (by decide) dX7_crossOut_27 ?_
      refine U_cv2 (d := d + 1) (lkR_RX7_30 rfl dX7_crossOut_28) (k_X7_fails _) ⟨pn_X7_fails, rfl, (Nat.le_of_ble_eq_true rfl), (Nat.le_of_ble_eq_true rfl), rfl⟩ (⟨_, _, rfl, rfl, rfl⟩) (cfS cf7) (Nat.le_of_ble_eq_true rfl) ?_
      exact V_iret dX7_crossOut_31 rfl rfl (⟨rfl, rfl⟩)
  · exact absurd hs (b2z.mp h9)
theorem k_X7_publish {g : G0} {j : Nat → Nat → Int64} (d : Nat) {i : Nat → Nat → Int32} (hm : ¬ i 90 0 = i 90 1) {c q : Nat} (hc : i 90 4 = nI c) (hK : i 90 3 = nI q) (hb : c ≤ q) (hq1 : 1 ≤ q) (hq6 : q ≤ 6) {n : Nat} (hn : i 89 3 = nI n) (h6 : n ≤ 6)  : C g m_X7_publish (d + 3) 0 0 false [.ref 89] (mk i j) (rets (some (.int (mpb (msv (th i 0) n) c q 90 2))) (mk (mpb (msv (th i 0) n) c q) j)) := by
  refine C_of (L := [some (.ref 89)]) rfl ?_
  refine L_aload_n_0 dX7_publish_0 ?_
  refine V_iconst (v := 0) (by decide) dX7_publish_1 ?_
  refine U_putI dX7_publish_2 fl_RX7_19 rfl rfl rfl ?_
  refine L_aload_n_0 dX7_publish_5 ?_
  refine U_cv1 (d := d + 2) (lkR_RX7_99 rfl dX7_publish_6) (k_X7_canPublish _) ⟨pn_X7_canPublish, rfl, (Nat.le_of_ble_eq_true rfl), (Nat.le_of_ble_eq_true rfl), rfl⟩ (⟨_, _, rfl, rfl, rfl⟩) (cfS cf7) (Nat.le_of_ble_eq_true rfl) ?_
  refine V_ifx_ne (tgt := 18) dX7_publish_9 (by decide) (fun h9 => ?_) (fun h9 => ?_)
  · refine L_aload_n_0 dX7_publish_18 ?_
    refine U_cV1 (d := d + 2) (lkR_RX7_93 rfl dX7_publish_19) (k_X7_save _ (thn hn) h6) ⟨pn_X7_save, rfl, (Nat.le_of_ble_eq_true rfl), (Nat.le_of_ble_eq_true rfl), rfl⟩ (⟨_, _, rfl, rfl, rfl⟩) (cfS cf7) (Nat.le_of_ble_eq_true rfl) ?_
    refine L_aload_n_0 dX7_publish_22 ?_
    refine U_cv1 (d := d + 2) (lkR_RX7_103 rfl dX7_publish_23) (k_X7_publishes _ (msc hc) (msc hK) hb hq1 hq6) ⟨pn_X7_publishes, rfl, (Nat.le_of_ble_eq_true rfl), (Nat.le_of_ble_eq_true rfl), rfl⟩ (⟨_, _, rfl, rfl, rfl⟩) (cfS cf7) (Nat.le_of_ble_eq_true rfl) ?_
    exact V_iret dX7_publish_26 rfl rfl (⟨rfl, rfl⟩)
  · exact absurd hm (b2z.mp h9)
theorem k_X7_publish__1 {g : G0} {j : Nat → Nat → Int64} (d : Nat) {i : Nat → Nat → Int32} (hm : i 90 0 = i 90 1)  : C g m_X7_publish (d + 1) 0 0 false [.ref 89] (mk i j) (rets (some (.int 0)) (mk (th (th i 0) 1) j)) := by
  refine C_of (L := [some (.ref 89)]) rfl ?_
  refine L_aload_n_0 dX7_publish_0 ?_
  refine V_iconst (v := 0) (by decide) dX7_publish_1 ?_
  refine U_putI dX7_publish_2 fl_RX7_19 rfl rfl rfl ?_
  refine L_aload_n_0 dX7_publish_5 ?_
  refine U_cv1 (d := d + 0) (lkR_RX7_99 rfl dX7_publish_6) (k_X7_canPublish _) ⟨pn_X7_canPublish, rfl, (Nat.le_of_ble_eq_true rfl), (Nat.le_of_ble_eq_true rfl), rfl⟩ (⟨_, _, rfl, rfl, rfl⟩) (cfS cf7) (Nat.le_of_ble_eq_true rfl) ?_
  refine V_ifx_ne (tgt := 18) dX7_publish_9 (by decide) (fun h9 => ?_) (fun h9 => ?_)
  · exact absurd hm (b2p h9)
  · refine L_aload_n_0 dX7_publish_12 ?_
    refine V_iconst (v := 1) (by decide) dX7_publish_13 ?_
    refine U_cv2 (d := d + 0) (lkR_RX7_30 rfl dX7_publish_14) (k_X7_fails _) ⟨pn_X7_fails, rfl, (Nat.le_of_ble_eq_true rfl), (Nat.le_of_ble_eq_true rfl), rfl⟩ (⟨_, _, rfl, rfl, rfl⟩) (cfS cf7) (Nat.le_of_ble_eq_true rfl) ?_
    exact V_iret dX7_publish_17 rfl rfl (⟨rfl, rfl⟩)
theorem k_X7_renumber {g : G0} {j : Nat → Nat → Int64} (d : Nat) {i : Nat → Nat → Int32} {x : Int32} (hm : wit x 0 15 ∧ ¬ x = i 90 2) {n : Nat} (hn : i 89 3 = nI n) (h6 : n ≤ 6)  : C g m_X7_renumber (d + 3) 0 0 false [.ref 89, .int x] (mk i j) (rets (some (.int (msv (th i 0) n 90 2))) (mk (mrn (msv (th i 0) n) x) j)) := by
  refine C_of (L := [some (.ref 89), some (.int x)]) rfl ?_
  refine L_aload_n_0 dX7_renumber_0 ?_
  refine V_iconst (v := 0) (by decide) dX7_renumber_1 ?_
  refine U_putI dX7_renumber_2 fl_RX7_19 rfl rfl rfl ?_
  refine L_aload_n_0 dX7_renumber_5 ?_
  refine L_iload_n_1 dX7_renumber_6 ?_
  refine U_cv2 (d := d + 2) (lkR_RX7_106 rfl dX7_renumber_7) (k_X7_canRenumber _) ⟨pn_X7_canRenumber, rfl, (Nat.le_of_ble_eq_true rfl), (Nat.le_of_ble_eq_true rfl), rfl⟩ (⟨_, _, rfl, rfl, rfl⟩) (cfS cf7) (Nat.le_of_ble_eq_true rfl) ?_
  refine V_ifx_ne (tgt := 19) dX7_renumber_10 (by decide) (fun h10 => ?_) (fun h10 => ?_)
  · refine L_aload_n_0 dX7_renumber_19 ?_
    refine U_cV1 (d := d + 2) (lkR_RX7_93 rfl dX7_renumber_20) (k_X7_save _ (thn hn) h6) ⟨pn_X7_save, rfl, (Nat.le_of_ble_eq_true rfl), (Nat.le_of_ble_eq_true rfl), rfl⟩ (⟨_, _, rfl, rfl, rfl⟩) (cfS cf7) (Nat.le_of_ble_eq_true rfl) ?_
    refine L_aload_n_0 dX7_renumber_23 ?_
    refine L_iload_n_1 dX7_renumber_24 ?_
    refine U_cv2 (d := d + 2) (lkR_RX7_109 rfl dX7_renumber_25) (k_X7_renumbers _) ⟨pn_X7_renumbers, rfl, (Nat.le_of_ble_eq_true rfl), (Nat.le_of_ble_eq_true rfl), rfl⟩ (⟨_, _, rfl, rfl, rfl⟩) (cfS cf7) (Nat.le_of_ble_eq_true rfl) ?_
    exact V_iret dX7_renumber_28 rfl rfl (⟨rfl, rfl⟩)
  · exact absurd hm (b2z.mp h10)
theorem k_X7_renumber__1 {g : G0} {j : Nat → Nat → Int64} (d : Nat) {i : Nat → Nat → Int32} {x : Int32} (hm : ¬ (wit x 0 15 ∧ ¬ x = i 90 2))  : C g m_X7_renumber (d + 3) 0 0 false [.ref 89, .int x] (mk i j) (rets (some (.int 0)) (mk (th (th i 0) 1) j)) := by
  refine C_of (L := [some (.ref 89), some (.int x)]) rfl ?_
  refine L_aload_n_0 dX7_renumber_0 ?_
  refine V_iconst (v := 0) (by decide) dX7_renumber_1 ?_
  refine U_putI dX7_renumber_2 fl_RX7_19 rfl rfl rfl ?_
  refine L_aload_n_0 dX7_renumber_5 ?_
  refine L_iload_n_1 dX7_renumber_6 ?_
  refine U_cv2 (d := d + 2) (lkR_RX7_106 rfl dX7_renumber_7) (k_X7_canRenumber _) ⟨pn_X7_canRenumber, rfl, (Nat.le_of_ble_eq_true rfl), (Nat.le_of_ble_eq_true rfl), rfl⟩ (⟨_, _, rfl, rfl, rfl⟩) (cfS cf7) (Nat.le_of_ble_eq_true rfl) ?_
  refine V_ifx_ne (tgt := 19) dX7_renumber_10 (by decide) (fun h10 => ?_) (fun h10 => ?_)
  · exact absurd (b2p h10) hm
  · refine L_aload_n_0 dX7_renumber_13 ?_
    refine V_iconst (v := 1) (by decide) dX7_renumber_14 ?_
    refine U_cv2 (d := d + 2) (lkR_RX7_30 rfl dX7_renumber_15) (k_X7_fails _) ⟨pn_X7_fails, rfl, (Nat.le_of_ble_eq_true rfl), (Nat.le_of_ble_eq_true rfl), rfl⟩ (⟨_, _, rfl, rfl, rfl⟩) (cfS cf7) (Nat.le_of_ble_eq_true rfl) ?_
    exact V_iret dX7_renumber_18 rfl rfl (⟨rfl, rfl⟩)
def msk (q : Nat) : Nat → (Nat → Nat → Int32) → Nat → Nat → Int32
  | 0, i => i
  | c + 1, i => if q < c + 1 then msk q c (mdr i c) else i
theorem msk_4 {q : Nat} : ∀ (c : Nat) (i : Nat → Nat → Int32), i 90 4 = nI c → msk q c i 90 4 = nI (if q < c then q else c)
  | 0, i, h => by unfold msk; rw [h]; congr 1
  | c + 1, i, h => by
    unfold msk
    split
    · rename_i h2
      rw [msk_4 c _ mdr_4]
      congr 1
      by_cases h3 : q < c
      · rw [if_pos h3]
      · rw [if_neg h3]; omega
    · exact h
theorem k_X7_setKeep {g : G0} {j : Nat → Nat → Int64} (d : Nat) {i : Nat → Nat → Int32} {c0 q : Nat} (hc : i 90 4 = nI c0) (hb : c0 ≤ 6) (hq1 : 1 ≤ q) (hq6 : q ≤ 6) {n : Nat} (hn : i 89 3 = nI n) (h6 : n ≤ 6)  : C g m_X7_setKeep (d + 1) 0 0 false [.ref 89, .int (nI q)] (mk i j) (rets (some (.int (msk q c0 (up2 (msv (th i 0) n) 90 3 (nI q)) 90 4))) (mk (msk q c0 (up2 (msv (th i 0) n) 90 3 (nI q))) j)) := by
  refine C_of (L := [some (.ref 89), some (.int (nI q))]) rfl ?_
  have loop : ∀ (c : Nat) (p : Nat → Nat → Int32), c ≤ 6 → p 90 4 = nI c → msk q c p = msk q c0 (up2 (msv (th i 0) n) 90 3 (nI q)) → V g m_X7_setKeep (d + 1) 0 0 false (Kp g false (rets (some (.int (msk q c0 (up2 (msv (th i 0) n) 90 3 (nI q)) 90 4))) (mk (msk q c0 (up2 (msv (th i 0) n) 90 3 (nI q))) j))) 32 [some (.ref 89), some (.int (nI q))] [] (mk p j) := by
    intro c
    induction c with
    | zero =>
      intro p hc6 hp he
      have hpp : p = msk q c0 (up2 (msv (th i 0) n) 90 3 (nI q)) := he
      refine L_aload_n_0 dX7_setKeep_32 ?_
      refine U_getR (r := 90) dX7_setKeep_33 fl_RX7_7 rfl rfl rfl ?_
      refine V_iconst (v := 4) (by decide) dX7_setKeep_36 ?_
      refine U_iald (n := 4) dX7_setKeep_37 rfl (rfl) (by decide) (by decide) ?_
      refine V_eqv (y := nI 0) hp ?_
      refine L_iload_n_1 dX7_setKeep_38 ?_
      refine V_icmp_le (tgt := 49) dX7_setKeep_39 (by decide) (fun h39 => ?_) (fun h39 => ?_)
      · refine L_aload_n_0 dX7_setKeep_49 ?_
        refine U_getR (r := 90) dX7_setKeep_50 fl_RX7_7 rfl rfl rfl ?_
        refine V_iconst (v := 4) (by decide) dX7_setKeep_53 ?_
        refine U_iald (n := 4) dX7_setKeep_54 rfl (rfl) (by decide) (by decide) ?_
        exact V_iret dX7_setKeep_55 rfl rfl (by rw [← hpp]; exact ⟨rfl, rfl⟩)
      · exact absurd ((nI_leI (a := 0) (b := q) (by omega) (by omega)).mpr (by omega)) h39
    | succ c ih =>
      intro p hc6 hp he
      by_cases hq : q < c + 1
      · refine L_aload_n_0 dX7_setKeep_32 ?_
        refine U_getR (r := 90) dX7_setKeep_33 fl_RX7_7 rfl rfl rfl ?_
        refine V_iconst (v := 4) (by decide) dX7_setKeep_36 ?_
        refine U_iald (n := 4) dX7_setKeep_37 rfl (rfl) (by decide) (by decide) ?_
        refine V_eqv (y := nI (c + 1)) hp ?_
        refine L_iload_n_1 dX7_setKeep_38 ?_
        refine V_icmp_le (tgt := 49) dX7_setKeep_39 (by decide) (fun h39 => ?_) (fun h39 => ?_)
        · exact absurd ((nI_leI (a := c + 1) (b := q) (by omega) (by omega)).mp h39) (by omega)
        · refine L_aload_n_0 dX7_setKeep_42 ?_
          refine U_cV1 (d := d + 0) (lkR_RX7_74 rfl dX7_setKeep_43) (k_X7_dropOldest _ hp (by omega)) ⟨pn_X7_dropOldest, rfl, (Nat.le_of_ble_eq_true rfl), (Nat.le_of_ble_eq_true rfl), rfl⟩ (⟨_, _, rfl, rfl, rfl⟩) (cfS cf7) (Nat.le_of_ble_eq_true rfl) ?_
          refine V_goto (tgt := 32) dX7_setKeep_46 (by decide) ?_
          exact ih (mdr p c) (by omega) mdr_4 (by rw [← he]; show _ = (if _ then _ else _); rw [if_pos hq])
      · have hpp : p = msk q c0 (up2 (msv (th i 0) n) 90 3 (nI q)) := by
          rw [← he]; show _ = (if _ then _ else _); rw [if_neg hq]
        refine L_aload_n_0 dX7_setKeep_32 ?_
        refine U_getR (r := 90) dX7_setKeep_33 fl_RX7_7 rfl rfl rfl ?_
        refine V_iconst (v := 4) (by decide) dX7_setKeep_36 ?_
        refine U_iald (n := 4) dX7_setKeep_37 rfl (rfl) (by decide) (by decide) ?_
        refine V_eqv (y := nI (c + 1)) hp ?_
        refine L_iload_n_1 dX7_setKeep_38 ?_
        refine V_icmp_le (tgt := 49) dX7_setKeep_39 (by decide) (fun h39 => ?_) (fun h39 => ?_)
        · refine L_aload_n_0 dX7_setKeep_49 ?_
          refine U_getR (r := 90) dX7_setKeep_50 fl_RX7_7 rfl rfl rfl ?_
          refine V_iconst (v := 4) (by decide) dX7_setKeep_53 ?_
          refine U_iald (n := 4) dX7_setKeep_54 rfl (rfl) (by decide) (by decide) ?_
          exact V_iret dX7_setKeep_55 rfl rfl (by rw [← hpp]; exact ⟨rfl, rfl⟩)
        · exact absurd ((nI_leI (a := c + 1) (b := q) (by omega) (by omega)).mpr (by omega)) h39
  refine L_aload_n_0 dX7_setKeep_0 ?_
  refine V_iconst (v := 0) (by decide) dX7_setKeep_1 ?_
  refine U_putI dX7_setKeep_2 fl_RX7_19 rfl rfl rfl ?_
  refine L_iload_n_1 dX7_setKeep_5 ?_
  refine V_iconst (v := 1) (by decide) dX7_setKeep_6 ?_
  refine V_bipush (v := 6) (by decide) dX7_setKeep_7 ?_
  refine U_cv3 (d := d + 0) (lkR_RX7_23 rfl dX7_setKeep_9) (k_X7_within _) ⟨pn_X7_within, rfl, (Nat.le_of_ble_eq_true rfl), (Nat.le_of_ble_eq_true rfl), rfl⟩ (trivial) cfn (Nat.le_of_ble_eq_true rfl) ?_
  refine V_ifx_ne (tgt := 21) dX7_setKeep_12 (by decide) (fun h12 => ?_) (fun h12 => ?_)
  · refine L_aload_n_0 dX7_setKeep_21 ?_
    refine U_cV1 (d := d + 0) (lkR_RX7_93 rfl dX7_setKeep_22) (k_X7_save _ (thn hn) h6) ⟨pn_X7_save, rfl, (Nat.le_of_ble_eq_true rfl), (Nat.le_of_ble_eq_true rfl), rfl⟩ (⟨_, _, rfl, rfl, rfl⟩) (cfS cf7) (Nat.le_of_ble_eq_true rfl) ?_
    refine L_aload_n_0 dX7_setKeep_25 ?_
    refine U_getR (r := 90) dX7_setKeep_26 fl_RX7_7 rfl rfl rfl ?_
    refine V_iconst (v := 3) (by decide) dX7_setKeep_29 ?_
    refine L_iload_n_1 dX7_setKeep_30 ?_
    refine U_iast (n := 3) dX7_setKeep_31 rfl (rfl) (by decide) (by decide) ?_
    exact loop c0 _ hb ((up2_nf (by omega)).trans (msc hc)) rfl
  · exact absurd (show wit (nI q) 1 6 from ⟨fun z => absurd ((nI_ltI (a := q) (b := 1) (by omega) (by omega)).mp z) (by omega), fun z => absurd ((nI_ltI (a := 6) (b := q) (by omega) (by omega)).mp z) (by omega)⟩) (b2z.mp h12)
theorem k_X7_setKeep__1 {g : G0} {j : Nat → Nat → Int64} (d : Nat) {i : Nat → Nat → Int32} {x : Int32} (hs : ¬ wit x 1 6)  : C g m_X7_setKeep (d + 1) 0 0 false [.ref 89, .int x] (mk i j) (rets (some (.int 0)) (mk (th (th i 0) 1) j)) := by
  refine C_of (L := [some (.ref 89), some (.int x)]) rfl ?_
  refine L_aload_n_0 dX7_setKeep_0 ?_
  refine V_iconst (v := 0) (by decide) dX7_setKeep_1 ?_
  refine U_putI dX7_setKeep_2 fl_RX7_19 rfl rfl rfl ?_
  refine L_iload_n_1 dX7_setKeep_5 ?_
  refine V_iconst (v := 1) (by decide) dX7_setKeep_6 ?_
  refine V_bipush (v := 6) (by decide) dX7_setKeep_7 ?_
  refine U_cv3 (d := d + 0) (lkR_RX7_23 rfl dX7_setKeep_9) (k_X7_within _) ⟨pn_X7_within, rfl, (Nat.le_of_ble_eq_true rfl), (Nat.le_of_ble_eq_true rfl), rfl⟩ (trivial) cfn (Nat.le_of_ble_eq_true rfl) ?_
  refine V_ifx_ne (tgt := 21) dX7_setKeep_12 (by decide) (fun h12 => ?_) (fun h12 => ?_)
  · exact absurd (b2p h12) hs
  · refine L_aload_n_0 dX7_setKeep_15 ?_
    refine V_iconst (v := 1) (by decide) dX7_setKeep_16 ?_
    refine U_cv2 (d := d + 0) (lkR_RX7_30 rfl dX7_setKeep_17) (k_X7_fails _) ⟨pn_X7_fails, rfl, (Nat.le_of_ble_eq_true rfl), (Nat.le_of_ble_eq_true rfl), rfl⟩ (⟨_, _, rfl, rfl, rfl⟩) (cfS cf7) (Nat.le_of_ble_eq_true rfl) ?_
    exact V_iret dX7_setKeep_20 rfl rfl (⟨rfl, rfl⟩)
theorem k_X7_edition {g : G0} {j : Nat → Nat → Int64} (d : Nat) {i : Nat → Nat → Int32}  : C g m_X7_edition (d + 0) 0 0 false [.ref 89] (mk i j) (rets (some (.int (i 90 2))) (mk (th i 0) j)) := by
  refine C_of (L := [some (.ref 89)]) rfl ?_
  refine L_aload_n_0 dX7_edition_0 ?_
  refine V_iconst (v := 0) (by decide) dX7_edition_1 ?_
  refine U_putI dX7_edition_2 fl_RX7_19 rfl rfl rfl ?_
  refine L_aload_n_0 dX7_edition_5 ?_
  refine U_getR (r := 90) dX7_edition_6 fl_RX7_7 rfl rfl rfl ?_
  refine V_iconst (v := 2) (by decide) dX7_edition_9 ?_
  refine U_iald (n := 2) dX7_edition_10 rfl (rfl) (by decide) (by decide) ?_
  exact V_iret dX7_edition_11 rfl rfl (⟨rfl, rfl⟩)
theorem k_X7_draft {g : G0} {j : Nat → Nat → Int64} (d : Nat) {i : Nat → Nat → Int32}  : C g m_X7_draft (d + 1) 0 0 false [.ref 89] (mk i j) (rets (some (.int (one (i 90 0)))) (mk (th i 0) j)) := by
  refine C_of (L := [some (.ref 89)]) rfl ?_
  refine L_aload_n_0 dX7_draft_0 ?_
  refine V_iconst (v := 0) (by decide) dX7_draft_1 ?_
  refine U_putI dX7_draft_2 fl_RX7_19 rfl rfl rfl ?_
  refine L_aload_n_0 dX7_draft_5 ?_
  refine U_getR (r := 90) dX7_draft_6 fl_RX7_7 rfl rfl rfl ?_
  refine V_iconst (v := 0) (by decide) dX7_draft_9 ?_
  refine U_iald (n := 0) dX7_draft_10 rfl (rfl) (by decide) (by decide) ?_
  refine U_cv1 (d := d + 0) (lkR_RX7_45 rfl dX7_draft_11) (k_X7_ones _) ⟨pn_X7_ones, rfl, (Nat.le_of_ble_eq_true rfl), (Nat.le_of_ble_eq_true rfl), rfl⟩ (trivial) cfn (Nat.le_of_ble_eq_true rfl) ?_
  exact V_iret dX7_draft_14 rfl rfl (⟨rfl, rfl⟩)
theorem k_X7_published {g : G0} {j : Nat → Nat → Int64} (d : Nat) {i : Nat → Nat → Int32}  : C g m_X7_published (d + 1) 0 0 false [.ref 89] (mk i j) (rets (some (.int (one (i 90 1)))) (mk (th i 0) j)) := by
  refine C_of (L := [some (.ref 89)]) rfl ?_
  refine L_aload_n_0 dX7_published_0 ?_
  refine V_iconst (v := 0) (by decide) dX7_published_1 ?_
  refine U_putI dX7_published_2 fl_RX7_19 rfl rfl rfl ?_
  refine L_aload_n_0 dX7_published_5 ?_
  refine U_getR (r := 90) dX7_published_6 fl_RX7_7 rfl rfl rfl ?_
  refine V_iconst (v := 1) (by decide) dX7_published_9 ?_
  refine U_iald (n := 1) dX7_published_10 rfl (rfl) (by decide) (by decide) ?_
  refine U_cv1 (d := d + 0) (lkR_RX7_45 rfl dX7_published_11) (k_X7_ones _) ⟨pn_X7_ones, rfl, (Nat.le_of_ble_eq_true rfl), (Nat.le_of_ble_eq_true rfl), rfl⟩ (trivial) cfn (Nat.le_of_ble_eq_true rfl) ?_
  exact V_iret dX7_published_14 rfl rfl (⟨rfl, rfl⟩)
theorem k_X7_pending {g : G0} {j : Nat → Nat → Int64} (d : Nat) {i : Nat → Nat → Int32}  : C g m_X7_pending (d + 2) 0 0 false [.ref 89] (mk i j) (rets (some (.int (one (i 90 0 ^^^ i 90 1)))) (mk (th i 0) j)) := by
  refine C_of (L := [some (.ref 89)]) rfl ?_
  refine L_aload_n_0 dX7_pending_0 ?_
  refine V_iconst (v := 0) (by decide) dX7_pending_1 ?_
  refine U_putI dX7_pending_2 fl_RX7_19 rfl rfl rfl ?_
  refine L_aload_n_0 dX7_pending_5 ?_
  refine U_cv1 (d := d + 1) (lkR_RX7_115 rfl dX7_pending_6) (k_X7_unlike _) ⟨pn_X7_unlike, rfl, (Nat.le_of_ble_eq_true rfl), (Nat.le_of_ble_eq_true rfl), rfl⟩ (⟨_, _, rfl, rfl, rfl⟩) (cfS cf7) (Nat.le_of_ble_eq_true rfl) ?_
  exact V_iret dX7_pending_9 rfl rfl (⟨rfl, rfl⟩)
theorem k_X7_kept {g : G0} {j : Nat → Nat → Int64} (d : Nat) {i : Nat → Nat → Int32}  : C g m_X7_kept (d + 0) 0 0 false [.ref 89] (mk i j) (rets (some (.int (i 90 4))) (mk (th i 0) j)) := by
  refine C_of (L := [some (.ref 89)]) rfl ?_
  refine L_aload_n_0 dX7_kept_0 ?_
  refine V_iconst (v := 0) (by decide) dX7_kept_1 ?_
  refine U_putI dX7_kept_2 fl_RX7_19 rfl rfl rfl ?_
  refine L_aload_n_0 dX7_kept_5 ?_
  refine U_getR (r := 90) dX7_kept_6 fl_RX7_7 rfl rfl rfl ?_
  refine V_iconst (v := 4) (by decide) dX7_kept_9 ?_
  refine U_iald (n := 4) dX7_kept_10 rfl (rfl) (by decide) (by decide) ?_
  exact V_iret dX7_kept_11 rfl rfl (⟨rfl, rfl⟩)
theorem k_X7_savedStates {g : G0} {j : Nat → Nat → Int64} (d : Nat) {i : Nat → Nat → Int32}  : C g m_X7_savedStates (d + 0) 0 0 false [.ref 89] (mk i j) (rets (some (.int (i 89 3))) (mk (th i 0) j)) := by
  refine C_of (L := [some (.ref 89)]) rfl ?_
  refine L_aload_n_0 dX7_savedStates_0 ?_
  refine V_iconst (v := 0) (by decide) dX7_savedStates_1 ?_
  refine U_putI dX7_savedStates_2 fl_RX7_19 rfl rfl rfl ?_
  refine L_aload_n_0 dX7_savedStates_5 ?_
  refine U_getI dX7_savedStates_6 fl_RX7_27 rfl rfl ?_
  exact V_iret dX7_savedStates_9 rfl rfl (⟨rfl, rfl⟩)
theorem k_X7_where {g : G0} {j : Nat → Nat → Int64} (d : Nat) {i : Nat → Nat → Int32} {x : Int32} (hs : wit x 0 29)  : C g m_X7_where (d + 2) 0 0 false [.ref 89, .int x] (mk i j) (rets (some (.int (mtP i x))) (mk (th i 0) j)) := by
  refine C_of (L := [some (.ref 89), some (.int x)]) rfl ?_
  refine L_aload_n_0 dX7_where_0 ?_
  refine V_iconst (v := 0) (by decide) dX7_where_1 ?_
  refine U_putI dX7_where_2 fl_RX7_19 rfl rfl rfl ?_
  refine L_iload_n_1 dX7_where_5 ?_
  refine U_cv1 (d := d + 1) (lkR_RX7_87 rfl dX7_where_6) (k_X7_isStreet _) ⟨pn_X7_isStreet, rfl, (Nat.le_of_ble_eq_true rfl), (Nat.le_of_ble_eq_true rfl), rfl⟩ (trivial) cfn (Nat.le_of_ble_eq_true rfl) ?_
  refine V_ifx_eq (tgt := 20) dX7_where_9 (by decide) (fun h9 => ?_) (fun h9 => ?_)
  · exact absurd hs (b2z.mp h9)
  · refine L_aload_n_0 dX7_where_12 ?_
    refine L_iload_n_1 dX7_where_13 ?_
    refine U_cv2 (d := d + 1) (lkR_RX7_112 rfl dX7_where_14) (k_X7_tellsWhere _) ⟨pn_X7_tellsWhere, rfl, (Nat.le_of_ble_eq_true rfl), (Nat.le_of_ble_eq_true rfl), rfl⟩ (⟨_, _, rfl, rfl, rfl⟩) (cfS cf7) (Nat.le_of_ble_eq_true rfl) ?_
    refine V_goto (tgt := 25) dX7_where_17 (by decide) ?_
    exact V_iret dX7_where_25 rfl rfl (⟨rfl, rfl⟩)
theorem k_X7_where__1 {g : G0} {j : Nat → Nat → Int64} (d : Nat) {i : Nat → Nat → Int32} {x : Int32} (hs : ¬ wit x 0 29)  : C g m_X7_where (d + 2) 0 0 false [.ref 89, .int x] (mk i j) (rets (some (.int 0)) (mk (th (th i 0) 1) j)) := by
  refine C_of (L := [some (.ref 89), some (.int x)]) rfl ?_
  refine L_aload_n_0 dX7_where_0 ?_
  refine V_iconst (v := 0) (by decide) dX7_where_1 ?_
  refine U_putI dX7_where_2 fl_RX7_19 rfl rfl rfl ?_
  refine L_iload_n_1 dX7_where_5 ?_
  refine U_cv1 (d := d + 1) (lkR_RX7_87 rfl dX7_where_6) (k_X7_isStreet _) ⟨pn_X7_isStreet, rfl, (Nat.le_of_ble_eq_true rfl), (Nat.le_of_ble_eq_true rfl), rfl⟩ (trivial) cfn (Nat.le_of_ble_eq_true rfl) ?_
  refine V_ifx_eq (tgt := 20) dX7_where_9 (by decide) (fun h9 => ?_) (fun h9 => ?_)
  · refine L_aload_n_0 dX7_where_20 ?_
    refine V_iconst (v := 1) (by decide) dX7_where_21 ?_
    refine U_cv2 (d := d + 1) (lkR_RX7_30 rfl dX7_where_22) (k_X7_fails _) ⟨pn_X7_fails, rfl, (Nat.le_of_ble_eq_true rfl), (Nat.le_of_ble_eq_true rfl), rfl⟩ (⟨_, _, rfl, rfl, rfl⟩) (cfS cf7) (Nat.le_of_ble_eq_true rfl) ?_
    exact V_iret dX7_where_25 rfl rfl (⟨rfl, rfl⟩)
  · exact absurd (b2p h9) hs
theorem k_X7_from {g : G0} {j : Nat → Nat → Int64} (d : Nat) {i : Nat → Nat → Int32} {x : Int32} (hs : wit x 0 (i 90 4 - 1)) {k : Nat} (hx : x = nI k) (hk : k < 6)  : C g m_X7_from (d + 2) 0 0 false [.ref 89, .int x] (mk i j) (rets (some (.int (i 90 (6 + 3 * k + 0)))) (mk (th i 0) j)) := by
  refine C_of (L := [some (.ref 89), some (.int x)]) rfl ?_
  refine L_aload_n_0 dX7_from_0 ?_
  refine V_iconst (v := 0) (by decide) dX7_from_1 ?_
  refine U_putI dX7_from_2 fl_RX7_19 rfl rfl rfl ?_
  refine L_aload_n_0 dX7_from_5 ?_
  refine L_iload_n_1 dX7_from_6 ?_
  refine U_cv2 (d := d + 1) (lkR_RX7_118 rfl dX7_from_7) (k_X7_isDifference _) ⟨pn_X7_isDifference, rfl, (Nat.le_of_ble_eq_true rfl), (Nat.le_of_ble_eq_true rfl), rfl⟩ (⟨_, _, rfl, rfl, rfl⟩) (cfS cf7) (Nat.le_of_ble_eq_true rfl) ?_
  refine V_ifx_eq (tgt := 22) dX7_from_10 (by decide) (fun h10 => ?_) (fun h10 => ?_)
  · exact absurd hs (b2z.mp h10)
  · refine L_aload_n_0 dX7_from_13 ?_
    refine L_iload_n_1 dX7_from_14 ?_
    refine V_iconst (v := 0) (by decide) dX7_from_15 ?_
    refine U_cv3 (d := d + 1) (lkR_RX7_42 rfl dX7_from_16) (k_X7_ofDifference _ (f := k) (w := 0) hx rfl hk (by decide)) ⟨pn_X7_ofDifference, rfl, (Nat.le_of_ble_eq_true rfl), (Nat.le_of_ble_eq_true rfl), rfl⟩ (⟨_, _, rfl, rfl, rfl⟩) (cfS cf7) (Nat.le_of_ble_eq_true rfl) ?_
    refine V_goto (tgt := 27) dX7_from_19 (by decide) ?_
    exact V_iret dX7_from_27 rfl rfl (⟨rfl, rfl⟩)
theorem k_X7_from__1 {g : G0} {j : Nat → Nat → Int64} (d : Nat) {i : Nat → Nat → Int32} {x : Int32} (hs : ¬ wit x 0 (i 90 4 - 1))  : C g m_X7_from (d + 2) 0 0 false [.ref 89, .int x] (mk i j) (rets (some (.int 0)) (mk (th (th i 0) 1) j)) := by
  refine C_of (L := [some (.ref 89), some (.int x)]) rfl ?_
  refine L_aload_n_0 dX7_from_0 ?_
  refine V_iconst (v := 0) (by decide) dX7_from_1 ?_
  refine U_putI dX7_from_2 fl_RX7_19 rfl rfl rfl ?_
  refine L_aload_n_0 dX7_from_5 ?_
  refine L_iload_n_1 dX7_from_6 ?_
  refine U_cv2 (d := d + 1) (lkR_RX7_118 rfl dX7_from_7) (k_X7_isDifference _) ⟨pn_X7_isDifference, rfl, (Nat.le_of_ble_eq_true rfl), (Nat.le_of_ble_eq_true rfl), rfl⟩ (⟨_, _, rfl, rfl, rfl⟩) (cfS cf7) (Nat.le_of_ble_eq_true rfl) ?_
  refine V_ifx_eq (tgt := 22) dX7_from_10 (by decide) (fun h10 => ?_) (fun h10 => ?_)
  · refine L_aload_n_0 dX7_from_22 ?_
    refine V_iconst (v := 1) (by decide) dX7_from_23 ?_
    refine U_cv2 (d := d + 1) (lkR_RX7_30 rfl dX7_from_24) (k_X7_fails _) ⟨pn_X7_fails, rfl, (Nat.le_of_ble_eq_true rfl), (Nat.le_of_ble_eq_true rfl), rfl⟩ (⟨_, _, rfl, rfl, rfl⟩) (cfS cf7) (Nat.le_of_ble_eq_true rfl) ?_
    exact V_iret dX7_from_27 rfl rfl (⟨rfl, rfl⟩)
  · exact absurd (b2p h10) hs
theorem k_X7_cost {g : G0} {j : Nat → Nat → Int64} (d : Nat) {i : Nat → Nat → Int32} {x : Int32} (hs : wit x 0 (i 90 4 - 1)) {k : Nat} (hx : x = nI k) (hk : k < 6)  : C g m_X7_cost (d + 2) 0 0 false [.ref 89, .int x] (mk i j) (rets (some (.int (mco i k))) (mk (th i 0) j)) := by
  refine C_of (L := [some (.ref 89), some (.int x)]) rfl ?_
  refine L_aload_n_0 dX7_cost_0 ?_
  refine V_iconst (v := 0) (by decide) dX7_cost_1 ?_
  refine U_putI dX7_cost_2 fl_RX7_19 rfl rfl rfl ?_
  refine L_aload_n_0 dX7_cost_5 ?_
  refine L_iload_n_1 dX7_cost_6 ?_
  refine U_cv2 (d := d + 1) (lkR_RX7_118 rfl dX7_cost_7) (k_X7_isDifference _) ⟨pn_X7_isDifference, rfl, (Nat.le_of_ble_eq_true rfl), (Nat.le_of_ble_eq_true rfl), rfl⟩ (⟨_, _, rfl, rfl, rfl⟩) (cfS cf7) (Nat.le_of_ble_eq_true rfl) ?_
  refine V_ifx_eq (tgt := 21) dX7_cost_10 (by decide) (fun h10 => ?_) (fun h10 => ?_)
  · exact absurd hs (b2z.mp h10)
  · refine L_aload_n_0 dX7_cost_13 ?_
    refine L_iload_n_1 dX7_cost_14 ?_
    refine U_cv2 (d := d + 1) (lkR_RX7_48 rfl dX7_cost_15) (k_X7_costOf _ (f := k) hx hk) ⟨pn_X7_costOf, rfl, (Nat.le_of_ble_eq_true rfl), (Nat.le_of_ble_eq_true rfl), rfl⟩ (⟨_, _, rfl, rfl, rfl⟩) (cfS cf7) (Nat.le_of_ble_eq_true rfl) ?_
    refine V_goto (tgt := 26) dX7_cost_18 (by decide) ?_
    exact V_iret dX7_cost_26 rfl rfl (⟨rfl, rfl⟩)
theorem k_X7_cost__1 {g : G0} {j : Nat → Nat → Int64} (d : Nat) {i : Nat → Nat → Int32} {x : Int32} (hs : ¬ wit x 0 (i 90 4 - 1))  : C g m_X7_cost (d + 2) 0 0 false [.ref 89, .int x] (mk i j) (rets (some (.int 0)) (mk (th (th i 0) 1) j)) := by
  refine C_of (L := [some (.ref 89), some (.int x)]) rfl ?_
  refine L_aload_n_0 dX7_cost_0 ?_
  refine V_iconst (v := 0) (by decide) dX7_cost_1 ?_
  refine U_putI dX7_cost_2 fl_RX7_19 rfl rfl rfl ?_
  refine L_aload_n_0 dX7_cost_5 ?_
  refine L_iload_n_1 dX7_cost_6 ?_
  refine U_cv2 (d := d + 1) (lkR_RX7_118 rfl dX7_cost_7) (k_X7_isDifference _) ⟨pn_X7_isDifference, rfl, (Nat.le_of_ble_eq_true rfl), (Nat.le_of_ble_eq_true rfl), rfl⟩ (⟨_, _, rfl, rfl, rfl⟩) (cfS cf7) (Nat.le_of_ble_eq_true rfl) ?_
  refine V_ifx_eq (tgt := 21) dX7_cost_10 (by decide) (fun h10 => ?_) (fun h10 => ?_)
  · refine L_aload_n_0 dX7_cost_21 ?_
    refine V_iconst (v := 1) (by decide) dX7_cost_22 ?_
    refine U_cv2 (d := d + 1) (lkR_RX7_30 rfl dX7_cost_23) (k_X7_fails _) ⟨pn_X7_fails, rfl, (Nat.le_of_ble_eq_true rfl), (Nat.le_of_ble_eq_true rfl), rfl⟩ (⟨_, _, rfl, rfl, rfl⟩) (cfS cf7) (Nat.le_of_ble_eq_true rfl) ?_
    exact V_iret dX7_cost_26 rfl rfl (⟨rfl, rfl⟩)
  · exact absurd (b2p h10) hs
theorem k_X7_compare {g : G0} {j : Nat → Nat → Int64} (d : Nat) {i : Nat → Nat → Int32} {x y : Int32} (hs : wit x 0 15) (ht : wit y 0 15)  : C g m_X7_compare (d + 2) 0 0 false [.ref 89, .int x, .int y] (mk i j) (rets (some (.int (ordI x y))) (mk (th i 0) j)) := by
  refine C_of (L := [some (.ref 89), some (.int x), some (.int y)]) rfl ?_
  refine L_aload_n_0 dX7_compare_0 ?_
  refine V_iconst (v := 0) (by decide) dX7_compare_1 ?_
  refine U_putI dX7_compare_2 fl_RX7_19 rfl rfl rfl ?_
  refine L_iload_n_1 dX7_compare_5 ?_
  refine U_cv1 (d := d + 1) (lkR_RX7_80 rfl dX7_compare_6) (k_X7_isEdition _) ⟨pn_X7_isEdition, rfl, (Nat.le_of_ble_eq_true rfl), (Nat.le_of_ble_eq_true rfl), rfl⟩ (trivial) cfn (Nat.le_of_ble_eq_true rfl) ?_
  refine V_ifx_eq (tgt := 27) dX7_compare_9 (by decide) (fun h9 => ?_) (fun h9 => ?_)
  · exact absurd hs (b2z.mp h9)
  · refine L_iload_n_2 dX7_compare_12 ?_
    refine U_cv1 (d := d + 1) (lkR_RX7_80 rfl dX7_compare_13) (k_X7_isEdition _) ⟨pn_X7_isEdition, rfl, (Nat.le_of_ble_eq_true rfl), (Nat.le_of_ble_eq_true rfl), rfl⟩ (trivial) cfn (Nat.le_of_ble_eq_true rfl) ?_
    refine V_ifx_eq (tgt := 27) dX7_compare_16 (by decide) (fun h16 => ?_) (fun h16 => ?_)
    · exact absurd ht (b2z.mp h16)
    · refine L_iload_n_1 dX7_compare_19 ?_
      refine L_iload_n_2 dX7_compare_20 ?_
      refine U_cv2 (d := d + 1) (lkR_RX7_51 rfl dX7_compare_21) (k_X7_order _) ⟨pn_X7_order, rfl, (Nat.le_of_ble_eq_true rfl), (Nat.le_of_ble_eq_true rfl), rfl⟩ (trivial) cfn (Nat.le_of_ble_eq_true rfl) ?_
      refine V_goto (tgt := 32) dX7_compare_24 (by decide) ?_
      exact V_iret dX7_compare_32 rfl rfl (⟨rfl, rfl⟩)
theorem k_X7_compare__1 {g : G0} {j : Nat → Nat → Int64} (d : Nat) {i : Nat → Nat → Int32} {x y : Int32} (hs : ¬ (wit x 0 15 ∧ wit y 0 15))  : C g m_X7_compare (d + 2) 0 0 false [.ref 89, .int x, .int y] (mk i j) (rets (some (.int 0)) (mk (th (th i 0) 1) j)) := by
  refine C_of (L := [some (.ref 89), some (.int x), some (.int y)]) rfl ?_
  refine L_aload_n_0 dX7_compare_0 ?_
  refine V_iconst (v := 0) (by decide) dX7_compare_1 ?_
  refine U_putI dX7_compare_2 fl_RX7_19 rfl rfl rfl ?_
  refine L_iload_n_1 dX7_compare_5 ?_
  refine U_cv1 (d := d + 1) (lkR_RX7_80 rfl dX7_compare_6) (k_X7_isEdition _) ⟨pn_X7_isEdition, rfl, (Nat.le_of_ble_eq_true rfl), (Nat.le_of_ble_eq_true rfl), rfl⟩ (trivial) cfn (Nat.le_of_ble_eq_true rfl) ?_
  refine V_ifx_eq (tgt := 27) dX7_compare_9 (by decide) (fun h9 => ?_) (fun h9 => ?_)
  · refine L_aload_n_0 dX7_compare_27 ?_
    refine V_iconst (v := 1) (by decide) dX7_compare_28 ?_
    refine U_cv2 (d := d + 1) (lkR_RX7_30 rfl dX7_compare_29) (k_X7_fails _) ⟨pn_X7_fails, rfl, (Nat.le_of_ble_eq_true rfl), (Nat.le_of_ble_eq_true rfl), rfl⟩ (⟨_, _, rfl, rfl, rfl⟩) (cfS cf7) (Nat.le_of_ble_eq_true rfl) ?_
    exact V_iret dX7_compare_32 rfl rfl (⟨rfl, rfl⟩)
  · refine L_iload_n_2 dX7_compare_12 ?_
    refine U_cv1 (d := d + 1) (lkR_RX7_80 rfl dX7_compare_13) (k_X7_isEdition _) ⟨pn_X7_isEdition, rfl, (Nat.le_of_ble_eq_true rfl), (Nat.le_of_ble_eq_true rfl), rfl⟩ (trivial) cfn (Nat.le_of_ble_eq_true rfl) ?_
    refine V_ifx_eq (tgt := 27) dX7_compare_16 (by decide) (fun h16 => ?_) (fun h16 => ?_)
    · refine L_aload_n_0 dX7_compare_27 ?_
      refine V_iconst (v := 1) (by decide) dX7_compare_28 ?_
      refine U_cv2 (d := d + 1) (lkR_RX7_30 rfl dX7_compare_29) (k_X7_fails _) ⟨pn_X7_fails, rfl, (Nat.le_of_ble_eq_true rfl), (Nat.le_of_ble_eq_true rfl), rfl⟩ (⟨_, _, rfl, rfl, rfl⟩) (cfS cf7) (Nat.le_of_ble_eq_true rfl) ?_
      exact V_iret dX7_compare_32 rfl rfl (⟨rfl, rfl⟩)
    · exact absurd ⟨b2p h9, b2p h16⟩ hs
section TH
variable {i : Nat → Nat → Int32} {f c : Nat}
theorem mlf_th {v : Int32} : ∀ (r k : Nat), mlf (th i v) f r k = mlf i f r k
  | 0, k => rfl
  | r + 1, k => by unfold mlf; rw [mlf_th r (k + 1)]; rfl
theorem mcf_th {v : Int32} : ∀ (r k : Nat) (a : Int32), mcf (th i v) r k a = mcf i r k a
  | 0, k, a => rfl
  | r + 1, k, a => by unfold mcf; rw [mcf_th r (k + 1)]; rfl
theorem man_th {v : Int32} : man (th i v) f c = man i f c := by
  unfold man
  rw [mlf_th]
  cases mlf i f c 0 with
  | none => rfl
  | some k => dsimp only; rw [mcf_th]; rfl
theorem mca_th {v : Int32} : mca (th i v) f c = mca i f c := by
  unfold mca
  rw [man_th, mlf_th]
  cases mlf i f c 0 with
  | none => rfl
  | some k => unfold mcA; dsimp only; rw [mcf_th]; rfl
end TH
theorem k_X7_editionOf {g : G0} {j : Nat → Nat → Int64} (d : Nat) {i : Nat → Nat → Int32} {x : Int32} {f : Nat} (hx : x = nI f) (hf : f < 4)  : C g m_X7_editionOf (d + 2) 0 0 false [.ref 89, .int x] (mk i j) (rets (some (.int (mtE i f))) (mk (th i 0) j)) := by
  refine C_of (L := [some (.ref 89), some (.int x)]) rfl ?_
  refine L_aload_n_0 dX7_editionOf_0 ?_
  refine V_iconst (v := 0) (by decide) dX7_editionOf_1 ?_
  refine U_putI dX7_editionOf_2 fl_RX7_19 rfl rfl rfl ?_
  refine L_iload_n_1 dX7_editionOf_5 ?_
  refine U_cv1 (d := d + 1) (lkR_RX7_121 rfl dX7_editionOf_6) (k_X7_isFollower _) ⟨pn_X7_isFollower, rfl, (Nat.le_of_ble_eq_true rfl), (Nat.le_of_ble_eq_true rfl), rfl⟩ (trivial) cfn (Nat.le_of_ble_eq_true rfl) ?_
  refine V_ifx_eq (tgt := 20) dX7_editionOf_9 (by decide) (fun h9 => ?_) (fun h9 => ?_)
  · exact absurd (witq (b := 3) hx (by omega) (by omega)) (b2z.mp h9)
  · refine L_aload_n_0 dX7_editionOf_12 ?_
    refine L_iload_n_1 dX7_editionOf_13 ?_
    refine U_cv2 (d := d + 1) (lkR_RX7_133 rfl dX7_editionOf_14) (k_X7_tellsEdition _ hx hf) ⟨pn_X7_tellsEdition, rfl, (Nat.le_of_ble_eq_true rfl), (Nat.le_of_ble_eq_true rfl), rfl⟩ (⟨_, _, rfl, rfl, rfl⟩) (cfS cf7) (Nat.le_of_ble_eq_true rfl) ?_
    refine V_goto (tgt := 25) dX7_editionOf_17 (by decide) ?_
    exact V_iret dX7_editionOf_25 rfl rfl (⟨rfl, rfl⟩)
theorem k_X7_editionOf__1 {g : G0} {j : Nat → Nat → Int64} (d : Nat) {i : Nat → Nat → Int32} {x : Int32} (hs : ¬ wit x 0 3)  : C g m_X7_editionOf (d + 2) 0 0 false [.ref 89, .int x] (mk i j) (rets (some (.int 0)) (mk (th (th i 0) 1) j)) := by
  refine C_of (L := [some (.ref 89), some (.int x)]) rfl ?_
  refine L_aload_n_0 dX7_editionOf_0 ?_
  refine V_iconst (v := 0) (by decide) dX7_editionOf_1 ?_
  refine U_putI dX7_editionOf_2 fl_RX7_19 rfl rfl rfl ?_
  refine L_iload_n_1 dX7_editionOf_5 ?_
  refine U_cv1 (d := d + 1) (lkR_RX7_121 rfl dX7_editionOf_6) (k_X7_isFollower _) ⟨pn_X7_isFollower, rfl, (Nat.le_of_ble_eq_true rfl), (Nat.le_of_ble_eq_true rfl), rfl⟩ (trivial) cfn (Nat.le_of_ble_eq_true rfl) ?_
  refine V_ifx_eq (tgt := 20) dX7_editionOf_9 (by decide) (fun h9 => ?_) (fun h9 => ?_)
  · refine L_aload_n_0 dX7_editionOf_20 ?_
    refine V_iconst (v := 1) (by decide) dX7_editionOf_21 ?_
    refine U_cv2 (d := d + 1) (lkR_RX7_30 rfl dX7_editionOf_22) (k_X7_fails _) ⟨pn_X7_fails, rfl, (Nat.le_of_ble_eq_true rfl), (Nat.le_of_ble_eq_true rfl), rfl⟩ (⟨_, _, rfl, rfl, rfl⟩) (cfS cf7) (Nat.le_of_ble_eq_true rfl) ?_
    exact V_iret dX7_editionOf_25 rfl rfl (⟨rfl, rfl⟩)
  · exact absurd (b2p h9) hs
theorem k_X7_streets {g : G0} {j : Nat → Nat → Int64} (d : Nat) {i : Nat → Nat → Int32} {x : Int32} {f : Nat} (hx : x = nI f) (hf : f < 4)  : C g m_X7_streets (d + 2) 0 0 false [.ref 89, .int x] (mk i j) (rets (some (.int (mtS i f))) (mk (th i 0) j)) := by
  refine C_of (L := [some (.ref 89), some (.int x)]) rfl ?_
  refine L_aload_n_0 dX7_streets_0 ?_
  refine V_iconst (v := 0) (by decide) dX7_streets_1 ?_
  refine U_putI dX7_streets_2 fl_RX7_19 rfl rfl rfl ?_
  refine L_iload_n_1 dX7_streets_5 ?_
  refine U_cv1 (d := d + 1) (lkR_RX7_121 rfl dX7_streets_6) (k_X7_isFollower _) ⟨pn_X7_isFollower, rfl, (Nat.le_of_ble_eq_true rfl), (Nat.le_of_ble_eq_true rfl), rfl⟩ (trivial) cfn (Nat.le_of_ble_eq_true rfl) ?_
  refine V_ifx_eq (tgt := 20) dX7_streets_9 (by decide) (fun h9 => ?_) (fun h9 => ?_)
  · exact absurd (witq (b := 3) hx (by omega) (by omega)) (b2z.mp h9)
  · refine L_aload_n_0 dX7_streets_12 ?_
    refine L_iload_n_1 dX7_streets_13 ?_
    refine U_cv2 (d := d + 1) (lkR_RX7_130 rfl dX7_streets_14) (k_X7_tellsStreets _ hx hf) ⟨pn_X7_tellsStreets, rfl, (Nat.le_of_ble_eq_true rfl), (Nat.le_of_ble_eq_true rfl), rfl⟩ (⟨_, _, rfl, rfl, rfl⟩) (cfS cf7) (Nat.le_of_ble_eq_true rfl) ?_
    refine V_goto (tgt := 25) dX7_streets_17 (by decide) ?_
    exact V_iret dX7_streets_25 rfl rfl (⟨rfl, rfl⟩)
theorem k_X7_streets__1 {g : G0} {j : Nat → Nat → Int64} (d : Nat) {i : Nat → Nat → Int32} {x : Int32} (hs : ¬ wit x 0 3)  : C g m_X7_streets (d + 2) 0 0 false [.ref 89, .int x] (mk i j) (rets (some (.int 0)) (mk (th (th i 0) 1) j)) := by
  refine C_of (L := [some (.ref 89), some (.int x)]) rfl ?_
  refine L_aload_n_0 dX7_streets_0 ?_
  refine V_iconst (v := 0) (by decide) dX7_streets_1 ?_
  refine U_putI dX7_streets_2 fl_RX7_19 rfl rfl rfl ?_
  refine L_iload_n_1 dX7_streets_5 ?_
  refine U_cv1 (d := d + 1) (lkR_RX7_121 rfl dX7_streets_6) (k_X7_isFollower _) ⟨pn_X7_isFollower, rfl, (Nat.le_of_ble_eq_true rfl), (Nat.le_of_ble_eq_true rfl), rfl⟩ (trivial) cfn (Nat.le_of_ble_eq_true rfl) ?_
  refine V_ifx_eq (tgt := 20) dX7_streets_9 (by decide) (fun h9 => ?_) (fun h9 => ?_)
  · refine L_aload_n_0 dX7_streets_20 ?_
    refine V_iconst (v := 1) (by decide) dX7_streets_21 ?_
    refine U_cv2 (d := d + 1) (lkR_RX7_30 rfl dX7_streets_22) (k_X7_fails _) ⟨pn_X7_fails, rfl, (Nat.le_of_ble_eq_true rfl), (Nat.le_of_ble_eq_true rfl), rfl⟩ (⟨_, _, rfl, rfl, rfl⟩) (cfS cf7) (Nat.le_of_ble_eq_true rfl) ?_
    exact V_iret dX7_streets_25 rfl rfl (⟨rfl, rfl⟩)
  · exact absurd (b2p h9) hs
theorem k_X7_attention {g : G0} {j : Nat → Nat → Int64} (d : Nat) {i : Nat → Nat → Int32} {x : Int32} {f : Nat} (hx : x = nI f) (hf : f < 4)  : C g m_X7_attention (d + 2) 0 0 false [.ref 89, .int x] (mk i j) (rets (some (.int (mtA i f))) (mk (th i 0) j)) := by
  refine C_of (L := [some (.ref 89), some (.int x)]) rfl ?_
  refine L_aload_n_0 dX7_attention_0 ?_
  refine V_iconst (v := 0) (by decide) dX7_attention_1 ?_
  refine U_putI dX7_attention_2 fl_RX7_19 rfl rfl rfl ?_
  refine L_iload_n_1 dX7_attention_5 ?_
  refine U_cv1 (d := d + 1) (lkR_RX7_121 rfl dX7_attention_6) (k_X7_isFollower _) ⟨pn_X7_isFollower, rfl, (Nat.le_of_ble_eq_true rfl), (Nat.le_of_ble_eq_true rfl), rfl⟩ (trivial) cfn (Nat.le_of_ble_eq_true rfl) ?_
  refine V_ifx_eq (tgt := 20) dX7_attention_9 (by decide) (fun h9 => ?_) (fun h9 => ?_)
  · exact absurd (witq (b := 3) hx (by omega) (by omega)) (b2z.mp h9)
  · refine L_aload_n_0 dX7_attention_12 ?_
    refine L_iload_n_1 dX7_attention_13 ?_
    refine U_cv2 (d := d + 1) (lkR_RX7_140 rfl dX7_attention_14) (k_X7_tellsAttention _ hx hf) ⟨pn_X7_tellsAttention, rfl, (Nat.le_of_ble_eq_true rfl), (Nat.le_of_ble_eq_true rfl), rfl⟩ (⟨_, _, rfl, rfl, rfl⟩) (cfS cf7) (Nat.le_of_ble_eq_true rfl) ?_
    refine V_goto (tgt := 25) dX7_attention_17 (by decide) ?_
    exact V_iret dX7_attention_25 rfl rfl (⟨rfl, rfl⟩)
theorem k_X7_attention__1 {g : G0} {j : Nat → Nat → Int64} (d : Nat) {i : Nat → Nat → Int32} {x : Int32} (hs : ¬ wit x 0 3)  : C g m_X7_attention (d + 2) 0 0 false [.ref 89, .int x] (mk i j) (rets (some (.int 0)) (mk (th (th i 0) 1) j)) := by
  refine C_of (L := [some (.ref 89), some (.int x)]) rfl ?_
  refine L_aload_n_0 dX7_attention_0 ?_
  refine V_iconst (v := 0) (by decide) dX7_attention_1 ?_
  refine U_putI dX7_attention_2 fl_RX7_19 rfl rfl rfl ?_
  refine L_iload_n_1 dX7_attention_5 ?_
  refine U_cv1 (d := d + 1) (lkR_RX7_121 rfl dX7_attention_6) (k_X7_isFollower _) ⟨pn_X7_isFollower, rfl, (Nat.le_of_ble_eq_true rfl), (Nat.le_of_ble_eq_true rfl), rfl⟩ (trivial) cfn (Nat.le_of_ble_eq_true rfl) ?_
  refine V_ifx_eq (tgt := 20) dX7_attention_9 (by decide) (fun h9 => ?_) (fun h9 => ?_)
  · refine L_aload_n_0 dX7_attention_20 ?_
    refine V_iconst (v := 1) (by decide) dX7_attention_21 ?_
    refine U_cv2 (d := d + 1) (lkR_RX7_30 rfl dX7_attention_22) (k_X7_fails _) ⟨pn_X7_fails, rfl, (Nat.le_of_ble_eq_true rfl), (Nat.le_of_ble_eq_true rfl), rfl⟩ (⟨_, _, rfl, rfl, rfl⟩) (cfS cf7) (Nat.le_of_ble_eq_true rfl) ?_
    exact V_iret dX7_attention_25 rfl rfl (⟨rfl, rfl⟩)
  · exact absurd (b2p h9) hs
theorem k_X7_wrong {g : G0} {j : Nat → Nat → Int64} (d : Nat) {i : Nat → Nat → Int32} {x : Int32} {f : Nat} (hx : x = nI f) (hf : f < 4)  : C g m_X7_wrong (d + 2) 0 0 false [.ref 89, .int x] (mk i j) (rets (some (.int (mtW i f))) (mk (th i 0) j)) := by
  refine C_of (L := [some (.ref 89), some (.int x)]) rfl ?_
  refine L_aload_n_0 dX7_wrong_0 ?_
  refine V_iconst (v := 0) (by decide) dX7_wrong_1 ?_
  refine U_putI dX7_wrong_2 fl_RX7_19 rfl rfl rfl ?_
  refine L_iload_n_1 dX7_wrong_5 ?_
  refine U_cv1 (d := d + 1) (lkR_RX7_121 rfl dX7_wrong_6) (k_X7_isFollower _) ⟨pn_X7_isFollower, rfl, (Nat.le_of_ble_eq_true rfl), (Nat.le_of_ble_eq_true rfl), rfl⟩ (trivial) cfn (Nat.le_of_ble_eq_true rfl) ?_
  refine V_ifx_eq (tgt := 20) dX7_wrong_9 (by decide) (fun h9 => ?_) (fun h9 => ?_)
  · exact absurd (witq (b := 3) hx (by omega) (by omega)) (b2z.mp h9)
  · refine L_aload_n_0 dX7_wrong_12 ?_
    refine L_iload_n_1 dX7_wrong_13 ?_
    refine U_cv2 (d := d + 1) (lkR_RX7_143 rfl dX7_wrong_14) (k_X7_tellsWrong _ hx hf) ⟨pn_X7_tellsWrong, rfl, (Nat.le_of_ble_eq_true rfl), (Nat.le_of_ble_eq_true rfl), rfl⟩ (⟨_, _, rfl, rfl, rfl⟩) (cfS cf7) (Nat.le_of_ble_eq_true rfl) ?_
    refine V_goto (tgt := 25) dX7_wrong_17 (by decide) ?_
    exact V_iret dX7_wrong_25 rfl rfl (⟨rfl, rfl⟩)
theorem k_X7_wrong__1 {g : G0} {j : Nat → Nat → Int64} (d : Nat) {i : Nat → Nat → Int32} {x : Int32} (hs : ¬ wit x 0 3)  : C g m_X7_wrong (d + 2) 0 0 false [.ref 89, .int x] (mk i j) (rets (some (.int 0)) (mk (th (th i 0) 1) j)) := by
  refine C_of (L := [some (.ref 89), some (.int x)]) rfl ?_
  refine L_aload_n_0 dX7_wrong_0 ?_
  refine V_iconst (v := 0) (by decide) dX7_wrong_1 ?_
  refine U_putI dX7_wrong_2 fl_RX7_19 rfl rfl rfl ?_
  refine L_iload_n_1 dX7_wrong_5 ?_
  refine U_cv1 (d := d + 1) (lkR_RX7_121 rfl dX7_wrong_6) (k_X7_isFollower _) ⟨pn_X7_isFollower, rfl, (Nat.le_of_ble_eq_true rfl), (Nat.le_of_ble_eq_true rfl), rfl⟩ (trivial) cfn (Nat.le_of_ble_eq_true rfl) ?_
  refine V_ifx_eq (tgt := 20) dX7_wrong_9 (by decide) (fun h9 => ?_) (fun h9 => ?_)
  · refine L_aload_n_0 dX7_wrong_20 ?_
    refine V_iconst (v := 1) (by decide) dX7_wrong_21 ?_
    refine U_cv2 (d := d + 1) (lkR_RX7_30 rfl dX7_wrong_22) (k_X7_fails _) ⟨pn_X7_fails, rfl, (Nat.le_of_ble_eq_true rfl), (Nat.le_of_ble_eq_true rfl), rfl⟩ (⟨_, _, rfl, rfl, rfl⟩) (cfS cf7) (Nat.le_of_ble_eq_true rfl) ?_
    exact V_iret dX7_wrong_25 rfl rfl (⟨rfl, rfl⟩)
  · exact absurd (b2p h9) hs
theorem k_X7_answer {g : G0} {j : Nat → Nat → Int64} (d : Nat) {i : Nat → Nat → Int32} {x : Int32} {f : Nat} (hx : x = nI f) (hf : f < 4) {c : Nat} (hc : i 90 4 = nI c) (hb : c ≤ 6)  : C g m_X7_answer (d + 4) 0 0 false [.ref 89, .int x] (mk i j) (rets (some (.int (man i f c))) (mk (th i 0) j)) := by
  refine C_of (L := [some (.ref 89), some (.int x)]) rfl ?_
  refine L_aload_n_0 dX7_answer_0 ?_
  refine V_iconst (v := 0) (by decide) dX7_answer_1 ?_
  refine U_putI dX7_answer_2 fl_RX7_19 rfl rfl rfl ?_
  refine L_iload_n_1 dX7_answer_5 ?_
  refine U_cv1 (d := d + 3) (lkR_RX7_121 rfl dX7_answer_6) (k_X7_isFollower _) ⟨pn_X7_isFollower, rfl, (Nat.le_of_ble_eq_true rfl), (Nat.le_of_ble_eq_true rfl), rfl⟩ (trivial) cfn (Nat.le_of_ble_eq_true rfl) ?_
  refine V_ifx_eq (tgt := 20) dX7_answer_9 (by decide) (fun h9 => ?_) (fun h9 => ?_)
  · exact absurd (witq (b := 3) hx (by omega) (by omega)) (b2z.mp h9)
  · refine L_aload_n_0 dX7_answer_12 ?_
    refine L_iload_n_1 dX7_answer_13 ?_
    refine U_cv2 (d := d + 3) (lkR_RX7_64 rfl dX7_answer_14) (k_X7_answerTo _ hx hf (thc hc) hb) ⟨pn_X7_answerTo, rfl, (Nat.le_of_ble_eq_true rfl), (Nat.le_of_ble_eq_true rfl), rfl⟩ (⟨_, _, rfl, rfl, rfl⟩) (cfS cf7) (Nat.le_of_ble_eq_true rfl) ?_
    refine V_goto (tgt := 25) dX7_answer_17 (by decide) ?_
    exact V_iret dX7_answer_25 rfl rfl (rtI man_th)
theorem k_X7_answer__1 {g : G0} {j : Nat → Nat → Int64} (d : Nat) {i : Nat → Nat → Int32} {x : Int32} (hs : ¬ wit x 0 3)  : C g m_X7_answer (d + 4) 0 0 false [.ref 89, .int x] (mk i j) (rets (some (.int 0)) (mk (th (th i 0) 1) j)) := by
  refine C_of (L := [some (.ref 89), some (.int x)]) rfl ?_
  refine L_aload_n_0 dX7_answer_0 ?_
  refine V_iconst (v := 0) (by decide) dX7_answer_1 ?_
  refine U_putI dX7_answer_2 fl_RX7_19 rfl rfl rfl ?_
  refine L_iload_n_1 dX7_answer_5 ?_
  refine U_cv1 (d := d + 3) (lkR_RX7_121 rfl dX7_answer_6) (k_X7_isFollower _) ⟨pn_X7_isFollower, rfl, (Nat.le_of_ble_eq_true rfl), (Nat.le_of_ble_eq_true rfl), rfl⟩ (trivial) cfn (Nat.le_of_ble_eq_true rfl) ?_
  refine V_ifx_eq (tgt := 20) dX7_answer_9 (by decide) (fun h9 => ?_) (fun h9 => ?_)
  · refine L_aload_n_0 dX7_answer_20 ?_
    refine V_iconst (v := 1) (by decide) dX7_answer_21 ?_
    refine U_cv2 (d := d + 3) (lkR_RX7_30 rfl dX7_answer_22) (k_X7_fails _) ⟨pn_X7_fails, rfl, (Nat.le_of_ble_eq_true rfl), (Nat.le_of_ble_eq_true rfl), rfl⟩ (⟨_, _, rfl, rfl, rfl⟩) (cfS cf7) (Nat.le_of_ble_eq_true rfl) ?_
    exact V_iret dX7_answer_25 rfl rfl (⟨rfl, rfl⟩)
  · exact absurd (b2p h9) hs
theorem k_X7_costToCome {g : G0} {j : Nat → Nat → Int64} (d : Nat) {i : Nat → Nat → Int32} {x : Int32} {f : Nat} (hx : x = nI f) (hf : f < 4) {c : Nat} (hc : i 90 4 = nI c) (hb : c ≤ 6)  : C g m_X7_costToCome (d + 5) 0 0 false [.ref 89, .int x] (mk i j) (rets (some (.int (mca i f c))) (mk (th i 0) j)) := by
  refine C_of (L := [some (.ref 89), some (.int x)]) rfl ?_
  refine L_aload_n_0 dX7_costToCome_0 ?_
  refine V_iconst (v := 0) (by decide) dX7_costToCome_1 ?_
  refine U_putI dX7_costToCome_2 fl_RX7_19 rfl rfl rfl ?_
  refine L_iload_n_1 dX7_costToCome_5 ?_
  refine U_cv1 (d := d + 4) (lkR_RX7_121 rfl dX7_costToCome_6) (k_X7_isFollower _) ⟨pn_X7_isFollower, rfl, (Nat.le_of_ble_eq_true rfl), (Nat.le_of_ble_eq_true rfl), rfl⟩ (trivial) cfn (Nat.le_of_ble_eq_true rfl) ?_
  refine V_ifx_eq (tgt := 20) dX7_costToCome_9 (by decide) (fun h9 => ?_) (fun h9 => ?_)
  · exact absurd (witq (b := 3) hx (by omega) (by omega)) (b2z.mp h9)
  · refine L_aload_n_0 dX7_costToCome_12 ?_
    refine L_iload_n_1 dX7_costToCome_13 ?_
    refine U_cv2 (d := d + 4) (lkR_RX7_67 rfl dX7_costToCome_14) (k_X7_costOfAnswer _ hx hf (thc hc) hb) ⟨pn_X7_costOfAnswer, rfl, (Nat.le_of_ble_eq_true rfl), (Nat.le_of_ble_eq_true rfl), rfl⟩ (⟨_, _, rfl, rfl, rfl⟩) (cfS cf7) (Nat.le_of_ble_eq_true rfl) ?_
    refine V_goto (tgt := 25) dX7_costToCome_17 (by decide) ?_
    exact V_iret dX7_costToCome_25 rfl rfl (rtI mca_th)
theorem k_X7_costToCome__1 {g : G0} {j : Nat → Nat → Int64} (d : Nat) {i : Nat → Nat → Int32} {x : Int32} (hs : ¬ wit x 0 3)  : C g m_X7_costToCome (d + 5) 0 0 false [.ref 89, .int x] (mk i j) (rets (some (.int 0)) (mk (th (th i 0) 1) j)) := by
  refine C_of (L := [some (.ref 89), some (.int x)]) rfl ?_
  refine L_aload_n_0 dX7_costToCome_0 ?_
  refine V_iconst (v := 0) (by decide) dX7_costToCome_1 ?_
  refine U_putI dX7_costToCome_2 fl_RX7_19 rfl rfl rfl ?_
  refine L_iload_n_1 dX7_costToCome_5 ?_
  refine U_cv1 (d := d + 4) (lkR_RX7_121 rfl dX7_costToCome_6) (k_X7_isFollower _) ⟨pn_X7_isFollower, rfl, (Nat.le_of_ble_eq_true rfl), (Nat.le_of_ble_eq_true rfl), rfl⟩ (trivial) cfn (Nat.le_of_ble_eq_true rfl) ?_
  refine V_ifx_eq (tgt := 20) dX7_costToCome_9 (by decide) (fun h9 => ?_) (fun h9 => ?_)
  · refine L_aload_n_0 dX7_costToCome_20 ?_
    refine V_iconst (v := 1) (by decide) dX7_costToCome_21 ?_
    refine U_cv2 (d := d + 4) (lkR_RX7_30 rfl dX7_costToCome_22) (k_X7_fails _) ⟨pn_X7_fails, rfl, (Nat.le_of_ble_eq_true rfl), (Nat.le_of_ble_eq_true rfl), rfl⟩ (⟨_, _, rfl, rfl, rfl⟩) (cfS cf7) (Nat.le_of_ble_eq_true rfl) ?_
    exact V_iret dX7_costToCome_25 rfl rfl (⟨rfl, rfl⟩)
  · exact absurd (b2p h9) hs
theorem k_X7_costs {g : G0} {j : Nat → Nat → Int64} (d : Nat) {i : Nat → Nat → Int32} {x : Int32} {f : Nat} (hx : x = nI f) (hf : f < 4)  : C g m_X7_costs (d + 2) 0 0 false [.ref 89, .int x] (mk i j) (rets (some (.int (i 90 (24 + 6 * f + 5)))) (mk (th i 0) j)) := by
  refine C_of (L := [some (.ref 89), some (.int x)]) rfl ?_
  refine L_aload_n_0 dX7_costs_0 ?_
  refine V_iconst (v := 0) (by decide) dX7_costs_1 ?_
  refine U_putI dX7_costs_2 fl_RX7_19 rfl rfl rfl ?_
  refine L_iload_n_1 dX7_costs_5 ?_
  refine U_cv1 (d := d + 1) (lkR_RX7_121 rfl dX7_costs_6) (k_X7_isFollower _) ⟨pn_X7_isFollower, rfl, (Nat.le_of_ble_eq_true rfl), (Nat.le_of_ble_eq_true rfl), rfl⟩ (trivial) cfn (Nat.le_of_ble_eq_true rfl) ?_
  refine V_ifx_eq (tgt := 21) dX7_costs_9 (by decide) (fun h9 => ?_) (fun h9 => ?_)
  · exact absurd (witq (b := 3) hx (by omega) (by omega)) (b2z.mp h9)
  · refine L_aload_n_0 dX7_costs_12 ?_
    refine L_iload_n_1 dX7_costs_13 ?_
    refine V_iconst (v := 5) (by decide) dX7_costs_14 ?_
    refine U_cv3 (d := d + 1) (lkR_RX7_34 rfl dX7_costs_15) (k_X7_of _ (f := f) (w := 5) hx rfl hf (by decide)) ⟨pn_X7_of, rfl, (Nat.le_of_ble_eq_true rfl), (Nat.le_of_ble_eq_true rfl), rfl⟩ (⟨_, _, rfl, rfl, rfl⟩) (cfS cf7) (Nat.le_of_ble_eq_true rfl) ?_
    refine V_goto (tgt := 26) dX7_costs_18 (by decide) ?_
    exact V_iret dX7_costs_26 rfl rfl (⟨rfl, rfl⟩)
theorem k_X7_costs__1 {g : G0} {j : Nat → Nat → Int64} (d : Nat) {i : Nat → Nat → Int32} {x : Int32} (hs : ¬ wit x 0 3)  : C g m_X7_costs (d + 2) 0 0 false [.ref 89, .int x] (mk i j) (rets (some (.int 0)) (mk (th (th i 0) 1) j)) := by
  refine C_of (L := [some (.ref 89), some (.int x)]) rfl ?_
  refine L_aload_n_0 dX7_costs_0 ?_
  refine V_iconst (v := 0) (by decide) dX7_costs_1 ?_
  refine U_putI dX7_costs_2 fl_RX7_19 rfl rfl rfl ?_
  refine L_iload_n_1 dX7_costs_5 ?_
  refine U_cv1 (d := d + 1) (lkR_RX7_121 rfl dX7_costs_6) (k_X7_isFollower _) ⟨pn_X7_isFollower, rfl, (Nat.le_of_ble_eq_true rfl), (Nat.le_of_ble_eq_true rfl), rfl⟩ (trivial) cfn (Nat.le_of_ble_eq_true rfl) ?_
  refine V_ifx_eq (tgt := 21) dX7_costs_9 (by decide) (fun h9 => ?_) (fun h9 => ?_)
  · refine L_aload_n_0 dX7_costs_21 ?_
    refine V_iconst (v := 1) (by decide) dX7_costs_22 ?_
    refine U_cv2 (d := d + 1) (lkR_RX7_30 rfl dX7_costs_23) (k_X7_fails _) ⟨pn_X7_fails, rfl, (Nat.le_of_ble_eq_true rfl), (Nat.le_of_ble_eq_true rfl), rfl⟩ (⟨_, _, rfl, rfl, rfl⟩) (cfS cf7) (Nat.le_of_ble_eq_true rfl) ?_
    exact V_iret dX7_costs_26 rfl rfl (⟨rfl, rfl⟩)
  · exact absurd (b2p h9) hs
theorem k_X7_refresh {g : G0} {j : Nat → Nat → Int64} (d : Nat) {i : Nat → Nat → Int32} {x : Int32} {f : Nat} (hx : x = nI f) (hf : f < 4) (hw : ¬ i 90 (24 + 6 * f + 3) = 1) {c : Nat} (hc : i 90 4 = nI c) (hb : c ≤ 6) {n : Nat} (hn : i 89 3 = nI n) (h6 : n ≤ 6)  : C g m_X7_refresh (d + 6) 0 0 false [.ref 89, .int x] (mk i j) (rets (some (.int (man (msv (th i 0) n) f c))) (mk (mrf (msv (th i 0) n) f c) j)) := by
  refine C_of (L := [some (.ref 89), some (.int x)]) rfl ?_
  refine L_aload_n_0 dX7_refresh_0 ?_
  refine V_iconst (v := 0) (by decide) dX7_refresh_1 ?_
  refine U_putI dX7_refresh_2 fl_RX7_19 rfl rfl rfl ?_
  refine L_iload_n_1 dX7_refresh_5 ?_
  refine U_cv1 (d := d + 5) (lkR_RX7_121 rfl dX7_refresh_6) (k_X7_isFollower _) ⟨pn_X7_isFollower, rfl, (Nat.le_of_ble_eq_true rfl), (Nat.le_of_ble_eq_true rfl), rfl⟩ (trivial) cfn (Nat.le_of_ble_eq_true rfl) ?_
  refine V_ifx_ne (tgt := 18) dX7_refresh_9 (by decide) (fun h9 => ?_) (fun h9 => ?_)
  · refine L_aload_n_0 dX7_refresh_18 ?_
    refine L_iload_n_1 dX7_refresh_19 ?_
    refine V_iconst (v := 3) (by decide) dX7_refresh_20 ?_
    refine U_cv3 (d := d + 5) (lkR_RX7_34 rfl dX7_refresh_21) (k_X7_of _ (f := f) (w := 3) hx rfl (hf) (by decide)) ⟨pn_X7_of, rfl, (Nat.le_of_ble_eq_true rfl), (Nat.le_of_ble_eq_true rfl), rfl⟩ (⟨_, _, rfl, rfl, rfl⟩) (cfS cf7) (Nat.le_of_ble_eq_true rfl) ?_
    refine V_iconst (v := 1) (by decide) dX7_refresh_24 ?_
    refine V_icmp_ne (tgt := 34) dX7_refresh_25 (by decide) (fun h25 => ?_) (fun h25 => ?_)
    · refine L_aload_n_0 dX7_refresh_34 ?_
      refine U_cV1 (d := d + 5) (lkR_RX7_93 rfl dX7_refresh_35) (k_X7_save _ (thn hn) h6) ⟨pn_X7_save, rfl, (Nat.le_of_ble_eq_true rfl), (Nat.le_of_ble_eq_true rfl), rfl⟩ (⟨_, _, rfl, rfl, rfl⟩) (cfS cf7) (Nat.le_of_ble_eq_true rfl) ?_
      refine L_aload_n_0 dX7_refresh_38 ?_
      refine L_iload_n_1 dX7_refresh_39 ?_
      refine U_cv2 (d := d + 5) (lkR_RX7_124 rfl dX7_refresh_40) (k_X7_refreshes _ hx hf (msc hc) hb) ⟨pn_X7_refreshes, rfl, (Nat.le_of_ble_eq_true rfl), (Nat.le_of_ble_eq_true rfl), rfl⟩ (⟨_, _, rfl, rfl, rfl⟩) (cfS cf7) (Nat.le_of_ble_eq_true rfl) ?_
      exact V_iret dX7_refresh_43 rfl rfl (⟨rfl, rfl⟩)
    · exact absurd h25 hw
  · exact absurd (witq (b := 3) hx (by omega) (by omega)) (b2z.mp h9)
theorem k_X7_refresh__2 {g : G0} {j : Nat → Nat → Int64} (d : Nat) {i : Nat → Nat → Int32} {x : Int32} {f : Nat} (hx : x = nI f) (hf : f < 4) (hw : i 90 (24 + 6 * f + 3) = 1)  : C g m_X7_refresh (d + 6) 0 0 false [.ref 89, .int x] (mk i j) (rets (some (.int 0)) (mk (th (th i 0) 2) j)) := by
  refine C_of (L := [some (.ref 89), some (.int x)]) rfl ?_
  refine L_aload_n_0 dX7_refresh_0 ?_
  refine V_iconst (v := 0) (by decide) dX7_refresh_1 ?_
  refine U_putI dX7_refresh_2 fl_RX7_19 rfl rfl rfl ?_
  refine L_iload_n_1 dX7_refresh_5 ?_
  refine U_cv1 (d := d + 5) (lkR_RX7_121 rfl dX7_refresh_6) (k_X7_isFollower _) ⟨pn_X7_isFollower, rfl, (Nat.le_of_ble_eq_true rfl), (Nat.le_of_ble_eq_true rfl), rfl⟩ (trivial) cfn (Nat.le_of_ble_eq_true rfl) ?_
  refine V_ifx_ne (tgt := 18) dX7_refresh_9 (by decide) (fun h9 => ?_) (fun h9 => ?_)
  · refine L_aload_n_0 dX7_refresh_18 ?_
    refine L_iload_n_1 dX7_refresh_19 ?_
    refine V_iconst (v := 3) (by decide) dX7_refresh_20 ?_
    refine U_cv3 (d := d + 5) (lkR_RX7_34 rfl dX7_refresh_21) (k_X7_of _ (f := f) (w := 3) hx rfl (hf) (by decide)) ⟨pn_X7_of, rfl, (Nat.le_of_ble_eq_true rfl), (Nat.le_of_ble_eq_true rfl), rfl⟩ (⟨_, _, rfl, rfl, rfl⟩) (cfS cf7) (Nat.le_of_ble_eq_true rfl) ?_
    refine V_iconst (v := 1) (by decide) dX7_refresh_24 ?_
    refine V_icmp_ne (tgt := 34) dX7_refresh_25 (by decide) (fun h25 => ?_) (fun h25 => ?_)
    · exact absurd hw h25
    · refine L_aload_n_0 dX7_refresh_28 ?_
      refine V_iconst (v := 2) (by decide) dX7_refresh_29 ?_
      refine U_cv2 (d := d + 5) (lkR_RX7_30 rfl dX7_refresh_30) (k_X7_fails _) ⟨pn_X7_fails, rfl, (Nat.le_of_ble_eq_true rfl), (Nat.le_of_ble_eq_true rfl), rfl⟩ (⟨_, _, rfl, rfl, rfl⟩) (cfS cf7) (Nat.le_of_ble_eq_true rfl) ?_
      exact V_iret dX7_refresh_33 rfl rfl (⟨rfl, rfl⟩)
  · exact absurd (witq (b := 3) hx (by omega) (by omega)) (b2z.mp h9)
theorem k_X7_refresh__1 {g : G0} {j : Nat → Nat → Int64} (d : Nat) {i : Nat → Nat → Int32} {x : Int32} (hs : ¬ wit x 0 3)  : C g m_X7_refresh (d + 6) 0 0 false [.ref 89, .int x] (mk i j) (rets (some (.int 0)) (mk (th (th i 0) 1) j)) := by
  refine C_of (L := [some (.ref 89), some (.int x)]) rfl ?_
  refine L_aload_n_0 dX7_refresh_0 ?_
  refine V_iconst (v := 0) (by decide) dX7_refresh_1 ?_
  refine U_putI dX7_refresh_2 fl_RX7_19 rfl rfl rfl ?_
  refine L_iload_n_1 dX7_refresh_5 ?_
  refine U_cv1 (d := d + 5) (lkR_RX7_121 rfl dX7_refresh_6) (k_X7_isFollower _) ⟨pn_X7_isFollower, rfl, (Nat.le_of_ble_eq_true rfl), (Nat.le_of_ble_eq_true rfl), rfl⟩ (trivial) cfn (Nat.le_of_ble_eq_true rfl) ?_
  refine V_ifx_ne (tgt := 18) dX7_refresh_9 (by decide) (fun h9 => ?_) (fun h9 => ?_)
  · exact absurd (b2p h9) hs
  · refine L_aload_n_0 dX7_refresh_12 ?_
    refine V_iconst (v := 1) (by decide) dX7_refresh_13 ?_
    refine U_cv2 (d := d + 5) (lkR_RX7_30 rfl dX7_refresh_14) (k_X7_fails _) ⟨pn_X7_fails, rfl, (Nat.le_of_ble_eq_true rfl), (Nat.le_of_ble_eq_true rfl), rfl⟩ (⟨_, _, rfl, rfl, rfl⟩) (cfS cf7) (Nat.le_of_ble_eq_true rfl) ?_
    exact V_iret dX7_refresh_17 rfl rfl (⟨rfl, rfl⟩)
theorem k_X7_sleep {g : G0} {j : Nat → Nat → Int64} (d : Nat) {i : Nat → Nat → Int32} {x : Int32} {f : Nat} (hx : x = nI f) (hf : f < 4) (hw : ¬ i 90 (24 + 6 * f + 3) = 1) {n : Nat} (hn : i 89 3 = nI n) (h6 : n ≤ 6)  : C g m_X7_sleep (d + 3) 0 0 false [.ref 89, .int x] (mk i j) (rets (some (.int (msl (up2 (msv (th i 0) n) 90 (24 + 6 * f + 3) 1) 4))) (mk (up2 (msv (th i 0) n) 90 (24 + 6 * f + 3) 1) j)) := by
  refine C_of (L := [some (.ref 89), some (.int x)]) rfl ?_
  refine L_aload_n_0 dX7_sleep_0 ?_
  refine V_iconst (v := 0) (by decide) dX7_sleep_1 ?_
  refine U_putI dX7_sleep_2 fl_RX7_19 rfl rfl rfl ?_
  refine L_iload_n_1 dX7_sleep_5 ?_
  refine U_cv1 (d := d + 2) (lkR_RX7_121 rfl dX7_sleep_6) (k_X7_isFollower _) ⟨pn_X7_isFollower, rfl, (Nat.le_of_ble_eq_true rfl), (Nat.le_of_ble_eq_true rfl), rfl⟩ (trivial) cfn (Nat.le_of_ble_eq_true rfl) ?_
  refine V_ifx_ne (tgt := 18) dX7_sleep_9 (by decide) (fun h9 => ?_) (fun h9 => ?_)
  · refine L_aload_n_0 dX7_sleep_18 ?_
    refine L_iload_n_1 dX7_sleep_19 ?_
    refine V_iconst (v := 3) (by decide) dX7_sleep_20 ?_
    refine U_cv3 (d := d + 2) (lkR_RX7_34 rfl dX7_sleep_21) (k_X7_of _ (f := f) (w := 3) hx rfl (hf) (by decide)) ⟨pn_X7_of, rfl, (Nat.le_of_ble_eq_true rfl), (Nat.le_of_ble_eq_true rfl), rfl⟩ (⟨_, _, rfl, rfl, rfl⟩) (cfS cf7) (Nat.le_of_ble_eq_true rfl) ?_
    refine V_iconst (v := 1) (by decide) dX7_sleep_24 ?_
    refine V_icmp_ne (tgt := 34) dX7_sleep_25 (by decide) (fun h25 => ?_) (fun h25 => ?_)
    · refine L_aload_n_0 dX7_sleep_34 ?_
      refine U_cV1 (d := d + 2) (lkR_RX7_93 rfl dX7_sleep_35) (k_X7_save _ (thn hn) h6) ⟨pn_X7_save, rfl, (Nat.le_of_ble_eq_true rfl), (Nat.le_of_ble_eq_true rfl), rfl⟩ (⟨_, _, rfl, rfl, rfl⟩) (cfS cf7) (Nat.le_of_ble_eq_true rfl) ?_
      refine L_aload_n_0 dX7_sleep_38 ?_
      refine L_iload_n_1 dX7_sleep_39 ?_
      refine V_iconst (v := 1) (by decide) dX7_sleep_40 ?_
      refine U_cv3 (d := d + 2) (lkR_RX7_127 rfl dX7_sleep_41) (k_X7_turns _ hx hf) ⟨pn_X7_turns, rfl, (Nat.le_of_ble_eq_true rfl), (Nat.le_of_ble_eq_true rfl), rfl⟩ (⟨_, _, rfl, rfl, rfl⟩) (cfS cf7) (Nat.le_of_ble_eq_true rfl) ?_
      exact V_iret dX7_sleep_44 rfl rfl (⟨rfl, rfl⟩)
    · exact absurd h25 hw
  · exact absurd (witq (b := 3) hx (by omega) (by omega)) (b2z.mp h9)
theorem k_X7_sleep__2 {g : G0} {j : Nat → Nat → Int64} (d : Nat) {i : Nat → Nat → Int32} {x : Int32} {f : Nat} (hx : x = nI f) (hf : f < 4) (hw : i 90 (24 + 6 * f + 3) = 1)  : C g m_X7_sleep (d + 3) 0 0 false [.ref 89, .int x] (mk i j) (rets (some (.int 0)) (mk (th (th i 0) 2) j)) := by
  refine C_of (L := [some (.ref 89), some (.int x)]) rfl ?_
  refine L_aload_n_0 dX7_sleep_0 ?_
  refine V_iconst (v := 0) (by decide) dX7_sleep_1 ?_
  refine U_putI dX7_sleep_2 fl_RX7_19 rfl rfl rfl ?_
  refine L_iload_n_1 dX7_sleep_5 ?_
  refine U_cv1 (d := d + 2) (lkR_RX7_121 rfl dX7_sleep_6) (k_X7_isFollower _) ⟨pn_X7_isFollower, rfl, (Nat.le_of_ble_eq_true rfl), (Nat.le_of_ble_eq_true rfl), rfl⟩ (trivial) cfn (Nat.le_of_ble_eq_true rfl) ?_
  refine V_ifx_ne (tgt := 18) dX7_sleep_9 (by decide) (fun h9 => ?_) (fun h9 => ?_)
  · refine L_aload_n_0 dX7_sleep_18 ?_
    refine L_iload_n_1 dX7_sleep_19 ?_
    refine V_iconst (v := 3) (by decide) dX7_sleep_20 ?_
    refine U_cv3 (d := d + 2) (lkR_RX7_34 rfl dX7_sleep_21) (k_X7_of _ (f := f) (w := 3) hx rfl (hf) (by decide)) ⟨pn_X7_of, rfl, (Nat.le_of_ble_eq_true rfl), (Nat.le_of_ble_eq_true rfl), rfl⟩ (⟨_, _, rfl, rfl, rfl⟩) (cfS cf7) (Nat.le_of_ble_eq_true rfl) ?_
    refine V_iconst (v := 1) (by decide) dX7_sleep_24 ?_
    refine V_icmp_ne (tgt := 34) dX7_sleep_25 (by decide) (fun h25 => ?_) (fun h25 => ?_)
    · exact absurd hw h25
    · refine L_aload_n_0 dX7_sleep_28 ?_
      refine V_iconst (v := 2) (by decide) dX7_sleep_29 ?_
      refine U_cv2 (d := d + 2) (lkR_RX7_30 rfl dX7_sleep_30) (k_X7_fails _) ⟨pn_X7_fails, rfl, (Nat.le_of_ble_eq_true rfl), (Nat.le_of_ble_eq_true rfl), rfl⟩ (⟨_, _, rfl, rfl, rfl⟩) (cfS cf7) (Nat.le_of_ble_eq_true rfl) ?_
      exact V_iret dX7_sleep_33 rfl rfl (⟨rfl, rfl⟩)
  · exact absurd (witq (b := 3) hx (by omega) (by omega)) (b2z.mp h9)
theorem k_X7_sleep__1 {g : G0} {j : Nat → Nat → Int64} (d : Nat) {i : Nat → Nat → Int32} {x : Int32} (hs : ¬ wit x 0 3)  : C g m_X7_sleep (d + 3) 0 0 false [.ref 89, .int x] (mk i j) (rets (some (.int 0)) (mk (th (th i 0) 1) j)) := by
  refine C_of (L := [some (.ref 89), some (.int x)]) rfl ?_
  refine L_aload_n_0 dX7_sleep_0 ?_
  refine V_iconst (v := 0) (by decide) dX7_sleep_1 ?_
  refine U_putI dX7_sleep_2 fl_RX7_19 rfl rfl rfl ?_
  refine L_iload_n_1 dX7_sleep_5 ?_
  refine U_cv1 (d := d + 2) (lkR_RX7_121 rfl dX7_sleep_6) (k_X7_isFollower _) ⟨pn_X7_isFollower, rfl, (Nat.le_of_ble_eq_true rfl), (Nat.le_of_ble_eq_true rfl), rfl⟩ (trivial) cfn (Nat.le_of_ble_eq_true rfl) ?_
  refine V_ifx_ne (tgt := 18) dX7_sleep_9 (by decide) (fun h9 => ?_) (fun h9 => ?_)
  · exact absurd (b2p h9) hs
  · refine L_aload_n_0 dX7_sleep_12 ?_
    refine V_iconst (v := 1) (by decide) dX7_sleep_13 ?_
    refine U_cv2 (d := d + 2) (lkR_RX7_30 rfl dX7_sleep_14) (k_X7_fails _) ⟨pn_X7_fails, rfl, (Nat.le_of_ble_eq_true rfl), (Nat.le_of_ble_eq_true rfl), rfl⟩ (⟨_, _, rfl, rfl, rfl⟩) (cfS cf7) (Nat.le_of_ble_eq_true rfl) ?_
    exact V_iret dX7_sleep_17 rfl rfl (⟨rfl, rfl⟩)
theorem k_X7_wake {g : G0} {j : Nat → Nat → Int64} (d : Nat) {i : Nat → Nat → Int32} {x : Int32} {f : Nat} (hx : x = nI f) (hf : f < 4) (hw : ¬ i 90 (24 + 6 * f + 3) = 0) {n : Nat} (hn : i 89 3 = nI n) (h6 : n ≤ 6)  : C g m_X7_wake (d + 3) 0 0 false [.ref 89, .int x] (mk i j) (rets (some (.int (msl (up2 (msv (th i 0) n) 90 (24 + 6 * f + 3) 0) 4))) (mk (up2 (msv (th i 0) n) 90 (24 + 6 * f + 3) 0) j)) := by
  refine C_of (L := [some (.ref 89), some (.int x)]) rfl ?_
  refine L_aload_n_0 dX7_wake_0 ?_
  refine V_iconst (v := 0) (by decide) dX7_wake_1 ?_
  refine U_putI dX7_wake_2 fl_RX7_19 rfl rfl rfl ?_
  refine L_iload_n_1 dX7_wake_5 ?_
  refine U_cv1 (d := d + 2) (lkR_RX7_121 rfl dX7_wake_6) (k_X7_isFollower _) ⟨pn_X7_isFollower, rfl, (Nat.le_of_ble_eq_true rfl), (Nat.le_of_ble_eq_true rfl), rfl⟩ (trivial) cfn (Nat.le_of_ble_eq_true rfl) ?_
  refine V_ifx_ne (tgt := 18) dX7_wake_9 (by decide) (fun h9 => ?_) (fun h9 => ?_)
  · refine L_aload_n_0 dX7_wake_18 ?_
    refine L_iload_n_1 dX7_wake_19 ?_
    refine V_iconst (v := 3) (by decide) dX7_wake_20 ?_
    refine U_cv3 (d := d + 2) (lkR_RX7_34 rfl dX7_wake_21) (k_X7_of _ (f := f) (w := 3) hx rfl (hf) (by decide)) ⟨pn_X7_of, rfl, (Nat.le_of_ble_eq_true rfl), (Nat.le_of_ble_eq_true rfl), rfl⟩ (⟨_, _, rfl, rfl, rfl⟩) (cfS cf7) (Nat.le_of_ble_eq_true rfl) ?_
    refine V_ifx_ne (tgt := 33) dX7_wake_24 (by decide) (fun h24 => ?_) (fun h24 => ?_)
    · refine L_aload_n_0 dX7_wake_33 ?_
      refine U_cV1 (d := d + 2) (lkR_RX7_93 rfl dX7_wake_34) (k_X7_save _ (thn hn) h6) ⟨pn_X7_save, rfl, (Nat.le_of_ble_eq_true rfl), (Nat.le_of_ble_eq_true rfl), rfl⟩ (⟨_, _, rfl, rfl, rfl⟩) (cfS cf7) (Nat.le_of_ble_eq_true rfl) ?_
      refine L_aload_n_0 dX7_wake_37 ?_
      refine L_iload_n_1 dX7_wake_38 ?_
      refine V_iconst (v := 0) (by decide) dX7_wake_39 ?_
      refine U_cv3 (d := d + 2) (lkR_RX7_127 rfl dX7_wake_40) (k_X7_turns _ hx hf) ⟨pn_X7_turns, rfl, (Nat.le_of_ble_eq_true rfl), (Nat.le_of_ble_eq_true rfl), rfl⟩ (⟨_, _, rfl, rfl, rfl⟩) (cfS cf7) (Nat.le_of_ble_eq_true rfl) ?_
      exact V_iret dX7_wake_43 rfl rfl (⟨rfl, rfl⟩)
    · exact absurd h24 hw
  · exact absurd (witq (b := 3) hx (by omega) (by omega)) (b2z.mp h9)
theorem k_X7_wake__2 {g : G0} {j : Nat → Nat → Int64} (d : Nat) {i : Nat → Nat → Int32} {x : Int32} {f : Nat} (hx : x = nI f) (hf : f < 4) (hw : i 90 (24 + 6 * f + 3) = 0)  : C g m_X7_wake (d + 3) 0 0 false [.ref 89, .int x] (mk i j) (rets (some (.int 0)) (mk (th (th i 0) 2) j)) := by
  refine C_of (L := [some (.ref 89), some (.int x)]) rfl ?_
  refine L_aload_n_0 dX7_wake_0 ?_
  refine V_iconst (v := 0) (by decide) dX7_wake_1 ?_
  refine U_putI dX7_wake_2 fl_RX7_19 rfl rfl rfl ?_
  refine L_iload_n_1 dX7_wake_5 ?_
  refine U_cv1 (d := d + 2) (lkR_RX7_121 rfl dX7_wake_6) (k_X7_isFollower _) ⟨pn_X7_isFollower, rfl, (Nat.le_of_ble_eq_true rfl), (Nat.le_of_ble_eq_true rfl), rfl⟩ (trivial) cfn (Nat.le_of_ble_eq_true rfl) ?_
  refine V_ifx_ne (tgt := 18) dX7_wake_9 (by decide) (fun h9 => ?_) (fun h9 => ?_)
  · refine L_aload_n_0 dX7_wake_18 ?_
    refine L_iload_n_1 dX7_wake_19 ?_
    refine V_iconst (v := 3) (by decide) dX7_wake_20 ?_
    refine U_cv3 (d := d + 2) (lkR_RX7_34 rfl dX7_wake_21) (k_X7_of _ (f := f) (w := 3) hx rfl (hf) (by decide)) ⟨pn_X7_of, rfl, (Nat.le_of_ble_eq_true rfl), (Nat.le_of_ble_eq_true rfl), rfl⟩ (⟨_, _, rfl, rfl, rfl⟩) (cfS cf7) (Nat.le_of_ble_eq_true rfl) ?_
    refine V_ifx_ne (tgt := 33) dX7_wake_24 (by decide) (fun h24 => ?_) (fun h24 => ?_)
    · exact absurd hw h24
    · refine L_aload_n_0 dX7_wake_27 ?_
      refine V_iconst (v := 2) (by decide) dX7_wake_28 ?_
      refine U_cv2 (d := d + 2) (lkR_RX7_30 rfl dX7_wake_29) (k_X7_fails _) ⟨pn_X7_fails, rfl, (Nat.le_of_ble_eq_true rfl), (Nat.le_of_ble_eq_true rfl), rfl⟩ (⟨_, _, rfl, rfl, rfl⟩) (cfS cf7) (Nat.le_of_ble_eq_true rfl) ?_
      exact V_iret dX7_wake_32 rfl rfl (⟨rfl, rfl⟩)
  · exact absurd (witq (b := 3) hx (by omega) (by omega)) (b2z.mp h9)
theorem k_X7_wake__1 {g : G0} {j : Nat → Nat → Int64} (d : Nat) {i : Nat → Nat → Int32} {x : Int32} (hs : ¬ wit x 0 3)  : C g m_X7_wake (d + 3) 0 0 false [.ref 89, .int x] (mk i j) (rets (some (.int 0)) (mk (th (th i 0) 1) j)) := by
  refine C_of (L := [some (.ref 89), some (.int x)]) rfl ?_
  refine L_aload_n_0 dX7_wake_0 ?_
  refine V_iconst (v := 0) (by decide) dX7_wake_1 ?_
  refine U_putI dX7_wake_2 fl_RX7_19 rfl rfl rfl ?_
  refine L_iload_n_1 dX7_wake_5 ?_
  refine U_cv1 (d := d + 2) (lkR_RX7_121 rfl dX7_wake_6) (k_X7_isFollower _) ⟨pn_X7_isFollower, rfl, (Nat.le_of_ble_eq_true rfl), (Nat.le_of_ble_eq_true rfl), rfl⟩ (trivial) cfn (Nat.le_of_ble_eq_true rfl) ?_
  refine V_ifx_ne (tgt := 18) dX7_wake_9 (by decide) (fun h9 => ?_) (fun h9 => ?_)
  · exact absurd (b2p h9) hs
  · refine L_aload_n_0 dX7_wake_12 ?_
    refine V_iconst (v := 1) (by decide) dX7_wake_13 ?_
    refine U_cv2 (d := d + 2) (lkR_RX7_30 rfl dX7_wake_14) (k_X7_fails _) ⟨pn_X7_fails, rfl, (Nat.le_of_ble_eq_true rfl), (Nat.le_of_ble_eq_true rfl), rfl⟩ (⟨_, _, rfl, rfl, rfl⟩) (cfS cf7) (Nat.le_of_ble_eq_true rfl) ?_
    exact V_iret dX7_wake_17 rfl rfl (⟨rfl, rfl⟩)
def mta (i : Nat → Nat → Int32) (f : Nat) : Nat → Nat → Int32 := up2 (up2 (up2 i 90 (24 + 6 * f + 0) 0) 90 (24 + 6 * f + 1) 0) 90 (24 + 6 * f + 2) 0
theorem k_X7_throwAway {g : G0} {j : Nat → Nat → Int64} (d : Nat) {i : Nat → Nat → Int32} {x : Int32} {f : Nat} (hx : x = nI f) (hf : f < 4) {n : Nat} (hn : i 89 3 = nI n) (h6 : n ≤ 6)  : C g m_X7_throwAway (d + 2) 0 0 false [.ref 89, .int x] (mk i j) (rets (some (.int (mtS (msv (th i 0) n) f))) (mk (mta (msv (th i 0) n) f) j)) := by
  refine C_of (L := [some (.ref 89), some (.int x), none]) rfl ?_
  refine L_aload_n_0 dX7_throwAway_0 ?_
  refine V_iconst (v := 0) (by decide) dX7_throwAway_1 ?_
  refine U_putI dX7_throwAway_2 fl_RX7_19 rfl rfl rfl ?_
  refine L_iload_n_1 dX7_throwAway_5 ?_
  refine U_cv1 (d := d + 1) (lkR_RX7_121 rfl dX7_throwAway_6) (k_X7_isFollower _) ⟨pn_X7_isFollower, rfl, (Nat.le_of_ble_eq_true rfl), (Nat.le_of_ble_eq_true rfl), rfl⟩ (trivial) cfn (Nat.le_of_ble_eq_true rfl) ?_
  refine V_ifx_ne (tgt := 18) dX7_throwAway_9 (by decide) (fun h9 => ?_) (fun h9 => ?_)
  · refine L_aload_n_0 dX7_throwAway_18 ?_
    refine U_cV1 (d := d + 1) (lkR_RX7_93 rfl dX7_throwAway_19) (k_X7_save _ (thn hn) h6) ⟨pn_X7_save, rfl, (Nat.le_of_ble_eq_true rfl), (Nat.le_of_ble_eq_true rfl), rfl⟩ (⟨_, _, rfl, rfl, rfl⟩) (cfS cf7) (Nat.le_of_ble_eq_true rfl) ?_
    refine L_aload_n_0 dX7_throwAway_22 ?_
    refine L_iload_n_1 dX7_throwAway_23 ?_
    refine U_cv2 (d := d + 1) (lkR_RX7_130 rfl dX7_throwAway_24) (k_X7_tellsStreets _ hx hf) ⟨pn_X7_tellsStreets, rfl, (Nat.le_of_ble_eq_true rfl), (Nat.le_of_ble_eq_true rfl), rfl⟩ (⟨_, _, rfl, rfl, rfl⟩) (cfS cf7) (Nat.le_of_ble_eq_true rfl) ?_
    refine V_istore_n_2 dX7_throwAway_27 (Nat.le_of_ble_eq_true rfl) rfl ?_
    refine L_aload_n_0 dX7_throwAway_28 ?_
    refine L_iload_n_1 dX7_throwAway_29 ?_
    refine V_iconst (v := 0) (by decide) dX7_throwAway_30 ?_
    refine V_iconst (v := 0) (by decide) dX7_throwAway_31 ?_
    refine U_cV4 (d := d + 1) (lkR_RX7_38 rfl dX7_throwAway_32) (k_X7_setOf _ (f := f) (w := 0) hx rfl (hf) (by decide)) ⟨pn_X7_setOf, rfl, (Nat.le_of_ble_eq_true rfl), (Nat.le_of_ble_eq_true rfl), rfl⟩ (⟨_, _, rfl, rfl, rfl⟩) (cfS cf7) (Nat.le_of_ble_eq_true rfl) ?_
    refine L_aload_n_0 dX7_throwAway_35 ?_
    refine L_iload_n_1 dX7_throwAway_36 ?_
    refine V_iconst (v := 1) (by decide) dX7_throwAway_37 ?_
    refine V_iconst (v := 0) (by decide) dX7_throwAway_38 ?_
    refine U_cV4 (d := d + 1) (lkR_RX7_38 rfl dX7_throwAway_39) (k_X7_setOf _ (f := f) (w := 1) hx rfl (hf) (by decide)) ⟨pn_X7_setOf, rfl, (Nat.le_of_ble_eq_true rfl), (Nat.le_of_ble_eq_true rfl), rfl⟩ (⟨_, _, rfl, rfl, rfl⟩) (cfS cf7) (Nat.le_of_ble_eq_true rfl) ?_
    refine L_aload_n_0 dX7_throwAway_42 ?_
    refine L_iload_n_1 dX7_throwAway_43 ?_
    refine V_iconst (v := 2) (by decide) dX7_throwAway_44 ?_
    refine V_iconst (v := 0) (by decide) dX7_throwAway_45 ?_
    refine U_cV4 (d := d + 1) (lkR_RX7_38 rfl dX7_throwAway_46) (k_X7_setOf _ (f := f) (w := 2) hx rfl (hf) (by decide)) ⟨pn_X7_setOf, rfl, (Nat.le_of_ble_eq_true rfl), (Nat.le_of_ble_eq_true rfl), rfl⟩ (⟨_, _, rfl, rfl, rfl⟩) (cfS cf7) (Nat.le_of_ble_eq_true rfl) ?_
    refine L_iload_n_2 dX7_throwAway_49 ?_
    exact V_iret dX7_throwAway_50 rfl rfl (⟨rfl, rfl⟩)
  · exact absurd (witq (b := 3) hx (by omega) (by omega)) (b2z.mp h9)
theorem k_X7_throwAway__1 {g : G0} {j : Nat → Nat → Int64} (d : Nat) {i : Nat → Nat → Int32} {x : Int32} (hs : ¬ wit x 0 3)  : C g m_X7_throwAway (d + 2) 0 0 false [.ref 89, .int x] (mk i j) (rets (some (.int 0)) (mk (th (th i 0) 1) j)) := by
  refine C_of (L := [some (.ref 89), some (.int x), none]) rfl ?_
  refine L_aload_n_0 dX7_throwAway_0 ?_
  refine V_iconst (v := 0) (by decide) dX7_throwAway_1 ?_
  refine U_putI dX7_throwAway_2 fl_RX7_19 rfl rfl rfl ?_
  refine L_iload_n_1 dX7_throwAway_5 ?_
  refine U_cv1 (d := d + 1) (lkR_RX7_121 rfl dX7_throwAway_6) (k_X7_isFollower _) ⟨pn_X7_isFollower, rfl, (Nat.le_of_ble_eq_true rfl), (Nat.le_of_ble_eq_true rfl), rfl⟩ (trivial) cfn (Nat.le_of_ble_eq_true rfl) ?_
  refine V_ifx_ne (tgt := 18) dX7_throwAway_9 (by decide) (fun h9 => ?_) (fun h9 => ?_)
  · exact absurd (b2p h9) hs
  · refine L_aload_n_0 dX7_throwAway_12 ?_
    refine V_iconst (v := 1) (by decide) dX7_throwAway_13 ?_
    refine U_cv2 (d := d + 1) (lkR_RX7_30 rfl dX7_throwAway_14) (k_X7_fails _) ⟨pn_X7_fails, rfl, (Nat.le_of_ble_eq_true rfl), (Nat.le_of_ble_eq_true rfl), rfl⟩ (⟨_, _, rfl, rfl, rfl⟩) (cfS cf7) (Nat.le_of_ble_eq_true rfl) ?_
    exact V_iret dX7_throwAway_17 rfl rfl (⟨rfl, rfl⟩)
theorem k_X7_has {g : G0} {j : Nat → Nat → Int64} (d : Nat) {i : Nat → Nat → Int32} {x : Int32} {f : Nat} (hx : x = nI f) (hf : f < 4) {y : Int32} (ht : wit y 0 29)  : C g m_X7_has (d + 2) 0 0 false [.ref 89, .int x, .int y] (mk i j) (rets (some (.int (b2i (mbt (i 90 (24 + 6 * f + 1)) y = 1)))) (mk (th i 0) j)) := by
  refine C_of (L := [some (.ref 89), some (.int x), some (.int y)]) rfl ?_
  refine L_aload_n_0 dX7_has_0 ?_
  refine L_iload_n_1 dX7_has_1 ?_
  refine U_cv1 (d := d + 1) (lkR_RX7_121 rfl dX7_has_2) (k_X7_isFollower _) ⟨pn_X7_isFollower, rfl, (Nat.le_of_ble_eq_true rfl), (Nat.le_of_ble_eq_true rfl), rfl⟩ (trivial) cfn (Nat.le_of_ble_eq_true rfl) ?_
  refine V_ifx_eq (tgt := 19) dX7_has_5 (by decide) (fun h5 => ?_) (fun h5 => ?_)
  · exact absurd (witq (b := 3) hx (by omega) (by omega)) (b2z.mp h5)
  · refine L_iload_n_2 dX7_has_8 ?_
    refine U_cv1 (d := d + 1) (lkR_RX7_87 rfl dX7_has_9) (k_X7_isStreet _) ⟨pn_X7_isStreet, rfl, (Nat.le_of_ble_eq_true rfl), (Nat.le_of_ble_eq_true rfl), rfl⟩ (trivial) cfn (Nat.le_of_ble_eq_true rfl) ?_
    refine V_ifx_eq (tgt := 19) dX7_has_12 (by decide) (fun h12 => ?_) (fun h12 => ?_)
    · exact absurd ht (b2z.mp h12)
    · refine V_iconst (v := 0) (by decide) dX7_has_15 ?_
      refine V_goto (tgt := 20) dX7_has_16 (by decide) ?_
      refine U_putI dX7_has_20 fl_RX7_19 rfl rfl rfl ?_
      refine L_aload_n_0 dX7_has_23 ?_
      refine U_getI dX7_has_24 fl_RX7_19 rfl rfl ?_
      refine V_eqv (y := 0) up2_eq ?_
      refine V_ifx_ne (tgt := 43) dX7_has_27 (by decide) (fun h27 => ?_) (fun h27 => ?_)
      · exfalso; revert h27; decide
      · refine L_aload_n_0 dX7_has_30 ?_
        refine L_iload_n_1 dX7_has_31 ?_
        refine L_iload_n_2 dX7_has_32 ?_
        refine U_cv3 (d := d + 1) (lkR_RX7_136 rfl dX7_has_33) (k_X7_hasStreet _ hx hf) ⟨pn_X7_hasStreet, rfl, (Nat.le_of_ble_eq_true rfl), (Nat.le_of_ble_eq_true rfl), rfl⟩ (⟨_, _, rfl, rfl, rfl⟩) (cfS cf7) (Nat.le_of_ble_eq_true rfl) ?_
        refine V_ifx_eq (tgt := 43) dX7_has_36 (by decide) (fun h36 => ?_) (fun h36 => ?_)
        · refine V_iconst (v := 0) (by decide) dX7_has_43 ?_
          exact V_iret dX7_has_44 rfl rfl (rtI (b2f (b2z.mp h36)).symm)
        · refine V_iconst (v := 1) (by decide) dX7_has_39 ?_
          refine V_goto (tgt := 44) dX7_has_40 (by decide) ?_
          exact V_iret dX7_has_44 rfl rfl (rtI (b2t (b2p h36)).symm)
theorem k_X7_has__1 {g : G0} {j : Nat → Nat → Int64} (d : Nat) {i : Nat → Nat → Int32} {x y : Int32} (hs : ¬ (wit x 0 3 ∧ wit y 0 29))  : C g m_X7_has (d + 2) 0 0 false [.ref 89, .int x, .int y] (mk i j) (rets (some (.int 0)) (mk (th i 1) j)) := by
  refine C_of (L := [some (.ref 89), some (.int x), some (.int y)]) rfl ?_
  refine L_aload_n_0 dX7_has_0 ?_
  refine L_iload_n_1 dX7_has_1 ?_
  refine U_cv1 (d := d + 1) (lkR_RX7_121 rfl dX7_has_2) (k_X7_isFollower _) ⟨pn_X7_isFollower, rfl, (Nat.le_of_ble_eq_true rfl), (Nat.le_of_ble_eq_true rfl), rfl⟩ (trivial) cfn (Nat.le_of_ble_eq_true rfl) ?_
  refine V_ifx_eq (tgt := 19) dX7_has_5 (by decide) (fun h5 => ?_) (fun h5 => ?_)
  · refine V_iconst (v := 1) (by decide) dX7_has_19 ?_
    refine U_putI dX7_has_20 fl_RX7_19 rfl rfl rfl ?_
    refine L_aload_n_0 dX7_has_23 ?_
    refine U_getI dX7_has_24 fl_RX7_19 rfl rfl ?_
    refine V_eqv (y := 1) up2_eq ?_
    refine V_ifx_ne (tgt := 43) dX7_has_27 (by decide) (fun h27 => ?_) (fun h27 => ?_)
    · refine V_iconst (v := 0) (by decide) dX7_has_43 ?_
      exact V_iret dX7_has_44 rfl rfl (⟨rfl, rfl⟩)
    · exfalso; revert h27; decide
  · refine L_iload_n_2 dX7_has_8 ?_
    refine U_cv1 (d := d + 1) (lkR_RX7_87 rfl dX7_has_9) (k_X7_isStreet _) ⟨pn_X7_isStreet, rfl, (Nat.le_of_ble_eq_true rfl), (Nat.le_of_ble_eq_true rfl), rfl⟩ (trivial) cfn (Nat.le_of_ble_eq_true rfl) ?_
    refine V_ifx_eq (tgt := 19) dX7_has_12 (by decide) (fun h12 => ?_) (fun h12 => ?_)
    · refine V_iconst (v := 1) (by decide) dX7_has_19 ?_
      refine U_putI dX7_has_20 fl_RX7_19 rfl rfl rfl ?_
      refine L_aload_n_0 dX7_has_23 ?_
      refine U_getI dX7_has_24 fl_RX7_19 rfl rfl ?_
      refine V_eqv (y := 1) up2_eq ?_
      refine V_ifx_ne (tgt := 43) dX7_has_27 (by decide) (fun h27 => ?_) (fun h27 => ?_)
      · refine V_iconst (v := 0) (by decide) dX7_has_43 ?_
        exact V_iret dX7_has_44 rfl rfl (⟨rfl, rfl⟩)
      · exfalso; revert h27; decide
    · exact absurd ⟨b2p h5, b2p h12⟩ hs
theorem k_X7_isRight {g : G0} {j : Nat → Nat → Int64} (d : Nat) {i : Nat → Nat → Int32} {x : Int32} {f : Nat} (hx : x = nI f) (hf : f < 4)  : C g m_X7_isRight (d + 2) 0 0 false [.ref 89, .int x] (mk i j) (rets (some (.int (b2i (i 90 (24 + 6 * f + 0) = 1 ∧ i 90 (24 + 6 * f + 1) = i 90 1)))) (mk (th i 0) j)) := by
  refine C_of (L := [some (.ref 89), some (.int x)]) rfl ?_
  refine L_aload_n_0 dX7_isRight_0 ?_
  refine L_iload_n_1 dX7_isRight_1 ?_
  refine U_cv1 (d := d + 1) (lkR_RX7_121 rfl dX7_isRight_2) (k_X7_isFollower _) ⟨pn_X7_isFollower, rfl, (Nat.le_of_ble_eq_true rfl), (Nat.le_of_ble_eq_true rfl), rfl⟩ (trivial) cfn (Nat.le_of_ble_eq_true rfl) ?_
  refine V_ifx_eq (tgt := 12) dX7_isRight_5 (by decide) (fun h5 => ?_) (fun h5 => ?_)
  · exact absurd (witq (b := 3) hx (by omega) (by omega)) (b2z.mp h5)
  · refine V_iconst (v := 0) (by decide) dX7_isRight_8 ?_
    refine V_goto (tgt := 13) dX7_isRight_9 (by decide) ?_
    refine U_putI dX7_isRight_13 fl_RX7_19 rfl rfl rfl ?_
    refine L_aload_n_0 dX7_isRight_16 ?_
    refine U_getI dX7_isRight_17 fl_RX7_19 rfl rfl ?_
    refine V_eqv (y := 0) up2_eq ?_
    refine V_ifx_ne (tgt := 52) dX7_isRight_20 (by decide) (fun h20 => ?_) (fun h20 => ?_)
    · exfalso; revert h20; decide
    · refine L_aload_n_0 dX7_isRight_23 ?_
      refine L_iload_n_1 dX7_isRight_24 ?_
      refine V_iconst (v := 0) (by decide) dX7_isRight_25 ?_
      refine U_cv3 (d := d + 1) (lkR_RX7_34 rfl dX7_isRight_26) (k_X7_of _ (f := f) (w := 0) hx rfl (hf) (by decide)) ⟨pn_X7_of, rfl, (Nat.le_of_ble_eq_true rfl), (Nat.le_of_ble_eq_true rfl), rfl⟩ (⟨_, _, rfl, rfl, rfl⟩) (cfS cf7) (Nat.le_of_ble_eq_true rfl) ?_
      refine V_iconst (v := 1) (by decide) dX7_isRight_29 ?_
      refine V_icmp_ne (tgt := 52) dX7_isRight_30 (by decide) (fun h30 => ?_) (fun h30 => ?_)
      · refine V_iconst (v := 0) (by decide) dX7_isRight_52 ?_
        exact V_iret dX7_isRight_53 rfl rfl (rtI (b2f fun z => h30 z.1).symm)
      · refine L_aload_n_0 dX7_isRight_33 ?_
        refine L_iload_n_1 dX7_isRight_34 ?_
        refine V_iconst (v := 1) (by decide) dX7_isRight_35 ?_
        refine U_cv3 (d := d + 1) (lkR_RX7_34 rfl dX7_isRight_36) (k_X7_of _ (f := f) (w := 1) hx rfl (hf) (by decide)) ⟨pn_X7_of, rfl, (Nat.le_of_ble_eq_true rfl), (Nat.le_of_ble_eq_true rfl), rfl⟩ (⟨_, _, rfl, rfl, rfl⟩) (cfS cf7) (Nat.le_of_ble_eq_true rfl) ?_
        refine L_aload_n_0 dX7_isRight_39 ?_
        refine U_getR (r := 90) dX7_isRight_40 fl_RX7_7 rfl rfl rfl ?_
        refine V_iconst (v := 1) (by decide) dX7_isRight_43 ?_
        refine U_iald (n := 1) dX7_isRight_44 rfl (rfl) (by decide) (by decide) ?_
        refine V_icmp_ne (tgt := 52) dX7_isRight_45 (by decide) (fun h45 => ?_) (fun h45 => ?_)
        · refine V_iconst (v := 0) (by decide) dX7_isRight_52 ?_
          exact V_iret dX7_isRight_53 rfl rfl (rtI (b2f fun z => h45 z.2).symm)
        · refine V_iconst (v := 1) (by decide) dX7_isRight_48 ?_
          refine V_goto (tgt := 53) dX7_isRight_49 (by decide) ?_
          exact V_iret dX7_isRight_53 rfl rfl (rtI (b2t ⟨h30, h45⟩).symm)
theorem k_X7_isRight__1 {g : G0} {j : Nat → Nat → Int64} (d : Nat) {i : Nat → Nat → Int32} {x : Int32} (hs : ¬ wit x 0 3)  : C g m_X7_isRight (d + 2) 0 0 false [.ref 89, .int x] (mk i j) (rets (some (.int 0)) (mk (th i 1) j)) := by
  refine C_of (L := [some (.ref 89), some (.int x)]) rfl ?_
  refine L_aload_n_0 dX7_isRight_0 ?_
  refine L_iload_n_1 dX7_isRight_1 ?_
  refine U_cv1 (d := d + 1) (lkR_RX7_121 rfl dX7_isRight_2) (k_X7_isFollower _) ⟨pn_X7_isFollower, rfl, (Nat.le_of_ble_eq_true rfl), (Nat.le_of_ble_eq_true rfl), rfl⟩ (trivial) cfn (Nat.le_of_ble_eq_true rfl) ?_
  refine V_ifx_eq (tgt := 12) dX7_isRight_5 (by decide) (fun h5 => ?_) (fun h5 => ?_)
  · refine V_iconst (v := 1) (by decide) dX7_isRight_12 ?_
    refine U_putI dX7_isRight_13 fl_RX7_19 rfl rfl rfl ?_
    refine L_aload_n_0 dX7_isRight_16 ?_
    refine U_getI dX7_isRight_17 fl_RX7_19 rfl rfl ?_
    refine V_eqv (y := 1) up2_eq ?_
    refine V_ifx_ne (tgt := 52) dX7_isRight_20 (by decide) (fun h20 => ?_) (fun h20 => ?_)
    · refine V_iconst (v := 0) (by decide) dX7_isRight_52 ?_
      exact V_iret dX7_isRight_53 rfl rfl (⟨rfl, rfl⟩)
    · exfalso; revert h20; decide
  · exact absurd (b2p h5) hs
theorem k_X7_savedShare {g : G0} {j : Nat → Nat → Int64} (d : Nat) {i : Nat → Nat → Int32} (hz : ¬ msu i = 0 → ¬ i 90 5 = 0)  : C g m_X7_savedShare (d + 2) 0 0 false [.ref 89] (mk i j) (rets (some (.double (msh (msu i) (i 90 5)))) (mk (th i 0) j)) := by
  refine C_of (L := [some (.ref 89)]) rfl ?_
  refine L_aload_n_0 dX7_savedShare_0 ?_
  refine V_iconst (v := 0) (by decide) dX7_savedShare_1 ?_
  refine U_putI dX7_savedShare_2 fl_RX7_19 rfl rfl rfl ?_
  refine L_aload_n_0 dX7_savedShare_5 ?_
  refine U_cv1 (d := d + 1) (lkR_RX7_146 rfl dX7_savedShare_6) (k_X7_share _ hz) ⟨pn_X7_share, rfl, (Nat.le_of_ble_eq_true rfl), (Nat.le_of_ble_eq_true rfl), rfl⟩ (⟨_, _, rfl, rfl, rfl⟩) (cfS cf7) (Nat.le_of_ble_eq_true rfl) ?_
  exact V_dret dX7_savedShare_9 rfl (⟨rfl, rfl⟩)
theorem k_X7_append {g : G0} {j : Nat → Nat → Int64} (d : Nat) {i : Nat → Nat → Int32} {x : Int32} (hs : wit x 33 126) {l : Nat} (hl : i 89 5 = nI l) (h60 : l < 60)  : C g m_X7_append (d + 1) 0 0 false [.ref 89, .int x] (mk i j) (rets (some (.int (nI (l + 1)))) (mk (up2 (up2 (th i 0) 92 l x) 89 5 (nI (l + 1))) j)) := by
  refine C_of (L := [some (.ref 89), some (.int x)]) rfl ?_
  refine L_aload_n_0 dX7_append_0 ?_
  refine V_iconst (v := 0) (by decide) dX7_append_1 ?_
  refine U_putI dX7_append_2 fl_RX7_19 rfl rfl rfl ?_
  refine L_iload_n_1 dX7_append_5 ?_
  refine V_bipush (v := 33) (by decide) dX7_append_6 ?_
  refine V_bipush (v := 126) (by decide) dX7_append_8 ?_
  refine U_cv3 (d := d + 0) (lkR_RX7_23 rfl dX7_append_10) (k_X7_within _) ⟨pn_X7_within, rfl, (Nat.le_of_ble_eq_true rfl), (Nat.le_of_ble_eq_true rfl), rfl⟩ (trivial) cfn (Nat.le_of_ble_eq_true rfl) ?_
  refine V_ifx_ne (tgt := 22) dX7_append_13 (by decide) (fun h13 => ?_) (fun h13 => ?_)
  · refine L_aload_n_0 dX7_append_22 ?_
    refine U_getI dX7_append_23 fl_RX7_150 rfl rfl ?_
    refine V_eqv (y := nI l) ((up2_nf (by omega)).trans hl) ?_
    refine V_bipush (v := 60) (by decide) dX7_append_26 ?_
    refine V_icmp_ne (tgt := 37) dX7_append_28 (by decide) (fun h28 => ?_) (fun h28 => ?_)
    · refine L_aload_n_0 dX7_append_37 ?_
      refine U_getR (r := 92) dX7_append_38 fl_RX7_16 rfl rfl rfl ?_
      refine L_aload_n_0 dX7_append_41 ?_
      refine U_getI dX7_append_42 fl_RX7_150 rfl rfl ?_
      refine V_eqv (y := nI l) ((up2_nf (by omega)).trans hl) ?_
      refine L_iload_n_1 dX7_append_45 ?_
      refine U_iast (n := l) dX7_append_46 rfl (rfl) (by omega) (by decide) ?_
      refine L_aload_n_0 dX7_append_47 ?_
      refine V_dup rfl dX7_append_48 ?_
      refine U_getI dX7_append_49 fl_RX7_150 rfl rfl ?_
      refine V_eqv (y := nI l) ((up2_ne (by omega)).trans ((up2_nf (by omega)).trans hl)) ?_
      refine V_iconst (v := 1) (by decide) dX7_append_52 ?_
      refine V_iadd dX7_append_53 ?_
      rw [nI_1]
      refine U_putI dX7_append_54 fl_RX7_150 rfl rfl rfl ?_
      refine L_aload_n_0 dX7_append_57 ?_
      refine U_getI dX7_append_58 fl_RX7_150 rfl rfl ?_
      refine V_eqv (y := nI (l + 1)) up2_eq ?_
      exact V_iret dX7_append_61 rfl rfl (⟨rfl, rfl⟩)
    · exact absurd ((nI_eq (a := l) (b := 60) (by omega) (by omega)).mp h28) (by omega)
  · exact absurd hs (b2z.mp h13)
theorem k_X7_append__1 {g : G0} {j : Nat → Nat → Int64} (d : Nat) {i : Nat → Nat → Int32} {x : Int32} (hs : ¬ wit x 33 126)  : C g m_X7_append (d + 1) 0 0 false [.ref 89, .int x] (mk i j) (rets (some (.int 0)) (mk (th (th i 0) 1) j)) := by
  refine C_of (L := [some (.ref 89), some (.int x)]) rfl ?_
  refine L_aload_n_0 dX7_append_0 ?_
  refine V_iconst (v := 0) (by decide) dX7_append_1 ?_
  refine U_putI dX7_append_2 fl_RX7_19 rfl rfl rfl ?_
  refine L_iload_n_1 dX7_append_5 ?_
  refine V_bipush (v := 33) (by decide) dX7_append_6 ?_
  refine V_bipush (v := 126) (by decide) dX7_append_8 ?_
  refine U_cv3 (d := d + 0) (lkR_RX7_23 rfl dX7_append_10) (k_X7_within _) ⟨pn_X7_within, rfl, (Nat.le_of_ble_eq_true rfl), (Nat.le_of_ble_eq_true rfl), rfl⟩ (trivial) cfn (Nat.le_of_ble_eq_true rfl) ?_
  refine V_ifx_ne (tgt := 22) dX7_append_13 (by decide) (fun h13 => ?_) (fun h13 => ?_)
  · exact absurd (b2p h13) hs
  · refine L_aload_n_0 dX7_append_16 ?_
    refine V_iconst (v := 1) (by decide) dX7_append_17 ?_
    refine U_cv2 (d := d + 0) (lkR_RX7_30 rfl dX7_append_18) (k_X7_fails _) ⟨pn_X7_fails, rfl, (Nat.le_of_ble_eq_true rfl), (Nat.le_of_ble_eq_true rfl), rfl⟩ (⟨_, _, rfl, rfl, rfl⟩) (cfS cf7) (Nat.le_of_ble_eq_true rfl) ?_
    exact V_iret dX7_append_21 rfl rfl (⟨rfl, rfl⟩)
theorem k_X7_append__2 {g : G0} {j : Nat → Nat → Int64} (d : Nat) {i : Nat → Nat → Int32} {x : Int32} (hs : wit x 33 126) (h60 : i 89 5 = 60)  : C g m_X7_append (d + 1) 0 0 false [.ref 89, .int x] (mk i j) (rets (some (.int 0)) (mk (th (th i 0) 2) j)) := by
  refine C_of (L := [some (.ref 89), some (.int x)]) rfl ?_
  refine L_aload_n_0 dX7_append_0 ?_
  refine V_iconst (v := 0) (by decide) dX7_append_1 ?_
  refine U_putI dX7_append_2 fl_RX7_19 rfl rfl rfl ?_
  refine L_iload_n_1 dX7_append_5 ?_
  refine V_bipush (v := 33) (by decide) dX7_append_6 ?_
  refine V_bipush (v := 126) (by decide) dX7_append_8 ?_
  refine U_cv3 (d := d + 0) (lkR_RX7_23 rfl dX7_append_10) (k_X7_within _) ⟨pn_X7_within, rfl, (Nat.le_of_ble_eq_true rfl), (Nat.le_of_ble_eq_true rfl), rfl⟩ (trivial) cfn (Nat.le_of_ble_eq_true rfl) ?_
  refine V_ifx_ne (tgt := 22) dX7_append_13 (by decide) (fun h13 => ?_) (fun h13 => ?_)
  · refine L_aload_n_0 dX7_append_22 ?_
    refine U_getI dX7_append_23 fl_RX7_150 rfl rfl ?_
    refine V_bipush (v := 60) (by decide) dX7_append_26 ?_
    refine V_icmp_ne (tgt := 37) dX7_append_28 (by decide) (fun h28 => ?_) (fun h28 => ?_)
    · exact absurd ((up2_nf (by omega)).trans h60) h28
    · refine L_aload_n_0 dX7_append_31 ?_
      refine V_iconst (v := 2) (by decide) dX7_append_32 ?_
      refine U_cv2 (d := d + 0) (lkR_RX7_30 rfl dX7_append_33) (k_X7_fails _) ⟨pn_X7_fails, rfl, (Nat.le_of_ble_eq_true rfl), (Nat.le_of_ble_eq_true rfl), rfl⟩ (⟨_, _, rfl, rfl, rfl⟩) (cfS cf7) (Nat.le_of_ble_eq_true rfl) ?_
      exact V_iret dX7_append_36 rfl rfl (⟨rfl, rfl⟩)
  · exact absurd hs (b2z.mp h13)
theorem k_X7_clearText {g : G0} {j : Nat → Nat → Int64} (d : Nat) {i : Nat → Nat → Int32}  : C g m_X7_clearText (d + 0) 0 0 false [.ref 89] (mk i j) (rets (some (.int (i 89 5))) (mk (up2 (th i 0) 89 5 0) j)) := by
  refine C_of (L := [some (.ref 89), none]) rfl ?_
  refine L_aload_n_0 dX7_clearText_0 ?_
  refine V_iconst (v := 0) (by decide) dX7_clearText_1 ?_
  refine U_putI dX7_clearText_2 fl_RX7_19 rfl rfl rfl ?_
  refine L_aload_n_0 dX7_clearText_5 ?_
  refine U_getI dX7_clearText_6 fl_RX7_150 rfl rfl ?_
  refine V_istore_n_1 dX7_clearText_9 (Nat.le_of_ble_eq_true rfl) rfl ?_
  refine L_aload_n_0 dX7_clearText_10 ?_
  refine V_iconst (v := 0) (by decide) dX7_clearText_11 ?_
  refine U_putI dX7_clearText_12 fl_RX7_150 rfl rfl rfl ?_
  refine L_iload_n_1 dX7_clearText_15 ?_
  exact V_iret dX7_clearText_16 rfl rfl (⟨rfl, rfl⟩)
theorem k_X7_firstError {g : G0} {j : Nat → Nat → Int64} (d : Nat) {i : Nat → Nat → Int32} {l : Nat} (hl : i 89 5 = nI l) (h60 : l ≤ 60)  : C g m_X7_firstError (d + 4) 0 0 false [.ref 89] (mk i j) (rets (some (.int (if feR (th i 0) l = -1 then nI l else feR (th i 0) l))) (mk (feM (th i 0) (fe (th i 0) l (l + 1) 0 (th i 0 89 8))) j)) := by
  refine C_of (L := [some (.ref 89), none]) rfl ?_
  refine L_aload_n_0 dX7_firstError_0 ?_
  refine V_iconst (v := 0) (by decide) dX7_firstError_1 ?_
  refine U_putI dX7_firstError_2 fl_RX7_19 rfl rfl rfl ?_
  refine L_aload_n_0 dX7_firstError_5 ?_
  refine U_cv1 (d := d + 3) (lkR_RX7_171 rfl dX7_firstError_6) (k_X7_findError _ ((up2_nf (by omega)).trans hl) h60) ⟨pn_X7_findError, rfl, (Nat.le_of_ble_eq_true rfl), (Nat.le_of_ble_eq_true rfl), rfl⟩ (⟨_, _, rfl, rfl, rfl⟩) (cfS cf7) (Nat.le_of_ble_eq_true rfl) ?_
  refine V_istore_n_1 dX7_firstError_9 (Nat.le_of_ble_eq_true rfl) rfl ?_
  refine L_iload_n_1 dX7_firstError_10 ?_
  refine V_iconst (v := (-1)) (by decide) dX7_firstError_11 ?_
  refine V_icmp_ne (tgt := 22) dX7_firstError_12 (by decide) (fun h12 => ?_) (fun h12 => ?_)
  · refine L_iload_n_1 dX7_firstError_22 ?_
    exact V_iret dX7_firstError_23 rfl rfl (rtI (if_neg h12).symm)
  · refine L_aload_n_0 dX7_firstError_15 ?_
    refine U_getI dX7_firstError_16 fl_RX7_150 rfl rfl ?_
    refine V_eqv (y := nI l) ((psto (by omega)).trans ((up2_nf (by omega)).trans hl)) ?_
    refine V_goto (tgt := 23) dX7_firstError_19 (by decide) ?_
    exact V_iret dX7_firstError_23 rfl rfl (rtI (if_pos h12).symm)
